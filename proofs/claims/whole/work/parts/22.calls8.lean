def zcom (k : Int32) : Int32 := if k = 1 then 0 else if k = 4 then 0 else if k = 2 then 1 else if k = 3 then 2 else -1
theorem e_X11_commonOf (F : Nat) (σ : zMem) (k : Int32) : f_X11_commonOf F σ k = some (zcom k, σ) := by
  unfold f_X11_commonOf zcom
  by_cases h1 : k = 1
  · simp [h1]
  by_cases h2 : k = 4
  · simp [h2]
  by_cases h3 : k = 2
  · simp [h3]
  by_cases h4 : k = 3 <;> simp [h1, h2, h3, h4]
theorem zk6 {k : Int32} (h0 : 0 ≤ k) (h1 : k ≤ 5) : ∃ j, j < 6 ∧ k = nI j := by
  obtain ⟨j, hj, rfl⟩ := nI_of (x := k) (fun q => by
    rw [Int32.le_iff_toInt_le] at h0
    rw [Int32.lt_iff_toInt_lt] at q
    omega)
  have := (nI_leI (a := j) (b := 5) hj (by omega)).mp h1
  exact ⟨j, by omega, rfl⟩
theorem e_X3_commonOf {σ : zMem} {r : Nat} (F : Nat) (hr : r < 50) (h0 : 0 ≤ σ.1 6 0 r) (h1 : σ.1 6 0 r ≤ 5) : f_X3_commonOf F σ (nI r) = some (zcom (σ.1 6 0 r), σ) := by
  obtain ⟨j, hj, e⟩ := zk6 h0 h1
  unfold f_X3_commonOf
  rw [zg_i (inb_n hr (by omega)), nI_clamp (by omega), e, zg_i (inb_n hj (by omega)), nI_clamp (by omega)]
  rcases j with _ | _ | _ | _ | _ | _ | j
  · rfl
  · rfl
  · rfl
  · rfl
  · rfl
  · rfl
  · omega
theorem e_X3_isLent {σ : zMem} {r : Nat} (F : Nat) (hr : r < 50) (t : Int32) : f_X3_isLent F σ (nI r) t = some (if σ.1 10 0 r ≤ t then 0 else 1, σ) := by
  unfold f_X3_isLent
  rw [zg_i (inb_n hr (by omega)), nI_clamp (by omega)]
  by_cases h : σ.1 10 0 r ≤ t <;> simp [h]
theorem e_X11_lent {σ : zMem} {r : Nat} (F : Nat) (hr : r < 50) : f_X11_lent F σ (nI r) = some (if σ.1 77 0 r ≤ σ.1 60 0 0 then 0 else 1, σ) := by
  unfold f_X11_lent
  rw [zg_i (inb_n hr (by omega)), nI_clamp (by omega)]
  by_cases h : σ.1 77 0 r ≤ σ.1 60 0 0 <;> simp [h]
def zho (σ : zMem) (r : Nat) : Int32 := if σ.1 77 0 r ≤ σ.1 60 0 0 then σ.1 74 0 r else σ.1 76 0 r
theorem zlent {σ : zMem} (hR : zRel σ) {r : Nat} (hr : r < 50) : (σ.1 10 0 r ≤ σ.1 0 0 11 ↔ σ.1 77 0 r ≤ σ.1 60 0 0) ∧ (¬ σ.1 77 0 r ≤ σ.1 60 0 0 → σ.1 10 0 r = σ.1 77 0 r ∧ σ.1 9 0 r = σ.1 76 0 r) := by
  obtain ⟨⟨d, hd, e1⟩, e2, -⟩ := id hR.2.2.2.2.1
  have e2 := e2.trans e1
  rcases (hR.2.1.2.2.1 r hr).2.2.2 with ⟨g1, g2⟩ | ⟨g1, g2⟩
  · rw [e1, e2, g1]
    exact ⟨Iff.rfl, fun _ => ⟨rfl, g2⟩⟩
  · rw [e1, e2, g1, g2]
    have l1 : (0 : Int32) ≤ nI d := nI_pos' (by omega)
    have l2 : (-1 : Int32) ≤ nI d := by
      rw [Int32.le_iff_toInt_le, nI_toInt (by omega)]
      have : (-1 : Int32).toInt = -1 := by decide
      omega
    exact ⟨⟨fun _ => l2, fun _ => l1⟩, fun q => absurd l2 q⟩
theorem e_X3_holder {σ : zMem} (hR : zRel σ) {r : Nat} (F : Nat) (hr : r < 50) : f_X3_holder F σ (nI r) (σ.1 0 0 11) = some (zho σ r, σ) := by
  obtain ⟨g1, g2⟩ := zlent hR hr
  have q := (hR.2.1.2.2.1 r hr).2.1
  unfold f_X3_holder zho
  rw [e_X3_isLent F hr, zb_s, zg_i (inb_n hr (by omega)), zg_i (inb_n hr (by omega)), nI_clamp (by omega)]
  by_cases h : σ.1 77 0 r ≤ σ.1 60 0 0
  · rw [if_pos h, if_pos (g1.mpr h), if_pos rfl, q]
  · rw [if_neg h, if_neg (fun k => h (g1.mp k)), if_neg (by decide), (g2 h).2]
theorem e_X11_holder {σ : zMem} {r : Nat} (F : Nat) (hr : r < 50) : f_X11_holder F σ (nI r) = some (zho σ r, σ) := by
  unfold f_X11_holder zho
  rw [e_X11_lent F hr, zb_s, zg_i (inb_n hr (by omega)), zg_i (inb_n hr (by omega)), nI_clamp (by omega)]
  by_cases h : σ.1 77 0 r ≤ σ.1 60 0 0
  · rw [if_pos h, if_pos h, if_pos rfl]
  · rw [if_neg h, if_neg h, if_neg (by decide)]
theorem a_rightOf {σ : zMem} (hR : zRel σ) (F : Nat) (x y : Int32) : zOK (fun σ => f_X10_rightOf F σ x y) (fun σ => f_X11_rightOf F σ x y) σ := by
  obtain ⟨⟨n, hn, e1, f1⟩, e2, g3, g4⟩ := id hR.2.1
  have e2 := e2.trans e1
  rcases zix (n := n) (by omega) x with ⟨r, hr, rfl, b1, b2, b3, b4⟩ | ⟨_, b⟩
  · have i1 := inb_n (show r < 50 by omega) (by omega)
    have i2 := nI_clamp (show r < 2 ^ 31 by omega)
    obtain ⟨q1, q2, q3, -⟩ := g3 r (by omega)
    obtain ⟨k1, k2, -⟩ := g4 r (by omega)
    obtain ⟨t1, t2⟩ := zlent hR (show r < 50 by omega)
    have u1 := e_X3_holder hR F (show r < 50 by omega)
    have u2 := e_X11_holder (σ := σ) F (show r < 50 by omega)
    have u3 := e_X3_commonOf (σ := σ) (r := r) F (by omega) (by rw [q1]; exact k1) (by rw [q1]; exact k2)
    have u4 := e_X3_isLent (σ := σ) (r := r) F (by omega) (σ.1 0 0 11)
    have u5 := e_X11_lent (σ := σ) (r := r) F (by omega)
    by_cases ho : y.toInt < 0 ∨ 5 < y.toInt
    · refine zOK_same hR (-5) ?_ ?_
      · simp only [f_X10_rightOf]
        rw [e_X3_has e1 F b1 b2]
        simp [zb, ho]
      · simp only [f_X11_rightOf]
        rw [e_X11_isRight e2 F b1 b3]
        simp [zb, ho]
    obtain ⟨k, hk, rfl⟩ := zlit (m := 5) (by omega) ho
    rcases k with _ | _ | _ | _ | _ | _ | k
    · show zOK (fun σ => f_X10_rightOf F σ (nI r) 0) (fun σ => f_X11_rightOf F σ (nI r) 0) σ
      refine zOK_same hR (σ.1 73 0 r) ?_ ?_
      · simp only [f_X10_rightOf]
        rw [e_X3_has e1 F b1 b2]
        simp [zb, zg, i1, i2, q1]
      · simp only [f_X11_rightOf]
        rw [e_X11_isRight e2 F b1 b3]
        simp [zb, zg, i1, i2]
    · show zOK (fun σ => f_X10_rightOf F σ (nI r) 1) (fun σ => f_X11_rightOf F σ (nI r) 1) σ
      refine zOK_same hR (σ.1 74 0 r) ?_ ?_
      · simp only [f_X10_rightOf]
        rw [e_X3_has e1 F b1 b2]
        simp [zb, zg, i1, i2, q2]
      · simp only [f_X11_rightOf]
        rw [e_X11_isRight e2 F b1 b3]
        simp [zb, zg, i1, i2]
    · show zOK (fun σ => f_X10_rightOf F σ (nI r) 2) (fun σ => f_X11_rightOf F σ (nI r) 2) σ
      refine zOK_same hR (σ.1 75 0 r) ?_ ?_
      · simp only [f_X10_rightOf]
        rw [e_X3_has e1 F b1 b2]
        simp [zb, zg, i1, i2, q3]
      · simp only [f_X11_rightOf]
        rw [e_X11_isRight e2 F b1 b3]
        simp [zb, zg, i1, i2]
    · show zOK (fun σ => f_X10_rightOf F σ (nI r) 3) (fun σ => f_X11_rightOf F σ (nI r) 3) σ
      refine zOK_same hR (zho σ r) ?_ ?_
      · simp only [f_X10_rightOf]
        rw [e_X3_has e1 F b1 b2]
        simp [zb, zg, i1, i2, u1]
      · simp only [f_X11_rightOf]
        rw [e_X11_isRight e2 F b1 b3]
        simp [zb, zg, i1, i2, u2]
    · show zOK (fun σ => f_X10_rightOf F σ (nI r) 4) (fun σ => f_X11_rightOf F σ (nI r) 4) σ
      refine zOK_same hR (zcom (σ.1 73 0 r)) ?_ ?_
      · simp only [f_X10_rightOf]
        rw [e_X3_has e1 F b1 b2]
        simp [zb, zg, i1, i2, u3, q1]
      · simp only [f_X11_rightOf]
        rw [e_X11_isRight e2 F b1 b3]
        simp [zb, zg, i1, i2, e_X11_commonOf]
    · show zOK (fun σ => f_X10_rightOf F σ (nI r) 5) (fun σ => f_X11_rightOf F σ (nI r) 5) σ
      by_cases h : σ.1 77 0 r ≤ σ.1 60 0 0
      · refine zOK_same hR (-1) ?_ ?_
        · simp only [f_X10_rightOf]
          rw [e_X3_has e1 F b1 b2]
          simp [zb, zg, i1, i2, u4, t1.mpr h]
        · simp only [f_X11_rightOf]
          rw [e_X11_isRight e2 F b1 b3]
          simp [zb, zg, i1, i2, u5, h]
      · have h9 : ¬ σ.1 10 0 r ≤ σ.1 0 0 11 := fun k => h (t1.mp k)
        refine zOK_same hR (σ.1 77 0 r) ?_ ?_
        · simp only [f_X10_rightOf]
          rw [e_X3_has e1 F b1 b2, zb_s]
          simp only [u4, if_neg h9]
          simp [zb, zg, i1, i2, (t2 h).1]
        · simp only [f_X11_rightOf]
          rw [e_X11_isRight e2 F b1 b3, zb_s]
          simp only [u5, if_neg h]
          simp [zb, zg, i1, i2]
    · omega
  · refine zOK_same hR (-5) ?_ ?_
    · simp only [f_X10_rightOf]
      rw [n_X3_has e1 F b]
      simp [zb]
    · simp only [f_X11_rightOf]
      rw [n_X11_isRight e2 F b]
      simp [zb]
