theorem e_X3_enter {σ : zMem} {n : Nat} (hn : n < 50) (e : σ.1 5 0 5 = nI n) (F : Nat) (k h p : Int32) : f_X3_enter F σ k h p = some (nI n, zwi (zwi (zwi (zwi σ 6 0 n k) 7 0 n h) 8 0 n p) 5 0 5 (nI n + 1)) := by
  have i1 := inb_n hn (by omega)
  have i2 := nI_clamp (show n < 2 ^ 31 by omega)
  simp [f_X3_enter, zwi, zu, e, i1, i2, zg]
theorem e_X11_newRight {σ : zMem} {n : Nat} (hn : n < 50) (e : σ.1 60 0 12 = nI n) (F : Nat) (h k p : Int32) : f_X11_newRight F σ h k p = some (nI n, zwi (zwi (zwi (zwi (zwi σ 73 0 n k) 74 0 n h) 75 0 n p) 77 0 n (-1)) 60 0 12 (nI n + 1)) := by
  have i1 := inb_n hn (by omega)
  have i2 := nI_clamp (show n < 2 ^ 31 by omega)
  simp [f_X11_newRight, zwi, zu, e, i1, i2, zg]
theorem zsz_c {f g : Nat → Int} : ∀ {n : Nat}, (∀ i, i < n → f i = g i) → zsz f n = zsz g n
  | 0, _ => rfl
  | n + 1, h => by
    show zsz f n + f n = zsz g n + g n
    rw [zsz_c (fun i hi => h i (by omega)), h n (by omega)]
theorem zsz_u (f : Nat → Int) {k : Nat} : ∀ {n : Nat}, k < n → ∀ v : Int, zsz (fun r => if r = k then v else f r) n = zsz f n - f k + v
  | 0, h, _ => by omega
  | n + 1, h, v => by
    show zsz (fun r => if r = k then v else f r) n + (if n = k then v else f n) = zsz f n + f n - f k + v
    by_cases e : n = k
    · subst e
      rw [if_pos rfl, zsz_c (g := f) (fun i hi => if_neg (by omega))]
      omega
    · rw [if_neg e, zsz_u f (by omega) v]
      omega
/-- a new right on both sides -/
theorem p_right {σ : zMem} (hR : zRel σ) {n : Nat} (hn : n < 50) (e : σ.1 5 0 5 = nI n) {k h p : Int32} (k0 : 0 ≤ k) (k1 : k ≤ 5) (p0 : 0 ≤ p) (ps : zsz (fun r => (σ.1 75 0 r).toInt) 50 + p.toInt ≤ 999 * ((n : Int) + 1)) : zRel (zwi (zwi (zwi (zwi (zwi (zwi (zwi (zwi (zwi σ 6 0 n k) 7 0 n h) 8 0 n p) 5 0 5 (nI n + 1)) 73 0 n k) 74 0 n h) 75 0 n p) 77 0 n (-1)) 60 0 12 (nI n + 1)) := by
  have hr0 := hR.2.1
  obtain ⟨hh, hr, hw, hk, ha, hd, hl, hc, ht, hb, hQ⟩ := hR
  refine ⟨?_, ?_, ?_, ?_, ?_, ?_, ?_, ?_, ?_, ?_, ?_⟩
  · simpa [zRh, zwi, zu] using hh
  · obtain ⟨⟨m, hm, em, f1⟩, p2, p3, p4⟩ := hr
    have hmn : m = n := (nI_eq (by omega) (by omega)).mp (em.symm.trans e)
    subst hmn
    refine ⟨⟨m + 1, by omega, by simp [zwi, zu, nI_1], fun z z1 z2 => ?_⟩, by simp [zwi, zu], fun z hz => ?_, fun z hz => ?_⟩
    · simpa [zwi, zu] using f1 z (by omega) z2
    · have := p3 z hz
      by_cases q : z = m
      · subst q
        have f0 := f1 z (by omega) hz
        simp [zwi, zu, f0]
      · simpa [zwi, zu, q] using this
    · have := p4 z hz
      by_cases q : z = m
      · subst q
        simp [zwi, zu]
        exact ⟨k0, k1, p0⟩
      · simpa [zwi, zu, q] using this
  · simpa [zRw, zwi, zu] using hw
  · simpa [zRk, zwi, zu] using hk
  · simpa [zRa, zwi, zu] using ha
  · simpa [zRd, zwi, zu] using hd
  · simpa [zRl, zwi, zu] using hl
  · simpa [zRc, zwi, zu] using hc
  · simpa [zRt, zwi, zu] using ht
  · simpa [zRb, zwi, zu] using hb
  · obtain ⟨y1, y2, y3, y4, y5, y6, y7, y8, y9, y10⟩ := hQ
    refine ⟨by simpa [zwi, zu] using y1, by simpa [zwi, zu] using y2, by simpa [zwi, zu] using y3, ?_, by simpa [zwi, zu] using y5, by simpa [zwi, zu] using y6, by simpa [zwi, zu] using y7, by simpa [zwi, zu] using y8, by simpa [zwi, zu] using y9, by simpa [zwi, zu] using y10⟩
    · have k1 := zsz_u (fun r => (σ.1 75 0 r).toInt) (k := n) (n := 50) hn p.toInt
      have k2 := (hr0.2.2.2 n hn).2.2
      rw [Int32.le_iff_toInt_le] at k2
      have k4 : (0 : Int32).toInt = 0 := rfl
      have k3 : (fun r => ((zwi (zwi (zwi (zwi (zwi (zwi (zwi (zwi (zwi σ 6 0 n k) 7 0 n h) 8 0 n p) 5 0 5 (nI n + 1)) 73 0 n k) 74 0 n h) 75 0 n p) 77 0 n (-1)) 60 0 12 (nI n + 1)).1 75 0 r).toInt) = fun r => if r = n then p.toInt else (σ.1 75 0 r).toInt := by
        funext r
        by_cases e : r = n
        · subst e
          simp [zwi, zu]
        · simp [zwi, zu, e]
      have k9 : (zwi (zwi (zwi (zwi (zwi (zwi (zwi (zwi (zwi σ 6 0 n k) 7 0 n h) 8 0 n p) 5 0 5 (nI n + 1)) 73 0 n k) 74 0 n h) 75 0 n p) 77 0 n (-1)) 60 0 12 (nI n + 1)).1 60 0 12 = nI n + 1 := by simp [zwi, zu]
      rw [k3, k1, k9, nI_1, nI_toInt (by omega)]
      omega
theorem a_right {σ : zMem} (hR : zRel σ) (F : Nat) (x k v : Int32) : zOK (fun σ => f_X10_right F σ x k v) (fun σ => f_X11_right F σ x k v) σ := by
  obtain ⟨nh, hnh, h1, h2⟩ := zRh_n hR.1
  obtain ⟨⟨n, hn, e1, f1⟩, e2, -⟩ := id hR.2.1
  have e2 := e2.trans e1
  rcases zix (n := nh) (by omega) x with ⟨h, hh9, rfl, a1, a2, a3, a4⟩ | ⟨_, a⟩
  · rcases zix (n := 6) (by omega) k with ⟨j, hj, rfl, c1, c2, c3, c4⟩ | ⟨_, c⟩
    · have c2' : ¬ (6 : Int32) ≤ nI j := c2
      have c3' : ¬ (5 : Int32) < nI j := c3
      by_cases j4 : nI j = 4
      · refine zOK_same hR (-2) ?_ ?_
        · simp only [f_X10_right]
          rw [e_X10_isHouse h1 F a1 a2]
          simp [zb, j4, show ¬ (4 : Int32) < 0 by decide, show ¬ (6 : Int32) ≤ 4 by decide]
        · simp only [f_X11_right]
          rw [e_X11_isHouse h2 F a1 a3]
          simp [zb, e_X11_in, j4, show ¬ (4 : Int32) < 0 by decide, show ¬ (5 : Int32) < 4 by decide]
      by_cases v1 : v < 1
      · refine zOK_same hR (-2) ?_ ?_
        · simp only [f_X10_right]
          rw [e_X10_isHouse h1 F a1 a2]
          simp [zb, c1, c2', j4, v1]
        · simp only [f_X11_right]
          rw [e_X11_isHouse h2 F a1 a3]
          simp [zb, e_X11_in, c1, c3', j4, v1]
      by_cases v2 : 999 < v
      · refine zOK_same hR (-2) ?_ ?_
        · simp only [f_X10_right]
          rw [e_X10_isHouse h1 F a1 a2]
          simp [zb, c1, c2', j4, v1, Int32.not_le.mpr v2]
        · simp only [f_X11_right]
          rw [e_X11_isHouse h2 F a1 a3]
          simp [zb, e_X11_in, c1, c3', j4, v1, v2]
      by_cases n50 : n = 50
      · subst n50
        refine zOK_same hR (-4) ?_ ?_
        · simp only [f_X10_right]
          rw [e_X10_isHouse h1 F a1 a2]
          simp [zb, c1, c2', j4, v1, Int32.not_lt.mp v2, e1, show ¬ nI 50 < 50 by decide]
        · simp only [f_X11_right]
          rw [e_X11_isHouse h2 F a1 a3]
          simp [zb, e_X11_in, c1, c3', j4, v1, v2, e2, show nI 50 = 50 by rfl]
      have d1 : nI n < 50 := (nI_ltI (a := n) (b := 50) (by omega) (by omega)).mpr (by omega)
      have d2 : ¬ nI n = 50 := fun q => n50 ((nI_eq (a := n) (b := 50) (by omega) (by omega)).mp q)
      have v0 : (0 : Int32) ≤ v := by
        rw [Int32.le_iff_toInt_le]
        have := Int32.not_lt.mp v1
        rw [Int32.le_iff_toInt_le] at this
        have z1 : (1 : Int32).toInt = 1 := by decide
        have z0 : (0 : Int32).toInt = 0 := by decide
        omega
      have r1 := e_X3_enter (σ := σ) (n := n) (by omega) e1 F (nI j) (nI h) v
      have r2 := e_X11_newRight (σ := zwi (zwi (zwi (zwi σ 6 0 n (nI j)) 7 0 n (nI h)) 8 0 n v) 5 0 5 (nI n + 1)) (n := n) (by omega) (by simpa [zwi, zu] using e2) F (nI h) (nI j) v
      refine zOK_i (nI n) (zwi (zwi (zwi (zwi σ 6 0 n (nI j)) 7 0 n (nI h)) 8 0 n v) 5 0 5 (nI n + 1)) (zwi (zwi (zwi (zwi (zwi (zwi (zwi (zwi (zwi σ 6 0 n (nI j)) 7 0 n (nI h)) 8 0 n v) 5 0 5 (nI n + 1)) 73 0 n (nI j)) 74 0 n (nI h)) 75 0 n v) 77 0 n (-1)) 60 0 12 (nI n + 1)) ?_ ?_ (p_right hR (by omega) e1 (k := nI j) (h := nI h) (p := v) (Int32.not_lt.mp c1) (Int32.not_lt.mp c3') v0 (by have q1 := hR.2.2.2.2.2.2.2.2.2.2.2.2.2.1; have q2 := (zib_i v1 v2 (A := 1) (B := 999) (by decide) (by decide)).2; rw [e2, nI_toInt (by omega)] at q1; omega))
      · simp only [f_X10_right]
        rw [e_X10_isHouse h1 F a1 a2]
        simp only [zb]
        simp only [show ¬ (1 : Int32) = 0 by decide, if_false, c1, c2', j4, v1, Int32.not_lt.mp v2, if_true, e1, d1, r1]
      · simp only [f_X11_right]
        rw [e_X11_isHouse (by simpa [zwi, zu] using h2) F a1 a3]
        simp only [zb, e_X11_in]
        have e2' : (zwi (zwi (zwi (zwi σ 6 0 n (nI j)) 7 0 n (nI h)) 8 0 n v) 5 0 5 (nI n + 1)).1 60 0 12 = nI n := by simpa [zwi, zu] using e2
        simp only [show ¬ (1 : Int32) = 0 by decide, if_false, c1, c3', j4, v1, v2, e2', d2, r2]
    · rcases c with c | ⟨c0, c1, c2, c3⟩
      · refine zOK_same hR (-2) ?_ ?_
        · simp only [f_X10_right]
          rw [e_X10_isHouse h1 F a1 a2]
          simp [zb, c]
        · simp only [f_X11_right]
          rw [e_X11_isHouse h2 F a1 a3]
          simp [zb, e_X11_in, c]
      · have c1' : (6 : Int32) ≤ k := c1
        have c2' : (5 : Int32) < k := c2
        refine zOK_same hR (-2) ?_ ?_
        · simp only [f_X10_right]
          rw [e_X10_isHouse h1 F a1 a2]
          simp [zb, c0, c1']
        · simp only [f_X11_right]
          rw [e_X11_isHouse h2 F a1 a3]
          simp [zb, e_X11_in, c0, c2']
  · refine zOK_same hR (-1) ?_ ?_
    · simp only [f_X10_right]
      rw [n_X10_isHouse h1 F a]
      simp [zb]
    · simp only [f_X11_right]
      rw [n_X11_isHouse h2 F a]
      simp [zb]
