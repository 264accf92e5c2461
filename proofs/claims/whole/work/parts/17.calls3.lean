theorem e_X11_upOf {σ : zMem} {F h n : Nat} (hF : 100 < F) (hh : h < 10) (hn : n ≤ 4) (e : σ.1 60 0 25 = nI n) (eu : σ.1 60 0 11 = 71) : f_X11_upOf F σ (nI h) = some (zsum (fun a => σ.1 72 a h) n, σ) := by
  unfold f_X11_upOf
  refine zit_for (S := fun i => (σ, (nI h, zsum (fun a => σ.1 72 a h) i, nI i))) _ n 0 F (fun j _ hj rec => ?_) (fun rec => ?_) (by omega)
  · unfold f_X11_upOf_4
    simp only
    rw [e, if_neg (fun q => by have := (nI_leI (a := n) (b := j) (by omega) (by omega)).mp q; omega), eu]
    have t : (71 : Int32).toNatClampNeg = 71 := by decide
    rw [t, zg_i (by rfl), zg_i (inb_n (by omega) (by omega)), zg_i (inb_n (by omega) (by omega)), nI_clamp (by omega), nI_clamp (by omega), nI_1]
    rfl
  · unfold f_X11_upOf_4
    simp only
    rw [e, if_pos (by rw [Nat.zero_add]; exact (nI_leI (by omega) (by omega)).mpr (Nat.le_refl _)), Nat.zero_add]
theorem zup_eq {σ : zMem} (hR : zRel σ) {h n : Nat} (hh : h < 10) (hn : n ≤ 4) (e : σ.1 25 0 4 = nI n) : zsum (fun a => σ.1 72 a h) n = zup σ h := by
  obtain ⟨-, -, ⟨m, hm, em, hz⟩, -⟩ := hR.2.2.2.2.1
  have hmn : m = n := (nI_eq (by omega) (by omega)).mp (em.symm.trans e)
  subst hmn
  have hu := hR.1.2.2.2.2.1 h
  have z0 := hz h
  unfold zup
  rw [hu 0 hh (by omega), hu 1 hh (by omega), hu 2 hh (by omega), hu 3 hh (by omega)]
  have q := fun a => z0 a hh
  rcases m with _ | _ | _ | _ | _ | m
  · simp [zsum, q 0 (by omega) (by omega), q 1 (by omega) (by omega), q 2 (by omega) (by omega), q 3 (by omega) (by omega)]
  · simp [zsum, q 1 (by omega) (by omega), q 2 (by omega) (by omega), q 3 (by omega) (by omega)]
  · simp [zsum, q 2 (by omega) (by omega), q 3 (by omega) (by omega)]
  · simp [zsum, q 3 (by omega) (by omega)]
  · rfl
  · omega
theorem zlit {x : Int32} {m : Nat} (hm : m < 1000) (h : ¬ (x.toInt < 0 ∨ (m : Int) < x.toInt)) : ∃ k, k ≤ m ∧ x = nI k := by
  have h0 : ¬ x < 0 := fun q => h (Or.inl (by simpa using Int32.lt_iff_toInt_lt.mp q))
  obtain ⟨j, hj, rfl⟩ := nI_of h0
  rw [nI_toInt hj] at h
  exact ⟨j, by omega, rfl⟩
theorem a_told {σ : zMem} (hR : zRel σ) {F : Nat} (hF : 100 < F) (x y : Int32) : zOK (fun σ => f_X10_told F σ x y) (fun σ => f_X11_told F σ x y) σ := by
  obtain ⟨n, hn, e1, e2⟩ := zRh_n hR.1
  obtain ⟨-, -, ⟨m, hm, em, -⟩, em2, -⟩ := id hR.2.2.2.2.1
  have em2 := em2.trans em
  have eu := hR.1.2.2.2.2.2
  rcases zix (n := n) (by omega) x with ⟨h, hh, rfl, b1, b2, b3, b4⟩ | ⟨_, b⟩
  · have i1 := inb_n (show h < 10 by omega) (by omega)
    have i2 := nI_clamp (show h < 2 ^ 31 by omega)
    have q := hR.1.2.2.2.1 h (by omega)
    have p := fun j => hR.1.2.2.1 h j (by omega)
    obtain ⟨q1, q2, q3, q4, q5, q6, q7, q8, q9⟩ := q
    have u1 := e_X11_upOf (σ := σ) (h := h) hF (by omega) hm em2 eu
    rw [zup_eq hR (by omega) hm em] at u1
    have u2 := e_X2_allUp (σ := σ) (F := F) (h := h) hF (by omega)
    by_cases ho : y.toInt < 0 ∨ 12 < y.toInt
    · refine zOK_same hR (-5) ?_ ?_
      · simp only [f_X10_told]
        rw [e_X10_isHouse e1 F b1 b2]
        simp [zb, zg, i1, ho]
      · simp only [f_X11_told]
        rw [e_X11_isHouse e2 F b1 b3]
        simp [zb, ho]
    · obtain ⟨k, hk, rfl⟩ := zlit (m := 12) (by omega) ho
      have t0 : inb 0 4 = true ∧ inb 1 4 = true ∧ inb 2 4 = true ∧ inb 3 4 = true ∧ inb 0 5 = true ∧ inb 1 5 = true ∧ inb 2 5 = true ∧ inb 3 5 = true ∧ inb 4 5 = true := by decide
      obtain ⟨t1, t2, t3, t4, t5, t6, t7, t8, t9⟩ := t0
      rcases k with _ | _ | _ | _ | _ | _ | _ | _ | _ | _ | _ | _ | _ | k
      · show zOK (fun σ => f_X10_told F σ (nI h) 0) (fun σ => f_X11_told F σ (nI h) 0) σ
        refine zOK_same hR (σ.1 62 h 0) ?_ ?_
        · simp only [f_X10_told]
          rw [e_X10_isHouse e1 F b1 b2]
          simp [zb, zg, i1, i2, t1, p 0 (by omega)]
        · simp only [f_X11_told]
          rw [e_X11_isHouse e2 F b1 b3]
          simp [zb, zg, i1, i2, f_X11_told_80, t5]
      · show zOK (fun σ => f_X10_told F σ (nI h) 1) (fun σ => f_X11_told F σ (nI h) 1) σ
        refine zOK_same hR (σ.1 62 h 1) ?_ ?_
        · simp only [f_X10_told]
          rw [e_X10_isHouse e1 F b1 b2]
          simp [zb, zg, i1, i2, t2, p 1 (by omega)]
        · simp only [f_X11_told]
          rw [e_X11_isHouse e2 F b1 b3]
          simp [zb, zg, i1, i2, f_X11_told_80, t6]
      · show zOK (fun σ => f_X10_told F σ (nI h) 2) (fun σ => f_X11_told F σ (nI h) 2) σ
        refine zOK_same hR (σ.1 62 h 2) ?_ ?_
        · simp only [f_X10_told]
          rw [e_X10_isHouse e1 F b1 b2]
          simp [zb, zg, i1, i2, t3, p 2 (by omega)]
        · simp only [f_X11_told]
          rw [e_X11_isHouse e2 F b1 b3]
          simp [zb, zg, i1, i2, f_X11_told_80, t7]
      · show zOK (fun σ => f_X10_told F σ (nI h) 3) (fun σ => f_X11_told F σ (nI h) 3) σ
        refine zOK_same hR (σ.1 62 h 3) ?_ ?_
        · simp only [f_X10_told]
          rw [e_X10_isHouse e1 F b1 b2]
          simp [zb, zg, i1, i2, t4, p 3 (by omega)]
        · simp only [f_X11_told]
          rw [e_X11_isHouse e2 F b1 b3]
          simp [zb, zg, i1, i2, f_X11_told_80, t8]
      · show zOK (fun σ => f_X10_told F σ (nI h) 4) (fun σ => f_X11_told F σ (nI h) 4) σ
        refine zOK_same hR (σ.1 62 h 4) ?_ ?_
        · simp only [f_X10_told]
          rw [e_X10_isHouse e1 F b1 b2]
          simp [zb, zg, i1, i2, q1]
        · simp only [f_X11_told]
          rw [e_X11_isHouse e2 F b1 b3]
          simp [zb, zg, i1, i2, f_X11_told_80, t9]
      · show zOK (fun σ => f_X10_told F σ (nI h) 5) (fun σ => f_X11_told F σ (nI h) 5) σ
        refine zOK_same hR (σ.1 62 h 2 - zup σ h) ?_ ?_
        · simp only [f_X10_told]
          rw [e_X10_isHouse e1 F b1 b2]
          simp [zb, zg, i1, i2, f_X2_atHome, t3, u2, p 2 (by omega), show h < 10 by omega]
        · simp only [f_X11_told]
          rw [e_X11_isHouse e2 F b1 b3]
          simp [zb, zg, i1, i2, t7, u1]
      · show zOK (fun σ => f_X10_told F σ (nI h) 6) (fun σ => f_X11_told F σ (nI h) 6) σ
        refine zOK_same hR (σ.1 63 0 h) ?_ ?_
        · simp only [f_X10_told]
          rw [e_X10_isHouse e1 F b1 b2]
          simp [zb, zg, i1, i2, q2]
        · simp only [f_X11_told]
          rw [e_X11_isHouse e2 F b1 b3]
          simp [zb, zg, i1, i2]
      · show zOK (fun σ => f_X10_told F σ (nI h) 7) (fun σ => f_X11_told F σ (nI h) 7) σ
        refine zOK_same hR (σ.1 64 0 h) ?_ ?_
        · simp only [f_X10_told]
          rw [e_X10_isHouse e1 F b1 b2]
          simp [zb, zg, i1, i2, q3]
        · simp only [f_X11_told]
          rw [e_X11_isHouse e2 F b1 b3]
          simp [zb, zg, i1, i2]
      · show zOK (fun σ => f_X10_told F σ (nI h) 8) (fun σ => f_X11_told F σ (nI h) 8) σ
        refine zOK_same hR (σ.1 65 0 h) ?_ ?_
        · simp only [f_X10_told]
          rw [e_X10_isHouse e1 F b1 b2]
          simp [zb, zg, i1, i2, q4]
        · simp only [f_X11_told]
          rw [e_X11_isHouse e2 F b1 b3]
          simp [zb, zg, i1, i2]
      · show zOK (fun σ => f_X10_told F σ (nI h) 9) (fun σ => f_X11_told F σ (nI h) 9) σ
        refine zOK_same hR (σ.1 67 0 h) ?_ ?_
        · simp only [f_X10_told]
          rw [e_X10_isHouse e1 F b1 b2]
          simp [zb, zg, i1, i2, q5]
        · simp only [f_X11_told]
          rw [e_X11_isHouse e2 F b1 b3]
          simp [zb, zg, i1, i2]
      · show zOK (fun σ => f_X10_told F σ (nI h) 10) (fun σ => f_X11_told F σ (nI h) 10) σ
        refine zOK_same hR (σ.1 68 0 h) ?_ ?_
        · simp only [f_X10_told]
          rw [e_X10_isHouse e1 F b1 b2]
          simp [zb, zg, i1, i2, q6]
        · simp only [f_X11_told]
          rw [e_X11_isHouse e2 F b1 b3]
          simp [zb, zg, i1, i2]
      · show zOK (fun σ => f_X10_told F σ (nI h) 11) (fun σ => f_X11_told F σ (nI h) 11) σ
        refine zOK_same hR (σ.1 69 0 h) ?_ ?_
        · simp only [f_X10_told]
          rw [e_X10_isHouse e1 F b1 b2]
          simp [zb, zg, i1, i2, q8]
        · simp only [f_X11_told]
          rw [e_X11_isHouse e2 F b1 b3]
          simp [zb, zg, i1, i2]
      · show zOK (fun σ => f_X10_told F σ (nI h) 12) (fun σ => f_X11_told F σ (nI h) 12) σ
        refine zOK_same hR (σ.1 70 0 h) ?_ ?_
        · simp only [f_X10_told]
          rw [e_X10_isHouse e1 F b1 b2]
          simp [zb, zg, i1, i2, q9]
        · simp only [f_X11_told]
          rw [e_X11_isHouse e2 F b1 b3]
          simp [zb, zg, i1, i2]
      · omega
  · refine zOK_same hR (-5) ?_ ?_
    · simp only [f_X10_told]
      rw [n_X10_isHouse e1 F b]
      simp [zb]
    · simp only [f_X11_told]
      rw [n_X11_isHouse e2 F b]
      simp [zb]
