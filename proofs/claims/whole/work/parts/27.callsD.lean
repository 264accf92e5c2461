theorem zmin_n {a b : Nat} (ha : a < 100000) (hb : b < 100000) : zmin (nI a) (nI b) = nI (min a b) := by
  unfold zmin
  by_cases h : b < a
  · rw [if_pos ((nI_ltI (by omega) (by omega)).mpr h), Nat.min_eq_right (by omega)]
  · rw [if_neg (fun q => h ((nI_ltI (by omega) (by omega)).mp q)), Nat.min_eq_left (by omega)]
theorem a_book {σ : zMem} (hR : zRel σ) (F : Nat) (x y : Int32) : zOK (fun σ => f_X10_book F σ x y) (fun σ => f_X11_book F σ x y) σ := by
  obtain ⟨⟨n, hn, e1⟩, e2, g⟩ := id hR.2.2.2.2.2.1
  have e2 := e2.trans e1
  have zm : zmin (nI n) 200 = nI (min n 200) := zmin_n (a := n) (b := 200) (by omega) (by omega)
  rcases zix (n := min n 200) (by omega) x with ⟨i, hi, rfl, b1, b2, b3, b4⟩ | ⟨_, b⟩
  · have d1 : ¬ nI n ≤ nI i := nle_s (by omega) (by omega)
    have d2 : ¬ (200 : Int32) ≤ nI i := nle_s (n := 200) (by omega) (by omega)
    have i1 := inb_n (show i < 200 by omega) (by omega)
    have i2 := nI_clamp (show i < 2 ^ 31 by omega)
    rcases zix (n := 6) (by omega) y with ⟨j, hj, rfl, c1, c2, c3, c4⟩ | ⟨_, c⟩
    · have c3' : ¬ (5 : Int32) < nI j := c3
      have c4' : nI j < 6 := c4
      have i3 := inb_n (show j < 6 by omega) (by omega)
      have i4 := nI_clamp (show j < 2 ^ 31 by omega)
      have q := g i j (by omega) hj
      exact zOK_same hR (σ.1 92 i j) (by simp [f_X10_book, b1, e1, d1, d2, c1, c4', i1, i2, i3, i4, zg, q]) (by simp [f_X11_book, e_X11_in, zb, e2, zm, b1, b3, c1, c3', i1, i2, i3, i4, zg])
    · rcases c with c | ⟨c0, c1, c2, c3⟩
      · exact zOK_same hR (-5) (by simp [f_X10_book, b1, e1, d1, d2, c]) (by simp [f_X11_book, e_X11_in, zb, e2, zm, b1, b3, c])
      · have c2' : (5 : Int32) < y := c2
        have c3' : ¬ y < 6 := c3
        exact zOK_same hR (-5) (by simp [f_X10_book, b1, e1, d1, d2, c0, c3']) (by simp [f_X11_book, e_X11_in, zb, e2, zm, b1, b3, c0, c2'])
  · rcases b with b | ⟨b0, b1, b2, b3⟩
    · exact zOK_same hR (-5) (by simp [f_X10_book, b]) (by simp [f_X11_book, e_X11_in, zb, b])
    · refine zOK_same hR (-5) ?_ (by simp [f_X11_book, e_X11_in, zb, e2, zm, b0, b2])
      by_cases h : nI n ≤ x
      · simp [f_X10_book, b0, e1, h]
      · have h2 : (200 : Int32) ≤ x := by
          have k1 := Int32.le_iff_toInt_le.mp b1
          rw [nI_toInt (by omega)] at k1
          have k2 : ¬ (nI n).toInt ≤ x.toInt := fun q => h (Int32.le_iff_toInt_le.mpr q)
          rw [nI_toInt (by omega)] at k2
          rw [Int32.le_iff_toInt_le]
          have k3 : (200 : Int32).toInt = 200 := by decide
          omega
        simp [f_X10_book, b0, e1, h, h2]
