theorem zle1 {x : Int32} {d : Nat} (hd : d < 100000) : x < nI d + 1 ↔ x ≤ nI d := by
  rw [nI_1, Int32.lt_iff_toInt_lt, Int32.le_iff_toInt_le, nI_toInt (by omega), nI_toInt (by omega)]
  omega
theorem a_lend {σ : zMem} (hR : zRel σ) (F : Nat) (x y v : Int32) : zOK (fun σ => f_X10_lend F σ x y v) (fun σ => f_X11_lend F σ x y v) σ := by
  obtain ⟨nh, hnh, h1, h2⟩ := zRh_n hR.1
  obtain ⟨⟨d, hd, d1⟩, d2, -⟩ := id hR.2.2.2.2.1
  have d2 := d2.trans d1
  obtain ⟨⟨n, hn, e1, f1⟩, e2, g3, g4⟩ := id hR.2.1
  have e2 := e2.trans e1
  rcases zix (n := n) (by omega) x with ⟨r, hr, rfl, b1, b2, b3, b4⟩ | ⟨_, b⟩
  · rcases zix (n := nh) (by omega) y with ⟨h, hh9, rfl, a1, a2, a3, a4⟩ | ⟨_, a⟩
    · have i1 := inb_n (show r < 50 by omega) (by omega)
      have i2 := nI_clamp (show r < 2 ^ 31 by omega)
      obtain ⟨q1, q2, q3, -⟩ := g3 r (by omega)
      obtain ⟨t1, t2⟩ := zlent hR (show r < 50 by omega)
      have u4 := e_X3_isLent (σ := σ) (r := r) F (by omega) (nI d)
      have u5 := fun s => e_X11_lent (σ := s) (r := r) F (by omega)
      rw [d1, d2] at t1
      have pre1 : f_X10_lend F σ (nI r) (nI h) v = (if v ≤ nI d then some (-2, σ) else if v ≤ 7199 then zb (f_X3_isLent F σ (nI r) (nI d)) fun r48 m48 => if r48 = 0 then zg (inb (nI r) 50) (if m48.1 7 0 (nI r).toNatClampNeg = nI h then some (-3, m48) else zg (inb (nI r) 50) (if m48.1 6 0 (nI r).toNatClampNeg = 5 then some (-3, m48) else zg (inb (nI r) 50) (zg (inb (nI r) 50) (some (1, zwi (zwi m48 9 0 (nI r).toNatClampNeg (nI h)) 10 0 (nI r).toNatClampNeg v))))) else some (-3, m48) else some (-2, σ)) := by
        simp only [f_X10_lend]
        rw [e_X3_has e1 F b1 b2, zb_s, if_neg (by decide), e_X10_isHouse h1 F a1 a2, zb_s, if_neg (by decide), d1]
      have pre2 : ∀ s : zMem, s.1 60 0 1 = nI nh → s.1 60 0 12 = nI n → s.1 60 0 0 = nI d → f_X11_lend F s (nI r) (nI h) v = (if v ≤ nI d then some (-2, s) else if 7199 < v then some (-2, s) else zb (f_X11_lent F s (nI r)) fun r39 m39 => if r39 = 0 then zg (inb (nI r) 50) (if m39.1 74 0 (nI r).toNatClampNeg = nI h then some (-3, m39) else zg (inb (nI r) 50) (if m39.1 73 0 (nI r).toNatClampNeg = 5 then some (-3, m39) else zg (inb (nI r) 50) (zg (inb (nI r) 50) (some (1, zwi (zwi m39 76 0 (nI r).toNatClampNeg (nI h)) 77 0 (nI r).toNatClampNeg v))))) else some (-3, m39)) := by
        intro s s1 s2 s3
        simp only [f_X11_lend]
        rw [e_X11_isRight s2 F b1 b3, zb_s, if_neg (by decide), e_X11_isHouse s1 F a1 a3, zb_s, if_neg (by decide), e_X11_in, zb_s, s3]
        by_cases w1 : v ≤ nI d
        · simp [w1, (zle1 (x := v) (d := d) (by omega)).mpr w1]
        · have w2 : ¬ v < nI d + 1 := fun q => w1 ((zle1 (by omega)).mp q)
          by_cases w3 : 7199 < v <;> simp [w1, w2, w3]
      by_cases w1 : v ≤ nI d
      · exact zOK_same hR (-2) (by rw [pre1, if_pos w1]) (by rw [pre2 σ h2 e2 d2, if_pos w1])
      by_cases w3 : 7199 < v
      · exact zOK_same hR (-2) (by rw [pre1, if_neg w1, if_neg (Int32.not_le.mpr w3)]) (by rw [pre2 σ h2 e2 d2, if_neg w1, if_pos w3])
      have w4 : v ≤ 7199 := Int32.not_lt.mp w3
      by_cases l : ¬ σ.1 77 0 r ≤ nI d
      · have l2 : ¬ σ.1 10 0 r ≤ nI d := fun k => l (t1.mp k)
        exact zOK_same hR (-3) (by rw [pre1, if_neg w1, if_pos w4, u4]; simp [zb, l2]) (by rw [pre2 σ h2 e2 d2, if_neg w1, if_neg w3, u5]; simp [zb, d2, l])
      have l := Decidable.not_not.mp l
      by_cases o1 : σ.1 74 0 r = nI h
      · exact zOK_same hR (-3) (by rw [pre1, if_neg w1, if_pos w4, u4]; simp [zb, zg, i1, i2, t1.mpr l, q2, o1]) (by rw [pre2 σ h2 e2 d2, if_neg w1, if_neg w3, u5]; simp [zb, zg, i1, i2, d2, l, o1])
      by_cases o2 : σ.1 73 0 r = 5
      · exact zOK_same hR (-3) (by rw [pre1, if_neg w1, if_pos w4, u4]; simp [zb, zg, i1, i2, t1.mpr l, q2, o1, q1, o2]) (by rw [pre2 σ h2 e2 d2, if_neg w1, if_neg w3, u5]; simp [zb, zg, i1, i2, d2, l, o1, o2])
      refine zOK_i 1 (zwi (zwi σ 9 0 r (nI h)) 10 0 r v) (zwi (zwi (zwi (zwi σ 9 0 r (nI h)) 10 0 r v) 76 0 r (nI h)) 77 0 r v) ?_ ?_ ?_
      · rw [pre1, if_neg w1, if_pos w4, u4]
        simp [zb, zg, i1, i2, t1.mpr l, q2, o1, q1, o2]
      · rw [pre2 _ (by simpa [zwi, zu] using h2) (by simpa [zwi, zu] using e2) (by simpa [zwi, zu] using d2), if_neg w1, if_neg w3, u5]
        simp [zb, zg, i1, i2, zwi, zu, d2, l, o1, o2]
      · obtain ⟨hh, hr, hw, hk, ha, hd, hl, hc, ht, hb, hQ⟩ := hR
        refine ⟨?_, ?_, ?_, ?_, ?_, ?_, ?_, ?_, ?_, ?_, ?_⟩
        · simpa [zRh, zwi, zu] using hh
        · obtain ⟨p1, p2, p3, p4⟩ := hr
          refine ⟨⟨n, hn, by simpa [zwi, zu] using e1, fun z z1 z2 => ?_⟩, by simpa [zwi, zu] using p2, fun z hz => ?_, by simpa [zwi, zu] using p4⟩
          · have : ¬ z = r := by omega
            simpa [zwi, zu, this] using f1 z z1 z2
          · have := p3 z hz
            by_cases e : z = r
            · subst e
              simpa [zwi, zu] using ⟨this.1, this.2.1, this.2.2.1⟩
            · simpa [zwi, zu, e] using this
        · simpa [zRw, zwi, zu] using hw
        · simpa [zRk, zwi, zu] using hk
        · simpa [zRa, zwi, zu] using ha
        · simpa [zRd, zwi, zu] using hd
        · simpa [zRl, zwi, zu] using hl
        · simpa [zRc, zwi, zu] using hc
        · simpa [zRt, zwi, zu] using ht
        · simpa [zRb, zwi, zu] using hb
        · simpa [zRz, zwi, zu] using hQ
    · refine zOK_same hR (-1) ?_ ?_
      · simp only [f_X10_lend]
        rw [e_X3_has e1 F b1 b2, zb_s, if_neg (by decide), n_X10_isHouse h1 F a]
        simp [zb]
      · simp only [f_X11_lend]
        rw [e_X11_isRight e2 F b1 b3, zb_s, if_neg (by decide), n_X11_isHouse h2 F a]
        simp [zb]
  · refine zOK_same hR (-1) ?_ ?_
    · simp only [f_X10_lend]
      rw [n_X3_has e1 F b]
      simp [zb]
    · simp only [f_X11_lend]
      rw [n_X11_isRight e2 F b]
      simp [zb]
