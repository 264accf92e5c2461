theorem p_up {σ : zMem} (hR : zRel σ) {h a : Nat} (hcut : ∀ m : Nat, σ.1 25 0 4 = nI m → ∀ {z : Nat}, z = a → m ≤ z → False) (v : Int32) (ha4 : a < 4) (hv : 0 ≤ v.toInt) (hs : h < 10 → (σ.1 72 0 h).toInt + (σ.1 72 1 h).toInt + (σ.1 72 2 h).toInt + (σ.1 72 3 h).toInt - (σ.1 72 a h).toInt + v.toInt ≤ (σ.1 62 h 2).toInt) : zRel (zwi (zwi σ 4 h a v) 72 a h v) := by
  obtain ⟨hh, hr, hw, hk, ha, hd, hl, hc, ht, hb, hQ⟩ := hR
  refine ⟨?_, ?_, ?_, ?_, ?_, ?_, ?_, ?_, ?_, ?_, ?_⟩
  · obtain ⟨g1, g2, g3, g4, g5, g6⟩ := hh
    refine ⟨by simpa [zwi, zu] using g1, by simpa [zwi, zu] using g2, by simpa [zwi, zu] using g3, by simpa [zwi, zu] using g4, fun y z hy hz => ?_, by simpa [zwi, zu] using g6⟩
    have := g5 y z hy hz
    by_cases q : y = h ∧ z = a
    · obtain ⟨rfl, rfl⟩ := q
      simp [zwi, zu]
    · have q2 : ¬ (z = a ∧ y = h) := fun k => q ⟨k.2, k.1⟩
      simpa [zwi, zu, q, q2] using this
  · simpa [zRr, zwi, zu] using hr
  · simpa [zRw, zwi, zu] using hw
  · simpa [zRk, zwi, zu] using hk
  · obtain ⟨p1, p2, ⟨m, hm, em, hz⟩, p4, p5, p6, p7⟩ := ha
    refine ⟨by simpa [zwi, zu] using p1, by simpa [zwi, zu] using p2, ⟨m, hm, by simpa [zwi, zu] using em, fun y z h1 h2 h3 => ?_⟩, by simpa [zwi, zu] using p4, by simpa [zwi, zu] using p5, by simpa [zwi, zu] using p6, by simpa [zwi, zu] using p7⟩
    have h4 := hz y z h1 h2 h3
    have q : ¬ z = a := fun q => hcut m em q h2
    simpa [zwi, zu, q] using h4
  · simpa [zRd, zwi, zu] using hd
  · simpa [zRl, zwi, zu] using hl
  · simpa [zRc, zwi, zu] using hc
  · simpa [zRt, zwi, zu] using ht
  · simpa [zRb, zwi, zu] using hb
  · obtain ⟨y1, y2, y3, y4, y5, y6, y7, y8, y9, y10⟩ := hQ
    refine ⟨by simpa [zwi, zu] using y1, ?_, by simpa [zwi, zu] using y3, by simpa [zwi, zu] using y4, by simpa [zwi, zu] using y5, by simpa [zwi, zu] using y6, by simpa [zwi, zu] using y7, by simpa [zwi, zu] using y8, by simpa [zwi, zu] using y9, by simpa [zwi, zu] using y10⟩
    · intro z hz
      obtain ⟨k1, k2⟩ := y2 z hz
      by_cases e : z = h
      · subst e
        have k3 := hs hz
        refine ⟨fun b hb => ?_, ?_⟩
        · by_cases e2 : b = a
          · subst e2
            simpa [zwi, zu] using hv
          · simpa [zwi, zu, e2] using k1 b hb
        · rcases a with _ | _ | _ | _ | a
          · simp [zwi, zu]
            try simp at k3
            omega
          · simp [zwi, zu]
            try simp at k3
            omega
          · simp [zwi, zu]
            try simp at k3
            omega
          · simp [zwi, zu]
            try simp at k3
            omega
          · omega
      · simpa [zwi, zu, e] using (⟨k1, k2⟩ : _ ∧ _)
theorem a_home {σ : zMem} (hR : zRel σ) (F : Nat) (x y v : Int32) : zOK (fun σ => f_X10_home F σ x y v) (fun σ => f_X11_home F σ x y v) σ := by
  obtain ⟨nh, hnh, h1, h2⟩ := zRh_n hR.1
  obtain ⟨-, -, ⟨n, hn, e1, hz⟩, e2, -⟩ := id hR.2.2.2.2.1
  have e2 := e2.trans e1
  have eu := hR.1.2.2.2.2.2
  have t : (71 : Int32).toNatClampNeg = 71 := by decide
  have t2 : zdU 71 = true := by decide
  rcases zix (n := nh) (by omega) x with ⟨h, hh9, rfl, a1, a2, a3, a4⟩ | ⟨_, a⟩
  · rcases zix (n := n) (by omega) y with ⟨j, hj, rfl, b1, b2, b3, b4⟩ | ⟨_, b⟩
    · have i1 := inb_n (show h < 10 by omega) (by omega)
      have i2 := nI_clamp (show h < 2 ^ 31 by omega)
      have i3 := inb_n (show j < 4 by omega) (by omega)
      have i4 := nI_clamp (show j < 2 ^ 31 by omega)
      have q := hR.1.2.2.2.2.1 h j (by omega) (by omega)
      by_cases v1 : v < 1
      · refine zOK_same hR (-2) ?_ ?_
        · simp only [f_X10_home]
          rw [e_X10_isHouse h1 F a1 a2, zb_s, if_neg (by decide), e_X0_has e1 F b1 b2]
          simp [zb, zg, i1, v1]
        · simp only [f_X11_home]
          rw [e_X11_isHouse h2 F a1 a3, zb_s, if_neg (by decide), e_X11_isAlp e2 F b1 b3]
          simp [zb, e_X11_in, v1]
      by_cases v2 : 99 < v
      · refine zOK_same hR (-2) ?_ ?_
        · simp only [f_X10_home]
          rw [e_X10_isHouse h1 F a1 a2, zb_s, if_neg (by decide), e_X0_has e1 F b1 b2]
          simp [zb, zg, i1, v1, v2]
        · simp only [f_X11_home]
          rw [e_X11_isHouse h2 F a1 a3, zb_s, if_neg (by decide), e_X11_isAlp e2 F b1 b3]
          simp [zb, e_X11_in, v1, v2]
      by_cases v3 : ¬ v ≤ σ.1 72 j h
      · refine zOK_same hR (-2) ?_ ?_
        · simp only [f_X10_home]
          rw [e_X10_isHouse h1 F a1 a2, zb_s, if_neg (by decide), e_X0_has e1 F b1 b2]
          simp [zb, zg, i1, i2, i3, i4, v1, v2, v3, q]
        · simp only [f_X11_home]
          rw [e_X11_isHouse h2 F a1 a3, zb_s, if_neg (by decide), e_X11_isAlp e2 F b1 b3]
          simp [zb, zg, e_X11_in, i1, i2, i3, i4, v1, v2, v3, eu, t, t2]
      have v3 := Decidable.not_not.mp v3
      have w0 := hR.2.2.2.2.2.2.2.2.2.2.2.1 h (by omega)
      have w2 := w0.1 j (by omega)
      have w3 := zib_i v1 v2 (A := 1) (B := 99) (by decide) (by decide)
      have w4 := w3.1
      have w5 := w3.2
      have w6 := Int32.le_iff_toInt_le.mp v3
      have w7 := w0.2
      have w8 := Int32.toInt_lt (σ.1 72 j h)
      have w1 := t_sub (x := σ.1 72 j h) (y := v) (by omega) (by omega)
      refine zOK_i (σ.1 72 j h - v) (zwi σ 4 h j (σ.1 72 j h - v)) (zwi (zwi σ 4 h j (σ.1 72 j h - v)) 72 j h (σ.1 72 j h - v)) ?_ ?_ (p_up hR (fun m em z hzj hmz => ?_) _ (by omega) (by rw [w1]; omega) (fun hh9' => by rw [w1]; omega))
      · simp only [f_X10_home]
        rw [e_X10_isHouse h1 F a1 a2, zb_s, if_neg (by decide), e_X0_has e1 F b1 b2]
        simp [zb, zg, i1, i2, i3, i4, v1, v2, v3, q, zwi, zu]
      · simp only [f_X11_home]
        rw [e_X11_isHouse (by simpa [zwi, zu] using h2) F a1 a3, zb_s, if_neg (by decide), e_X11_isAlp (by simpa [zwi, zu] using e2) F b1 b3]
        simp [zb, zg, e_X11_in, i1, i2, i3, i4, v1, v2, v3, eu, t, t2, zwi, zu]
      · obtain ⟨-, -, ⟨m2, hm2, em2, -⟩, -⟩ := id hR.2.2.2.2.1
        have k1 := congrArg Int32.toInt (em.symm.trans e1)
        rw [nI_toInt (show n < 2 ^ 31 by omega), nI_toInt (show m < 2 ^ 31 by omega)] at k1
        omega
    · refine zOK_same hR (-1) ?_ ?_
      · simp only [f_X10_home]
        rw [e_X10_isHouse h1 F a1 a2, zb_s, if_neg (by decide), n_X0_has e1 F b]
        simp [zb]
      · simp only [f_X11_home]
        rw [e_X11_isHouse h2 F a1 a3, zb_s, if_neg (by decide), n_X11_isAlp e2 F b]
        simp [zb]
  · refine zOK_same hR (-1) ?_ ?_
    · simp only [f_X10_home]
      rw [n_X10_isHouse h1 F a]
      simp [zb]
    · simp only [f_X11_home]
      rw [n_X11_isHouse h2 F a]
      simp [zb]
