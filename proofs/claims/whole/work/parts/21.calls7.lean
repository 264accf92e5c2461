theorem a_trace {σ : zMem} (hR : zRel σ) (F : Nat) (x : Int32) : zOK (fun σ => f_X10_trace F σ x) (fun σ => f_X11_trace F σ x) σ := by
  obtain ⟨⟨n, hn, e1⟩, e2, g⟩ := id hR.2.2.2.2.2.2.2.2.2.1
  have e2 := e2.trans e1
  have zm : zmin (nI n) 20 = nI n := by
    unfold zmin
    rw [if_neg]
    intro q
    have := (nI_ltI (a := 20) (b := n) (by omega) (by omega)).mp q
    omega
  rcases zix (n := n) (by omega) x with ⟨i, hi, rfl, b1, b2, b3, b4⟩ | ⟨_, b⟩
  · have i1 := inb_n (show i < 20 by omega) (by omega)
    have i2 := nI_clamp (show i < 2 ^ 31 by omega)
    have c : nI i < 20 := (nI_ltI (a := i) (b := 20) (by omega) (by omega)).mpr (by omega)
    have q := g i (by omega) (by rw [e1]; exact b4)
    exact zOK_same hR (σ.1 110 0 i) (by simp [f_X10_trace, b1, e1, b2, c, i1, i2, zg, q]) (by simp [f_X11_trace, e_X11_in, zb, e2, zm, b1, b3, i1, i2, zg])
  · rcases b with b | ⟨b0, b1, b2, b3⟩
    · exact zOK_same hR (-1) (by simp [f_X10_trace, b]) (by simp [f_X11_trace, e_X11_in, zb, b])
    · exact zOK_same hR (-1) (by simp [f_X10_trace, b0, e1, b1]) (by simp [f_X11_trace, e_X11_in, zb, e2, zm, b0, b2])
theorem a_channel {σ : zMem} (hR : zRel σ) (F : Nat) (x y v : Int32) : zOK (fun σ => f_X10_channel F σ x y v) (fun σ => f_X11_channel F σ x y v) σ := by
  obtain ⟨nh, hnh, h1, h2⟩ := zRh_n hR.1
  obtain ⟨⟨n, hn, e1⟩, e2, -⟩ := id hR.2.2.2.2.2.2.2.1
  have e2 := e2.trans e1
  rcases zix (n := n + 1) (by omega) x with ⟨i, hi, rfl, b1, b2, b3, b4⟩ | ⟨_, b⟩
  · have c1 : ¬ nI n < nI i := fun q => by
      have := (nI_ltI (a := n) (b := i) (by omega) (by omega)).mp q
      omega
    rcases zix (n := nh) (by omega) y with ⟨h, hh9, rfl, a1, a2, a3, a4⟩ | ⟨_, a⟩
    · by_cases v1 : v < 0
      · refine zOK_same hR (-2) ?_ ?_
        · simp only [f_X10_channel]
          rw [if_neg b1, e1, if_neg c1, e_X10_isHouse h1 F a1 a2]
          simp [zb, v1]
        · simp only [f_X11_channel]
          rw [e2, e_X11_in, if_neg b1, if_neg c1, zb_s, if_neg (by decide), e_X11_isHouse h2 F a1 a3]
          simp [zb, e_X11_in, v1]
      by_cases v2 : 100 < v
      · refine zOK_same hR (-2) ?_ ?_
        · simp only [f_X10_channel]
          rw [if_neg b1, e1, if_neg c1, e_X10_isHouse h1 F a1 a2]
          simp [zb, v1, Int32.not_le.mpr v2]
        · simp only [f_X11_channel]
          rw [e2, e_X11_in, if_neg b1, if_neg c1, zb_s, if_neg (by decide), e_X11_isHouse h2 F a1 a3]
          simp [zb, e_X11_in, v1, v2]
      by_cases i10 : i = 10
      · subst i10
        refine zOK_same hR (-4) ?_ ?_
        · simp only [f_X10_channel]
          rw [if_neg b1, e1, if_neg c1, e_X10_isHouse h1 F a1 a2]
          simp [zb, v1, Int32.not_lt.mp v2, show ¬ nI 10 < 10 by decide]
        · simp only [f_X11_channel]
          rw [e2, e_X11_in, if_neg b1, if_neg c1, zb_s, if_neg (by decide), e_X11_isHouse h2 F a1 a3]
          simp [zb, e_X11_in, v1, v2, show nI 10 = 10 by rfl]
      have c2 : nI i < 10 := (nI_ltI (a := i) (b := 10) (by omega) (by omega)).mpr (by omega)
      have c3 : ¬ nI i = 10 := fun q => i10 ((nI_eq (a := i) (b := 10) (by omega) (by omega)).mp q)
      have i1 := inb_n (show i < 10 by omega) (by omega)
      have i2 := nI_clamp (show i < 2 ^ 31 by omega)
      by_cases il : i = n
      · subst il
        have zx : zmax (nI i) (nI i + 1) = nI i + 1 := by
          unfold zmax
          rw [nI_1, if_pos ((nI_ltI (by omega) (by omega)).mpr (by omega))]
        refine zOK_i (nI i + 1) (zwi (zwi (zwi σ 44 0 i (nI h)) 45 0 i v) 43 0 2 (nI i + 1)) (zwi (zwi (zwi (zwi (zwi (zwi σ 44 0 i (nI h)) 45 0 i v) 43 0 2 (nI i + 1)) 101 0 i (nI h)) 102 0 i v) 60 0 46 (nI i + 1)) ?_ ?_ ?_
        · simp only [f_X10_channel]
          rw [if_neg b1, e1, if_neg c1, e_X10_isHouse h1 F a1 a2]
          simp [zb, v1, Int32.not_lt.mp v2, c2, i1, i2, zg, zwi, zu, e1]
        · simp only [f_X11_channel]
          rw [show (zwi (zwi (zwi σ 44 0 i (nI h)) 45 0 i v) 43 0 2 (nI i + 1)).1 60 0 46 = nI i by simpa [zwi, zu] using e2, e_X11_in, if_neg b1, if_neg c1, zb_s, if_neg (by decide), e_X11_isHouse (by simpa [zwi, zu] using h2) F a1 a3]
          simp [zb, e_X11_in, v1, v2, c3, i1, i2, zg, zwi, zu, e2, zx]
        · obtain ⟨hh, hr, hw, hk, ha, hd, hl, hc, ht, hb, hQ⟩ := hR
          refine ⟨?_, ?_, ?_, ?_, ?_, ?_, ?_, ?_, ?_, ?_, ?_⟩
          · simpa [zRh, zwi, zu] using hh
          · simpa [zRr, zwi, zu] using hr
          · simpa [zRw, zwi, zu] using hw
          · simpa [zRk, zwi, zu] using hk
          · simpa [zRa, zwi, zu] using ha
          · simpa [zRd, zwi, zu] using hd
          · simpa [zRl, zwi, zu] using hl
          · obtain ⟨p1, p2, p3, p4, p5⟩ := hc
            refine ⟨⟨i + 1, by omega, by simp [zwi, zu, nI_1]⟩, by simp [zwi, zu], fun z hz => ?_, by simpa [zwi, zu] using p4, by simpa [zwi, zu] using p5⟩
            have := p3 z hz
            by_cases e : z = i
            · subst e
              simp [zwi, zu]
            · simpa [zwi, zu, e] using this
          · simpa [zRt, zwi, zu] using ht
          · simpa [zRb, zwi, zu] using hb
          · simpa [zRz, zwi, zu] using hQ
      · have zx : zmax (nI n) (nI i + 1) = nI n := by
          unfold zmax
          rw [nI_1, if_neg (fun q => by have := (nI_ltI (by omega) (by omega)).mp q; omega)]
        have c4 : ¬ nI i = nI n := fun q => il ((nI_eq (by omega) (by omega)).mp q)
        refine zOK_i (nI n) (zwi (zwi σ 44 0 i (nI h)) 45 0 i v) (zwi (zwi (zwi (zwi (zwi σ 44 0 i (nI h)) 45 0 i v) 101 0 i (nI h)) 102 0 i v) 60 0 46 (nI n)) ?_ ?_ ?_
        · simp only [f_X10_channel]
          rw [if_neg b1, e1, if_neg c1, e_X10_isHouse h1 F a1 a2]
          simp [zb, v1, Int32.not_lt.mp v2, c2, i1, i2, zg, zwi, zu, e1, c4]
        · simp only [f_X11_channel]
          rw [show (zwi (zwi σ 44 0 i (nI h)) 45 0 i v).1 60 0 46 = nI n by simpa [zwi, zu] using e2, e_X11_in, if_neg b1, if_neg c1, zb_s, if_neg (by decide), e_X11_isHouse (by simpa [zwi, zu] using h2) F a1 a3]
          simp [zb, e_X11_in, v1, v2, c3, i1, i2, zg, zwi, zu, e2, zx]
        · obtain ⟨hh, hr, hw, hk, ha, hd, hl, hc, ht, hb, hQ⟩ := hR
          refine ⟨?_, ?_, ?_, ?_, ?_, ?_, ?_, ?_, ?_, ?_, ?_⟩
          · simpa [zRh, zwi, zu] using hh
          · simpa [zRr, zwi, zu] using hr
          · simpa [zRw, zwi, zu] using hw
          · simpa [zRk, zwi, zu] using hk
          · simpa [zRa, zwi, zu] using ha
          · simpa [zRd, zwi, zu] using hd
          · simpa [zRl, zwi, zu] using hl
          · obtain ⟨p1, p2, p3, p4, p5⟩ := hc
            refine ⟨by simpa [zwi, zu] using p1, by simp [zwi, zu, e1], fun z hz => ?_, by simpa [zwi, zu] using p4, by simpa [zwi, zu] using p5⟩
            have := p3 z hz
            by_cases e : z = i
            · subst e
              simp [zwi, zu]
            · simpa [zwi, zu, e] using this
          · simpa [zRt, zwi, zu] using ht
          · simpa [zRb, zwi, zu] using hb
          · simpa [zRz, zwi, zu] using hQ
    · refine zOK_same hR (-1) ?_ ?_
      · simp only [f_X10_channel]
        rw [if_neg b1, e1, if_neg c1, n_X10_isHouse h1 F a]
        simp [zb]
      · simp only [f_X11_channel]
        rw [e2, e_X11_in, if_neg b1, if_neg c1, zb_s, if_neg (by decide), n_X11_isHouse h2 F a]
        simp [zb]
  · rcases b with b | ⟨b0, b1, b2, b3⟩
    · exact zOK_same hR (-1) (by simp [f_X10_channel, b]) (by simp [f_X11_channel, e_X11_in, zb, b])
    · have c : nI n < x := by
        rw [Int32.lt_iff_toInt_lt, nI_toInt (by omega)]
        have := Int32.le_iff_toInt_le.mp b1
        rw [nI_toInt (by omega)] at this
        omega
      exact zOK_same hR (-1) (by simp [f_X10_channel, b0, e1, c]) (by simp [f_X11_channel, e_X11_in, zb, e2, b0, c])
