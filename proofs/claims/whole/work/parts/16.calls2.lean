theorem a_leave {σ : zMem} (hR : zRel σ) (F : Nat) (x y : Int32) : zOK (fun σ => f_X10_leave F σ x y) (fun σ => f_X11_leave F σ x y) σ := by
  obtain ⟨n, hn, e1, e2⟩ := zRh_n hR.1
  obtain ⟨⟨n3, hn3, e3, f3⟩, e4, g3, g4⟩ := hR.2.1
  have e4 := e4.trans e3
  rcases zix (n := n3) (by omega) x with ⟨r, hr9, rfl, a1, a2, a3, a4⟩ | ⟨_, a⟩
  · have i1 := inb_n (show r < 50 by omega) (by omega)
    have i2 := nI_clamp (show r < 2 ^ 31 by omega)
    have q := g3 r (by omega)
    rcases zix (n := n) (by omega) y with ⟨h, hh9, rfl, b1, b2, b3, b4⟩ | ⟨_, b⟩
    · by_cases k : σ.1 73 0 r = 5
      · refine zOK_same hR (-3) ?_ ?_
        · simp only [f_X10_leave]
          rw [e_X3_has e3 F a1 a2]
          simp only [zb]
          rw [e_X10_isHouse e1 F b1 b2]
          simp [i1, i2, zg, q.1, k]
        · simp only [f_X11_leave]
          rw [e_X11_isRight e4 F a1 a3]
          simp only [zb]
          rw [e_X11_isHouse e2 F b1 b3]
          simp [i1, i2, zg, k]
      · refine zOK_i (σ.1 74 0 r) (zwi σ 7 0 r (nI h)) (zwi (zwi σ 7 0 r (nI h)) 74 0 r (nI h)) ?_ ?_ ?_
        · simp only [f_X10_leave]
          rw [e_X3_has e3 F a1 a2]
          simp only [zb]
          rw [e_X10_isHouse e1 F b1 b2]
          simp [i1, i2, zg, q.1, q.2.1, k]
        · simp only [f_X11_leave]
          rw [e_X11_isRight (by simpa [zwi, zu] using e4) F a1 a3]
          simp only [zb]
          rw [e_X11_isHouse (by simpa [zwi, zu] using e2) F b1 b3]
          simp [i1, i2, zg, k, zwi, zu]
        · obtain ⟨hh, hr, hw, hk, ha, hd, hl, hc, ht, hb, hQ⟩ := hR
          refine ⟨?_, ?_, ?_, ?_, ?_, ?_, ?_, ?_, ?_, ?_, ?_⟩
          · simpa [zRh, zwi, zu] using hh
          · obtain ⟨p1, p2, p3, p4⟩ := hr
            refine ⟨by simpa [zwi, zu] using p1, by simpa [zwi, zu] using p2, fun z hz => ?_, by simpa [zwi, zu] using p4⟩
            have := p3 z hz
            by_cases e : z = r
            · subst e
              simpa [zwi, zu, q.2.1] using ⟨this.1, this.2.2⟩
            · simpa [zwi, zu, e] using this
          · simpa [zRw, zwi, zu] using hw
          · simpa [zRk, zwi, zu] using hk
          · simpa [zRa, zwi, zu] using ha
          · simpa [zRd, zwi, zu] using hd
          · simpa [zRl, zwi, zu] using hl
          · simpa [zRc, zwi, zu] using hc
          · simpa [zRt, zwi, zu] using ht
          · simpa [zRb, zwi, zu] using hb
          · simpa [zRz, zwi, zu] using hQ
    · refine zOK_same hR (-1) ?_ ?_
      · simp only [f_X10_leave]
        rw [e_X3_has e3 F a1 a2]
        simp only [zb]
        rw [n_X10_isHouse e1 F b]
        simp
      · simp only [f_X11_leave]
        rw [e_X11_isRight e4 F a1 a3]
        simp only [zb]
        rw [n_X11_isHouse e2 F b]
        simp
  · refine zOK_same hR (-1) ?_ ?_
    · simp only [f_X10_leave]
      rw [n_X3_has e3 F a]
      simp [zb]
    · simp only [f_X11_leave]
      rw [n_X11_isRight e4 F a]
      simp [zb]
theorem a_works {σ : zMem} (hR : zRel σ) (F : Nat) (x : Int32) {v : Int32} (hv : v = 0 ∨ v = 1) : zOK (fun σ => f_X10_works F σ x v) (fun σ => f_X11_works F σ x v) σ := by
  obtain ⟨⟨n, hn, e1⟩, e2, g3, g4⟩ := hR.2.2.2.2.2.2.1
  have e2 := e2.trans e1
  rcases zix (n := n) (by omega) x with ⟨s, hs9, rfl, a1, a2, a3, a4⟩ | ⟨_, a⟩
  · have i1 := inb_n (show s < 6 by omega) (by omega)
    have i2 := nI_clamp (show s < 2 ^ 31 by omega)
    have q := g3 s (by omega)
    by_cases k : σ.1 94 0 s = v
    · refine zOK_i 0 σ (zwi σ 94 0 s v) ?_ ?_ ?_
      · simp only [f_X10_works]
        rw [e_X7_has e1 F a1 a2]
        simp [zb, i1, i2, zg, q.2.1, k]
      · simp only [f_X11_works]
        rw [e_X11_isSlope e2 F a1 a3]
        simp [zb, i1, i2, zg, k, zbo_01 hv]
      · rw [zwi_id k]
        exact hR
    · refine zOK_i 1 (zwi σ 40 s 3 v) (zwi (zwi σ 40 s 3 v) 94 0 s v) ?_ ?_ ?_
      · simp only [f_X10_works]
        rw [e_X7_has e1 F a1 a2]
        simp [zb, i1, i2, zg, q.2.1, k, zbo_01 hv]
      · simp only [f_X11_works]
        rw [e_X11_isSlope (by simpa [zwi, zu] using e2) F a1 a3]
        simp [zb, i1, i2, zg, k, zbo_01 hv, zwi, zu]
      · obtain ⟨hh, hr, hw, hk, ha, hd, hl, hc, ht, hb, hQ⟩ := hR
        refine ⟨?_, ?_, ?_, ?_, ?_, ?_, ?_, ?_, ?_, ?_, ?_⟩
        · simpa [zRh, zwi, zu] using hh
        · simpa [zRr, zwi, zu] using hr
        · simpa [zRw, zwi, zu] using hw
        · simpa [zRk, zwi, zu] using hk
        · simpa [zRa, zwi, zu] using ha
        · simpa [zRd, zwi, zu] using hd
        · obtain ⟨p1, p2, p3, p4⟩ := hl
          refine ⟨by simpa [zwi, zu] using p1, by simpa [zwi, zu] using p2, fun z hz => ?_, by simpa [zwi, zu] using p4⟩
          have := p3 z hz
          by_cases e : z = s
          · subst e
            obtain ⟨k1, k2, k3, k4, k5, k6, k7⟩ := this
            simpa [zwi, zu, hv] using (⟨k1, k4, k5, k6, k7⟩ : _ ∧ _ ∧ _ ∧ _ ∧ _)
          · simpa [zwi, zu, e] using this
        · simpa [zRc, zwi, zu] using hc
        · simpa [zRt, zwi, zu] using ht
        · simpa [zRb, zwi, zu] using hb
        · simpa [zRz, zwi, zu] using hQ
  · refine zOK_same hR (-1) ?_ ?_
    · simp only [f_X10_works]
      rw [n_X7_has e1 F a]
      simp [zb]
    · simp only [f_X11_works]
      rw [n_X11_isSlope e2 F a]
      simp [zb]
