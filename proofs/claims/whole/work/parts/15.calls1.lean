theorem a_rest {σ : zMem} (hR : zRel σ) (F : Nat) (x : Int32) : zOK (fun σ => f_X10_rest F σ x) (fun σ => f_X11_rest F σ x) σ := by
  obtain ⟨n, hn, e1, e2⟩ := zRh_n hR.1
  rcases zix (n := n) (by omega) x with ⟨h, hh, rfl, b1, b2, b3, b4⟩ | ⟨_, b⟩
  · have q := (hR.1.2.2.2.1 h (by omega)).2.2.2.2.2.2.1
    refine zOK_same hR (σ.1 66 0 h) ?_ ?_
    · simp only [f_X10_rest]
      rw [e_X10_isHouse e1 F b1 b2]
      simp [zb, inb_n (show h < 10 by omega) (by omega), zg, nI_clamp (show h < 2 ^ 31 by omega), q]
    · simp only [f_X11_rest]
      rw [e_X11_isHouse e2 F b1 b3]
      simp [zb, inb_n (show h < 10 by omega) (by omega), zg, nI_clamp (show h < 2 ^ 31 by omega)]
  · refine zOK_same hR (-1000000) ?_ ?_
    · simp only [f_X10_rest]
      rw [n_X10_isHouse e1 F b]
      simp [zb]
    · simp only [f_X11_rest]
      rw [n_X11_isHouse e2 F b]
      simp [zb]
theorem a_work {σ : zMem} (hR : zRel σ) (F : Nat) (x v : Int32) : zOK (fun σ => f_X10_work F σ x v) (fun σ => f_X11_work F σ x v) σ := by
  obtain ⟨n, hn, e1, e2⟩ := zRh_n hR.1
  rcases zix (n := n) (by omega) x with ⟨h, hlt, rfl, b1, b2, b3, b4⟩ | ⟨_, b⟩
  · have q := (hR.1.2.2.2.1 h (by omega)).2.2.2.2.2.2.2.2
    have i1 := inb_n (show h < 10 by omega) (by omega)
    have i2 := nI_clamp (show h < 2 ^ 31 by omega)
    by_cases v1 : v < 1
    · refine zOK_same hR (-2) ?_ ?_
      · simp only [f_X10_work]
        rw [e_X10_isHouse e1 F b1 b2]
        simp [zb, v1]
      · simp only [f_X11_work]
        rw [e_X11_isHouse e2 F b1 b3]
        simp [zb, e_X11_in, v1]
    · by_cases v2 : 999 < v
      · refine zOK_same hR (-2) ?_ ?_
        · simp only [f_X10_work]
          rw [e_X10_isHouse e1 F b1 b2]
          simp [zb, v1, Int32.not_le.mpr v2]
        · simp only [f_X11_work]
          rw [e_X11_isHouse e2 F b1 b3]
          simp [zb, e_X11_in, v1, v2]
      · refine zOK_i (σ.1 70 0 h + v) (zwi σ 2 h 11 (σ.1 70 0 h + v)) (zwi (zwi σ 2 h 11 (σ.1 70 0 h + v)) 70 0 h (σ.1 70 0 h + v)) ?_ ?_ ?_
        · simp only [f_X10_work]
          rw [e_X10_isHouse e1 F b1 b2]
          simp [zb, v1, Int32.not_lt.mp v2, i1, i2, zg, q, zwi, zu]
        · simp only [f_X11_work]
          rw [e_X11_isHouse (by simpa [zwi, zu] using e2) F b1 b3]
          simp [zb, e_X11_in, v1, v2, i1, i2, zg, zwi, zu]
        · obtain ⟨hh, hr, hw, hk, ha, hd, hl, hc, ht, hb, hQ⟩ := hR
          refine ⟨?_, ?_, ?_, ?_, ?_, ?_, ?_, ?_, ?_, ?_, ?_⟩
          · obtain ⟨g1, g2, g3, g4, g5, g6⟩ := hh
            refine ⟨by simpa [zwi, zu] using g1, by simpa [zwi, zu] using g2, by simpa [zwi, zu] using g3, fun y hy => ?_, by simpa [zwi, zu] using g5, by simpa [zwi, zu] using g6⟩
            have := g4 y hy
            by_cases e : y = h
            · subst e
              obtain ⟨k1, k2, k3, k4, k5, k6, k7, k8, k9⟩ := this
              simp [zwi, zu, k1, k2, k3, k4, k5, k6, k7, k8]
            · simpa [zwi, zu, e] using this
          · simpa [zRr, zwi, zu] using hr
          · simpa [zRw, zwi, zu] using hw
          · simpa [zRk, zwi, zu] using hk
          · simpa [zRa, zwi, zu] using ha
          · simpa [zRd, zwi, zu] using hd
          · simpa [zRl, zwi, zu] using hl
          · simpa [zRc, zwi, zu] using hc
          · simpa [zRt, zwi, zu] using ht
          · simpa [zRb, zwi, zu] using hb
          · simpa [zRz, zwi, zu] using hQ
  · refine zOK_same hR (-1) ?_ ?_
    · simp only [f_X10_work]
      rw [n_X10_isHouse e1 F b]
      simp [zb]
    · simp only [f_X11_work]
      rw [n_X11_isHouse e2 F b]
      simp [zb]
