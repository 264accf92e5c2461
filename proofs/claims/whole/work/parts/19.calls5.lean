theorem b_fits0 {v : Int32} (h : v < 1 ∨ 9 < v) (F : Nat) (σ : zMem) : f_X2_fits F σ 0 v = some (0, σ) := by
  rw [e_fits0]
  by_cases h1 : v < 1
  · simp [h1]
  · have h2 := h.resolve_left h1
    simp [h1, h2]
theorem g_fits0 {v : Int32} (h : ¬ (v < 1 ∨ 9 < v)) (F : Nat) (σ : zMem) : f_X2_fits F σ 0 v = some (1, σ) := by
  rw [e_fits0]
  have h1 : ¬ v < 1 := fun q => h (Or.inl q)
  have h2 : ¬ 9 < v := fun q => h (Or.inr q)
  simp [h1, h2]
theorem b_isN0 {v : Int32} (h : v < 1 ∨ 9 < v) (F : Nat) (σ : zMem) : f_X11_isNumber F σ 0 v = some (0, σ) := by
  rw [e_isN0]
  by_cases h1 : v < 1
  · simp [h1]
  · have h2 := h.resolve_left h1
    simp [h1, h2]
theorem g_isN0 {v : Int32} (h : ¬ (v < 1 ∨ 9 < v)) (F : Nat) (σ : zMem) : f_X11_isNumber F σ 0 v = some (1, σ) := by
  rw [e_isN0]
  have h1 : ¬ v < 1 := fun q => h (Or.inl q)
  have h2 : ¬ 9 < v := fun q => h (Or.inr q)
  simp [h1, h2]
theorem b_fits1 {v : Int32} (h : v < 1 ∨ 20 < v) (F : Nat) (σ : zMem) : f_X2_fits F σ 1 v = some (0, σ) := by
  rw [e_fits1]
  by_cases h1 : v < 1
  · simp [h1]
  · have h2 := h.resolve_left h1
    simp [h1, h2]
theorem g_fits1 {v : Int32} (h : ¬ (v < 1 ∨ 20 < v)) (F : Nat) (σ : zMem) : f_X2_fits F σ 1 v = some (1, σ) := by
  rw [e_fits1]
  have h1 : ¬ v < 1 := fun q => h (Or.inl q)
  have h2 : ¬ 20 < v := fun q => h (Or.inr q)
  simp [h1, h2]
theorem b_isN1 {v : Int32} (h : v < 1 ∨ 20 < v) (F : Nat) (σ : zMem) : f_X11_isNumber F σ 1 v = some (0, σ) := by
  rw [e_isN1]
  by_cases h1 : v < 1
  · simp [h1]
  · have h2 := h.resolve_left h1
    simp [h1, h2]
theorem g_isN1 {v : Int32} (h : ¬ (v < 1 ∨ 20 < v)) (F : Nat) (σ : zMem) : f_X11_isNumber F σ 1 v = some (1, σ) := by
  rw [e_isN1]
  have h1 : ¬ v < 1 := fun q => h (Or.inl q)
  have h2 : ¬ 20 < v := fun q => h (Or.inr q)
  simp [h1, h2]
theorem b_fits2 {v : Int32} (h : v < 0 ∨ 99 < v) (F : Nat) (σ : zMem) : f_X2_fits F σ 2 v = some (0, σ) := by
  rw [e_fits2]
  by_cases h1 : v < 0
  · simp [h1]
  · have h2 := h.resolve_left h1
    simp [h1, h2]
theorem g_fits2 {v : Int32} (h : ¬ (v < 0 ∨ 99 < v)) (F : Nat) (σ : zMem) : f_X2_fits F σ 2 v = some (1, σ) := by
  rw [e_fits2]
  have h1 : ¬ v < 0 := fun q => h (Or.inl q)
  have h2 : ¬ 99 < v := fun q => h (Or.inr q)
  simp [h1, h2]
theorem b_isN2 {v : Int32} (h : v < 0 ∨ 99 < v) (F : Nat) (σ : zMem) : f_X11_isNumber F σ 2 v = some (0, σ) := by
  rw [e_isN2]
  by_cases h1 : v < 0
  · simp [h1]
  · have h2 := h.resolve_left h1
    simp [h1, h2]
theorem g_isN2 {v : Int32} (h : ¬ (v < 0 ∨ 99 < v)) (F : Nat) (σ : zMem) : f_X11_isNumber F σ 2 v = some (1, σ) := by
  rw [e_isN2]
  have h1 : ¬ v < 0 := fun q => h (Or.inl q)
  have h2 : ¬ 99 < v := fun q => h (Or.inr q)
  simp [h1, h2]
theorem b_fits3 {v : Int32} (h : v < 0 ∨ 99999 < v) (F : Nat) (σ : zMem) : f_X2_fits F σ 3 v = some (0, σ) := by
  rw [e_fits3]
  by_cases h1 : v < 0
  · simp [h1]
  · have h2 := h.resolve_left h1
    simp [h1, h2]
theorem g_fits3 {v : Int32} (h : ¬ (v < 0 ∨ 99999 < v)) (F : Nat) (σ : zMem) : f_X2_fits F σ 3 v = some (1, σ) := by
  rw [e_fits3]
  have h1 : ¬ v < 0 := fun q => h (Or.inl q)
  have h2 : ¬ 99999 < v := fun q => h (Or.inr q)
  simp [h1, h2]
theorem b_isN3 {v : Int32} (h : v < 0 ∨ 99999 < v) (F : Nat) (σ : zMem) : f_X11_isNumber F σ 3 v = some (0, σ) := by
  rw [e_isN3]
  by_cases h1 : v < 0
  · simp [h1]
  · have h2 := h.resolve_left h1
    simp [h1, h2]
theorem g_isN3 {v : Int32} (h : ¬ (v < 0 ∨ 99999 < v)) (F : Nat) (σ : zMem) : f_X11_isNumber F σ 3 v = some (1, σ) := by
  rw [e_isN3]
  have h1 : ¬ v < 0 := fun q => h (Or.inl q)
  have h2 : ¬ 99999 < v := fun q => h (Or.inr q)
  simp [h1, h2]
theorem zib_n {v a b : Int32} {A B : Int} (h : ¬ (v < a ∨ b < v)) (ha : A ≤ a.toInt) (hb : b.toInt ≤ B) : zib v A B := zib_i (fun q => h (Or.inl q)) (fun q => h (Or.inr q)) ha hb
theorem a_house {σ : zMem} (hR : zRel σ) (F : Nat) (v0 v1 v2 v3 : Int32) : zOK (fun σ => f_X10_house F σ v0 v1 v2 v3) (fun σ => f_X11_house F σ v0 v1 v2 v3) σ := by
  obtain ⟨n, hn, e1, e2⟩ := zRh_n hR.1
  by_cases h0 : v0 < 1 ∨ 9 < v0
  · exact zOK_same hR (-2) (by simp [f_X10_house, zb, b_fits0 h0]) (by simp [f_X11_house, zb, b_isN0 h0])
  by_cases h1 : v1 < 1 ∨ 20 < v1
  · exact zOK_same hR (-2) (by simp [f_X10_house, zb, g_fits0 h0, b_fits1 h1]) (by simp [f_X11_house, zb, g_isN0 h0, b_isN1 h1])
  by_cases h2 : v2 < 0 ∨ 99 < v2
  · exact zOK_same hR (-2) (by simp [f_X10_house, zb, g_fits0 h0, g_fits1 h1, b_fits2 h2]) (by simp [f_X11_house, zb, g_isN0 h0, g_isN1 h1, b_isN2 h2])
  by_cases h3 : v3 < 0 ∨ 99999 < v3
  · exact zOK_same hR (-2) (by simp [f_X10_house, zb, g_fits0 h0, g_fits1 h1, g_fits2 h2, b_fits3 h3]) (by simp [f_X11_house, zb, g_isN0 h0, g_isN1 h1, g_isN2 h2, b_isN3 h3])
  by_cases n10 : n = 10
  · subst n10
    exact zOK_same hR (-4) (by simp [f_X10_house, zb, g_fits0 h0, g_fits1 h1, g_fits2 h2, g_fits3 h3, e1, show ¬ nI 10 < 10 by decide]) (by simp [f_X11_house, zb, g_isN0 h0, g_isN1 h1, g_isN2 h2, g_isN3 h3, e2, show nI 10 = 10 by rfl])
  have c1 : nI n < 10 := (nI_ltI (a := n) (b := 10) (by omega) (by omega)).mpr (by omega)
  have c2 : ¬ nI n = 10 := fun q => n10 ((nI_eq (a := n) (b := 10) (by omega) (by omega)).mp q)
  have i1 := inb_n (show n < 10 by omega) (by omega)
  have i2 := nI_clamp (show n < 2 ^ 31 by omega)
  have t0 : inb 0 4 = true ∧ inb 1 4 = true ∧ inb 2 4 = true ∧ inb 3 4 = true ∧ inb 0 5 = true ∧ inb 1 5 = true ∧ inb 2 5 = true ∧ inb 3 5 = true := by decide
  refine zOK_i (nI n) (zwi (zwi (zwi (zwi (zwi σ 3 n 0 v0) 3 n 1 v1) 3 n 2 v2) 3 n 3 v3) 0 0 1 (nI n + 1)) (zwi (zwi (zwi (zwi (zwi (zwi (zwi (zwi (zwi (zwi σ 3 n 0 v0) 3 n 1 v1) 3 n 2 v2) 3 n 3 v3) 0 0 1 (nI n + 1)) 62 n 0 v0) 62 n 1 v1) 62 n 2 v2) 62 n 3 v3) 60 0 1 (nI n + 1)) ?_ ?_ ?_
  · simp [f_X10_house, zb, g_fits0 h0, g_fits1 h1, g_fits2 h2, g_fits3 h3, e1, c1, i1, i2, t0, zg, zwi, zu]
  · simp only [f_X11_house, zb, g_isN0 h0, g_isN1 h1, g_isN2 h2, g_isN3 h3]
    simp [e2, c2, i1, i2, t0, zg, zwi, zu]
  · obtain ⟨hh, hr, hw, hk, ha, hd, hl, hc, ht, hb, hQ⟩ := hR
    refine ⟨?_, ?_, ?_, ?_, ?_, ?_, ?_, ?_, ?_, ?_, ?_⟩
    · obtain ⟨g1, g2, g3, g4, g5, g6⟩ := hh
      refine ⟨⟨n + 1, by omega, by simp [zwi, zu, nI_1]⟩, by simp [zwi, zu], fun y z hy hz => ?_, fun y hy => ?_, by simpa [zwi, zu] using g5, by simpa [zwi, zu] using g6⟩
      · have := g3 y z hy hz
        simp [zwi, zu, this]
      · simpa [zwi, zu] using g4 y hy
    · simpa [zRr, zwi, zu] using hr
    · simpa [zRw, zwi, zu] using hw
    · simpa [zRk, zwi, zu] using hk
    · simpa [zRa, zwi, zu] using ha
    · simpa [zRd, zwi, zu] using hd
    · simpa [zRl, zwi, zu] using hl
    · obtain ⟨p1, p2, p3, p4, p5⟩ := hc
      refine ⟨by simpa [zwi, zu] using p1, by simpa [zwi, zu] using p2, by simpa [zwi, zu] using p3, fun k hk => ?_, by simpa [zwi, zu] using p5⟩
      obtain ⟨q1, q2⟩ := p4 k hk
      refine ⟨by simpa [zwi, zu] using q1, ?_⟩
      rcases q2 with q2 | ⟨q2, q3⟩
      · exact Or.inl (by simpa [zwi, zu] using q2)
      · refine Or.inr ⟨by simpa [zwi, zu] using q2, ?_⟩
        rw [e2, Int32.lt_iff_toInt_lt, nI_toInt (by omega)] at q3
        simp only [zwi, zu]
        simp
        rw [nI_1, Int32.lt_iff_toInt_lt, nI_toInt (by omega)]
        omega
    · simpa [zRt, zwi, zu] using ht
    · simpa [zRb, zwi, zu] using hb
    · obtain ⟨y1, y2, y3, y4, y5, y6, y7, y8, y9, y10⟩ := hQ
      refine ⟨?_, ?_, by simpa [zwi, zu] using y3, by simpa [zwi, zu] using y4, ?_, by simpa [zwi, zu] using y6, by simpa [zwi, zu] using y7, by simpa [zwi, zu] using y8, by simpa [zwi, zu] using y9, by simpa [zwi, zu] using y10⟩
      · intro z hz
        have k1 := y1 z hz
        by_cases e : z = n
        · subst e
          obtain ⟨b1, b2, b3, b4, b5⟩ := k1
          simp only [zwi, zu]
          simp
          exact ⟨zib_n h0 (by decide) (by decide), zib_n h1 (by decide) (by decide), zib_n h2 (by decide) (by decide), zib_n h3 (by decide) (by decide), b5⟩
        · simpa [zwi, zu, e] using k1
      · intro z hz
        have k1 := y2 z hz
        by_cases e : z = n
        · subst e
          have k2 := (y5 z hz (by rw [e2]; exact Int32.le_refl _)).1
          rw [k2] at k1
          have k3 := (zib_n h2 (A := 0) (B := 99) (by decide) (by decide)).1
          have k4 : (0 : Int32).toInt = 0 := rfl
          have k5 := k1.2
          refine ⟨by simpa [zwi, zu] using k1.1, ?_⟩
          simp only [zwi, zu]
          simp
          omega
        · simpa [zwi, zu, e] using k1
      · intro z hz1 hz2
        have k0 : nI n + 1 ≤ nI z := by simpa [zwi, zu] using hz2
        rw [nI_1, nI_leI (by omega) (by omega)] at k0
        have k2 : σ.1 60 0 1 ≤ nI z := by rw [e2]; exact (nI_leI (by omega) (by omega)).mpr (by omega)
        have k1 := y5 z hz1 k2
        have e : ¬ z = n := by omega
        simpa [zwi, zu, e] using k1
theorem a_alp {σ : zMem} (hR : zRel σ) (F : Nat) (x y : Int32) : zOK (fun σ => f_X10_alp F σ x y) (fun σ => f_X11_alp F σ x y) σ := by
  obtain ⟨-, -, ⟨n, hn, e1, hz⟩, e2, -⟩ := id hR.2.2.2.2.1
  have e2 := e2.trans e1
  by_cases x1 : x < 0
  · exact zOK_same hR (-2) (by simp [f_X10_alp, x1]) (by simp [f_X11_alp, e_X11_in, zb, x1])
  by_cases x2 : 3 < x
  · exact zOK_same hR (-2) (by simp [f_X10_alp, x1, x2]) (by simp [f_X11_alp, e_X11_in, zb, x1, x2])
  by_cases y1 : y < 1
  · exact zOK_same hR (-2) (by simp [f_X10_alp, x1, x2, y1]) (by simp [f_X11_alp, e_X11_in, zb, x1, x2, y1])
  by_cases y2 : 99 < y
  · exact zOK_same hR (-2) (by simp [f_X10_alp, x1, x2, y1, Int32.not_le.mpr y2]) (by simp [f_X11_alp, e_X11_in, zb, x1, x2, y1, y2])
  by_cases n4 : n = 4
  · subst n4
    exact zOK_same hR (-4) (by simp [f_X10_alp, x1, x2, y1, Int32.not_lt.mp y2, e1, show ¬ nI 4 < 4 by decide]) (by simp [f_X11_alp, e_X11_in, zb, x1, x2, y1, y2, e2, show nI 4 = 4 by rfl])
  have c1 : nI n < 4 := (nI_ltI (a := n) (b := 4) (by omega) (by omega)).mpr (by omega)
  have c2 : ¬ nI n = 4 := fun q => n4 ((nI_eq (a := n) (b := 4) (by omega) (by omega)).mp q)
  have i1 := inb_n (show n < 4 by omega) (by omega)
  have i2 := nI_clamp (show n < 2 ^ 31 by omega)
  refine zOK_i (nI n) (zwi (zwi (zwi σ 26 0 n x) 27 0 n y) 25 0 4 (nI n + 1)) (zwi (zwi (zwi (zwi (zwi (zwi σ 26 0 n x) 27 0 n y) 25 0 4 (nI n + 1)) 87 0 n x) 88 0 n y) 60 0 25 (nI n + 1)) ?_ ?_ ?_
  · simp [f_X10_alp, f_X0_enter, zb, x1, x2, y1, Int32.not_lt.mp y2, e1, c1, i1, i2, zg, zwi, zu]
  · simp [f_X11_alp, e_X11_in, zb, x1, x2, y1, y2, e2, c2, i1, i2, zg, zwi, zu]
  · obtain ⟨hh, hr, hw, hk, ha, hd, hl, hc, ht, hb, hQ⟩ := hR
    refine ⟨?_, ?_, ?_, ?_, ?_, ?_, ?_, ?_, ?_, ?_, ?_⟩
    · simpa [zRh, zwi, zu] using hh
    · simpa [zRr, zwi, zu] using hr
    · simpa [zRw, zwi, zu] using hw
    · simpa [zRk, zwi, zu] using hk
    · obtain ⟨p1, p2, p3, p4, p5, p6, p7⟩ := ha
      refine ⟨by simpa [zwi, zu] using p1, by simpa [zwi, zu] using p2, ⟨n + 1, by omega, by simp [zwi, zu, nI_1], fun h a h1 h2 h3 => ?_⟩, by simp [zwi, zu], fun a h1 => ?_, by simpa [zwi, zu] using p6, by simpa [zwi, zu] using p7⟩
      · simpa [zwi, zu] using hz h a h1 (by omega) h3
      · have := p5 a h1
        by_cases e : a = n
        · subst e
          simp [zwi, zu, this]
        · simpa [zwi, zu, e] using this
    · simpa [zRd, zwi, zu] using hd
    · simpa [zRl, zwi, zu] using hl
    · simpa [zRc, zwi, zu] using hc
    · simpa [zRt, zwi, zu] using ht
    · simpa [zRb, zwi, zu] using hb
    · have y1' := y1
      have y2' := y2
      obtain ⟨y1, y2, y3, y4, y5, y6, y7, y8, y9, y10⟩ := hQ
      refine ⟨by simpa [zwi, zu] using y1, by simpa [zwi, zu] using y2, by simpa [zwi, zu] using y3, by simpa [zwi, zu] using y4, by simpa [zwi, zu] using y5, ?_, by simpa [zwi, zu] using y7, by simpa [zwi, zu] using y8, by simpa [zwi, zu] using y9, by simpa [zwi, zu] using y10⟩
      · intro z hz
        have k1 := y6 z hz
        by_cases e : z = n
        · subst e
          refine ⟨?_, by simpa [zwi, zu] using k1.2⟩
          simp only [zwi, zu]
          simp
          have k2 := zib_i y1' y2' (A := 1) (B := 99) (by decide) (by decide)
          exact ⟨by have := k2.1; omega, k2.2⟩
        · simpa [zwi, zu, e] using k1
