theorem e_fits0 (F : Nat) (σ : zMem) (v : Int32) : f_X2_fits F σ 0 v = some (if v < 1 then 0 else if 9 < v then 0 else 1, σ) := by
  unfold f_X2_fits
  rw [show inb 0 4 = true by decide, zg_t]
  show (if v < 1 then some (0, σ) else zg true (if 9 < v then some (0, σ) else some (1, σ))) = _
  by_cases h1 : v < 1
  · simp [h1]
  · by_cases h2 : 9 < v <;> simp [h1, h2, zg]
theorem e_isN0 (F : Nat) (σ : zMem) (v : Int32) : f_X11_isNumber F σ 0 v = some (if v < 1 then 0 else if 9 < v then 0 else 1, σ) := by
  unfold f_X11_isNumber
  simp only [e_X11_in, zb]
  by_cases h1 : v < 1
  · simp [h1, zg, zbo]
  · by_cases h2 : 9 < v <;> simp [h1, h2, zg, zbo]
theorem e_fits1 (F : Nat) (σ : zMem) (v : Int32) : f_X2_fits F σ 1 v = some (if v < 1 then 0 else if 20 < v then 0 else 1, σ) := by
  unfold f_X2_fits
  rw [show inb 1 4 = true by decide, zg_t]
  show (if v < 1 then some (0, σ) else zg true (if 20 < v then some (0, σ) else some (1, σ))) = _
  by_cases h1 : v < 1
  · simp [h1]
  · by_cases h2 : 20 < v <;> simp [h1, h2, zg]
theorem e_isN1 (F : Nat) (σ : zMem) (v : Int32) : f_X11_isNumber F σ 1 v = some (if v < 1 then 0 else if 20 < v then 0 else 1, σ) := by
  unfold f_X11_isNumber
  simp only [e_X11_in, zb]
  by_cases h1 : v < 1
  · simp [h1, zg, zbo]
  · by_cases h2 : 20 < v <;> simp [h1, h2, zg, zbo]
theorem e_fits2 (F : Nat) (σ : zMem) (v : Int32) : f_X2_fits F σ 2 v = some (if v < 0 then 0 else if 99 < v then 0 else 1, σ) := by
  unfold f_X2_fits
  rw [show inb 2 4 = true by decide, zg_t]
  show (if v < 0 then some (0, σ) else zg true (if 99 < v then some (0, σ) else some (1, σ))) = _
  by_cases h1 : v < 0
  · simp [h1]
  · by_cases h2 : 99 < v <;> simp [h1, h2, zg]
theorem e_isN2 (F : Nat) (σ : zMem) (v : Int32) : f_X11_isNumber F σ 2 v = some (if v < 0 then 0 else if 99 < v then 0 else 1, σ) := by
  unfold f_X11_isNumber
  simp only [e_X11_in, zb]
  by_cases h1 : v < 0
  · simp [h1, zg, zbo]
  · by_cases h2 : 99 < v <;> simp [h1, h2, zg, zbo]
theorem e_fits3 (F : Nat) (σ : zMem) (v : Int32) : f_X2_fits F σ 3 v = some (if v < 0 then 0 else if 99999 < v then 0 else 1, σ) := by
  unfold f_X2_fits
  rw [show inb 3 4 = true by decide, zg_t]
  show (if v < 0 then some (0, σ) else zg true (if 99999 < v then some (0, σ) else some (1, σ))) = _
  by_cases h1 : v < 0
  · simp [h1]
  · by_cases h2 : 99999 < v <;> simp [h1, h2, zg]
theorem e_isN3 (F : Nat) (σ : zMem) (v : Int32) : f_X11_isNumber F σ 3 v = some (if v < 0 then 0 else if 99999 < v then 0 else 1, σ) := by
  unfold f_X11_isNumber
  simp only [e_X11_in, zb]
  by_cases h1 : v < 0
  · simp [h1, zg, zbo]
  · by_cases h2 : 99999 < v <;> simp [h1, h2, zg, zbo]
theorem zib_i {v a b : Int32} {A B : Int} (h1 : ¬ v < a) (h2 : ¬ b < v) (ha : A ≤ a.toInt) (hb : b.toInt ≤ B) : zib v A B := by
  rw [Int32.lt_iff_toInt_lt] at h1 h2
  exact ⟨by omega, by omega⟩
theorem t_add {x y : Int32} (h1 : -2147483648 ≤ x.toInt + y.toInt) (h2 : x.toInt + y.toInt ≤ 2147483647) : (x + y).toInt = x.toInt + y.toInt := by
  rw [Int32.toInt_add, Int.bmod_eq_of_le (by omega) (by omega)]
theorem t_sub {x y : Int32} (h1 : -2147483648 ≤ x.toInt - y.toInt) (h2 : x.toInt - y.toInt ≤ 2147483647) : (x - y).toInt = x.toInt - y.toInt := by
  rw [Int32.toInt_sub, Int.bmod_eq_of_le (by omega) (by omega)]
theorem zup_t {σ : zMem} (hR : zRel σ) {h : Nat} (hh : h < 10) : (zup σ h).toInt = (σ.1 72 0 h).toInt + (σ.1 72 1 h).toInt + (σ.1 72 2 h).toInt + (σ.1 72 3 h).toInt ∧ 0 ≤ (zup σ h).toInt ∧ (zup σ h).toInt ≤ 99 := by
  have g5 := hR.1.2.2.2.2.1 h
  obtain ⟨y1, y2, -⟩ := hR.2.2.2.2.2.2.2.2.2.2
  obtain ⟨-, -, y3, -⟩ := y1 h hh
  obtain ⟨y4, y5⟩ := y2 h hh
  have z0 := y4 0 (by omega)
  have z1 := y4 1 (by omega)
  have z2 := y4 2 (by omega)
  have z3 := y4 3 (by omega)
  have z9 := y3.2
  unfold zup
  rw [g5 0 hh (by omega), g5 1 hh (by omega), g5 2 hh (by omega), g5 3 hh (by omega)]
  have o : (0 : Int32).toInt = 0 := rfl
  have s1 := t_add (x := 0) (y := σ.1 72 0 h) (by omega) (by omega)
  have s2 := t_add (x := 0 + σ.1 72 0 h) (y := σ.1 72 1 h) (by omega) (by omega)
  have s3 := t_add (x := 0 + σ.1 72 0 h + σ.1 72 1 h) (y := σ.1 72 2 h) (by omega) (by omega)
  have s4 := t_add (x := 0 + σ.1 72 0 h + σ.1 72 1 h + σ.1 72 2 h) (y := σ.1 72 3 h) (by omega) (by omega)
  refine ⟨by omega, by omega, by omega⟩
theorem zup_le {σ : zMem} (hR : zRel σ) {h : Nat} (hh : h < 10) {v : Int32} (hv : zup σ h ≤ v) : (σ.1 72 0 h).toInt + (σ.1 72 1 h).toInt + (σ.1 72 2 h).toInt + (σ.1 72 3 h).toInt ≤ v.toInt := by
  rw [← (zup_t hR hh).1]
  exact Int32.le_iff_toInt_le.mp hv
theorem p_has {σ : zMem} (hR : zRel σ) {h j : Nat} (hj : j < 4) (v : Int32) (hm : ¬ σ.1 60 0 1 ≤ nI h) (hv : zib v 0 (if j = 0 then 9 else if j = 1 then 20 else if j = 2 then 99 else 99999)) (hu : j = 2 → h < 10 → (σ.1 72 0 h).toInt + (σ.1 72 1 h).toInt + (σ.1 72 2 h).toInt + (σ.1 72 3 h).toInt ≤ v.toInt) : zRel (zwi (zwi σ 3 h j v) 62 h j v) := by
  obtain ⟨hh, hr, hw, hk, ha, hd, hl, hc, ht, hb, hQ⟩ := hR
  refine ⟨?_, ?_, ?_, ?_, ?_, ?_, ?_, ?_, ?_, ?_, ?_⟩
  · obtain ⟨g1, g2, g3, g4, g5, g6⟩ := hh
    refine ⟨by simpa [zwi, zu] using g1, by simpa [zwi, zu] using g2, fun y z hy hz => ?_, fun y hy => ?_, by simpa [zwi, zu] using g5, by simpa [zwi, zu] using g6⟩
    · have := g3 y z hy hz
      by_cases e : y = h ∧ z = j
      · obtain ⟨rfl, rfl⟩ := e
        simp [zwi, zu]
      · simpa [zwi, zu, e] using this
    · have := g4 y hy
      by_cases e : y = h ∧ 4 = j
      · omega
      · simpa [zwi, zu, e] using this
  · simpa [zRr, zwi, zu] using hr
  · simpa [zRw, zwi, zu] using hw
  · simpa [zRk, zwi, zu] using hk
  · simpa [zRa, zwi, zu] using ha
  · simpa [zRd, zwi, zu] using hd
  · simpa [zRl, zwi, zu] using hl
  · simpa [zRc, zwi, zu] using hc
  · simpa [zRt, zwi, zu] using ht
  · simpa [zRb, zwi, zu] using hb
  · obtain ⟨y1, y2, y3, y4, y5, y6, y7, y8, y9, y10⟩ := hQ
    refine ⟨?_, ?_, by simpa [zwi, zu] using y3, by simpa [zwi, zu] using y4, ?_, by simpa [zwi, zu] using y6, by simpa [zwi, zu] using y7, by simpa [zwi, zu] using y8, by simpa [zwi, zu] using y9, by simpa [zwi, zu] using y10⟩
    · intro z hz
      have k1 := y1 z hz
      by_cases e : z = h
      · subst e
        obtain ⟨b1, b2, b3, b4, b5⟩ := k1
        rcases j with _ | _ | _ | _ | j
        · simp at hv
          simpa [zwi, zu] using ⟨hv, b2, b3, b4, b5⟩
        · simp at hv
          simpa [zwi, zu] using ⟨b1, hv, b3, b4, b5⟩
        · simp at hv
          simpa [zwi, zu] using ⟨b1, b2, hv, b4, b5⟩
        · simp at hv
          simpa [zwi, zu] using ⟨b1, b2, b3, hv, b5⟩
        · omega
      · simpa [zwi, zu, e] using k1
    · intro z hz
      have k1 := y2 z hz
      by_cases e : z = h
      · subst e
        by_cases e2 : 2 = j
        · subst e2
          have k3 := hu rfl hz
          simpa [zwi, zu] using ⟨k1.1, k3⟩
        · simpa [zwi, zu, e2] using k1
      · simpa [zwi, zu, e] using k1
    · intro z hz1 hz2
      have k2 : σ.1 60 0 1 ≤ nI z := by simpa [zwi, zu] using hz2
      have k1 := y5 z hz1 k2
      have e : ¬ z = h := fun e => hm (e ▸ k2)
      simpa [zwi, zu, e] using k1
theorem a_slope {σ : zMem} (hR : zRel σ) (F : Nat) (v : Int32) : zOK (fun σ => f_X10_slope F σ v) (fun σ => f_X11_slope F σ v) σ := by
  obtain ⟨⟨n, hn, e1⟩, e2, g3, g4⟩ := hR.2.2.2.2.2.2.1
  have e2 := e2.trans e1
  by_cases v1 : v < 0
  · exact zOK_same hR (-2) (by simp [f_X10_slope, v1]) (by simp [f_X11_slope, e_X11_in, zb, v1])
  by_cases v2 : 400 < v
  · exact zOK_same hR (-2) (by simp [f_X10_slope, v1, Int32.not_le.mpr v2]) (by simp [f_X11_slope, e_X11_in, zb, v1, v2])
  by_cases n6 : n = 6
  · subst n6
    exact zOK_same hR (-4) (by simp [f_X10_slope, v1, Int32.not_lt.mp v2, e1, show ¬ nI 6 < 6 by decide]) (by simp [f_X11_slope, e_X11_in, zb, v1, v2, e2, show nI 6 = 6 by rfl])
  have c1 : nI n < 6 := (nI_ltI (a := n) (b := 6) (by omega) (by omega)).mpr (by omega)
  have c2 : ¬ nI n = 6 := fun q => n6 ((nI_eq (a := n) (b := 6) (by omega) (by omega)).mp q)
  have i1 := inb_n (show n < 6 by omega) (by omega)
  have i2 := nI_clamp (show n < 2 ^ 31 by omega)
  refine zOK_i (nI n) (zwi (zwi σ 40 n 0 v) 38 0 1 (nI n + 1)) (zwi (zwi (zwi (zwi σ 40 n 0 v) 38 0 1 (nI n + 1)) 93 0 n v) 60 0 32 (nI n + 1)) ?_ ?_ ?_
  · simp [f_X10_slope, v1, Int32.not_lt.mp v2, e1, c1, i1, i2, zg, zwi, zu]
  · simp [f_X11_slope, e_X11_in, zb, v1, v2, e2, c2, i1, i2, zg, zwi, zu]
  · obtain ⟨hh, hr, hw, hk, ha, hd, hl, hc, ht, hb, hQ⟩ := hR
    refine ⟨?_, ?_, ?_, ?_, ?_, ?_, ?_, ?_, ?_, ?_, ?_⟩
    · simpa [zRh, zwi, zu] using hh
    · simpa [zRr, zwi, zu] using hr
    · simpa [zRw, zwi, zu] using hw
    · simpa [zRk, zwi, zu] using hk
    · simpa [zRa, zwi, zu] using ha
    · simpa [zRd, zwi, zu] using hd
    · obtain ⟨p1, p2, p3, p4⟩ := hl
      refine ⟨⟨n + 1, by omega, by simp [zwi, zu, nI_1]⟩, by simp [zwi, zu], fun z hz => ?_, by simpa [zwi, zu] using p4⟩
      have := p3 z hz
      by_cases e : z = n
      · subst e
        obtain ⟨k1, k2, k3, k4, k5, k6, k7⟩ := this
        simp [zwi, zu]
        exact ⟨k2, k3, Int32.not_lt.mp v1, Int32.not_lt.mp v2, k6, k7⟩
      · simpa [zwi, zu, e] using this
    · simpa [zRc, zwi, zu] using hc
    · simpa [zRt, zwi, zu] using ht
    · simpa [zRb, zwi, zu] using hb
    · simpa [zRz, zwi, zu] using hQ
theorem a_change {σ : zMem} (hR : zRel σ) {F : Nat} (hF : 100 < F) (x y v : Int32) : zOK (fun σ => f_X10_change F σ x y v) (fun σ => f_X11_change F σ x y v) σ := by
  obtain ⟨n, hn, e1, e2⟩ := zRh_n hR.1
  obtain ⟨-, -, ⟨m, hm, em, -⟩, em2, -⟩ := id hR.2.2.2.2.1
  have em2 := em2.trans em
  have eu := hR.1.2.2.2.2.2
  rcases zix (n := n) (by omega) x with ⟨h, hh, rfl, b1, b2, b3, b4⟩ | ⟨_, b⟩
  · have i1 := inb_n (show h < 10 by omega) (by omega)
    have i2 := nI_clamp (show h < 2 ^ 31 by omega)
    have p := fun j => hR.1.2.2.1 h j (by omega)
    have u1 := e_X11_upOf (σ := σ) (h := h) hF (by omega) hm em2 eu
    have uz := zup_eq hR (show h < 10 by omega) hm em
    rw [uz] at u1
    have u2 := e_X2_allUp (σ := σ) (F := F) (h := h) hF (by omega)
    by_cases ho : y.toInt < 0 ∨ 3 < y.toInt
    · have y1 : y < 0 ∨ ¬ y < 0 ∧ 3 < y := by
        by_cases q : y < 0
        · exact Or.inl q
        · refine Or.inr ⟨q, ?_⟩
          rw [Int32.lt_iff_toInt_lt] at q ⊢
          have e0 : (0 : Int32).toInt = 0 := rfl
          have e3 : (3 : Int32).toInt = 3 := rfl
          omega
      rcases y1 with y1 | ⟨y0, y1⟩
      · refine zOK_same hR (-1) ?_ ?_
        · simp only [f_X10_change]
          rw [e_X10_isHouse e1 F b1 b2]
          simp [zb, y1]
        · simp only [f_X11_change]
          rw [e_X11_isHouse e2 F b1 b3]
          simp [zb, e_X11_in, y1]
      · have y2 : ¬ y < 4 := by
          rw [Int32.lt_iff_toInt_lt] at y1 ⊢
          have e4 : (4 : Int32).toInt = 4 := rfl
          have e3 : (3 : Int32).toInt = 3 := rfl
          omega
        refine zOK_same hR (-1) ?_ ?_
        · simp only [f_X10_change]
          rw [e_X10_isHouse e1 F b1 b2]
          simp [zb, y0, y2]
        · simp only [f_X11_change]
          rw [e_X11_isHouse e2 F b1 b3]
          simp [zb, e_X11_in, y0, y1]
    obtain ⟨k, hk, rfl⟩ := zlit (m := 3) (by omega) ho
    rcases k with _ | _ | _ | _ | k
    · show zOK (fun σ => f_X10_change F σ (nI h) 0 v) (fun σ => f_X11_change F σ (nI h) 0 v) σ
      by_cases v1 : v < 1
      · refine zOK_same hR (-2) ?_ ?_
        · simp only [f_X10_change]
          rw [e_X10_isHouse e1 F b1 b2]
          simp [zb, zg, i1, e_fits0, v1]
        · simp only [f_X11_change]
          rw [e_X11_isHouse e2 F b1 b3]
          simp [zb, e_X11_in, e_isN0, v1]
      by_cases v2 : 9 < v
      · refine zOK_same hR (-2) ?_ ?_
        · simp only [f_X10_change]
          rw [e_X10_isHouse e1 F b1 b2]
          simp [zb, zg, i1, e_fits0, v1, v2]
        · simp only [f_X11_change]
          rw [e_X11_isHouse e2 F b1 b3]
          simp [zb, e_X11_in, e_isN0, v1, v2]
      refine zOK_i (σ.1 62 h 0) (zwi σ 3 h 0 v) (zwi (zwi σ 3 h 0 v) 62 h 0 v) ?_ ?_ (p_has hR (by omega) v (by rw [e2]; exact b2) (zib_i v1 v2 (by decide) (by decide)) (by intro q; omega))
      · simp only [f_X10_change]
        rw [e_X10_isHouse e1 F b1 b2]
        simp [zb, zg, i1, i2, e_fits0, v1, v2, f_X10_change_52, show inb 0 4 = true by decide, show h < 10 by omega, p 0 (by omega)]
      · simp only [f_X11_change]
        rw [e_X11_isHouse (by simpa [zwi, zu] using e2) F b1 b3]
        simp [zb, zg, e_X11_in, i1, i2, e_isN0, v1, v2, f_X11_change_44, show inb 0 5 = true by decide, zwi, zu]
    · show zOK (fun σ => f_X10_change F σ (nI h) 1 v) (fun σ => f_X11_change F σ (nI h) 1 v) σ
      by_cases v1 : v < 1
      · refine zOK_same hR (-2) ?_ ?_
        · simp only [f_X10_change]
          rw [e_X10_isHouse e1 F b1 b2]
          simp [zb, zg, i1, e_fits1, v1]
        · simp only [f_X11_change]
          rw [e_X11_isHouse e2 F b1 b3]
          simp [zb, e_X11_in, e_isN1, v1]
      by_cases v2 : 20 < v
      · refine zOK_same hR (-2) ?_ ?_
        · simp only [f_X10_change]
          rw [e_X10_isHouse e1 F b1 b2]
          simp [zb, zg, i1, e_fits1, v1, v2]
        · simp only [f_X11_change]
          rw [e_X11_isHouse e2 F b1 b3]
          simp [zb, e_X11_in, e_isN1, v1, v2]
      refine zOK_i (σ.1 62 h 1) (zwi σ 3 h 1 v) (zwi (zwi σ 3 h 1 v) 62 h 1 v) ?_ ?_ (p_has hR (by omega) v (by rw [e2]; exact b2) (zib_i v1 v2 (by decide) (by decide)) (by intro q; omega))
      · simp only [f_X10_change]
        rw [e_X10_isHouse e1 F b1 b2]
        simp [zb, zg, i1, i2, e_fits1, v1, v2, f_X10_change_52, show inb 1 4 = true by decide, show h < 10 by omega, p 1 (by omega)]
      · simp only [f_X11_change]
        rw [e_X11_isHouse (by simpa [zwi, zu] using e2) F b1 b3]
        simp [zb, zg, e_X11_in, i1, i2, e_isN1, v1, v2, f_X11_change_44, show inb 1 5 = true by decide, zwi, zu]
    · show zOK (fun σ => f_X10_change F σ (nI h) 2 v) (fun σ => f_X11_change F σ (nI h) 2 v) σ
      by_cases v1 : v < 0
      · refine zOK_same hR (-2) ?_ ?_
        · simp only [f_X10_change]
          rw [e_X10_isHouse e1 F b1 b2]
          simp [zb, zg, i1, e_fits2, v1]
        · simp only [f_X11_change]
          rw [e_X11_isHouse e2 F b1 b3]
          simp [zb, e_X11_in, e_isN2, v1]
      by_cases v2 : 99 < v
      · refine zOK_same hR (-2) ?_ ?_
        · simp only [f_X10_change]
          rw [e_X10_isHouse e1 F b1 b2]
          simp [zb, zg, i1, e_fits2, v1, v2]
        · simp only [f_X11_change]
          rw [e_X11_isHouse e2 F b1 b3]
          simp [zb, e_X11_in, e_isN2, v1, v2]
      by_cases u3 : ¬ zup σ h ≤ v
      · refine zOK_same hR (-2) ?_ ?_
        · simp only [f_X10_change]
          rw [e_X10_isHouse e1 F b1 b2]
          simp [zb, zg, i1, i2, e_fits2, v1, v2, u2, u3]
        · simp only [f_X11_change]
          rw [e_X11_isHouse e2 F b1 b3]
          simp [zb, e_X11_in, e_isN2, v1, v2, u1, u3]
      have u3 := Decidable.not_not.mp u3
      have u4 := e_X11_upOf (σ := zwi σ 3 h 2 v) (h := h) hF (by omega) hm (by simpa [zwi, zu] using em2) (by simpa [zwi, zu] using eu)
      rw [show zsum (fun a => (zwi σ 3 h 2 v).1 72 a h) m = zup σ h by rw [← uz]; exact zsum_c (fun i _ => by simp [zwi, zu])] at u4
      simp only [zwi] at u4
      refine zOK_i (σ.1 62 h 2) (zwi σ 3 h 2 v) (zwi (zwi σ 3 h 2 v) 62 h 2 v) ?_ ?_ (p_has hR (by omega) v (by rw [e2]; exact b2) (zib_i v1 v2 (by decide) (by decide)) (by intro _ hh9; exact zup_le hR hh9 u3))
      · simp only [f_X10_change]
        rw [e_X10_isHouse e1 F b1 b2]
        simp [zb, zg, i1, i2, e_fits2, v1, v2, f_X10_change_52, show inb 2 4 = true by decide, show h < 10 by omega, p 2 (by omega), i2, u2, u3]
      · simp only [f_X11_change]
        rw [e_X11_isHouse (by simpa [zwi, zu] using e2) F b1 b3]
        simp [zb, zg, e_X11_in, i1, i2, e_isN2, v1, v2, f_X11_change_44, show inb 2 5 = true by decide, zwi, zu, u4, u3]
    · show zOK (fun σ => f_X10_change F σ (nI h) 3 v) (fun σ => f_X11_change F σ (nI h) 3 v) σ
      by_cases v1 : v < 0
      · refine zOK_same hR (-2) ?_ ?_
        · simp only [f_X10_change]
          rw [e_X10_isHouse e1 F b1 b2]
          simp [zb, zg, i1, e_fits3, v1]
        · simp only [f_X11_change]
          rw [e_X11_isHouse e2 F b1 b3]
          simp [zb, e_X11_in, e_isN3, v1]
      by_cases v2 : 99999 < v
      · refine zOK_same hR (-2) ?_ ?_
        · simp only [f_X10_change]
          rw [e_X10_isHouse e1 F b1 b2]
          simp [zb, zg, i1, e_fits3, v1, v2]
        · simp only [f_X11_change]
          rw [e_X11_isHouse e2 F b1 b3]
          simp [zb, e_X11_in, e_isN3, v1, v2]
      refine zOK_i (σ.1 62 h 3) (zwi σ 3 h 3 v) (zwi (zwi σ 3 h 3 v) 62 h 3 v) ?_ ?_ (p_has hR (by omega) v (by rw [e2]; exact b2) (zib_i v1 v2 (by decide) (by decide)) (by intro q; omega))
      · simp only [f_X10_change]
        rw [e_X10_isHouse e1 F b1 b2]
        simp [zb, zg, i1, i2, e_fits3, v1, v2, f_X10_change_52, show inb 3 4 = true by decide, show h < 10 by omega, p 3 (by omega)]
      · simp only [f_X11_change]
        rw [e_X11_isHouse (by simpa [zwi, zu] using e2) F b1 b3]
        simp [zb, zg, e_X11_in, i1, i2, e_isN3, v1, v2, f_X11_change_44, show inb 3 5 = true by decide, zwi, zu]
    · omega
  · refine zOK_same hR (-1) ?_ ?_
    · simp only [f_X10_change]
      rw [n_X10_isHouse e1 F b]
      simp [zb]
    · simp only [f_X11_change]
      rw [n_X11_isHouse e2 F b]
      simp [zb]
