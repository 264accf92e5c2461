theorem owe_eq {d : Int32} {c : Int64} (hd : zib d 0 99999999) (hc : 0 ≤ c.toInt) (hc2 : c.toInt ≤ 2000000000000000000) : (zminl 99999999 (d.toInt64 + c)).toInt32 = d + (zminl c ((99999999 - d).toInt64)).toInt32 ∧ zib (d + (zminl c ((99999999 - d).toInt64)).toInt32) 0 99999999 ∧ 0 ≤ (zminl c ((99999999 - d).toInt64)).toInt32.toInt := by
  have d0 := hd.1
  have d1 := hd.2
  have k9 : (99999999 : Int32).toInt = 99999999 := by decide
  have k9l : (99999999 : Int64).toInt = 99999999 := by decide
  have e1 : (99999999 - d).toInt = 99999999 - d.toInt := by
    rw [t_sub (by omega) (by omega), k9]
  have s1 : (d.toInt64 + c).toInt = d.toInt + c.toInt := by
    rw [Int64.toInt_add, Int32.toInt_toInt64, Int.bmod_eq_of_le (by omega) (by omega)]
  unfold zminl
  by_cases q : (99999999 - d).toInt64 < c
  · rw [if_pos q, zl_i]
    rw [Int64.lt_iff_toInt_lt, Int32.toInt_toInt64, e1] at q
    have s2 : (d + (99999999 - d)).toInt = 99999999 := by rw [t_add (by omega) (by omega), e1]; omega
    rw [if_neg (by rw [Int64.lt_iff_toInt_lt, s1, k9l]; omega)]
    refine ⟨?_, ⟨by omega, by omega⟩, by omega⟩
    apply Int32.toInt_inj.mp
    rw [s2]
    decide
  · rw [if_neg q]
    rw [Int64.lt_iff_toInt_lt, Int32.toInt_toInt64, e1] at q
    have c1 : c.toInt32.toInt = c.toInt := by rw [Int64.toInt_toInt32, Int.bmod_eq_of_le (by omega) (by omega)]
    have s2 : (d + c.toInt32).toInt = d.toInt + c.toInt := by rw [t_add (by omega) (by omega), c1]
    refine ⟨?_, ⟨by omega, by omega⟩, by omega⟩
    apply Int32.toInt_inj.mp
    rw [s2]
    by_cases q2 : d.toInt64 + c < 99999999
    · rw [if_pos q2, Int64.toInt_toInt32, s1, Int.bmod_eq_of_le (by omega) (by omega)]
    · rw [if_neg q2]
      rw [Int64.lt_iff_toInt_lt, s1, k9l] at q2
      have : (99999999 : Int64).toInt32.toInt = 99999999 := by decide
      omega
theorem zl_mul {a b : Int32} : (a.toInt64 * b.toInt64).toInt = a.toInt * b.toInt := by
  have a1 := Int32.toInt_lt a
  have a2 := Int32.le_toInt a
  have b1 := Int32.toInt_lt b
  have b2 := Int32.le_toInt b
  rw [Int64.toInt_mul, Int32.toInt_toInt64, Int32.toInt_toInt64]
  have k : -(2147483648 * 2147483648) ≤ a.toInt * b.toInt ∧ a.toInt * b.toInt ≤ 2147483648 * 2147483648 := by
    have n1 : (a.toInt * b.toInt).natAbs ≤ 2147483648 * 2147483648 := by
      rw [Int.natAbs_mul]
      exact Nat.mul_le_mul (by omega) (by omega)
    omega
  rw [Int.bmod_eq_of_le (by omega) (by omega)]
/-- a year's end of house j on both sides -/
theorem p_yr {σ : zMem} (hR : zRel σ) {j : Nat} {x : Int32} (hx : zib x 0 99999999) : zRel (zwi (zwi (zwi (zwi σ 2 j 2 x) 2 j 11 0) 62 j 4 x) 70 0 j 0) := by
  obtain ⟨hh, hr, hw, hk, ha, hd, hl, hc, ht, hb, hQ⟩ := hR
  refine ⟨?_, ?_, ?_, ?_, ?_, ?_, ?_, ?_, ?_, ?_, ?_⟩
  · obtain ⟨g1, g2, g3, g4, g5, g6⟩ := hh
    refine ⟨by simpa [zwi, zu] using g1, by simpa [zwi, zu] using g2, fun y z hy hz => ?_, fun y hy => ?_, by simpa [zwi, zu] using g5, by simpa [zwi, zu] using g6⟩
    · have e : ¬ z = 4 := by omega
      simpa [zwi, zu, e] using g3 y z hy hz
    · have := g4 y hy
      by_cases e : y = j
      · subst e
        obtain ⟨k1, k2, k3, k4, k5, k6, k7, k8, k9⟩ := this
        simp [zwi, zu, k2, k3, k4, k5, k6, k7, k8]
      · simpa [zwi, zu, e] using this
  · simpa [zRr, zwi, zu] using hr
  · simpa [zRw, zwi, zu] using hw
  · simpa [zRk, zwi, zu] using hk
  · simpa [zRa, zwi, zu] using ha
  · simpa [zRd, zwi, zu] using hd
  · simpa [zRl, zwi, zu] using hl
  · simpa [zRc, zwi, zu] using hc
  · simpa [zRt, zwi, zu] using ht
  · simpa [zRb, zwi, zu] using hb
  · obtain ⟨y1, y2, y3, y4, y5, y6, y7, y8, y9, y10⟩ := hQ
    refine ⟨?_, by simpa [zwi, zu] using y2, by simpa [zwi, zu] using y3, by simpa [zwi, zu] using y4, by simpa [zwi, zu] using y5, by simpa [zwi, zu] using y6, by simpa [zwi, zu] using y7, by simpa [zwi, zu] using y8, by simpa [zwi, zu] using y9, by simpa [zwi, zu] using y10⟩
    · intro z hz
      have k1 := y1 z hz
      by_cases e : z = j
      · subst e
        obtain ⟨b1, b2, b3, b4, b5⟩ := k1
        simpa [zwi, zu] using ⟨b1, b2, b3, b4, hx⟩
      · simpa [zwi, zu, e] using k1
theorem p_y0 {σ : zMem} (hR : zRel σ) (v : Int32) : zRel (zwi (zwi σ 0 0 13 v) 60 0 51 v) := by
  obtain ⟨hh, hr, hw, hk, ha, hd, hl, hc, ht, hb, hQ⟩ := hR
  refine ⟨?_, ?_, ?_, ?_, ?_, ?_, ?_, ?_, ?_, ?_, ?_⟩
  · simpa [zRh, zwi, zu] using hh
  · simpa [zRr, zwi, zu] using hr
  · simpa [zRw, zwi, zu] using hw
  · simpa [zRk, zwi, zu] using hk
  · simpa [zRa, zwi, zu] using ha
  · simpa [zRd, zwi, zu] using hd
  · simpa [zRl, zwi, zu] using hl
  · obtain ⟨p1, p2, p3, p4, p5, p6, p7, p8⟩ := hc
    refine ⟨by simpa [zwi, zu] using p1, by simpa [zwi, zu] using p2, by simpa [zwi, zu] using p3, by simpa [zwi, zu] using p4, by simpa [zwi, zu] using p5, by simpa [zwi, zu] using p6, by simp [zwi, zu], by simpa [zwi, zu] using p8⟩
  · simpa [zRt, zwi, zu] using ht
  · simpa [zRb, zwi, zu] using hb
  · simpa [zRz, zwi, zu] using hQ
theorem now_c {s τ : zMem} (h : zmx s τ = s) {F : Nat} {x key v : Int32} (k : f_X11_now F τ x key = some (v, τ)) : f_X11_now F s x key = some (v, s) := by
  have := y_X11_now s F τ x key
  rw [h, k] at this
  rw [this]
  show some (v, zmx s τ) = _
  rw [h]
theorem j_year {σ : zMem} (hR : zRel σ) {F n : Nat} (hF : 100 < F) (hn : n ≤ 10) (e1 : σ.1 0 0 1 = nI n) : zJ (fun r s τ => r = s ∧ zRel τ) (fun σ => zit (f_X10_year_29 F) F σ (0, 0)) (fun σ => zit (f_X11_year_34 F) F σ (0, 0)) σ := by
  refine zlock (0 : Int32) (0 : Int32) (fun τ r r2 h s y => x_X10_year_29 τ F r r2 s y h) (fun τ r r2 h s y => y_X11_year_34 τ F r r2 s y h)
    (fun m τ x y => zRel τ ∧ τ.1 0 0 1 = nI n ∧ ∃ j c, j ≤ n ∧ m = n - j ∧ x = (c, nI j) ∧ y = (c, nI j)) _ ?_ F n σ _ _ (by omega) ⟨hR, e1, 0, 0, by omega, by omega, rfl, rfl⟩
  rintro m τ x y ⟨hτ, t1, j, c, hj, rfl, rfl, rfl⟩
  have t2 : τ.1 60 0 1 = nI n := hτ.1.2.1.trans t1
  by_cases e : j = n
  · subst e
    refine Or.inl ⟨c, c, τ, τ, fun rec => ?_, fun rec => ?_, rfl, hτ⟩
    · unfold f_X10_year_29
      simp only
      rw [t1, if_pos (Int32.le_refl _)]
    · unfold f_X11_year_34
      simp only
      rw [t2, if_pos (Int32.le_refl _)]
  have hjn : ¬ nI n ≤ nI j := nle_s (by omega) (by omega)
  have hj9 : j < 10 := by omega
  have i1 := inb_n hj9 (by omega)
  have i2 := nI_clamp (show j < 2 ^ 31 by omega)
  have gj : (decide (j < 10)) = true := by simp; omega
  obtain ⟨nw, hnw, w1, w2⟩ := zRw_n hτ.2.2.1
  have a4 := e_X10_wn hτ hj9 hF hnw w1 (key := 4) (by decide)
  have a5 := e_X10_wn hτ hj9 hF hnw w1 (key := 5) (by decide)
  have b4 := e_X11_wn hτ hj9 hF hnw w2 (key := 4) (by decide)
  have b5 := e_X11_wn hτ hj9 hF hnw w2 (key := 5) (by decide)
  have wb := znw_b hτ hnw w1 j (key := 5) (by decide)
  have h3 := hτ.1.2.2.1 j 1 hj9 (by omega)
  obtain ⟨q1, -, -, -, -, -, -, -, q9⟩ := hτ.1.2.2.2.1 j hj9
  have db := (hτ.2.2.2.2.2.2.2.2.2.2.1 j hj9).2.2.2.2
  generalize hu : znw τ j nw 4 * τ.1 62 j 1 - τ.1 70 0 j = u
  have lg : (lg_cmp u.toInt64 0 ≤ 0) ↔ u ≤ 0 := by
    rw [lg_cmp_le, Int64.le_iff_toInt_le, Int32.le_iff_toInt_le, Int32.toInt_toInt64]
    exact Iff.rfl
  have t0 : (0 : Int32).toInt = 0 := rfl
  have own : ∀ (s : zMem) (c : Int64), f_X11_owes F s (nI j) c = some ((zminl 99999999 ((s.1 62 j 4).toInt64 + c)).toInt32 - s.1 62 j 4, zwi s 62 j 4 (zminl 99999999 ((s.1 62 j 4).toInt64 + c)).toInt32) := by
    intro s c
    unfold f_X11_owes
    rw [zg_i i1, zg_i (by decide), zg_i i1, zg_i (by decide), zg_i i1, zg_i (by decide), i2]
    congr 3
    simp [zwi, zu]
  by_cases hu0 : u ≤ 0
  · have ow := owe_eq (c := 0) db (by decide) (by decide)
    have z0 : (zminl 0 ((99999999 - τ.1 62 j 4).toInt64)).toInt32 = 0 := by
      have e9 : (99999999 - τ.1 62 j 4).toInt = 99999999 - (τ.1 62 j 4).toInt := by
        rw [t_sub (by have := db.1; have := db.2; have k9 : (99999999 : Int32).toInt = 99999999 := (by decide); omega) (by have := db.1; have := db.2; have k9 : (99999999 : Int32).toInt = 99999999 := (by decide); omega)]
        rfl
      unfold zminl
      rw [if_neg]
      · rfl
      · rw [Int64.lt_iff_toInt_lt, Int32.toInt_toInt64, e9]
        have := db.2
        have k0 : (0 : Int64).toInt = 0 := rfl
        omega
    rw [z0, Int32.add_zero] at ow
    refine Or.inr ⟨n - (j + 1), _, _, zwi τ 2 j 11 0, zwi (zwi τ 2 j 11 0) 70 0 j 0, by omega, fun rec => ?_, fun rec => ?_, ?_, ?_, j + 1, c, by omega, rfl, rfl, rfl⟩
    · unfold f_X10_year_29
      simp only
      rw [t1, if_neg hjn, zg_i i1, i2, a4, zb_s, zg_i (by decide), h3, q9, hu, if_pos (lg.mpr hu0)]
      unfold f_X10_year_95
      rw [zg_i gj, nI_1]
    · have s2 : zmx (zwi τ 2 j 11 0) τ = zwi τ 2 j 11 0 := zmx_w (by omega)
      have mx : zmax 0 u = 0 := by
        unfold zmax
        rw [if_neg (Int32.not_lt.mpr hu0)]
      have m0 : ∀ w : Int64, (0 : Int32).toInt64 * w = 0 := fun w => by
        show (0 : Int64) * w = 0
        rw [Int64.zero_mul]
      unfold f_X11_year_34
      simp only
      rw [show (zwi τ 2 j 11 0).1 60 0 1 = nI n by simpa [zwi, zu] using t2, if_neg hjn, now_c s2 b4, zb_s, zg_i i1, zg_i (by decide), zg_i i1, now_c s2 b5, zb_s, i2, show (zwi τ 2 j 11 0).1 62 j 1 = τ.1 62 j 1 by simp [zwi, zu], show (zwi τ 2 j 11 0).1 70 0 j = τ.1 70 0 j by simp [zwi, zu], hu, mx, m0, own, zb_s, show (zwi τ 2 j 11 0).1 62 j 4 = τ.1 62 j 4 by simp [zwi, zu], ow.1, Int32.sub_self, Int32.add_zero, zg_i i1, zwi_id (σ := zwi τ 2 j 11 0) (by simp [zwi, zu]), nI_1]
    · have := p_yr hτ (j := j) (x := τ.1 62 j 4) db
      rw [zwi_id (σ := τ) q1, zwi_id (σ := zwi τ 2 j 11 0) (by simp [zwi, zu])] at this
      exact this
    · simpa [zwi, zu] using t1
  · have up : 0 < u.toInt := by
      have := Int32.not_le.mp hu0
      rw [Int32.lt_iff_toInt_lt] at this
      omega
    have cm : (u.toInt64 * (znw τ j nw 5).toInt64).toInt = u.toInt * (znw τ j nw 5).toInt := zl_mul
    have c0 : 0 ≤ u.toInt * (znw τ j nw 5).toInt := Int.mul_nonneg (by omega) wb.1
    have c9 : u.toInt * (znw τ j nw 5).toInt ≤ 2147483647 * 99999 := Int.le_trans (Int.mul_le_mul_of_nonneg_right (show u.toInt ≤ 2147483647 by have := Int32.toInt_lt u; omega) wb.1) (Int.mul_le_mul_of_nonneg_left wb.2 (by omega))
    have ow := owe_eq (c := u.toInt64 * (znw τ j nw 5).toInt64) db (by rw [cm]; exact c0) (by rw [cm]; omega)
    generalize hm : (zminl (u.toInt64 * (znw τ j nw 5).toInt64) ((99999999 - τ.1 62 j 4).toInt64)).toInt32 = more at ow
    refine Or.inr ⟨n - (j + 1), (c + more, nI (j + 1)), (c + more, nI (j + 1)), zwi (zwi τ 2 j 2 (τ.1 62 j 4 + more)) 2 j 11 0, zwi (zwi (zwi (zwi τ 2 j 2 (τ.1 62 j 4 + more)) 2 j 11 0) 62 j 4 (τ.1 62 j 4 + more)) 70 0 j 0, by omega, fun rec => ?_, fun rec => ?_, p_yr hτ ow.2.1, ?_, j + 1, c + more, by omega, rfl, rfl, rfl⟩
    · unfold f_X10_year_29
      simp only
      rw [t1, if_neg hjn, zg_i i1, i2, a4, zb_s, zg_i (by decide), h3, q9, hu, if_neg (fun q => hu0 (lg.mp q)), a5, zb_s]
      unfold f_X2_oweMore
      rw [zg_i gj, zb_s, q1, hm]
      unfold f_X10_year_95
      rw [zg_i gj, nI_1]
    · have s2 : zmx (zwi (zwi τ 2 j 2 (τ.1 62 j 4 + more)) 2 j 11 0) τ = zwi (zwi τ 2 j 2 (τ.1 62 j 4 + more)) 2 j 11 0 := by rw [zmx_w2 (by omega), zmx_w (by omega)]
      have mx : zmax 0 u = u := by
        unfold zmax
        rw [if_pos (Int32.not_le.mp hu0)]
      unfold f_X11_year_34
      simp only
      rw [show (zwi (zwi τ 2 j 2 (τ.1 62 j 4 + more)) 2 j 11 0).1 60 0 1 = nI n by simpa [zwi, zu] using t2, if_neg hjn, now_c s2 b4, zb_s, zg_i i1, zg_i (by decide), zg_i i1, now_c s2 b5, zb_s, i2, show (zwi (zwi τ 2 j 2 (τ.1 62 j 4 + more)) 2 j 11 0).1 62 j 1 = τ.1 62 j 1 by simp [zwi, zu], show (zwi (zwi τ 2 j 2 (τ.1 62 j 4 + more)) 2 j 11 0).1 70 0 j = τ.1 70 0 j by simp [zwi, zu], hu, mx, own, zb_s, show (zwi (zwi τ 2 j 2 (τ.1 62 j 4 + more)) 2 j 11 0).1 62 j 4 = τ.1 62 j 4 by simp [zwi, zu], ow.1, show τ.1 62 j 4 + more - τ.1 62 j 4 = more by rw [Int32.add_comm, Int32.add_sub_cancel], zg_i i1, nI_1]
    · simpa [zwi, zu] using t1
theorem a_year {σ : zMem} (hR : zRel σ) {F : Nat} (hF : 100 < F) : zOK (fun σ => f_X10_year F σ) (fun σ => f_X11_year F σ) σ := by
  obtain ⟨n, hn, e1, e2⟩ := zRh_n hR.1
  have dd := hR.2.2.2.2.1.2.1
  have yy := hR.2.2.2.2.2.2.2.1.2.2.2.2.2.2.1
  by_cases q : σ.1 60 0 51 = σ.1 60 0 0 / 360
  · refine zOK_same hR (-3) ?_ ?_
    · simp only [f_X10_year]
      rw [zg_i (by decide), ← dd, yy, if_pos q.symm]
    · simp only [f_X11_year]
      rw [zg_i (by decide), if_pos q]
  · have j := zseq (Q := fun _ _ τ => zRel τ ∧ τ.1 0 0 1 = nI n) (Q2 := fun r s τ => r = s ∧ zRel τ) (f := fun σ => some ((), zwi σ 0 0 13 (σ.1 0 0 11 / 360))) (g := fun σ => some ((), zwi σ 60 0 51 (σ.1 60 0 0 / 360))) (f2 := fun _ σ => zit (f_X10_year_29 F) F σ (0, 0)) (g2 := fun _ σ => zit (f_X11_year_34 F) F σ (0, 0)) (σ := σ)
      (fun τ s => by
        show some ((), zwi (zmx τ s) 60 0 51 ((zmx τ s).1 60 0 0 / 360)) = _
        rw [zmx_y (by omega), zwi_y (by omega)]
        rfl)
      (fun _ τ s => x_it τ (fun r r2 h s y => x_X10_year_29 τ F r r2 s y h) F s (0, 0))
      ⟨(), (), _, _, rfl, rfl, by
        rw [show (zwi σ 0 0 13 (σ.1 0 0 11 / 360)).1 60 0 0 = σ.1 0 0 11 by simpa [zwi, zu] using dd]
        exact ⟨p_y0 hR _, by simpa [zwi, zu] using e1⟩⟩
      (fun _ _ τ h => j_year h.1 hF hn h.2)
    refine zJ_ok ?_
    obtain ⟨r, s, σ1, σ2, k1, k2, k3⟩ := j
    have c1 : ∀ k i c, 60 ≤ k → σ1.1 k i c = σ.1 k i c := by
      intro k i c hk
      have l := x_it (zwi σ 0 0 13 (σ.1 0 0 11 / 360)) (fun r r2 h s y => x_X10_year_29 (zwi σ 0 0 13 (σ.1 0 0 11 / 360)) F r r2 s y h) F (zwi σ 0 0 13 (σ.1 0 0 11 / 360)) (0, 0)
      have k1' : zit (f_X10_year_29 F) F (zwi σ 0 0 13 (σ.1 0 0 11 / 360)) (0, 0) = some (r, σ1) := k1
      rw [zmx_self, k1'] at l
      rw [← zM_keep l, zmx_y hk]
      exact zwi_r (by omega)
    refine ⟨r, s, σ1, σ2, ?_, ?_, k3⟩
    · show f_X10_year F σ = _
      unfold f_X10_year
      rw [zg_i (by decide), if_neg (by rw [← dd, yy]; exact fun h => q h.symm)]
      exact k1
    · show f_X11_year F σ1 = _
      unfold f_X11_year
      rw [zg_i (by decide), zg_i (by decide), c1 60 0 51 (by omega), c1 60 0 0 (by omega), if_neg q]
      have k2' : zb (some ((), zwi σ1 60 0 51 (σ1.1 60 0 0 / 360))) (fun _ σ => zit (f_X11_year_34 F) F σ (0, 0)) = some (s, σ2) := k2
      rw [zb_s, c1 60 0 0 (by omega)] at k2'
      exact k2'
theorem a_copy {σ : zMem} (hR : zRel σ) (F : Nat) (x u y v w : Int32) : zOK (fun σ => f_X10_copy F σ x u y v w) (fun σ => f_X11_copy F σ x u y v w) σ := by
  rcases (a_isSheet F x).symm with ⟨r1, r2⟩ | ⟨t, ht9, rfl, r1, r2⟩
  · refine zOK_same hR (-2) ?_ ?_
    · simp only [f_X10_copy]
      rw [r1, zb_s, if_pos rfl]
    · simp only [f_X11_copy]
      rw [r2, zb_s, if_pos rfl]
  rcases (a_isSheet F y).symm with ⟨q1, q2⟩ | ⟨p, hp9, rfl, q1, q2⟩
  · refine zOK_same hR (-2) ?_ ?_
    · simp only [f_X10_copy]
      rw [r1, zb_s, if_neg (by decide), q1, zb_s, if_pos rfl]
    · simp only [f_X11_copy]
      rw [r2, zb_s, if_neg (by decide), q2, zb_s, if_pos rfl]
  have i1 := inb_n ht9 (by omega)
  have i2 := nI_clamp (show t < 2 ^ 31 by omega)
  have i3 := inb_n hp9 (by omega)
  have i4 := nI_clamp (show p < 2 ^ 31 by omega)
  obtain ⟨k1, k2, k3, k4, ⟨n, hn, k5⟩, k6⟩ := hR.2.2.2.2.2.2.2.2.1 t ht9
  obtain ⟨l1, l2, l3, l4, ⟨m, hm, l5⟩, l6⟩ := hR.2.2.2.2.2.2.2.2.1 p hp9
  have k4 := k4.trans k5
  have l4 := l4.trans l5
  have s10 : ∀ r, (if σ.1 104 0 t = -1 then some (-11, σ) else if σ.1 104 0 p = -1 then some (-11, σ) else if σ.1 104 0 t = σ.1 104 0 p then zb (f_X4_holds F σ t u w) (fun r75 m75 => if r75 = 0 then some (-12, m75) else zb (f_X4_holds F m75 p v w) (fun r87 m87 => if r87 = 0 then some (-12, m87) else zg (zck u v w 60 60) (some (w, zcpl m87 48 t u 48 p v w)))) else some (-13, σ)) = r → f_X10_copy F σ (nI t) u (nI p) v w = r := by
    intro r h
    simp only [f_X10_copy]
    rw [r1, zb_s, if_neg (by decide), q1, zb_s, if_neg (by decide), zg_i i1, zg_i i3, i2, i4, k1, l1]
    exact h
  have neg : ∀ a : Int32, -1 ≤ a → a ≤ 2 → (a < 0 ↔ a = -1) := fun a h1 h2 => by
    rcases zso h1 h2 with h | h | h | h <;> rw [h] <;> decide
  have s11 : ∀ (s : zMem) r, s.1 104 = σ.1 104 → s.1 105 = σ.1 105 → (if σ.1 104 0 t = -1 then some (-11, s) else if σ.1 104 0 p = -1 then some (-11, s) else if σ.1 104 0 t = σ.1 104 0 p then (if w < 0 then some (-12, s) else if u < 0 then some (-12, s) else if v < 0 then some (-12, s) else if 0 < lg_cmp (u.toInt64 + w.toInt64) (nI n).toInt64 then some (-12, s) else if lg_cmp (v.toInt64 + w.toInt64) (nI m).toInt64 ≤ 0 then zg (zck u v w 60 60) (zg (zck u v w 60 60 && zcz (zcpi s 107 t u 107 p v w) 109 t u w) (some (w, zcpi (zcpi s 107 t u 107 p v w) 109 t u 109 p v w))) else some (-12, s)) else some (-13, s)) = r → f_X11_copy F s (nI t) u (nI p) v w = r := by
    intro s r h4 h5 h
    simp only [f_X11_copy]
    rw [r2, zb_s, if_neg (by decide), q2, zb_s, if_neg (by decide), zg_i i1, i2, i4, h4, h5, k5, l5]
    rw [← h]
    by_cases c1 : σ.1 104 0 t = -1
    · rw [if_pos ((neg _ k2 k3).mpr c1), if_pos c1]
    rw [if_neg (fun q => c1 ((neg _ k2 k3).mp q)), if_neg c1, zg_i i3]
    by_cases c2 : σ.1 104 0 p = -1
    · rw [if_neg (Int32.not_le.mpr ((neg _ l2 l3).mpr c2)), if_pos c2]
    rw [if_pos (Int32.not_lt.mp (fun q => c2 ((neg _ l2 l3).mp q))), if_neg c2, zg_i i1, zg_i i3, zg_i i1, zg_i i3, zg_i i1, zg_i i3, zg_i i1, zg_i i3]
  by_cases c1 : σ.1 104 0 t = -1
  · exact zOK_same hR (-11) (s10 _ (if_pos c1)) (s11 σ _ rfl rfl (if_pos c1))
  by_cases c2 : σ.1 104 0 p = -1
  · exact zOK_same hR (-11) (s10 _ (by rw [if_neg c1, if_pos c2])) (s11 σ _ rfl rfl (by rw [if_neg c1, if_pos c2]))
  by_cases c3 : ¬ σ.1 104 0 t = σ.1 104 0 p
  · exact zOK_same hR (-13) (s10 _ (by rw [if_neg c1, if_neg c2, if_neg c3])) (s11 σ _ rfl rfl (by rw [if_neg c1, if_neg c2, if_neg c3]))
  have c3 := Decidable.not_not.mp c3
  have out : f_X10_copy F σ (nI t) u (nI p) v w = some (-12, σ) → (w < 0 ∨ u < 0 ∨ v < 0 ∨ ¬ lg_cmp (u.toInt64 + w.toInt64) (nI n).toInt64 ≤ 0 ∨ ¬ lg_cmp (v.toInt64 + w.toInt64) (nI m).toInt64 ≤ 0) → zOK (fun σ => f_X10_copy F σ (nI t) u (nI p) v w) (fun σ => f_X11_copy F σ (nI t) u (nI p) v w) σ := by
    intro h1 h2
    refine zOK_same hR (-12) h1 (s11 σ _ rfl rfl ?_)
    rw [if_neg c1, if_neg c2, if_pos c3]
    by_cases d1 : w < 0
    · rw [if_pos d1]
    rw [if_neg d1]
    by_cases d2 : u < 0
    · rw [if_pos d2]
    rw [if_neg d2]
    by_cases d3 : v < 0
    · rw [if_pos d3]
    rw [if_neg d3]
    by_cases d4 : lg_cmp (u.toInt64 + w.toInt64) (nI n).toInt64 ≤ 0
    · rw [if_neg (Int32.not_lt.mpr d4)]
      by_cases d5 : lg_cmp (v.toInt64 + w.toInt64) (nI m).toInt64 ≤ 0
      · exfalso
        rcases h2 with h | h | h | h | h
        · exact d1 h
        · exact d2 h
        · exact d3 h
        · exact h d4
        · exact h d5
      · rw [if_neg d5]
    · rw [if_pos (Int32.not_le.mp d4)]
  rcases a_holdsn ht9 hn k4 F u w with ⟨i, o, hio, rfl, rfl, h1, h2⟩ | ⟨h1, h2⟩
  · rcases a_holdsn hp9 hm l4 F v (nI o) with ⟨j, o2, hjo, rfl, eo, g1, g2⟩ | ⟨g1, g2⟩
    · have eo2 : o2 = o := (nI_eq (by omega) (by omega)).mp eo.symm
      subst eo2
      have z1 : zck (nI i) (nI j) (nI o2) 60 60 = true := by
        have c1 := nI_clamp (show i < 2 ^ 31 by omega)
        have c2 := nI_clamp (show j < 2 ^ 31 by omega)
        have c3 := nI_clamp (show o2 < 2 ^ 31 by omega)
        have d1 := nI_pos (n := i) (by omega)
        have d2 := nI_pos (n := j) (by omega)
        have d3 := nI_pos (n := o2) (by omega)
        simp [zck, c1, c2, c3, d1, d2, d3]
        omega
      have c4 := nI_clamp (show i < 2 ^ 31 by omega)
      have c5 := nI_clamp (show j < 2 ^ 31 by omega)
      have c6 := nI_clamp (show o2 < 2 ^ 31 by omega)
      have z2 : zcz (zcpi (zcpl σ 48 t (nI i) 48 p (nI j) (nI o2)) 107 t (nI i) 107 p (nI j) (nI o2)) 109 t (nI i) (nI o2) = true := by
        unfold zcz
        rw [List.all_eq_true]
        intro a ha
        rw [c6, List.mem_range] at ha
        rw [c4]
        have : (zcpi (zcpl σ 48 t (nI i) 48 p (nI j) (nI o2)) 107 t (nI i) 107 p (nI j) (nI o2)).1 109 t (i + a) = σ.1 109 t (i + a) := by simp [zcpi, zcpl, zcp]
        rw [this]
        rcases k6 (i + a) (by omega) with h | h
        · rw [h.1]
          rfl
        · rw [h.1]
          rfl
      refine ⟨nI o2, zcpl σ 48 t (nI i) 48 p (nI j) (nI o2), zcpi (zcpi (zcpl σ 48 t (nI i) 48 p (nI j) (nI o2)) 107 t (nI i) 107 p (nI j) (nI o2)) 109 t (nI i) 109 p (nI j) (nI o2), s10 _ ?_, s11 _ _ rfl rfl ?_, ?_⟩
      · rw [if_neg c1, if_neg c2, if_pos c3, h1, zb_s, if_neg (by decide), g1, zb_s, if_neg (by decide), zg_i z1]
      · rw [if_neg c1, if_neg c2, if_pos c3, if_neg (nI_pos (by omega)), if_neg (nI_pos (by omega)), if_neg (nI_pos (by omega)), if_neg (Int32.not_lt.mpr h2), if_pos g2, zg_i z1, zg_i (by rw [z1, z2]; rfl)]
      · unfold zcpi zcpl
        rw [c4, c5, c6]
        obtain ⟨hh, hr, hw, hk, ha, hd, hl, hc, ht, hb, hQ⟩ := hR
        refine ⟨?_, ?_, ?_, ?_, ?_, ?_, ?_, ?_, ?_, ?_, ?_⟩
        · simpa [zRh, zcp] using hh
        · simpa [zRr, zcp] using hr
        · simpa [zRw, zcp] using hw
        · simpa [zRk, zcp] using hk
        · simpa [zRa, zcp] using ha
        · simpa [zRd, zcp] using hd
        · simpa [zRl, zcp] using hl
        · simpa [zRc, zcp] using hc
        · intro z hz
          have hzz := ht z hz
          obtain ⟨a1, a2, a3, a4, a5, a6⟩ := hzz
          refine ⟨by simpa [zcp] using a1, by simpa [zcp] using a2, by simpa [zcp] using a3, by simpa [zcp] using a4, by simpa [zcp] using a5, fun c hc => ?_⟩
          by_cases e : z = p
          · subst e
            by_cases e2 : j ≤ c ∧ c < j + o2
            · have := k6 (i + (c - j)) (by omega)
              simpa [zcp, e2] using this
            · have := a6 c hc
              have e3 : ¬ (j ≤ c ∧ c < j + o2) := e2
              simpa [zcp, e3] using this
          · simpa [zcp, e] using a6 c hc
        · simpa [zRb, zcp] using hb
        · simpa [zRz, zcp] using hQ
    · refine out (s10 _ ?_) ?_
      · rw [if_neg c1, if_neg c2, if_pos c3, h1, zb_s, if_neg (by decide), g1, zb_s, if_pos rfl]
      · rcases g2 with h | h | ⟨_, _, h⟩
        · exact Or.inr (Or.inr (Or.inl h))
        · exact Or.inl h
        · exact Or.inr (Or.inr (Or.inr (Or.inr h)))
  · refine out (s10 _ ?_) ?_
    · rw [if_neg c1, if_neg c2, if_pos c3, h1, zb_s, if_pos rfl]
    · rcases h2 with h | h | ⟨_, _, h⟩
      · exact Or.inr (Or.inl h)
      · exact Or.inl h
      · exact Or.inr (Or.inr (Or.inr (Or.inl h)))
