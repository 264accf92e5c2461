theorem e_120 (F : Nat) (rec : zMem → Int32 × Int64 × Int32 × Int32 → Option (Int32 × zMem)) (c : zMem) (W : Int32) (T : Int64) (g : Int32) (l : Int64) {b : Nat} (hb : b < 10) {v r : Int32} (hr : (l - 10000 * v.toInt64).toInt32 = r) : f_X11_cheese_120 F rec c W T g (nI b) l v (nI b) = rec (zku c b r v) (W, T, g + v, nI (b + 1)) := by
  unfold f_X11_cheese_120
  have i1 := inb_n hb (show 10 < 100000 by decide)
  rw [zg_i i1, zg_i i1, zg_i i1, zg_i i1, nI_clamp (show b < 2 ^ 31 by omega), zwi_hit, hr, zwi_r (by omega), zwi_hit, nI_1]
  rfl
theorem k_sum1 (σ τ : zMem) (b : Nat) (r v : Int32) : zkR (zku (zks σ τ b r v) b r v) (b + 1) = zkR τ b + r.toInt ∧ zkN (zku (zks σ τ b r v) b r v) (b + 1) = zkN τ b + v.toInt := by
  have h := k_ur σ τ b r v
  refine ⟨?_, ?_⟩
  · show zsz (fun i => ((zku (zks σ τ b r v) b r v).1 66 0 i).toInt) b + ((zku (zks σ τ b r v) b r v).1 66 0 b).toInt = _
    rw [(h b).1, if_pos rfl, zsz_c (g := fun i => (τ.1 66 0 i).toInt) fun i hi => by rw [(h i).1, if_neg (by omega)]]
    rfl
  · show zsz (fun i => ((zku (zks σ τ b r v) b r v).1 112 0 i).toInt) b + ((zku (zks σ τ b r v) b r v).1 112 0 b).toInt = _
    rw [(h b).2, if_pos rfl, zsz_c (g := fun i => (τ.1 112 0 i).toInt) fun i hi => by rw [(h i).2, if_neg (by omega)]]
    rfl
theorem zkA_b {σ τ : zMem} {b : Nat} (h : zkA σ b τ) : τ.1 2 b 5 = σ.1 2 b 5 ∧ τ.1 2 b 7 = σ.1 2 b 7 ∧ τ.1 2 b 9 = σ.1 2 b 9 ∧ τ.1 65 0 b = σ.1 65 0 b ∧ τ.1 66 0 b = σ.1 66 0 b :=
  ⟨h.2 _ _ _ (by omega), h.2 _ _ _ (by omega), h.2 _ _ _ (by omega), h.2 _ _ _ (by omega), h.2 _ _ _ (by omega)⟩
/-- the bounds of a house's sum and rest -/
theorem k_mr {σ : zMem} (hR : zRel σ) : (σ.1 60 0 43).toInt ≤ 7199 ∧ ∀ i, i < 10 → 0 ≤ (σ.1 65 0 i).toInt ∧ (σ.1 65 0 i).toInt ≤ 5702400 ∧ -100000 ≤ (σ.1 66 0 i).toInt ∧ (σ.1 66 0 i).toInt ≤ 1000000 := by
  obtain ⟨⟨d, hd, ed⟩, dd, -⟩ := hR.2.2.2.2.1
  have c9 := hR.2.2.2.2.2.2.2.1.2.2.2.2.2.2.2.2.1
  have y8 := hR.2.2.2.2.2.2.2.2.2.2.2.2.2.2.2.2.2.1
  have y9 := hR.2.2.2.2.2.2.2.2.2.2.2.2.2.2.2.2.2.2.1.1
  rw [dd, ed] at c9
  have c9 := Int32.le_iff_toInt_le.mp c9
  rw [nI_toInt (by omega)] at c9
  refine ⟨by omega, fun i hi => ?_⟩
  obtain ⟨q1, q2, q3⟩ := y8 i hi
  have u := (k_up (f := fun i => (σ.1 66 0 i).toInt) (n := 10) fun i hi => (y8 i hi).2.2).2 i hi
  have u : (σ.1 66 0 i).toInt ≤ zsz (fun h => (σ.1 66 0 h).toInt) 10 + 100000 * ((10 : Nat) : Int) := u
  have q20 := q2.1
  have q21 := q2.2
  exact ⟨q20, by omega, q3, by omega⟩
theorem k_cut {σ : zMem} (hR : zRel σ) {n : Nat} (hn : n ≤ 10) (e2 : σ.1 60 0 1 = nI n) : zsz (fun h => (σ.1 66 0 h).toInt) n = zsz (fun h => (σ.1 66 0 h).toInt) 10 := by
  have y5 := hR.2.2.2.2.2.2.2.2.2.2.2.2.2.2.1
  have a := zsz_cut (f := fun h => (σ.1 66 0 h).toInt) n (10 - n) fun i h1 h2 => by
    show (σ.1 66 0 i).toInt = 0
    rw [(y5 i (by omega) (by rw [e2]; exact (nI_leI (by omega) (by omega)).mpr h1)).2.2.2.1]
    rfl
  rw [show n + (10 - n) = 10 by omega] at a
  exact a.symm
theorem zkc1 {b n : Nat} (h : b ≤ n) (h1 : ¬ b = n) : b < n ∧ b + 1 ≤ n ∧ n - (b + 1) < n - b := by omega
theorem zkc2 {b : Nat} : b ≤ b + 1 ∧ b < b + 1 ∧ ∀ i, i < b + 1 → i ≠ b → i < b := ⟨by omega, by omega, fun i h h1 => by omega⟩
theorem zkc3 {F n : Nat} (h : 300000 < F) (h1 : n ≤ 10) : n < F := by omega
theorem zkc4 (n i : Nat) (h : i < n) (hn : n ≤ 10) : ¬ nI n ≤ nI i := nle_s h (by omega)
theorem j_B {σ : zMem} (hR : zRel σ) {n w F : Nat} (hF : 300000 < F) (hn : n ≤ 10) (hn1 : 1 ≤ n) (hw : w ≤ 9999) (e1 : σ.1 0 0 1 = nI n) {T32 : Int32} {T64 : Int64} {T : Int} (hT : 0 < T) (t32 : T32.toInt = T) (t64 : T64.toInt = T) (eT : zsz (fun i => (σ.1 65 0 i).toInt) n = T) : zJ (fun r s t => r = s ∧ zRel t) (fun s => zit (f_X10_cheese_55 F) F s (nI w, T32, 0, 0)) (fun s => zit (f_X11_cheese_59 F) F s (nI w, T64, 0, 0)) σ := by
  have e2 : σ.1 60 0 1 = nI n := hR.1.2.1.trans e1
  have g4 := hR.1.2.2.2.1
  have y9 := hR.2.2.2.2.2.2.2.2.2.2.2.2.2.2.2.2.2.2.1
  obtain ⟨hmd, mr⟩ := k_mr hR
  have cut := k_cut hR hn e2
  obtain ⟨k0, hk0, hk1⟩ := k_pos (f := fun i => (σ.1 65 0 i).toInt) (n := n) (by rw [eT]; exact hT)
  have S1 := y9.2.2 ⟨k0, Nat.lt_of_lt_of_le hk0 hn, fun q => by
    have hk1 : 0 < (σ.1 65 0 k0).toInt := hk1
    rw [q] at hk1
    exact absurd hk1 (by decide)⟩
  have S0 := y9.1
  rw [← cut] at S0 S1
  obtain ⟨Q0, Q1⟩ := zkq_b σ (w := w) hn hn1 hT eT
  obtain ⟨C0, C1⟩ := zkb4 S0 Q0 S1 Q1
  have nT : ¬ T32.toInt64 = 0 := fun q => by
    have : T32.toInt64.toInt = 0 := by rw [q]; decide
    rw [Int32.toInt_toInt64, t32] at this
    omega
  have nT2 : ¬ T64 = 0 := fun q => by
    have : T64.toInt = 0 := by rw [q]; decide
    omega
  refine zlock (0 : Int32) (0 : Int32) (fun τ r r2 h s y => x_X10_cheese_55 τ F r r2 s y h) (fun τ r r2 h s y => y_X11_cheese_59 τ F r r2 s y h)
    (fun m τ x y => ∃ i g, i ≤ n ∧ m = n - i ∧ x = (nI w, T32, g, nI i) ∧ y = (nI w, T64, g, nI i) ∧ zkA σ i τ ∧ zkD σ i τ ∧ g.toInt = zkN τ i ∧ zkN τ i ≤ 10100 * (i : Int) ∧ zkR τ i + 10000 * zkN τ i = zsz (fun h => (σ.1 66 0 h).toInt) i + zsz (zkq σ w T) i) _ ?_ F n σ _ _ (zkc3 hF hn) ⟨0, 0, Nat.zero_le n, rfl, by rw [nI_0], by rw [nI_0], ⟨rfl, fun _ _ _ _ => rfl⟩, fun i hi => absurd hi (Nat.not_lt_zero i), rfl, Int.le_refl _, rfl⟩
  rintro m τ x y ⟨i, g, hi, rfl, rfl, rfl, hA, hD, hg, hN, hS⟩
  have N0 : 0 ≤ zkN τ i := zsz_0 fun i hi => (hD i hi).2.2.2.2
  have t1 : τ.1 0 0 1 = nI n := (zkA_n hA).1.trans e1
  have t2 : τ.1 60 0 1 = nI n := (zkA_n hA).2.trans e2
  by_cases q : i = n
  · subst q
    obtain ⟨r, s, σ1, σ2, h1, h2, h3⟩ := j_C hR hF hn hn1 hw e1 C0 C1 hmd hA hD hg (zkb3 hN hn) hS
    have h1 : zit (f_X10_cheese_88 F) F τ (nI w, g, g) = some (r, σ1) := h1
    have h2 : zit (f_X11_cheese_162 F) F σ1 (nI w, g) = some (s, σ2) := h2
    have k1 : σ1.1 60 0 1 = nI i := by
      have l := x_it τ (fun r r2 hr s y => x_X10_cheese_88 τ F r r2 s y hr) F τ (nI w, g, g)
      rw [zmx_self, h1] at l
      rw [← zM_keep l, zmx_y zkd6.1, t2]
    refine Or.inl ⟨r, s, σ1, σ2, fun rec => ?_, fun rec => ?_, h3⟩
    · unfold f_X10_cheese_55
      simp only
      rw [t1, if_pos (Int32.le_refl _), h1]
    · unfold f_X11_cheese_59
      simp only
      rw [k1, if_pos (Int32.le_refl _), h2]
  · obtain ⟨hin, hi1, hm⟩ := zkc1 hi q
    have hi10 : i < 10 := Nat.lt_of_lt_of_le hin hn
    have i1 := inb_n hi10 (show 10 < 100000 by decide)
    have i2 := nI_clamp (n := i) (Nat.lt_trans hi10 (by decide))
    have l1 := zkc4 n i hin hn
    obtain ⟨a5, a7, a9, a65, a66⟩ := zkA_b hA
    obtain ⟨-, -, -, b5, -, b7, b9, -⟩ := g4 i hi10
    obtain ⟨m0, m1, r0, r1⟩ := mr i hi10
    have mT : (σ.1 65 0 i).toInt ≤ T := by
      rw [← eT]
      exact zsz_mem (f := fun i => (σ.1 65 0 i).toInt) (n := n) (fun i hi => (mr i (Nat.lt_of_lt_of_le hi hn)).1) i hin
    have P1 := zkP_t (w := w) hw (m := σ.1 65 0 i) (T := T32.toInt64) m0 m1 (by rw [Int32.toInt_toInt64, t32]; exact hT) (by rw [Int32.toInt_toInt64, t32]; exact mT)
    have P2 := zkP_t (w := w) hw (m := σ.1 65 0 i) (T := T64) m0 m1 (by rw [t64]; exact hT) (by rw [t64]; exact mT)
    rw [Int32.toInt_toInt64, t32] at P1
    rw [t64] at P2
    obtain ⟨p1, p2, p3⟩ := P1
    have p4 := P2.1
    obtain ⟨X1, -, X3, X4⟩ := zkb6 (x := σ.1 66 0 i) (p := zkP w (σ.1 65 0 i) T32.toInt64) r0 r1 (by rw [p1]; exact p2) (by rw [p1]; exact p3)
    obtain ⟨-, L2, -, -⟩ := zkb6 (x := σ.1 66 0 i) (p := zkP w (σ.1 65 0 i) T64) r0 r1 (by rw [p4]; exact p2) (by rw [p4]; exact p3)
    obtain ⟨X, hX⟩ : ∃ X, X = σ.1 66 0 i + (zkP w (σ.1 65 0 i) T32.toInt64).toInt32 := ⟨_, rfl⟩
    obtain ⟨l, hl⟩ : ∃ l, l = zkP w (σ.1 65 0 i) T64 + (σ.1 66 0 i).toInt64 := ⟨_, rfl⟩
    rw [← hX] at X1
    rw [← hl, p4] at L2
    rw [← X1] at X3 X4
    rw [p1] at X1
    obtain ⟨V1, V2, V3, V4, V5, V6⟩ := zkx (X := X) (l := l) (X1.trans L2.symm) X3 X4
    have ps := zks_p (σ := σ) (τ := τ) F (b := i) (w := w) hi10 nT (X := X) (by rw [a9, b9, a5, b5, hX]) (by rw [a7, b7])
    have o := zks_6 σ τ i (X - zkV X * 10000) (zkV X)
    obtain ⟨u1, u2⟩ := k_st hA hD zkc2.1 zkc2.2.1 zkc2.2.2 (r := X - zkV X * 10000) (v := zkV X) V3 V4
    obtain ⟨s1, s2⟩ := k_sum1 σ τ i (X - zkV X * 10000) (zkV X)
    have K : ∀ f : Int32 → Option (Int32 × zMem), (if 0 ≤ lg_cmp l 0 then zg (znl 10000) (f (l / 10000).toInt32) else f 0) = f (zkV X) := fun f => by
      rw [← V1]
      by_cases qq : 0 ≤ lg_cmp l 0
      · rw [if_pos qq, if_pos qq, zg_i (by decide)]
      · rw [if_neg qq, if_neg qq]
    refine Or.inr ⟨n - (i + 1), (nI w, T32, g + zkV X, nI (i + 1)), (nI w, T64, g + zkV X, nI (i + 1)), zks σ τ i (X - zkV X * 10000) (zkV X), zku (zks σ τ i (X - zkV X * 10000) (zkV X)) i (X - zkV X * 10000) (zkV X), hm, fun rec => ?_, fun rec => ?_, i + 1, g + zkV X, hi1, rfl, rfl, rfl, u1, u2, ?_, ?_, ?_⟩
    · unfold f_X10_cheese_55
      simp only
      rw [t1, if_neg l1, zg_i i1, i2, ps, zb_s, nI_1]
    · unfold f_X11_cheese_59
      simp only
      rw [o _ _ _ zkd6.1, t2, if_neg l1, zg_i i1, zg_i (by simpa [znl] using nT2), zg_i i1, i2, o _ _ _ (show 60 ≤ 65 by decide), o _ _ _ zkd6.2.1, a65, a66]
      rw [show (nI w).toInt64 * (σ.1 65 0 i).toInt64 * 10000 / T64 + (σ.1 66 0 i).toInt64 = l from hl.symm]
      exact (K (fun s0 => f_X11_cheese_120 F rec (zks σ τ i (X - zkV X * 10000) (zkV X)) (nI w) T64 g (nI i) l s0 (nI i))).trans (e_120 F rec _ (nI w) T64 g l hi10 V2)
    · rw [s2]
      exact zkb5 hg N0 (zkb3 hN (Nat.le_of_lt hi10)) V4 V6
    · rw [s2]
      exact zkb2 hN V6
    · rw [s1, s2]
      exact zkb1 hS V5 X1
theorem a_cheese {σ : zMem} (hR : zRel σ) {F : Nat} (hF : 300000 < F) (x : Int32) : zOK (fun σ => f_X10_cheese F σ x) (fun σ => f_X11_cheese F σ x) σ := by
  obtain ⟨n, hn, e1, e2⟩ := zRh_n hR.1
  have g4 := hR.1.2.2.2.1
  obtain ⟨-, mr⟩ := k_mr hR
  have t9 : (9999 : Int32).toInt = 9999 := rfl
  by_cases x1 : x < 0
  · exact zOK_same hR (-2) (by simp [f_X10_cheese, x1]) (by simp [f_X11_cheese, e_X11_in, zb, x1])
  by_cases x2 : 9999 < x
  · have x3 : ¬ x ≤ 9999 := Int32.not_le.mpr x2
    exact zOK_same hR (-2) (by simp [f_X10_cheese, x1, x3]) (by simp [f_X11_cheese, e_X11_in, zb, x1, x2])
  have x3 := Int32.not_lt.mp x2
  obtain ⟨w, hw, rfl⟩ := nI_of2 (M := 9999) (n := 9999) rfl x1 x3
  refine zJ_ok (zJ_c (f' := fun s => zit (f_X10_cheese_18 F) F s (nI w, 0, 0)) (g' := fun s => zit (f_X11_cheese_19 F) F s (nI w, 0, 0)) ?_ (fun s => ?_) ?_)
  · show f_X10_cheese F σ (nI w) = _
    unfold f_X10_cheese
    rw [if_neg x1, if_pos x3]
  · unfold f_X11_cheese
    rw [e_X11_in, zb_s, if_neg x1, if_neg x2, if_neg (by decide)]
  refine zlock (0 : Int32) (0 : Int32) (fun τ r r2 h s y => x_X10_cheese_18 τ F r r2 s y h) (fun τ r r2 h s y => y_X11_cheese_19 τ F r r2 s y h)
    (fun m τ x y => τ = σ ∧ ∃ i s t, i ≤ n ∧ m = n - i ∧ x = (nI w, s, nI i) ∧ y = (nI w, t, nI i) ∧ s.toInt = zsz (fun i => (σ.1 65 0 i).toInt) i ∧ t.toInt = zsz (fun i => (σ.1 65 0 i).toInt) i ∧ 0 ≤ zsz (fun i => (σ.1 65 0 i).toInt) i ∧ zsz (fun i => (σ.1 65 0 i).toInt) i ≤ 5702400 * (i : Int)) _ ?_ F n σ _ _ (zkc3 hF hn) ⟨rfl, 0, 0, 0, Nat.zero_le n, rfl, by rw [nI_0], by rw [nI_0], rfl, (show (0 : Int64).toInt = 0 by decide), Int.le_refl _, Int.le_refl _⟩
  rintro m τ x y ⟨rfl, i, s, t, hi, rfl, rfl, rfl, hs, ht, h0, h9⟩
  have z6 : (0 : Int64).toInt = 0 := by decide
  by_cases q : i = n
  · subst q
    by_cases p : 0 < s
    · have p1 := Int32.lt_iff_toInt_lt.mp p
      rw [Int32.toInt_zero, hs] at p1
      have i1 : 1 ≤ i := by
        by_cases c : i = 0
        · subst c
          exact absurd p1 (by show ¬ (0 : Int) < 0; omega)
        · omega
      obtain ⟨r, r2, σ1, σ2, h1, h2, h3⟩ := j_B hR (w := w) hF hn i1 hw e1 p1 hs ht rfl
      have h1 : zit (f_X10_cheese_55 F) F τ (nI w, s, 0, 0) = some (r, σ1) := h1
      have h2 : zit (f_X11_cheese_59 F) F σ1 (nI w, t, 0, 0) = some (r2, σ2) := h2
      have k1 : σ1.1 60 0 1 = nI i := by
        have l := x_it τ (fun r r2 hr s y => x_X10_cheese_55 τ F r r2 s y hr) F τ (nI w, s, 0, 0)
        rw [zmx_self, h1] at l
        rw [← zM_keep l, zmx_y zkd6.1, e2]
      have nt : ¬ lg_cmp t 0 = 0 := fun c => by
        rw [lg_cmp_eq, ← Int64.toInt_inj, z6, ht] at c
        omega
      refine Or.inl ⟨r, r2, σ1, σ2, fun rec => ?_, fun rec => ?_, h3⟩
      · unfold f_X10_cheese_18
        simp only
        rw [e1, if_pos (Int32.le_refl _), if_pos p, h1]
      · unfold f_X11_cheese_19
        simp only
        rw [k1, if_pos (Int32.le_refl _), if_neg nt, h2]
    · have nt : lg_cmp t 0 = 0 := by
        rw [lg_cmp_eq, ← Int64.toInt_inj, z6, ht]
        rw [Int32.lt_iff_toInt_lt, Int32.toInt_zero, hs] at p
        omega
      refine Or.inl ⟨0, 0, τ, τ, fun rec => ?_, fun rec => ?_, rfl, hR⟩
      · unfold f_X10_cheese_18
        simp only
        rw [e1, if_pos (Int32.le_refl _), if_neg p]
      · unfold f_X11_cheese_19
        simp only
        rw [e2, if_pos (Int32.le_refl _), if_pos nt]
  · obtain ⟨hin, hi1, hm⟩ := zkc1 hi q
    have hi10 : i < 10 := Nat.lt_of_lt_of_le hin hn
    have i1 := inb_n hi10 (show 10 < 100000 by decide)
    have i2 := nI_clamp (n := i) (Nat.lt_trans hi10 (by decide))
    have l1 := zkc4 n i hin hn
    obtain ⟨m0, m1, -, -⟩ := mr i hi10
    have b5 := (g4 i hi10).2.2.2.1
    have zs : zsz (fun i => (τ.1 65 0 i).toInt) (i + 1) = zsz (fun i => (τ.1 65 0 i).toInt) i + (τ.1 65 0 i).toInt := rfl
    refine Or.inr ⟨n - (i + 1), (nI w, s + τ.1 65 0 i, nI (i + 1)), (nI w, t + (τ.1 65 0 i).toInt64, nI (i + 1)), τ, τ, hm, fun rec => ?_, fun rec => ?_, rfl, i + 1, _, _, hi1, rfl, rfl, rfl, ?_, ?_, ?_, ?_⟩
    · unfold f_X10_cheese_18
      simp only
      rw [e1, if_neg l1, zg_i i1, i2, b5, nI_1]
    · unfold f_X11_cheese_19
      simp only
      rw [e2, if_neg l1, zg_i i1, i2, nI_1]
    · rw [zs, t_add (by omega) (by omega), hs]
    · rw [zs, Int64.toInt_add, Int32.toInt_toInt64, Int.bmod_eq_of_le (by omega) (by omega), ht]
    · rw [zs]
      omega
    · rw [zs]
      omega
