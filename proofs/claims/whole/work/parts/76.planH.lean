theorem zpk_cut {a n : Nat} (h : a < 2 ^ n) : ∀ m, zpk a (n + m) = zpk a n
  | 0 => rfl
  | m + 1 => by
    have ih := zpk_cut h m
    have b : a.testBit (n + m) = false := Nat.testBit_lt_two_pow (Nat.lt_of_lt_of_le h (Nat.pow_le_pow_right (by omega) (by omega)))
    rw [← Nat.add_assoc, zpk_s, b, ih]
    rfl
theorem k_day {n d : Nat} (hn : n ≤ 30) (hd : d ≤ 7199) : (nI n ≤ 7200 - nI d ↔ d + n ≤ 7200) ∧ (nI d + nI n ≤ 7200 ↔ d + n ≤ 7200) := by
  have e : (7200 : Int32) - nI d = nI (7200 - d) := by
    apply Int32.toInt_inj.mp
    have k : (7200 : Int32).toInt = 7200 := rfl
    rw [t_sub (by rw [k, nI_toInt (by omega)]; omega) (by rw [k, nI_toInt (by omega)]; omega), k, nI_toInt (by omega), nI_toInt (by omega)]
    omega
  rw [e, nI_add, nI_leI (by omega) (by omega)]
  refine ⟨by omega, ?_⟩
  have : (7200 : Int32) = nI 7200 := rfl
  rw [this, nI_leI (by omega) (by omega)]
theorem a_plan {σ : zMem} (hR : zRel σ) {F : Nat} (hF : 300000 < F) (x y v : Int32) : zOK (fun σ => f_X10_plan F σ x y v) (fun σ => f_X11_plan F σ x y v) σ := by
  obtain ⟨N, hN, e0, e60⟩ := zRh_n hR.1
  obtain ⟨⟨d, hd, ed⟩, ed2, ⟨m, hm, em, -⟩, em2, -, eg, es⟩ := hR.2.2.2.2.1
  have eu := hR.1.2.2.2.2.2
  have ed2 : σ.1 60 0 0 = nI d := ed2.trans ed
  have em2 : σ.1 60 0 25 = nI m := em2.trans em
  by_cases hs : x.toUInt32.toNat < 2 ^ N
  rotate_left
  · refine zOK_same hR (-1) ?_ ?_
    · unfold f_X10_plan f_X10_areHouses
      rw [e0, if_neg (fun w => hs ((zpn_s x hN).mp w)), zb_s, if_pos rfl]
    · unfold f_X11_plan
      rw [e_pb, zb_s, e60, if_neg (fun w => hs ((zpn_m x hN).mp w))]
  obtain ⟨a, ha, ha2, rfl⟩ := zpn_a hN hs
  have hkb : zpb (nI a) = nI (zpk a N) := by
    rw [zpb_k a ha2, show (10 : Nat) = N + (10 - N) by omega, zpk_cut ha]
  obtain ⟨k, hk⟩ : ∃ k, k = zpk a N := ⟨_, rfl⟩
  have k10 : k ≤ 10 := by
    have := zpk_le a N
    omega
  rw [← hk] at hkb
  have c1 := (zpn_s (nI a) hN).mpr hs
  have r1 := (zpn_m (nI a) hN).mpr hs
  by_cases a0 : nI a = 0
  · refine zOK_same hR (-1) ?_ ?_
    · unfold f_X10_plan f_X10_areHouses
      rw [e0, if_pos c1, zb_s, if_neg (by decide), if_pos a0]
    · unfold f_X11_plan
      rw [e_pb, zb_s, e60, if_pos r1, if_pos a0]
  by_cases m0 : nI m = 0
  · refine zOK_same hR (-1) ?_ ?_
    · unfold f_X10_plan f_X10_areHouses
      rw [e0, if_pos c1, zb_s, if_neg (by decide), if_neg a0, em, if_pos m0]
    · unfold f_X11_plan
      rw [e_pb, zb_s, e60, if_pos r1, if_neg a0, em2, if_pos m0]
  have hm1 : 1 ≤ m := by
    by_cases w : m = 0
    · rw [w, nI_0] at m0
      exact absurd rfl m0
    · omega
  by_cases v0 : v < 0
  · refine zOK_same hR (-1) ?_ ?_
    · unfold f_X10_plan f_X10_areHouses
      rw [e0, if_pos c1, zb_s, if_neg (by decide), if_neg a0, em, if_neg m0, e_pb, zb_s, if_pos v0]
    · unfold f_X11_plan
      rw [e_pb, zb_s, e60, if_pos r1, if_neg a0, em2, if_neg m0, e_X11_in, if_pos v0, zb_s, if_pos rfl]
  by_cases v1 : v ≤ nI k
  rotate_left
  · refine zOK_same hR (-1) ?_ ?_
    · unfold f_X10_plan f_X10_areHouses
      rw [e0, if_pos c1, zb_s, if_neg (by decide), if_neg a0, em, if_neg m0, e_pb, zb_s, if_neg v0, hkb, if_neg v1]
    · unfold f_X11_plan
      rw [e_pb, zb_s, e60, if_pos r1, if_neg a0, em2, if_neg m0, e_X11_in, if_neg v0, hkb, if_pos (Int32.not_le.mp v1), zb_s, if_pos rfl]
  have v2 : ¬ nI k < v := Int32.not_lt.mpr v1
  obtain ⟨c, hc, rfl⟩ := nI_of2 (M := nI k) (n := k) (nI_toInt (by omega)) v0 v1
  by_cases y0 : y < 1
  · refine zOK_same hR (-2) ?_ ?_
    · unfold f_X10_plan f_X10_areHouses
      rw [e0, if_pos c1, zb_s, if_neg (by decide), if_neg a0, em, if_neg m0, e_pb, zb_s, if_neg v0, hkb, if_pos v1, if_pos y0]
    · unfold f_X11_plan
      rw [e_pb, zb_s, e60, if_pos r1, if_neg a0, em2, if_neg m0, e_X11_in, if_neg v0, hkb, if_neg v2, zb_s, if_neg (by decide), e_X11_in, if_pos y0, zb_s, if_pos rfl]
  by_cases y1 : 30 < y
  · refine zOK_same hR (-2) ?_ ?_
    · unfold f_X10_plan f_X10_areHouses
      rw [e0, if_pos c1, zb_s, if_neg (by decide), if_neg a0, em, if_neg m0, e_pb, zb_s, if_neg v0, hkb, if_pos v1, if_neg y0, if_pos y1]
    · unfold f_X11_plan
      rw [e_pb, zb_s, e60, if_pos r1, if_neg a0, em2, if_neg m0, e_X11_in, if_neg v0, hkb, if_neg v2, zb_s, if_neg (by decide), e_X11_in, if_neg y0, if_pos y1, zb_s, if_pos rfl]
  by_cases k5 : 5 < nI k
  · refine zOK_same hR (-2) ?_ ?_
    · unfold f_X10_plan f_X10_areHouses
      rw [e0, if_pos c1, zb_s, if_neg (by decide), if_neg a0, em, if_neg m0, e_pb, zb_s, if_neg v0, hkb, if_pos v1, if_neg y0, if_neg y1, if_pos k5]
    · unfold f_X11_plan
      rw [e_pb, zb_s, e60, if_pos r1, if_neg a0, em2, if_neg m0, e_X11_in, if_neg v0, hkb, if_neg v2, zb_s, if_neg (by decide), e_X11_in, if_neg y0, if_neg y1, zb_s, if_neg (by decide), if_pos k5]
  have y00 : ¬ y < 0 := fun w => y0 (Int32.lt_of_lt_of_le w (by decide))
  obtain ⟨n, hn, rfl⟩ := nI_of2 (M := 30) (n := 30) rfl y00 (Int32.not_lt.mp y1)
  obtain ⟨kd1, kd2⟩ := k_day hn hd
  by_cases dn : d + n ≤ 7200
  rotate_left
  · refine zOK_same hR (-2) ?_ ?_
    · unfold f_X10_plan f_X10_areHouses
      rw [e0, if_pos c1, zb_s, if_neg (by decide), if_neg a0, em, if_neg m0, e_pb, zb_s, if_neg v0, hkb, if_pos v1, if_neg y0, if_neg y1, if_neg k5, ed, if_neg (fun w => dn (kd1.mp w))]
    · unfold f_X11_plan
      rw [e_pb, zb_s, e60, if_pos r1, if_neg a0, em2, if_neg m0, e_X11_in, if_neg v0, hkb, if_neg v2, zb_s, if_neg (by decide), e_X11_in, if_neg y0, if_neg y1, zb_s, if_neg (by decide), if_neg k5, ed2, if_neg (fun w => dn (kd2.mp w))]
  have hk5 : k ≤ 5 := by
    have w := Int32.not_lt.mp k5
    have e5 : (5 : Int32) = nI 5 := rfl
    rw [e5, nI_leI (by omega) (by omega)] at w
    exact w
  -- the class
  obtain ⟨C, hC⟩ : ∃ C, C = zmc (fun j => σ.1 32 0 j) (fun h => σ.1 3 h 2) a N := ⟨_, rfl⟩
  have lm := e_listMembers (σ := σ) (a := a) (n := N) (F := F) (by omega) ha2 hN (by omega) e0
  rw [← hk, ← hC] at lm
  have o1 : ∀ K, K ≠ 32 → (zrow σ 32 C).1 K = σ.1 K := fun K h => zrow_o σ 32 C h
  have fo := e_fore (σ := zrow σ 32 C) (A := a) (N := N) (k := k) (m := m) (n := n) (d := d) (F := F) (by omega) ha2 hN hk5 hm hn dn (zRk_c (o1 _ (by decide)) (o1 _ (by decide)) (o1 _ (by decide)) (o1 _ (by decide)) hR.2.2.2.1) (by rw [o1 0 (by decide), e0]) (by rw [o1 25 (by decide), em]) (by rw [o1 0 (by decide), ed])
  obtain ⟨T, hT⟩ : ∃ T, T = zht (zpw (zrow σ 32 C) d n) a N k n m 0 := ⟨_, rfl⟩
  rw [← hT] at fo
  obtain ⟨s2, hs2⟩ : ∃ s2, s2 = ztab (zpw (zrow σ 32 C) d n) 34 T := ⟨_, rfl⟩
  rw [← hs2] at fo
  have s2o : ∀ K, K < 30 ∨ 37 < K → s2.1 K = σ.1 K := fun K h => by rw [hs2, ztab_o _ 34 T (by omega), zpw_o _ d n (by omega) (by omega), o1 K (by omega)]
  have s22 : s2.2 = σ.2 := by rw [hs2]; rfl
  have s2T : s2.1 34 = T := by rw [hs2, ztab_at]
  obtain ⟨s3, f1, f2, f3, f4⟩ := e_bestPlan (σ := s2) (m := m) (k := k) (F := F) (by omega) hm1 hm hk5 (by rw [s2o 25 (by decide), em])
  obtain ⟨V, hV⟩ : ∃ V : Nat → Int32, V = fun v => zsum (zhr σ a N n d (zdg m k v)) m := ⟨_, rfl⟩
  have Vv : ∀ v, V v = zsum (zhr σ a N n d (zdg m k v)) m := fun v => by rw [hV]
  have VV : zpvv (s2.1 34) m k = V := by
    funext v
    rw [Vv v, s2T]
    unfold zpvv
    exact zsum_c fun b hb => by
      have z : T b (zbt (zdg m k v) b k) = zhvv (zpw (zrow σ 32 C) d n) a N k n b (zbt (zdg m k v) b k) := by
        rw [hT]
        exact if_pos (Or.inl ⟨hb, zbt_lt _ _ _⟩)
      rw [z, zhvv_w, hC]
      exact zhw_r hR hN hk.symm hb hm
  rw [VV] at f1 f4
  have s3o : ∀ K, K < 30 ∨ 37 < K → s3.1 K = σ.1 K := fun K h => by rw [f3 K (by omega) (by omega) (by omega), s2o K h]
  have s32 : s3.2 = σ.2 := f2.trans s22
  have b6 : ∀ b, b < m → zib (σ.1 88 0 b) 0 99 ∧ zib (σ.1 89 0 b) 0 990 := fun b hb => hR.2.2.2.2.2.2.2.2.2.2.2.2.2.2.2.1 b (by omega)
  obtain ⟨s4, g1, g2, g3⟩ := e_pl111 (σ := s3) (A := a) (N := N) (k := k) (m := m) (n := n) (d := d) (c := c) (F := F) (by omega) ha2 hN hk.symm hk5 hm1 hm hn dn (by rw [s3o 60 (by decide), e60]) (by rw [s3o 60 (by decide), em2]) (by rw [s3o 60 (by decide), ed2]) (by rw [s3o 60 (by decide), eg]) (by rw [s3o 60 (by decide), es]) (by rw [s3o 60 (by decide), eu]) (fun b hb => by rw [s3o 89 (by decide)]; exact (b6 b hb).2) (fun b hb => by rw [s3o 88 (by decide)]; exact (b6 b hb).1) (fun h hh => by rw [s3o 62 (by decide)]; exact k_b62 hR (by omega)) (fun b h hb hh => by rw [s3o 72 (by decide)]; exact k_b72 hR (by omega) (by omega)) hc (V := V) (fun v => by
    rw [Vv v]
    exact zsum_c fun b _ => (zhr_c (fun K h _ => s3o K (by omega)) a N n d _ b).symm) (by rw [Vv 0]; exact k_V0 hR hN hn hm)
  refine zOK_i (if c = 0 then (zbm V (m ^ k - 1)).1 else nI (zdg m k (zbm V (m ^ k - 1)).2 (c - 1))) s3 s4 ?_ ?_ ?_
  · show f_X10_plan F σ (nI a) (nI n) (nI c) = _
    unfold f_X10_plan f_X10_areHouses
    rw [e0, if_pos c1, zb_s, if_neg (by decide), if_neg a0, em, if_neg m0, e_pb, zb_s, if_neg v0, hkb, if_pos v1, if_neg y0, if_neg y1, if_neg k5, ed, if_pos (kd1.mpr dn), lm, zb_s, fo, zb_s, f1, zb_s]
    by_cases w : c = 0
    · rw [w, nI_0, if_pos rfl, if_pos rfl]
    · obtain ⟨c, rfl⟩ : ∃ c2, c = c2 + 1 := ⟨c - 1, by omega⟩
      rw [if_neg (nI_ne0 (by omega) (by omega)), if_neg w, nI_pred, zg_i (inb_n (show c < 5 by omega) (by decide)), nI_clamp (show c < 2 ^ 31 by omega), f4 c (by omega), Nat.add_sub_cancel]
  · show f_X11_plan F s3 (nI a) (nI n) (nI c) = _
    have q1 : s3.1 60 0 1 = nI N := by rw [s3o 60 (by decide), e60]
    have q2 : s3.1 60 0 25 = nI m := by rw [s3o 60 (by decide), em2]
    have q3 : s3.1 60 0 0 = nI d := by rw [s3o 60 (by decide), ed2]
    unfold f_X11_plan
    rw [e_pb, zb_s, q1, if_pos r1, if_neg a0, q2, if_neg m0, e_X11_in, if_neg v0, hkb, if_neg v2, zb_s, if_neg (by decide), e_X11_in, if_neg y0, if_neg y1, zb_s, if_neg (by decide), if_neg k5, q3, if_pos (kd2.mpr dn), e_pl81 (by omega) hk5 q2]
    exact g1
  · refine zRel_keep (σ := σ) (g2.trans s32) (fun K h0 h1 => ?_) hR
    rw [g3 K h1, s3o K h0]

