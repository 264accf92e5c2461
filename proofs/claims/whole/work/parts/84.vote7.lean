/-- one test of a word, as both sides keep it -/
def ztr2 (S S' : Nat → Nat → Int32) (i : Nat) : Prop := S 17 i = S' 82 (6 * i) ∧ (S 17 i = 0 ∨ S 17 i = 1) ∧ S 14 i = S' 82 (6 * i + 1) ∧ (∃ g, g < 3 ∧ S 15 i = nI g ∧ S' 82 (6 * i + 3) = nI (60 + g)) ∧ S 16 i = S' 82 (6 * i + 4) ∧ S 18 i = S' 82 (6 * i + 5) ∧ (S 18 i = 0 ∨ S 18 i = 1)
theorem ztr2_c {S S' T T' : Nat → Nat → Int32} {i : Nat} (h1 : ∀ K, 14 ≤ K → K ≤ 18 → T K i = S K i) (h2 : ∀ k, k < 6 → T' 82 (6 * i + k) = S' 82 (6 * i + k)) (h : ztr2 S S' i) : ztr2 T T' i := by
  unfold ztr2
  rw [h1 17 (by decide) (by decide), h1 14 (by decide) (by decide), h1 15 (by decide) (by decide), h1 16 (by decide) (by decide), h1 18 (by decide) (by decide), h2 1 (by decide), h2 3 (by decide), h2 4 (by decide), h2 5 (by decide), show T' 82 (6 * i) = S' 82 (6 * i) from h2 0 (by decide)]
  exact h
theorem zt4_i (S : Nat → Nat → Int32) (i : Nat) {k : Nat} (hk : k < 6) : zt4 S i 82 (6 * i + k) = S 111 k := by
  show (if (82 : Nat) = 82 ∧ 6 * i ≤ 6 * i + k ∧ 6 * i + k < 6 * i + 6 then S 111 (6 * i + k - 6 * i) else S 82 (6 * i + k)) = S 111 k
  rw [if_pos (show (82 : Nat) = 82 ∧ 6 * i ≤ 6 * i + k ∧ 6 * i + k < 6 * i + 6 by omega), Nat.add_sub_cancel_left]
theorem zt4_n (S : Nat → Nat → Int32) (i : Nat) {K j : Nat} (h : ¬ (K = 82 ∧ 6 * i ≤ j ∧ j < 6 * i + 6)) : zt4 S i K j = S K j := if_neg h
theorem zpk_jn (t : Nat → Nat) (n p : Nat) : zpick t n p zJNTS 0 0 = if p < n ∧ t p = 111 then zone t n p 1 [111, 114] else zone t n p 0 [97, 110, 100] := by
  by_cases h : p < n ∧ t p = 111
  · rw [if_pos h, zp_zJNTS_1 (zlp_no h)]
  · rw [if_neg h]
    by_cases h2 : p < n ∧ t p = 97
    · rw [zp_zJNTS_0 (zlp_no h2)]
    · rw [zone_0 0 _ h2]
      exact zpick_f zJNTS 0 0 (zmm ⟨by rw [zlp_0 _ h2]; decide, by rw [zlp_0 _ h2]; decide⟩ (zmm ⟨by rw [zlp_0 _ h]; decide, by rw [zlp_0 _ h]; decide⟩ zm0))
theorem zck24 : ∀ i, i < 4 → zck 0 (6 * nI i) 6 6 24 = true := by decide
/-- the tests from the i-th on -/
def zJT (σ σ' : zMem) (t : Nat → Nat) (n c F m : Nat) : Prop := ∀ (i p : Nat) (S S' : Nat → Nat → Int32) (f o orr : Int32) (F1 F2 : Nat), i + m = 3 → m < F1 → m < F2 → p ≤ n → (orr = 0 ∨ orr = 1) → S' 111 5 = orr → S' 80 3 = nI i → (∀ i', i' < i → ztr2 S S' i') → ∃ (ok : Bool) (q : Nat) (S1 S2 : Nat → Nat → Int32) (a f2 o2 : Int32), q ≤ n ∧ zit (f_X9_readTests_4 F) F1 (zvc σ c S p) (c, orr, nI i) = some (if ok then 1 else 0, zvc σ c S1 q) ∧ zit (f_X11_wordHere_139 F) F2 (zrs σ' c S' (nI p) f o) c = some (if ok then 1 else 0, zrs σ' c S2 a f2 o2) ∧ (∀ j, j ≠ 6 → S1 13 j = S 13 j) ∧ (∀ j, j ≠ 3 → S2 80 j = S' 80 j) ∧ (ok = true → ∃ T, 0 < T ∧ T ≤ 4 ∧ S1 13 6 = nI T ∧ S2 80 3 = nI T ∧ ∀ i', i' < T → ztr2 S1 S2 i') ∧ (ok = false → f2 = nI q)
theorem j_tests1 {σ σ' : zMem} {t : Nat → Nat} {n c m F : Nat} (hF : 100 < F) (ht : ztC σ t n) (ht' : ztR σ' t n) (hc : c < 40) (hcnt : σ'.1 60 0 20 = nI c) (ih : ∀ m', m = m' + 1 → zJT σ σ' t n c F m') : zJT σ σ' t n c F m := by
  intro i p S S' f o orr F1 F2 him hF1 hF2 hp hor h5 h3 hpre
  obtain ⟨G1, rfl⟩ : ∃ G, F1 = G + 1 := ⟨F1 - 1, by omega⟩
  obtain ⟨G2, rfl⟩ : ∃ G, F2 = G + 1 := ⟨F2 - 1, by omega⟩
  have hi : i < 4 := by omega
  have n100 := ht.1
  have d40 : decide (c < 40) = true := decide_eq_true hc
  have d41 : decide (c < 41) = true := decide_eq_true (by omega)
  have ii := inb_n hi (show 4 < 100000 by decide)
  have ni := nI_clamp (show i < 2 ^ 31 by omega)
  have bo : (zbo orr && inb (nI i) 4) = true := by
    rw [ii]
    rcases hor with rfl | rfl <;> decide
  have ic := inb_n (show c < 41 by omega) (show 41 < 100000 by decide)
  have nc := nI_clamp (show c < 2 ^ 31 by omega)
  have i3 : inb 3 6 = true := by decide
  have i5 : inb 5 6 = true := by decide
  have l4 : ¬ (4 : Int32) ≤ nI i := nle_l 4 (n := 4) rfl hi (by decide)
  have v80 : ∀ j, zPv c 80 c j = true := fun j => by simp [zPv]
  obtain ⟨ok, q, S1, S2, a, f2, o2, g1, g2, g3, g4, g5, g6, g7⟩ := j_test (F := F) (c := c) (c' := c) hF ht ht' (zup2 S 18 i orr) S' f o hp hc hi
  show ∃ (ok : Bool) (q : Nat) (S1 S2 : Nat → Nat → Int32) (a f2 o2 : Int32), q ≤ n ∧ f_X9_readTests_4 F (zit (f_X9_readTests_4 F) G1) (zvc σ c S p) (c, orr, nI i) = some (if ok then 1 else 0, zvc σ c S1 q) ∧ f_X11_wordHere_139 F (zit (f_X11_wordHere_139 F) G2) (zrs σ' c S' (nI p) f o) c = some (if ok then 1 else 0, zrs σ' c S2 a f2 o2) ∧ _
  have f13 : ∀ j, S1 13 j = S 13 j := fun j => by rw [g4 13 j (by omega), zup2_n _ _ (by omega)]
  have f80 : ∀ j, S2 80 j = S' 80 j := fun j => g5 80 j (by omega)
  rcases ok with _ | _
  · have g2 : f_X9_readTest F (zvc σ c (zup2 S 18 i orr) p) c (nI i) = some (0, zvc σ c S1 q) := g2
    have g3 : f_X11_testHere F (zrs σ' c S' (nI p) f o) = some (0, zrs σ' c S2 a f2 o2) := g3
    refine ⟨false, q, S1, S2, a, f2, o2, g1, ?_, ?_, fun j _ => f13 j, fun j _ => f80 j, fun h => (by cases h), g7⟩
    · unfold f_X9_readTests_4
      simp only
      rw [zg_i d40, if_neg l4, zg_i bo, ni, zvc_w _ _ _ _ _ (by decide) (by decide), g2, zb_s, if_pos rfl]
      rfl
    · unfold f_X11_wordHere_139
      rw [zg_i d41, g3, zb_s, if_pos rfl]
      rfl
  have g2 : f_X9_readTest F (zvc σ c (zup2 S 18 i orr) p) c (nI i) = some (1, zvc σ c S1 q) := g2
  have g3 : f_X11_testHere F (zrs σ' c S' (nI p) f o) = some (1, zrs σ' c S2 a f2 o2) := g3
  obtain ⟨rfl, t1, t2, t3, t4, t5⟩ := g6 rfl
  have r0 : (zrs σ' c S2 (nI q) f2 o2).1 60 0 20 = nI c := by rw [zrs_o _ _ _ _ _ _ (by simp [zPv]), hcnt]
  have r3 : (zrs σ' c S2 (nI q) f2 o2).1 80 c 3 = nI i := by rw [zrs_i _ _ _ _ _ _ (v80 3) (by decide), f80, h3]
  obtain ⟨T1, hT1⟩ : ∃ T1, T1 = zup2 S1 13 6 (nI (i + 1)) := ⟨_, rfl⟩
  obtain ⟨T2, hT2⟩ : ∃ T2, T2 = zup2 (zt4 S2 i) 80 3 (nI (i + 1)) := ⟨_, rfl⟩
  have a1 : ∀ K j, 14 ≤ K → T1 K j = S1 K j := fun K j h => by rw [hT1, zup2_n _ _ (by omega)]
  have a2 : ∀ j, T2 82 j = zt4 S2 i 82 j := fun j => by rw [hT2, zup2_n _ _ (by omega)]
  have T13 : ∀ j, j ≠ 6 → T1 13 j = S 13 j := fun j h => by rw [hT1, zup2_n _ _ (fun w => h w.2), f13]
  have T136 : T1 13 6 = nI (i + 1) := by rw [hT1, zup2_i]
  have T80 : ∀ j, j ≠ 3 → T2 80 j = S' 80 j := fun j h => by rw [hT2, zup2_n _ _ (fun w => h w.2), zt4_n _ _ (by omega), f80]
  have T803 : T2 80 3 = nI (i + 1) := by rw [hT2, zup2_i]
  have rel : ∀ i', i' < i + 1 → ztr2 T1 T2 i' := fun i' hi' => by
    by_cases e : i' = i
    · subst e
      unfold ztr2
      rw [a1 17 _ (by decide), a1 14 _ (by decide), a1 15 _ (by decide), a1 16 _ (by decide), a1 18 _ (by decide), a2, a2, a2, a2, a2, show zt4 S2 i' 82 (6 * i') = S2 111 0 from zt4_i S2 i' (k := 0) (by decide), zt4_i S2 i' (k := 1) (by decide), zt4_i S2 i' (k := 3) (by decide), zt4_i S2 i' (k := 4) (by decide), zt4_i S2 i' (k := 5) (by decide)]
      have s18 : S1 18 i' = orr := by rw [g4 18 i' (by omega), zup2_i]
      have s5 : S2 111 5 = orr := by rw [g5 111 5 (by omega), h5]
      exact ⟨t1, t2, t3, t4, t5, s18.trans s5.symm, by rw [s18]; exact hor⟩
    · refine ztr2_c (fun K h1 h2 => ?_) (fun k hk => ?_) (hpre i' (by omega))
      · rw [a1 K _ h1, g4 K i' (fun w => e w.2.2), zup2_n _ _ (fun w => e w.2)]
      · rw [a2, zt4_n _ _ (by omega), g5 82 _ (by omega)]
  have cl : ∀ rec, f_X9_readTests_4 F rec (zvc σ c S p) (c, orr, nI i) = if nI q = nI n then some (1, zvc σ c T1 q) else if nI i = 3 then some (0, zvc σ c T1 q) else zb (f_X9_readBlank F (zvc σ c T1 q)) fun r53 m53 => if r53 = 0 then some (0, m53) else zb (f_X9_readName F m53 5) fun r64 m64 => if r64 < 0 then some (0, m64) else zb (f_X9_readBlank F m64) fun r75 m75 => if r75 = 0 then some (0, m75) else if r64 = 1 then rec m75 (c, 1, nI (i + 1)) else rec m75 (c, 0, nI (i + 1)) := fun rec => by
    unfold f_X9_readTests_4
    simp only
    rw [zg_i d40, if_neg l4, zg_i bo, ni, zvc_w _ _ _ _ _ (by decide) (by decide), g2, zb_s, if_neg (by decide), nI_1, zvc_w _ _ _ _ _ (by decide) (by decide), ← hT1, zvc_r, zvc_o _ _ _ _ (show zPc c 11 0 3 = false by simp [zPc]), ht.2.1]
  have wr : ∀ (T : Nat → Nat → Int32) f o, f_X11_wordHere_209 F (zrs σ' c T (nI q) f o) = some (0, zrs σ' c T (nI q) (nI q) o) := fun T f o => by
    unfold f_X11_wordHere_209
    rw [e_wrong, zb_s, zg_i (by decide)]
  have e4 : ((zrs σ' c T2 (nI q) f2 o2).1 80 c 3 = 4) ↔ i = 3 := by
    rw [zrs_i _ _ _ _ _ _ (v80 3) (by decide), T803, show (4 : Int32) = nI 4 from rfl, nI_eq (by omega) (by omega)]
    omega
  have rf : ∀ rec, f_X11_wordHere_139 F rec (zrs σ' c S' (nI p) f o) c = if nI q = nI n then some (1, zrs σ' c T2 (nI q) f2 o2) else if zhc t n q = 32 then (if i = 3 then some (0, zrs σ' c T2 (nI q) (nI q) o2) else zb (f_X11_here F (zrs σ' c T2 (nI (q + 1)) f2 o2)) fun r230 m230 => if r230 = 111 then f_X11_wordHere_243 F rec m230 c 1 5 else f_X11_wordHere_243 F rec m230 c 0 5) else some (0, zrs σ' c T2 (nI q) (nI q) o2) := fun rec => by
    have cp := t_cp4 (σ := σ') (c := c) hi S2 (nI q) f2 o2
    have r33 : (zrs σ' c (zt4 S2 i) (nI q) f2 o2).1 80 c 3 = nI i := by rw [zrs_i _ _ _ _ _ _ (v80 3) (by decide), zt4_n _ _ (by omega), f80, h3]
    unfold f_X11_wordHere_139
    rw [zg_i d41, g3, zb_s, if_neg (by decide), r0, r3, nc, zg_i ic, zg_i i3, zg_i (zck24 i hi), zg_i i3, zg_i i3, cp, r33, nI_1, zrs_w _ _ _ _ _ _ _ (v80 3) (by decide), ← hT2, zrs_ra, zrs_o _ _ _ _ _ _ (show zPv c 60 0 19 = false by simp [zPv]), ht'.2.1, e_here ht' T2 f2 o2 g1, zb_s]
    by_cases z : i = 3
    · rw [if_pos z, zg_i i3, if_pos (e4.mpr z), wr]
    · rw [if_neg z, zg_i i3, if_neg (fun w => z (e4.mp w)), zrs_ra, nI_1, zrs_a, wr]
  rw [cl, rf]
  by_cases qn : q = n
  · rw [if_pos (by rw [qn]), if_pos (by rw [qn])]
    exact ⟨true, q, T1, T2, _, _, _, g1, rfl, rfl, T13, T80, fun _ => ⟨i + 1, by omega, by omega, T136, T803, rel⟩, fun h => (by cases h)⟩
  have qn' : ¬ nI q = nI n := fun w => qn ((nI_eq (by omega) (by omega)).mp w)
  rw [if_neg qn', if_neg qn']
  by_cases z3 : i = 3
  · have n3 : nI i = 3 := by rw [z3]; rfl
    rw [if_pos n3]
    refine ⟨false, q, T1, T2, nI q, nI q, o2, g1, rfl, ?_, T13, T80, fun h => (by cases h), fun _ => rfl⟩
    by_cases k : zhc t n q = 32
    · rw [if_pos k, if_pos z3]
      rfl
    · rw [if_neg k]
      rfl
  have n3 : ¬ nI i = 3 := fun w => z3 ((nI_eq (a := i) (b := 3) (by omega) (by decide)).mp w)
  have bl := e_blank (F := F) (c := c) ht T1 g1
  have e32 := zhc_eq (p := q) ht' (show 32 < 256 by decide)
  rw [if_neg n3]
  by_cases h32 : q < n ∧ t q = 32
  rotate_left
  · rw [if_neg h32, if_neg h32] at bl
    rw [bl, zb_s, if_pos rfl, if_neg (show ¬ zhc t n q = 32 from fun w => h32 (e32.mp w))]
    exact ⟨false, q, T1, T2, nI q, nI q, o2, g1, rfl, rfl, T13, T80, fun h => (by cases h), fun _ => rfl⟩
  rw [if_pos h32, if_pos h32] at bl
  have hq1 : q + 1 ≤ n := h32.1
  have nm := e_name (F := F) (c := c) (j := 5) hF ht T1 (p := q + 1) (by decide) ztb5 (ztbb zJNTS (by decide)) (by decide) hq1
  rw [bl, zb_s, if_neg (by decide), if_pos (show zhc t n q = 32 from e32.mpr h32), if_neg z3, nm, zb_s, e_here ht' T2 f2 o2 hq1, zb_s]
  obtain ⟨m', rfl⟩ : ∃ m', m = m' + 1 := ⟨m - 1, by omega⟩
  have ih := ih m' rfl
  have main : ∀ (k j : Nat) (w : List Nat), k < 2 → j < 28 → (k = 1 ∧ j = 26 ∨ k = 0 ∧ j = 27) → zSbyt.getD j [] = (w ++ [32]).map nI → (∀ x, x ∈ w ++ [32] → x < 128) → ∃ (ok : Bool) (q' : Nat) (S1 S2 : Nat → Nat → Int32) (a f2' o2' : Int32), q' ≤ n ∧ (if (zone t n (q + 1) k w).1 < 0 then some (0, zvc σ c T1 (zone t n (q + 1) k w).2) else zb (f_X9_readBlank F (zvc σ c T1 (zone t n (q + 1) k w).2)) fun r75 m75 => if r75 = 0 then some (0, m75) else if (zone t n (q + 1) k w).1 = 1 then zit (f_X9_readTests_4 F) G1 m75 (c, 1, nI (i + 1)) else zit (f_X9_readTests_4 F) G1 m75 (c, 0, nI (i + 1))) = some (if ok then 1 else 0, zvc σ c S1 q') ∧ f_X11_wordHere_243 F (zit (f_X11_wordHere_139 F) G2) (zrs σ' c T2 (nI (q + 1)) f2 o2) c (nI k) 5 = some (if ok then 1 else 0, zrs σ' c S2 a f2' o2') ∧ (∀ j, j ≠ 6 → S1 13 j = S 13 j) ∧ (∀ j, j ≠ 3 → S2 80 j = S' 80 j) ∧ (ok = true → ∃ T, 0 < T ∧ T ≤ 4 ∧ S1 13 6 = nI T ∧ S2 80 3 = nI T ∧ ∀ i', i' < T → ztr2 S1 S2 i') ∧ (ok = false → f2' = nI q') := by
    intro k j w hk hj hkj hw hb
    have r243 : f_X11_wordHere_243 F (zit (f_X11_wordHere_139 F) G2) (zrs σ' c T2 (nI (q + 1)) f2 o2) c (nI k) 5 = zb (f_X11_text F (zrs σ' c (zup2 T2 111 5 (nI k)) (nI (q + 1)) f2 o2) j) fun r m => if r = 0 then some (0, m) else zit (f_X11_wordHere_139 F) G2 m c := by
      have x5 : ∀ v, (zrs σ' c (zup2 T2 111 5 v) (nI (q + 1)) f2 o2).1 111 0 5 = v := fun v => by rw [zrs_i _ _ _ _ _ _ (zpv1 c 5) (by decide), zup2_i]
      unfold f_X11_wordHere_243
      rw [zg_i d41, zg_i i5, zg_i i5, t_i5, zrs_w _ _ _ _ _ _ _ (zpv1 c 5) (by decide), x5]
      unfold f_X11_wordHere_264
      rcases hkj with ⟨rfl, rfl⟩ | ⟨rfl, rfl⟩
      · rw [if_pos (by decide), zg_i d41, zg_i (by decide)]
      · rw [if_neg (by decide), zg_i d41, zg_i (by decide)]
    rcases e_tbl (F := F) (c := c) (c' := c) (j := j) (w := w) hF ht ht' T1 (zup2 T2 111 5 (nI k)) f2 o2 hq1 hj hw hb with ⟨q', hq', z1, z2, z3⟩ | ⟨q', hq', z3, ⟨z1, z2⟩ | ⟨z1, z2⟩⟩
    · have hz : zone t n (q + 1) k w = (nI k, q + 1 + w.length) := if_pos z1
      have r5 : ∀ K j, K ≠ 111 → zup2 T2 111 5 (nI k) K j = T2 K j := fun K j h => zup2_n _ _ (fun w => h w.1)
      obtain ⟨ok, q2, U1, U2, a, f3, o3, u1, u2, u3, u4, u5, u6, u7⟩ := ih (i + 1) q' T1 (zup2 T2 111 5 (nI k)) f2 o2 (nI k) G1 G2 (by omega) (by omega) (by omega) hq' (by
        rcases hkj with ⟨rfl, -⟩ | ⟨rfl, -⟩
        · exact Or.inr rfl
        · exact Or.inl rfl) (zup2_i ..) (by rw [r5 80 3 (by decide), T803]) (fun i' hi' => ztr2_c (fun _ _ _ => rfl) (fun k hk => r5 82 _ (by decide)) (rel i' hi'))
      refine ⟨ok, q2, U1, U2, a, f3, o3, u1, ?_, ?_, fun j h => by rw [u4 j h, T13 j h], fun j h => by rw [u5 j h, r5 80 j (by decide), T80 j h], u6, u7⟩
      · rw [hz]
        simp only
        rw [if_neg (nI_pos (by omega)), z2, zb_s, if_neg (by decide)]
        rcases hkj with ⟨rfl, -⟩ | ⟨rfl, -⟩
        · rw [if_pos (by decide)]
          exact u2
        · rw [if_neg (by decide)]
          exact u2
      · rw [r243, z3, zb_s, if_neg (by decide)]
        exact u3
    · have hz : zone t n (q + 1) k w = (nI k, q + 1 + w.length) := if_pos z1
      refine ⟨false, q', T1, zup2 T2 111 5 (nI k), nI q', nI q', o2, hq', ?_, ?_, T13, fun j h => by rw [zup2_n _ _ (by omega), T80 j h], fun h => (by cases h), fun _ => rfl⟩
      · rw [hz]
        simp only
        rw [if_neg (nI_pos (by omega)), z2, zb_s, if_pos rfl]
        rfl
      · rw [r243, z3, zb_s, if_pos rfl]
        rfl
    · have hz : zone t n (q + 1) k w = (-1, q + 1 + zlp t n w (q + 1)) := if_neg z1
      refine ⟨false, q', T1, zup2 T2 111 5 (nI k), nI q', nI q', o2, hq', ?_, ?_, T13, fun j h => by rw [zup2_n _ _ (by omega), T80 j h], fun h => (by cases h), fun _ => rfl⟩
      · rw [hz, ← z2]
        simp only
        rw [if_pos (by decide)]
        rfl
      · rw [r243, z3, zb_s, if_pos rfl]
        rfl
  rw [zpk_jn]
  by_cases h111 : q + 1 < n ∧ t (q + 1) = 111
  · rw [if_pos h111, if_pos (show zhc t n (q + 1) = 111 from zhc_v h111)]
    exact main 1 26 [111, 114] (by decide) (by decide) (Or.inl ⟨rfl, rfl⟩) zrt26 (zrtb _ (by decide))
  · rw [if_neg h111, if_neg (show ¬ zhc t n (q + 1) = 111 from fun w => h111 ((zhc_eq ht' (show 111 < 256 by decide)).mp w))]
    exact main 0 27 [97, 110, 100] (by decide) (by decide) (Or.inr ⟨rfl, rfl⟩) zrt27 (zrtb _ (by decide))
theorem j_tests {σ σ' : zMem} {t : Nat → Nat} {n c F : Nat} (hF : 100 < F) (ht : ztC σ t n) (ht' : ztR σ' t n) (hc : c < 40) (hcnt : σ'.1 60 0 20 = nI c) : ∀ m, zJT σ σ' t n c F m
  | 0 => j_tests1 hF ht ht' hc hcnt fun m' h => by omega
  | m + 1 => j_tests1 hF ht ht' hc hcnt fun m' h => by
    have e : m' = m := by omega
    rw [e]
    exact j_tests hF ht ht' hc hcnt m

