theorem nI_mu (a b : Nat) : nI a * nI b = nI (a * b) := (Int32.ofNat_mul a b).symm
theorem e_hungerNow {σ : zMem} {m F : Nat} {S : Nat → Nat} (hF : 100 < F) (hm : m ≤ 4) (em : σ.1 25 0 4 = nI m) (h36 : ∀ a, a < m → σ.1 36 0 a = nI (S a)) (hS : ∀ a, a < m → S a < 32) : f_X0_hungerNow F σ = some (zsum (fun a => σ.1 34 a (S a)) m, σ) := by
  unfold f_X0_hungerNow
  refine zit_m (fun i t x => t = σ ∧ ∃ a, a ≤ m ∧ i = m - a ∧ x = (zsum (fun a => σ.1 34 a (S a)) a, nI a)) _ ?_ F m σ _ ⟨rfl, 0, by omega, rfl, by rw [nI_0]; rfl⟩ (by omega)
  rintro i t x ⟨rfl, a, ha, rfl, rfl⟩
  by_cases q : a = m
  · subst q
    refine Or.inl fun rec => ?_
    unfold f_X0_hungerNow_4
    simp only
    rw [em, if_pos (Int32.le_refl _)]
  · have ia := inb_n (show a < 4 by omega) (show 4 < 100000 by decide)
    have na := nI_clamp (show a < 2 ^ 31 by omega)
    have hs := hS a (by omega)
    refine Or.inr ⟨m - (a + 1), t, (zsum (fun a => t.1 34 a (S a)) (a + 1), nI (a + 1)), by omega, ⟨rfl, a + 1, by omega, rfl, rfl⟩, fun rec => ?_⟩
    unfold f_X0_hungerNow_4
    simp only
    rw [em, if_neg (nle_s (by omega) (by omega)), zg_i ia, zg_i ia, na, h36 a (by omega), zg_i (inb_n hs (by decide)), nI_clamp (show S a < 2 ^ 31 by omega), nI_1]
    rfl
theorem e_keepPlan {σ : zMem} {k F : Nat} (hF : 100 < F) (hk : k ≤ 5) : f_X0_keepPlan F σ (nI k) = some ((), zrow σ 37 (zfu (fun i => σ.1 35 0 i) (fun i => σ.1 37 0 i) k)) := by
  unfold f_X0_keepPlan
  refine zit_m (fun i t x => ∃ j, j ≤ k ∧ i = k - j ∧ t = zrow σ 37 (zfu (fun i => σ.1 35 0 i) (fun i => σ.1 37 0 i) j) ∧ x = (nI k, nI j)) _ ?_ F k σ _ ⟨0, by omega, rfl, by rw [zfu_0, zrow_id], by rw [nI_0]⟩ (by omega)
  rintro i t x ⟨j, hj, rfl, rfl, rfl⟩
  by_cases q : j = k
  · subst q
    refine Or.inl fun rec => ?_
    unfold f_X0_keepPlan_2
    simp only
    rw [if_pos (Int32.le_refl _)]
  · have ia := inb_n (show j < 5 by omega) (show 5 < 100000 by decide)
    have na := nI_clamp (show j < 2 ^ 31 by omega)
    have e := zfu_s (fun i => σ.1 35 0 i) (fun i => σ.1 37 0 i) j
    refine Or.inr ⟨k - (j + 1), zrow σ 37 (zfu (fun i => σ.1 35 0 i) (fun i => σ.1 37 0 i) (j + 1)), (nI k, nI (j + 1)), by omega, ⟨j + 1, by omega, rfl, rfl, rfl⟩, fun rec => ?_⟩
    unfold f_X0_keepPlan_2
    simp only
    rw [if_neg (nle_s (by omega) (by omega)), zg_i ia, zg_i ia, na, zrow_w, zrow_o σ 37 _ (show 35 ≠ 37 by decide), nI_1, ← e]
/-- behind beginPlans: all members on the first alp -/
def zbp (σ : zMem) (m k : Nat) : zMem := zrow (zrow (zrow σ 35 (zfu (fun _ => 0) (fun i => σ.1 35 0 i) k)) 36 (zup1 (zfu (fun _ => 0) (fun i => σ.1 36 0 i) m) 0 (nI (2 ^ k - 1)))) 37 (zfu (fun i => zfu (fun _ => 0) (fun i => σ.1 35 0 i) k i) (fun i => σ.1 37 0 i) k)
theorem e_beginPlans {σ : zMem} {m k F : Nat} (hF : 100 < F) (hm1 : 1 ≤ m) (hm : m ≤ 4) (hk : k ≤ 5) (em : σ.1 25 0 4 = nI m) : f_X0_beginPlans F σ (nI k) = some (nI (m ^ k), zbp σ m k) := by
  have b1024 := (zmk m (by omega) hm1 k (by omega)).1
  unfold f_X0_beginPlans
  have l31 : zit (f_X0_beginPlans_31 F) F (zrow σ 35 (zfu (fun _ => 0) (fun i => σ.1 35 0 i) k)) (nI k, nI (m ^ k), 0) = some (nI (m ^ k), zbp σ m k) := by
    obtain ⟨s, hs⟩ : ∃ s, s = zrow σ 35 (zfu (fun _ => 0) (fun i => σ.1 35 0 i) k) := ⟨_, rfl⟩
    have so : ∀ K, K ≠ 35 → s.1 K = σ.1 K := fun K h => by rw [hs, zrow_o σ 35 _ h]
    have s35 : ∀ i, s.1 35 0 i = zfu (fun _ => 0) (fun i => σ.1 35 0 i) k i := fun i => by rw [hs, zrow_at]
    rw [← hs]
    refine zit_m (fun i t x => ∃ a, a ≤ m ∧ i = m - a ∧ t = zrow s 36 (zfu (fun _ => 0) (fun i => σ.1 36 0 i) a) ∧ x = (nI k, nI (m ^ k), nI a)) _ ?_ F m s _ ⟨0, by omega, rfl, by rw [zfu_0, ← so 36 (by decide), zrow_id], by rw [nI_0]⟩ (by omega)
    rintro i t x ⟨a, ha, rfl, rfl, rfl⟩
    have rm : (zrow s 36 (zfu (fun _ => 0) (fun i => σ.1 36 0 i) a)).1 25 0 4 = nI m := by rw [zrow_o s 36 _ (by decide), so 25 (by decide), em]
    by_cases q : a = m
    · subst q
      refine Or.inl fun rec => ?_
      unfold f_X0_beginPlans_31
      simp only
      rw [rm, if_pos (Int32.le_refl _), zg_i (by decide), (zp32 k (by omega)).2, zrow_w, e_keepPlan hF hk, zb_s, zrow_o s 36 _ (show 35 ≠ 36 by decide), zrow_o s 36 _ (show 37 ≠ 36 by decide), so 37 (by decide)]
      simp only [s35]
      rw [hs]
      rfl
    · have ia := inb_n (show a < 4 by omega) (show 4 < 100000 by decide)
      have na := nI_clamp (show a < 2 ^ 31 by omega)
      have e := zfu_s (fun _ => 0) (fun i => σ.1 36 0 i) a
      refine Or.inr ⟨m - (a + 1), zrow s 36 (zfu (fun _ => 0) (fun i => σ.1 36 0 i) (a + 1)), (nI k, nI (m ^ k), nI (a + 1)), by omega, ⟨a + 1, by omega, rfl, rfl, rfl⟩, fun rec => ?_⟩
      unfold f_X0_beginPlans_31
      simp only
      rw [rm, if_neg (nle_s (by omega) (by omega)), zg_i ia, na, zrow_w, nI_1, ← e]
  rw [← l31]
  refine zit_m (fun i t x => ∃ j, j ≤ k ∧ i = k - j ∧ t = zrow σ 35 (zfu (fun _ => 0) (fun i => σ.1 35 0 i) j) ∧ x = (nI k, nI (m ^ j), nI j)) _ ?_ F k σ _ ⟨0, by omega, rfl, by rw [zfu_0, zrow_id], by rw [nI_0, Nat.pow_zero]; rfl⟩ (by omega)
  rintro i t x ⟨j, hj, rfl, rfl, rfl⟩
  by_cases q : j = k
  · subst q
    refine Or.inl fun rec => ?_
    unfold f_X0_beginPlans_4
    simp only
    rw [if_pos (Int32.le_refl _)]
  · have ia := inb_n (show j < 5 by omega) (show 5 < 100000 by decide)
    have na := nI_clamp (show j < 2 ^ 31 by omega)
    have e := zfu_s (fun _ => 0) (fun i => σ.1 35 0 i) j
    have rm : (zwi (zrow σ 35 (zfu (fun _ => 0) (fun i => σ.1 35 0 i) j)) 35 0 j 0).1 25 0 4 = nI m := by rw [zwi_r (by omega), zrow_o σ 35 _ (by decide), em]
    refine Or.inr ⟨k - (j + 1), zrow σ 35 (zfu (fun _ => 0) (fun i => σ.1 35 0 i) (j + 1)), (nI k, nI (m ^ (j + 1)), nI (j + 1)), by omega, ⟨j + 1, by omega, rfl, rfl, rfl⟩, fun rec => ?_⟩
    have rm2 : (zrow σ 35 (zfu (fun _ => 0) (fun i => σ.1 35 0 i) j)).1 25 0 4 = nI m := by rw [zrow_o σ 35 _ (by decide), em]
    unfold f_X0_beginPlans_4
    simp only
    rw [if_neg (nle_s (by omega) (by omega)), zg_i ia, na, rm2, nI_mu, ← Nat.pow_succ, zrow_w, nI_1, ← e]
/-- the first least of V 0, V 1 .. V n -/
def zbm (V : Nat → Int32) : Nat → Int32 × Nat
  | 0 => (V 0, 0)
  | n + 1 => if (zbm V n).1 ≤ V (n + 1) then zbm V n else (V (n + 1), n + 1)
theorem zbm_c {V W : Nat → Int32} : ∀ {n}, (∀ i, i ≤ n → V i = W i) → zbm V n = zbm W n
  | 0, h => by
    show (V 0, 0) = (W 0, 0)
    rw [h 0 (Nat.le_refl 0)]
  | n + 1, h => by
    show (if (zbm V n).1 ≤ V (n + 1) then zbm V n else (V (n + 1), n + 1)) = (if (zbm W n).1 ≤ W (n + 1) then zbm W n else (W (n + 1), n + 1))
    rw [zbm_c fun i hi => h i (by omega), h (n + 1) (Nat.le_refl _)]
/-- the hunger of plan v by a table of the alps and the sets on them -/
def zpvv (T : Nat → Nat → Int32) (m k v : Nat) : Int32 := zsum (fun a => T a (zbt (zdg m k v) a k)) m
theorem e_bestPlan {σ : zMem} {m k F : Nat} (hF : 2000 < F) (hm1 : 1 ≤ m) (hm : m ≤ 4) (hk : k ≤ 5) (em : σ.1 25 0 4 = nI m) : ∃ s, f_X0_bestPlan F σ (nI k) = some ((zbm (zpvv (σ.1 34) m k) (m ^ k - 1)).1, s) ∧ s.2 = σ.2 ∧ (∀ K, K ≠ 35 → K ≠ 36 → K ≠ 37 → s.1 K = σ.1 K) ∧ ∀ i, i < k → s.1 37 0 i = nI (zdg m k (zbm (zpvv (σ.1 34) m k) (m ^ k - 1)).2 i) := by
  obtain ⟨b1024, b1⟩ := zmk m (by omega) hm1 k (by omega)
  have b32 : ∀ (D : Nat → Nat) a, zbt D a k < 32 := fun D a => Nat.lt_of_lt_of_le (zbt_lt D a k) (zp32 k (by omega)).1
  have z0 : ∀ i, zdg m k 0 i = 0 := fun i => by
    unfold zdg
    rw [Nat.zero_div, Nat.zero_mod]
  obtain ⟨V, hV⟩ : ∃ V, V = zpvv (σ.1 34) m k := ⟨_, rfl⟩
  have Vv : ∀ v, V v = zsum (fun a => σ.1 34 a (zbt (zdg m k v) a k)) m := fun v => by rw [hV]; rfl
  obtain ⟨s0, hs0⟩ : ∃ s0, s0 = zbp σ m k := ⟨_, rfl⟩
  have q2 : s0.2 = σ.2 := by rw [hs0]; rfl
  have qo : ∀ K, K ≠ 35 → K ≠ 36 → K ≠ 37 → s0.1 K = σ.1 K := fun K h0 h1 h2 => by
    rw [hs0]
    unfold zbp
    rw [zrow_o _ 37 _ h2, zrow_o _ 36 _ h1, zrow_o _ 35 _ h0]
  have q35 : ∀ i, i < k → s0.1 35 0 i = nI (zdg m k 0 i) := fun i hi => by
    rw [hs0, z0, nI_0]
    unfold zbp
    rw [zrow_o _ 37 _ (show 35 ≠ 37 by decide), zrow_o _ 36 _ (show 35 ≠ 36 by decide), zrow_at, zfu_lt _ hi]
  have q37 : ∀ i, i < k → s0.1 37 0 i = nI (zdg m k 0 i) := fun i hi => by
    rw [hs0, z0, nI_0]
    unfold zbp
    rw [zrow_at, zfu_lt _ hi, zfu_lt _ hi]
  have q36 : ∀ a, a < m → s0.1 36 0 a = nI (zbt (zdg m k 0) a k) := fun a ha => by
    have zz := zbt_z (D := zdg m k 0) (k := k) fun i _ => z0 i
    rw [hs0]
    unfold zbp
    rw [zrow_o _ 37 _ (show 36 ≠ 37 by decide), zrow_at]
    by_cases q : a = 0
    · subst q
      rw [zupq_i, zz.1]
    · rw [zup1_ne _ _ q, zfu_lt _ ha, zz.2 a q, nI_0]
  have sm : ∀ s : zMem, (∀ K, K ≠ 35 → K ≠ 36 → K ≠ 37 → s.1 K = σ.1 K) → s.1 25 0 4 = nI m := fun s h => by rw [h 25 (by decide) (by decide) (by decide), em]
  have hun : ∀ (s : zMem) (v : Nat), (∀ K, K ≠ 35 → K ≠ 36 → K ≠ 37 → s.1 K = σ.1 K) → (∀ a, a < m → s.1 36 0 a = nI (zbt (zdg m k v) a k)) → f_X0_hungerNow F s = some (V v, s) := fun s v h1 h2 => by
    rw [e_hungerNow (by omega) hm (sm s h1) h2 (fun a _ => b32 _ a), Vv, h1 34 (by decide) (by decide) (by decide)]
  unfold f_X0_bestPlan
  rw [e_beginPlans (by omega) hm1 hm hk em, zb_s, ← hs0, hun s0 0 qo q36, zb_s, ← hV]
  refine zit_q (fun (i : Nat) (t : zMem) (x : Int32 × Int32 × Int32 × Int32) => ∃ v, v + 1 ≤ m ^ k ∧ i = m ^ k - (v + 1) ∧ x = (nI k, nI (m ^ k), (zbm V v).1, nI (v + 1)) ∧ t.2 = σ.2 ∧ (∀ K, K ≠ 35 → K ≠ 36 → K ≠ 37 → t.1 K = σ.1 K) ∧ (∀ i, i < k → t.1 35 0 i = nI (zdg m k v i)) ∧ (∀ a, a < m → t.1 36 0 a = nI (zbt (zdg m k v) a k)) ∧ ∀ i, i < k → t.1 37 0 i = nI (zdg m k (zbm V v).2 i)) (fun (o : Option (Int32 × zMem)) => ∃ s : zMem, o = some ((zbm V (m ^ k - 1)).1, s) ∧ s.2 = σ.2 ∧ (∀ K, K ≠ 35 → K ≠ 36 → K ≠ 37 → s.1 K = σ.1 K) ∧ ∀ i, i < k → s.1 37 0 i = nI (zdg m k (zbm V (m ^ k - 1)).2 i)) ?_ F (m ^ k - 1) s0 _ ⟨0, by omega, rfl, rfl, q2, qo, q35, q36, q37⟩ (by omega)
  rintro i t x ⟨v, hv, rfl, rfl, t2, tK, t35, t36, t37⟩
  by_cases q : v + 1 = m ^ k
  · rw [← q, Nat.add_sub_cancel]
    refine Or.inl ⟨_, ⟨t, rfl, t2, tK, t37⟩, fun rec => ?_⟩
    unfold f_X0_bestPlan_14
    simp only
    rw [if_pos (Int32.le_refl _)]
  · obtain ⟨s, f1, f2, f3, f4, f5⟩ := e_turnPlan (F := F) (by omega) hm1 hm hk (v := v) (by omega) (sm t tK) t35 t36
    have sK : ∀ K, K ≠ 35 → K ≠ 36 → K ≠ 37 → s.1 K = σ.1 K := fun K h0 h1 h2 => (f3 K h0 h1).trans (tK K h0 h1 h2)
    have hh := hun s (v + 1) sK f5
    have bs : zbm V (v + 1) = if (zbm V v).1 ≤ V (v + 1) then zbm V v else (V (v + 1), v + 1) := rfl
    by_cases p : (zbm V v).1 ≤ V (v + 1)
    · rw [if_pos p] at bs
      refine Or.inr ⟨m ^ k - (v + 1 + 1), s, (nI k, nI (m ^ k), (zbm V (v + 1)).1, nI (v + 1 + 1)), by omega, ⟨v + 1, by omega, rfl, rfl, f2.trans t2, sK, f4, f5, fun i hi => by rw [bs, f3 37 (by decide) (by decide), t37 i hi]⟩, fun rec => ?_⟩
      unfold f_X0_bestPlan_14
      simp only
      rw [if_neg (nle_s (by omega) (by omega)), f1, zb_s, hh, zb_s, if_pos p, nI_1, bs]
    · rw [if_neg p] at bs
      refine Or.inr ⟨m ^ k - (v + 1 + 1), zrow s 37 (zfu (fun i => s.1 35 0 i) (fun i => s.1 37 0 i) k), (nI k, nI (m ^ k), (zbm V (v + 1)).1, nI (v + 1 + 1)), by omega, ⟨v + 1, by omega, rfl, rfl, f2.trans t2, fun K h0 h1 h2 => by rw [zrow_o s 37 _ h2, sK K h0 h1 h2], fun i hi => by rw [zrow_o s 37 _ (show 35 ≠ 37 by decide), f4 i hi], fun a ha => by rw [zrow_o s 37 _ (show 36 ≠ 37 by decide), f5 a ha], fun i hi => by rw [bs, zrow_at, zfu_lt _ hi, f4 i hi]⟩, fun rec => ?_⟩
      unfold f_X0_bestPlan_14
      simp only
      rw [if_neg (nle_s (by omega) (by omega)), f1, zb_s, hh, zb_s, if_neg p, e_keepPlan (by omega) hk, zb_s, nI_1, bs]

