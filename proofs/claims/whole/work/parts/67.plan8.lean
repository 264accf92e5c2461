theorem zpb_0 : ∀ a, a < 1024 → ∀ h, h < 10 → ((((nI a) >>> ((nI h) &&& 31)) &&& 1 = 0) ↔ a.testBit h = false) := by decide +kernel
theorem e_cowsOfSome {σ : zMem} {s k F : Nat} (hF : 100 < F) (hs : s < 1024) (hk : k ≤ 5) : f_X0_cowsOfSome F σ (nI s) (nI k) = some (zsum (fun i => if s.testBit i then σ.1 32 0 i else 0) k, σ) := by
  unfold f_X0_cowsOfSome
  refine zit_m (fun m t x => t = σ ∧ ∃ i, i ≤ k ∧ m = k - i ∧ x = (nI s, nI k, zsum (fun i => if s.testBit i then σ.1 32 0 i else 0) i, nI i)) _ ?_ F k σ _ ⟨rfl, 0, by omega, rfl, by rw [nI_0]; rfl⟩ (by omega)
  rintro m t x ⟨rfl, i, hi, rfl, rfl⟩
  by_cases q : i = k
  · subst q
    refine Or.inl fun rec => ?_
    unfold f_X0_cowsOfSome_5
    simp only
    rw [if_pos (Int32.le_refl _)]
  · have l5 : ¬ (5 : Int32) ≤ nI i := nle_l 5 (n := 5) rfl (by omega) (by decide)
    have b := zpb_1 s hs i (by omega)
    refine Or.inr ⟨k - (i + 1), t, (nI s, nI k, zsum (fun i => if s.testBit i then t.1 32 0 i else 0) (i + 1), nI (i + 1)), by omega, ⟨rfl, i + 1, by omega, rfl, rfl⟩, fun rec => ?_⟩
    have z : zsum (fun i => if s.testBit i then t.1 32 0 i else 0) (i + 1) = zsum (fun i => if s.testBit i then t.1 32 0 i else 0) i + (if s.testBit i then t.1 32 0 i else 0) := rfl
    unfold f_X0_cowsOfSome_5
    simp only
    rw [if_neg (nle_s (by omega) (by omega)), if_neg l5, z, nI_1]
    by_cases p : s.testBit i = true
    · rw [if_pos (b.mpr p), if_pos p, zg_i (inb_n (by omega) (by omega)), nI_clamp (show i < 2 ^ 31 by omega)]
    · rw [if_neg (fun w => p (b.mp w)), if_neg p, Int32.add_zero]
theorem e_cowsUpOn {σ : zMem} {s a n F : Nat} (hF : 100 < F) (hs : s < 1024) (ha : a < 4) (hn : n ≤ 10) (e : σ.1 0 0 1 = nI n) : f_X10_cowsUpOn F σ (nI a) (nI s) = some (zsum (fun h => if s.testBit h then 0 else σ.1 4 h a) n, σ) := by
  unfold f_X10_cowsUpOn
  refine zit_m (fun m t x => t = σ ∧ ∃ i, i ≤ n ∧ m = n - i ∧ x = (nI a, nI s, zsum (fun h => if s.testBit h then 0 else σ.1 4 h a) i, nI i)) _ ?_ F n σ _ ⟨rfl, 0, by omega, rfl, by rw [nI_0]; rfl⟩ (by omega)
  rintro m t x ⟨rfl, i, hi, rfl, rfl⟩
  by_cases q : i = n
  · subst q
    refine Or.inl fun rec => ?_
    unfold f_X10_cowsUpOn_5
    simp only
    rw [e, if_pos (Int32.le_refl _)]
  · have b := zpb_0 s hs i (by omega)
    refine Or.inr ⟨n - (i + 1), t, (nI a, nI s, zsum (fun h => if s.testBit h then 0 else t.1 4 h a) (i + 1), nI (i + 1)), by omega, ⟨rfl, i + 1, by omega, rfl, rfl⟩, fun rec => ?_⟩
    have z : zsum (fun h => if s.testBit h then 0 else t.1 4 h a) (i + 1) = zsum (fun h => if s.testBit h then 0 else t.1 4 h a) i + (if s.testBit i then 0 else t.1 4 i a) := rfl
    unfold f_X10_cowsUpOn_5
    simp only
    rw [e, if_neg (nle_s (by omega) (by omega)), z, nI_1]
    by_cases p : s.testBit i = true
    · rw [if_neg (fun w => by rw [b.mp w] at p; cases p), if_pos p, Int32.add_zero]
    · rw [if_pos (b.mpr (by simpa using p)), if_neg p, zg_i (inb_n (by omega) (by omega)), zg_i (inb_n ha (by omega)), nI_clamp (show i < 2 ^ 31 by omega), nI_clamp (show a < 2 ^ 31 by omega)]
