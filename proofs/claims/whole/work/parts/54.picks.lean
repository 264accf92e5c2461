/-- a state that differs from σ only in the wheels and rests of the first n houses -/
def zkA (σ : zMem) (n : Nat) (τ : zMem) : Prop := τ.2 = σ.2 ∧ ∀ k i j, ¬ ((k = 2 ∧ i < n ∧ (j = 7 ∨ j = 8 ∨ j = 9)) ∨ ((k = 66 ∨ k = 112) ∧ i = 0 ∧ j < n)) → τ.1 k i j = σ.1 k i j
def zkD (σ : zMem) (n : Nat) (τ : zMem) : Prop := ∀ i, i < n → τ.1 2 i 9 = τ.1 66 0 i ∧ τ.1 2 i 8 = τ.1 112 0 i ∧ τ.1 2 i 7 = σ.1 68 0 i + τ.1 112 0 i ∧ -100000 ≤ (τ.1 66 0 i).toInt ∧ 0 ≤ (τ.1 112 0 i).toInt
def zkR (τ : zMem) (n : Nat) : Int := zsz (fun i => (τ.1 66 0 i).toInt) n
def zkN (τ : zMem) (n : Nat) : Int := zsz (fun i => (τ.1 112 0 i).toInt) n
theorem k_set {σ τ τ' : zMem} {m n b : Nat} (hA : zkA σ m τ) (hD : zkD σ m τ) (hm : m ≤ n) (hb : b < n) (hi : ∀ i, i < n → i ≠ b → i < m) (h2 : τ'.2 = τ.2) (ho : ∀ k i j, ¬ ((k = 2 ∧ i = b ∧ (j = 7 ∨ j = 8 ∨ j = 9)) ∨ ((k = 66 ∨ k = 112) ∧ i = 0 ∧ j = b)) → τ'.1 k i j = τ.1 k i j) {r v : Int32} (e9 : τ'.1 2 b 9 = r) (e8 : τ'.1 2 b 8 = v) (e7 : τ'.1 2 b 7 = σ.1 68 0 b + v) (e66 : τ'.1 66 0 b = r) (e112 : τ'.1 112 0 b = v) (hr : -100000 ≤ r.toInt) (hv : 0 ≤ v.toInt) : zkA σ n τ' ∧ zkD σ n τ' := by
  refine ⟨⟨h2.trans hA.1, fun k i j h => ?_⟩, fun i hin => ?_⟩
  · rw [ho k i j (by omega), hA.2 k i j (by omega)]
  · by_cases e : i = b
    · subst e
      exact ⟨e9.trans e66.symm, e8.trans e112.symm, by rw [e7, e112], by rw [e66]; exact hr, by rw [e112]; exact hv⟩
    · have := hD i (hi i hin e)
      rw [ho 2 i 9 (by omega), ho 2 i 8 (by omega), ho 2 i 7 (by omega), ho 66 0 i (by omega), ho 112 0 i (by omega)]
      exact this
theorem k_upd {f g : Nat → Int} {n b : Nat} (hb : b < n) (h : ∀ i, i < n → i ≠ b → g i = f i) : zsz g n = zsz f n - f b + g b := by
  rw [← zsz_u f hb (g b)]
  refine zsz_c fun i hi => ?_
  by_cases e : i = b
  · rw [if_pos e, e]
  · rw [if_neg e, h i hi e]
theorem k_up {f : Nat → Int} : ∀ {n : Nat}, (∀ i, i < n → -100000 ≤ f i) → -100000 * (n : Int) ≤ zsz f n ∧ ∀ j, j < n → f j ≤ zsz f n + 100000 * (n : Int)
  | 0, _ => ⟨by show -100000 * ((0 : Nat) : Int) ≤ 0; omega, fun j hj => by omega⟩
  | n + 1, h => by
    obtain ⟨i1, i2⟩ := k_up (n := n) fun i hi => h i (by omega)
    have hn := h n (by omega)
    have e : zsz f (n + 1) = zsz f n + f n := rfl
    rw [e]
    refine ⟨by omega, fun j hj => ?_⟩
    by_cases q : j = n
    · subst q
      omega
    · have := i2 j (by omega)
      omega
theorem k_dn {f : Nat → Int} {M : Int} (hM : M < 0) : ∀ {n : Nat}, 1 ≤ n → (∀ i, i < n → f i ≤ M) → zsz f n ≤ M
  | 0, h, _ => by omega
  | 1, _, h => by
    have := h 0 (by omega)
    show 0 + f 0 ≤ M
    omega
  | n + 2, _, h => by
    have i1 := k_dn hM (n := n + 1) (by omega) fun i hi => h i (by omega)
    have := h (n + 1) (by omega)
    show zsz f (n + 1) + f (n + 1) ≤ M
    omega
theorem k_pos {f : Nat → Int} : ∀ {n : Nat}, 0 < zsz f n → ∃ i, i < n ∧ 0 < f i
  | 0, h => absurd h (by show ¬ (0 : Int) < 0; omega)
  | n + 1, h => by
    have e : zsz f (n + 1) = zsz f n + f n := rfl
    by_cases q : 0 < zsz f n
    · obtain ⟨i, h1, h2⟩ := k_pos q
      exact ⟨i, by omega, h2⟩
    · exact ⟨n, by omega, by omega⟩
/-- the house with the greatest rest -/
def zkM (R : Nat → Int32) : Nat → Nat
  | 0 => 0
  | k + 1 => if R (k + 1) ≤ R (zkM R k) then zkM R k else k + 1
theorem zkM_b (R : Nat → Int32) : ∀ k, zkM R k ≤ k ∧ ∀ i, i ≤ k → R i ≤ R (zkM R k)
  | 0 => ⟨Nat.le_refl 0, fun i hi => by rw [show i = 0 by omega]; exact Int32.le_refl _⟩
  | k + 1 => by
    obtain ⟨h1, h2⟩ := zkM_b R k
    show (if R (k + 1) ≤ R (zkM R k) then zkM R k else k + 1) ≤ k + 1 ∧ ∀ i, i ≤ k + 1 → R i ≤ R (if R (k + 1) ≤ R (zkM R k) then zkM R k else k + 1)
    by_cases q : R (k + 1) ≤ R (zkM R k)
    · rw [if_pos q]
      refine ⟨by omega, fun i hi => ?_⟩
      by_cases e : i = k + 1
      · rw [e]
        exact q
      · exact h2 i (by omega)
    · rw [if_neg q]
      refine ⟨Nat.le_refl _, fun i hi => ?_⟩
      by_cases e : i = k + 1
      · rw [e]
        exact Int32.le_refl _
      · have a := h2 i (by omega)
        rw [Int32.le_iff_toInt_le] at *
        omega
/-- the house with the least rest of those that got a wheel -/
def zkL (R N : Nat → Int32) : Nat → Option Nat
  | 0 => none
  | k + 1 => if N k ≤ 0 then zkL R N k else match zkL R N k with
    | none => some k
    | some b => if R b ≤ R k then some b else some k
theorem zkL_s (R N : Nat → Int32) (k : Nat) : zkL R N (k + 1) = if N k ≤ 0 then zkL R N k else match zkL R N k with
    | none => some k
    | some b => if R b ≤ R k then some b else some k := rfl
def zkO : Option Nat → Int32
  | none => -1
  | some b => nI b
theorem zkL_b (R N : Nat → Int32) : ∀ k, (∀ b, zkL R N k = some b → b < k ∧ ¬ N b ≤ 0) ∧ (zkL R N k = none → ∀ i, i < k → N i ≤ 0)
  | 0 => ⟨fun b h => (by cases h), fun _ i hi => (by omega)⟩
  | k + 1 => by
    obtain ⟨h1, h2⟩ := zkL_b R N k
    rw [zkL_s]
    by_cases q : N k ≤ 0
    · rw [if_pos q]
      refine ⟨fun b hb => ⟨by have := (h1 b hb).1; omega, (h1 b hb).2⟩, fun hn i hi => ?_⟩
      by_cases e : i = k
      · rw [e]
        exact q
      · exact h2 hn i (by omega)
    · rw [if_neg q]
      cases hz : zkL R N k with
      | none => exact ⟨fun b hb => by cases hb; exact ⟨by omega, q⟩, fun hn => by cases hn⟩
      | some c =>
        show (∀ b, (if R c ≤ R k then some c else some k) = some b → _) ∧ ((if R c ≤ R k then some c else some k) = none → _)
        by_cases p : R c ≤ R k
        · rw [if_pos p]
          exact ⟨fun b hb => by cases hb; exact ⟨by have := (h1 c hz).1; omega, (h1 c hz).2⟩, fun hn => by cases hn⟩
        · rw [if_neg p]
          exact ⟨fun b hb => by cases hb; exact ⟨by omega, q⟩, fun hn => by cases hn⟩
theorem e_most {τ : zMem} {n F : Nat} (hF : 100 < F) (hn : n ≤ 10) (h1 : 1 ≤ n) (e : τ.1 0 0 1 = nI n) {R : Nat → Int32} (hR : ∀ i, i < n → τ.1 2 i 9 = R i) : f_X10_withMostRest F τ = some (nI (zkM R (n - 1)), τ) := by
  unfold f_X10_withMostRest
  refine zit_m (fun m s x => s = τ ∧ ∃ i, i < n ∧ m = n - i ∧ x = (nI (zkM R i), nI (i + 1))) _ ?_ F n τ _ ⟨rfl, 0, by omega, by omega, rfl⟩ (by omega)
  rintro m s x ⟨rfl, i, hi, rfl, rfl⟩
  by_cases q : i + 1 = n
  · refine Or.inl fun rec => ?_
    unfold f_X10_withMostRest_4
    simp only
    rw [e, if_pos (by rw [q]; exact Int32.le_refl _), show n - 1 = i by omega]
  · have b := (zkM_b R i).1
    refine Or.inr ⟨n - (i + 1), s, (nI (zkM R (i + 1)), nI (i + 1 + 1)), by omega, ⟨rfl, i + 1, by omega, rfl, rfl⟩, fun rec => ?_⟩
    unfold f_X10_withMostRest_4
    simp only
    rw [e, if_neg (nle_s (by omega) (by omega)), zg_i (inb_n (by omega) (by omega)), zg_i (inb_n (by omega) (by omega)), nI_clamp (show i + 1 < 2 ^ 31 by omega), nI_clamp (show zkM R i < 2 ^ 31 by omega), hR _ (by omega), hR _ (by omega), nI_suc rfl]
    show _ = rec s (nI (if R (i + 1) ≤ R (zkM R i) then zkM R i else i + 1), nI (i + 1 + 1))
    by_cases p : R (i + 1) ≤ R (zkM R i)
    · rw [if_pos p, if_pos p]
    · rw [if_neg p, if_neg p]
theorem e_mostR {τ : zMem} {n F : Nat} (hF : 100 < F) (hn : n ≤ 10) (h1 : 1 ≤ n) (e : τ.1 60 0 1 = nI n) {R : Nat → Int32} (hR : ∀ i, i < n → τ.1 66 0 i = R i) : f_X11_next F τ 1 = some (nI (zkM R (n - 1)), τ) := by
  unfold f_X11_next
  refine zit_m (fun m s x => s = τ ∧ ((m = n + 1 ∧ x = (1, -1, 0)) ∨ ∃ i, i < n ∧ m = n - i ∧ x = (1, nI (zkM R i), nI (i + 1)))) _ ?_ F (n + 1) τ _ ⟨rfl, Or.inl ⟨rfl, rfl⟩⟩ (by omega)
  rintro m s x ⟨rfl, ⟨rfl, rfl⟩ | ⟨i, hi, rfl, rfl⟩⟩
  · refine Or.inr ⟨n, s, (1, nI (zkM R 0), nI (0 + 1)), by omega, ⟨rfl, Or.inr ⟨0, by omega, rfl, rfl⟩⟩, fun rec => ?_⟩
    unfold f_X11_next_4 f_X11_next_28
    simp only
    rw [e, if_neg (fun q => by have := nle_s (i := 0) (n := n) (by omega) (by omega); exact this q), if_neg (by decide), if_pos (by decide)]
    rfl
  by_cases q : i + 1 = n
  · refine Or.inl fun rec => ?_
    unfold f_X11_next_4
    simp only
    rw [e, if_pos (by rw [q]; exact Int32.le_refl _), show n - 1 = i by omega]
  · have b := (zkM_b R i).1
    refine Or.inr ⟨n - (i + 1), s, (1, nI (zkM R (i + 1)), nI (i + 1 + 1)), by omega, ⟨rfl, Or.inr ⟨i + 1, by omega, rfl, rfl⟩⟩, fun rec => ?_⟩
    unfold f_X11_next_4 f_X11_next_28
    simp only
    rw [e, if_neg (nle_s (by omega) (by omega)), if_neg (by decide), if_neg (nI_pos (show zkM R i < 2 ^ 31 by omega)), if_neg (by decide), zg_i (inb_n (by omega) (by omega)), zg_i (inb_n (by omega) (by omega)), nI_clamp (show i + 1 < 2 ^ 31 by omega), nI_clamp (show zkM R i < 2 ^ 31 by omega), hR _ (by omega), hR _ (by omega), nI_suc rfl]
    show _ = rec s (1, nI (if R (i + 1) ≤ R (zkM R i) then zkM R i else i + 1), nI (i + 1 + 1))
    by_cases p : R (i + 1) ≤ R (zkM R i)
    · rw [if_pos p, if_pos p]
    · rw [if_neg p, if_neg p]
theorem e_least {τ : zMem} {n F : Nat} (hF : 100 < F) (hn : n ≤ 10) (e : τ.1 0 0 1 = nI n) {R N : Nat → Int32} (hR : ∀ i, i < n → τ.1 2 i 9 = R i) (hN : ∀ i, i < n → τ.1 2 i 8 = N i) : f_X10_withLeastRest F τ = some (zkO (zkL R N n), τ) := by
  unfold f_X10_withLeastRest
  refine zit_m (fun m s x => s = τ ∧ ∃ i, i ≤ n ∧ m = n - i ∧ x = (zkO (zkL R N i), nI i)) _ ?_ F n τ _ ⟨rfl, 0, by omega, rfl, rfl⟩ (by omega)
  rintro m s x ⟨rfl, i, hi, rfl, rfl⟩
  by_cases q : i = n
  · subst q
    refine Or.inl fun rec => ?_
    unfold f_X10_withLeastRest_4
    simp only
    rw [e, if_pos (Int32.le_refl _)]
  · refine Or.inr ⟨n - (i + 1), s, (zkO (zkL R N (i + 1)), nI (i + 1)), by omega, ⟨rfl, i + 1, by omega, rfl, rfl⟩, fun rec => ?_⟩
    obtain ⟨b1, b2⟩ := zkL_b R N i
    unfold f_X10_withLeastRest_4
    simp only
    rw [zkL_s]
    rw [e, if_neg (nle_s (by omega) (by omega)), zg_i (inb_n (by omega) (by omega)), nI_clamp (show i < 2 ^ 31 by omega), hN _ (by omega), nI_1]
    by_cases p : N i ≤ 0
    · rw [if_pos p, if_pos p]
    · rw [if_neg p, if_neg p]
      cases hz : zkL R N i with
      | none =>
        show (if (-1 : Int32) < 0 then _ else _) = rec s (nI i, _)
        rw [if_pos (by decide)]
      | some c =>
        have bc := (b1 c hz).1
        show (if nI c < 0 then _ else zg _ (zg (inb (nI c) 10) (if s.1 2 (nI c).toNatClampNeg 9 ≤ _ then rec s (nI c, _) else _))) = rec s (zkO (if R c ≤ R i then some c else some i), _)
        rw [if_neg (nI_pos (show c < 2 ^ 31 by omega)), zg_i (inb_n (by omega) (by omega)), zg_i (inb_n (by omega) (by omega)), nI_clamp (show c < 2 ^ 31 by omega), hR _ (by omega), hR _ (by omega)]
        by_cases p2 : R c ≤ R i
        · rw [if_pos p2, if_pos p2]
          rfl
        · rw [if_neg p2, if_neg p2]
          rfl
theorem e_leastR {τ : zMem} {n F : Nat} (hF : 100 < F) (hn : n ≤ 10) (e : τ.1 60 0 1 = nI n) {R N : Nat → Int32} (hR : ∀ i, i < n → τ.1 66 0 i = R i) (hN : ∀ i, i < n → τ.1 112 0 i = N i ∧ 0 ≤ (N i).toInt) : f_X11_next F τ 0 = some (zkO (zkL R N n), τ) := by
  unfold f_X11_next
  refine zit_m (fun m s x => s = τ ∧ ∃ i, i ≤ n ∧ m = n - i ∧ x = (0, zkO (zkL R N i), nI i)) _ ?_ F n τ _ ⟨rfl, 0, by omega, rfl, rfl⟩ (by omega)
  rintro m s x ⟨rfl, i, hi, rfl, rfl⟩
  by_cases q : i = n
  · subst q
    refine Or.inl fun rec => ?_
    unfold f_X11_next_4
    simp only
    rw [e, if_pos (Int32.le_refl _)]
  · refine Or.inr ⟨n - (i + 1), s, (0, zkO (zkL R N (i + 1)), nI (i + 1)), by omega, ⟨rfl, i + 1, by omega, rfl, rfl⟩, fun rec => ?_⟩
    obtain ⟨b1, b2⟩ := zkL_b R N i
    have hz0 := (hN i (by omega)).2
    have nz : N i = 0 ↔ N i ≤ 0 := by
      rw [← Int32.toInt_inj, Int32.le_iff_toInt_le, Int32.toInt_zero]
      omega
    unfold f_X11_next_4 f_X11_next_28
    simp only
    rw [zkL_s]
    rw [e, if_neg (nle_s (by omega) (by omega)), if_pos trivial, zg_i (inb_n (by omega) (by omega)), nI_clamp (show i < 2 ^ 31 by omega), (hN _ (by omega)).1, nI_1]
    by_cases p : N i ≤ 0
    · rw [if_pos p, if_pos (nz.mpr p)]
    · rw [if_neg p, if_neg (fun w => p (nz.mp w))]
      cases hz : zkL R N i with
      | none =>
        show (if (-1 : Int32) < 0 then _ else _) = rec s (0, nI i, _)
        rw [if_pos (by decide)]
      | some c =>
        have bc := (b1 c hz).1
        rw [show zkO (some c) = nI c from rfl]
        show _ = rec s (0, zkO (if R c ≤ R i then some c else some i), nI (i + 1))
        rw [if_neg (nI_pos (show c < 2 ^ 31 by omega)), if_pos trivial, zg_i (inb_n (by omega) (by omega)), zg_i (inb_n (by omega) (by omega)), nI_clamp (show c < 2 ^ 31 by omega), hR _ (by omega), hR _ (by omega)]
        by_cases p2 : R c ≤ R i
        · rw [if_pos p2, if_pos p2]
          rfl
        · rw [if_neg p2, if_neg p2]
          rfl
