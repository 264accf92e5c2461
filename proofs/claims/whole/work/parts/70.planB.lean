/-- digits of a plan's number, and the members on an alp as bits -/
def zdg (m k v i : Nat) : Nat := v / m ^ (k - 1 - i) % m
def zbt (D : Nat → Nat) (a : Nat) : Nat → Nat
  | 0 => 0
  | k + 1 => zbt D a k ||| (if D k = a then 2 ^ k else 0)
theorem zbt_lt (D : Nat → Nat) (a : Nat) : ∀ k, zbt D a k < 2 ^ k
  | 0 => Nat.zero_lt_one
  | k + 1 => by
    have h := zbt_lt D a k
    have p : 2 ^ (k + 1) = 2 ^ k * 2 := Nat.pow_succ ..
    show zbt D a k ||| (if D k = a then 2 ^ k else 0) < 2 ^ (k + 1)
    refine Nat.or_lt_two_pow (by omega) ?_
    split <;> omega
theorem zbt_b (D : Nat → Nat) (a : Nat) : ∀ k i, (zbt D a k).testBit i = (decide (i < k) && decide (D i = a))
  | 0, i => by
    show (0 : Nat).testBit i = _
    rw [Nat.zero_testBit, decide_eq_false (Nat.not_lt_zero i)]
    rfl
  | k + 1, i => by
    show (zbt D a k ||| (if D k = a then 2 ^ k else 0)).testBit i = _
    rw [Nat.testBit_or, zbt_b D a k i]
    by_cases q : i = k
    · subst q
      rw [decide_eq_false (Nat.lt_irrefl i), decide_eq_true (Nat.lt_succ_self i)]
      by_cases p : D i = a
      · rw [if_pos p, Nat.testBit_two_pow, decide_eq_true p, decide_eq_true rfl]
        rfl
      · rw [if_neg p, Nat.zero_testBit, decide_eq_false p]
        rfl
    · have e : decide (i < k + 1) = decide (i < k) := decide_eq_decide.mpr ⟨fun _ => by omega, fun _ => by omega⟩
      rw [e]
      by_cases p : D k = a
      · rw [if_pos p, Nat.testBit_two_pow, decide_eq_false (show ¬ k = i from fun w => q w.symm), Bool.or_false]
      · rw [if_neg p, Nat.zero_testBit, Bool.or_false]
theorem zbt_c {D E : Nat → Nat} (a : Nat) : ∀ {k}, (∀ i, i < k → D i = E i) → zbt D a k = zbt E a k
  | 0, _ => rfl
  | k + 1, h => by
    show zbt D a k ||| (if D k = a then 2 ^ k else 0) = zbt E a k ||| (if E k = a then 2 ^ k else 0)
    rw [zbt_c a fun i hi => h i (by omega), h k (by omega)]
def zupn (D : Nat → Nat) (j y : Nat) : Nat → Nat := fun i => if i = j then y else D i
theorem zupn_i (D : Nat → Nat) (j y : Nat) : zupn D j y j = y := if_pos rfl
theorem zupn_n (D : Nat → Nat) {j i : Nat} (y : Nat) (h : i ≠ j) : zupn D j y i = D i := if_neg h
theorem zbt_x {D : Nat → Nat} {a k i y : Nat} (hi : i < k) (h : ¬ (D i = a ↔ y = a)) : zbt D a k ^^^ 2 ^ i = zbt (zupn D i y) a k := by
  refine Nat.eq_of_testBit_eq fun j => ?_
  rw [Nat.testBit_xor, zbt_b, zbt_b, Nat.testBit_two_pow]
  by_cases q : j = i
  · subst q
    rw [zupn_i, decide_eq_true hi, decide_eq_true rfl]
    by_cases p : D j = a
    · have : ¬ y = a := fun w => h ⟨fun _ => w, fun _ => p⟩
      rw [decide_eq_true p, decide_eq_false this]
      rfl
    · have : y = a := Decidable.byContradiction fun w => h ⟨fun z => absurd z p, fun z => absurd z w⟩
      rw [decide_eq_false p, decide_eq_true this]
      rfl
  · rw [zupn_n D y q, decide_eq_false (show ¬ i = j from fun w => q w.symm), Bool.xor_false]
theorem zbt_n {D : Nat → Nat} {a k i y : Nat} (h : ¬ D i = a) (h2 : ¬ y = a) : zbt (zupn D i y) a k = zbt D a k := by
  refine Nat.eq_of_testBit_eq fun j => ?_
  rw [zbt_b, zbt_b]
  by_cases q : j = i
  · subst q
    rw [zupn_i, decide_eq_false h, decide_eq_false h2]
  · rw [zupn_n D y q]
theorem zbt_z {D : Nat → Nat} {k : Nat} (h : ∀ i, i < k → D i = 0) : zbt D 0 k = 2 ^ k - 1 ∧ ∀ a, a ≠ 0 → zbt D a k = 0 := by
  refine ⟨Nat.eq_of_testBit_eq fun j => ?_, fun a ha => Nat.eq_of_testBit_eq fun j => ?_⟩
  · rw [zbt_b, Nat.testBit_two_pow_sub_one]
    by_cases q : j < k
    · rw [decide_eq_true q, decide_eq_true (h j q)]
      rfl
    · rw [decide_eq_false q]
      rfl
  · rw [zbt_b, Nat.zero_testBit]
    by_cases q : j < k
    · rw [h j q, decide_eq_false (show ¬ 0 = a from fun w => ha w.symm), Bool.and_false]
    · rw [decide_eq_false q]
      rfl
theorem zxr : ∀ a, a < 32 → ∀ i, i < 5 → nI a ^^^ (1 <<< (nI i &&& 31)) = nI (a ^^^ 2 ^ i) := by decide +kernel
theorem zp32 : ∀ k, k < 6 → 2 ^ k ≤ 32 ∧ ((1 : Int32) <<< (nI k &&& 31)) - 1 = nI (2 ^ k - 1) := by decide +kernel
theorem zdg_lt {m : Nat} (hm : 1 ≤ m) (k v i : Nat) : zdg m k v i < m := Nat.mod_lt _ hm
def zdgB (m t v : Nat) : Bool := if m ≤ v / m ^ t % m + 1 then ((v + 1) / m ^ t % m == 0 && (v + 1) % m ^ (t + 1) == 0) else ((v + 1) / m ^ t % m == v / m ^ t % m + 1 && (List.range 5).all fun u => decide (u ≤ t) || (v + 1) / m ^ u % m == v / m ^ u % m)
theorem zdg_g : ∀ m, m < 5 → 1 ≤ m → ∀ t, t < 5 → ∀ v, v < 1024 → (v + 1) % m ^ t = 0 → zdgB m t v = true := by decide +kernel
theorem zdg_f (m : Nat) (h1 : m < 5) (h2 : 1 ≤ m) (t : Nat) (h3 : t < 5) (v : Nat) (h4 : v < 1024) (h5 : (v + 1) % m ^ t = 0) : (m ≤ v / m ^ t % m + 1 → (v + 1) / m ^ t % m = 0 ∧ (v + 1) % m ^ (t + 1) = 0) ∧ (v / m ^ t % m + 1 < m → (v + 1) / m ^ t % m = v / m ^ t % m + 1 ∧ ∀ u, u < 5 → t < u → (v + 1) / m ^ u % m = v / m ^ u % m) := by
  have h := zdg_g m h1 h2 t h3 v h4 h5
  unfold zdgB at h
  refine ⟨fun q => ?_, fun q => ?_⟩
  · rw [if_pos q, Bool.and_eq_true, beq_iff_eq, beq_iff_eq] at h
    exact h
  · rw [if_neg (by omega), Bool.and_eq_true, beq_iff_eq] at h
    refine ⟨h.1, fun u hu hlt => ?_⟩
    have g := List.all_eq_true.mp h.2 u (List.mem_range.mpr hu)
    rw [Bool.or_eq_true, beq_iff_eq] at g
    exact g.resolve_left (fun z => absurd (of_decide_eq_true z) (by omega))
theorem zmk : ∀ m, m < 5 → 1 ≤ m → ∀ k, k < 6 → m ^ k ≤ 1024 ∧ 1 ≤ m ^ k := by decide +kernel
/-- one member goes from its alp to another one: rows 35 and 36 of the class -/
theorem zod_step {τ : zMem} {m k j y : Nat} {D : Nat → Nat} (hm : m ≤ 4) (hk : k ≤ 5) (hj : j < k) (hx : D j < m) (hy : y < m) (h35 : ∀ i, i < k → τ.1 35 0 i = nI (D i)) (h36 : ∀ a, a < m → τ.1 36 0 a = nI (zbt D a k)) {s1 s2 s3 : zMem} (e1 : s1 = zwi τ 36 0 (D j) (τ.1 36 0 (D j) ^^^ (1 <<< (nI j &&& 31)))) (e2 : s2 = zwi s1 35 0 j (nI y)) (e3 : s3 = zwi s2 36 0 y (s2.1 36 0 y ^^^ (1 <<< (nI j &&& 31)))) : s3.2 = τ.2 ∧ (∀ K, K ≠ 35 → K ≠ 36 → s3.1 K = τ.1 K) ∧ (∀ i, i < k → s3.1 35 0 i = nI (zupn D j y i)) ∧ (∀ a, a < m → s3.1 36 0 a = nI (zbt (zupn D j y) a k)) := by
  have b32 : ∀ (D : Nat → Nat) a, zbt D a k < 32 := fun D a => Nat.lt_of_lt_of_le (zbt_lt D a k) (zp32 k (by omega)).1
  have p1 : ∀ a, a < m → s1.1 36 0 a = nI (zbt (zupn D j 99) a k) := fun a ha => by
    rw [e1]
    by_cases q : a = D j
    · subst q
      rw [zwi_hit, h36 _ hx, zxr _ (b32 D _) j (by omega), zbt_x (y := 99) hj (fun w => by
        have := w.mp rfl
        omega)]
    · rw [zwi_r (fun w => q w.2.2), h36 a ha, zbt_n (fun w => q w.symm) (by omega)]
  have p2 : ∀ a, a < m → s2.1 36 0 a = nI (zbt (zupn D j 99) a k) := fun a ha => by
    rw [e2, zwi_r (fun w => by have := w.1; omega), p1 a ha]
  have u : zupn (zupn D j 99) j y = zupn D j y := by
    funext i
    show (if i = j then y else (if i = j then 99 else D i)) = (if i = j then y else D i)
    by_cases q : i = j
    · rw [if_pos q, if_pos q]
    · rw [if_neg q, if_neg q, if_neg q]
  refine ⟨by rw [e3, e2, e1]; rfl, fun K h0 h1 => ?_, fun i hi => ?_, fun a ha => ?_⟩
  · funext i c
    rw [e3, zwi_r (fun w => h1 w.1), e2, zwi_r (fun w => h0 w.1), e1, zwi_r (fun w => h1 w.1)]
  · rw [e3, zwi_r (fun w => by have := w.1; omega), e2]
    by_cases q : i = j
    · subst q
      rw [zwi_hit, zupn_i]
    · rw [zwi_r (fun w => q w.2.2), e1, zwi_r (fun w => by have := w.1; omega), h35 i hi, zupn_n D y q]
  · rw [e3]
    by_cases q : a = y
    · subst q
      rw [zwi_hit, p2 a ha, zxr _ (b32 _ _) j (by omega), zbt_x (y := a) hj (fun w => by
        have h9 := w.mpr rfl
        rw [zupn_i] at h9
        omega), u]
    · rw [zwi_r (fun w => q w.2.2), p2 a ha, ← u, zbt_n (y := y) (i := j) (D := zupn D j 99) (fun w => by
        rw [zupn_i] at w
        omega) (fun w => q w.symm)]
/-- the class's plan goes one on -/
theorem e_turnPlan {σ : zMem} {m k v F : Nat} (hF : 100 < F) (hm1 : 1 ≤ m) (hm : m ≤ 4) (hk : k ≤ 5) (hv : v + 1 < m ^ k) (em : σ.1 25 0 4 = nI m) (h35 : ∀ i, i < k → σ.1 35 0 i = nI (zdg m k v i)) (h36 : ∀ a, a < m → σ.1 36 0 a = nI (zbt (zdg m k v) a k)) : ∃ s, f_X0_turnPlan F σ (nI k) = some ((), s) ∧ s.2 = σ.2 ∧ (∀ K, K ≠ 35 → K ≠ 36 → s.1 K = σ.1 K) ∧ (∀ i, i < k → s.1 35 0 i = nI (zdg m k (v + 1) i)) ∧ (∀ a, a < m → s.1 36 0 a = nI (zbt (zdg m k (v + 1)) a k)) := by
  unfold f_X0_turnPlan
  refine zit_q (fun (i : Nat) (t : zMem) (x : Int32 × Int32) => ∃ (j : Nat) (D : Nat → Nat), j ≤ k ∧ t.2 = σ.2 ∧ (∀ K, K ≠ 35 → K ≠ 36 → t.1 K = σ.1 K) ∧ (∀ i, i < k → t.1 35 0 i = nI (D i)) ∧ (∀ a, a < m → t.1 36 0 a = nI (zbt D a k)) ∧ ((i = j + 1 ∧ x = (0, nI j - 1) ∧ (v + 1) % m ^ (k - j) = 0 ∧ (∀ i, i < j → D i = zdg m k v i) ∧ (∀ i, j ≤ i → i < k → D i = zdg m k (v + 1) i)) ∨ (i = 0 ∧ (∃ p, x = (1, p)) ∧ ∀ i, i < k → D i = zdg m k (v + 1) i))) (fun (o : Option (Unit × zMem)) => ∃ s : zMem, o = some ((), s) ∧ s.2 = σ.2 ∧ (∀ K, K ≠ 35 → K ≠ 36 → s.1 K = σ.1 K) ∧ (∀ i, i < k → s.1 35 0 i = nI (zdg m k (v + 1) i)) ∧ (∀ a, a < m → s.1 36 0 a = nI (zbt (zdg m k (v + 1)) a k))) ?_ F (k + 1) σ _ ⟨k, zdg m k v, Nat.le_refl k, rfl, fun _ _ _ => rfl, h35, h36, Or.inl ⟨rfl, rfl, by rw [Nat.sub_self, Nat.pow_zero, Nat.mod_one], fun _ _ => rfl, fun i h1 h2 => by omega⟩⟩ (by omega)
  rintro i t x ⟨j, D, hj, t2, tK, t35, t36, ⟨rfl, rfl, hz, hlo, hhi⟩ | ⟨rfl, ⟨p, rfl⟩, hall⟩⟩
  · rcases j with _ | j
    · exfalso
      rw [Nat.sub_zero, Nat.mod_eq_of_lt hv] at hz
      omega
    · have c1024 := (zmk m (by omega) hm1 k (by omega)).1
      have et : k - 1 - j = k - (j + 1) := by omega
      have hx : D j = v / m ^ (k - (j + 1)) % m := by
        rw [hlo j (by omega)]
        unfold zdg
        rw [et]
      have hxm : D j < m := by
        rw [hx]
        exact Nat.mod_lt _ hm1
      have fct := zdg_f m (by omega) hm1 (k - (j + 1)) (by omega) v (by omega) hz
      rw [← hx] at fct
      have i5 := inb_n (show j < 5 by omega) (show 5 < 100000 by decide)
      have n5 := nI_clamp (show j < 2 ^ 31 by omega)
      have i4 := inb_n (show D j < 4 by omega) (show 4 < 100000 by decide)
      have n4 := nI_clamp (show D j < 2 ^ 31 by omega)
      have m1 : nI j + (-1) = nI j - 1 := (Int32.sub_eq_add_neg _ _).symm
      have tm : t.1 25 0 4 = nI m := by rw [tK 25 (by decide) (by decide), em]
      obtain ⟨s1, e1⟩ : ∃ s1, s1 = zwi t 36 0 (D j) (t.1 36 0 (D j) ^^^ (1 <<< (nI j &&& 31))) := ⟨_, rfl⟩
      have s1m : s1.1 25 0 4 = nI m := by rw [e1, zwi_r (fun w => by have := w.1; omega), tm]
      have s1d : s1.1 35 0 j = nI (D j) := by rw [e1, zwi_r (fun w => by have := w.1; omega), t35 j (by omega)]
      have go : ∀ (y : Nat), y < m → ∀ (l : Int32), ∀ rec, f_X0_turnPlan_73 F rec s1 l (nI j) (nI y) (nI j) = rec (zwi (zwi s1 35 0 j (nI y)) 36 0 y ((zwi s1 35 0 j (nI y)).1 36 0 y ^^^ (1 <<< (nI j &&& 31)))) (l, nI j - 1) := by
        intro y hy l rec
        unfold f_X0_turnPlan_73
        rw [zg_i i5, zg_i i5, n5, zwi_hit, zg_i (inb_n (show y < 4 by omega) (by decide)), zg_i (inb_n (show y < 4 by omega) (by decide)), nI_clamp (show y < 2 ^ 31 by omega), m1]
      have head : ∀ rec, f_X0_turnPlan_6 F rec t (0, nI (j + 1) - 1) = if m ≤ D j + 1 then f_X0_turnPlan_51 F rec s1 (nI j) 0 else f_X0_turnPlan_51 F rec s1 (nI j) 1 := by
        intro rec
        unfold f_X0_turnPlan_6
        simp only
        rw [nI_pred, if_neg (nI_pos (by omega)), if_pos trivial, zg_i i5, n5, t35 j (by omega), zg_i i4, zg_i i4, zg_i i5, n4, ← e1, s1m, s1d, nI_1]
        by_cases q : m ≤ D j + 1
        · rw [if_pos q, if_pos ((nI_leI (by omega) (by omega)).mpr q)]
        · rw [if_neg q, if_neg (fun w => q ((nI_leI (by omega) (by omega)).mp w))]
      by_cases q : m ≤ D j + 1
      · have fct := fct.1 q
        obtain ⟨q1, q2, q3, q4⟩ := zod_step (y := 0) hm hk (by omega) hxm (by omega) t35 t36 e1 rfl rfl
        refine Or.inr ⟨j + 1, _, (0, nI j - 1), by omega, ⟨j, zupn D j 0, by omega, q1.trans t2, fun K h0 h1 => (q2 K h0 h1).trans (tK K h0 h1), q3, q4, Or.inl ⟨rfl, rfl, ?_, fun i hi => ?_, fun i h1 h2 => ?_⟩⟩, fun rec => ?_⟩
        · rw [show k - j = k - (j + 1) + 1 by omega]
          exact fct.2
        · rw [zupn_n D 0 (by omega), hlo i (by omega)]
        · by_cases w : i = j
          · subst w
            rw [zupn_i]
            unfold zdg
            rw [et, fct.1]
          · rw [zupn_n D 0 w, hhi i (by omega) h2]
        · rw [head, if_pos q]
          unfold f_X0_turnPlan_51
          rw [if_pos rfl]
          exact go 0 (by omega) 0 rec
      · have fct := fct.2 (Nat.lt_of_not_le q)
        obtain ⟨q1, q2, q3, q4⟩ := zod_step (y := D j + 1) hm hk (by omega) hxm (by omega) t35 t36 e1 rfl rfl
        refine Or.inr ⟨0, _, (1, nI j - 1), by omega, ⟨j, zupn D j (D j + 1), by omega, q1.trans t2, fun K h0 h1 => (q2 K h0 h1).trans (tK K h0 h1), q3, q4, Or.inr ⟨rfl, ⟨_, rfl⟩, fun i hi => ?_⟩⟩, fun rec => ?_⟩
        · by_cases w : i = j
          · subst w
            rw [zupn_i]
            unfold zdg
            rw [et, fct.1]
          · rw [zupn_n D _ w]
            by_cases w2 : i < j
            · rw [hlo i (by omega)]
              exact (fct.2 (k - 1 - i) (by omega) (by omega)).symm
            · rw [hhi i (by omega) hi]
        · rw [head, if_neg q]
          unfold f_X0_turnPlan_51
          rw [if_neg (by decide), zg_i i5, n5, s1d, nI_1]
          exact go (D j + 1) (by omega) 1 rec
  · refine Or.inl ⟨some ((), t), ⟨t, rfl, t2, tK, fun i hi => by rw [t35 i hi, hall i hi], fun a ha => by rw [t36 a ha, zbt_c a hall]⟩, fun rec => ?_⟩
    unfold f_X0_turnPlan_6
    simp only
    by_cases q : p < 0
    · rw [if_pos q]
    · rw [if_neg q, if_neg (by decide)]

