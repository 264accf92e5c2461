/-- a house's share in ten thousandths -/
def zkP (w : Nat) (m : Int32) (T : Int64) : Int64 := ((nI w).toInt64 * m.toInt64 * 10000) / T
def zkq (σ : zMem) (w : Nat) (T : Int) (i : Nat) : Int := (w : Int) * (σ.1 65 0 i).toInt * 10000 / T
theorem zkP_t {w : Nat} (hw : w ≤ 9999) {m : Int32} {T : Int64} (h0 : 0 ≤ m.toInt) (h1 : m.toInt ≤ 5702400) (hT : 0 < T.toInt) (hm : m.toInt ≤ T.toInt) : (zkP w m T).toInt = (w : Int) * m.toInt * 10000 / T.toInt ∧ 0 ≤ (w : Int) * m.toInt * 10000 / T.toInt ∧ (w : Int) * m.toInt * 10000 / T.toInt ≤ 99990000 := by
  have wI := nI_toInt (show w < 2 ^ 31 by omega)
  have a0 : 0 ≤ (w : Int) * m.toInt := Int.mul_nonneg (by omega) h0
  have a1 : (w : Int) * m.toInt ≤ 9999 * 5702400 := Int.mul_le_mul (by omega) h1 h0 (by omega)
  have a2 : (w : Int) * m.toInt ≤ 9999 * T.toInt := Int.mul_le_mul (by omega) hm h0 (by omega)
  generalize hp : (w : Int) * m.toInt = p at a0 a1 a2
  have e1 : ((nI w).toInt64 * m.toInt64).toInt = p := by rw [zl_mul, wI, hp]
  have k : (10000 : Int64).toInt = 10000 := by decide
  have e2 : ((nI w).toInt64 * m.toInt64 * 10000).toInt = p * 10000 := by
    rw [Int64.toInt_mul, e1, k, Int.bmod_eq_of_le (by omega) (by omega)]
  have b0 : 0 ≤ p * 10000 / T.toInt := Int.ediv_nonneg (by omega) (by omega)
  have b1 : p * 10000 / T.toInt ≤ 99990000 := by
    have : p * 10000 / T.toInt < 99990001 := Int.ediv_lt_of_lt_mul hT (by omega)
    omega
  refine ⟨?_, b0, b1⟩
  unfold zkP
  rw [Int64.toInt_div_of_ne_right _ _ (by intro q; rw [q] at hT; exact absurd hT (by decide)), e2, Int.tdiv_eq_ediv_of_nonneg (by omega)]
/-- what a house gets and keeps -/
def zkV (X : Int32) : Int32 := if X ≤ 0 then 0 else X / 10000
theorem zkx {X : Int32} {l : Int64} (h : X.toInt = l.toInt) (h0 : -100000 ≤ X.toInt) (h1 : X.toInt ≤ 101000000) : (if 0 ≤ lg_cmp l 0 then (l / 10000).toInt32 else 0) = zkV X ∧ (l - 10000 * (zkV X).toInt64).toInt32 = X - zkV X * 10000 ∧ -100000 ≤ (X - zkV X * 10000).toInt ∧ 0 ≤ (zkV X).toInt ∧ (X - zkV X * 10000).toInt + 10000 * (zkV X).toInt = X.toInt ∧ (zkV X).toInt ≤ 10100 := by
  have k : (10000 : Int64).toInt = 10000 := by decide
  have k2 : (10000 : Int32).toInt = 10000 := by decide
  have z : (0 : Int32).toInt = 0 := rfl
  have z6 : (0 : Int64).toInt = 0 := by decide
  obtain ⟨t, ht⟩ : ∃ t, t = X.toInt := ⟨_, rfl⟩
  have ht2 : l.toInt = t := by rw [← h, ht]
  rw [← ht] at h0 h1
  have vt : (zkV X).toInt = if t ≤ 0 then 0 else t / 10000 := by
    unfold zkV
    by_cases q : X ≤ 0
    · have q1 := Int32.le_iff_toInt_le.mp q
      rw [if_pos q, if_pos (by omega), z]
    · have q1 : ¬ t ≤ 0 := fun p => q (by rw [Int32.le_iff_toInt_le, ← ht, z]; exact p)
      rw [if_neg q, if_neg q1, Int32.toInt_div_of_ne_right _ _ (by decide), ← ht, k2, Int.tdiv_eq_ediv_of_nonneg (by omega)]
  have v0 : 0 ≤ (zkV X).toInt ∧ (zkV X).toInt ≤ 10100 ∧ 10000 * (zkV X).toInt ≤ 101000000 ∧ -100000 ≤ t - 10000 * (zkV X).toInt ∧ t - 10000 * (zkV X).toInt ≤ 101000000 := by
    rw [vt]
    split <;> omega
  have m1 : (zkV X * 10000).toInt = 10000 * (zkV X).toInt := by
    rw [Int32.toInt_mul, k2, Int.bmod_eq_of_le (by omega) (by omega)]
    omega
  have m2 : (X - zkV X * 10000).toInt = t - 10000 * (zkV X).toInt := by
    rw [t_sub (by rw [m1]; omega) (by rw [m1]; omega), m1, ht]
  refine ⟨?_, ?_, by rw [m2]; omega, v0.1, by rw [m2]; omega, v0.2.1⟩
  · apply Int32.toInt_inj.mp
    rw [vt]
    by_cases q : 0 ≤ lg_cmp l 0
    · rw [if_pos q]
      rw [lg_cmp_ge, Int64.le_iff_toInt_le, z6, ht2] at q
      have d : (l / 10000).toInt = t / 10000 := by rw [Int64.toInt_div_of_ne_right _ _ (by decide), ht2, k, Int.tdiv_eq_ediv_of_nonneg (by omega)]
      rw [Int64.toInt_toInt32, d, Int.bmod_eq_of_le (by omega) (by omega)]
      split <;> omega
    · rw [if_neg q]
      rw [lg_cmp_ge, Int64.le_iff_toInt_le, z6, ht2] at q
      rw [if_pos (by omega), z]
  · apply Int32.toInt_inj.mp
    have u : (10000 * (zkV X).toInt64).toInt = 10000 * (zkV X).toInt := by
      rw [Int64.toInt_mul, k, Int32.toInt_toInt64, Int.bmod_eq_of_le (by omega) (by omega)]
    have u2 : (l - 10000 * (zkV X).toInt64).toInt = t - 10000 * (zkV X).toInt := by
      rw [Int64.toInt_sub, u, ht2, Int.bmod_eq_of_le (by omega) (by omega)]
    rw [Int64.toInt_toInt32, u2, m2, Int.bmod_eq_of_le (by omega) (by omega)]
theorem zks_p {σ τ : zMem} (F : Nat) {b w : Nat} (hb : b < 10) {T : Int32} (hT : ¬ T.toInt64 = 0) {X : Int32} (hX : X = τ.1 2 b 9 + (zkP w (τ.1 2 b 5) T.toInt64).toInt32) (h7 : τ.1 2 b 7 = σ.1 68 0 b) : f_X2_partWheels F τ b (nI w) T = some (zkV X, zks σ τ b (X - zkV X * 10000) (zkV X)) := by
  have hX' : τ.1 2 b 9 + ((((nI w).toInt64 * (τ.1 2 b 5).toInt64) * 10000) / T.toInt64).toInt32 = X := hX.symm
  have r9 : (zwi (zwi τ 2 b 9 X) 2 b 8 0).1 2 b 9 = X := by rw [zwi_r (by omega), zwi_hit]
  have r8 : (zwi (zwi τ 2 b 9 X) 2 b 8 0).1 2 b 8 = 0 := zwi_hit _ _ _ _ _
  have r7 : (zwi (zwi τ 2 b 9 X) 2 b 8 0).1 2 b 7 = σ.1 68 0 b := by rw [zwi_r (by omega), zwi_r (by omega), h7]
  unfold f_X2_partWheels
  rw [hX', zg_i (decide_eq_true hb), zg_i (by simpa [znl] using hT), r9, r8]
  unfold zkV
  by_cases q : X ≤ 0
  · rw [if_pos q, if_pos q]
    have e : X - 0 * 10000 = X := by rw [show (0 : Int32) * 10000 = 0 by decide, Int32.sub_zero]
    rw [e]
    congr 2
    unfold zks
    refine Prod.ext ?_ rfl
    funext k i j
    by_cases c9 : k = 2 ∧ i = b ∧ j = 9
    · obtain ⟨rfl, rfl, rfl⟩ := c9
      rw [r9, zwi_hit]
    · by_cases c7 : k = 2 ∧ i = b ∧ j = 7
      · obtain ⟨rfl, rfl, rfl⟩ := c7
        rw [r7, zwi_r (by omega), zwi_hit, Int32.add_zero]
      · by_cases c8 : k = 2 ∧ i = b ∧ j = 8
        · obtain ⟨rfl, rfl, rfl⟩ := c8
          rw [r8, zwi_r (by omega), zwi_r (by omega), zwi_hit]
        · rw [zwi_r c8, zwi_r c9, zwi_r c9, zwi_r c7, zwi_r c8]
  · rw [if_neg q, if_neg q, zg_i (by decide), e_take F _ hb, zb_s, r9, r8, r7]
    have e : zwi (zwi (zwi (zwi (zwi τ 2 b 9 X) 2 b 8 0) 2 b 8 (0 + X / 10000)) 2 b 7 (σ.1 68 0 b + X / 10000)) 2 b 9 (X - X / 10000 * 10000) = zks σ τ b (X - X / 10000 * 10000) (X / 10000) := by
      unfold zks
      refine Prod.ext ?_ rfl
      funext k i j
      by_cases c9 : k = 2 ∧ i = b ∧ j = 9
      · obtain ⟨rfl, rfl, rfl⟩ := c9
        rw [zwi_hit, zwi_hit]
      · rw [zwi_r c9, zwi_r c9]
        by_cases c7 : k = 2 ∧ i = b ∧ j = 7
        · obtain ⟨rfl, rfl, rfl⟩ := c7
          rw [zwi_hit, zwi_hit]
        · rw [zwi_r c7, zwi_r c7]
          by_cases c8 : k = 2 ∧ i = b ∧ j = 8
          · obtain ⟨rfl, rfl, rfl⟩ := c8
            rw [zwi_hit, zwi_hit, Int32.zero_add]
          · rw [zwi_r c8, zwi_r c8, zwi_r c8, zwi_r c9]
    rw [e]
    congr 2
    unfold zks
    rw [zwi_r (by omega), zwi_r (by omega), zwi_hit]
theorem zkq_s (σ : zMem) (w : Nat) {T : Int} (hT : 0 < T) : ∀ k, T * zsz (zkq σ w T) k ≤ 10000 * w * zsz (fun i => (σ.1 65 0 i).toInt) k ∧ 10000 * w * zsz (fun i => (σ.1 65 0 i).toInt) k + k ≤ T * zsz (zkq σ w T) k + T * k
  | 0 => by
    show T * 0 ≤ 10000 * (w : Int) * 0 ∧ 10000 * (w : Int) * 0 + 0 ≤ T * 0 + T * 0
    rw [Int.mul_zero, Int.mul_zero]
    exact ⟨Int.le_refl _, Int.le_refl _⟩
  | k + 1 => by
    obtain ⟨i1, i2⟩ := zkq_s σ w hT k
    show T * (zsz (zkq σ w T) k + zkq σ w T k) ≤ 10000 * (w : Int) * (zsz (fun i => (σ.1 65 0 i).toInt) k + (σ.1 65 0 k).toInt) ∧ 10000 * (w : Int) * (zsz (fun i => (σ.1 65 0 i).toInt) k + (σ.1 65 0 k).toInt) + ((k + 1 : Nat) : Int) ≤ T * (zsz (zkq σ w T) k + zkq σ w T k) + T * ((k + 1 : Nat) : Int)
    have d1 := Int.mul_ediv_add_emod ((w : Int) * (σ.1 65 0 k).toInt * 10000) T
    have d2 := Int.emod_lt_of_pos ((w : Int) * (σ.1 65 0 k).toInt * 10000) hT
    have d3 := Int.emod_nonneg ((w : Int) * (σ.1 65 0 k).toInt * 10000) (Int.ne_of_gt hT)
    have d4 : T * zkq σ w T k = T * ((w : Int) * (σ.1 65 0 k).toInt * 10000 / T) := rfl
    have d5 : 10000 * (w : Int) * (σ.1 65 0 k).toInt = (w : Int) * (σ.1 65 0 k).toInt * 10000 := by
      rw [Int.mul_assoc, Int.mul_comm]
    have d6 : T * ((k + 1 : Nat) : Int) = T * (k : Int) + T := by
      rw [show ((k + 1 : Nat) : Int) = (k : Int) + 1 by omega, Int.mul_add, Int.mul_one]
    rw [Int.mul_add, Int.mul_add, d5, d4, d6]
    omega
theorem zkq_b (σ : zMem) {w n : Nat} (hn : n ≤ 10) (hn1 : 1 ≤ n) {T : Int} (hT : 0 < T) (e : zsz (fun i => (σ.1 65 0 i).toInt) n = T) : zsz (zkq σ w T) n ≤ 10000 * w ∧ 10000 * w ≤ zsz (zkq σ w T) n + 9 := by
  obtain ⟨i1, i2⟩ := zkq_s σ w hT n
  rw [e, Int.mul_comm (10000 * (w : Int)) T] at i1 i2
  have a1 := Int.le_of_mul_le_mul_left i1 hT
  have a2 : T * (10000 * (w : Int)) < T * (zsz (zkq σ w T) n + n) := by
    rw [Int.mul_add T]
    omega
  have a3 := Int.lt_of_mul_lt_mul_left a2 (Int.le_of_lt hT)
  exact ⟨a1, by omega⟩
theorem zkb1 {R N r v X S Q r0 q : Int} (h : R + 10000 * N = S + Q) (h1 : r + 10000 * v = X) (h2 : X = r0 + q) : R + r + 10000 * (N + v) = S + r0 + (Q + q) := by omega
theorem zkb2 {N v : Int} {i : Nat} (h : N ≤ 10100 * (i : Int)) (h1 : v ≤ 10100) : N + v ≤ 10100 * ((i + 1 : Nat) : Int) := by omega
theorem zkb3 {N : Int} {i : Nat} (h : N ≤ 10100 * (i : Int)) (h1 : i ≤ 10) : N ≤ 200000 := by omega
theorem zkb4 {S Q md : Int} {w : Nat} (h : S ≤ 0) (h1 : Q ≤ 10000 * (w : Int)) (h2 : -10 * md ≤ S) (h3 : 10000 * (w : Int) ≤ Q + 9) : S + Q ≤ 10000 * (w : Int) ∧ 10000 * (w : Int) + -10 * (md + 1) ≤ S + Q := by omega
theorem zkb5 {g v : Int32} {N : Int} (h : g.toInt = N) (h0 : 0 ≤ N) (h1 : N ≤ 200000) (h2 : 0 ≤ v.toInt) (h3 : v.toInt ≤ 10100) : (g + v).toInt = N + v.toInt := by rw [t_add (by omega) (by omega), h]
theorem zkb6 {x : Int32} {p : Int64} (h : -100000 ≤ x.toInt) (h1 : x.toInt ≤ 1000000) (h2 : 0 ≤ p.toInt) (h3 : p.toInt ≤ 99990000) : (x + p.toInt32).toInt = x.toInt + p.toInt ∧ (p + x.toInt64).toInt = x.toInt + p.toInt ∧ -100000 ≤ x.toInt + p.toInt ∧ x.toInt + p.toInt ≤ 101000000 := by
  have c : p.toInt32.toInt = p.toInt := by rw [Int64.toInt_toInt32, Int.bmod_eq_of_le (by omega) (by omega)]
  refine ⟨by rw [t_add (by omega) (by omega), c], ?_, by omega, by omega⟩
  rw [Int64.toInt_add, Int32.toInt_toInt64, Int.bmod_eq_of_le (by omega) (by omega)]
  omega
