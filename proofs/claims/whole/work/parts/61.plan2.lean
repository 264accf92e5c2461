theorem zmin_t (a b : Int32) : (zmin a b).toInt = if b.toInt < a.toInt then b.toInt else a.toInt := by
  unfold zmin
  by_cases q : b < a
  · rw [if_pos q, if_pos (Int32.lt_iff_toInt_lt.mp q)]
  · rw [if_neg q, if_neg (fun w => q (Int32.lt_iff_toInt_lt.mpr w))]
/-- one house after another eats what all of them eat together -/
theorem zkey {U u g : Int32} (h1 : zib U 0 100000) (h2 : zib u 0 100000) (h3 : zib g 0 1000000) : zmin U (g / 3) + zmin u ((g - 3 * zmin U (g / 3)) / 3) = zmin (U + u) (g / 3) := by
  obtain ⟨U0, U1⟩ := h1
  obtain ⟨u0, u1⟩ := h2
  obtain ⟨g0, g1⟩ := h3
  have k3 : (3 : Int32).toInt = 3 := rfl
  have dg : (g / 3).toInt = g.toInt / 3 := by
    rw [Int32.toInt_div_of_ne_right _ _ (by decide), k3, Int.tdiv_eq_ediv_of_nonneg g0]
  have m1 := zmin_t U (g / 3)
  rw [dg] at m1
  have m2 : 0 ≤ (zmin U (g / 3)).toInt ∧ (zmin U (g / 3)).toInt ≤ 100000 ∧ 3 * (zmin U (g / 3)).toInt ≤ g.toInt := by
    rw [m1]
    split <;> omega
  have t3 : (3 * zmin U (g / 3)).toInt = 3 * (zmin U (g / 3)).toInt := by
    rw [Int32.toInt_mul, k3, Int.bmod_eq_of_le (by omega) (by omega)]
  have s3 : (g - 3 * zmin U (g / 3)).toInt = g.toInt - 3 * (zmin U (g / 3)).toInt := by rw [t_sub (by rw [t3]; omega) (by rw [t3]; omega), t3]
  have d3 : ((g - 3 * zmin U (g / 3)) / 3).toInt = (g.toInt - 3 * (zmin U (g / 3)).toInt) / 3 := by
    rw [Int32.toInt_div_of_ne_right _ _ (by decide), k3, s3, Int.tdiv_eq_ediv_of_nonneg (by omega)]
  have m3 := zmin_t u ((g - 3 * zmin U (g / 3)) / 3)
  rw [d3] at m3
  have m4 : 0 ≤ (zmin u ((g - 3 * zmin U (g / 3)) / 3)).toInt ∧ (zmin u ((g - 3 * zmin U (g / 3)) / 3)).toInt ≤ 100000 := by
    rw [m3]
    split <;> omega
  have a1 : (U + u).toInt = U.toInt + u.toInt := t_add (by omega) (by omega)
  have m5 := zmin_t (U + u) (g / 3)
  rw [dg, a1] at m5
  apply Int32.toInt_inj.mp
  rw [t_add (by omega) (by omega), m5, m3]
  generalize (zmin U (g / 3)).toInt = m at *
  split at m1 <;> split <;> split <;> omega
def zff (u : Nat → Int32) (D : Int32 × Int32) : Nat → Int32 × Int32
  | 0 => D
  | h + 1 => ((zff u D h).1 - 3 * zmin (u h) ((zff u D h).1 / 3), (zff u D h).2 + (u h - zmin (u h) ((zff u D h).1 / 3)))
theorem zff_s1 (g a b : Int32) : g - 3 * a - 3 * b = g - 3 * (a + b) := by
  rw [Int32.mul_add, Int32.sub_eq_add_neg, Int32.sub_eq_add_neg, Int32.sub_eq_add_neg, Int32.neg_add, Int32.add_assoc, Int32.sub_eq_add_neg]
theorem zff_s2 (k c a d b : Int32) : k + (c - a) + (d - b) = k + ((c + d) - (a + b)) := by
  simp only [Int32.sub_eq_add_neg, Int32.neg_add, Int32.add_assoc]
  congr 2
  rw [← Int32.add_assoc, ← Int32.add_assoc, Int32.add_comm (-a) d]
theorem zsum_ib {u : Nat → Int32} : ∀ {n : Nat}, n ≤ 10 → (∀ i, i < n → zib (u i) 0 999) → zib (zsum u n) 0 (999 * (n : Int))
  | 0, _, _ => ⟨Int.le_refl _, Int.le_refl _⟩
  | n + 1, hn, h => by
    obtain ⟨i1, i2⟩ := zsum_ib (n := n) (by omega) fun i hi => h i (by omega)
    obtain ⟨j1, j2⟩ := h n (by omega)
    have e : (zsum u n + u n).toInt = (zsum u n).toInt + (u n).toInt := t_add (by omega) (by omega)
    show zib (zsum u n + u n) _ _
    exact ⟨by omega, by omega⟩
theorem zff_eq {u : Nat → Int32} {g k : Int32} (hg : zib g 0 1000000) : ∀ {n : Nat}, n ≤ 10 → (∀ i, i < n → zib (u i) 0 999) → zff u (g, k) n = (g - 3 * zmin (zsum u n) (g / 3), k + (zsum u n - zmin (zsum u n) (g / 3)))
  | 0, _, _ => by
    have z : zmin (zsum u 0) (g / 3) = 0 := by
      apply Int32.toInt_inj.mp
      rw [zmin_t, Int32.toInt_div_of_ne_right _ _ (by decide), show (3 : Int32).toInt = 3 from rfl, Int.tdiv_eq_ediv_of_nonneg hg.1, show (zsum u 0).toInt = 0 from rfl, show (0 : Int32).toInt = 0 from rfl]
      have := hg.1
      split <;> omega
    rw [z, show zsum u 0 = 0 from rfl, show (3 : Int32) * 0 = 0 by decide, Int32.sub_zero, Int32.sub_zero, Int32.add_zero]
    rfl
  | n + 1, hn, h => by
    have ih := zff_eq (k := k) hg (n := n) (by omega) fun i hi => h i (by omega)
    obtain ⟨i1, i2⟩ := zsum_ib (u := u) (n := n) (by omega) fun i hi => h i (by omega)
    obtain ⟨j1, j2⟩ := h n (by omega)
    have key := zkey (U := zsum u n) (u := u n) (g := g) ⟨i1, by omega⟩ ⟨j1, by omega⟩ hg
    show ((zff u (g, k) n).1 - 3 * zmin (u n) ((zff u (g, k) n).1 / 3), (zff u (g, k) n).2 + (u n - zmin (u n) ((zff u (g, k) n).1 / 3))) = (g - 3 * zmin (zsum u n + u n) (g / 3), k + ((zsum u n + u n) - zmin (zsum u n + u n) (g / 3)))
    rw [ih, ← key]
    simp only
    rw [zff_s1, zff_s2]
