theorem zhg_b {s g t ar : Int32} (hg : zib g 0 990) (ha : zib ar 0 99) : zib (zhg s g t ar) 0 990 := by
  obtain ⟨g0, g1⟩ := hg
  obtain ⟨a0, a1⟩ := ha
  unfold zhg
  by_cases q : s = 0
  · rw [if_pos q]
    by_cases p : 0 < t
    · rw [if_pos p]
      have p1 := Int32.lt_iff_toInt_lt.mp p
      rw [Int32.toInt_zero] at p1
      have k10 : (10 : Int32).toInt = 10 := rfl
      have k20 : (20 : Int32).toInt = 20 := rfl
      have m1 := zmin_t t 20
      rw [k20] at m1
      have m2 : 0 ≤ (zmin t 20).toInt ∧ (zmin t 20).toInt ≤ 20 := by
        rw [m1]
        split <;> omega
      have pr : 0 ≤ (zmin t 20).toInt * ar.toInt ∧ (zmin t 20).toInt * ar.toInt ≤ 20 * 99 := ⟨Int.mul_nonneg m2.1 a0, Int.mul_le_mul m2.2 a1 a0 (by omega)⟩
      have t1 : (zmin t 20 * ar).toInt = (zmin t 20).toInt * ar.toInt := by rw [Int32.toInt_mul, Int.bmod_eq_of_le (by omega) (by omega)]
      have t2 : (zmin t 20 * ar / 10).toInt = (zmin t 20).toInt * ar.toInt / 10 := by
        rw [Int32.toInt_div_of_ne_right _ _ (by decide), t1, k10, Int.tdiv_eq_ediv_of_nonneg pr.1]
      have t3 : (g + zmin t 20 * ar / 10).toInt = g.toInt + (zmin t 20).toInt * ar.toInt / 10 := by rw [t_add (by rw [t2]; omega) (by rw [t2]; omega), t2]
      have t4 : (10 * ar).toInt = 10 * ar.toInt := by rw [Int32.toInt_mul, k10, Int.bmod_eq_of_le (by omega) (by omega)]
      have m3 := zmin_t (10 * ar) (g + zmin t 20 * ar / 10)
      rw [t3, t4] at m3
      unfold zib
      rw [m3]
      split <;> omega
    · rw [if_neg p]
      exact ⟨g0, g1⟩
  · rw [if_neg q]
    exact ⟨g0, g1⟩
theorem zhd_b {c t f ar : Int32} {D : Int32 × Int32 × Int32} (hg : zib D.1 0 990) (ha : zib ar 0 99) (hc : zib c 0 100000) : zib (zhd c t f ar D).1 0 990 := by
  have h := zhg_b (s := zhn D.2.1 t f) (t := t) hg ha
  show zib (zhg (zhn D.2.1 t f) D.1 t ar - 3 * zmin c (zhg (zhn D.2.1 t f) D.1 t ar / 3)) 0 990
  generalize zhg (zhn D.2.1 t f) D.1 t ar = g at h
  obtain ⟨g0, g1⟩ := h
  obtain ⟨c0, c1⟩ := hc
  have k3 : (3 : Int32).toInt = 3 := rfl
  have dg : (g / 3).toInt = g.toInt / 3 := by
    rw [Int32.toInt_div_of_ne_right _ _ (by decide), k3, Int.tdiv_eq_ediv_of_nonneg g0]
  have m1 := zmin_t c (g / 3)
  rw [dg] at m1
  have m2 : 0 ≤ (zmin c (g / 3)).toInt ∧ 3 * (zmin c (g / 3)).toInt ≤ g.toInt := by
    rw [m1]
    split <;> omega
  have t3 : (3 * zmin c (g / 3)).toInt = 3 * (zmin c (g / 3)).toInt := by
    rw [Int32.toInt_mul, k3, Int.bmod_eq_of_le (by omega) (by omega)]
  have s3 : (g - 3 * zmin c (g / 3)).toInt = g.toInt - 3 * (zmin c (g / 3)).toInt := by rw [t_sub (by rw [t3]; omega) (by rw [t3]; omega), t3]
  unfold zib
  rw [s3]
  omega
theorem zfu_zfu (f f2 G : Nat → Int32) (m : Nat) : zfu f (zfu f2 G m) m = zfu f G m := by
  funext b
  show (if b < m then f b else (if b < m then f2 b else G b)) = (if b < m then f b else G b)
  by_cases h : b < m
  · rw [if_pos h, if_pos h]
  · rw [if_neg h, if_neg h, if_neg h]
theorem zfu_c {f f2 : Nat → Int32} (G : Nat → Int32) {m : Nat} (h : ∀ b, b < m → f b = f2 b) : zfu f G m = zfu f2 G m := by
  funext b
  show (if b < m then f b else G b) = (if b < m then f2 b else G b)
  by_cases c : b < m
  · rw [if_pos c, if_pos c, h b c]
  · rw [if_neg c, if_neg c]
theorem zfu_lt {f : Nat → Int32} (G : Nat → Int32) {m b : Nat} (h : b < m) : zfu f G m b = f b := if_pos h
/-- alp b after j days of the scratch pasture -/
def zaj (σ : zMem) (d n : Nat) (G S : Nat → Int32) (j b : Nat) : Int32 × Int32 × Int32 := zhs (zsum (fun h => σ.1 116 b h) n) (σ.1 87 0 b) (σ.1 88 0 b) (fun i => zsk σ 0 (d + i + 1)) (fun i => zsk σ 1 (d + i + 1)) (G b, S b, 0) j
theorem zaj_b {σ : zMem} {d n : Nat} (hn : n ≤ 10) {G S : Nat → Int32} {b : Nat} (hG : zib (G b) 0 990) (ha : zib (σ.1 88 0 b) 0 99) (hu : ∀ h, h < n → zib (σ.1 116 b h) 0 999) : ∀ j, zib (zaj σ d n G S j b).1 0 990
  | 0 => hG
  | j + 1 => by
    have c := zsum_ib (u := fun h => σ.1 116 b h) hn hu
    exact zhd_b (zaj_b hn hG ha hu j) ha ⟨c.1, by have := c.2; omega⟩
