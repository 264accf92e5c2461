/-- the bits of a set -/
def zpb (x : Int32) : Int32 := match f_J6_bitCount_0f7a4 0 (fun _ _ _ => 0, fun _ _ _ => 0) x with
  | some r => r.1
  | none => 0
theorem e_pb (F : Nat) (σ : zMem) (x : Int32) : f_J6_bitCount_0f7a4 F σ x = some (zpb x, σ) := rfl
def zpk (a : Nat) : Nat → Nat
  | 0 => 0
  | h + 1 => zpk a h + (if a.testBit h then 1 else 0)
theorem zpb_k : ∀ a, a < 1024 → zpb (nI a) = nI (zpk a 10) := by decide +kernel
theorem zpb_1 : ∀ a, a < 1024 → ∀ h, h < 10 → ((((nI a) >>> ((nI h) &&& 31)) &&& 1 = 1) ↔ a.testBit h = true) := by decide +kernel
theorem zpn_a {x : Int32} {n : Nat} (hn : n ≤ 10) (h : x.toUInt32.toNat < 2 ^ n) : ∃ a, a < 2 ^ n ∧ a < 1024 ∧ x = nI a := by
  have hp2 : 2 ^ n ≤ 2 ^ 10 := Nat.pow_le_pow_right (by omega) hn
  refine ⟨x.toUInt32.toNat, h, by omega, ?_⟩
  have e : (nI x.toUInt32.toNat).toUInt32.toNat = x.toUInt32.toNat := by
    have := nI_toInt (n := x.toUInt32.toNat) (by omega)
    show (nI x.toUInt32.toNat).toBitVec.toNat = _
    have t := BitVec.toInt_eq_toNat_cond (nI x.toUInt32.toNat).toBitVec
    have t2 : (nI x.toUInt32.toNat).toBitVec.toInt = (nI x.toUInt32.toNat).toInt := rfl
    have b := (nI x.toUInt32.toNat).toBitVec.isLt
    rw [t2, this] at t
    split at t <;> omega
  have h1 : x.toUInt32 = (nI x.toUInt32.toNat).toUInt32 := UInt32.toNat_inj.mp e.symm
  have h2 := congrArg UInt32.toInt32 h1
  rw [Int32.toInt32_toUInt32, Int32.toInt32_toUInt32] at h2
  exact h2
/-- one alp, its grass, its snow, its hunger through the days -/
def zhn (s t f : Int32) : Int32 := if 2 < t then zmax 0 (s - 2 * t) else s + f
def zhg (s g t ar : Int32) : Int32 := if s = 0 then (if 0 < t then zmin (10 * ar) (g + zmin t 20 * ar / 10) else g) else g
def zhd (c t f ar : Int32) (D : Int32 × Int32 × Int32) : Int32 × Int32 × Int32 := (zhg (zhn D.2.1 t f) D.1 t ar - 3 * zmin c (zhg (zhn D.2.1 t f) D.1 t ar / 3), zhn D.2.1 t f, D.2.2 + (c - zmin c (zhg (zhn D.2.1 t f) D.1 t ar / 3)))
def zhs (c ht ar : Int32) (w f : Nat → Int32) (D : Int32 × Int32 × Int32) : Nat → Int32 × Int32 × Int32
  | 0 => D
  | j + 1 => zhd c (w j - 5 * ht) (f j) ar (zhs c ht ar w f D j)
theorem e_snowAfter (F : Nat) (σ : zMem) (s t f : Int32) : f_X0_snowAfter F σ s t f = some (zhn s t f, σ) := by
  unfold f_X0_snowAfter zhn
  by_cases q : 2 < t
  · rw [if_pos q, if_pos q]
  · rw [if_neg q, if_neg q]
theorem e_grassAfter (F : Nat) (σ : zMem) (g t ar : Int32) : f_X0_grassAfter F σ g t ar = some (if 0 < t then zmin (10 * ar) (g + zmin t 20 * ar / 10) else g, σ) := by
  unfold f_X0_grassAfter
  by_cases q : 0 < t
  · rw [if_pos q, if_pos q, zg_i (by decide)]
  · rw [if_neg q, if_neg q]
theorem e_hungerWith {σ : zMem} {a n F : Nat} (hF : 100 < F) (ha : a < 4) (hn : n ≤ 30) (c : Int32) : f_X0_hungerWith F σ (nI a) c (nI n) = some ((zhs c (σ.1 26 0 a) (σ.1 27 0 a) (fun j => σ.1 30 0 j) (fun j => σ.1 31 0 j) (σ.1 28 0 a, σ.1 29 0 a, 0) n).2.2, σ) := by
  have ia := inb_n ha (show 4 < 100000 by decide)
  have na := nI_clamp (n := a) (Nat.lt_trans ha (by decide))
  obtain ⟨Z, hZ⟩ : ∃ Z, Z = zhs c (σ.1 26 0 a) (σ.1 27 0 a) (fun j => σ.1 30 0 j) (fun j => σ.1 31 0 j) (σ.1 28 0 a, σ.1 29 0 a, 0) := ⟨_, rfl⟩
  have Z0 : Z 0 = (σ.1 28 0 a, σ.1 29 0 a, 0) := by rw [hZ]; rfl
  have Zs : ∀ j, Z (j + 1) = zhd c (σ.1 30 0 j - 5 * σ.1 26 0 a) (σ.1 31 0 j) (σ.1 27 0 a) (Z j) := fun j => by rw [hZ]; rfl
  unfold f_X0_hungerWith
  rw [zg_i ia, zg_i ia, na, ← hZ]
  refine zit_m (fun m s x => s = σ ∧ ∃ j, j ≤ n ∧ m = n - j ∧ x = (nI a, c, nI n, (Z j).1, (Z j).2.1, (Z j).2.2, nI j)) _ ?_ F n σ _ ⟨rfl, 0, by omega, rfl, by rw [Z0, nI_0]⟩ (by omega)
  rintro m s x ⟨rfl, j, hj, rfl, rfl⟩
  by_cases q : j = n
  · subst q
    refine Or.inl fun rec => ?_
    unfold f_X0_hungerWith_22
    simp only
    rw [if_pos (Int32.le_refl _)]
  · have ij := inb_n (show j < 30 by omega) (show 30 < 100000 by decide)
    have nj := nI_clamp (n := j) (show j < 2 ^ 31 by omega)
    have l30 : ¬ (30 : Int32) ≤ nI j := nle_l 30 (n := 30) rfl (by omega) (by decide)
    refine Or.inr ⟨n - (j + 1), s, (nI a, c, nI n, (Z (j + 1)).1, (Z (j + 1)).2.1, (Z (j + 1)).2.2, nI (j + 1)), by omega, ⟨rfl, j + 1, by omega, rfl, rfl⟩, fun rec => ?_⟩
    unfold f_X0_hungerWith_22 f_X0_hungerWith_89
    simp only
    rw [if_neg (nle_s (by omega) (by omega)), if_neg l30, zg_i ij, zg_i ia, zg_i ij, e_snowAfter, zb_s, na, nj, Zs]
    generalize hE : zhn (Z j).2.1 (s.1 30 0 j - 5 * s.1 26 0 a) (s.1 31 0 j) = E
    have g : zhg E (Z j).1 (s.1 30 0 j - 5 * s.1 26 0 a) (s.1 27 0 a) = if E = 0 then (if 0 < s.1 30 0 j - 5 * s.1 26 0 a then zmin (10 * s.1 27 0 a) ((Z j).1 + zmin (s.1 30 0 j - 5 * s.1 26 0 a) 20 * s.1 27 0 a / 10) else (Z j).1) else (Z j).1 := rfl
    unfold zhd
    rw [hE, nI_1]
    by_cases p : E = 0
    · rw [if_pos p] at g
      rw [if_pos p, zg_i ia, e_grassAfter, zb_s, zg_i (by decide), ← g]
    · rw [if_neg p] at g
      rw [if_neg p, zg_i (by decide), g]
