/-- a row moved down from slot a on, k slots -/
def zsh (a : Nat) (f : Nat → Int32) : Nat → (Nat → Int32)
  | 0 => f
  | k + 1 => zup1 (zsh a f k) (a + k) (zsh a f k (a + k + 1))
theorem zsh_v (a : Nat) (f : Nat → Int32) : ∀ k c, zsh a f k c = if a ≤ c ∧ c < a + k then f (c + 1) else f c
  | 0, c => by
    rw [if_neg (by omega)]
    rfl
  | k + 1, c => by
    show zup1 (zsh a f k) (a + k) (zsh a f k (a + k + 1)) c = _
    unfold zup1
    by_cases e : c = a + k
    · rw [if_pos e, zsh_v a f k, if_neg (by omega), if_pos (by omega), e]
    · rw [if_neg e, zsh_v a f k]
      by_cases q : a ≤ c ∧ c < a + k
      · rw [if_pos q, if_pos (by omega)]
      · rw [if_neg q, if_neg (by omega)]
theorem zsh_i {a k c : Nat} (f : Nat → Int32) (h1 : a ≤ c) (h2 : c < a + k) : zsh a f k c = f (c + 1) := by rw [zsh_v, if_pos ⟨h1, h2⟩]
theorem zsh_o {a k c : Nat} (f : Nat → Int32) (h : ¬ (a ≤ c ∧ c < a + k)) : zsh a f k c = f c := by rw [zsh_v, if_neg h]
def zor1 (x y : Int32) : Int32 := if x = 0 then (if y = 0 then 0 else 1) else 1
def zaddc (fall b : Int32) (D : zSl) : zSl := if D.2.1 < 6 then (D.1, D.2.1 + 1, zup1 D.2.2.1 D.2.1 fall, zup1 D.2.2.2.1 D.2.1 b, D.2.2.2.2) else (D.1, 6, zsh 0 (zup1 (zup1 D.2.2.1 6 fall) 1 (zup1 D.2.2.1 6 fall 1 + zup1 D.2.2.1 6 fall 0)) 6, zsh 0 (zup1 (zup1 D.2.2.2.1 6 b) 1 (zor1 (zup1 D.2.2.2.1 6 b 1) (zup1 D.2.2.2.1 6 b 0))) 6, D.2.2.2.2)
def zaddr (fall b : Int32) (D : zSl) : zSl := if D.2.1 < 6 then (D.1, D.2.1 + 1, zup1 D.2.2.1 D.2.1 fall, zup1 D.2.2.2.1 D.2.1 b, D.2.2.2.2) else (D.1, 6, zsh 1 (zup1 (zup1 D.2.2.1 6 fall) 0 (zup1 D.2.2.1 6 fall 0 + zup1 D.2.2.1 6 fall 1)) 5, zsh 1 (zup1 (zup1 D.2.2.2.1 6 b) 0 (zup1 D.2.2.2.1 6 b 0 ||| zup1 D.2.2.2.1 6 b 1)) 5, D.2.2.2.2)
/-- bounds of a slope -/
def zinD (B0 : Int) (D : zSl) : Prop := D.2.1 ≤ 6 ∧ ∀ c, c < D.2.1 → zib (D.2.2.1 c) 0 (if c = 0 then B0 else 200) ∧ (D.2.2.2.1 c = 0 ∨ D.2.2.2.1 c = 1)
theorem zor_eq {x y : Int32} (hx : x = 0 ∨ x = 1) (hy : y = 0 ∨ y = 1) : zor1 x y = y ||| x ∧ (zor1 x y = 0 ∨ zor1 x y = 1) := by
  rcases hx with rfl | rfl <;> rcases hy with rfl | rfl <;> decide
theorem zeqD_add {fall b : Int32} (hb : b = 0 ∨ b = 1) {B0 : Int} {C D : zSl} (h : zeqD C D) (hD : zinD B0 D) : zeqD (zaddc fall b C) (zaddr fall b D) := by
  obtain ⟨h1, h2, h3, h4⟩ := h
  obtain ⟨d1, d2⟩ := hD
  unfold zaddc zaddr
  by_cases q : C.2.1 < 6
  · rw [if_pos q, if_pos (by rw [← h2]; exact q)]
    refine ⟨h1, by rw [← h2], fun c hc => ?_, h4⟩
    have hc : c < C.2.1 + 1 := hc
    show zup1 C.2.2.1 C.2.1 fall c = zup1 D.2.2.1 D.2.1 fall c ∧ zup1 C.2.2.2.1 C.2.1 b c = zup1 D.2.2.2.1 D.2.1 b c
    rw [← h2]
    unfold zup1
    by_cases e : c = C.2.1
    · rw [if_pos e, if_pos e, if_pos e, if_pos e]
      exact ⟨rfl, rfl⟩
    · rw [if_neg e, if_neg e, if_neg e, if_neg e]
      exact h3 c (by omega)
  · have m6 : C.2.1 = 6 := by omega
    rw [if_neg q, if_neg (by rw [← h2]; exact q)]
    refine ⟨h1, rfl, fun c hc => ?_, h4⟩
    have hc : c < 6 := hc
    show zsh 0 _ 6 c = zsh 1 _ 5 c ∧ zsh 0 _ 6 c = zsh 1 _ 5 c
    rw [zsh_i (a := 0) (k := 6) _ (Nat.zero_le c) (by omega), zsh_i (a := 0) (k := 6) _ (Nat.zero_le c) (by omega)]
    by_cases c0 : c = 0
    · subst c0
      obtain ⟨a0, b0⟩ := h3 0 (by omega)
      obtain ⟨a1, b1⟩ := h3 1 (by omega)
      have s0 := (d2 0 (by omega)).2
      have s1 := (d2 1 (by omega)).2
      rw [zsh_o (a := 1) (k := 5) _ (by omega), zsh_o (a := 1) (k := 5) _ (by omega)]
      have z := (zor_eq s1 s0).1
      refine ⟨?_, ?_⟩
      · simp [zup1, a0, a1, Int32.add_comm]
      · simp [zup1, b0, b1, z]
    · rw [zsh_i (a := 1) (k := 5) _ (by omega) (by omega), zsh_i (a := 1) (k := 5) _ (by omega) (by omega)]
      have n1 : ¬ c + 1 = 1 := by omega
      have n0 : ¬ c + 1 = 0 := by omega
      rw [zup1_ne _ _ n1, zup1_ne _ _ n1, zup1_ne _ _ n0, zup1_ne _ _ n0]
      by_cases e : c + 1 = 6
      · rw [e, zup1_at, zup1_at, zup1_at, zup1_at]
        exact ⟨rfl, rfl⟩
      · rw [zup1_ne _ _ e, zup1_ne _ _ e, zup1_ne _ _ e, zup1_ne _ _ e]
        exact h3 (c + 1) (by omega)
theorem zinD_add {fall b : Int32} (hb : b = 0 ∨ b = 1) (hf : zib fall 0 200) {B0 : Int} (h0 : 0 ≤ B0) (h9 : B0 ≤ 2000000) {D : zSl} (hD : zinD B0 D) : zinD (B0 + 200) (zaddr fall b D) := by
  obtain ⟨d1, d2⟩ := hD
  unfold zaddr
  by_cases q : D.2.1 < 6
  · rw [if_pos q]
    refine ⟨q, fun c hc => ?_⟩
    have hc : c < D.2.1 + 1 := hc
    show zib (zup1 D.2.2.1 D.2.1 fall c) 0 _ ∧ (zup1 D.2.2.2.1 D.2.1 b c = 0 ∨ zup1 D.2.2.2.1 D.2.1 b c = 1)
    unfold zup1
    by_cases e : c = D.2.1
    · rw [if_pos e, if_pos e]
      refine ⟨⟨hf.1, ?_⟩, hb⟩
      have := hf.2
      split <;> omega
    · rw [if_neg e, if_neg e]
      obtain ⟨k1, k2⟩ := d2 c (by omega)
      refine ⟨⟨k1.1, ?_⟩, k2⟩
      have k3 := k1.2
      by_cases c0 : c = 0
      · rw [if_pos c0] at k3 ⊢
        omega
      · rw [if_neg c0] at k3 ⊢
        exact k3
  · rw [if_neg q]
    refine ⟨Nat.le_refl 6, fun c hc => ?_⟩
    have hc : c < 6 := hc
    show zib (zsh 1 _ 5 c) 0 _ ∧ (zsh 1 _ 5 c = 0 ∨ zsh 1 _ 5 c = 1)
    by_cases c0 : c = 0
    · subst c0
      obtain ⟨k0, s0⟩ := d2 0 (by omega)
      obtain ⟨k1, s1⟩ := d2 1 (by omega)
      rw [zsh_o (a := 1) (k := 5) _ (by omega), zsh_o (a := 1) (k := 5) _ (by omega), zup1_at, zup1_at, zup1_ne D.2.2.1 fall (show ¬ 0 = 6 by omega), zup1_ne D.2.2.1 fall (show ¬ 1 = 6 by omega), zup1_ne D.2.2.2.1 b (show ¬ 0 = 6 by omega), zup1_ne D.2.2.2.1 b (show ¬ 1 = 6 by omega)]
      have k2 := k0.1
      have k3 := k0.2
      have k4 := k1.1
      have k5 := k1.2
      rw [if_pos rfl] at k3
      rw [if_neg (by omega)] at k5
      have ad : (D.2.2.1 0 + D.2.2.1 1).toInt = (D.2.2.1 0).toInt + (D.2.2.1 1).toInt := t_add (by omega) (by omega)
      refine ⟨⟨by omega, by rw [if_pos rfl]; omega⟩, ?_⟩
      rw [← (zor_eq s1 s0).1]
      exact (zor_eq s1 s0).2
    · have n0 : ¬ c + 1 = 0 := by omega
      rw [zsh_i (a := 1) (k := 5) _ (by omega) (by omega), zsh_i (a := 1) (k := 5) _ (by omega) (by omega), zup1_ne _ _ n0, zup1_ne _ _ n0, if_neg c0]
      by_cases e : c + 1 = 6
      · rw [e, zup1_at, zup1_at]
        exact ⟨hf, hb⟩
      · rw [zup1_ne _ _ e, zup1_ne _ _ e]
        have k := d2 (c + 1) (by omega)
        rw [if_neg (by omega)] at k
        exact k
theorem zsc_mq (σ : zMem) (s : Nat) (ag : Int32) (m : Nat) (de so : Nat → Int32) (sl : Int32) (v : Nat) : zwi (zsc σ s (ag, m, de, so, sl)) 40 s 1 (nI v) = zsc σ s (ag, v, de, so, sl) := zsc_m σ s (ag, m, de, so, sl) v
theorem zsc_dq (σ : zMem) (s : Nat) (ag : Int32) (m : Nat) (de so : Nat → Int32) (sl : Int32) (c : Nat) (v : Int32) : zwi (zsc σ s (ag, m, de, so, sl)) 41 s c v = zsc σ s (ag, m, zup1 de c v, so, sl) := zsc_d σ s (ag, m, de, so, sl) c v
theorem zsc_sq (σ : zMem) (s : Nat) (ag : Int32) (m : Nat) (de so : Nat → Int32) (sl : Int32) (c : Nat) (v : Int32) : zwi (zsc σ s (ag, m, de, so, sl)) 42 s c v = zsc σ s (ag, m, de, zup1 so c v, sl) := zsc_s σ s (ag, m, de, so, sl) c v
theorem zsr_mq (σ : zMem) (s : Nat) (ag : Int32) (m : Nat) (de so : Nat → Int32) (sl : Int32) (v : Nat) : zwi (zsr σ s (ag, m, de, so, sl)) 95 0 s (nI v) = zsr σ s (ag, v, de, so, sl) := zsr_m σ s (ag, m, de, so, sl) v
theorem zsr_dq (σ : zMem) (s : Nat) (ag : Int32) (m : Nat) (de so : Nat → Int32) (sl : Int32) (c : Nat) (v : Int32) : zwi (zsr σ s (ag, m, de, so, sl)) 97 s c v = zsr σ s (ag, m, zup1 de c v, so, sl) := zsr_d σ s (ag, m, de, so, sl) c v
theorem zsr_sq (σ : zMem) (s : Nat) (ag : Int32) (m : Nat) (de so : Nat → Int32) (sl : Int32) (c : Nat) (v : Int32) : zwi (zsr σ s (ag, m, de, so, sl)) 99 s c v = zsr σ s (ag, m, de, zup1 so c v, sl) := zsr_s σ s (ag, m, de, so, sl) c v
theorem zsc_rmq (σ : zMem) (s : Nat) (ag : Int32) (m : Nat) (de so : Nat → Int32) (sl : Int32)  : (zsc σ s (ag, m, de, so, sl)).1 40 s 1 = nI m := zsc_rm σ s (ag, m, de, so, sl)
theorem zsc_rdq (σ : zMem) (s : Nat) (ag : Int32) (m : Nat) (de so : Nat → Int32) (sl : Int32) (c : Nat) : (zsc σ s (ag, m, de, so, sl)).1 41 s c = de c := zsc_rd σ s (ag, m, de, so, sl) c
theorem zsc_rsq (σ : zMem) (s : Nat) (ag : Int32) (m : Nat) (de so : Nat → Int32) (sl : Int32) (c : Nat) : (zsc σ s (ag, m, de, so, sl)).1 42 s c = so c := zsc_rs σ s (ag, m, de, so, sl) c
theorem zsr_rmq (σ : zMem) (s : Nat) (ag : Int32) (m : Nat) (de so : Nat → Int32) (sl : Int32)  : (zsr σ s (ag, m, de, so, sl)).1 95 0 s = nI m := zsr_rm σ s (ag, m, de, so, sl)
theorem zsr_rdq (σ : zMem) (s : Nat) (ag : Int32) (m : Nat) (de so : Nat → Int32) (sl : Int32) (c : Nat) : (zsr σ s (ag, m, de, so, sl)).1 97 s c = de c := zsr_rd σ s (ag, m, de, so, sl) c
theorem zsr_rsq (σ : zMem) (s : Nat) (ag : Int32) (m : Nat) (de so : Nat → Int32) (sl : Int32) (c : Nat) : (zsr σ s (ag, m, de, so, sl)).1 99 s c = so c := zsr_rs σ s (ag, m, de, so, sl) c
theorem e_addLayer {σ : zMem} {s F : Nat} {D : zSl} {fall b : Int32} (hF : 100 < F) (hs : s < 6) (hm : D.2.1 ≤ 6) (hb : b = 0 ∨ b = 1) (hso : ∀ c, c < D.2.1 → D.2.2.2.1 c = 0 ∨ D.2.2.2.1 c = 1) : f_X6_addLayer F (zsc σ s D) s fall b = some ((), zsc σ s (zaddc fall b D)) := by
  obtain ⟨ag, m, de, so, sl⟩ := D
  have hm : m ≤ 6 := hm
  have hso : ∀ c, c < m → so c = 0 ∨ so c = 1 := hso
  show _ = some ((), zsc σ s (if m < 6 then (ag, m + 1, zup1 de m fall, zup1 so m b, sl) else (ag, 6, zsh 0 (zup1 (zup1 de 6 fall) 1 (zup1 de 6 fall 1 + zup1 de 6 fall 0)) 6, zsh 0 (zup1 (zup1 so 6 b) 1 (zor1 (zup1 so 6 b 1) (zup1 so 6 b 0))) 6, sl)))
  have gs : (decide (s < 6)) = true := by simp; omega
  have i1 := inb_n (show m < 7 by omega) (by omega)
  have i2 := nI_clamp (show m < 2 ^ 31 by omega)
  have zb1 := zbo_01 hb
  unfold f_X6_addLayer
  rw [zg_i gs, zsc_rmq, zg_i i1, i2, zsc_dq, zsc_rmq, i2, zg_i (by rw [zb1, i1]; rfl), zsc_sq, zsc_rmq, nI_1, zsc_mq, zsc_rmq]
  by_cases q : m < 6
  · rw [if_pos (show nI (m + 1) ≤ 6 from (nI_leI (a := m + 1) (b := 6) (by omega) (by omega)).mpr (by omega)), if_pos q]
  · have m6 : m = 6 := by omega
    rw [if_neg (fun k => q (by have := (nI_leI (a := m + 1) (b := 6) (by omega) (by omega)).mp k; omega)), if_neg q]
    subst m6
    unfold f_X6_joinLowest
    rw [zg_i gs, zg_i (by decide), zg_i (by decide), zg_i (by decide), zg_i (by decide), zsc_rdq, zsc_rdq, zsc_dq, zsc_rsq, zsc_rsq]
    have st : ∀ v : Int32, (v = 0 ∨ v = 1) → v = zor1 (zup1 so 6 b 1) (zup1 so 6 b 0) → f_X6_joinLowest_43 F (zsc σ s (ag, 6 + 1, zup1 (zup1 de 6 fall) 1 (zup1 de 6 fall 1 + zup1 de 6 fall 0), zup1 so 6 b, sl)) s v 1 s = some ((), zsc σ s (ag, 6, zsh 0 (zup1 (zup1 de 6 fall) 1 (zup1 de 6 fall 1 + zup1 de 6 fall 0)) 6, zsh 0 (zup1 (zup1 so 6 b) 1 (zor1 (zup1 so 6 b 1) (zup1 so 6 b 0))) 6, sl)) := by
      intro v hv ev
      have t1 : (1 : Int32).toNatClampNeg = 1 := by decide
      have m7 : nI (6 + 1) - 1 = nI 6 := nI_pred 6
      unfold f_X6_joinLowest_43
      rw [zg_i gs, zg_i gs, zg_i (by rw [zbo_01 hv]; rfl), t1, zsc_sq, zsc_rmq, m7, zsc_mq, ← ev]
      -- the soft row holds 0 and 1 alone
      have sob : ∀ c, c < 7 → zup1 (zup1 so 6 b) 1 v c = 0 ∨ zup1 (zup1 so 6 b) 1 v c = 1 := by
        intro c hc
        unfold zup1
        by_cases e1 : c = 1
        · rw [if_pos e1]
          exact hv
        · rw [if_neg e1]
          by_cases e6 : c = 6
          · rw [if_pos e6]
            exact hb
          · rw [if_neg e6]
            exact hso c (by omega)
      refine zit_for (S := fun i => (zsc σ s (ag, 6, zsh 0 (zup1 (zup1 de 6 fall) 1 (zup1 de 6 fall 1 + zup1 de 6 fall 0)) i, zsh 0 (zup1 (zup1 so 6 b) 1 v) i, sl), (s, nI i))) _ 6 0 F (fun j _ hj rec => ?_) (fun rec => ?_) (by omega)
      · have j1 := inb_n (show j < 7 by omega) (by omega)
        have j2 := nI_clamp (show j < 2 ^ 31 by omega)
        have j3 := inb_n (show j + 1 < 7 by omega) (by omega)
        have j4 := nI_clamp (show j + 1 < 2 ^ 31 by omega)
        have sv := sob (j + 1) (by omega)
        have zv : zsh 0 (zup1 (zup1 so 6 b) 1 v) j (j + 1) = zup1 (zup1 so 6 b) 1 v (j + 1) := by
          rw [zsh_v, if_neg (by omega)]
        unfold f_X6_joinLowest_56
        simp only
        rw [zg_i gs, zsc_rmq, if_neg (nle_s (by omega) (by omega)), nI_1, zg_i j3, zg_i j1, zg_i j3, j2, j4, zsc_rdq, zsc_dq, zsc_rsq, zv, zg_i (by rw [zbo_01 sv, j1]; rfl), zsc_sq]
        show rec _ _ = rec (zsc σ s (ag, 6, zup1 _ (0 + j) (zsh 0 _ j (0 + j + 1)), zup1 _ (0 + j) (zsh 0 _ j (0 + j + 1)), sl)) _
        rw [Nat.zero_add, zv]
      · unfold f_X6_joinLowest_56
        simp only
        rw [zg_i gs, zsc_rmq, Nat.zero_add, if_pos (Int32.le_refl _)]
    have e1 : zup1 so 6 b 1 = so 1 := zup1_ne _ _ (by omega)
    have e0 : zup1 so 6 b 0 = so 0 := zup1_ne _ _ (by omega)
    by_cases q1 : zup1 so 6 b 1 = 0
    · rw [if_pos q1, zg_i (by decide)]
      by_cases q0 : zup1 so 6 b 0 = 0
      · rw [if_pos q0, st 0 (Or.inl rfl) (by unfold zor1; rw [if_pos q1, if_pos q0]), zb_s]
      · rw [if_neg q0, st 1 (Or.inr rfl) (by unfold zor1; rw [if_pos q1, if_neg q0]), zb_s]
    · rw [if_neg q1, st 1 (Or.inr rfl) (by unfold zor1; rw [if_neg q1]), zb_s]
theorem e_newLayer {σ : zMem} {s F : Nat} {D : zSl} {fall b : Int32} (hF : 100 < F) (hs : s < 6) (hm : D.2.1 ≤ 6) (hb : b = 0 ∨ b = 1) (hso : ∀ c, c < D.2.1 → D.2.2.2.1 c = 0 ∨ D.2.2.2.1 c = 1) : f_X11_newLayer F (zsr σ s D) (nI s) fall b = some ((), zsr σ s (zaddr fall b D)) := by
  obtain ⟨ag, m, de, so, sl⟩ := D
  have hm : m ≤ 6 := hm
  have hso : ∀ c, c < m → so c = 0 ∨ so c = 1 := hso
  show _ = some ((), zsr σ s (if m < 6 then (ag, m + 1, zup1 de m fall, zup1 so m b, sl) else (ag, 6, zsh 1 (zup1 (zup1 de 6 fall) 0 (zup1 de 6 fall 0 + zup1 de 6 fall 1)) 5, zsh 1 (zup1 (zup1 so 6 b) 0 (zup1 so 6 b 0 ||| zup1 so 6 b 1)) 5, sl)))
  have i1 := inb_n hs (by omega)
  have i2 := nI_clamp (show s < 2 ^ 31 by omega)
  have i3 := inb_n (show m < 8 by omega) (by omega)
  have i4 := nI_clamp (show m < 2 ^ 31 by omega)
  have zb1 := zbo_01 hb
  have t0 : (0 : Int32).toNatClampNeg = 0 := by decide
  have t1 : (1 : Int32).toNatClampNeg = 1 := by decide
  unfold f_X11_newLayer
  rw [zg_i i1, zg_i i1, i2, zsr_rmq, zg_i i3, zg_i i1, zg_i i1, i4, zsr_dq, zsr_rmq, i4, zg_i (by rw [zb1, i3]; rfl), zg_i i1, zg_i i1, zg_i i1, zsr_sq, zsr_rmq, nI_1, zsr_mq, zsr_rmq]
  by_cases q : m < 6
  · rw [if_pos (show nI (m + 1) ≤ 6 from (nI_leI (a := m + 1) (b := 6) (by omega) (by omega)).mpr (by omega)), if_pos q]
  · have m6 : m = 6 := by omega
    rw [if_neg (fun k => q (by have := (nI_leI (a := m + 1) (b := 6) (by omega) (by omega)).mp k; omega)), if_neg q]
    subst m6
    have e1 : zup1 so 6 b 1 = so 1 := zup1_ne _ _ (by omega)
    have e0 : zup1 so 6 b 0 = so 0 := zup1_ne _ _ (by omega)
    have hv : zup1 so 6 b 0 ||| zup1 so 6 b 1 = 0 ∨ zup1 so 6 b 0 ||| zup1 so 6 b 1 = 1 := by
      rw [e0, e1, ← (zor_eq (hso 1 (by omega)) (hso 0 (by omega))).1]
      exact (zor_eq (hso 1 (by omega)) (hso 0 (by omega))).2
    rw [zg_i i1, zg_i (by decide), zg_i i1, zg_i (by decide), zg_i (by decide), zg_i i1, zg_i (by decide), zg_i i1, zg_i (by decide), zsr_rdq, zsr_rdq, zsr_dq, zsr_rsq, zsr_rsq, zg_i (by rw [zbo_01 hv]; rfl), zsr_sq]
    generalize hvv : zup1 so 6 b 0 ||| zup1 so 6 b 1 = v at hv
    have sob : ∀ c, c < 7 → zup1 (zup1 so 6 b) 0 v c = 0 ∨ zup1 (zup1 so 6 b) 0 v c = 1 := by
      intro c hc
      unfold zup1
      by_cases e1 : c = 0
      · rw [if_pos e1]
        exact hv
      · rw [if_neg e1]
        by_cases e6 : c = 6
        · rw [if_pos e6]
          exact hb
        · rw [if_neg e6]
          exact hso c (by omega)
    refine zit_for (S := fun i => (zsr σ s (ag, 6 + 1, zsh 1 (zup1 (zup1 de 6 fall) 0 (zup1 de 6 fall 0 + zup1 de 6 fall 1)) i, zsh 1 (zup1 (zup1 so 6 b) 0 v) i, sl), (nI s, nI (1 + i)))) _ 5 0 F (fun j _ hj rec => ?_) (fun rec => ?_) (by omega)
    · have j1 := inb_n (show 1 + j < 8 by omega) (by omega)
      have j2 := nI_clamp (show 1 + j < 2 ^ 31 by omega)
      have j3 := inb_n (show 1 + j + 1 < 8 by omega) (by omega)
      have j4 := nI_clamp (show 1 + j + 1 < 2 ^ 31 by omega)
      have sv := sob (1 + j + 1) (by omega)
      have zv : zsh 1 (zup1 (zup1 so 6 b) 0 v) j (1 + j + 1) = zup1 (zup1 so 6 b) 0 v (1 + j + 1) := by
        rw [zsh_v, if_neg (by omega)]
      unfold f_X11_newLayer_90
      simp only
      rw [if_neg (nle_l 6 (n := 6) rfl (by omega) (by omega)), zg_i i1, zg_i i1, nI_1, zg_i j3, zg_i j1, zg_i i1, zg_i i1, zg_i j3, i2, j2, j4, zsr_rdq, zsr_dq, zsr_rsq, zv, zg_i (by rw [zbo_01 sv, j1]; rfl), zsr_sq]
      show rec _ _ = rec (zsr σ s (ag, 6 + 1, zup1 _ (1 + j) (zsh 1 _ j (1 + j + 1)), zup1 _ (1 + j) (zsh 1 _ j (1 + j + 1)), sl)) _
      rw [zv]
      rfl
    · unfold f_X11_newLayer_90
      simp only
      rw [if_pos (by decide), zg_i i1, i2, show (6 : Int32) = nI 6 from rfl, zsr_mq]
def zmel (loss : Int32) (D : zSl) : zSl := if D.2.1 = 0 then D else if D.2.2.1 (D.2.1 - 1) ≤ loss then (D.1, D.2.1 - 1, D.2.2.1, D.2.2.2.1, D.2.2.2.2) else (D.1, D.2.1, zup1 D.2.2.1 (D.2.1 - 1) (D.2.2.1 (D.2.1 - 1) - loss), D.2.2.2.1, D.2.2.2.2)
def zmer (loss : Int32) (D : zSl) : zSl := if D.2.1 = 0 then D else if D.2.2.1 (D.2.1 - 1) ≤ loss then (D.1, D.2.1 - 1, zup1 D.2.2.1 (D.2.1 - 1) (D.2.2.1 (D.2.1 - 1) - loss), D.2.2.2.1, D.2.2.2.2) else (D.1, D.2.1, zup1 D.2.2.1 (D.2.1 - 1) (D.2.2.1 (D.2.1 - 1) - loss), D.2.2.2.1, D.2.2.2.2)
theorem zeqD_mel (loss : Int32) {C D : zSl} (h : zeqD C D) : zeqD (zmel loss C) (zmer loss D) := by
  obtain ⟨h1, h2, h3, h4⟩ := h
  unfold zmel zmer
  rw [← h2]
  by_cases q0 : C.2.1 = 0
  · rw [if_pos q0, if_pos q0]
    exact ⟨h1, h2, h3, h4⟩
  · rw [if_neg q0, if_neg q0, ← (h3 (C.2.1 - 1) (by omega)).1]
    by_cases q : C.2.2.1 (C.2.1 - 1) ≤ loss
    · rw [if_pos q, if_pos q]
      refine ⟨h1, rfl, fun c hc => ?_, h4⟩
      have hc : c < C.2.1 - 1 := hc
      show C.2.2.1 c = zup1 D.2.2.1 (C.2.1 - 1) _ c ∧ C.2.2.2.1 c = D.2.2.2.1 c
      rw [zup1_ne _ _ (by omega)]
      exact h3 c (by omega)
    · rw [if_neg q, if_neg q]
      refine ⟨h1, rfl, fun c hc => ?_, h4⟩
      have hc : c < C.2.1 := hc
      show zup1 C.2.2.1 (C.2.1 - 1) _ c = zup1 D.2.2.1 (C.2.1 - 1) _ c ∧ C.2.2.2.1 c = D.2.2.2.1 c
      refine ⟨?_, (h3 c hc).2⟩
      unfold zup1
      split
      · rfl
      · exact (h3 c hc).1
theorem zinD_mel {loss : Int32} (hl : 0 ≤ loss.toInt ∧ loss.toInt ≤ 1000) {B0 : Int} (h9 : B0 ≤ 2000000) {D : zSl} (hD : zinD B0 D) : zinD B0 (zmer loss D) := by
  obtain ⟨d1, d2⟩ := hD
  unfold zmer
  by_cases q0 : D.2.1 = 0
  · rw [if_pos q0]
    exact ⟨d1, d2⟩
  · rw [if_neg q0]
    by_cases q : D.2.2.1 (D.2.1 - 1) ≤ loss
    · rw [if_pos q]
      refine ⟨Nat.le_trans (Nat.sub_le _ _) d1, fun c hc => ?_⟩
      have hc : c < D.2.1 - 1 := hc
      show zib (zup1 D.2.2.1 (D.2.1 - 1) _ c) 0 _ ∧ _
      rw [zup1_ne _ _ (by omega)]
      exact d2 c (by omega)
    · rw [if_neg q]
      refine ⟨d1, fun c hc => ?_⟩
      have hc : c < D.2.1 := hc
      show zib (zup1 D.2.2.1 (D.2.1 - 1) _ c) 0 _ ∧ _
      refine ⟨?_, (d2 c hc).2⟩
      by_cases e : c = D.2.1 - 1
      · have k := (d2 c hc).1
        rw [e, zup1_at]
        rw [e] at k
        have k0 := k.1
        have k1 := k.2
        have q2 := Int32.not_le.mp q
        rw [Int32.lt_iff_toInt_lt] at q2
        have kb : (D.2.2.1 (D.2.1 - 1)).toInt ≤ 2000000 := by
          split at k1 <;> omega
        have sb : (D.2.2.1 (D.2.1 - 1) - loss).toInt = (D.2.2.1 (D.2.1 - 1)).toInt - loss.toInt := t_sub (by omega) (by omega)
        exact ⟨by omega, by omega⟩
      · rw [zup1_ne _ _ e]
        exact (d2 c hc).1
theorem e_melt {σ : zMem} {s F : Nat} {D : zSl} {loss : Int32} (hs : s < 6) (hm : D.2.1 ≤ 6) : f_X6_melt F (zsc σ s D) s loss = some ((), zsc σ s (zmel loss D)) := by
  obtain ⟨ag, m, de, so, sl⟩ := D
  have hm : m ≤ 6 := hm
  show _ = some ((), zsc σ s (if m = 0 then (ag, m, de, so, sl) else if de (m - 1) ≤ loss then (ag, m - 1, de, so, sl) else (ag, m, zup1 de (m - 1) (de (m - 1) - loss), so, sl)))
  unfold f_X6_melt
  rw [zg_i (by simp; omega), zsc_rmq]
  by_cases q0 : m = 0
  · rw [if_pos (by rw [q0]; rfl), if_pos q0]
  · obtain ⟨t, ht⟩ : ∃ t, m = t + 1 := ⟨m - 1, by omega⟩
    subst ht
    rw [if_neg (show ¬ nI (t + 1) = (0 : Int32) from nI_ne0 (by omega) (by omega)), if_neg q0, nI_pred, zg_i (inb_n (by omega) (by omega)), nI_clamp (by omega), zsc_rdq, show t + 1 - 1 = t from rfl]
    by_cases q : de t ≤ loss
    · rw [if_pos q, if_pos q, zsc_mq]
    · rw [if_neg q, if_neg q, zg_i (inb_n (by omega) (by omega)), zg_i (inb_n (by omega) (by omega)), zsc_dq]
