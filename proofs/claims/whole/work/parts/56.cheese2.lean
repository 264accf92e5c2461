theorem zkw1 {r : Int} (h : -100000 ≤ r) : -100000 ≤ r + 10000 := by omega
theorem zkw2 {v : Int} (h : ¬ v ≤ 0) : 0 ≤ v - 1 := by omega
theorem zkw3 {a b : Int} {w : Nat} (h : (w : Int) < a) : (a - b + (b - 1) - w).toNat < (a - w).toNat := by omega
theorem zkw4 {a b g : Int} (h : g = a) : g - 1 = a - b + (b - 1) := by omega
theorem zkw5 {a b : Int} {w : Nat} (h : (w : Int) < a) : (w : Int) ≤ a - b + (b - 1) := by omega
theorem zkw6 {a b : Int} (h : a ≤ 200000) : a - b + (b - 1) ≤ 200000 := by omega
theorem zkw7 {r R n N cc : Int} (h : R + 10000 * N = cc) : R - r + (r + 10000) + 10000 * (N - n + (n - 1)) = cc := by omega
theorem zkw8 {r : Int} (h : -72000 ≤ r) : -100000 ≤ r - 10000 := by omega
theorem zkw9 {v : Int} (h : 0 ≤ v) : 0 ≤ v + 1 := by omega
theorem zkw10 {R N cc : Int} {w : Nat} (h : R + 10000 * N = cc) (h1 : cc ≤ 10000 * (w : Int)) (h2 : (w : Int) ≤ N) : R ≤ 0 := by omega
theorem zkw11 {r R : Int} {n : Nat} (h : r ≤ R + 100000 * (n : Int)) (h1 : R ≤ 0) (h2 : n ≤ 10) : r ≤ 1000000 := by omega
theorem zkw12 {x : Int32} (h : -100000 ≤ x.toInt) (h1 : x.toInt ≤ 1000000) : (x + 10000).toInt = x.toInt + 10000 := by
  have m2 : (10000 : Int32).toInt = 10000 := by decide
  rw [t_add (by omega) (by omega), m2]
theorem zkw13 {x : Int32} (h : ¬ x.toInt ≤ 0) : (x + -1).toInt = x.toInt - 1 := by
  have m1 : (-1 : Int32).toInt = -1 := by decide
  have := Int32.toInt_lt x
  rw [t_add (by omega) (by omega), m1]
  rfl
theorem zkw14 {x : Int32} (h : -72000 ≤ x.toInt) : (x + -10000).toInt = x.toInt - 10000 := by
  have m1 : (-10000 : Int32).toInt = -10000 := by decide
  have := Int32.toInt_lt x
  rw [t_add (by omega) (by omega), m1]
  rfl
theorem zkw15 {x : Int32} (h : 0 ≤ x.toInt) (h1 : x.toInt ≤ 200000) : (x + 1).toInt = x.toInt + 1 := by
  have m1 : (1 : Int32).toInt = 1 := by decide
  rw [t_add (by omega) (by omega), m1]
theorem zkw16 {R r N cc md : Int} {w : Nat} (h : R ≤ r) (h1 : R + 10000 * N = cc) (h2 : 10000 * (w : Int) + -10 * (md + 1) ≤ cc) (h3 : md ≤ 7199) (h4 : N < w) : -72000 ≤ r := by omega
theorem zkw17 {r : Int} (h : ¬ -72000 ≤ r) : r < 0 := by omega
theorem zkw18 {a b : Int} {w : Nat} (h : a < w) : ((w : Int) - (a - b + (b + 1))).toNat < ((w : Int) - a).toNat := by omega
theorem zkw19 {a b g : Int} (h : g = a) : g + 1 = a - b + (b + 1) := by omega
theorem zkw20 {a b : Int} {w : Nat} (h : a < w) (h1 : w ≤ 9999) : a - b + (b + 1) ≤ 200000 := by omega
theorem zkw21 {r R n N cc : Int} (h : R + 10000 * N = cc) : R - r + (r - 10000) + 10000 * (N - n + (n + 1)) = cc := by omega
theorem zkw22 {a : Int} {w : Nat} (h : a < w) : a + 1 ≤ w := by omega
theorem zkw23 {a : Int} {w : Nat} (h : (w : Int) < a) : 0 < a := by omega
theorem zkw24 {a : Int} {w : Nat} (h : (w : Int) < a) : ¬ a ≤ 0 := by omega
theorem zkw25 {R N cc md : Int} {w : Nat} (h1 : R + 10000 * N = cc) (h0 : cc ≤ 10000 * (w : Int)) (h2 : 10000 * (w : Int) + -10 * (md + 1) ≤ cc) (h4 : N = w) : R ≤ 0 ∧ -10 * (md + 1) ≤ R := by omega
theorem zkw26 {N : Int} {w : Nat} (h : N ≤ 200000) (h1 : (w : Int) ≤ N) : (N - w).toNat < 300000 := by omega
theorem zkw27 {N : Int} {w : Nat} (h : 0 ≤ N) (h1 : w ≤ 9999) : ((w : Int) - N).toNat < 300000 := by omega
theorem zkA_n {σ τ : zMem} {n : Nat} (h : zkA σ n τ) : τ.1 0 0 1 = σ.1 0 0 1 ∧ τ.1 60 0 1 = σ.1 60 0 1 := ⟨h.2 _ _ _ (by omega), h.2 _ _ _ (by omega)⟩
theorem zks_6 (σ τ : zMem) (b : Nat) (r v : Int32) : ∀ k i j, 60 ≤ k → (zks σ τ b r v).1 k i j = τ.1 k i j := fun k i j hk => zks_o _ _ _ _ (by omega)
theorem zkd6 : 60 ≤ 60 ∧ 60 ≤ 66 ∧ 60 ≤ 112 := by decide
theorem zku_t (τ s : zMem) (b : Nat) (r v : Int32) (h1 : s.1 112 0 b = τ.1 112 0 b) (h2 : s.1 66 0 b = τ.1 66 0 b) (x y : Int32) (hx : τ.1 112 0 b + x = v) (hy : τ.1 66 0 b + y = r) : zwi (zwi s 112 0 b (s.1 112 0 b + x)) 66 0 b ((zwi s 112 0 b (s.1 112 0 b + x)).1 66 0 b + y) = zku s b r v := by
  unfold zku
  rw [zwi_r (by omega), h1, h2, hx, hy]
theorem zks_t {σ τ : zMem} (F : Nat) {n b : Nat} (hD : zkD σ n τ) (hb : b < n) (hn : n ≤ 10) (a e : Int32) (he : a * 10000 = -e) : f_X2_takeWheels F τ b a = some ((), zks σ τ b (τ.1 66 0 b + e) (τ.1 112 0 b + a)) := by
  obtain ⟨d9, d8, d7, -, -⟩ := hD b hb
  rw [e_take F τ (by omega), d9, d8, d7, he, Int32.sub_neg, Int32.add_assoc]
  rfl
theorem zkw28 : (-1 : Int32) * 10000 = -10000 := by decide
theorem zkw29 : (1 : Int32) * 10000 = -(-10000) := by decide
theorem j_D {σ : zMem} (hR : zRel σ) {n w F : Nat} {cc : Int} (hF : 300000 < F) (hn : n ≤ 10) (hw : w ≤ 9999) (e1 : σ.1 0 0 1 = nI n) (hc0 : cc ≤ 10000 * (w : Int)) (hc1 : 10000 * (w : Int) + -10 * ((σ.1 60 0 43).toInt + 1) ≤ cc) : ∀ {τ : zMem} {g g' : Int32}, zkA σ n τ → zkD σ n τ → g.toInt = zkN τ n → (g' = g ∨ g'.toInt ≤ w ∧ g.toInt = w) → (w : Int) ≤ zkN τ n → zkN τ n ≤ 200000 → zkR τ n + 10000 * zkN τ n = cc → zJ (fun r s t => r = s ∧ zRel t) (fun s => zit (f_X10_cheese_116 F) F s (nI w, g')) (fun s => zit (f_X11_cheese_205 F) F s (nI w, g)) τ := by
  have hF1 : 100 < F := by omega
  have e2 : σ.1 60 0 1 = nI n := hR.1.2.1.trans e1
  have wI := nI_toInt (show w < 2 ^ 31 by omega)
  intro τ g g' hA hD hg hg' hw1 hN2 hC
  refine zlock (0 : Int32) (0 : Int32) (fun τ r r2 h s y => x_X10_cheese_116 τ F r r2 s y h) (fun τ r r2 h s y => y_X11_cheese_205 τ F r r2 s y h)
    (fun m τ x y => ∃ g g', m = (zkN τ n - w).toNat ∧ x = (nI w, g') ∧ y = (nI w, g) ∧ zkA σ n τ ∧ zkD σ n τ ∧ g.toInt = zkN τ n ∧ (g' = g ∨ g'.toInt ≤ w ∧ g.toInt = w) ∧ (w : Int) ≤ zkN τ n ∧ zkN τ n ≤ 200000 ∧ zkR τ n + 10000 * zkN τ n = cc) _ ?_ F (zkN τ n - w).toNat τ _ _ (Nat.lt_trans (zkw26 hN2 hw1) hF) ⟨g, g', rfl, rfl, rfl, hA, hD, hg, hg', hw1, hN2, hC⟩
  clear hA hD hg hg' hw1 hN2 hC τ g g'
  rintro m τ x y ⟨g, g', rfl, rfl, rfl, hA, hD, hg, hg', hw1, hN2, hC⟩
  by_cases q : g ≤ nI w
  · have q1 := Int32.le_iff_toInt_le.mp q
    rw [wI] at q1
    have q' : g' ≤ nI w := by
      rcases hg' with rfl | ⟨p, _⟩
      · exact q
      · rw [Int32.le_iff_toInt_le, wI]
        exact p
    have hNw : zkN τ n = w := Int.le_antisymm (hg ▸ q1) hw1
    obtain ⟨z1, z2⟩ := zkw25 hC hc0 hc1 hNw
    obtain ⟨r, s, σ1, σ2, h1, h2, h3⟩ := j_E hR (F := F) hF1 hn hw e1 hA hD hNw z1 z2
    have h1 : zit (f_X10_cheese_153 F) F τ (nI w, 0) = some (r, σ1) := h1
    have h2 : zit (f_X11_cheese_251 F) F σ1 (nI w, 0) = some (s, σ2) := h2
    refine Or.inl ⟨r, s, σ1, σ2, fun rec => ?_, fun rec => ?_, h3⟩
    · unfold f_X10_cheese_116
      simp only
      rw [if_pos q', h1]
    · unfold f_X11_cheese_205
      simp only
      rw [if_pos q, h2]
  · have q1 : (w : Int) < g.toInt := Int.not_le.mp fun p => q (by rw [Int32.le_iff_toInt_le, wI]; exact p)
    have hgg : g' = g := by
      rcases hg' with p | ⟨_, p⟩
      · exact p
      · exact absurd p (Int.ne_of_gt q1)
    subst hgg
    have q2 : (w : Int) < zkN τ n := hg ▸ q1
    obtain ⟨k0, hk0, hk1⟩ := k_pos (f := fun i => (τ.1 112 0 i).toInt) (n := n) (zkw23 q2)
    obtain ⟨b1, b2⟩ := zkL_b (fun i => τ.1 66 0 i) (fun i => τ.1 112 0 i) n
    have l1 := e_least (τ := τ) (n := n) (F := F) (R := fun i => τ.1 66 0 i) (N := fun i => τ.1 112 0 i) hF1 hn ((zkA_n hA).1.trans e1) (fun i hi => (hD i hi).1) (fun i hi => (hD i hi).2.1)
    have l2 : ∀ s : zMem, (∀ k i j, 60 ≤ k → s.1 k i j = τ.1 k i j) → f_X11_next F s 0 = some (zkO (zkL (fun i => τ.1 66 0 i) (fun i => τ.1 112 0 i) n), s) := fun s hs => e_leastR (R := fun i => τ.1 66 0 i) (N := fun i => τ.1 112 0 i) hF1 hn ((hs _ _ _ zkd6.1).trans ((zkA_n hA).2.trans e2)) (fun i hi => hs _ _ _ zkd6.2.1) (fun i hi => ⟨hs _ _ _ zkd6.2.2, (hD i hi).2.2.2.2⟩)
    cases hz : zkL (fun i => τ.1 66 0 i) (fun i => τ.1 112 0 i) n with
    | none =>
      have := Int32.le_iff_toInt_le.mp (b2 hz k0 hk0)
      exact absurd hk1 (Int.not_lt.mpr this)
    | some b =>
      rw [hz] at l1 l2
      obtain ⟨hb, hNb⟩ := b1 b hz
      have hNb : ¬ τ.1 112 0 b ≤ 0 := hNb
      rw [Int32.le_iff_toInt_le, Int32.toInt_zero] at hNb
      have hb10 : b < 10 := Nat.lt_of_lt_of_le hb hn
      have i1 := inb_n hb10 (show 10 < 100000 by decide)
      have i2 := nI_clamp (n := b) (Nat.lt_trans hb10 (by decide))
      have i3 := nI_pos (n := b) (Nat.lt_trans hb10 (by decide))
      have dr := (hD b hb).2.2.2.1
      have ub : (τ.1 66 0 b).toInt ≤ zkR τ n + 100000 * (n : Int) := (k_up (f := fun i => (τ.1 66 0 i).toInt) (n := n) fun i hi => (hD i hi).2.2.2.1).2 b hb
      have ub := zkw11 ub (zkw10 hC hc0 hw1) hn
      have vr := zkw12 dr ub
      have vv := zkw13 hNb
      have vg := zkw13 (zkw24 q1)
      obtain ⟨u1, u2⟩ := k_st hA hD (Nat.le_refl n) hb (fun i hi _ => hi) (r := τ.1 66 0 b + 10000) (v := τ.1 112 0 b + -1) (by rw [vr]; exact zkw1 dr) (by rw [vv]; exact zkw2 hNb)
      obtain ⟨s1, s2⟩ := k_sums σ τ hb (τ.1 66 0 b + 10000) (τ.1 112 0 b + -1)
      rw [vr] at s1
      rw [vv] at s2
      have o := zks_6 σ τ b (τ.1 66 0 b + 10000) (τ.1 112 0 b + -1)
      refine Or.inr ⟨_, (nI w, g' + -1), (nI w, g' + -1), zks σ τ b (τ.1 66 0 b + 10000) (τ.1 112 0 b + -1), zku (zks σ τ b (τ.1 66 0 b + 10000) (τ.1 112 0 b + -1)) b (τ.1 66 0 b + 10000) (τ.1 112 0 b + -1), ?_, fun rec => ?_, fun rec => ?_, g' + -1, g' + -1, rfl, rfl, rfl, u1, u2, ?_, Or.inl rfl, ?_, ?_, ?_⟩
      · rw [s2]
        exact zkw3 q2
      · unfold f_X10_cheese_116
        simp only
        rw [if_neg q, l1, zb_s, show zkO (some b) = nI b from rfl, if_neg i3, zg_i i1, i2, zks_t F hD hb hn _ _ zkw28, zb_s]
      · unfold f_X11_cheese_205
        simp only
        rw [if_neg q, l2 _ o, zb_s, show zkO (some b) = nI b from rfl, zg_i i1, zg_i i1, zg_i i1, zg_i i1, i2, Int32.sub_eq_add_neg, zku_t τ _ b (τ.1 66 0 b + 10000) (τ.1 112 0 b + -1) (o _ _ _ zkd6.2.2) (o _ _ _ zkd6.2.1) _ _ rfl rfl]
      · rw [s2, vg]
        exact zkw4 hg
      · rw [s2]
        exact zkw5 q2
      · rw [s2]
        exact zkw6 hN2
      · rw [s1, s2]
        exact zkw7 hC
theorem j_C {σ : zMem} (hR : zRel σ) {n w F : Nat} {cc : Int} (hF : 300000 < F) (hn : n ≤ 10) (hn1 : 1 ≤ n) (hw : w ≤ 9999) (e1 : σ.1 0 0 1 = nI n) (hc0 : cc ≤ 10000 * (w : Int)) (hc1 : 10000 * (w : Int) + -10 * ((σ.1 60 0 43).toInt + 1) ≤ cc) (hmd : (σ.1 60 0 43).toInt ≤ 7199) : ∀ {τ : zMem} {g : Int32}, zkA σ n τ → zkD σ n τ → g.toInt = zkN τ n → zkN τ n ≤ 200000 → zkR τ n + 10000 * zkN τ n = cc → zJ (fun r s t => r = s ∧ zRel t) (fun s => zit (f_X10_cheese_88 F) F s (nI w, g, g)) (fun s => zit (f_X11_cheese_162 F) F s (nI w, g)) τ := by
  have hF1 : 100 < F := by omega
  have e2 : σ.1 60 0 1 = nI n := hR.1.2.1.trans e1
  have wI := nI_toInt (show w < 2 ^ 31 by omega)
  have nn : ∀ {τ : zMem}, zkD σ n τ → 0 ≤ zkN τ n := fun {τ} h => zsz_0 fun i hi => (h i hi).2.2.2.2
  intro τ g hA hD hg hN2 hC
  refine zlock (0 : Int32) (0 : Int32) (fun τ r r2 h s y => x_X10_cheese_88 τ F r r2 s y h) (fun τ r r2 h s y => y_X11_cheese_162 τ F r r2 s y h)
    (fun m τ x y => ∃ g g0, m = ((w : Int) - zkN τ n).toNat ∧ x = (nI w, g0, g) ∧ y = (nI w, g) ∧ zkA σ n τ ∧ zkD σ n τ ∧ g.toInt = zkN τ n ∧ (g0 = g ∨ g0.toInt ≤ w ∧ g.toInt ≤ w) ∧ zkN τ n ≤ 200000 ∧ zkR τ n + 10000 * zkN τ n = cc) _ ?_ F ((w : Int) - zkN τ n).toNat τ _ _ (Nat.lt_trans (zkw27 (nn hD) hw) hF) ⟨g, g, rfl, rfl, rfl, hA, hD, hg, Or.inl rfl, hN2, hC⟩
  clear hA hD hg hN2 hC τ g
  rintro m τ x y ⟨g, g0, rfl, rfl, rfl, hA, hD, hg, hg0, hN2, hC⟩
  by_cases q : nI w ≤ g
  · have q1 := Int32.le_iff_toInt_le.mp q
    rw [wI] at q1
    obtain ⟨r, s, σ1, σ2, h1, h2, h3⟩ := j_D hR hF hn hw e1 hc0 hc1 hA hD hg (g' := g0) (by
      rcases hg0 with p | ⟨p, p2⟩
      · exact Or.inl p
      · exact Or.inr ⟨p, Int.le_antisymm p2 q1⟩) (hg ▸ q1) hN2 hC
    have h1 : zit (f_X10_cheese_116 F) F τ (nI w, g0) = some (r, σ1) := h1
    have h2 : zit (f_X11_cheese_205 F) F σ1 (nI w, g) = some (s, σ2) := h2
    refine Or.inl ⟨r, s, σ1, σ2, fun rec => ?_, fun rec => ?_, h3⟩
    · unfold f_X10_cheese_88
      simp only
      rw [if_pos q, h1]
    · unfold f_X11_cheese_162
      simp only
      rw [if_pos q, h2]
  · have q1 : g.toInt < (w : Int) := Int.not_le.mp fun p => q (by rw [Int32.le_iff_toInt_le, wI]; exact p)
    have q2 : zkN τ n < (w : Int) := hg ▸ q1
    have n0 := nn hD
    obtain ⟨b, hbe⟩ : ∃ b, b = zkM (fun i => τ.1 66 0 i) (n - 1) := ⟨_, rfl⟩
    obtain ⟨b1, b2⟩ := zkM_b (fun i => τ.1 66 0 i) (n - 1)
    rw [← hbe] at b1 b2
    have hb : b < n := Nat.lt_of_le_of_lt b1 (Nat.sub_lt hn1 Nat.one_pos)
    have l1 := e_most (τ := τ) (n := n) (F := F) (R := fun i => τ.1 66 0 i) hF1 hn hn1 ((zkA_n hA).1.trans e1) (fun i hi => (hD i hi).1)
    have l2 : ∀ s : zMem, (∀ k i j, 60 ≤ k → s.1 k i j = τ.1 k i j) → f_X11_next F s 1 = some (nI (zkM (fun i => τ.1 66 0 i) (n - 1)), s) := fun s hs => e_mostR (R := fun i => τ.1 66 0 i) hF1 hn hn1 ((hs _ _ _ zkd6.1).trans ((zkA_n hA).2.trans e2)) (fun i hi => hs _ _ _ zkd6.2.1)
    rw [← hbe] at l1 l2
    have hb10 : b < 10 := Nat.lt_of_lt_of_le hb hn
    have i1 := inb_n hb10 (show 10 < 100000 by decide)
    have i2 := nI_clamp (n := b) (Nat.lt_trans hb10 (by decide))
    obtain ⟨-, -, -, dr, dn⟩ := hD b hb
    have lb : -72000 ≤ (τ.1 66 0 b).toInt := by
      by_cases p : -72000 ≤ (τ.1 66 0 b).toInt
      · exact p
      · have z : zkR τ n ≤ (τ.1 66 0 b).toInt := k_dn (f := fun i => (τ.1 66 0 i).toInt) (M := (τ.1 66 0 b).toInt) (zkw17 p) hn1 fun i hi => Int32.le_iff_toInt_le.mp (b2 i (Nat.le_sub_one_of_lt hi))
        exact zkw16 z hC hc1 hmd q2
    have Nb : (τ.1 112 0 b).toInt ≤ zkN τ n := zsz_mem (f := fun i => (τ.1 112 0 i).toInt) (n := n) (fun i hi => (hD i hi).2.2.2.2) b hb
    have vr := zkw14 lb
    have vv := zkw15 dn (Int.le_trans Nb hN2)
    have vg := zkw15 (x := g) (by rw [hg]; exact n0) (by rw [hg]; exact hN2)
    obtain ⟨u1, u2⟩ := k_st hA hD (Nat.le_refl n) hb (fun i hi _ => hi) (r := τ.1 66 0 b + -10000) (v := τ.1 112 0 b + 1) (by rw [vr]; exact zkw8 lb) (by rw [vv]; exact zkw9 dn)
    obtain ⟨s1, s2⟩ := k_sums σ τ hb (τ.1 66 0 b + -10000) (τ.1 112 0 b + 1)
    rw [vr] at s1
    rw [vv] at s2
    have o := zks_6 σ τ b (τ.1 66 0 b + -10000) (τ.1 112 0 b + 1)
    refine Or.inr ⟨_, (nI w, g0, g + 1), (nI w, g + 1), zks σ τ b (τ.1 66 0 b + -10000) (τ.1 112 0 b + 1), zku (zks σ τ b (τ.1 66 0 b + -10000) (τ.1 112 0 b + 1)) b (τ.1 66 0 b + -10000) (τ.1 112 0 b + 1), ?_, fun rec => ?_, fun rec => ?_, g + 1, g0, rfl, rfl, rfl, u1, u2, ?_, ?_, ?_, ?_⟩
    · rw [s2]
      exact zkw18 q2
    · unfold f_X10_cheese_88
      simp only
      rw [if_neg q, l1, zb_s, zg_i i1, i2, zks_t F hD hb hn _ _ zkw29, zb_s]
    · unfold f_X11_cheese_162
      simp only
      rw [if_neg q, l2 _ o, zb_s, zg_i i1, zg_i i1, zg_i i1, zg_i i1, i2, Int32.sub_eq_add_neg, zku_t τ _ b (τ.1 66 0 b + -10000) (τ.1 112 0 b + 1) (o _ _ _ zkd6.2.2) (o _ _ _ zkd6.2.1) _ _ rfl rfl]
    · rw [s2, vg]
      exact zkw19 hg
    · rcases hg0 with p | ⟨p, p2⟩
      · subst p
        exact Or.inr ⟨Int.le_of_lt q1, by rw [vg]; exact zkw22 q1⟩
      · exact Or.inr ⟨p, by rw [vg]; exact zkw22 q1⟩
    · rw [s2]
      exact zkw20 q2 hw
    · rw [s1, s2]
      exact zkw21 hC
