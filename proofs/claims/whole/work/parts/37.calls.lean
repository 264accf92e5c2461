/-- the lowest SOFT layer of m, m if none is: k layers are left to look at -/
def zlf (σ : zMem) (s m : Nat) : Nat → Nat
  | 0 => m
  | k + 1 => if σ.1 99 s (m - (k + 1)) = 0 then zlf σ s m k else m - (k + 1)
theorem zlf_le (σ : zMem) (s m : Nat) : ∀ k, k ≤ m → zlf σ s m k ≤ m
  | 0, _ => Nat.le_refl m
  | k + 1, h => by
    unfold zlf
    split
    · exact zlf_le σ s m k (by omega)
    · omega
/-- how much lies there: k layers are left to add -/
def zly (σ : zMem) (s m : Nat) : Nat → Int32 → Int32
  | 0, c => c
  | k + 1, c => zly σ s m k (c + σ.1 97 s (m - (k + 1)))
theorem zRl_s {σ : zMem} (hl : zRl σ) {s : Nat} (hs : s < 6) : ∃ m, m ≤ 6 ∧ σ.1 40 s 1 = nI m ∧ σ.1 95 0 s = nI m ∧ (∀ i, i < m → σ.1 41 s i = σ.1 97 s i ∧ σ.1 42 s i = σ.1 99 s i) ∧ ∃ j, j ≤ 400 ∧ σ.1 93 0 s = nI j := by
  obtain ⟨h1, h2, h3, h4, h5, h6, m, h7, h8, h9, h10⟩ := hl.2.2.1 s hs
  obtain ⟨j, hj, e⟩ := nI_of2 (M := 400) (n := 400) rfl (Int32.not_lt.mpr h4) h5
  exact ⟨m, h7, h8, h9, fun i hi => ⟨(h10 i hi).1, (h10 i hi).2.1⟩, j, hj, e⟩
theorem nI_suc {a b : Nat} (h : a + 1 = b) : nI a + 1 = nI b := by rw [nI_1, h]
theorem e_X6_lowestSoft {σ : zMem} {F s m : Nat} (hF : 100 < F) (hs : s < 6) (hm : m ≤ 6) (e : σ.1 40 s 1 = nI m) (g : ∀ i, i < m → σ.1 42 s i = σ.1 99 s i) : f_X6_lowestSoft F σ s = some (nI (zlf σ s m m), σ) := by
  have gs : (decide (s < 6)) = true := by simp; omega
  unfold f_X6_lowestSoft
  rw [zg_i gs]
  refine zit_m (fun k t x => t = σ ∧ k ≤ m ∧ x = (s, nI (m - k)) ∧ zlf σ s m k = zlf σ s m m) _ ?_ F m σ _ ⟨rfl, Nat.le_refl m, by rw [Nat.sub_self, nI_0], rfl⟩ (by omega)
  rintro k t x ⟨rfl, hk, rfl, hz⟩
  rw [← hz]
  rcases k with _ | k
  · refine Or.inl fun rec => ?_
    unfold f_X6_lowestSoft_2
    simp only
    rw [zg_i gs, e, Nat.sub_zero, if_pos (Int32.le_refl _)]
    rfl
  · have i1 := inb_n (show m - (k + 1) < 7 by omega) (by omega)
    have i2 := nI_clamp (show m - (k + 1) < 2 ^ 31 by omega)
    have hz2 : zlf t s m (k + 1) = if t.1 99 s (m - (k + 1)) = 0 then zlf t s m k else m - (k + 1) := rfl
    have kk : ∀ rec, f_X6_lowestSoft_2 F rec t (s, nI (m - (k + 1))) = if t.1 99 s (m - (k + 1)) = 0 then rec t (s, nI (m - k)) else some (nI (m - (k + 1)), t) := by
      intro rec
      unfold f_X6_lowestSoft_2
      simp only
      rw [zg_i gs, e, if_neg (nle_s (by omega) (by omega)), zg_i i1, i2, g _ (by omega), nI_suc (show m - (k + 1) + 1 = m - k by omega)]
    rw [hz2]
    by_cases c : t.1 99 s (m - (k + 1)) = 0
    · refine Or.inr ⟨k, t, _, by omega, ⟨rfl, by omega, rfl, ?_⟩, fun rec => by rw [kk, if_pos c]⟩
      rw [if_pos c]
    · exact Or.inl fun rec => by rw [kk, if_neg c, if_neg c]
theorem e_X11_lowestSoft {σ : zMem} {F s m : Nat} (hF : 100 < F) (hs : s < 6) (hm : m ≤ 6) (e : σ.1 95 0 s = nI m) : f_X11_lowestSoft F σ (nI s) = some (if zlf σ s m m = m then -1 else nI (zlf σ s m m), σ) := by
  have gs := inb_n hs (by omega)
  have gs2 := nI_clamp (show s < 2 ^ 31 by omega)
  unfold f_X11_lowestSoft
  refine zit_m (fun k t x => t = σ ∧ k ≤ m ∧ x = (nI s, nI (m - k)) ∧ zlf σ s m k = zlf σ s m m) _ ?_ F m σ _ ⟨rfl, Nat.le_refl m, by rw [Nat.sub_self, nI_0], rfl⟩ (by omega)
  rintro k t x ⟨rfl, hk, rfl, hz⟩
  rw [← hz]
  rcases k with _ | k
  · refine Or.inl fun rec => ?_
    unfold f_X11_lowestSoft_2
    simp only
    rw [zg_i gs, gs2, e, Nat.sub_zero, if_pos (Int32.le_refl _)]
    rw [show zlf t s m 0 = m from rfl, if_pos rfl]
  · have i1 := inb_n (show m - (k + 1) < 8 by omega) (by omega)
    have i2 := nI_clamp (show m - (k + 1) < 2 ^ 31 by omega)
    have hz2 : zlf t s m (k + 1) = if t.1 99 s (m - (k + 1)) = 0 then zlf t s m k else m - (k + 1) := rfl
    have kk : ∀ rec, f_X11_lowestSoft_2 F rec t (nI s, nI (m - (k + 1))) = if t.1 99 s (m - (k + 1)) = 0 then rec t (nI s, nI (m - k)) else some (nI (m - (k + 1)), t) := by
      intro rec
      unfold f_X11_lowestSoft_2
      simp only
      rw [zg_i gs, gs2, e, if_neg (nle_s (by omega) (by omega)), zg_i gs, zg_i i1, i2, nI_suc (show m - (k + 1) + 1 = m - k by omega)]
    by_cases c : t.1 99 s (m - (k + 1)) = 0
    · refine Or.inr ⟨k, t, _, by omega, ⟨rfl, by omega, rfl, ?_⟩, fun rec => by rw [kk, if_pos c]⟩
      rw [hz2, if_pos c]
    · refine Or.inl fun rec => ?_
      rw [kk, if_neg c, hz2, if_neg c, if_neg (by omega)]
theorem e_X6_lyingFrom {σ : zMem} {F s m l : Nat} (hF : 100 < F) (hs : s < 6) (hm : m ≤ 6) (hl : l ≤ 7) (e : σ.1 40 s 1 = nI m) (g : ∀ i, i < m → σ.1 41 s i = σ.1 97 s i) : f_X6_lyingFrom F σ s (nI l) = some (zly σ s m (m - l) 0, σ) := by
  have gs : (decide (s < 6)) = true := by simp; omega
  unfold f_X6_lyingFrom
  rw [zg_i gs]
  by_cases hlm : m ≤ l
  · rw [show m - l = 0 by omega]
    obtain ⟨F, rfl⟩ : ∃ G, F = G + 1 := ⟨F - 1, by omega⟩
    show f_X6_lyingFrom_4 (F + 1) _ σ (s, 0, nI l) = _
    unfold f_X6_lyingFrom_4
    simp only
    rw [zg_i gs, e, if_pos ((nI_leI (by omega) (by omega)).mpr hlm)]
    rfl
  refine zit_m (fun k t x => t = σ ∧ k ≤ m ∧ ∃ c, x = (s, c, nI (m - k)) ∧ zly σ s m k c = zly σ s m (m - l) 0) _ ?_ F (m - l) σ _ ⟨rfl, by omega, 0, by rw [show m - (m - l) = l by omega], rfl⟩ (by omega)
  rintro k t x ⟨rfl, hk, c, rfl, hz⟩
  rw [← hz]
  rcases k with _ | k
  · refine Or.inl fun rec => ?_
    unfold f_X6_lyingFrom_4
    simp only
    rw [zg_i gs, e, Nat.sub_zero, if_pos (Int32.le_refl _)]
    rfl
  · have i1 := inb_n (show m - (k + 1) < 7 by omega) (by omega)
    have i2 := nI_clamp (show m - (k + 1) < 2 ^ 31 by omega)
    refine Or.inr ⟨k, t, (s, c + t.1 97 s (m - (k + 1)), nI (m - k)), by omega, ⟨rfl, by omega, _, rfl, ?_⟩, fun rec => ?_⟩
    · rfl
    · unfold f_X6_lyingFrom_4
      simp only
      rw [zg_i gs, e, if_neg (nle_s (by omega) (by omega)), zg_i i1, i2, g _ (by omega), nI_suc (show m - (k + 1) + 1 = m - k by omega)]
theorem e_X11_over {σ : zMem} {F s m l : Nat} (hF : 100 < F) (hs : s < 6) (hm : m ≤ 6) (hl : l ≤ 7) (e : σ.1 95 0 s = nI m) {p : Int32} (hp : p + 1 = nI l) : f_X11_over F σ (nI s) p = some (zly σ s m (m - l) 0, σ) := by
  have gs := inb_n hs (by omega)
  have gs2 := nI_clamp (show s < 2 ^ 31 by omega)
  unfold f_X11_over
  rw [hp]
  by_cases hlm : m ≤ l
  · rw [show m - l = 0 by omega]
    obtain ⟨F, rfl⟩ : ∃ G, F = G + 1 := ⟨F - 1, by omega⟩
    show f_X11_over_7 (F + 1) _ σ (nI s, 0, nI l) = _
    unfold f_X11_over_7
    simp only
    rw [zg_i gs, gs2, e, if_pos ((nI_leI (by omega) (by omega)).mpr hlm)]
    rfl
  refine zit_m (fun k t x => t = σ ∧ k ≤ m ∧ ∃ c, x = (nI s, c, nI (m - k)) ∧ zly σ s m k c = zly σ s m (m - l) 0) _ ?_ F (m - l) σ _ ⟨rfl, by omega, 0, by rw [show m - (m - l) = l by omega], rfl⟩ (by omega)
  rintro k t x ⟨rfl, hk, c, rfl, hz⟩
  rw [← hz]
  rcases k with _ | k
  · refine Or.inl fun rec => ?_
    unfold f_X11_over_7
    simp only
    rw [zg_i gs, gs2, e, Nat.sub_zero, if_pos (Int32.le_refl _)]
    rfl
  · have i1 := inb_n (show m - (k + 1) < 8 by omega) (by omega)
    have i2 := nI_clamp (show m - (k + 1) < 2 ^ 31 by omega)
    refine Or.inr ⟨k, t, (nI s, c + t.1 97 s (m - (k + 1)), nI (m - k)), by omega, ⟨rfl, by omega, _, rfl, ?_⟩, fun rec => ?_⟩
    · rfl
    · unfold f_X11_over_7
      simp only
      rw [zg_i gs, gs2, e, if_neg (nle_s (by omega) (by omega)), zg_i gs, zg_i i1, i2, nI_suc (show m - (k + 1) + 1 = m - k by omega)]
/-- what a slope with a wood of age a HOLDS -/
def zbea (σ : zMem) (s : Nat) (a : Int32) : Int32 := if σ.1 94 0 s = 0 then 40 + a / 5 + 0 else 40 + a / 5 + 30
theorem zbea_n (σ : zMem) (s : Nat) {j : Nat} (hj : j ≤ 400) : ∃ b, 40 ≤ b ∧ b ≤ 150 ∧ zbea σ s (nI j) = nI b := by
  have d : nI j / 5 = nI (j / 5) := nI_div (a := j) (b := 5) (by omega) (by omega) (by omega)
  unfold zbea
  rw [d]
  have k1 : (40 : Int32) = nI 40 := rfl
  have k2 : (0 : Int32) = nI 0 := rfl
  have k3 : (30 : Int32) = nI 30 := rfl
  split
  · refine ⟨40 + j / 5 + 0, by omega, by omega, ?_⟩
    rw [← nI_add, ← nI_add]
    rfl
  · refine ⟨40 + j / 5 + 30, by omega, by omega, ?_⟩
    rw [← nI_add, ← nI_add]
    rfl
theorem e_X6_bears {σ : zMem} {s : Nat} (hs : s < 6) (g : σ.1 40 s 3 = σ.1 94 0 s) (F : Nat) (a : Int32) : f_X6_bears F σ s a = some (zbea σ s a, σ) := by
  unfold f_X6_bears zbea
  rw [zg_i (by simp; omega), zg_i (by decide), g]
  split <;> rfl
theorem e_X11_holdsOf {σ : zMem} {s : Nat} (hs : s < 6) (F : Nat) (a : Int32) : f_X11_holdsOf F σ (nI s) a = some (zbea σ s a, σ) := by
  unfold f_X11_holdsOf zbea
  rw [zg_i (by decide), zg_i (inb_n hs (by omega)), nI_clamp (by omega)]
  split <;> rfl
/-- RISK with a wood of age a -/
def zri (σ : zMem) (s m : Nat) (a : Int32) : Int32 := zly σ s m (m - (zlf σ s m m + 1)) 0 * 100 / zbea σ s a
theorem zbea_ne (σ : zMem) (s : Nat) {j : Nat} (hj : j ≤ 400) : zni (zbea σ s (nI j)) = true := by
  obtain ⟨b, h1, h2, h3⟩ := zbea_n σ s hj
  rw [h3]
  have := nI_ne0 (n := b) (by omega) (by omega)
  simpa [zni] using this
theorem e_X6_risk {σ : zMem} {F s m j : Nat} (hF : 100 < F) (hs : s < 6) (hm : m ≤ 6) (e : σ.1 40 s 1 = nI m) (g : ∀ i, i < m → σ.1 41 s i = σ.1 97 s i ∧ σ.1 42 s i = σ.1 99 s i) (g3 : σ.1 40 s 3 = σ.1 94 0 s) (hj : j ≤ 400) : f_X6_risk F σ s (nI j) = some (zri σ s m (nI j), σ) := by
  have l := zlf_le σ s m m (Nat.le_refl m)
  unfold f_X6_risk zri
  rw [zg_i (by simp; omega), e_X6_lowestSoft hF hs hm e (fun i hi => (g i hi).2), zb_s, nI_1, e_X6_lyingFrom hF hs hm (by omega) e (fun i hi => (g i hi).1), zb_s, e_X6_bears hs g3, zb_s, zg_i (zbea_ne σ s hj)]
theorem e_X11_riskOf {σ : zMem} {F s m j : Nat} (hF : 100 < F) (hs : s < 6) (hm : m ≤ 6) (e : σ.1 95 0 s = nI m) (hj : j ≤ 400) : f_X11_riskOf F σ (nI s) (nI j) = some (zri σ s m (nI j), σ) := by
  have l := zlf_le σ s m m (Nat.le_refl m)
  unfold f_X11_riskOf zri
  rw [e_X11_lowestSoft hF hs hm e, zb_s]
  by_cases q : zlf σ s m m = m
  · rw [if_pos q, if_neg zm1_nle, q, show m - (m + 1) = 0 by omega]
    show _ = some (0 * 100 / zbea σ s (nI j), σ)
    rw [Int32.zero_mul, Int32.zero_div]
  · rw [if_neg q, if_pos (nI_pos' (by omega)), e_X11_over hF hs hm (l := zlf σ s m m + 1) (by omega) e (nI_1 _), zb_s, e_X11_holdsOf hs, zb_s, zg_i (zbea_ne σ s hj)]
theorem a_slopeOf {σ : zMem} (hR : zRel σ) {F : Nat} (hF : 100 < F) (x y : Int32) : zOK (fun σ => f_X10_slopeOf F σ x y) (fun σ => f_X11_slopeOf F σ x y) σ := by
  have hl := hR.2.2.2.2.2.2.1
  obtain ⟨⟨n, hn, e1⟩, e2, g, -⟩ := id hl
  have e2 := e2.trans e1
  rcases zix (n := n) (by omega) x with ⟨s, hs9, rfl, a1, a2, a3, a4⟩ | ⟨_, a⟩
  · have hs : s < 6 := by omega
    have i1 := inb_n (show s < 6 by omega) (by omega)
    have i2 := nI_clamp (show s < 2 ^ 31 by omega)
    obtain ⟨m, hm, m1, m2, gl, j, hj, ej⟩ := zRl_s hl hs
    obtain ⟨q1, q2, q3, q4, q5, q6, -⟩ := g s hs
    have h10 := e_X7_has e1 F a1 a2
    have h11 := e_X11_isSlope e2 F a1 a3
    by_cases ho : y.toInt < 0 ∨ 6 < y.toInt
    · by_cases y1 : y < 10
      · exact zOK_same hR (-500) (by simp [f_X10_slopeOf, h10, zb, zg, i1, ho, y1]) (by simp [f_X11_slopeOf, h11, zb, ho, y1])
      have y2 : ¬ y - 10 < 0 := by
        rw [Int32.lt_iff_toInt_lt] at y1 ⊢
        have k1 : (10 : Int32).toInt = 10 := rfl
        have k0 : (0 : Int32).toInt = 0 := rfl
        have := Int32.toInt_lt y
        rw [t_sub (by omega) (by omega)]
        omega
      obtain ⟨i, hi, ei⟩ := nI_of y2
      by_cases c : m ≤ i
      · have c1 : nI m ≤ nI i := (nI_leI (by omega) (by omega)).mpr c
        exact zOK_same hR (-500) (by simp [f_X10_slopeOf, h10, zb, zg, i1, i2, ho, y1, ei, m1, c1]) (by simp [f_X11_slopeOf, h11, zb, zg, i1, i2, ho, y1, ei, m2, Int32.not_lt.mpr c1])
      · have c1 : ¬ nI m ≤ nI i := nle_s (by omega) (by omega)
        have i3 := inb_n (show i < 7 by omega) (by omega)
        have i5 := inb_n (show i < 8 by omega) (by omega)
        have i4 := nI_clamp (show i < 2 ^ 31 by omega)
        obtain ⟨l1, l2⟩ := gl i (by omega)
        by_cases q : σ.1 99 s i = 0
        · exact zOK_same hR (σ.1 97 s i) (by simp [f_X10_slopeOf, h10, zb, zg, i1, i2, ho, y1, ei, m1, c1, f_X6_layerOf, hs, i3, i4, l1, l2, q]) (by simp [f_X11_slopeOf, h11, zb, zg, i1, i2, ho, y1, ei, m2, Int32.not_le.mp c1, i4, i5, q])
        · exact zOK_same hR (-(σ.1 97 s i)) (by simp [f_X10_slopeOf, h10, zb, zg, i1, i2, ho, y1, ei, m1, c1, f_X6_layerOf, hs, i3, i4, l1, l2, q]) (by simp [f_X11_slopeOf, h11, zb, zg, i1, i2, ho, y1, ei, m2, Int32.not_le.mp c1, i4, i5, q])
    · obtain ⟨k, hk, rfl⟩ := zlit (m := 6) (by omega) ho
      have ri := e_X6_risk hF hs hm m1 gl q2 hj
      have rj := e_X11_riskOf hF hs hm m2 hj
      have be := e_X6_bears hs q2 F (nI j)
      have bf := e_X11_holdsOf (σ := σ) hs F (nI j)
      have ly := e_X6_lyingFrom (σ := σ) hF hs hm (l := 0) (by omega) m1 (fun i hi => (gl i hi).1)
      have lz := e_X11_over (σ := σ) hF hs hm (l := 0) (by omega) m2 (p := -1) (by decide)
      rw [nI_0] at ly
      have q1 := q1.trans ej
      rcases k with _ | _ | _ | _ | _ | _ | _ | k
      · show zOK (fun σ => f_X10_slopeOf F σ (nI s) 0) (fun σ => f_X11_slopeOf F σ (nI s) 0) σ
        exact zOK_same hR (nI j) (by simp [f_X10_slopeOf, h10, zb, zg, i1, i2, q1, q6, m1, ri, be, ly]) (by simp [f_X11_slopeOf, h11, zb, zg, i1, i2, ej, m2, rj, bf, lz])
      · show zOK (fun σ => f_X10_slopeOf F σ (nI s) 1) (fun σ => f_X11_slopeOf F σ (nI s) 1) σ
        by_cases q : σ.1 94 0 s = 0
        · exact zOK_same hR 0 (by simp [f_X10_slopeOf, h10, zb, zg, i1, i2, q2, q]) (by simp [f_X11_slopeOf, h11, zb, zg, i1, i2, q])
        · exact zOK_same hR 1 (by simp [f_X10_slopeOf, h10, zb, zg, i1, i2, q2, q]) (by simp [f_X11_slopeOf, h11, zb, zg, i1, i2, q])
      · show zOK (fun σ => f_X10_slopeOf F σ (nI s) 2) (fun σ => f_X11_slopeOf F σ (nI s) 2) σ
        exact zOK_same hR (nI m) (by simp [f_X10_slopeOf, h10, zb, zg, i1, i2, q1, q6, m1, ri, be, ly]) (by simp [f_X11_slopeOf, h11, zb, zg, i1, i2, ej, m2, rj, bf, lz])
      · show zOK (fun σ => f_X10_slopeOf F σ (nI s) 3) (fun σ => f_X11_slopeOf F σ (nI s) 3) σ
        exact zOK_same hR (zly σ s m (m - 0) 0) (by simp [f_X10_slopeOf, h10, zb, zg, i1, i2, q1, q6, m1, ri, be, ly]) (by simp [f_X11_slopeOf, h11, zb, zg, i1, i2, ej, m2, rj, bf, lz])
      · show zOK (fun σ => f_X10_slopeOf F σ (nI s) 4) (fun σ => f_X11_slopeOf F σ (nI s) 4) σ
        exact zOK_same hR (zri σ s m (nI j)) (by simp [f_X10_slopeOf, h10, zb, zg, i1, i2, q1, q6, m1, ri, be, ly]) (by simp [f_X11_slopeOf, h11, zb, zg, i1, i2, ej, m2, rj, bf, lz])
      · show zOK (fun σ => f_X10_slopeOf F σ (nI s) 5) (fun σ => f_X11_slopeOf F σ (nI s) 5) σ
        exact zOK_same hR (zbea σ s (nI j)) (by simp [f_X10_slopeOf, h10, zb, zg, i1, i2, q1, q6, m1, ri, be, ly]) (by simp [f_X11_slopeOf, h11, zb, zg, i1, i2, ej, m2, rj, bf, lz])
      · show zOK (fun σ => f_X10_slopeOf F σ (nI s) 6) (fun σ => f_X11_slopeOf F σ (nI s) 6) σ
        exact zOK_same hR (σ.1 100 0 s) (by simp [f_X10_slopeOf, h10, zb, zg, i1, i2, q1, q6, m1, ri, be, ly]) (by simp [f_X11_slopeOf, h11, zb, zg, i1, i2, ej, m2, rj, bf, lz])
      · omega
  · exact zOK_same hR (-500) (by simp only [f_X10_slopeOf]; rw [n_X7_has e1 F a]; simp [zb]) (by simp only [f_X11_slopeOf]; rw [n_X11_isSlope e2 F a]; simp [zb])
theorem e_X10_cowsUpOn0 {σ : zMem} (hR : zRel σ) {F n a : Nat} (hF : 100 < F) (hn : n ≤ 10) (ha : a < 4) (e : σ.1 0 0 1 = nI n) : f_X10_cowsUpOn F σ (nI a) 0 = some (zsum (fun h => σ.1 72 a h) n, σ) := by
  have g5 := hR.1.2.2.2.2.1
  unfold f_X10_cowsUpOn
  refine zit_for (S := fun i => (σ, (nI a, 0, zsum (fun h => σ.1 72 a h) i, nI i))) _ n 0 F (fun j _ hj rec => ?_) (fun rec => ?_) (by omega)
  · unfold f_X10_cowsUpOn_5
    simp only
    have bt : (((0 : Int32) >>> (nI j &&& 31)) &&& 1) = 0 := by
      have hj : j < 10 := by omega
      rcases j with _ | _ | _ | _ | _ | _ | _ | _ | _ | _ | j
      all_goals first | decide | omega
    rw [e, if_neg (nle_s (by omega) (by omega)), if_pos bt, zg_i (inb_n (by omega) (by omega)), zg_i (inb_n ha (by omega)), nI_clamp (by omega), nI_clamp (by omega), nI_1, g5 j a (by omega) ha]
    rfl
  · unfold f_X10_cowsUpOn_5
    simp only
    rw [e, Nat.zero_add, if_pos (Int32.le_refl _)]
theorem e_X11_cowsOn {σ : zMem} {F n a : Nat} (hF : 100 < F) (hn : n ≤ 10) (ha : a < 4) (e : σ.1 60 0 1 = nI n) (eu : σ.1 60 0 11 = 71) : f_X11_cowsOn F σ (nI a) = some (zsum (fun h => σ.1 72 a h) n, σ) := by
  unfold f_X11_cowsOn
  refine zit_for (S := fun i => (σ, (nI a, zsum (fun h => σ.1 72 a h) i, nI i))) _ n 0 F (fun j _ hj rec => ?_) (fun rec => ?_) (by omega)
  · unfold f_X11_cowsOn_4
    simp only
    have t : (71 : Int32).toNatClampNeg = 71 := by decide
    rw [e, if_neg (nle_s (by omega) (by omega)), eu, t, zg_i (by rfl), zg_i (inb_n ha (by omega)), zg_i (inb_n (by omega) (by omega)), nI_clamp (by omega), nI_clamp (by omega), nI_1]
    rfl
  · unfold f_X11_cowsOn_4
    simp only
    rw [e, Nat.zero_add, if_pos (Int32.le_refl _)]
theorem a_alpOf {σ : zMem} (hR : zRel σ) {F : Nat} (hF : 100 < F) (x y : Int32) : zOK (fun σ => f_X10_alpOf F σ x y) (fun σ => f_X11_alpOf F σ x y) σ := by
  obtain ⟨nh, hnh, h1, h2⟩ := zRh_n hR.1
  obtain ⟨-, -, ⟨n, hn, e1, hz⟩, e2, g, eg, es⟩ := id hR.2.2.2.2.1
  have e2 := e2.trans e1
  have eu := hR.1.2.2.2.2.2
  have t1 : (71 : Int32).toNatClampNeg = 71 := by decide
  have t2 : zdU 71 = true := by decide
  have t3 : (89 : Int32).toNatClampNeg = 89 := by decide
  have t4 : zdG 89 = true := by decide
  have t5 : (90 : Int32).toNatClampNeg = 90 := by decide
  have t6 : zdS 90 = true := by decide
  rcases zix (n := n) (by omega) x with ⟨a, ha9, rfl, a1, a2, a3, a4⟩ | ⟨_, a⟩
  · have ha : a < 4 := by omega
    have i1 := inb_n ha (by omega)
    have i2 := nI_clamp (show a < 2 ^ 31 by omega)
    obtain ⟨q1, q2, q3, q4⟩ := g a ha
    have h10 := e_X0_has e1 F a1 a2
    have h11 := e_X11_isAlp e2 F a1 a3
    by_cases ho : y.toInt < 0 ∨ 4 < y.toInt
    · rcases zix (n := nh) (by omega) (y - 5) with ⟨j, hj, ej, b1, b2, b3, b4⟩ | ⟨_, b⟩
      · have ey : y = nI (j + 5) := by
          rw [← nI_add, ← ej]
          show y = y - 5 + 5
          rw [Int32.sub_add_cancel]
        have y4 : ¬ y ≤ 4 := by
          rw [ey]
          exact nle_s (n := j + 5) (i := 4) (by omega) (by omega)
        have y5 : ¬ y < 5 := by
          rw [ey]
          intro q
          have := (nI_ltI (a := j + 5) (b := 5) (by omega) (by omega)).mp q
          omega
        rw [ej] at b1 b2 b3
        have i3 := inb_n (show j < 10 by omega) (by omega)
        have i4 := nI_clamp (show j < 2 ^ 31 by omega)
        have g5 := hR.1.2.2.2.2.1 j a (by omega) ha
        exact zOK_same hR (σ.1 72 a j) (by simp [f_X10_alpOf, h10, zb, zg, ho, y4, ej, e_X10_isHouse h1 F b1 b2, i1, i2, i3, i4, g5]) (by simp [f_X11_alpOf, h11, zb, zg, ho, y5, ej, e_X11_isHouse h2 F b1 b3, i1, i2, i3, i4, eu, t1, t2])
      · have r2 : f_X11_alpOf F σ (nI a) y = some (-5, σ) := by simp [f_X11_alpOf, h11, zb, zg, ho, n_X11_isHouse h2 F b]
        by_cases y4 : y ≤ 4
        · exact zOK_same hR (-5) (by simp [f_X10_alpOf, h10, zb, zg, ho, y4]) r2
        · exact zOK_same hR (-5) (by simp [f_X10_alpOf, h10, zb, zg, ho, y4, n_X10_isHouse h1 F b]) r2
    · obtain ⟨k, hk, rfl⟩ := zlit (m := 4) (by omega) ho
      have cu := e_X10_cowsUpOn0 hR hF hnh ha h1
      have cv := e_X11_cowsOn (σ := σ) hF hnh ha h2 eu
      rcases k with _ | _ | _ | _ | _ | k
      · show zOK (fun σ => f_X10_alpOf F σ (nI a) 0) (fun σ => f_X11_alpOf F σ (nI a) 0) σ
        exact zOK_same hR (σ.1 87 0 a) (by simp [f_X10_alpOf, h10, zb, zg, i1, i2, q1, q2, q3, q4, cu]) (by simp [f_X11_alpOf, h11, zb, zg, i1, i2, eg, es, t3, t4, t5, t6, cv])
      · show zOK (fun σ => f_X10_alpOf F σ (nI a) 1) (fun σ => f_X11_alpOf F σ (nI a) 1) σ
        exact zOK_same hR (σ.1 88 0 a) (by simp [f_X10_alpOf, h10, zb, zg, i1, i2, q1, q2, q3, q4, cu]) (by simp [f_X11_alpOf, h11, zb, zg, i1, i2, eg, es, t3, t4, t5, t6, cv])
      · show zOK (fun σ => f_X10_alpOf F σ (nI a) 2) (fun σ => f_X11_alpOf F σ (nI a) 2) σ
        exact zOK_same hR (σ.1 89 0 a) (by simp [f_X10_alpOf, h10, zb, zg, i1, i2, q1, q2, q3, q4, cu]) (by simp [f_X11_alpOf, h11, zb, zg, i1, i2, eg, es, t3, t4, t5, t6, cv])
      · show zOK (fun σ => f_X10_alpOf F σ (nI a) 3) (fun σ => f_X11_alpOf F σ (nI a) 3) σ
        exact zOK_same hR (σ.1 90 0 a) (by simp [f_X10_alpOf, h10, zb, zg, i1, i2, q1, q2, q3, q4, cu]) (by simp [f_X11_alpOf, h11, zb, zg, i1, i2, eg, es, t3, t4, t5, t6, cv])
      · show zOK (fun σ => f_X10_alpOf F σ (nI a) 4) (fun σ => f_X11_alpOf F σ (nI a) 4) σ
        exact zOK_same hR (zsum (fun h => σ.1 72 a h) nh) (by simp [f_X10_alpOf, h10, zb, zg, i1, i2, q1, q2, q3, q4, cu]) (by simp [f_X11_alpOf, h11, zb, zg, i1, i2, eg, es, t3, t4, t5, t6, cv])
      · omega
  · exact zOK_same hR (-5) (by simp only [f_X10_alpOf]; rw [n_X0_has e1 F a]; simp [zb]) (by simp only [f_X11_alpOf]; rw [n_X11_isAlp e2 F a]; simp [zb])
