/-! a day lived: the slopes -/
def zlg (so : Nat → Int32) (m : Nat) : Nat → Nat
  | 0 => m
  | k + 1 => if so (m - (k + 1)) = 0 then zlg so m k else m - (k + 1)
theorem zlg_le (so : Nat → Int32) (m : Nat) : ∀ k, k ≤ m → zlg so m k ≤ m
  | 0, _ => Nat.le_refl m
  | k + 1, h => by
    unfold zlg
    split
    · exact zlg_le so m k (by omega)
    · omega
theorem zlg_c {so sp : Nat → Int32} {m : Nat} (h : ∀ i, i < m → so i = sp i) : ∀ k, k ≤ m → zlg so m k = zlg sp m k
  | 0, _ => rfl
  | k + 1, hk => by
    unfold zlg
    rw [h _ (by omega), zlg_c h k (by omega)]
def zlz (de : Nat → Int32) (m : Nat) : Nat → Int32 → Int32
  | 0, c => c
  | k + 1, c => zlz de m k (c + de (m - (k + 1)))
theorem zlz_c {so sp : Nat → Int32} {m : Nat} (h : ∀ i, i < m → so i = sp i) : ∀ k c, k ≤ m → zlz so m k c = zlz sp m k c
  | 0, _, _ => rfl
  | k + 1, c, hk => by
    unfold zlz
    rw [h _ (by omega), zlz_c h k _ (by omega)]
theorem e_low_c {σ : zMem} {so : Nat → Int32} {F s m : Nat} (hF : 100 < F) (hs : s < 6) (hm : m ≤ 6) (e : σ.1 40 s 1 = nI m) (g : ∀ i, i < m → σ.1 42 s i = so i) : f_X6_lowestSoft F σ s = some (nI (zlg so m m), σ) := by
  have gs : (decide (s < 6)) = true := by simp; omega
  unfold f_X6_lowestSoft
  rw [zg_i gs]
  refine zit_m (fun k t x => t = σ ∧ k ≤ m ∧ x = (s, nI (m - k)) ∧ zlg so m k = zlg so m m) _ ?_ F m σ _ ⟨rfl, Nat.le_refl m, by rw [Nat.sub_self, nI_0], rfl⟩ (by omega)
  rintro k t x ⟨rfl, hk, rfl, hz⟩
  rw [← hz]
  rcases k with _ | k
  · refine Or.inl fun rec => ?_
    unfold f_X6_lowestSoft_2
    simp only
    rw [zg_i gs, e, Nat.sub_zero, if_pos (Int32.le_refl _)]
    rfl
  · have i1 := inb_n (show m - (k + 1) < 7 by omega) (by omega)
    have i2 := nI_clamp (show m - (k + 1) < 2 ^ 31 by omega)
    have hz2 : zlg so m (k + 1) = if so (m - (k + 1)) = 0 then zlg so m k else m - (k + 1) := rfl
    have kk : ∀ rec, f_X6_lowestSoft_2 F rec t (s, nI (m - (k + 1))) = if so (m - (k + 1)) = 0 then rec t (s, nI (m - k)) else some (nI (m - (k + 1)), t) := by
      intro rec
      unfold f_X6_lowestSoft_2
      simp only
      rw [zg_i gs, e, if_neg (nle_s (by omega) (by omega)), zg_i i1, i2, g _ (by omega), nI_suc (show m - (k + 1) + 1 = m - k by omega)]
    rw [hz2]
    by_cases c : so (m - (k + 1)) = 0
    · refine Or.inr ⟨k, t, _, by omega, ⟨rfl, by omega, rfl, ?_⟩, fun rec => by rw [kk, if_pos c]⟩
      rw [if_pos c]
    · exact Or.inl fun rec => by rw [kk, if_neg c, if_neg c]
theorem e_lie_c {σ : zMem} {de : Nat → Int32} {F s m l : Nat} (hF : 100 < F) (hs : s < 6) (hm : m ≤ 6) (hl : l ≤ 7) (e : σ.1 40 s 1 = nI m) (g : ∀ i, i < m → σ.1 41 s i = de i) : f_X6_lyingFrom F σ s (nI l) = some (zlz de m (m - l) 0, σ) := by
  have gs : (decide (s < 6)) = true := by simp; omega
  unfold f_X6_lyingFrom
  rw [zg_i gs]
  by_cases hlm : m ≤ l
  · rw [show m - l = 0 by omega]
    obtain ⟨F, rfl⟩ : ∃ G, F = G + 1 := ⟨F - 1, by omega⟩
    show f_X6_lyingFrom_4 (F + 1) _ σ (s, 0, nI l) = _
    unfold f_X6_lyingFrom_4
    simp only
    rw [zg_i gs, e, if_pos ((nI_leI (by omega) (by omega)).mpr hlm)]
    rfl
  refine zit_m (fun k t x => t = σ ∧ k ≤ m ∧ ∃ c, x = (s, c, nI (m - k)) ∧ zlz de m k c = zlz de m (m - l) 0) _ ?_ F (m - l) σ _ ⟨rfl, by omega, 0, by rw [show m - (m - l) = l by omega], rfl⟩ (by omega)
  rintro k t x ⟨rfl, hk, c, rfl, hz⟩
  rw [← hz]
  rcases k with _ | k
  · refine Or.inl fun rec => ?_
    unfold f_X6_lyingFrom_4
    simp only
    rw [zg_i gs, e, Nat.sub_zero, if_pos (Int32.le_refl _)]
    rfl
  · have i1 := inb_n (show m - (k + 1) < 7 by omega) (by omega)
    have i2 := nI_clamp (show m - (k + 1) < 2 ^ 31 by omega)
    refine Or.inr ⟨k, t, (s, c + de (m - (k + 1)), nI (m - k)), by omega, ⟨rfl, by omega, _, rfl, ?_⟩, fun rec => ?_⟩
    · rfl
    · unfold f_X6_lyingFrom_4
      simp only
      rw [zg_i gs, e, if_neg (nle_s (by omega) (by omega)), zg_i i1, i2, g _ (by omega), nI_suc (show m - (k + 1) + 1 = m - k by omega)]
theorem zlf_g (σ : zMem) (s m : Nat) : ∀ k, zlf σ s m k = zlg (fun i => σ.1 99 s i) m k
  | 0 => rfl
  | k + 1 => by
    unfold zlf zlg
    rw [zlf_g σ s m k]
theorem zly_z (σ : zMem) (s m : Nat) : ∀ k c, zly σ s m k c = zlz (fun i => σ.1 97 s i) m k c
  | 0, _ => rfl
  | k + 1, c => by
    unfold zly zlz
    rw [zly_z σ s m k]
/-- a slope: AGE, how many LAYERS, their depths and whether SOFT, how often it SLID -/
abbrev zSl : Type := Int32 × Nat × (Nat → Int32) × (Nat → Int32) × Int32
def zsc (σ : zMem) (s : Nat) (D : zSl) : zMem := (fun k i j => if k = 40 ∧ i = s ∧ j = 0 then D.1 else if k = 40 ∧ i = s ∧ j = 1 then nI D.2.1 else if k = 41 ∧ i = s then D.2.2.1 j else if k = 42 ∧ i = s then D.2.2.2.1 j else if k = 40 ∧ i = s ∧ j = 2 then D.2.2.2.2 else σ.1 k i j, σ.2)
def zsr (σ : zMem) (s : Nat) (D : zSl) : zMem := (fun k i j => if k = 93 ∧ i = 0 ∧ j = s then D.1 else if k = 95 ∧ i = 0 ∧ j = s then nI D.2.1 else if k = 97 ∧ i = s then D.2.2.1 j else if k = 99 ∧ i = s then D.2.2.2.1 j else if k = 100 ∧ i = 0 ∧ j = s then D.2.2.2.2 else σ.1 k i j, σ.2)
theorem zsc_0 (σ : zMem) (s m : Nat) (e : σ.1 40 s 1 = nI m) : zsc σ s (σ.1 40 s 0, m, fun j => σ.1 41 s j, fun j => σ.1 42 s j, σ.1 40 s 2) = σ := by
  refine Prod.ext ?_ rfl
  funext k i j
  simp only [zsc]
  by_cases h1 : k = 40 ∧ i = s ∧ j = 0
  · rw [if_pos h1, h1.1, h1.2.1, h1.2.2]
  rw [if_neg h1]
  by_cases h2 : k = 40 ∧ i = s ∧ j = 1
  · rw [if_pos h2, h2.1, h2.2.1, h2.2.2, e]
  rw [if_neg h2]
  by_cases h3 : k = 41 ∧ i = s
  · rw [if_pos h3, h3.1, h3.2]
  rw [if_neg h3]
  by_cases h4 : k = 42 ∧ i = s
  · rw [if_pos h4, h4.1, h4.2]
  rw [if_neg h4]
  by_cases h5 : k = 40 ∧ i = s ∧ j = 2
  · rw [if_pos h5, h5.1, h5.2.1, h5.2.2]
  rw [if_neg h5]
theorem zsr_0 (σ : zMem) (s m : Nat) (e : σ.1 95 0 s = nI m) : zsr σ s (σ.1 93 0 s, m, fun j => σ.1 97 s j, fun j => σ.1 99 s j, σ.1 100 0 s) = σ := by
  refine Prod.ext ?_ rfl
  funext k i j
  simp only [zsr]
  by_cases h1 : k = 93 ∧ i = 0 ∧ j = s
  · rw [if_pos h1, h1.1, h1.2.1, h1.2.2]
  rw [if_neg h1]
  by_cases h2 : k = 95 ∧ i = 0 ∧ j = s
  · rw [if_pos h2, h2.1, h2.2.1, h2.2.2, e]
  rw [if_neg h2]
  by_cases h3 : k = 97 ∧ i = s
  · rw [if_pos h3, h3.1, h3.2]
  rw [if_neg h3]
  by_cases h4 : k = 99 ∧ i = s
  · rw [if_pos h4, h4.1, h4.2]
  rw [if_neg h4]
  by_cases h5 : k = 100 ∧ i = 0 ∧ j = s
  · rw [if_pos h5, h5.1, h5.2.1, h5.2.2]
  rw [if_neg h5]
theorem zsc_a (σ : zMem) (s : Nat) (D : zSl) (v : Int32) : zwi (zsc σ s D) 40 s 0 v = zsc σ s (v, D.2.1, D.2.2.1, D.2.2.2.1, D.2.2.2.2) := by
  refine Prod.ext ?_ rfl
  funext x y z
  simp only [zwi, zu, zsc, zup1]
  by_cases h1 : x = 40 ∧ y = s ∧ z = 0
  · obtain ⟨rfl, rfl, rfl⟩ := h1
    simp
  · rw [if_neg h1]
    by_cases h2 : x = 40
    · subst h2
      by_cases h3 : y = s
      · subst h3
        have h4 : ¬ z = 0 := fun q => h1 ⟨rfl, rfl, q⟩
        simp [h4]
      · simp [h3]
    · simp [h2]
theorem zsc_m (σ : zMem) (s : Nat) (D : zSl) (v : Nat) : zwi (zsc σ s D) 40 s 1 (nI v) = zsc σ s (D.1, v, D.2.2.1, D.2.2.2.1, D.2.2.2.2) := by
  refine Prod.ext ?_ rfl
  funext x y z
  simp only [zwi, zu, zsc, zup1]
  by_cases h1 : x = 40 ∧ y = s ∧ z = 1
  · obtain ⟨rfl, rfl, rfl⟩ := h1
    simp
  · rw [if_neg h1]
    by_cases h2 : x = 40
    · subst h2
      by_cases h3 : y = s
      · subst h3
        have h4 : ¬ z = 1 := fun q => h1 ⟨rfl, rfl, q⟩
        simp [h4]
      · simp [h3]
    · simp [h2]
theorem zsc_d (σ : zMem) (s : Nat) (D : zSl) (c : Nat) (v : Int32) : zwi (zsc σ s D) 41 s c v = zsc σ s (D.1, D.2.1, zup1 D.2.2.1 c v, D.2.2.2.1, D.2.2.2.2) := by
  refine Prod.ext ?_ rfl
  funext x y z
  simp only [zwi, zu, zsc, zup1]
  by_cases h1 : x = 41 ∧ y = s ∧ z = c
  · obtain ⟨rfl, rfl, rfl⟩ := h1
    simp
  · rw [if_neg h1]
    by_cases h2 : x = 41
    · subst h2
      by_cases h3 : y = s
      · subst h3
        have h4 : ¬ z = c := fun q => h1 ⟨rfl, rfl, q⟩
        simp [h4]
      · simp [h3]
    · simp [h2]
theorem zsc_s (σ : zMem) (s : Nat) (D : zSl) (c : Nat) (v : Int32) : zwi (zsc σ s D) 42 s c v = zsc σ s (D.1, D.2.1, D.2.2.1, zup1 D.2.2.2.1 c v, D.2.2.2.2) := by
  refine Prod.ext ?_ rfl
  funext x y z
  simp only [zwi, zu, zsc, zup1]
  by_cases h1 : x = 42 ∧ y = s ∧ z = c
  · obtain ⟨rfl, rfl, rfl⟩ := h1
    simp
  · rw [if_neg h1]
    by_cases h2 : x = 42
    · subst h2
      by_cases h3 : y = s
      · subst h3
        have h4 : ¬ z = c := fun q => h1 ⟨rfl, rfl, q⟩
        simp [h4]
      · simp [h3]
    · simp [h2]
theorem zsc_l (σ : zMem) (s : Nat) (D : zSl) (v : Int32) : zwi (zsc σ s D) 40 s 2 v = zsc σ s (D.1, D.2.1, D.2.2.1, D.2.2.2.1, v) := by
  refine Prod.ext ?_ rfl
  funext x y z
  simp only [zwi, zu, zsc, zup1]
  by_cases h1 : x = 40 ∧ y = s ∧ z = 2
  · obtain ⟨rfl, rfl, rfl⟩ := h1
    simp
  · rw [if_neg h1]
    by_cases h2 : x = 40
    · subst h2
      by_cases h3 : y = s
      · subst h3
        have h4 : ¬ z = 2 := fun q => h1 ⟨rfl, rfl, q⟩
        simp [h4]
      · simp [h3]
    · simp [h2]
theorem zsr_a (σ : zMem) (s : Nat) (D : zSl) (v : Int32) : zwi (zsr σ s D) 93 0 s v = zsr σ s (v, D.2.1, D.2.2.1, D.2.2.2.1, D.2.2.2.2) := by
  refine Prod.ext ?_ rfl
  funext x y z
  simp only [zwi, zu, zsr, zup1]
  by_cases h1 : x = 93 ∧ y = 0 ∧ z = s
  · obtain ⟨rfl, rfl, rfl⟩ := h1
    simp
  · rw [if_neg h1]
    by_cases h2 : x = 93
    · subst h2
      by_cases h3 : y = 0
      · subst h3
        have h4 : ¬ z = s := fun q => h1 ⟨rfl, rfl, q⟩
        simp [h4]
      · simp [h3]
    · simp [h2]
theorem zsr_m (σ : zMem) (s : Nat) (D : zSl) (v : Nat) : zwi (zsr σ s D) 95 0 s (nI v) = zsr σ s (D.1, v, D.2.2.1, D.2.2.2.1, D.2.2.2.2) := by
  refine Prod.ext ?_ rfl
  funext x y z
  simp only [zwi, zu, zsr, zup1]
  by_cases h1 : x = 95 ∧ y = 0 ∧ z = s
  · obtain ⟨rfl, rfl, rfl⟩ := h1
    simp
  · rw [if_neg h1]
    by_cases h2 : x = 95
    · subst h2
      by_cases h3 : y = 0
      · subst h3
        have h4 : ¬ z = s := fun q => h1 ⟨rfl, rfl, q⟩
        simp [h4]
      · simp [h3]
    · simp [h2]
theorem zsr_d (σ : zMem) (s : Nat) (D : zSl) (c : Nat) (v : Int32) : zwi (zsr σ s D) 97 s c v = zsr σ s (D.1, D.2.1, zup1 D.2.2.1 c v, D.2.2.2.1, D.2.2.2.2) := by
  refine Prod.ext ?_ rfl
  funext x y z
  simp only [zwi, zu, zsr, zup1]
  by_cases h1 : x = 97 ∧ y = s ∧ z = c
  · obtain ⟨rfl, rfl, rfl⟩ := h1
    simp
  · rw [if_neg h1]
    by_cases h2 : x = 97
    · subst h2
      by_cases h3 : y = s
      · subst h3
        have h4 : ¬ z = c := fun q => h1 ⟨rfl, rfl, q⟩
        simp [h4]
      · simp [h3]
    · simp [h2]
theorem zsr_s (σ : zMem) (s : Nat) (D : zSl) (c : Nat) (v : Int32) : zwi (zsr σ s D) 99 s c v = zsr σ s (D.1, D.2.1, D.2.2.1, zup1 D.2.2.2.1 c v, D.2.2.2.2) := by
  refine Prod.ext ?_ rfl
  funext x y z
  simp only [zwi, zu, zsr, zup1]
  by_cases h1 : x = 99 ∧ y = s ∧ z = c
  · obtain ⟨rfl, rfl, rfl⟩ := h1
    simp
  · rw [if_neg h1]
    by_cases h2 : x = 99
    · subst h2
      by_cases h3 : y = s
      · subst h3
        have h4 : ¬ z = c := fun q => h1 ⟨rfl, rfl, q⟩
        simp [h4]
      · simp [h3]
    · simp [h2]
theorem zsr_l (σ : zMem) (s : Nat) (D : zSl) (v : Int32) : zwi (zsr σ s D) 100 0 s v = zsr σ s (D.1, D.2.1, D.2.2.1, D.2.2.2.1, v) := by
  refine Prod.ext ?_ rfl
  funext x y z
  simp only [zwi, zu, zsr, zup1]
  by_cases h1 : x = 100 ∧ y = 0 ∧ z = s
  · obtain ⟨rfl, rfl, rfl⟩ := h1
    simp
  · rw [if_neg h1]
    by_cases h2 : x = 100
    · subst h2
      by_cases h3 : y = 0
      · subst h3
        have h4 : ¬ z = s := fun q => h1 ⟨rfl, rfl, q⟩
        simp [h4]
      · simp [h3]
    · simp [h2]
theorem zsc_ra (σ : zMem) (s : Nat) (D : zSl) : (zsc σ s D).1 40 s 0 = D.1 := by simp [zsc]
theorem zsc_rm (σ : zMem) (s : Nat) (D : zSl) : (zsc σ s D).1 40 s 1 = nI D.2.1 := by simp [zsc]
theorem zsc_rd (σ : zMem) (s : Nat) (D : zSl) (c : Nat) : (zsc σ s D).1 41 s c = D.2.2.1 c := by simp [zsc]
theorem zsc_rs (σ : zMem) (s : Nat) (D : zSl) (c : Nat) : (zsc σ s D).1 42 s c = D.2.2.2.1 c := by simp [zsc]
theorem zsc_rl (σ : zMem) (s : Nat) (D : zSl) : (zsc σ s D).1 40 s 2 = D.2.2.2.2 := by simp [zsc]
theorem zsr_ra (σ : zMem) (s : Nat) (D : zSl) : (zsr σ s D).1 93 0 s = D.1 := by simp [zsr]
theorem zsr_rm (σ : zMem) (s : Nat) (D : zSl) : (zsr σ s D).1 95 0 s = nI D.2.1 := by simp [zsr]
theorem zsr_rd (σ : zMem) (s : Nat) (D : zSl) (c : Nat) : (zsr σ s D).1 97 s c = D.2.2.1 c := by simp [zsr]
theorem zsr_rs (σ : zMem) (s : Nat) (D : zSl) (c : Nat) : (zsr σ s D).1 99 s c = D.2.2.2.1 c := by simp [zsr]
theorem zsr_rl (σ : zMem) (s : Nat) (D : zSl) : (zsr σ s D).1 100 0 s = D.2.2.2.2 := by simp [zsr]
theorem zsc_o (σ : zMem) (s : Nat) (D : zSl) {k i j : Nat} (h : (¬ k = 40 ∨ j = 3) ∧ ¬ k = 41 ∧ ¬ k = 42) : (zsc σ s D).1 k i j = σ.1 k i j := by
  obtain ⟨h1, h2, h3⟩ := h
  simp only [zsc]
  rw [if_neg (by omega), if_neg (by omega), if_neg (by omega), if_neg (by omega), if_neg (by omega)]
theorem zsr_o (σ : zMem) (s : Nat) (D : zSl) {k i j : Nat} (h : ¬ k = 93 ∧ ¬ k = 95 ∧ ¬ k = 97 ∧ ¬ k = 99 ∧ ¬ k = 100) : (zsr σ s D).1 k i j = σ.1 k i j := by
  obtain ⟨h1, h2, h3, h4, h5⟩ := h
  simp only [zsr]
  rw [if_neg (by omega), if_neg (by omega), if_neg (by omega), if_neg (by omega), if_neg (by omega)]
/-- what a slope of AGE a HOLDS, with works or not -/
def zbh (wk a : Int32) : Int32 := if wk = 0 then 40 + a / 5 + 0 else 40 + a / 5 + 30
/-- whether it SLIDES, and what it is then -/
def zslb (wk : Int32) (D : zSl) : Bool := decide (zbh wk D.1 ≤ zlz D.2.2.1 D.2.1 (D.2.1 - (zlg D.2.2.2.1 D.2.1 D.2.1 + 1)) 0)
def zsli (D : zSl) : zSl := (if 40 ≤ D.1 then D.1 else 0, zlg D.2.2.2.1 D.2.1 D.2.1, D.2.2.1, D.2.2.2.1, D.2.2.2.2 + 1)
theorem e_live_35 {σ : zMem} {s F : Nat} {D : zSl} {wk : Int32} (hF : 100 < F) (hs : s < 6) (hm : D.2.1 ≤ 6) (hw : σ.1 40 s 3 = wk) : f_X6_live_35 F (zsc σ s D) s = if zslb wk D then some (1, zsc σ s (zsli D)) else some (0, zsc σ s D) := by
  have gs : (decide (s < 6)) = true := by simp; omega
  have l := zlg_le D.2.2.2.1 D.2.1 D.2.1 (Nat.le_refl _)
  have be : f_X6_bears F (zsc σ s D) s D.1 = some (zbh wk D.1, zsc σ s D) := by
    unfold f_X6_bears zbh
    rw [zg_i gs, zg_i (by decide), zsc_o σ s D (by omega), hw]
    split <;> rfl
  unfold f_X6_live_35
  rw [zg_i gs, e_low_c hF hs hm (zsc_rm σ s D) (fun i _ => zsc_rs σ s D i), zb_s, nI_1, e_lie_c hF hs hm (by omega) (zsc_rm σ s D) (fun i _ => zsc_rd σ s D i), zb_s, zsc_ra, be, zb_s]
  unfold zslb zsli
  by_cases q : zbh wk D.1 ≤ zlz D.2.2.1 D.2.1 (D.2.1 - (zlg D.2.2.2.1 D.2.1 D.2.1 + 1)) 0
  · rw [if_pos q, if_pos (decide_eq_true q), zsc_m, zsc_ra]
    unfold f_X6_live_79
    by_cases q2 : 40 ≤ D.1
    · rw [if_pos q2, if_pos q2, zg_i gs, zsc_rl, zsc_l]
    · rw [if_neg q2, if_neg q2, zsc_a, zg_i gs, zsc_rl, zsc_l]
  · rw [if_neg q, if_neg (by simpa using q)]
/-- a LAYER more -/
def zadd (fall b : Int32) (D : zSl) : zSl := if D.2.1 < 6 then (D.1, D.2.1 + 1, zup1 D.2.2.1 D.2.1 fall, zup1 D.2.2.2.1 D.2.1 b, D.2.2.2.2) else (D.1, 6, fun c => if c = 0 then D.2.2.1 1 + D.2.2.1 0 else if c = 5 then fall else if c < 5 then D.2.2.1 (c + 1) else D.2.2.1 c, fun c => if c = 0 then (if D.2.2.2.1 1 = 0 then (if D.2.2.2.1 0 = 0 then 0 else 1) else 1) else if c = 5 then b else if c < 5 then D.2.2.2.1 (c + 1) else D.2.2.2.1 c, D.2.2.2.2)
def zeqD (C D : zSl) : Prop := C.1 = D.1 ∧ C.2.1 = D.2.1 ∧ (∀ c, c < C.2.1 → C.2.2.1 c = D.2.2.1 c ∧ C.2.2.2.1 c = D.2.2.2.1 c) ∧ C.2.2.2.2 = D.2.2.2.2
