/-! a day lived: the alps -/
def zup1 (f : Nat → Int32) (a : Nat) (v : Int32) : Nat → Int32 := fun j => if j = a then v else f j
theorem zup1_at (f : Nat → Int32) (a : Nat) (v : Int32) : zup1 f a v a = v := if_pos rfl
theorem zup1_ne (f : Nat → Int32) {a j : Nat} (v : Int32) (h : ¬ j = a) : zup1 f a v j = f j := if_neg h
theorem zup1_id (f : Nat → Int32) (a : Nat) : zup1 f a (f a) = f := by
  funext j
  unfold zup1
  split
  · rename_i h
    rw [h]
  · rfl
theorem zup1_cm (f : Nat → Int32) {a b : Nat} (v w : Int32) (h : ¬ a = b) : zup1 (zup1 f a v) b w = zup1 (zup1 f b w) a v := by
  funext j
  unfold zup1
  by_cases h1 : j = b
  · rw [if_pos h1, if_neg (fun q => h (q.symm.trans h1)), if_pos h1]
  · rw [if_neg h1, if_neg h1]
/-- GRASS, SNOW by alps; MILK, HUNGRY by houses -/
abbrev zAl : Type := (Nat → Int32) × (Nat → Int32) × (Nat → Int32) × (Nat → Int32)
def zalc (σ : zMem) (A : zAl) : zMem := (fun k i j => if k = 28 ∧ i = 0 then A.1 j else if k = 29 ∧ i = 0 then A.2.1 j else if k = 2 ∧ j = 4 then A.2.2.1 i else if k = 2 ∧ j = 3 then A.2.2.2 i else σ.1 k i j, σ.2)
def zalr (σ : zMem) (A : zAl) : zMem := (fun k i j => if k = 89 ∧ i = 0 then A.1 j else if k = 90 ∧ i = 0 then A.2.1 j else if k = 64 ∧ i = 0 then A.2.2.1 j else if k = 63 ∧ i = 0 then A.2.2.2 j else σ.1 k i j, σ.2)
theorem zalc_0 (σ : zMem) : zalc σ (fun j => σ.1 28 0 j, fun j => σ.1 29 0 j, fun i => σ.1 2 i 4, fun i => σ.1 2 i 3) = σ := by
  refine Prod.ext ?_ rfl
  funext k i j
  simp only [zalc]
  by_cases h1 : k = 28 ∧ i = 0
  · rw [if_pos h1, h1.1, h1.2]
  · rw [if_neg h1]
    by_cases h2 : k = 29 ∧ i = 0
    · rw [if_pos h2, h2.1, h2.2]
    · rw [if_neg h2]
      by_cases h3 : k = 2 ∧ j = 4
      · rw [if_pos h3, h3.1, h3.2]
      · rw [if_neg h3]
        by_cases h4 : k = 2 ∧ j = 3
        · rw [if_pos h4, h4.1, h4.2]
        · rw [if_neg h4]
theorem zalr_0 (σ : zMem) : zalr σ (fun j => σ.1 89 0 j, fun j => σ.1 90 0 j, fun i => σ.1 64 0 i, fun i => σ.1 63 0 i) = σ := by
  refine Prod.ext ?_ rfl
  funext k i j
  simp only [zalr]
  by_cases h1 : k = 89 ∧ i = 0
  · rw [if_pos h1, h1.1, h1.2]
  · rw [if_neg h1]
    by_cases h2 : k = 90 ∧ i = 0
    · rw [if_pos h2, h2.1, h2.2]
    · rw [if_neg h2]
      by_cases h3 : k = 64 ∧ i = 0
      · rw [if_pos h3, h3.1, h3.2]
      · rw [if_neg h3]
        by_cases h4 : k = 63 ∧ i = 0
        · rw [if_pos h4, h4.1, h4.2]
        · rw [if_neg h4]

theorem zalc_g (σ : zMem) (A : zAl) (a : Nat) (v : Int32) : zwi (zalc σ A) 28 0 a v = zalc σ (zup1 A.1 a v, A.2.1, A.2.2.1, A.2.2.2) := by
  refine Prod.ext ?_ rfl
  funext x y z
  simp only [zwi, zu, zalc, zup1]
  by_cases h1 : x = 28 ∧ y = 0 ∧ z = a
  · obtain ⟨rfl, rfl, rfl⟩ := h1
    simp
  · rw [if_neg h1]
    by_cases h2 : x = 28
    · subst h2
      simp at h1 ⊢
      by_cases h3 : y = 0
      · simp [h3] at h1 ⊢
        simp [h1]
      · simp [h3]
    · simp [h2]
theorem zalc_s (σ : zMem) (A : zAl) (a : Nat) (v : Int32) : zwi (zalc σ A) 29 0 a v = zalc σ (A.1, zup1 A.2.1 a v, A.2.2.1, A.2.2.2) := by
  refine Prod.ext ?_ rfl
  funext x y z
  simp only [zwi, zu, zalc, zup1]
  by_cases h1 : x = 29 ∧ y = 0 ∧ z = a
  · obtain ⟨rfl, rfl, rfl⟩ := h1
    simp
  · rw [if_neg h1]
    by_cases h2 : x = 29
    · subst h2
      simp at h1 ⊢
      by_cases h3 : y = 0
      · simp [h3] at h1 ⊢
        simp [h1]
      · simp [h3]
    · simp [h2]
theorem zalc_m (σ : zMem) (A : zAl) (a : Nat) (v : Int32) : zwi (zalc σ A) 2 a 4 v = zalc σ (A.1, A.2.1, zup1 A.2.2.1 a v, A.2.2.2) := by
  refine Prod.ext ?_ rfl
  funext x y z
  simp only [zwi, zu, zalc, zup1]
  by_cases h1 : x = 2 ∧ y = a ∧ z = 4
  · obtain ⟨rfl, rfl, rfl⟩ := h1
    simp
  · rw [if_neg h1]
    by_cases h2 : x = 2
    · subst h2
      simp at h1 ⊢
      by_cases h3 : z = 4
      · simp [h3] at h1 ⊢
        simp [h1]
      · simp [h3]
    · simp [h2]
theorem zalc_h (σ : zMem) (A : zAl) (a : Nat) (v : Int32) : zwi (zalc σ A) 2 a 3 v = zalc σ (A.1, A.2.1, A.2.2.1, zup1 A.2.2.2 a v) := by
  refine Prod.ext ?_ rfl
  funext x y z
  simp only [zwi, zu, zalc, zup1]
  by_cases h1 : x = 2 ∧ y = a ∧ z = 3
  · obtain ⟨rfl, rfl, rfl⟩ := h1
    simp
  · rw [if_neg h1]
    by_cases h2 : x = 2
    · subst h2
      simp at h1 ⊢
      by_cases h3 : z = 3
      · simp [h3] at h1 ⊢
        simp [h1]
      · simp [h3]
    · simp [h2]
theorem zalr_g (σ : zMem) (A : zAl) (a : Nat) (v : Int32) : zwi (zalr σ A) 89 0 a v = zalr σ (zup1 A.1 a v, A.2.1, A.2.2.1, A.2.2.2) := by
  refine Prod.ext ?_ rfl
  funext x y z
  simp only [zwi, zu, zalr, zup1]
  by_cases h1 : x = 89 ∧ y = 0 ∧ z = a
  · obtain ⟨rfl, rfl, rfl⟩ := h1
    simp
  · rw [if_neg h1]
    by_cases h2 : x = 89
    · subst h2
      simp at h1 ⊢
      by_cases h3 : y = 0
      · simp [h3] at h1 ⊢
        simp [h1]
      · simp [h3]
    · simp [h2]
theorem zalr_s (σ : zMem) (A : zAl) (a : Nat) (v : Int32) : zwi (zalr σ A) 90 0 a v = zalr σ (A.1, zup1 A.2.1 a v, A.2.2.1, A.2.2.2) := by
  refine Prod.ext ?_ rfl
  funext x y z
  simp only [zwi, zu, zalr, zup1]
  by_cases h1 : x = 90 ∧ y = 0 ∧ z = a
  · obtain ⟨rfl, rfl, rfl⟩ := h1
    simp
  · rw [if_neg h1]
    by_cases h2 : x = 90
    · subst h2
      simp at h1 ⊢
      by_cases h3 : y = 0
      · simp [h3] at h1 ⊢
        simp [h1]
      · simp [h3]
    · simp [h2]
theorem zalr_m (σ : zMem) (A : zAl) (a : Nat) (v : Int32) : zwi (zalr σ A) 64 0 a v = zalr σ (A.1, A.2.1, zup1 A.2.2.1 a v, A.2.2.2) := by
  refine Prod.ext ?_ rfl
  funext x y z
  simp only [zwi, zu, zalr, zup1]
  by_cases h1 : x = 64 ∧ y = 0 ∧ z = a
  · obtain ⟨rfl, rfl, rfl⟩ := h1
    simp
  · rw [if_neg h1]
    by_cases h2 : x = 64
    · subst h2
      simp at h1 ⊢
      by_cases h3 : y = 0
      · simp [h3] at h1 ⊢
        simp [h1]
      · simp [h3]
    · simp [h2]
theorem zalr_h (σ : zMem) (A : zAl) (a : Nat) (v : Int32) : zwi (zalr σ A) 63 0 a v = zalr σ (A.1, A.2.1, A.2.2.1, zup1 A.2.2.2 a v) := by
  refine Prod.ext ?_ rfl
  funext x y z
  simp only [zwi, zu, zalr, zup1]
  by_cases h1 : x = 63 ∧ y = 0 ∧ z = a
  · obtain ⟨rfl, rfl, rfl⟩ := h1
    simp
  · rw [if_neg h1]
    by_cases h2 : x = 63
    · subst h2
      simp at h1 ⊢
      by_cases h3 : y = 0
      · simp [h3] at h1 ⊢
        simp [h1]
      · simp [h3]
    · simp [h2]
theorem zalc_rg (σ : zMem) (A : zAl) (j : Nat) : (zalc σ A).1 28 0 j = A.1 j := by simp [zalc]
theorem zalc_rs (σ : zMem) (A : zAl) (j : Nat) : (zalc σ A).1 29 0 j = A.2.1 j := by simp [zalc]
theorem zalc_rm (σ : zMem) (A : zAl) (i : Nat) : (zalc σ A).1 2 i 4 = A.2.2.1 i := by simp [zalc]
theorem zalc_rh (σ : zMem) (A : zAl) (i : Nat) : (zalc σ A).1 2 i 3 = A.2.2.2 i := by simp [zalc]
theorem zalr_rg (σ : zMem) (A : zAl) (j : Nat) : (zalr σ A).1 89 0 j = A.1 j := by simp [zalr]
theorem zalr_rs (σ : zMem) (A : zAl) (j : Nat) : (zalr σ A).1 90 0 j = A.2.1 j := by simp [zalr]
theorem zalr_rm (σ : zMem) (A : zAl) (i : Nat) : (zalr σ A).1 64 0 i = A.2.2.1 i := by simp [zalr]
theorem zalr_rh (σ : zMem) (A : zAl) (i : Nat) : (zalr σ A).1 63 0 i = A.2.2.2 i := by simp [zalr]
theorem zalc_o (σ : zMem) (A : zAl) {k i j : Nat} (h : ¬ k = 28 ∧ ¬ k = 29 ∧ ¬ (k = 2 ∧ (j = 3 ∨ j = 4))) : (zalc σ A).1 k i j = σ.1 k i j := by
  obtain ⟨h1, h2, h3⟩ := h
  simp only [zalc]
  rw [if_neg (fun q => h1 q.1), if_neg (fun q => h2 q.1), if_neg (fun q => h3 ⟨q.1, Or.inr q.2⟩), if_neg (fun q => h3 ⟨q.1, Or.inl q.2⟩)]
theorem zalr_o (σ : zMem) (A : zAl) {k i j : Nat} (h : ¬ k = 89 ∧ ¬ k = 90 ∧ ¬ k = 64 ∧ ¬ k = 63) : (zalr σ A).1 k i j = σ.1 k i j := by
  obtain ⟨h1, h2, h3, h4⟩ := h
  simp only [zalr]
  rw [if_neg (fun q => h1 q.1), if_neg (fun q => h2 q.1), if_neg (fun q => h3 q.1), if_neg (fun q => h4 q.1)]
def zsn (ht : Nat → Int32) (w f : Int32) (a : Nat) (A : zAl) : Int32 := if 2 < w - 5 * ht a then zmax 0 (A.2.1 a - 2 * (w - 5 * ht a)) else A.2.1 a + f
/-- alp a grows -/
def zgA (ht ar : Nat → Int32) (w f : Int32) (a : Nat) (A : zAl) : zAl := (if zsn ht w f a A = 0 then (if 0 < w - 5 * ht a then zup1 A.1 a (zmin (10 * ar a) (A.1 a + zmin (w - 5 * ht a) 20 * ar a / 10)) else A.1) else A.1, zup1 A.2.1 a (zsn ht w f a A), A.2.2.1, A.2.2.2)
/-- house h's cows on alp a graze -/
def zfA (up : Nat → Nat → Int32) (a h : Nat) (A : zAl) : zAl := (zup1 A.1 a (A.1 a - 3 * zmin (up a h) (A.1 a / 3)), A.2.1, zup1 A.2.2.1 h (A.2.2.1 h + 8 * zmin (up a h) (A.1 a / 3)), zup1 A.2.2.2 h (A.2.2.2 h + (up a h - zmin (up a h) (A.1 a / 3))))
def zrA (h : Nat) (A : zAl) : zAl := (A.1, A.2.1, zup1 A.2.2.1 h 0, A.2.2.2)
def zfo {β : Type} (f : Nat → β → β) : Nat → β → β
  | 0, A => A
  | n + 1, A => f n (zfo f n A)
theorem zfo_c {β : Type} {f g : Nat → β → β} : ∀ {n : Nat}, (∀ i, i < n → ∀ A, f i A = g i A) → ∀ A, zfo f n A = zfo g n A
  | 0, _, _ => rfl
  | n + 1, h, A => by
    show f n (zfo f n A) = g n (zfo g n A)
    rw [zfo_c (fun i hi => h i (by omega)), h n (by omega)]
theorem zgf_cm {ht ar : Nat → Int32} {w f : Int32} {up : Nat → Nat → Int32} {a b : Nat} (hab : ¬ a = b) (h : Nat) (A : zAl) : zgA ht ar w f a (zfA up b h A) = zfA up b h (zgA ht ar w f a A) := by
  have hba : ¬ b = a := fun q => hab q.symm
  unfold zgA zfA zsn
  simp only [zup1_ne _ _ hab, zup1_ne _ _ hba]
  by_cases q1 : (if 2 < w - 5 * ht a then zmax 0 (A.2.1 a - 2 * (w - 5 * ht a)) else A.2.1 a + f) = 0
  · by_cases q2 : 0 < w - 5 * ht a
    · simp only [if_pos q1, if_pos q2, zup1_ne _ _ hba]
      rw [zup1_cm _ _ _ hba]
    · simp only [if_pos q1, if_neg q2]
  · simp only [if_neg q1]
theorem zgf_cm2 {ht ar : Nat → Int32} {w f : Int32} {up : Nat → Nat → Int32} {a b : Nat} (hab : ¬ a = b) : ∀ (n : Nat) (A : zAl), zgA ht ar w f a (zfo (fun h => zfA up b h) n A) = zfo (fun h => zfA up b h) n (zgA ht ar w f a A)
  | 0, _ => rfl
  | n + 1, A => by
    show zgA ht ar w f a (zfA up b n (zfo _ n A)) = zfA up b n (zfo _ n (zgA ht ar w f a A))
    rw [zgf_cm hab, zgf_cm2 hab n A]
theorem zgf_cm3 {ht ar : Nat → Int32} {w f : Int32} {up : Nat → Nat → Int32} (n : Nat) {a : Nat} : ∀ (m : Nat), m ≤ a → ∀ (A : zAl), zgA ht ar w f a (zfo (fun b A => zfo (fun h => zfA up b h) n A) m A) = zfo (fun b A => zfo (fun h => zfA up b h) n A) m (zgA ht ar w f a A)
  | 0, _, _ => rfl
  | m + 1, hm, A => by
    show zgA ht ar w f a (zfo (fun h => zfA up m h) n (zfo _ m A)) = zfo (fun h => zfA up m h) n (zfo _ m (zgA ht ar w f a A))
    rw [zgf_cm2 (by omega), zgf_cm3 n m (by omega) A]
/-- grow and graze alp by alp, or grow all and then graze all -/
theorem zal_eq {ht ar : Nat → Int32} {w f : Int32} {up : Nat → Nat → Int32} (n : Nat) : ∀ (m : Nat) (A : zAl), zfo (fun a A => zfo (fun h => zfA up a h) n (zgA ht ar w f a A)) m A = zfo (fun a A => zfo (fun h => zfA up a h) n A) m (zfo (fun a => zgA ht ar w f a) m A)
  | 0, _ => rfl
  | m + 1, A => by
    show zfo (fun h => zfA up m h) n (zgA ht ar w f m (zfo _ m A)) = zfo (fun h => zfA up m h) n (zfo _ m (zgA ht ar w f m (zfo _ m A)))
    rw [zal_eq n m A, zgf_cm3 n m (Nat.le_refl m)]
theorem e_X0_grow {σ : zMem} {A : zAl} {a : Nat} (ha : a < 4) (F : Nat) (w f : Int32) : f_X0_grow F (zalc σ A) (nI a) w f = some ((), zalc σ (zgA (fun j => σ.1 26 0 j) (fun j => σ.1 27 0 j) w f a A)) := by
  have i1 := inb_n ha (by omega)
  have i2 := nI_clamp (show a < 2 ^ 31 by omega)
  have r26 : ∀ B, (zalc σ B).1 26 0 a = σ.1 26 0 a := fun B => zalc_o σ B (by omega)
  have r27 : ∀ B, (zalc σ B).1 27 0 a = σ.1 27 0 a := fun B => zalc_o σ B (by omega)
  unfold f_X0_grow
  rw [zg_i i1, zg_i i1, i2, zalc_rs, r26]
  have sn : ∀ s, f_X0_snowAfter F s (A.2.1 a) (w - 5 * σ.1 26 0 a) f = some (zsn (fun j => σ.1 26 0 j) w f a A, s) := by
    intro s
    unfold f_X0_snowAfter zsn
    split <;> rfl
  rw [sn, zb_s, zg_i i1, zg_i i1, zalc_s, zalc_rs]
  simp only [zup1_at]
  unfold zgA
  by_cases q : zsn (fun j => σ.1 26 0 j) w f a A = 0
  · rw [if_pos q, if_pos q, zg_i i1, zg_i i1, zalc_rg, r27]
    have ga : ∀ s, f_X0_grassAfter F s (A.1 a) (w - 5 * σ.1 26 0 a) (σ.1 27 0 a) = some (if 0 < w - 5 * σ.1 26 0 a then zmin (10 * σ.1 27 0 a) (A.1 a + zmin (w - 5 * σ.1 26 0 a) 20 * σ.1 27 0 a / 10) else A.1 a, s) := by
      intro s
      unfold f_X0_grassAfter
      split
      · rw [zg_i (by decide)]
      · rfl
    rw [ga, zb_s, zg_i i1, zalc_g]
    by_cases q2 : 0 < w - 5 * σ.1 26 0 a
    · rw [if_pos q2, if_pos q2]
    · rw [if_neg q2, if_neg q2, zup1_id]
  · rw [if_neg q, if_neg q]
theorem e_X10_graze {σ : zMem} {A : zAl} {a n F : Nat} (hF : 100 < F) (ha : a < 4) (hn : n ≤ 10) (e : σ.1 0 0 1 = nI n) : f_X10_graze F (zalc σ A) (nI a) = some ((), zalc σ (zfo (fun h => zfA (fun a h => σ.1 4 h a) a h) n A)) := by
  have i1 := inb_n ha (by omega)
  have i2 := nI_clamp (show a < 2 ^ 31 by omega)
  have r01 : ∀ B, (zalc σ B).1 0 0 1 = nI n := fun B => (zalc_o σ B (by omega)).trans e
  have r4 : ∀ B h, (zalc σ B).1 4 h a = σ.1 4 h a := fun B h => zalc_o σ B (by omega)
  unfold f_X10_graze
  refine zit_for (S := fun i => (zalc σ (zfo (fun h => zfA (fun a h => σ.1 4 h a) a h) i A), (nI a, nI i))) _ n 0 F (fun j _ hj rec => ?_) (fun rec => ?_) (by omega)
  · have i3 := inb_n (show j < 10 by omega) (by omega)
    have i4 := nI_clamp (show j < 2 ^ 31 by omega)
    unfold f_X10_graze_2
    simp only
    rw [r01, if_neg (nle_s (by omega) (by omega)), zg_i i3, zg_i i1, i4, i2, r4]
    unfold f_X0_feedCows
    rw [zg_i i1, zg_i (by decide), zg_i i1, zg_i i1, i2, zalc_rg, zalc_g, zb_s, zg_i i1, zalc_rm, zalc_m, zalc_rh, r4, zalc_h, nI_1]
    rfl
  · unfold f_X10_graze_2
    simp only
    rw [r01, Nat.zero_add, if_pos (Int32.le_refl _)]
/-- the class's alps of a day alone -/
def zd54 (F : Nat) (rec54 : zMem → Int32 × Int32 × Int32 → Option (Unit × zMem)) (σ : zMem) (x : Int32 × Int32 × Int32) : Option (Unit × zMem) := if (σ.1 25 0 4) ≤ x.2.2 then some ((), σ) else (zb (f_X0_grow F σ x.2.2 x.1 x.2.1) fun r72 m72 => zb (f_X10_graze F m72 x.2.2) fun r77 m77 => rec54 m77 ((x.1, x.2.1, (x.2.2 + 1))))
def zd28 (_F : Nat) (rec28 : zMem → Int32 × Int32 × Int32 → Option (Unit × zMem)) (σ : zMem) (x : Int32 × Int32 × Int32) : Option (Unit × zMem) := if (σ.1 0 0 1) ≤ x.2.2 then some ((), σ) else (zg (inb x.2.2 10) (rec28 (zwi σ 2 x.2.2.toNatClampNeg 4 0) ((x.1, x.2.1, (x.2.2 + 1)))))
theorem s_liveDay_54 (F : Nat) (w f : Int32) : ∀ G s y, (y.1 = w ∧ y.2.1 = f) → zit (f_X10_liveDay_54 F) G s y = zb (zit (zd54 F) G s y) (fun _ σ => zg (zni 360) (zit (f_X10_liveDay_98 F) F σ ((w, f, (zrem ((σ.1 0 0 11)) 360), 0)))) := by
  refine zit_split (fun (y : Int32 × Int32 × Int32) => y.1 = w ∧ y.2.1 = f) fun r r2 hr s y hy => ?_
  obtain ⟨w', f', k⟩ := y
  obtain ⟨rfl, rfl⟩ := hy
  have hr2 : ∀ s k, r s (w', f', k) = zb (r2 s (w', f', k)) (fun _ σ => zg (zni 360) (zit (f_X10_liveDay_98 F) F σ ((w', f', (zrem ((σ.1 0 0 11)) 360), 0)))) := fun s k => hr s _ ⟨rfl, rfl⟩
  unfold f_X10_liveDay_54 zd54
  simp only [zb_ite, zb_s, zb_zg, zb_zb, hr2]
theorem s_liveDay_28 (F : Nat) (w f : Int32) : ∀ G s y, (y.1 = w ∧ y.2.1 = f) → zit (f_X10_liveDay_28 F) G s y = zb (zit (zd28 F) G s y) (fun _ σ => zit (f_X10_liveDay_54 F) F σ (w, f, 0)) := by
  refine zit_split (fun (y : Int32 × Int32 × Int32) => y.1 = w ∧ y.2.1 = f) fun r r2 hr s y hy => ?_
  obtain ⟨w', f', k⟩ := y
  obtain ⟨rfl, rfl⟩ := hy
  have hr2 : ∀ s k, r s (w', f', k) = zb (r2 s (w', f', k)) (fun _ σ => zit (f_X10_liveDay_54 F) F σ (w', f', 0)) := fun s k => hr s _ ⟨rfl, rfl⟩
  unfold f_X10_liveDay_28 zd28
  simp only [zb_ite, zb_s, zb_zg, zb_zb, hr2]
theorem e_zd28 {σ : zMem} {A : zAl} {n F : Nat} (hF : 100 < F) (hn : n ≤ 10) (e : σ.1 0 0 1 = nI n) (w f : Int32) : zit (zd28 F) F (zalc σ A) (w, f, 0) = some ((), zalc σ (zfo zrA n A)) := by
  have r01 : ∀ B, (zalc σ B).1 0 0 1 = nI n := fun B => (zalc_o σ B (by omega)).trans e
  refine zit_for (S := fun i => (zalc σ (zfo zrA i A), (w, f, nI i))) _ n 0 F (fun j _ hj rec => ?_) (fun rec => ?_) (by omega)
  · unfold zd28
    simp only
    rw [r01, if_neg (nle_s (by omega) (by omega)), zg_i (inb_n (by omega) (by omega)), nI_clamp (by omega), zalc_m, nI_1]
    rfl
  · unfold zd28
    simp only
    rw [r01, Nat.zero_add, if_pos (Int32.le_refl _)]
theorem e_zd54 {σ : zMem} {A : zAl} {n m F : Nat} (hF : 100 < F) (hn : n ≤ 10) (hm : m ≤ 4) (e : σ.1 0 0 1 = nI n) (em : σ.1 25 0 4 = nI m) (w f : Int32) : zit (zd54 F) F (zalc σ A) (w, f, 0) = some ((), zalc σ (zfo (fun a A => zfo (fun h => zfA (fun a h => σ.1 4 h a) a h) n (zgA (fun j => σ.1 26 0 j) (fun j => σ.1 27 0 j) w f a A)) m A)) := by
  have r25 : ∀ B, (zalc σ B).1 25 0 4 = nI m := fun B => (zalc_o σ B (by omega)).trans em
  refine zit_for (S := fun i => (zalc σ (zfo (fun a A => zfo (fun h => zfA (fun a h => σ.1 4 h a) a h) n (zgA (fun j => σ.1 26 0 j) (fun j => σ.1 27 0 j) w f a A)) i A), (w, f, nI i))) _ m 0 F (fun j _ hj rec => ?_) (fun rec => ?_) (by omega)
  · unfold zd54
    simp only
    rw [r25, if_neg (nle_s (by omega) (by omega)), e_X0_grow (by omega), zb_s, e_X10_graze hF (by omega) hn e, zb_s, nI_1]
    rfl
  · unfold zd54
    simp only
    rw [r25, Nat.zero_add, if_pos (Int32.le_refl _)]
def zl25 (F : Nat) (rec25 : zMem → Int32 → Option (Unit × zMem)) (σ : zMem) (x : Int32) : Option (Unit × zMem) := if (σ.1 60 0 25) ≤ x then some ((), σ) else (zb (f_X11_grow F σ x ((σ.1 60 0 0))) fun r39 m39 => rec25 m39 ((x + 1)))
def zl2 (_F : Nat) (rec2 : zMem → Int32 → Option (Unit × zMem)) (σ : zMem) (x : Int32) : Option (Unit × zMem) := if (σ.1 60 0 1) ≤ x then some ((), σ) else (zg (inb x 10) (rec2 (zwi σ 64 0 x.toNatClampNeg 0) ((x + 1))))
theorem s_fields_25 (F : Nat) : ∀ G s y, True → zit (f_X11_fields_25 F) G s y = zb (zit (zl25 F) G s y) (fun _ σ => zit (f_X11_fields_50 F) F σ 0) := by
  refine zit_split (fun _ => True) fun r r2 hr s y _ => ?_
  have hr2 : ∀ s k, r s k = zb (r2 s k) (fun _ σ => zit (f_X11_fields_50 F) F σ 0) := fun s k => hr s k trivial
  unfold f_X11_fields_25 zl25
  simp only [zb_ite, zb_s, zb_zg, zb_zb, hr2]
theorem s_fields_2 (F : Nat) : ∀ G s y, True → zit (f_X11_fields_2 F) G s y = zb (zit (zl2 F) G s y) (fun _ σ => zit (f_X11_fields_25 F) F σ 0) := by
  refine zit_split (fun _ => True) fun r r2 hr s y _ => ?_
  have hr2 : ∀ s k, r s k = zb (r2 s k) (fun _ σ => zit (f_X11_fields_25 F) F σ 0) := fun s k => hr s k trivial
  unfold f_X11_fields_2 zl2
  simp only [zb_ite, zb_s, zb_zg, zb_zb, hr2]
theorem e_zl2 {σ : zMem} {A : zAl} {n F : Nat} (hF : 100 < F) (hn : n ≤ 10) (e : σ.1 60 0 1 = nI n) : zit (zl2 F) F (zalr σ A) 0 = some ((), zalr σ (zfo zrA n A)) := by
  have r01 : ∀ B, (zalr σ B).1 60 0 1 = nI n := fun B => (zalr_o σ B (by omega)).trans e
  refine zit_for (S := fun i => (zalr σ (zfo zrA i A), nI i)) _ n 0 F (fun j _ hj rec => ?_) (fun rec => ?_) (by omega)
  · unfold zl2
    simp only
    rw [r01, if_neg (nle_s (by omega) (by omega)), zg_i (inb_n (by omega) (by omega)), nI_clamp (by omega), zalr_m, nI_1]
    rfl
  · unfold zl2
    simp only
    rw [r01, Nat.zero_add, if_pos (Int32.le_refl _)]
theorem zsk_s {σ s : zMem} {w : Nat} (h1 : s.1 86 = σ.1 86) (h2 : s.1 84 = σ.1 84) : ∀ d, zsk s w d = zsk σ w d
  | 0 => rfl
  | d + 1 => by
    unfold zsk
    rw [zsk_s h1 h2 d, h1, h2]
theorem e_X11_grow {σ : zMem} {A : zAl} {a d F : Nat} (hF : 8000 < F) (ha : a < 4) (hd : d < 7200) (eg : σ.1 60 0 28 = 89) (es : σ.1 60 0 29 = 90) : f_X11_grow F (zalr σ A) (nI a) (nI d) = some ((), zalr σ (zgA (fun j => σ.1 87 0 j) (fun j => σ.1 88 0 j) (zsk σ 0 (d + 1)) (zsk σ 1 (d + 1)) a A)) := by
  have i1 := inb_n ha (by omega)
  have i2 := nI_clamp (show a < 2 ^ 31 by omega)
  have t3 : (89 : Int32).toNatClampNeg = 89 := by decide
  have t4 : zdG 89 = true := by decide
  have t5 : (90 : Int32).toNatClampNeg = 90 := by decide
  have t6 : zdS 90 = true := by decide
  have r87 : ∀ B, (zalr σ B).1 87 0 a = σ.1 87 0 a := fun B => zalr_o σ B (by omega)
  have r88 : ∀ B, (zalr σ B).1 88 0 a = σ.1 88 0 a := fun B => zalr_o σ B (by omega)
  have rg : ∀ B, (zalr σ B).1 60 0 28 = 89 := fun B => (zalr_o σ B (by omega)).trans eg
  have rs : ∀ B, (zalr σ B).1 60 0 29 = 90 := fun B => (zalr_o σ B (by omega)).trans es
  have h86 : (zalr σ A).1 86 = σ.1 86 := by
    funext i j
    exact zalr_o σ A (by omega)
  have h84 : (zalr σ A).1 84 = σ.1 84 := by
    funext i j
    exact zalr_o σ A (by omega)
  have k0 := e_X11_skyAt (σ := zalr σ A) (w := 0) (d := d) (F := F) (by omega) hd hF
  have k1 := e_X11_skyAt (σ := zalr σ A) (w := 1) (d := d) (F := F) (by omega) hd hF
  rw [zsk_s h86 h84] at k0 k1
  have g59 : ∀ (B : zAl) (l : Int32), l = zsk σ 0 (d + 1) - 5 * σ.1 87 0 a → B.1 = A.1 → f_X11_grow_59 F (zalr σ B) (nI a) l = some ((), zalr σ (if B.2.1 a = 0 then (if 0 < l then zup1 B.1 a (zmin (10 * σ.1 88 0 a) (B.1 a + zmin l 20 * σ.1 88 0 a / 10)) else B.1) else B.1, B.2.1, B.2.2.1, B.2.2.2)) := by
    intro B l hl hB
    unfold f_X11_grow_59
    rw [rs, t5, zg_i t6, zg_i i1, i2, zalr_rs]
    by_cases q : B.2.1 a = 0
    · rw [if_pos q, if_pos q]
      by_cases q2 : 0 < l
      · rw [if_neg (Int32.not_le.mpr q2), if_pos q2, rg, t3, zg_i t4, zg_i i1, zg_i t4, zg_i i1, zg_i i1, zg_i (by decide), zg_i i1, r88, zalr_rg, zalr_g]
      · rw [if_pos (Int32.not_lt.mp q2), if_neg q2]
    · rw [if_neg q, if_neg q]
  have k0 : f_X11_skyAt F (zalr σ A) (nI d) 0 = some (zsk σ 0 (d + 1), zalr σ A) := k0
  have k1 : f_X11_skyAt F (zalr σ A) (nI d) 1 = some (zsk σ 1 (d + 1), zalr σ A) := k1
  unfold f_X11_grow
  rw [k0, zb_s, zg_i i1, i2, r87, rs, t5, zg_i t6, zg_i t6, zg_i t6, zg_i i1, zg_i i1, zalr_rs]
  unfold zgA zsn
  by_cases q : 2 < zsk σ 0 (d + 1) - 5 * σ.1 87 0 a
  · rw [if_pos q, zalr_s, g59 (A.1, zup1 A.2.1 a (zmax 0 (A.2.1 a - 2 * (zsk σ 0 (d + 1) - 5 * σ.1 87 0 a))), A.2.2.1, A.2.2.2) _ rfl rfl]
    simp only [zup1_at, if_pos q]
  · rw [if_neg q, k1, zb_s, zg_i i1, zg_i i1, zalr_s, g59 (A.1, zup1 A.2.1 a (A.2.1 a + zsk σ 1 (d + 1)), A.2.2.1, A.2.2.2) _ rfl rfl]
    simp only [zup1_at, if_neg q]
theorem e_zl25 {σ : zMem} {A : zAl} {m d F : Nat} (hF : 8000 < F) (hm : m ≤ 4) (hd : d < 7200) (ed : σ.1 60 0 0 = nI d) (em : σ.1 60 0 25 = nI m) (eg : σ.1 60 0 28 = 89) (es : σ.1 60 0 29 = 90) : zit (zl25 F) F (zalr σ A) 0 = some ((), zalr σ (zfo (fun a => zgA (fun j => σ.1 87 0 j) (fun j => σ.1 88 0 j) (zsk σ 0 (d + 1)) (zsk σ 1 (d + 1)) a) m A)) := by
  have r25 : ∀ B, (zalr σ B).1 60 0 25 = nI m := fun B => (zalr_o σ B (by omega)).trans em
  have rd : ∀ B, (zalr σ B).1 60 0 0 = nI d := fun B => (zalr_o σ B (by omega)).trans ed
  refine zit_for (S := fun i => (zalr σ (zfo (fun a => zgA (fun j => σ.1 87 0 j) (fun j => σ.1 88 0 j) (zsk σ 0 (d + 1)) (zsk σ 1 (d + 1)) a) i A), nI i)) _ m 0 F (fun j _ hj rec => ?_) (fun rec => ?_) (by omega)
  · unfold zl25
    simp only
    rw [r25, if_neg (nle_s (by omega) (by omega)), rd, e_X11_grow hF (by omega) hd eg es, zb_s, nI_1]
    rfl
  · unfold zl25
    simp only
    rw [r25, Nat.zero_add, if_pos (Int32.le_refl _)]
theorem e_X11_feedOn {σ : zMem} {A : zAl} {a h : Nat} (ha : a < 4) (hh : h < 10) (eu : σ.1 60 0 11 = 71) (eg : σ.1 60 0 28 = 89) (F : Nat) : f_X11_feedOn F (zalr σ A) (nI a) (nI h) = some (zmin (σ.1 72 a h) (A.1 a / 3), zalr σ (zup1 A.1 a (A.1 a - 3 * zmin (σ.1 72 a h) (A.1 a / 3)), A.2.1, A.2.2.1, A.2.2.2)) := by
  have i1 := inb_n ha (by omega)
  have i2 := nI_clamp (show a < 2 ^ 31 by omega)
  have i3 := inb_n hh (by omega)
  have i4 := nI_clamp (show h < 2 ^ 31 by omega)
  have t1 : (71 : Int32).toNatClampNeg = 71 := by decide
  have t2 : zdU 71 = true := by decide
  have t3 : (89 : Int32).toNatClampNeg = 89 := by decide
  have t4 : zdG 89 = true := by decide
  have ru : ∀ B, (zalr σ B).1 60 0 11 = 71 := fun B => (zalr_o σ B (by omega)).trans eu
  have rg : ∀ B, (zalr σ B).1 60 0 28 = 89 := fun B => (zalr_o σ B (by omega)).trans eg
  have r72 : ∀ B, (zalr σ B).1 (71 + 1) a h = σ.1 72 a h := fun B => zalr_o σ B (by omega)
  unfold f_X11_feedOn
  rw [ru, rg, t1, t3, zg_i t2, zg_i i1, zg_i i3, zg_i t4, zg_i i1, zg_i (by decide), zg_i t4, zg_i i1, zg_i i1, i2, i4, r72, zalr_rg, zalr_g]
/-- the reference's grazing -/
theorem e_fields_60 {σ : zMem} {A : zAl} {a n F : Nat} (hF : 100 < F) (ha : a < 4) (hn : n ≤ 10) (e : σ.1 60 0 1 = nI n) (eu : σ.1 60 0 11 = 71) (eg : σ.1 60 0 28 = 89) (rec50 : zMem → Int32 → Option (Unit × zMem)) : zit (f_X11_fields_60 F rec50) F (zalr σ A) (nI a, 0) = rec50 (zalr σ (zfo (fun h => zfA (fun a h => σ.1 72 a h) a h) n A)) (nI (a + 1)) := by
  have i1 := inb_n ha (by omega)
  have i2 := nI_clamp (show a < 2 ^ 31 by omega)
  have t1 : (71 : Int32).toNatClampNeg = 71 := by decide
  have t2 : zdU 71 = true := by decide
  have r01 : ∀ B, (zalr σ B).1 60 0 1 = nI n := fun B => (zalr_o σ B (by omega)).trans e
  have ru : ∀ B, (zalr σ B).1 60 0 11 = 71 := fun B => (zalr_o σ B (by omega)).trans eu
  refine zit_for (S := fun i => (zalr σ (zfo (fun h => zfA (fun a h => σ.1 72 a h) a h) i A), (nI a, nI i))) _ n 0 F (fun j _ hj rec => ?_) (fun rec => ?_) (by omega)
  · have i3 := inb_n (show j < 10 by omega) (by omega)
    have i4 := nI_clamp (show j < 2 ^ 31 by omega)
    have r72 : ∀ B, (zalr σ B).1 (71 + 1) a j = σ.1 72 a j := fun B => zalr_o σ B (by omega)
    unfold f_X11_fields_60
    simp only
    rw [r01, if_neg (nle_s (by omega) (by omega)), e_X11_feedOn ha (by omega) eu eg, zb_s, zg_i i3, zg_i i3, zg_i i3, i4, zalr_rm, zalr_m, ru, t1, zg_i t2, zg_i i1, zg_i i3, zg_i i3, zalr_rh, i2, r72, zalr_h, nI_1]
    rfl
  · unfold f_X11_fields_60
    simp only
    rw [r01, Nat.zero_add, if_pos (Int32.le_refl _), nI_1]
theorem e_fields_50 {σ : zMem} {A : zAl} {m n F : Nat} (hF : 100 < F) (hm : m ≤ 4) (hn : n ≤ 10) (e : σ.1 60 0 1 = nI n) (em : σ.1 60 0 25 = nI m) (eu : σ.1 60 0 11 = 71) (eg : σ.1 60 0 28 = 89) : zit (f_X11_fields_50 F) F (zalr σ A) 0 = some ((), zalr σ (zfo (fun a A => zfo (fun h => zfA (fun a h => σ.1 72 a h) a h) n A) m A)) := by
  have r25 : ∀ B, (zalr σ B).1 60 0 25 = nI m := fun B => (zalr_o σ B (by omega)).trans em
  refine zit_for (S := fun i => (zalr σ (zfo (fun a A => zfo (fun h => zfA (fun a h => σ.1 72 a h) a h) n A) i A), nI i)) _ m 0 F (fun j _ hj rec => ?_) (fun rec => ?_) (by omega)
  · unfold f_X11_fields_50
    rw [r25, if_neg (nle_s (by omega) (by omega)), e_fields_60 hF (by omega) hn e eu eg]
    rfl
  · unfold f_X11_fields_50
    rw [r25, Nat.zero_add, if_pos (Int32.le_refl _)]
theorem e_X11_fields {σ : zMem} {m n d F : Nat} (hF : 8000 < F) (hm : m ≤ 4) (hn : n ≤ 10) (hd : d < 7200) (ed : σ.1 60 0 0 = nI d) (e : σ.1 60 0 1 = nI n) (em : σ.1 60 0 25 = nI m) (eu : σ.1 60 0 11 = 71) (eg : σ.1 60 0 28 = 89) (es : σ.1 60 0 29 = 90) : f_X11_fields F σ = some ((), zalr σ (zfo (fun a A => zfo (fun h => zfA (fun a h => σ.1 72 a h) a h) n A) m (zfo (fun a => zgA (fun j => σ.1 87 0 j) (fun j => σ.1 88 0 j) (zsk σ 0 (d + 1)) (zsk σ 1 (d + 1)) a) m (zfo zrA n (fun j => σ.1 89 0 j, fun j => σ.1 90 0 j, fun i => σ.1 64 0 i, fun i => σ.1 63 0 i))))) := by
  unfold f_X11_fields
  have h := e_zl2 (σ := σ) (A := (fun j => σ.1 89 0 j, fun j => σ.1 90 0 j, fun i => σ.1 64 0 i, fun i => σ.1 63 0 i)) (F := F) (by omega) hn e
  rw [zalr_0] at h
  rw [s_fields_2 F F σ 0 trivial, h, zb_s, s_fields_25 F F _ 0 trivial, e_zl25 hF hm hd ed em eg es, zb_s, e_fields_50 (by omega) hm hn e em eu eg]
