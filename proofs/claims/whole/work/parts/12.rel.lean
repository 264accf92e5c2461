/-! LAYER 3: the relation between the class's cells and the reference's; pure facts about the functions f_.. -/
theorem zb_s {β α : Type} (a : β) (m : zMem) (g : β → zMem → Option (α × zMem)) : zb (some (a, m)) g = g a m := rfl
theorem zb_n {β α : Type} (g : β → zMem → Option (α × zMem)) : zb (none : Option (β × zMem)) g = none := rfl
theorem zg_t {β : Type} (o : Option β) : zg true o = o := rfl
theorem zg_i {β : Type} {b : Bool} {o : Option β} (h : b = true) : zg b o = o := by rw [h]; rfl
theorem inb_n {i n : Nat} (h : i < n) (hn : n < 100000) : inb (nI i) n = true := by
  have h1 : ¬ nI i < 0 := nI_pos (by omega)
  have h2 : (nI i).toNatClampNeg = i := nI_clamp (by omega)
  simp [inb, h1, h2]
  omega
/-- a loop whose states are told one by one -/
theorem zit_for {tl β : Type} {b : (zMem → tl → Option β) → zMem → tl → Option β} (S : Nat → zMem × tl) (res : Option β) : ∀ (n i F : Nat), (∀ j, i ≤ j → j < i + n → ∀ rec, b rec (S j).1 (S j).2 = rec (S (j + 1)).1 (S (j + 1)).2) → (∀ rec, b rec (S (i + n)).1 (S (i + n)).2 = res) → n < F → zit b F (S i).1 (S i).2 = res
  | 0, i, F, _, he, hF => by
    obtain ⟨F, rfl⟩ : ∃ G, F = G + 1 := ⟨F - 1, by omega⟩
    exact he _
  | n + 1, i, F, hs, he, hF => by
    obtain ⟨F, rfl⟩ : ∃ G, F = G + 1 := ⟨F - 1, by omega⟩
    show b (zit b F) (S i).1 (S i).2 = res
    rw [hs i (Nat.le_refl i) (by omega)]
    exact zit_for S res n (i + 1) F (fun j h1 h2 rec => hs j (by omega) (by omega) rec) (fun rec => by
      have := he rec
      rw [show i + (n + 1) = i + 1 + n by omega] at this
      exact this) (by omega)
def zsum (f : Nat → Int32) : Nat → Int32
  | 0 => 0
  | n + 1 => zsum f n + f n
theorem zsum_c {f g : Nat → Int32} : ∀ {n : Nat}, (∀ i, i < n → f i = g i) → zsum f n = zsum g n
  | 0, _ => rfl
  | n + 1, h => by
    show zsum f n + f n = zsum g n + g n
    rw [zsum_c (fun i hi => h i (by omega)), h n (by omega)]
/-- houses -/
def zRh (σ : zMem) : Prop :=
  (∃ n, n ≤ 10 ∧ σ.1 0 0 1 = nI n) ∧ σ.1 60 0 1 = σ.1 0 0 1 ∧
  (∀ h j, h < 10 → j < 4 → σ.1 3 h j = σ.1 62 h j) ∧
  (∀ h, h < 10 → σ.1 2 h 2 = σ.1 62 h 4 ∧ σ.1 2 h 3 = σ.1 63 0 h ∧ σ.1 2 h 4 = σ.1 64 0 h ∧ σ.1 2 h 5 = σ.1 65 0 h ∧ σ.1 2 h 6 = σ.1 67 0 h ∧ σ.1 2 h 7 = σ.1 68 0 h ∧ σ.1 2 h 9 = σ.1 66 0 h ∧ σ.1 2 h 10 = σ.1 69 0 h ∧ σ.1 2 h 11 = σ.1 70 0 h) ∧
  (∀ h a, h < 10 → a < 4 → σ.1 4 h a = σ.1 72 a h) ∧
  σ.1 60 0 11 = 71
theorem zRh_n {σ : zMem} (h : zRh σ) : ∃ n, n ≤ 10 ∧ σ.1 0 0 1 = nI n ∧ σ.1 60 0 1 = nI n := by
  obtain ⟨⟨n, h1, h2⟩, h3, -⟩ := h
  exact ⟨n, h1, h2, h3.trans h2⟩
/-- a number of a row of n, or none such -/
theorem zix {n : Nat} (hn : n ≤ 1000) (x : Int32) : (∃ h, h < n ∧ x = nI h ∧ ¬ x < 0 ∧ ¬ nI n ≤ x ∧ ¬ nI n - 1 < x ∧ x < nI n) ∨ ((∀ h, h < n → x ≠ nI h) ∧ (x < 0 ∨ (¬ x < 0 ∧ nI n ≤ x ∧ nI n - 1 < x ∧ ¬ x < nI n))) := by
  by_cases h0 : x < 0
  · refine Or.inr ⟨fun h hh q => ?_, Or.inl h0⟩
    rw [q] at h0
    exact nI_pos (by omega) h0
  · obtain ⟨j, hj, rfl⟩ := nI_of h0
    have hm : nI n - 1 < nI j ↔ n ≤ j := by
      cases n with
      | zero =>
        refine ⟨fun _ => Nat.zero_le _, fun _ => ?_⟩
        rw [Int32.lt_iff_toInt_lt, nI_toInt hj]
        have : (nI 0 - 1).toInt = -1 := by decide
        omega
      | succ m =>
        rw [nI_pred, nI_ltI (by omega) hj]
        omega
    by_cases h1 : n ≤ j
    · refine Or.inr ⟨fun h hh q => ?_, Or.inr ⟨h0, (nI_leI (by omega) hj).mpr h1, hm.mpr h1, fun q => ?_⟩⟩
      · have := (nI_eq hj (by omega)).mp q
        omega
      · have := (nI_ltI hj (by omega)).mp q
        omega
    · exact Or.inl ⟨j, by omega, rfl, h0, fun q => h1 ((nI_leI (by omega) hj).mp q), fun q => h1 (hm.mp q), (nI_ltI hj (by omega)).mpr (by omega)⟩
theorem e_X11_in (F : Nat) (σ : zMem) (x a b : Int32) : f_X11_in F σ x a b = some (if x < a then 0 else if b < x then 0 else 1, σ) := by
  unfold f_X11_in
  by_cases h1 : x < a
  · simp [h1]
  · by_cases h2 : b < x <;> simp [h1, h2]
theorem e_X10_isHouse {σ : zMem} {n : Nat} (e : σ.1 0 0 1 = nI n) (F : Nat) {x : Int32} (h0 : ¬ x < 0) (h1 : ¬ nI n ≤ x) : f_X10_isHouse F σ x = some (1, σ) := by
  unfold f_X10_isHouse
  rw [e, if_neg h0, if_neg h1]
theorem n_X10_isHouse {σ : zMem} {n : Nat} (e : σ.1 0 0 1 = nI n) (F : Nat) {x : Int32} (h : x < 0 ∨ (¬ x < 0 ∧ nI n ≤ x ∧ nI n - 1 < x ∧ ¬ x < nI n)) : f_X10_isHouse F σ x = some (0, σ) := by
  unfold f_X10_isHouse
  rw [e]
  rcases h with h | ⟨h0, h1, -⟩
  · rw [if_pos h]
  · rw [if_neg h0, if_pos h1]
theorem e_X11_isHouse {σ : zMem} {n : Nat} (e : σ.1 60 0 1 = nI n) (F : Nat) {x : Int32} (h0 : ¬ x < 0) (h1 : ¬ nI n - 1 < x) : f_X11_isHouse F σ x = some (1, σ) := by
  unfold f_X11_isHouse
  rw [e, e_X11_in, if_neg h0, if_neg h1]
  rfl
theorem n_X11_isHouse {σ : zMem} {n : Nat} (e : σ.1 60 0 1 = nI n) (F : Nat) {x : Int32} (h : x < 0 ∨ (¬ x < 0 ∧ nI n ≤ x ∧ nI n - 1 < x ∧ ¬ x < nI n)) : f_X11_isHouse F σ x = some (0, σ) := by
  unfold f_X11_isHouse
  rw [e, e_X11_in]
  rcases h with h | ⟨h0, -, h1, -⟩
  · rw [if_pos h]
    rfl
  · rw [if_neg h0, if_pos h1]
    rfl
/-- cows up of a house, in all -/
def zup (σ : zMem) (h : Nat) : Int32 := 0 + σ.1 4 h 0 + σ.1 4 h 1 + σ.1 4 h 2 + σ.1 4 h 3
theorem e_X2_allUp {σ : zMem} {F h : Nat} (hF : 100 < F) (hh : h < 10) : f_X2_allUp F σ h = some (zup σ h, σ) := by
  unfold f_X2_allUp
  rw [zg_i (by simpa using hh)]
  refine zit_for (S := fun i => (σ, (h, zsum (fun a => σ.1 4 h a) i, nI i))) _ 4 0 F (fun j _ hj rec => ?_) (fun rec => ?_) (by omega)
  · unfold f_X2_allUp_4
    simp only
    rw [zg_i (by simpa using hh), if_neg (fun q => by have := (nI_leI (a := 4) (b := j) (by omega) (by omega)).mp q; omega), zg_i (inb_n (by omega) (by omega)), nI_clamp (by omega), nI_1]
    rfl
  · unfold f_X2_allUp_4
    simp only
    rw [zg_i (by simpa using hh), if_pos (by decide)]
    rfl
