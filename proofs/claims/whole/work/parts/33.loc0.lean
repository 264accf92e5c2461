/-! the class's functions touch the cells of kinds below 60 alone, the reference's those from 60 on -/
def zmx (σ τ : zMem) : zMem := (fun k i j => if k < 60 then σ.1 k i j else τ.1 k i j, fun k i j => if k < 60 then σ.2 k i j else τ.2 k i j)
def zM {α : Type} (τ : zMem) (o : Option (α × zMem)) : Option (α × zMem) := match o with
  | none => none
  | some p => some (p.1, zmx p.2 τ)
def zY {α : Type} (τ : zMem) (o : Option (α × zMem)) : Option (α × zMem) := match o with
  | none => none
  | some p => some (p.1, zmx τ p.2)
theorem zmx_x {σ τ : zMem} {k : Nat} (h : k < 60) (i j : Nat) : (zmx σ τ).1 k i j = σ.1 k i j := if_pos h
theorem zml_x {σ τ : zMem} {k : Nat} (h : k < 60) (i j : Nat) : (zmx σ τ).2 k i j = σ.2 k i j := if_pos h
theorem zmx_y {σ τ : zMem} {k : Nat} (h : 60 ≤ k) (i j : Nat) : (zmx σ τ).1 k i j = τ.1 k i j := if_neg (by omega)
theorem zml_y {σ τ : zMem} {k : Nat} (h : 60 ≤ k) (i j : Nat) : (zmx σ τ).2 k i j = τ.2 k i j := if_neg (by omega)
theorem zwi_x {σ τ : zMem} {k : Nat} (h : k < 60) (i j : Nat) (v : Int32) : zwi (zmx σ τ) k i j v = zmx (zwi σ k i j v) τ := by
  refine Prod.ext ?_ rfl
  funext a b c
  simp only [zwi, zu, zmx]
  by_cases q : a = k ∧ b = i ∧ c = j
  · rw [if_pos q, if_pos q, if_pos (by rw [q.1]; exact h)]
  · rw [if_neg q, if_neg q]
theorem zwi_y {σ τ : zMem} {k : Nat} (h : 60 ≤ k) (i j : Nat) (v : Int32) : zwi (zmx τ σ) k i j v = zmx τ (zwi σ k i j v) := by
  refine Prod.ext ?_ rfl
  funext a b c
  simp only [zwi, zu, zmx]
  by_cases q : a = k ∧ b = i ∧ c = j
  · rw [if_pos q, if_pos q, if_neg (by rw [q.1]; omega)]
  · rw [if_neg q, if_neg q]
theorem zwl_x {σ τ : zMem} {k : Nat} (h : k < 60) (i j : Nat) (v : Int64) : zwl (zmx σ τ) k i j v = zmx (zwl σ k i j v) τ := by
  refine Prod.ext rfl ?_
  funext a b c
  simp only [zwl, zu, zmx]
  by_cases q : a = k ∧ b = i ∧ c = j
  · rw [if_pos q, if_pos q, if_pos (by rw [q.1]; exact h)]
  · rw [if_neg q, if_neg q]
theorem zwl_y {σ τ : zMem} {k : Nat} (h : 60 ≤ k) (i j : Nat) (v : Int64) : zwl (zmx τ σ) k i j v = zmx τ (zwl σ k i j v) := by
  refine Prod.ext rfl ?_
  funext a b c
  simp only [zwl, zu, zmx]
  by_cases q : a = k ∧ b = i ∧ c = j
  · rw [if_pos q, if_pos q, if_neg (by rw [q.1]; omega)]
  · rw [if_neg q, if_neg q]
theorem zM_zb {β α : Type} (τ : zMem) (o : Option (β × zMem)) (g : β → zMem → Option (α × zMem)) : zb (zM τ o) g = zb o (fun r m => g r (zmx m τ)) := by
  cases o <;> rfl
theorem zY_zb {β α : Type} (τ : zMem) (o : Option (β × zMem)) (g : β → zMem → Option (α × zMem)) : zb (zY τ o) g = zb o (fun r m => g r (zmx τ m)) := by
  cases o <;> rfl
theorem zM_fun {β α : Type} (τ : zMem) (o : Option (β × zMem)) (g : β → zMem → Option (α × zMem)) : zb o (fun r m => zM τ (g r m)) = zM τ (zb o g) := by
  cases o <;> rfl
theorem zY_fun {β α : Type} (τ : zMem) (o : Option (β × zMem)) (g : β → zMem → Option (α × zMem)) : zb o (fun r m => zY τ (g r m)) = zY τ (zb o g) := by
  cases o <;> rfl
theorem zM_ite {α : Type} (c : Prop) [Decidable c] (τ : zMem) (a b : Option (α × zMem)) : (if c then zM τ a else zM τ b) = zM τ (if c then a else b) := by
  by_cases h : c <;> simp only [if_pos, if_neg, h, not_false_eq_true]
theorem zY_ite {α : Type} (c : Prop) [Decidable c] (τ : zMem) (a b : Option (α × zMem)) : (if c then zY τ a else zY τ b) = zY τ (if c then a else b) := by
  by_cases h : c <;> simp only [if_pos, if_neg, h, not_false_eq_true]
theorem zM_iten {α : Type} (c : Prop) [Decidable c] (τ : zMem) (a : Option (α × zMem)) : (if c then zM τ a else none) = zM τ (if c then a else none) := by
  by_cases h : c
  · rw [if_pos h, if_pos h]
  · rw [if_neg h, if_neg h]
    rfl
theorem zY_iten {α : Type} (c : Prop) [Decidable c] (τ : zMem) (a : Option (α × zMem)) : (if c then zY τ a else none) = zY τ (if c then a else none) := by
  by_cases h : c
  · rw [if_pos h, if_pos h]
  · rw [if_neg h, if_neg h]
    rfl
theorem zM_zg {α : Type} (b : Bool) (τ : zMem) (o : Option (α × zMem)) : zg b (zM τ o) = zM τ (zg b o) := by
  cases b <;> rfl
theorem zY_zg {α : Type} (b : Bool) (τ : zMem) (o : Option (α × zMem)) : zg b (zY τ o) = zY τ (zg b o) := by
  cases b <;> rfl
theorem zM_some {α : Type} (τ σ : zMem) (r : α) : some (r, zmx σ τ) = zM τ (some (r, σ)) := rfl
theorem zY_some {α : Type} (τ σ : zMem) (r : α) : some (r, zmx τ σ) = zY τ (some (r, σ)) := rfl
theorem x_it {tl α : Type} (τ : zMem) {b b2 : (zMem → tl → Option (α × zMem)) → zMem → tl → Option (α × zMem)} (h : ∀ r r2 : zMem → tl → Option (α × zMem), (∀ s y, r (zmx s τ) y = zM τ (r2 s y)) → ∀ s y, b r (zmx s τ) y = zM τ (b2 r2 s y)) : ∀ F s y, zit b F (zmx s τ) y = zM τ (zit b2 F s y)
  | 0, _, _ => rfl
  | F + 1, s, y => h (zit b F) (zit b2 F) (x_it τ h F) s y
theorem y_it {tl α : Type} (τ : zMem) {b b2 : (zMem → tl → Option (α × zMem)) → zMem → tl → Option (α × zMem)} (h : ∀ r r2 : zMem → tl → Option (α × zMem), (∀ s y, r (zmx τ s) y = zY τ (r2 s y)) → ∀ s y, b r (zmx τ s) y = zY τ (b2 r2 s y)) : ∀ F s y, zit b F (zmx τ s) y = zY τ (zit b2 F s y)
  | 0, _, _ => rfl
  | F + 1, s, y => h (zit b F) (zit b2 F) (y_it τ h F) s y
theorem zmx_self (σ : zMem) : zmx σ σ = σ := by
  refine Prod.ext ?_ ?_
  · funext k i j
    show (if k < 60 then σ.1 k i j else σ.1 k i j) = σ.1 k i j
    split <;> rfl
  · funext k i j
    show (if k < 60 then σ.2 k i j else σ.2 k i j) = σ.2 k i j
    split <;> rfl
theorem zmx_l (σ τ ρ : zMem) : zmx (zmx σ τ) ρ = zmx σ ρ := by
  refine Prod.ext ?_ ?_
  · funext k i j
    show (if k < 60 then (if k < 60 then σ.1 k i j else τ.1 k i j) else ρ.1 k i j) = (if k < 60 then σ.1 k i j else ρ.1 k i j)
    split <;> rfl
  · funext k i j
    show (if k < 60 then (if k < 60 then σ.2 k i j else τ.2 k i j) else ρ.2 k i j) = (if k < 60 then σ.2 k i j else ρ.2 k i j)
    split <;> rfl
theorem zmx_r (σ τ ρ : zMem) : zmx σ (zmx τ ρ) = zmx σ ρ := by
  refine Prod.ext ?_ ?_
  · funext k i j
    show (if k < 60 then σ.1 k i j else (if k < 60 then τ.1 k i j else ρ.1 k i j)) = (if k < 60 then σ.1 k i j else ρ.1 k i j)
    split <;> rfl
  · funext k i j
    show (if k < 60 then σ.2 k i j else (if k < 60 then τ.2 k i j else ρ.2 k i j)) = (if k < 60 then σ.2 k i j else ρ.2 k i j)
    split <;> rfl
theorem zdU_c (n : Nat) : zdU n = false ∨ n = 71 ∨ n = 115 := by
  by_cases h1 : n = 71
  · exact Or.inr (Or.inl h1)
  · by_cases h2 : n = 115
    · exact Or.inr (Or.inr h2)
    · exact Or.inl (by simp [zdU, h1, h2])
theorem zdG_c (n : Nat) : zdG n = false ∨ n = 89 ∨ n = 113 := by
  by_cases h1 : n = 89
  · exact Or.inr (Or.inl h1)
  · by_cases h2 : n = 113
    · exact Or.inr (Or.inr h2)
    · exact Or.inl (by simp [zdG, h1, h2])
theorem zdS_c (n : Nat) : zdS n = false ∨ n = 90 ∨ n = 114 := by
  by_cases h1 : n = 90
  · exact Or.inr (Or.inl h1)
  · by_cases h2 : n = 114
    · exact Or.inr (Or.inr h2)
    · exact Or.inl (by simp [zdS, h1, h2])
theorem zg_0 {β : Type} (o : Option β) : zg false o = none := rfl
theorem zg_n {β : Type} (b : Bool) : zg b (none : Option β) = none := by cases b <;> rfl
theorem zY_none {α : Type} (τ : zMem) : zY τ (none : Option (α × zMem)) = none := rfl
