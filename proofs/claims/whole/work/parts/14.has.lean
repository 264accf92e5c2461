theorem e_X7_has {σ : zMem} {n : Nat} (e : σ.1 38 0 1 = nI n) (F : Nat) {x : Int32} (h0 : ¬ x < 0) (h1 : ¬ nI n ≤ x) : f_X7_has F σ x = some (1, σ) := by
  unfold f_X7_has
  rw [e, if_neg h0, if_neg h1]
theorem n_X7_has {σ : zMem} {n : Nat} (e : σ.1 38 0 1 = nI n) (F : Nat) {x : Int32} (h : x < 0 ∨ (¬ x < 0 ∧ nI n ≤ x ∧ nI n - 1 < x ∧ ¬ x < nI n)) : f_X7_has F σ x = some (0, σ) := by
  unfold f_X7_has
  rw [e]
  rcases h with h | ⟨h0, h1, -⟩
  · rw [if_pos h]
  · rw [if_neg h0, if_pos h1]
theorem e_X0_has {σ : zMem} {n : Nat} (e : σ.1 25 0 4 = nI n) (F : Nat) {x : Int32} (h0 : ¬ x < 0) (h1 : ¬ nI n ≤ x) : f_X0_has F σ x = some (1, σ) := by
  unfold f_X0_has
  rw [e, if_neg h0, if_neg h1]
theorem n_X0_has {σ : zMem} {n : Nat} (e : σ.1 25 0 4 = nI n) (F : Nat) {x : Int32} (h : x < 0 ∨ (¬ x < 0 ∧ nI n ≤ x ∧ nI n - 1 < x ∧ ¬ x < nI n)) : f_X0_has F σ x = some (0, σ) := by
  unfold f_X0_has
  rw [e]
  rcases h with h | ⟨h0, h1, -⟩
  · rw [if_pos h]
  · rw [if_neg h0, if_pos h1]
theorem e_X3_has {σ : zMem} {n : Nat} (e : σ.1 5 0 5 = nI n) (F : Nat) {x : Int32} (h0 : ¬ x < 0) (h1 : ¬ nI n ≤ x) : f_X3_has F σ x = some (1, σ) := by
  unfold f_X3_has
  rw [e, if_neg h0, if_neg h1]
theorem n_X3_has {σ : zMem} {n : Nat} (e : σ.1 5 0 5 = nI n) (F : Nat) {x : Int32} (h : x < 0 ∨ (¬ x < 0 ∧ nI n ≤ x ∧ nI n - 1 < x ∧ ¬ x < nI n)) : f_X3_has F σ x = some (0, σ) := by
  unfold f_X3_has
  rw [e]
  rcases h with h | ⟨h0, h1, -⟩
  · rw [if_pos h]
  · rw [if_neg h0, if_pos h1]
theorem e_X9_has {σ : zMem} {n : Nat} (e : σ.1 11 0 1 = nI n) (F : Nat) {x : Int32} (h0 : ¬ x < 0) (h1 : ¬ nI n ≤ x) : f_X9_has F σ x = some (1, σ) := by
  unfold f_X9_has
  rw [e, if_neg h0, if_neg h1]
theorem n_X9_has {σ : zMem} {n : Nat} (e : σ.1 11 0 1 = nI n) (F : Nat) {x : Int32} (h : x < 0 ∨ (¬ x < 0 ∧ nI n ≤ x ∧ nI n - 1 < x ∧ ¬ x < nI n)) : f_X9_has F σ x = some (0, σ) := by
  unfold f_X9_has
  rw [e]
  rcases h with h | ⟨h0, h1, -⟩
  · rw [if_pos h]
  · rw [if_neg h0, if_pos h1]
theorem e_X11_isRight {σ : zMem} {n : Nat} (e : σ.1 60 0 12 = nI n) (F : Nat) {x : Int32} (h0 : ¬ x < 0) (h1 : ¬ nI n - 1 < x) : f_X11_isRight F σ x = some (1, σ) := by
  unfold f_X11_isRight
  rw [e, e_X11_in, if_neg h0, if_neg h1]
  rfl
theorem n_X11_isRight {σ : zMem} {n : Nat} (e : σ.1 60 0 12 = nI n) (F : Nat) {x : Int32} (h : x < 0 ∨ (¬ x < 0 ∧ nI n ≤ x ∧ nI n - 1 < x ∧ ¬ x < nI n)) : f_X11_isRight F σ x = some (0, σ) := by
  unfold f_X11_isRight
  rw [e, e_X11_in]
  rcases h with h | ⟨h0, -, h1, -⟩
  · rw [if_pos h]
    rfl
  · rw [if_neg h0, if_pos h1]
    rfl
theorem e_X11_isAlp {σ : zMem} {n : Nat} (e : σ.1 60 0 25 = nI n) (F : Nat) {x : Int32} (h0 : ¬ x < 0) (h1 : ¬ nI n - 1 < x) : f_X11_isAlp F σ x = some (1, σ) := by
  unfold f_X11_isAlp
  rw [e, e_X11_in, if_neg h0, if_neg h1]
  rfl
theorem n_X11_isAlp {σ : zMem} {n : Nat} (e : σ.1 60 0 25 = nI n) (F : Nat) {x : Int32} (h : x < 0 ∨ (¬ x < 0 ∧ nI n ≤ x ∧ nI n - 1 < x ∧ ¬ x < nI n)) : f_X11_isAlp F σ x = some (0, σ) := by
  unfold f_X11_isAlp
  rw [e, e_X11_in]
  rcases h with h | ⟨h0, -, h1, -⟩
  · rw [if_pos h]
    rfl
  · rw [if_neg h0, if_pos h1]
    rfl
theorem e_X11_isSlope {σ : zMem} {n : Nat} (e : σ.1 60 0 32 = nI n) (F : Nat) {x : Int32} (h0 : ¬ x < 0) (h1 : ¬ nI n - 1 < x) : f_X11_isSlope F σ x = some (1, σ) := by
  unfold f_X11_isSlope
  rw [e, e_X11_in, if_neg h0, if_neg h1]
  rfl
theorem n_X11_isSlope {σ : zMem} {n : Nat} (e : σ.1 60 0 32 = nI n) (F : Nat) {x : Int32} (h : x < 0 ∨ (¬ x < 0 ∧ nI n ≤ x ∧ nI n - 1 < x ∧ ¬ x < nI n)) : f_X11_isSlope F σ x = some (0, σ) := by
  unfold f_X11_isSlope
  rw [e, e_X11_in]
  rcases h with h | ⟨h0, -, h1, -⟩
  · rw [if_pos h]
    rfl
  · rw [if_neg h0, if_pos h1]
    rfl
theorem zwi_id {σ : zMem} {k i j : Nat} {v : Int32} (h : σ.1 k i j = v) : zwi σ k i j v = σ := by
  refine Prod.ext ?_ rfl
  funext a b c
  by_cases q : a = k ∧ b = i ∧ c = j
  · obtain ⟨rfl, rfl, rfl⟩ := q
    simp [zwi, zu, h]
  · simp [zwi, zu, q]
theorem zOK_same {f g : zMem → Option (Int32 × zMem)} {σ : zMem} (hR : zRel σ) (r : Int32) (h1 : f σ = some (r, σ)) (h2 : g σ = some (r, σ)) : zOK f g σ := ⟨r, σ, σ, h1, h2, hR⟩
