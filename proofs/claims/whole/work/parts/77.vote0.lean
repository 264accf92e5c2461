/-! vote: both sides read the same tape; what each writes lies in scratch cells told by S -/
def zsp (P : Nat → Nat → Nat → Bool) (σ : zMem) (S : Nat → Nat → Int32) : zMem := (fun K i j => if P K i j = true then S K j else σ.1 K i j, σ.2)
theorem zsp_i {P : Nat → Nat → Nat → Bool} {σ : zMem} (S : Nat → Nat → Int32) {K i j : Nat} (h : P K i j = true) : (zsp P σ S).1 K i j = S K j := if_pos h
theorem zsp_o {P : Nat → Nat → Nat → Bool} {σ : zMem} (S : Nat → Nat → Int32) {K i j : Nat} (h : P K i j = false) : (zsp P σ S).1 K i j = σ.1 K i j := if_neg (by rw [h]; decide)
theorem zsp_w {P : Nat → Nat → Nat → Bool} (hP : ∀ K i i' j, P K i j = true → P K i' j = true → i = i') {σ : zMem} (S : Nat → Nat → Int32) {K i j : Nat} (v : Int32) (h : P K i j = true) : zwi (zsp P σ S) K i j v = zsp P σ (zup2 S K j v) := by
  refine Prod.ext ?_ rfl
  funext K' i' j'
  show (if K' = K ∧ i' = i ∧ j' = j then v else if P K' i' j' = true then S K' j' else σ.1 K' i' j') = (if P K' i' j' = true then (if K' = K ∧ j' = j then v else S K' j') else σ.1 K' i' j')
  by_cases q : K' = K ∧ i' = i ∧ j' = j
  · obtain ⟨rfl, rfl, rfl⟩ := q
    rw [if_pos ⟨rfl, rfl, rfl⟩, if_pos h, if_pos ⟨rfl, rfl⟩]
  · rw [if_neg q]
    by_cases p : P K' i' j' = true
    · rw [if_pos p, if_pos p, if_neg (fun w => q ⟨w.1, hP K i' i j (by rw [← w.1, ← w.2]; exact p) h, w.2⟩)]
    · rw [if_neg p, if_neg p]
theorem zup2_i (S : Nat → Nat → Int32) (K j : Nat) (v : Int32) : zup2 S K j v K j = v := if_pos ⟨rfl, rfl⟩
theorem zup2_n (S : Nat → Nat → Int32) {K j K' j' : Nat} (v : Int32) (h : ¬ (K' = K ∧ j' = j)) : zup2 S K j v K' j' = S K' j' := if_neg h
theorem zup2_2 (S : Nat → Nat → Int32) (K j : Nat) (v w : Int32) : zup2 (zup2 S K j v) K j w = zup2 S K j w := by
  funext a b
  show (if a = K ∧ b = j then w else (if a = K ∧ b = j then v else S a b)) = (if a = K ∧ b = j then w else S a b)
  by_cases q : a = K ∧ b = j
  · rw [if_pos q, if_pos q]
  · rw [if_neg q, if_neg q, if_neg q]
theorem zup2_cm (S : Nat → Nat → Int32) {K j K' j' : Nat} (v w : Int32) (h : ¬ (K = K' ∧ j = j')) : zup2 (zup2 S K j v) K' j' w = zup2 (zup2 S K' j' w) K j v := by
  funext a b
  show (if a = K' ∧ b = j' then w else (if a = K ∧ b = j then v else S a b)) = (if a = K ∧ b = j then v else (if a = K' ∧ b = j' then w else S a b))
  by_cases q : a = K ∧ b = j
  · rw [if_pos q, if_pos q, if_neg (fun p => h ⟨q.1.symm.trans p.1, q.2.symm.trans p.2⟩)]
  · rw [if_neg q, if_neg q]
/-- the class's scratch cells: the place, and row c of the words -/
def zPc (c K i j : Nat) : Bool := (decide (K = 11) && decide (i = 0) && decide (j = 4)) || (decide (13 ≤ K) && decide (K ≤ 18) && decide (i = c))
theorem zPc_u (c : Nat) : ∀ K i i' j, zPc c K i j = true → zPc c K i' j = true → i = i' := by
  intro K i i' j h1 h2
  simp [zPc] at h1 h2
  omega
def zvc (σ : zMem) (c : Nat) (S : Nat → Nat → Int32) (p : Nat) : zMem := zsp (zPc c) σ (zup2 S 11 4 (nI p))
theorem zvc_p (σ : zMem) (c : Nat) (S : Nat → Nat → Int32) (p q : Nat) : zwi (zvc σ c S p) 11 0 4 (nI q) = zvc σ c S q := by
  unfold zvc
  rw [zsp_w (zPc_u c) _ _ (by simp [zPc]), zup2_2]
theorem zvc_r (σ : zMem) (c : Nat) (S : Nat → Nat → Int32) (p : Nat) : (zvc σ c S p).1 11 0 4 = nI p := by
  unfold zvc
  rw [zsp_i _ (by simp [zPc]), zup2_i]
theorem zvc_o (σ : zMem) (c : Nat) (S : Nat → Nat → Int32) (p : Nat) {K i j : Nat} (h : zPc c K i j = false) : (zvc σ c S p).1 K i j = σ.1 K i j := zsp_o _ h
theorem zvc_w (σ : zMem) (c : Nat) (S : Nat → Nat → Int32) (p : Nat) {K j : Nat} (v : Int32) (h1 : 13 ≤ K) (h2 : K ≤ 18) : zwi (zvc σ c S p) K c j v = zvc σ c (zup2 S K j v) p := by
  unfold zvc
  rw [zsp_w (zPc_u c) _ _ (by simp [zPc, h1, h2]), zup2_cm _ _ _ (by omega)]
theorem zvc_i (σ : zMem) (c : Nat) (S : Nat → Nat → Int32) (p : Nat) {K j : Nat} (h1 : 13 ≤ K) (h2 : K ≤ 18) : (zvc σ c S p).1 K c j = S K j := by
  unfold zvc
  rw [zsp_i _ (by simp [zPc, h1, h2]), zup2_n _ _ (by omega)]
/-- the reference's: at, fault, found, row c of the words, of the tests, the test being read -/
def zPv (c K i j : Nat) : Bool := (decide (K = 60) && decide (i = 0) && decide (58 ≤ j) && decide (j ≤ 60)) || (decide (K = 80) && decide (i = c)) || (decide (K = 82) && decide (i = c)) || (decide (K = 111) && decide (i = 0))
theorem zPv_u (c : Nat) : ∀ K i i' j, zPv c K i j = true → zPv c K i' j = true → i = i' := by
  intro K i i' j h1 h2
  simp [zPv] at h1 h2
  omega
def zrs (σ : zMem) (c : Nat) (S : Nat → Nat → Int32) (a f o : Int32) : zMem := zsp (zPv c) σ (zup2 (zup2 (zup2 S 60 58 a) 60 59 f) 60 60 o)
theorem zrs_a (σ : zMem) (c : Nat) (S : Nat → Nat → Int32) (a f o v : Int32) : zwi (zrs σ c S a f o) 60 0 58 v = zrs σ c S v f o := by
  unfold zrs
  rw [zsp_w (zPv_u c) _ _ (by simp [zPv]), zup2_cm _ _ _ (by decide), zup2_cm (zup2 S 60 58 a) _ _ (by decide), zup2_2]
theorem zrs_f (σ : zMem) (c : Nat) (S : Nat → Nat → Int32) (a f o v : Int32) : zwi (zrs σ c S a f o) 60 0 59 v = zrs σ c S a v o := by
  unfold zrs
  rw [zsp_w (zPv_u c) _ _ (by simp [zPv]), zup2_cm _ _ _ (by decide), zup2_2]
theorem zrs_n (σ : zMem) (c : Nat) (S : Nat → Nat → Int32) (a f o v : Int32) : zwi (zrs σ c S a f o) 60 0 60 v = zrs σ c S a f v := by
  unfold zrs
  rw [zsp_w (zPv_u c) _ _ (by simp [zPv]), zup2_2]
theorem zrs_ra (σ : zMem) (c : Nat) (S : Nat → Nat → Int32) (a f o : Int32) : (zrs σ c S a f o).1 60 0 58 = a := by
  unfold zrs
  rw [zsp_i _ (by simp [zPv]), zup2_n _ _ (by decide), zup2_n _ _ (by decide), zup2_i]
theorem zrs_rf (σ : zMem) (c : Nat) (S : Nat → Nat → Int32) (a f o : Int32) : (zrs σ c S a f o).1 60 0 59 = f := by
  unfold zrs
  rw [zsp_i _ (by simp [zPv]), zup2_n _ _ (by decide), zup2_i]
theorem zrs_rn (σ : zMem) (c : Nat) (S : Nat → Nat → Int32) (a f o : Int32) : (zrs σ c S a f o).1 60 0 60 = o := by
  unfold zrs
  rw [zsp_i _ (by simp [zPv]), zup2_i]
theorem zrs_o (σ : zMem) (c : Nat) (S : Nat → Nat → Int32) (a f o : Int32) {K i j : Nat} (h : zPv c K i j = false) : (zrs σ c S a f o).1 K i j = σ.1 K i j := zsp_o _ h
theorem zrs_w (σ : zMem) (c : Nat) (S : Nat → Nat → Int32) (a f o : Int32) {K i j : Nat} (v : Int32) (h : zPv c K i j = true) (h2 : K ≠ 60) : zwi (zrs σ c S a f o) K i j v = zrs σ c (zup2 S K j v) a f o := by
  unfold zrs
  rw [zsp_w (zPv_u c) _ _ h, zup2_cm _ _ _ (fun w => h2 w.1.symm), zup2_cm (zup2 S 60 58 a) _ _ (fun w => h2 w.1.symm), zup2_cm S _ _ (fun w => h2 w.1.symm)]
theorem zrs_i (σ : zMem) (c : Nat) (S : Nat → Nat → Int32) (a f o : Int32) {K i j : Nat} (h : zPv c K i j = true) (h2 : K ≠ 60) : (zrs σ c S a f o).1 K i j = S K j := by
  unfold zrs
  rw [zsp_i _ h, zup2_n _ _ (fun w => h2 w.1), zup2_n _ _ (fun w => h2 w.1), zup2_n _ _ (fun w => h2 w.1)]
/-- the tape t of n bytes, as either side has it -/
def ztC (σ : zMem) (t : Nat → Nat) (n : Nat) : Prop := n ≤ 100 ∧ σ.1 11 0 3 = nI n ∧ ∀ j, j < n → t j < 256 ∧ σ.1 19 0 j = (nI (t j)).toInt8.toInt32
def ztR (σ : zMem) (t : Nat → Nat) (n : Nat) : Prop := n ≤ 100 ∧ σ.1 60 0 19 = nI n ∧ ∀ j, j < n → t j < 256 ∧ σ.1 78 0 j = nI (t j)
theorem zby1 : ∀ b, b < 256 → ∀ c, c < 128 → ((nI b).toInt8.toInt32 = nI c ↔ b = c) := by decide +kernel
theorem zby2 : ∀ b, b < 256 → (if 48 ≤ b ∧ b ≤ 57 then ¬ ((nI b).toInt8.toInt32 - 48 < 0) ∧ (nI b).toInt8.toInt32 - 48 ≤ 9 ∧ (nI b).toInt8.toInt32 - 48 = nI (b - 48) else (nI b).toInt8.toInt32 - 48 < 0 ∨ ¬ (nI b).toInt8.toInt32 - 48 ≤ 9) := by decide +kernel
/-- how much of a text stands at p -/
def zlp (t : Nat → Nat) (n : Nat) : List Nat → Nat → Nat
  | [], _ => 0
  | c :: w, p => if p < n ∧ t p = c then 1 + zlp t n w (p + 1) else 0
theorem zlp_0 {t : Nat → Nat} {n p c : Nat} (w : List Nat) (h : ¬ (p < n ∧ t p = c)) : zlp t n (c :: w) p = 0 := if_neg h
theorem zlp_1 {t : Nat → Nat} {n p c : Nat} (w : List Nat) (h : p < n ∧ t p = c) : zlp t n (c :: w) p = 1 + zlp t n w (p + 1) := if_pos h
theorem zlp_le (t : Nat → Nat) (n : Nat) : ∀ (w : List Nat) p, zlp t n w p ≤ w.length
  | [], _ => Nat.le_refl 0
  | c :: w, p => by
    have := zlp_le t n w (p + 1)
    show (if p < n ∧ t p = c then 1 + zlp t n w (p + 1) else 0) ≤ w.length + 1
    split <;> omega
theorem zlp_n (t : Nat → Nat) (n : Nat) : ∀ (w : List Nat) {p}, p ≤ n → p + zlp t n w p ≤ n
  | [], _, h => h
  | c :: w, p, h => by
    by_cases q : p < n ∧ t p = c
    · have := zlp_n t n w (p := p + 1) q.1
      rw [zlp_1 w q]
      omega
    · rw [zlp_0 w q]
      omega
/-- strings -/
theorem zstl : ∀ j, j < 28 → zSlen.getD j 0 = (zSbyt.getD j []).length := by decide
theorem zbok : ∀ j, j < 28 → ∀ i, i < 41 → ((((zSbyt.getD j []).getD i 0) &&& 255).toUInt32 % 65536).toInt32 = (zSbyt.getD j []).getD i 0 ∧ zch ((zSbyt.getD j []).getD i 0) = true := by decide +kernel
theorem zstm : ∀ j, j < 28 → (zSbyt.getD j []).length ≤ 41 := by decide
theorem e_slen {F j : Nat} {σ : zMem} (hj : j < 28) : f_J0_length_8abf5 F σ j = some (nI (zSbyt.getD j []).length, σ) := by
  unfold f_J0_length_8abf5 f_J0_coder_7d493
  rw [zg_i (decide_eq_true hj), zg_i (decide_eq_true hj), zb_s, zg_i (by decide), zstl j hj]
  rfl
theorem e_schar {F j i : Nat} {σ : zMem} (hj : j < 28) (hi : i < (zSbyt.getD j []).length) : f_J0_charAt_5068e F σ j (nI i) = some ((zSbyt.getD j []).getD i 0, σ) := by
  have hm := zstm j hj
  obtain ⟨b1, b2⟩ := zbok j hj i (by omega)
  have n1 : ¬ nI i < 0 := nI_pos (by omega)
  have n2 : nI i < nI (zSbyt.getD j []).length := nI_lt hi (by omega)
  have n3 : nI i < Int32.ofNat (zSbyt.getD j []).length := n2
  unfold f_J0_charAt_5068e f_J0_isLatin1_aae02 f_J1_charAt_3b067 f_J0_checkIndex_df160 f_J3_checkIndex_8e157
  rw [zg_i (decide_eq_true hj), zg_i (decide_eq_true hj), zb_s, if_neg (by decide), zg_i (decide_eq_true hj), if_neg n1, zstl j hj, if_pos n3, zb_s, zb_s, zg_i (inb_n hi (by omega)), nI_clamp (show i < 2 ^ 31 by omega), zb_s, b1, zg_i b2]
theorem zdrop_at {l : List Int32} {s : Nat} {x : Int32} {r : List Int32} (h : l.drop s = x :: r) : s < l.length ∧ l.getD s 0 = x ∧ l.drop (s + 1) = r := by
  have h1 : s < l.length := by
    by_cases q : s < l.length
    · exact q
    · rw [List.drop_eq_nil_of_le (Nat.not_lt.mp q)] at h
      cases h
  have h2 := List.drop_eq_getElem_cons h1
  rw [h] at h2
  injection h2 with h3 h4
  refine ⟨h1, ?_, h4.symm⟩
  rw [List.getD_eq_getElem?_getD, List.getElem?_eq_getElem h1, h3]
  rfl

