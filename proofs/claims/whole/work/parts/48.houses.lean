/-! a day lived: the houses -/
/-- HAY, HUNGRY, DEBT by houses -/
abbrev zBt : Type := (Nat → Int32) × (Nat → Int32) × (Nat → Int32)
def zbc (σ : zMem) (B : zBt) : zMem := (fun k i j => if k = 3 ∧ j = 3 then B.1 i else if k = 2 ∧ j = 3 then B.2.1 i else if k = 2 ∧ j = 2 then B.2.2 i else σ.1 k i j, σ.2)
def zbr (σ : zMem) (B : zBt) : zMem := (fun k i j => if k = 62 ∧ j = 3 then B.1 i else if k = 63 ∧ i = 0 then B.2.1 j else if k = 62 ∧ j = 4 then B.2.2 i else σ.1 k i j, σ.2)
theorem zbc_0 (σ : zMem) : zbc σ (fun i => σ.1 3 i 3, fun i => σ.1 2 i 3, fun i => σ.1 2 i 2) = σ := by
  refine Prod.ext ?_ rfl
  funext k i j
  simp only [zbc]
  by_cases h1 : k = 3 ∧ j = 3
  · rw [if_pos h1, h1.1, h1.2]
  · rw [if_neg h1]
    by_cases h2 : k = 2 ∧ j = 3
    · rw [if_pos h2, h2.1, h2.2]
    · rw [if_neg h2]
      by_cases h3 : k = 2 ∧ j = 2
      · rw [if_pos h3, h3.1, h3.2]
      · rw [if_neg h3]
theorem zbr_0 (σ : zMem) : zbr σ (fun i => σ.1 62 i 3, fun i => σ.1 63 0 i, fun i => σ.1 62 i 4) = σ := by
  refine Prod.ext ?_ rfl
  funext k i j
  simp only [zbr]
  by_cases h1 : k = 62 ∧ j = 3
  · rw [if_pos h1, h1.1, h1.2]
  · rw [if_neg h1]
    by_cases h2 : k = 63 ∧ i = 0
    · rw [if_pos h2, h2.1, h2.2]
    · rw [if_neg h2]
      by_cases h3 : k = 62 ∧ j = 4
      · rw [if_pos h3, h3.1, h3.2]
      · rw [if_neg h3]
theorem zbc_a (σ : zMem) (B : zBt) (a : Nat) (v : Int32) : zwi (zbc σ B) 3 a 3 v = zbc σ (zup1 B.1 a v, B.2.1, B.2.2) := by
  refine Prod.ext ?_ rfl
  funext x y z
  simp only [zwi, zu, zbc, zup1]
  by_cases h1 : x = 3 ∧ y = a ∧ z = 3
  · obtain ⟨rfl, rfl, rfl⟩ := h1
    simp
  · rw [if_neg h1]
    by_cases h2 : x = 3
    · subst h2
      simp at h1 ⊢
      by_cases h3 : z = 3
      · simp [h3] at h1 ⊢
        simp [h1]
      · simp [h3]
    · simp [h2]
theorem zbc_u (σ : zMem) (B : zBt) (a : Nat) (v : Int32) : zwi (zbc σ B) 2 a 3 v = zbc σ (B.1, zup1 B.2.1 a v, B.2.2) := by
  refine Prod.ext ?_ rfl
  funext x y z
  simp only [zwi, zu, zbc, zup1]
  by_cases h1 : x = 2 ∧ y = a ∧ z = 3
  · obtain ⟨rfl, rfl, rfl⟩ := h1
    simp
  · rw [if_neg h1]
    by_cases h2 : x = 2
    · subst h2
      simp at h1 ⊢
      by_cases h3 : z = 3
      · simp [h3] at h1 ⊢
        simp [h1]
      · simp [h3]
    · simp [h2]
theorem zbc_d (σ : zMem) (B : zBt) (a : Nat) (v : Int32) : zwi (zbc σ B) 2 a 2 v = zbc σ (B.1, B.2.1, zup1 B.2.2 a v) := by
  refine Prod.ext ?_ rfl
  funext x y z
  simp only [zwi, zu, zbc, zup1]
  by_cases h1 : x = 2 ∧ y = a ∧ z = 2
  · obtain ⟨rfl, rfl, rfl⟩ := h1
    simp
  · rw [if_neg h1]
    by_cases h2 : x = 2
    · subst h2
      simp at h1 ⊢
      by_cases h3 : z = 2
      · simp [h3] at h1 ⊢
        simp [h1]
      · simp [h3]
    · simp [h2]
theorem zbr_a (σ : zMem) (B : zBt) (a : Nat) (v : Int32) : zwi (zbr σ B) 62 a 3 v = zbr σ (zup1 B.1 a v, B.2.1, B.2.2) := by
  refine Prod.ext ?_ rfl
  funext x y z
  simp only [zwi, zu, zbr, zup1]
  by_cases h1 : x = 62 ∧ y = a ∧ z = 3
  · obtain ⟨rfl, rfl, rfl⟩ := h1
    simp
  · rw [if_neg h1]
    by_cases h2 : x = 62
    · subst h2
      simp at h1 ⊢
      by_cases h3 : z = 3
      · simp [h3] at h1 ⊢
        simp [h1]
      · simp [h3]
    · simp [h2]
theorem zbr_u (σ : zMem) (B : zBt) (a : Nat) (v : Int32) : zwi (zbr σ B) 63 0 a v = zbr σ (B.1, zup1 B.2.1 a v, B.2.2) := by
  refine Prod.ext ?_ rfl
  funext x y z
  simp only [zwi, zu, zbr, zup1]
  by_cases h1 : x = 63 ∧ y = 0 ∧ z = a
  · obtain ⟨rfl, rfl, rfl⟩ := h1
    simp
  · rw [if_neg h1]
    by_cases h2 : x = 63
    · subst h2
      simp at h1 ⊢
      by_cases h3 : y = 0
      · simp [h3] at h1 ⊢
        simp [h1]
      · simp [h3]
    · simp [h2]
theorem zbr_d (σ : zMem) (B : zBt) (a : Nat) (v : Int32) : zwi (zbr σ B) 62 a 4 v = zbr σ (B.1, B.2.1, zup1 B.2.2 a v) := by
  refine Prod.ext ?_ rfl
  funext x y z
  simp only [zwi, zu, zbr, zup1]
  by_cases h1 : x = 62 ∧ y = a ∧ z = 4
  · obtain ⟨rfl, rfl, rfl⟩ := h1
    simp
  · rw [if_neg h1]
    by_cases h2 : x = 62
    · subst h2
      simp at h1 ⊢
      by_cases h3 : z = 4
      · simp [h3] at h1 ⊢
        simp [h1]
      · simp [h3]
    · simp [h2]
theorem zbc_ra (σ : zMem) (B : zBt) (i : Nat) : (zbc σ B).1 3 i 3 = B.1 i := by simp [zbc]
theorem zbc_ru (σ : zMem) (B : zBt) (i : Nat) : (zbc σ B).1 2 i 3 = B.2.1 i := by simp [zbc]
theorem zbc_rd (σ : zMem) (B : zBt) (i : Nat) : (zbc σ B).1 2 i 2 = B.2.2 i := by simp [zbc]
theorem zbr_ra (σ : zMem) (B : zBt) (i : Nat) : (zbr σ B).1 62 i 3 = B.1 i := by simp [zbr]
theorem zbr_ru (σ : zMem) (B : zBt) (i : Nat) : (zbr σ B).1 63 0 i = B.2.1 i := by simp [zbr]
theorem zbr_rd (σ : zMem) (B : zBt) (i : Nat) : (zbr σ B).1 62 i 4 = B.2.2 i := by simp [zbr]
theorem zbc_o (σ : zMem) (B : zBt) {k i j : Nat} (h : ¬ (k = 3 ∧ j = 3) ∧ ¬ (k = 2 ∧ (j = 2 ∨ j = 3))) : (zbc σ B).1 k i j = σ.1 k i j := by
  obtain ⟨h1, h2⟩ := h
  simp only [zbc]
  rw [if_neg h1, if_neg (fun q => h2 ⟨q.1, Or.inr q.2⟩), if_neg (fun q => h2 ⟨q.1, Or.inl q.2⟩)]
theorem zbr_o (σ : zMem) (B : zBt) {k i j : Nat} (h : ¬ (k = 62 ∧ (j = 3 ∨ j = 4)) ∧ ¬ k = 63) : (zbr σ B).1 k i j = σ.1 k i j := by
  obtain ⟨h1, h2⟩ := h
  simp only [zbr]
  rw [if_neg (fun q => h1 ⟨q.1, Or.inl q.2⟩), if_neg (fun q => h2 q.1), if_neg (fun q => h1 ⟨q.1, Or.inr q.2⟩)]
/-- what a house has, with its HAY as in B -/
def zHB (σ : zMem) (B : zBt) (h : Nat) : Nat → Int32 := fun j => if j = 3 then B.1 h else σ.1 62 h j
def zVB (σ : zMem) (nw : Nat) (B : zBt) (h : Nat) (key : Int32) : Int32 := zval σ (zHB σ B h) nw key (σ.1 60 0 0) (σ.1 60 0 0)
theorem zVB_c {σ : zMem} {nw : Nat} {B C : zBt} {h : Nat} (e : B.1 h = C.1 h) (key : Int32) : zVB σ nw B h key = zVB σ nw C h key := by
  unfold zVB zHB
  rw [e]
theorem e_wB_c {σ : zMem} (hR : zRel σ) {B : zBt} {h nw F : Nat} (hF : 100 < F) (hh : h < 10) (hn : nw ≤ 40) (e11 : σ.1 11 0 1 = nI nw) {key : Int32} (hk : inb key 8 = true) : f_X10_worthNow F (zbc σ B) h key = some (zVB σ nw B h key, zbc σ B) := by
  have hW : zRw (zbc σ B) := by
    have := hR.2.2.1
    simpa [zRw, zbc] using this
  rw [e_X10_worthNow hW hh hF hn ((zbc_o σ B (by omega)).trans e11) hk]
  unfold zVB
  rw [zval_s (σ := σ) (s := zbc σ B) (by funext i j; exact zbc_o σ B (by omega)) (by funext i j; exact zbc_o σ B (by omega)), zbc_o σ B (by omega), ← hR.2.2.2.2.1.2.1]
  rw [zval_c (G := zHB σ B h)]
  intro j hj
  unfold zHB
  by_cases e : j = 3
  · rw [if_pos e, e, zbc_ra]
  · rw [if_neg e, zbc_o σ B (by omega)]
    exact hR.1.2.2.1 h j hh hj
theorem e_wB_r {σ : zMem} (hW0 : zRw σ) {B : zBt} {h nw F : Nat} (hF : 100 < F) (hh : h < 10) (hn : nw ≤ 40) (e20 : σ.1 60 0 20 = nI nw) {key : Int32} (hk : inb key 8 = true) : f_X11_now F (zbr σ B) (nI h) key = some (zVB σ nw B h key, zbr σ B) := by
  have hW : zRw (zbr σ B) := by
    simpa [zRw, zbr] using hW0
  rw [e_X11_now hW hh hF hn ((zbr_o σ B (by omega)).trans e20) hk]
  unfold zVB
  rw [zval_s (σ := σ) (s := zbr σ B) (by funext i j; exact zbr_o σ B (by omega)) (by funext i j; exact zbr_o σ B (by omega)), zbr_o σ B (by omega)]
  rw [zval_c (G := zHB σ B h)]
  intro j hj
  unfold zHB
  by_cases e : j = 3
  · rw [if_pos e, e, zbr_ra]
  · rw [if_neg e, zbr_o σ B (by omega)]
/-- winter at home -/
def zwB (co up : Nat → Int32) (h : Nat) (B : zBt) : zBt := (zup1 B.1 h (B.1 h - zmin (co h - up h) (B.1 h)), zup1 B.2.1 h (B.2.1 h + (co h - up h - zmin (co h - up h) (B.1 h))), B.2.2)
/-- fines out of season -/
def zxB (V : zBt → Nat → Int32 → Int32) (se : Int32) (up : Nat → Int32) (h : Nat) (B : zBt) : zBt := if V B h 3 ≤ se ∨ se < V B h 2 then (B.1, B.2.1, zup1 B.2.2 h (zminl 99999999 ((B.2.2 h).toInt64 + (V B h 5).toInt64 * (up h).toInt64)).toInt32) else B
theorem zwx_cm {V : zBt → Nat → Int32 → Int32} (hV : ∀ B C h key, B.1 h = C.1 h → V B h key = V C h key) {se : Int32} {co up : Nat → Int32} {a b : Nat} (hab : ¬ a = b) (B : zBt) : zwB co up a (zxB V se up b B) = zxB V se up b (zwB co up a B) := by
  have hba : ¬ b = a := fun q => hab q.symm
  have e : ∀ key, V (zwB co up a B) b key = V B b key := fun key => hV _ _ _ _ (zup1_ne _ _ hba)
  unfold zxB
  rw [e, e, e]
  by_cases q : V B b 3 ≤ se ∨ se < V B b 2
  · rw [if_pos q, if_pos q]
    rfl
  · rw [if_neg q, if_neg q]
theorem zwx_cm2 {V : zBt → Nat → Int32 → Int32} (hV : ∀ B C h key, B.1 h = C.1 h → V B h key = V C h key) {se : Int32} {co up : Nat → Int32} {a : Nat} : ∀ (n : Nat), n ≤ a → ∀ (B : zBt), zwB co up a (zfo (zxB V se up) n B) = zfo (zxB V se up) n (zwB co up a B)
  | 0, _, _ => rfl
  | n + 1, hn, B => by
    show zwB co up a (zxB V se up n (zfo _ n B)) = zxB V se up n (zfo _ n (zwB co up a B))
    rw [zwx_cm hV (by omega), zwx_cm2 hV n (by omega) B]
theorem zfo_Z {β : Type} (f : Nat → β → β) (A : β) : zfo f 0 A = A := rfl
theorem zfo_S {β : Type} (f : Nat → β → β) (n : Nat) (A : β) : zfo f (n + 1) A = f n (zfo f n A) := rfl
theorem zwx_eq {V : zBt → Nat → Int32 → Int32} (hV : ∀ B C h key, B.1 h = C.1 h → V B h key = V C h key) {se : Int32} {co up : Nat → Int32} (n : Nat) (B : zBt) : zfo (fun h B => zxB V se up h (zwB co up h B)) n B = zfo (zxB V se up) n (zfo (zwB co up) n B) := by
  induction n with
  | zero => rw [zfo_Z, zfo_Z, zfo_Z]
  | succ n ih => rw [zfo_S, zfo_S, zfo_S, ih, zwx_cm2 hV n (Nat.le_refl n)]
/-- bounds of HAY and DEBT -/
def zinB (B : zBt) : Prop := ∀ h, h < 10 → zib (B.1 h) 0 99999 ∧ zib (B.2.2 h) 0 99999999
theorem zinB_w {co up : Nat → Int32} {h : Nat} (hh : h < 10) (hc : 0 ≤ (up h).toInt ∧ (up h).toInt ≤ (co h).toInt ∧ (co h).toInt ≤ 99) {B : zBt} (hB : zinB B) : zinB (zwB co up h B) := by
  intro j hj
  refine ⟨?_, (hB j hj).2⟩
  show zib (zup1 B.1 h _ j) 0 99999
  unfold zup1
  split
  · obtain ⟨b0, b1⟩ := (hB h hh).1
    have e1 : (co h - up h).toInt = (co h).toInt - (up h).toInt := t_sub (by omega) (by omega)
    obtain ⟨m0, m1, m2⟩ := zmin_b (x := co h - up h) (y := B.1 h) (by omega) b0
    have e2 : (B.1 h - zmin (co h - up h) (B.1 h)).toInt = (B.1 h).toInt - (zmin (co h - up h) (B.1 h)).toInt := t_sub (by omega) (by omega)
    exact ⟨by omega, by omega⟩
  · exact (hB j hj).1
theorem fin_b {v u : Int32} (hv : zib v 0 99999) (hu : 0 ≤ u.toInt ∧ u.toInt ≤ 99) : 0 ≤ (v.toInt64 * u.toInt64).toInt ∧ (v.toInt64 * u.toInt64).toInt ≤ 2000000000000000000 := by
  rw [zl_mul]
  have m0 : 0 ≤ v.toInt * u.toInt := Int.mul_nonneg hv.1 hu.1
  have m1 : v.toInt * u.toInt ≤ 99999 * 99 := Int.le_trans (Int.mul_le_mul_of_nonneg_right hv.2 hu.1) (Int.mul_le_mul_of_nonneg_left hu.2 (by omega))
  omega
theorem zinB_x {V : zBt → Nat → Int32 → Int32} {se : Int32} {up : Nat → Int32} {h : Nat} (hh : h < 10) (hV : ∀ B, zib (V B h 5) 0 99999) (hu : 0 ≤ (up h).toInt ∧ (up h).toInt ≤ 99) {B : zBt} (hB : zinB B) : zinB (zxB V se up h B) := by
  unfold zxB
  split
  · intro j hj
    refine ⟨(hB j hj).1, ?_⟩
    show zib (zup1 B.2.2 h _ j) 0 99999999
    unfold zup1
    split
    · have f := fin_b (hV B) hu
      have o := owe_eq (c := (V B h 5).toInt64 * (up h).toInt64) (hB h hh).2 f.1 f.2
      rw [o.1]
      exact o.2.1
    · exact (hB j hj).2
  · exact hB
def zeqB (B C : zBt) : Prop := ∀ h, h < 10 → B.1 h = C.1 h ∧ B.2.1 h = C.2.1 h ∧ B.2.2 h = C.2.2 h
theorem zeqB_w {co up : Nat → Int32} {a : Nat} (ha : a < 10) {B C : zBt} (h : zeqB B C) : zeqB (zwB co up a B) (zwB co up a C) := by
  obtain ⟨e1, e2, e3⟩ := h a ha
  intro j hj
  refine ⟨?_, ?_, (h j hj).2.2⟩
  · show zup1 B.1 a _ j = zup1 C.1 a _ j
    rw [e1]
    unfold zup1
    split
    · rfl
    · exact (h j hj).1
  · show zup1 B.2.1 a _ j = zup1 C.2.1 a _ j
    rw [e1, e2]
    unfold zup1
    split
    · rfl
    · exact (h j hj).2.1
theorem zeqB_x {V : zBt → Nat → Int32 → Int32} (hV : ∀ B C h key, B.1 h = C.1 h → V B h key = V C h key) {se : Int32} {up : Nat → Int32} {a : Nat} (ha : a < 10) {B C : zBt} (h : zeqB B C) : zeqB (zxB V se up a B) (zxB V se up a C) := by
  obtain ⟨e1, e2, e3⟩ := h a ha
  have e : ∀ key, V B a key = V C a key := fun key => hV _ _ _ _ e1
  unfold zxB
  rw [e, e, e]
  split
  · intro j hj
    refine ⟨(h j hj).1, (h j hj).2.1, ?_⟩
    show zup1 B.2.2 a _ j = zup1 C.2.2 a _ j
    rw [e3]
    unfold zup1
    split
    · rfl
    · exact (h j hj).2.2
  · exact h
theorem zup_B (σ : zMem) (B : zBt) (h : Nat) : zup (zbc σ B) h = zup σ h := by
  unfold zup
  rw [zbc_o σ B (by omega), zbc_o σ B (by omega), zbc_o σ B (by omega), zbc_o σ B (by omega)]
theorem e_B_atHome {σ : zMem} (hR : zRel σ) {B : zBt} {h F : Nat} (hF : 100 < F) (hh : h < 10) : f_X2_atHome F (zbc σ B) h = some (σ.1 62 h 2 - zup σ h, zbc σ B) := by
  unfold f_X2_atHome
  rw [zg_i (by simp; omega), zg_i (by decide), e_X2_allUp hF hh, zb_s, zup_B, zbc_o σ B (by omega), hR.1.2.2.1 h 2 hh (by omega)]
theorem e_B_winter {σ : zMem} (hR : zRel σ) {B : zBt} {h F : Nat} (hF : 100 < F) (hh : h < 10) : f_X2_winterAtHome F (zbc σ B) h = some ((), zbc σ (zwB (fun h => σ.1 62 h 2) (fun h => zup σ h) h B)) := by
  unfold f_X2_winterAtHome
  rw [zg_i (by simp; omega), e_B_atHome hR hF hh, zb_s, zg_i (by decide), zg_i (by decide), zg_i (by decide), zbc_ra, zbc_a, e_B_atHome hR hF hh, zb_s, zbc_ru, zbc_u]
  rfl
theorem e_B_134 {σ : zMem} (hR : zRel σ) {B : zBt} {h nw F : Nat} (hF : 100 < F) (hh : h < 10) (hn : nw ≤ 40) (e11 : σ.1 11 0 1 = nI nw) (hB : zinB B) (rec98 : zMem → Int32 × Int32 × Int32 × Int32 → Option (Unit × zMem)) (w f : Int32) : f_X10_liveDay_134 F rec98 (zbc σ B) w f (zrem (σ.1 60 0 0) 360) (nI h) h = rec98 (zbc σ (zxB (zVB σ nw) (zrem (σ.1 60 0 0) 360) (fun h => zup σ h) h B)) (w, f, zrem (σ.1 60 0 0) 360, nI (h + 1)) := by
  have gh : (decide (h < 10)) = true := by simp; omega
  obtain ⟨u1, u2, u3⟩ := zup_t hR hh
  have dd := hR.2.2.2.2.1.2.1
  have w5 : zib (zVB σ nw B h 5) 0 99999 := zval_b hR.2.2.1 e11 hn hR.2.2.2.2.2.2.2.2.2.2.2.2.1 (by decide) _ _ _
  have fb := fin_b w5 ⟨u2, u3⟩
  have o := owe_eq (c := (zVB σ nw B h 5).toInt64 * (zup σ h).toInt64) (hB h hh).2 fb.1 fb.2
  have t0 : (0 : Int32).toInt = 0 := rfl
  unfold f_X10_liveDay_134
  rw [zg_i gh, e_X2_allUp hF hh, zb_s, zup_B, nI_1]
  unfold zxB
  by_cases q : zup σ h ≤ 0
  · rw [if_pos q]
    have z : zup σ h = 0 := by
      apply Int32.toInt_inj.mp
      have := Int32.le_iff_toInt_le.mp q
      omega
    have e9 : (99999999 - B.2.2 h).toInt = 99999999 - (B.2.2 h).toInt := by
      have d0 := (hB h hh).2.1
      have d1 := (hB h hh).2.2
      have k9 : (99999999 : Int32).toInt = 99999999 := by decide
      rw [t_sub (by omega) (by omega), k9]
    have m0 : (zVB σ nw B h 5).toInt64 * (zup σ h).toInt64 = 0 := by
      rw [z]
      show _ * (0 : Int64) = 0
      rw [Int64.mul_zero]
    rw [m0] at o
    have z0 : (zminl 0 ((99999999 - B.2.2 h).toInt64)).toInt32 = 0 := by
      unfold zminl
      rw [if_neg]
      · rfl
      · rw [Int64.lt_iff_toInt_lt, Int32.toInt_toInt64, e9]
        have := (hB h hh).2.2
        have k0 : (0 : Int64).toInt = 0 := rfl
        omega
    rw [z0, Int32.add_zero] at o
    rw [m0, o.1, zup1_id]
    split <;> rfl
  · rw [if_neg q]
    unfold f_X10_inSeason
    rw [zg_i gh, zg_i (by decide), e_wB_c hR hF hh hn e11 (by decide), zb_s, zbc_o σ B (by omega), ← dd]
    have ow : zb (f_X10_worthNow F (zbc σ B) h 5) (fun r164 m164 => zb (f_X2_oweMore F m164 h ((zup σ h).toInt64 * r164.toInt64)) fun r169 m169 => rec98 m169 (w, f, zrem (σ.1 60 0 0) 360, nI (h + 1))) = rec98 (zbc σ (B.1, B.2.1, zup1 B.2.2 h (zminl 99999999 ((B.2.2 h).toInt64 + (zVB σ nw B h 5).toInt64 * (zup σ h).toInt64)).toInt32)) (w, f, zrem (σ.1 60 0 0) 360, nI (h + 1)) := by
      rw [e_wB_c hR hF hh hn e11 (by decide), zb_s]
      unfold f_X2_oweMore
      rw [zg_i gh, zb_s, zbc_rd, zbc_d, o.1, Int64.mul_comm (zVB σ nw B h 5).toInt64]
    by_cases q2 : zrem (σ.1 60 0 0) 360 < zVB σ nw B h 2
    · rw [if_pos q2, zb_s, if_pos rfl, ow, if_pos (Or.inr q2)]
    · rw [if_neg q2, e_wB_c hR hF hh hn e11 (by decide), zb_s]
      by_cases q3 : zVB σ nw B h 3 ≤ zrem (σ.1 60 0 0) 360
      · rw [if_pos q3, zb_s, if_pos rfl, ow, if_pos (Or.inl q3)]
      · rw [if_neg q3, zb_s, if_neg (by decide), if_neg (fun k => k.elim q3 q2)]
/-- the class's houses of a day alone -/
def zd98 (F : Nat) (rec98 : zMem → Int32 × Int32 × Int32 × Int32 → Option (Unit × zMem)) (σ : zMem) (x : Int32 × Int32 × Int32 × Int32) : Option (Unit × zMem) := if (σ.1 0 0 1) ≤ x.2.2.2 then some ((), σ) else (zg (inb x.2.2.2 10) (if x.2.2.1 < 120 then (f_X10_liveDay_129 F rec98 σ x.1 x.2.1 x.2.2.1 x.2.2.2 x.2.2.2.toNatClampNeg) else (if x.2.2.1 < 300 then (f_X10_liveDay_134 F rec98 σ x.1 x.2.1 x.2.2.1 x.2.2.2 x.2.2.2.toNatClampNeg) else (f_X10_liveDay_129 F rec98 σ x.1 x.2.1 x.2.2.1 x.2.2.2 x.2.2.2.toNatClampNeg))))
theorem s_liveDay_98 (F : Nat) (w f se : Int32) : ∀ G s y, (y.1 = w ∧ y.2.1 = f ∧ y.2.2.1 = se) → zit (f_X10_liveDay_98 F) G s y = zb (zit (zd98 F) G s y) (fun _ σ => zb (f_X7_live F σ w f) fun r185 m185 => if se = 0 then (zb (f_X7_ageWoods F m185) fun r196 m196 => f_X10_liveDay_199 F m196) else (f_X10_liveDay_199 F m185)) := by
  refine zit_split (fun (y : Int32 × Int32 × Int32 × Int32) => y.1 = w ∧ y.2.1 = f ∧ y.2.2.1 = se) fun r r2 hr s y hy => ?_
  obtain ⟨w', f', se', k⟩ := y
  obtain ⟨rfl, rfl, rfl⟩ := hy
  have hr2 : ∀ s k, r s (w', f', se', k) = zb (r2 s (w', f', se', k)) (fun _ σ => zb (f_X7_live F σ w' f') fun r185 m185 => if se' = 0 then (zb (f_X7_ageWoods F m185) fun r196 m196 => f_X10_liveDay_199 F m196) else (f_X10_liveDay_199 F m185)) := fun s k => hr s _ ⟨rfl, rfl, rfl⟩
  unfold f_X10_liveDay_98 zd98 f_X10_liveDay_129 f_X10_liveDay_134
  simp only [zb_ite, zb_s, zb_zg, zb_zb, hr2]
/-- what a day does to the houses -/
def zdB (σ : zMem) (nw n : Nat) (B : zBt) : zBt := zfo (zxB (zVB σ nw) (zrem (σ.1 60 0 0) 360) (fun h => zup σ h)) n (if zrem (σ.1 60 0 0) 360 < 120 ∨ ¬ zrem (σ.1 60 0 0) 360 < 300 then zfo (zwB (fun h => σ.1 62 h 2) (fun h => zup σ h)) n B else B)
theorem up_co {σ : zMem} (hR : zRel σ) {h : Nat} (hh : h < 10) : 0 ≤ (zup σ h).toInt ∧ (zup σ h).toInt ≤ (σ.1 62 h 2).toInt ∧ (σ.1 62 h 2).toInt ≤ 99 := by
  obtain ⟨u1, u2, u3⟩ := zup_t hR hh
  have k1 := (hR.2.2.2.2.2.2.2.2.2.2.2.1 h hh).2
  have k2 := (hR.2.2.2.2.2.2.2.2.2.2.1 h hh).2.2.1.2
  omega
theorem e_zd98 {σ : zMem} (hR : zRel σ) {B : zBt} {n nw F : Nat} (hF : 100 < F) (hn : n ≤ 10) (hnw : nw ≤ 40) (e1 : σ.1 0 0 1 = nI n) (e11 : σ.1 11 0 1 = nI nw) (hB : zinB B) (w f : Int32) : zit (zd98 F) F (zbc σ B) (w, f, zrem (σ.1 60 0 0) 360, 0) = some ((), zbc σ (zdB σ nw n B)) := by
  have r01 : ∀ C, (zbc σ C).1 0 0 1 = nI n := fun C => (zbc_o σ C (by omega)).trans e1
  have wb : ∀ h B, zib (zVB σ nw B h 5) 0 99999 := fun h B => zval_b hR.2.2.1 e11 hnw hR.2.2.2.2.2.2.2.2.2.2.2.2.1 (by decide) _ _ _
  have hV : ∀ (B C : zBt) (h : Nat) (key : Int32), B.1 h = C.1 h → zVB σ nw B h key = zVB σ nw C h key := fun B C h key e => zVB_c e key
  have ix : ∀ h B, h < 10 → zinB B → zinB (zxB (zVB σ nw) (zrem (σ.1 60 0 0) 360) (fun h => zup σ h) h B) := fun h B hh hB => by
    have u := up_co hR hh
    exact zinB_x hh (wb h) ⟨u.1, by omega⟩ hB
  have iw : ∀ h B, h < 10 → zinB B → zinB (zwB (fun h => σ.1 62 h 2) (fun h => zup σ h) h B) := fun h B hh hB => zinB_w hh (up_co hR hh) hB
  unfold zdB
  by_cases c : zrem (σ.1 60 0 0) 360 < 120 ∨ ¬ zrem (σ.1 60 0 0) 360 < 300
  · rw [if_pos c, ← zwx_eq hV]
    have iS : ∀ i, i ≤ 10 → zinB (zfo (fun h B => zxB (zVB σ nw) (zrem (σ.1 60 0 0) 360) (fun h => zup σ h) h (zwB (fun h => σ.1 62 h 2) (fun h => zup σ h) h B)) i B) := fun i hi => zfo_p (f := fun h B => zxB (zVB σ nw) (zrem (σ.1 60 0 0) 360) (fun h => zup σ h) h (zwB (fun h => σ.1 62 h 2) (fun h => zup σ h) h B)) (fun _ => zinB) (fun h hh B hB => ix h _ (by omega) (iw h B (by omega) hB)) B hB
    refine zit_for (S := fun i => (zbc σ (zfo (fun h B => zxB (zVB σ nw) (zrem (σ.1 60 0 0) 360) (fun h => zup σ h) h (zwB (fun h => σ.1 62 h 2) (fun h => zup σ h) h B)) i B), (w, f, zrem (σ.1 60 0 0) 360, nI i))) _ n 0 F (fun j _ hj rec => ?_) (fun rec => ?_) (by omega)
    · have k129 : f_X10_liveDay_129 F rec (zbc σ (zfo (fun h B => zxB (zVB σ nw) (zrem (σ.1 60 0 0) 360) (fun h => zup σ h) h (zwB (fun h => σ.1 62 h 2) (fun h => zup σ h) h B)) j B)) w f (zrem (σ.1 60 0 0) 360) (nI j) j = rec (zbc σ (zfo (fun h B => zxB (zVB σ nw) (zrem (σ.1 60 0 0) 360) (fun h => zup σ h) h (zwB (fun h => σ.1 62 h 2) (fun h => zup σ h) h B)) (j + 1) B)) (w, f, zrem (σ.1 60 0 0) 360, nI (j + 1)) := by
        unfold f_X10_liveDay_129
        rw [zg_i (by simp; omega), e_B_winter hR hF (by omega), zb_s, e_B_134 hR hF (by omega) hnw e11 (iw j _ (by omega) (iS j (by omega)))]
        rfl
      unfold zd98
      simp only
      rw [r01, if_neg (nle_s (by omega) (by omega)), zg_i (inb_n (by omega) (by omega)), nI_clamp (by omega), k129]
      rcases c with c | c
      · rw [if_pos c]
      · rw [if_neg c]
        split <;> rfl
    · unfold zd98
      simp only
      rw [r01, Nat.zero_add, if_pos (Int32.le_refl _)]
  · rw [if_neg c]
    have c1 : ¬ zrem (σ.1 60 0 0) 360 < 120 := fun q => c (Or.inl q)
    have c2 : zrem (σ.1 60 0 0) 360 < 300 := Decidable.not_not.mp (fun q => c (Or.inr q))
    have iS : ∀ i, i ≤ 10 → zinB (zfo (zxB (zVB σ nw) (zrem (σ.1 60 0 0) 360) (fun h => zup σ h)) i B) := fun i hi => zfo_p (f := zxB (zVB σ nw) (zrem (σ.1 60 0 0) 360) (fun h => zup σ h)) (fun _ => zinB) (fun h hh B hB => ix h _ (by omega) hB) B hB
    refine zit_for (S := fun i => (zbc σ (zfo (zxB (zVB σ nw) (zrem (σ.1 60 0 0) 360) (fun h => zup σ h)) i B), (w, f, zrem (σ.1 60 0 0) 360, nI i))) _ n 0 F (fun j _ hj rec => ?_) (fun rec => ?_) (by omega)
    · unfold zd98
      simp only
      rw [r01, if_neg (nle_s (by omega) (by omega)), zg_i (inb_n (by omega) (by omega)), nI_clamp (by omega), if_neg c1, if_pos c2, e_B_134 hR hF (by omega) hnw e11 (iS j (by omega))]
      rfl
    · unfold zd98
      simp only
      rw [r01, Nat.zero_add, if_pos (Int32.le_refl _)]
/-- the reference's houses -/
theorem e_stables {σ c : zMem} (hR : zRel σ) (hc : zmx c σ = c) (hW : zRw c) {n nw m F : Nat} (hF : 100 < F) (hn : n ≤ 10) (hnw : nw ≤ 40) (hm : m ≤ 4) (e2 : σ.1 60 0 1 = nI n) (e20 : σ.1 60 0 20 = nI nw) (em : σ.1 25 0 4 = nI m) (em2 : σ.1 60 0 25 = nI m) : f_X11_stables F c = some ((), zbr c (zdB σ nw n (fun i => σ.1 62 i 3, fun i => σ.1 63 0 i, fun i => σ.1 62 i 4))) := by
  have rc : ∀ k i j, 60 ≤ k → c.1 k i j = σ.1 k i j := fun k i j hk => by rw [← hc, zmx_y hk]
  have eu := hR.1.2.2.2.2.2
  have ro : ∀ B k i j, 60 ≤ k → (¬ (k = 62 ∧ (j = 3 ∨ j = 4)) ∧ ¬ k = 63) → (zbr c B).1 k i j = σ.1 k i j := fun B k i j hk h => (zbr_o c B h).trans (rc k i j hk)
  have V : ∀ B h key, zVB c nw B h key = zVB σ nw B h key := fun B h key => by
    unfold zVB
    rw [rc 60 0 0 (by omega), zval_s (σ := σ) (s := c) (by funext i j; exact rc _ _ _ (by omega)) (by funext i j; exact rc _ _ _ (by omega))]
    refine zval_c (fun j hj => ?_) _ _ _ _
    unfold zHB
    split
    · rfl
    · exact rc _ _ _ (by omega)
  have wn : ∀ B h key, h < 10 → inb key 8 = true → f_X11_now F (zbr c B) (nI h) key = some (zVB σ nw B h key, zbr c B) := fun B h key hh hk => by
    rw [e_wB_r hW hF hh hnw ((rc _ _ _ (by omega)).trans e20) hk, V]
  have uo : ∀ B h, h < 10 → f_X11_upOf F (zbr c B) (nI h) = some (zup σ h, zbr c B) := fun B h hh => by
    rw [e_X11_upOf hF hh hm ((ro B _ _ _ (by omega) (by omega)).trans em2) ((ro B _ _ _ (by omega) (by omega)).trans eu), ← zup_eq hR hh hm em]
    congr 2
    exact zsum_c fun i _ => ro B _ _ _ (by omega) (by omega)
  have r01 : ∀ B, (zbr c B).1 60 0 1 = nI n := fun B => (ro B _ _ _ (by omega) (by omega)).trans e2
  have k95 : ∀ B, zit (f_X11_stables_95 F) F (zbr c B) (zrem (σ.1 60 0 0) 360, 0) = some ((), zbr c (zfo (zxB (zVB σ nw) (zrem (σ.1 60 0 0) 360) (fun h => zup σ h)) n B)) := by
    intro B
    refine zit_for (S := fun i => (zbr c (zfo (zxB (zVB σ nw) (zrem (σ.1 60 0 0) 360) (fun h => zup σ h)) i B), (zrem (σ.1 60 0 0) 360, nI i))) _ n 0 F (fun j _ hj rec => ?_) (fun rec => ?_) (by omega)
    · have i1 := inb_n (show j < 10 by omega) (by omega)
      have i2 := nI_clamp (show j < 2 ^ 31 by omega)
      have k123 : ∀ B, f_X11_stables_123 F rec (zbr c B) (zrem (σ.1 60 0 0) 360) (nI j) = rec (zbr c (B.1, B.2.1, zup1 B.2.2 j (zminl 99999999 ((B.2.2 j).toInt64 + (zVB σ nw B j 5).toInt64 * (zup σ j).toInt64)).toInt32)) (zrem (σ.1 60 0 0) 360, nI (j + 1)) := by
        intro B
        unfold f_X11_stables_123
        rw [wn B j 5 (by omega) (by decide), zb_s, uo B j (by omega), zb_s]
        unfold f_X11_owes
        rw [zg_i i1, zg_i (by decide), zg_i i1, zg_i (by decide), zg_i i1, zg_i (by decide), i2, zbr_rd, zbr_d, zb_s, nI_1]
      show f_X11_stables_95 F rec (zbr c (zfo _ j B)) (zrem (σ.1 60 0 0) 360, nI j) = rec (zbr c (zxB _ _ _ j (zfo _ j B))) (zrem (σ.1 60 0 0) 360, nI (j + 1))
      generalize zfo (zxB (zVB σ nw) (zrem (σ.1 60 0 0) 360) (fun h => zup σ h)) j B = C
      unfold f_X11_stables_95 zxB
      simp only
      rw [r01, if_neg (nle_s (by omega) (by omega)), wn C j 3 (by omega) (by decide), zb_s, k123]
      by_cases q3 : zVB σ nw C j 3 ≤ zrem (σ.1 60 0 0) 360
      · rw [if_pos q3, if_pos (Or.inl q3)]
      · rw [if_neg q3, wn C j 2 (by omega) (by decide), zb_s, k123, nI_1]
        by_cases q2 : zVB σ nw C j 2 ≤ zrem (σ.1 60 0 0) 360
        · rw [if_pos q2, if_neg (fun k => k.elim q3 (Int32.not_lt.mpr q2))]
        · rw [if_neg q2, if_pos (Or.inr (Int32.not_le.mp q2))]
    · unfold f_X11_stables_95
      simp only
      rw [r01, Nat.zero_add, if_pos (Int32.le_refl _)]
  unfold f_X11_stables zdB
  rw [zg_i (by decide), rc 60 0 0 (by omega)]
  have c0 := zbr_0 c
  have c0' : zbr c (fun i => σ.1 62 i 3, fun i => σ.1 63 0 i, fun i => σ.1 62 i 4) = c := by
    have f1 : (fun i => c.1 62 i 3) = fun i => σ.1 62 i 3 := by funext i; exact rc _ _ _ (by omega)
    have f2 : (fun i => c.1 63 0 i) = fun i => σ.1 63 0 i := by funext i; exact rc _ _ _ (by omega)
    have f3 : (fun i => c.1 62 i 4) = fun i => σ.1 62 i 4 := by funext i; exact rc _ _ _ (by omega)
    rw [f1, f2, f3] at c0
    exact c0
  generalize hB0 : ((fun i => σ.1 62 i 3, fun i => σ.1 63 0 i, fun i => σ.1 62 i 4) : zBt) = B0 at c0'
  by_cases cw : zrem (σ.1 60 0 0) 360 < 120 ∨ ¬ zrem (σ.1 60 0 0) 360 < 300
  · rw [if_pos cw, ← k95]
    have hs := zit_for (b := f_X11_stables_11 F) (S := fun i => (zbr c (zfo (zwB (fun h => σ.1 62 h 2) (fun h => zup σ h)) i B0), (zrem (σ.1 60 0 0) 360, nI i))) (zit (f_X11_stables_95 F) F (zbr c (zfo (zwB (fun h => σ.1 62 h 2) (fun h => zup σ h)) n B0)) (zrem (σ.1 60 0 0) 360, 0)) n 0 F (fun j _ hj rec => ?_) (fun rec => ?_) (by omega)
    · have hs' : zit (f_X11_stables_11 F) F (zbr c B0) (zrem (σ.1 60 0 0) 360, nI 0) = _ := hs
      rw [c0'] at hs'
      exact hs'
    · have i1 := inb_n (show j < 10 by omega) (by omega)
      have i2 := nI_clamp (show j < 2 ^ 31 by omega)
      have k32 : ∀ B, f_X11_stables_32 F rec (zbr c B) (zrem (σ.1 60 0 0) 360) (nI j) = rec (zbr c (zwB (fun h => σ.1 62 h 2) (fun h => zup σ h) j B)) (zrem (σ.1 60 0 0) 360, nI (j + 1)) := by
        intro B
        unfold f_X11_stables_32
        rw [zg_i i1, zg_i (by decide), uo B j (by omega), zb_s, zg_i i1, zg_i (by decide), zg_i i1, zg_i (by decide), zg_i (by decide), zg_i i1, zg_i i1, i2, zbr_ra, ro B 62 j 2 (by omega) (by omega), zbr_a, zbr_ru, zbr_u, nI_1]
        rfl
      unfold f_X11_stables_11
      simp only
      rw [r01, if_neg (nle_s (by omega) (by omega)), k32]
      rcases cw with cw | cw
      · rw [if_pos cw]
        rfl
      · rw [if_neg cw]
        split <;> rfl
    · unfold f_X11_stables_11
      simp only
      rw [r01, Nat.zero_add, if_pos (Int32.le_refl _)]
  · rw [if_neg cw, ← k95, c0']
    have c1 : ¬ zrem (σ.1 60 0 0) 360 < 120 := fun q => cw (Or.inl q)
    have c2 : zrem (σ.1 60 0 0) 360 < 300 := Decidable.not_not.mp (fun q => cw (Or.inr q))
    obtain ⟨G, rfl⟩ : ∃ G, F = G + 1 := ⟨F - 1, by omega⟩
    show f_X11_stables_11 (G + 1) _ c (zrem (σ.1 60 0 0) 360, 0) = _
    unfold f_X11_stables_11
    simp only
    rw [if_neg c1, if_pos c2]
    split <;> rfl
theorem zbc_c {σ : zMem} {B : zBt} : zmx (zbc σ B) σ = zbc σ B := by
  refine Prod.ext ?_ ?_
  · funext k i j
    by_cases hk : k < 60
    · exact zmx_x hk _ _
    · rw [zmx_y (by omega), zbc_o σ B (by omega)]
  · funext k i j
    show (if k < 60 then _ else _) = _
    split <;> rfl
theorem j_houses {σ : zMem} (hR : zRel σ) {F n d : Nat} (hF : 100 < F) (hn : n ≤ 10) (e1 : σ.1 0 0 1 = nI n) (ed : σ.1 60 0 0 = nI d) (w f : Int32) : zJ (fun _ _ τ => zRel τ ∧ τ.1 0 0 1 = nI n ∧ τ.1 60 0 0 = nI d ∧ (∀ w i, zsk τ w i = zsk σ w i)) (fun σ => zit (zd98 F) F σ (w, f, zrem (σ.1 60 0 0) 360, 0)) (fun σ => f_X11_stables F σ) σ := by
  have e2 : σ.1 60 0 1 = nI n := hR.1.2.1.trans e1
  obtain ⟨-, -, ⟨m, hm, em, hz⟩, em2, -⟩ := id hR.2.2.2.2.1
  have em2 := em2.trans em
  obtain ⟨nw, hnw, w1, w2⟩ := zRw_n hR.2.2.1
  obtain ⟨y1, y2, y3, y4, y5, y6, y7, y8, y9, y10⟩ := id hR.2.2.2.2.2.2.2.2.2.2
  have inr : zinB (fun i => σ.1 62 i 3, fun i => σ.1 63 0 i, fun i => σ.1 62 i 4) := fun h hh => ⟨(y1 h hh).2.2.2.1, (y1 h hh).2.2.2.2⟩
  have eq0 : zeqB (fun i => σ.1 3 i 3, fun i => σ.1 2 i 3, fun i => σ.1 2 i 2) (fun i => σ.1 62 i 3, fun i => σ.1 63 0 i, fun i => σ.1 62 i 4) := fun h hh => by
    obtain ⟨q1, q2, -⟩ := hR.1.2.2.2.1 h hh
    exact ⟨hR.1.2.2.1 h 3 hh (by omega), q2, q1⟩
  have inc : zinB (fun i => σ.1 3 i 3, fun i => σ.1 2 i 3, fun i => σ.1 2 i 2) := fun h hh => by
    obtain ⟨q1, q2, q3⟩ := eq0 h hh
    refine ⟨?_, ?_⟩
    · rw [q1]
      exact (inr h hh).1
    · rw [q3]
      exact (inr h hh).2
  have hV : ∀ (B C : zBt) (h : Nat) (key : Int32), B.1 h = C.1 h → zVB σ nw B h key = zVB σ nw C h key := fun B C h key e => zVB_c e key
  have wb : ∀ h B, zib (zVB σ nw B h 5) 0 99999 := fun h B => zval_b hR.2.2.1 w1 hnw hR.2.2.2.2.2.2.2.2.2.2.2.2.1 (by decide) _ _ _
  have eqB : zeqB (zdB σ nw n (fun i => σ.1 3 i 3, fun i => σ.1 2 i 3, fun i => σ.1 2 i 2)) (zdB σ nw n (fun i => σ.1 62 i 3, fun i => σ.1 63 0 i, fun i => σ.1 62 i 4)) := by
    unfold zdB
    refine zfo_i (f := zxB (zVB σ nw) (zrem (σ.1 60 0 0) 360) (fun h => zup σ h)) (g := zxB (zVB σ nw) (zrem (σ.1 60 0 0) 360) (fun h => zup σ h)) (fun _ => zeqB) (fun h hh B C e => zeqB_x hV (by omega) e) _ _ ?_
    split
    · exact zfo_i (f := zwB (fun h => σ.1 62 h 2) (fun h => zup σ h)) (g := zwB (fun h => σ.1 62 h 2) (fun h => zup σ h)) (fun _ => zeqB) (fun h hh B C e => zeqB_w (by omega) e) _ _ eq0
    · exact eq0
  have inB : zinB (zdB σ nw n (fun i => σ.1 62 i 3, fun i => σ.1 63 0 i, fun i => σ.1 62 i 4)) := by
    unfold zdB
    refine zfo_p (f := zxB (zVB σ nw) (zrem (σ.1 60 0 0) 360) (fun h => zup σ h)) (fun _ => zinB) (fun h hh B e => by
      have u := up_co hR (show h < 10 by omega)
      exact zinB_x (by omega) (wb h) ⟨u.1, by omega⟩ e) _ ?_
    split
    · exact zfo_p (f := zwB (fun h => σ.1 62 h 2) (fun h => zup σ h)) (fun _ => zinB) (fun h hh B e => zinB_w (co := fun h => σ.1 62 h 2) (up := fun h => zup σ h) (h := h) (by omega) (up_co hR (by omega)) e) _ inr
    · exact inr
  have c1 := e_zd98 hR (B := (fun i => σ.1 3 i 3, fun i => σ.1 2 i 3, fun i => σ.1 2 i 2)) hF hn hnw e1 w1 inc w f
  rw [zbc_0] at c1
  generalize zdB σ nw n (fun i => σ.1 3 i 3, fun i => σ.1 2 i 3, fun i => σ.1 2 i 2) = Bc at c1 eqB
  have r1 := e_stables (c := zbc σ Bc) hR zbc_c (by have := hR.2.2.1; simpa [zRw, zbc] using this) hF hn hnw hm e2 w2 em em2
  generalize zdB σ nw n (fun i => σ.1 62 i 3, fun i => σ.1 63 0 i, fun i => σ.1 62 i 4) = Br at r1 eqB inB
  refine ⟨(), (), zbc σ Bc, zbr (zbc σ Bc) Br, c1, r1, ?_, ?_, ?_, ?_⟩
  · obtain ⟨hh, hr, hw, hk, ha, hd, hl, hc, ht, hb, hQ⟩ := hR
    refine ⟨?_, ?_, ?_, ?_, ?_, ?_, ?_, ?_, ?_, ?_, ?_⟩
    · obtain ⟨g1, g2, g3, g4, g5, g6⟩ := hh
      refine ⟨by simpa [zbc, zbr] using g1, by simpa [zbc, zbr] using g2, fun y z hy hz => ?_, fun y hy => ?_, by simpa [zbc, zbr] using g5, by simpa [zbc, zbr] using g6⟩
      · have h4 : ¬ z = 4 := by omega
        obtain ⟨m1, m2, m3⟩ := eqB y hy
        by_cases e : z = 3
        · subst e
          simp [zbc, zbr, m1]
        · simpa [zbc, zbr, e, h4] using g3 y z hy hz
      · obtain ⟨k1, k2, k3, k4, k5, k6, k7, k8, k9⟩ := g4 y hy
        obtain ⟨m1, m2, m3⟩ := eqB y hy
        simp [zbc, zbr, k3, k4, k5, k6, k7, k8, k9, m2, m3]
    · simpa [zRr, zbc, zbr] using hr
    · simpa [zRw, zbc, zbr] using hw
    · simpa [zRk, zbc, zbr] using hk
    · simpa [zRa, zbc, zbr] using ha
    · simpa [zRd, zbc, zbr] using hd
    · simpa [zRl, zbc, zbr] using hl
    · simpa [zRc, zbc, zbr] using hc
    · simpa [zRt, zbc, zbr] using ht
    · simpa [zRb, zbc, zbr] using hb
    · refine ⟨fun h h1 => ?_, by simpa [zbc, zbr] using y2, by simpa [zbc, zbr] using y3, by simpa [zbc, zbr] using y4, by simpa [zbc, zbr] using y5, by simpa [zbc, zbr] using y6, by simpa [zbc, zbr] using y7, by simpa [zbc, zbr] using y8, by simpa [zbc, zbr] using y9, by simpa [zbc, zbr] using y10⟩
      obtain ⟨b1, b2, b3, b4, b5⟩ := y1 h h1
      obtain ⟨m1, m2⟩ := inB h h1
      simpa [zbc, zbr] using (⟨b1, b2, b3, m1, m2⟩ : _ ∧ _ ∧ _ ∧ _ ∧ _)
  · rw [zbr_o _ _ (by omega), zbc_o _ _ (by omega)]
    exact e1
  · rw [zbr_o _ _ (by omega), zbc_o _ _ (by omega)]
    exact ed
  · intro w i
    refine zsk_s ?_ ?_ i
    · funext a b
      rw [zbr_o _ _ (by omega), zbc_o _ _ (by omega)]
    · funext a b
      rw [zbr_o _ _ (by omega), zbc_o _ _ (by omega)]
