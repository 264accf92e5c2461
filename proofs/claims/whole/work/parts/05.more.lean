def zdU (k : Nat) : Bool := k == 71 || k == 115
def zdE (k : Nat) : Bool := k == 72 || k == 116
def zdG (k : Nat) : Bool := k == 89 || k == 113
def zdS (k : Nat) : Bool := k == 90 || k == 114
theorem zd2 {k a b : Nat} (h : (k == a || k == b) = true) : k = a ∨ k = b := by simpa using h
theorem zdE_of {k : Nat} (h : zdU k = true) : zdE (k + 1) = true := by
  rcases zd2 h with rfl | rfl <;> rfl
theorem zlt_up {k : Nat} (h : zdU k = true) : k < 2 ^ 31 := by rcases zd2 h with rfl | rfl <;> decide
theorem zlt_upE {k : Nat} (h : zdE k = true) : k < 2 ^ 31 := by rcases zd2 h with rfl | rfl <;> decide
theorem zlt_grass {k : Nat} (h : zdG k = true) : k < 2 ^ 31 := by rcases zd2 h with rfl | rfl <;> decide
theorem zlt_snow {k : Nat} (h : zdS k = true) : k < 2 ^ 31 := by rcases zd2 h with rfl | rfl <;> decide
theorem zN_up {k i : Nat} (h : zdU k = true) (hi : i < 1) : i < zN k := by rcases zd2 h with rfl | rfl <;> exact hi
theorem zN_upE {k i : Nat} (h : zdE k = true) (hi : i < 4) : i < zN k := by rcases zd2 h with rfl | rfl <;> exact hi
theorem zN_grass {k i : Nat} (h : zdG k = true) (hi : i < 1) : i < zN k := by rcases zd2 h with rfl | rfl <;> exact hi
theorem zN_snow {k i : Nat} (h : zdS k = true) (hi : i < 1) : i < zN k := by rcases zd2 h with rfl | rfl <;> exact hi
theorem zE_up {k i : Nat} {Z : zLay} {f : Nat → Int32} {g : Nat → Int64} (h : zdU k = true) : zE Z k i f g = .inl (zca Z 9, 4, .inr (.inr (.inr (.inr (fun j => some (zad Z (k + 1) j)))))) := by rcases zd2 h with rfl | rfl <;> rfl
theorem zE_upE {k i : Nat} {Z : zLay} {f : Nat → Int32} {g : Nat → Int64} (h : zdE k = true) : zE Z k i f g = .inl (zca Z 0, 10, .inl f) := by rcases zd2 h with rfl | rfl <;> rfl
theorem zE_grass {k i : Nat} {Z : zLay} {f : Nat → Int32} {g : Nat → Int64} (h : zdG k = true) : zE Z k i f g = .inl (zca Z 0, 4, .inl f) := by rcases zd2 h with rfl | rfl <;> rfl
theorem zE_snow {k i : Nat} {Z : zLay} {f : Nat → Int32} {g : Nat → Int64} (h : zdS k = true) : zE Z k i f g = .inl (zca Z 0, 4, .inl f) := by rcases zd2 h with rfl | rfl <;> rfl
theorem zlk_none {x : Int} {d : Int} {ps : List (Int × Int)} (h : ∀ q ∈ ps, ¬ x = q.1) : Op.lookupswitch.offset ps d x = d := by
  induction ps with
  | nil => rfl
  | cons q ps ih =>
    have h1 := h q List.mem_cons_self
    have h2 := ih (fun y hy => h y (List.mem_cons_of_mem _ hy))
    have h3 : ¬ q.1 = x := fun e => h1 e.symm
    show (if q.1 = x then q.2 else Op.lookupswitch.offset ps d x) = d
    rw [if_neg h3]
    exact h2
theorem zlk_ne {x : Int32} {v : Int32} (h : ¬ x = v) : ¬ x.toInt = v.toInt := fun e => h (Int32.toInt_inj.mp e)
def zck (sp dp n : Int32) (n0 n1 : Nat) : Bool := decide (¬ sp < 0) && (decide (¬ dp < 0) && (decide (¬ n < 0) && (decide (sp.toNatClampNeg + n.toNatClampNeg ≤ n0) && decide (dp.toNatClampNeg + n.toNatClampNeg ≤ n1))))
def zcz (σ : zMem) (k i : Nat) (sp n : Int32) : Bool := (List.range n.toNatClampNeg).all fun j => zbo (σ.1 k i (sp.toNatClampNeg + j))
def zcpi (σ : zMem) (k0 i0 : Nat) (sp : Int32) (k1 i1 : Nat) (dp n : Int32) : zMem := (zcp σ.1 k0 i0 sp.toNatClampNeg k1 i1 dp.toNatClampNeg n.toNatClampNeg, σ.2)
def zcpl (σ : zMem) (k0 i0 : Nat) (sp : Int32) (k1 i1 : Nat) (dp n : Int32) : zMem := (σ.1, zcp σ.2 k0 i0 sp.toNatClampNeg k1 i1 dp.toNatClampNeg n.toNatClampNeg)
theorem zcp_off {β : Type} (f : Nat → Nat → Nat → β) {k0 i0 sp k1 i1 dp n a b : Nat} (h : ¬ (a = k1 ∧ b = i1)) : zcp f k0 i0 sp k1 i1 dp n a b = f a b := by
  funext c
  have : ¬ (a = k1 ∧ b = i1 ∧ dp ≤ c ∧ c < dp + n) := fun q => h ⟨q.1, q.2.1⟩
  simp [zcp, this]
theorem zcp_at {β : Type} (f : Nat → Nat → Nat → β) {k0 i0 sp k1 i1 dp n : Nat} : zcp f k0 i0 sp k1 i1 dp n k1 i1 = va_cpy (f k0 i0) (f k1 i1) sp dp n := by
  funext c
  simp [zcp, va_cpy]

theorem zbo_fit {x : Int32} (h : zbo x = true) : fits .boolean (.int x) = true := by
  simp only [zbo, Bool.or_eq_true, decide_eq_true_eq] at h
  rcases h with rfl | rfl <;> rfl
def zPr : List (Nat × Nat) := (List.range 119).flatMap fun k => (List.range (zN k)).map fun i => (k, i)
theorem zPr_big {k : Nat} (h : ¬ k < 119) : zN k = 0 := by
  unfold zN
  split <;> first | rfl | omega
theorem zPr_mem {k i : Nat} (h : i < zN k) : (k, i) ∈ zPr := by
  have hk : k < 119 := by
    by_cases hk : k < 119
    · exact hk
    · rw [zPr_big hk] at h
      omega
  exact List.mem_flatMap.mpr ⟨k, List.mem_range.mpr hk, List.mem_map.mpr ⟨i, List.mem_range.mpr h, rfl⟩⟩
theorem zPr_lt {q : Nat × Nat} (h : q ∈ zPr) : q.2 < zN q.1 := by
  obtain ⟨k, -, h⟩ := List.mem_flatMap.mp h
  obtain ⟨i, h9, e⟩ := List.mem_map.mp h
  subst e
  exact List.mem_range.mp h9
theorem zPr_nodup : zPr.Nodup := by
  refine List.pairwise_flatMap.mpr ⟨fun k _ => ?_, ?_⟩
  · refine List.pairwise_map.mpr ?_
    refine List.Pairwise.imp (fun {a b} (h : a < b) e => ?_) List.pairwise_lt_range
    have : a = b := congrArg Prod.snd e
    omega
  · refine List.Pairwise.imp (fun {a b} (h : a < b) x hx y hy e => ?_) List.pairwise_lt_range
    obtain ⟨i, -, rfl⟩ := List.mem_map.mp hx
    obtain ⟨j, -, rfl⟩ := List.mem_map.mp hy
    have : a = b := congrArg Prod.fst e
    omega
def zWs (Z : zLay) (σ : zMem) : va_W := zPr.map fun q => (zad Z q.1 q.2, zE Z q.1 q.2 (σ.1 q.1 q.2) (σ.2 q.1 q.2))
theorem zWs_get {Z : zLay} {σ : zMem} {n : Nat} {x : Nat × va_E} (h : (zWs Z σ)[n]? = some x) : ∃ q, zPr[n]? = some q ∧ x = (zad Z q.1 q.2, zE Z q.1 q.2 (σ.1 q.1 q.2) (σ.2 q.1 q.2)) := by
  rw [zWs, List.getElem?_map] at h
  cases e : zPr[n]? with
  | none => rw [e] at h; cases h
  | some q => rw [e] at h; cases h; exact ⟨q, rfl, rfl⟩
theorem zWs_at {Z : zLay} {σ : zMem} {n k i : Nat} {x : va_E} (h : zPr[n]? = some (k, i)) (e : zE Z k i (σ.1 k i) (σ.2 k i) = x) : (zWs Z σ)[n]? = some (zad Z k i, x) := by
  rw [zWs, List.getElem?_map, h, ← e]
  rfl
theorem zWs_P {Z : zLay} {σ : zMem} {H : Heap} (hW : zW Z σ H) : va_P Z.1 vwCl (zWs Z σ) H := by
  intro n x hx
  obtain ⟨q, h1, rfl⟩ := zWs_get hx
  exact hW q.1 q.2 (zPr_lt (List.mem_of_getElem? h1))
theorem zPr_inj {m n : Nat} {q : Nat × Nat} (h1 : zPr[m]? = some q) (h2 : zPr[n]? = some q) : m = n := by
  obtain ⟨a1, b1⟩ := List.getElem?_eq_some_iff.mp h1
  exact (List.getElem?_inj a1 zPr_nodup).mp (h1.trans h2.symm)
theorem zWs_D {Z : zLay} {σ : zMem} (hI : zI Z) : va_D (zA Z) (zWs Z σ) := by
  refine ⟨fun i j p q hp hq e => ?_, fun n x hx => ?_⟩
  · obtain ⟨u, h1, rfl⟩ := zWs_get hp
    obtain ⟨v, h2, rfl⟩ := zWs_get hq
    have := hI _ _ _ _ (zPr_lt (List.mem_of_getElem? h1)) (zPr_lt (List.mem_of_getElem? h2)) e
    have e2 : u = v := Prod.ext this.1 this.2
    subst e2
    exact zPr_inj h1 h2
  · obtain ⟨u, h1, rfl⟩ := zWs_get hx
    exact ⟨u.1, u.2, zPr_lt (List.mem_of_getElem? h1), rfl⟩
theorem zWs_back {Z : zLay} {σ σ1 : zMem} {H : Heap} {n k i : Nat} {x : va_E} (h : zPr[n]? = some (k, i)) (hP : va_P Z.1 vwCl ((zWs Z σ).set n (zad Z k i, x)) H) (h1 : ∀ a b, ¬ (a = k ∧ b = i) → σ1.1 a b = σ.1 a b) (h2 : ∀ a b, ¬ (a = k ∧ b = i) → σ1.2 a b = σ.2 a b) (e : zE Z k i (σ1.1 k i) (σ1.2 k i) = x) : zW Z σ1 H := by
  intro a b hb
  obtain ⟨m, hm⟩ := List.getElem?_of_mem (zPr_mem hb)
  by_cases hq : a = k ∧ b = i
  · obtain ⟨rfl, rfl⟩ := hq
    rw [e]
    refine hP n _ ?_
    rw [List.getElem?_set_self]
    have := (List.getElem?_eq_some_iff.mp h).1
    simpa [zWs] using this
  · rw [h1 a b hq, h2 a b hq]
    refine hP m _ ?_
    rw [List.getElem?_set_ne]
    · exact zWs_at hm rfl
    · rintro rfl
      rw [h] at hm
      cases hm
      exact hq ⟨rfl, rfl⟩

section ZB
variable {E : zEn} {cc : ByteArray} {own : String} {nL h : Nat} {ret : Option FieldType} {Z : zLay} {α : Type} {QQ : α → zMem → State → Prop} {pc : Nat} {L : List (Nat × Value)} {st : List Value} {σ : zMem} {o o1 o2 : Option (α × zMem)}

theorem zr_ldc_w (C : zCx E cc own nL ret Z h) {ix : Nat} {v : Int32} (hd : decode cc pc = .ok (.ldc_w ix, 3)) (hc : Cond.constant own ix v ∈ zTB) (k : zKO E nL Z QQ (pc + 3) L (.int v :: st) σ o) : zKO E nL Z QQ (pc) L (st) σ o := fun r σ' ho H locs ls hW hS hl => lv_ldcw C.1 C.2.1 C.2.2.1 (C.2.2.2.2.1 _ hc) hd (k r σ' ho H locs ls hW hS hl)
theorem zr_lds (C : zCx E cc own nL ret Z h) {ix : Nat} {tx : String} {j : Nat} (hq : (own, ix, tx, j) ∈ zStr) (hd : decode cc pc = .ok (.ldc ix, 2)) (k : zKO E nL Z QQ (pc + 2) L (.ref (zad Z 180 j) :: st) σ o) : zKO E nL Z QQ (pc) L (st) σ o := fun r σ' ho H locs ls hW hS hl => va_ldcS C.1 C.2.1 C.2.2.1 (C.2.2.2.2.2.2.2.2.1.2.2.1 _ hq) hd (k r σ' ho H locs ls hW hS hl)
theorem zr_ldsw (C : zCx E cc own nL ret Z h) {ix : Nat} {tx : String} {j : Nat} (hq : (own, ix, tx, j) ∈ zStr) (hd : decode cc pc = .ok (.ldc_w ix, 3)) (k : zKO E nL Z QQ (pc + 3) L (.ref (zad Z 180 j) :: st) σ o) : zKO E nL Z QQ (pc) L (st) σ o := by
  intro r σ' ho H locs ls hW hS hl T hT X
  have hZ := C.2.2.2.2.2.2.2.2.1.2.2.1 _ hq
  obtain ⟨t, a1, b1⟩ := k r σ' ho H locs ls hW hS hl T hT X
  exact ⟨t, X.ldcStringW C.1 C.2.2.1 (text := tx) (a := zad Z 180 j) hZ.1 hZ.2 (g := F0 (zm E) pc ls st) rfl (by rw [C.2.1]; exact hd) t a1, b1⟩
theorem zr_cpi {n0 n1 : Nat} (C : zCx E cc own nL ret Z h) {ix k0 i0 k1 i1 : Nat} {sp dp n : Int32} (hlink : Cond.methodLink own ix arraycopyName ∈ zTB) (hnat : Cond.native arraycopyName ∈ zTB) (hstat : Cond.static arraycopyName ∈ zTB) (hini : Cond.initialized "java/lang/System" ∈ zTB) (hk0 : i0 < zN k0) (hk1 : i1 < zN k1) (hE0 : ∀ f g, zE Z k0 i0 f g = .inl (zca Z 0, n0, .inl f)) (hE1 : ∀ f g, zE Z k1 i1 f g = .inl (zca Z 0, n1, .inl f)) (hh : 1 ≤ h) (hst8 : (st.map fun v => v.category).sum ≤ 8) (hd : decode cc pc = .ok (.invokestatic ix, 3)) (kk : zKO E nL Z QQ (pc + 3) L (st) (zcpi σ k0 i0 sp k1 i1 dp n) o) : zKO E nL Z QQ (pc) L (.int n :: .int dp :: .ref (zad Z k1 i1) :: .int sp :: .ref (zad Z k0 i0) :: st) σ (zg (zck sp dp n n0 n1) o) := by
  refine zr_g fun hb => ?_
  simp only [zck, Bool.and_eq_true, decide_eq_true_eq] at hb
  obtain ⟨b1, b2, b3, b4, b5⟩ := hb
  intro r σ' ho H locs ls hW hS hl
  have hml : (zco E).maxLocals = ls.size := by rw [C.2.2.2.1]; exact hl.1.symm
  have hfr : 1 ≤ (zR E).frames := Nat.le_trans hh C.2.2.2.2.2.2.2.2.2.2.2.1
  have hlo : (st.map fun v => v.category).sum + (nativeFrameWords "java/lang/System" "arraycopy" 5 + 11) ≤ (zR E).locals := by
    have e := C.2.2.2.2.2.2.2.2.2.2.2.2.1
    have e2 : nativeFrameWords "java/lang/System" "arraycopy" 5 ≤ 30 := by decide +kernel
    omega
  obtain ⟨q0, e0⟩ := List.getElem?_of_mem (zPr_mem hk0)
  obtain ⟨q1, e1⟩ := List.getElem?_of_mem (zPr_mem hk1)
  refine va_copyi C.1 C.2.1 hml C.2.2.1 (C.2.2.2.2.1 _ hlink) (C.2.2.2.2.1 _ hnat) (C.2.2.2.2.1 _ hstat) (C.2.2.2.2.1 _ hini) C.2.2.2.2.2.1 (zWs_P hW) (zWs_D C.2.2.2.2.2.2.1) hS q0 q1 0 0 (ty := .int) (f := σ.1 k0 i0) (g := σ.1 k1 i1) (zWs_at e0 ((hE0 _ _))) (zWs_at e1 ((hE1 _ _))) rfl rfl rfl b1 b2 b3 b4 b5 (fun _ _ => rfl) hfr hlo hd (fun H1 locs1 g1 g2 g3 => ?_)
  refine kk r σ' ho H1 locs1 ls (zWs_back e1 g1 (fun a b q => zcp_off _ q) (fun a b q => rfl) ?_) g3 hl
  rw [hE1]
  show Sum.inl _ = Sum.inl _
  congr 3
  exact congrArg _ (zcp_at _)
theorem zr_cpz {n0 n1 : Nat} (C : zCx E cc own nL ret Z h) {ix k0 i0 k1 i1 : Nat} {sp dp n : Int32} (hlink : Cond.methodLink own ix arraycopyName ∈ zTB) (hnat : Cond.native arraycopyName ∈ zTB) (hstat : Cond.static arraycopyName ∈ zTB) (hini : Cond.initialized "java/lang/System" ∈ zTB) (hk0 : i0 < zN k0) (hk1 : i1 < zN k1) (hE0 : ∀ f g, zE Z k0 i0 f g = .inl (zca Z 4, n0, .inl f)) (hE1 : ∀ f g, zE Z k1 i1 f g = .inl (zca Z 4, n1, .inl f)) (hh : 1 ≤ h) (hst8 : (st.map fun v => v.category).sum ≤ 8) (hd : decode cc pc = .ok (.invokestatic ix, 3)) (kk : zKO E nL Z QQ (pc + 3) L (st) (zcpi σ k0 i0 sp k1 i1 dp n) o) : zKO E nL Z QQ (pc) L (.int n :: .int dp :: .ref (zad Z k1 i1) :: .int sp :: .ref (zad Z k0 i0) :: st) σ (zg (zck sp dp n n0 n1 && zcz σ k0 i0 sp n) o) := by
  refine zr_g fun hb => ?_
  have hz := (Bool.and_eq_true _ _ ▸ hb).2
  have hb := (Bool.and_eq_true _ _ ▸ hb).1
  simp only [zck, Bool.and_eq_true, decide_eq_true_eq] at hb
  obtain ⟨b1, b2, b3, b4, b5⟩ := hb
  intro r σ' ho H locs ls hW hS hl
  have hml : (zco E).maxLocals = ls.size := by rw [C.2.2.2.1]; exact hl.1.symm
  have hfr : 1 ≤ (zR E).frames := Nat.le_trans hh C.2.2.2.2.2.2.2.2.2.2.2.1
  have hlo : (st.map fun v => v.category).sum + (nativeFrameWords "java/lang/System" "arraycopy" 5 + 11) ≤ (zR E).locals := by
    have e := C.2.2.2.2.2.2.2.2.2.2.2.2.1
    have e2 : nativeFrameWords "java/lang/System" "arraycopy" 5 ≤ 30 := by decide +kernel
    omega
  obtain ⟨q0, e0⟩ := List.getElem?_of_mem (zPr_mem hk0)
  obtain ⟨q1, e1⟩ := List.getElem?_of_mem (zPr_mem hk1)
  refine va_copyi C.1 C.2.1 hml C.2.2.1 (C.2.2.2.2.1 _ hlink) (C.2.2.2.2.1 _ hnat) (C.2.2.2.2.1 _ hstat) (C.2.2.2.2.1 _ hini) C.2.2.2.2.2.1 (zWs_P hW) (zWs_D C.2.2.2.2.2.2.1) hS q0 q1 4 4 (ty := .boolean) (f := σ.1 k0 i0) (g := σ.1 k1 i1) (zWs_at e0 ((hE0 _ _))) (zWs_at e1 ((hE1 _ _))) rfl rfl rfl b1 b2 b3 b4 b5 (fun q hq => zbo_fit (List.all_eq_true.mp hz q (List.mem_range.mpr hq))) hfr hlo hd (fun H1 locs1 g1 g2 g3 => ?_)
  refine kk r σ' ho H1 locs1 ls (zWs_back e1 g1 (fun a b q => zcp_off _ q) (fun a b q => rfl) ?_) g3 hl
  rw [hE1]
  show Sum.inl _ = Sum.inl _
  congr 3
  exact congrArg _ (zcp_at _)
theorem zr_cpl {n0 n1 : Nat} (C : zCx E cc own nL ret Z h) {ix k0 i0 k1 i1 : Nat} {sp dp n : Int32} (hlink : Cond.methodLink own ix arraycopyName ∈ zTB) (hnat : Cond.native arraycopyName ∈ zTB) (hstat : Cond.static arraycopyName ∈ zTB) (hini : Cond.initialized "java/lang/System" ∈ zTB) (hk0 : i0 < zN k0) (hk1 : i1 < zN k1) (hE0 : ∀ f g, zE Z k0 i0 f g = .inl (zca Z 1, n0, .inr (.inl g))) (hE1 : ∀ f g, zE Z k1 i1 f g = .inl (zca Z 1, n1, .inr (.inl g))) (hh : 1 ≤ h) (hst8 : (st.map fun v => v.category).sum ≤ 8) (hd : decode cc pc = .ok (.invokestatic ix, 3)) (kk : zKO E nL Z QQ (pc + 3) L (st) (zcpl σ k0 i0 sp k1 i1 dp n) o) : zKO E nL Z QQ (pc) L (.int n :: .int dp :: .ref (zad Z k1 i1) :: .int sp :: .ref (zad Z k0 i0) :: st) σ (zg (zck sp dp n n0 n1) o) := by
  refine zr_g fun hb => ?_
  simp only [zck, Bool.and_eq_true, decide_eq_true_eq] at hb
  obtain ⟨b1, b2, b3, b4, b5⟩ := hb
  intro r σ' ho H locs ls hW hS hl
  have hml : (zco E).maxLocals = ls.size := by rw [C.2.2.2.1]; exact hl.1.symm
  have hfr : 1 ≤ (zR E).frames := Nat.le_trans hh C.2.2.2.2.2.2.2.2.2.2.2.1
  have hlo : (st.map fun v => v.category).sum + (nativeFrameWords "java/lang/System" "arraycopy" 5 + 11) ≤ (zR E).locals := by
    have e := C.2.2.2.2.2.2.2.2.2.2.2.2.1
    have e2 : nativeFrameWords "java/lang/System" "arraycopy" 5 ≤ 30 := by decide +kernel
    omega
  obtain ⟨q0, e0⟩ := List.getElem?_of_mem (zPr_mem hk0)
  obtain ⟨q1, e1⟩ := List.getElem?_of_mem (zPr_mem hk1)
  refine va_copyl C.1 C.2.1 hml C.2.2.1 (C.2.2.2.2.1 _ hlink) (C.2.2.2.2.1 _ hnat) (C.2.2.2.2.1 _ hstat) (C.2.2.2.2.1 _ hini) C.2.2.2.2.2.1 (zWs_P hW) (zWs_D C.2.2.2.2.2.2.1) hS q0 q1 1 1 (ty := .long) (f := σ.2 k0 i0) (g := σ.2 k1 i1) (zWs_at e0 ((hE0 _ _))) (zWs_at e1 ((hE1 _ _))) rfl rfl rfl b1 b2 b3 b4 b5 (fun _ _ => rfl) hfr hlo hd (fun H1 locs1 g1 g2 g3 => ?_)
  refine kk r σ' ho H1 locs1 ls (zWs_back e1 g1 (fun a b q => rfl) (fun a b q => zcp_off _ q) ?_) g3 hl
  rw [hE1]
  show Sum.inl _ = Sum.inl _
  congr 3
  exact congrArg _ (congrArg _ (zcp_at _))
end ZB
