theorem zS_kept {Z : zLay} {U : State} {H H1 : Heap} (h : zS Z U H) (hq : ∀ a : Nat, a < H.size → ¬ zA Z a → H1[a]? = H[a]?) : zS Z U H1 := by
  obtain ⟨h1, h2, h3, h4, h5, h6, h7⟩ := h
  refine ⟨fun q hm => ⟨(h1 q hm).1.kept hq, (h1 q hm).2.kept hq⟩, h2.kept hq, h3, h4.kept hq, ?_, ?_, h7⟩
  · rcases h5 with h | ⟨t, h⟩
    · exact Or.inl (h.kept hq)
    · exact Or.inr ⟨t, h.kept hq⟩
  · obtain ⟨scr, g1, g2⟩ := h6
    exact ⟨scr, by rw [hq _ (Array.getElem?_eq_some_iff.mp g1).1 h7]; exact g1, g2⟩
theorem zS_warm {Z : zLay} {s U : State} {H : Heap} (hW : s.WarmedH U.vm) (h : zS Z s H) : zS Z U H := by
  obtain ⟨h1, h2, h3, h4, h5, h6, h7⟩ := h
  refine ⟨fun q hm => ⟨(h1 q hm).1.moved hW.alike, (h1 q hm).2.moved hW.alike⟩, h2.moved hW.alike, fun q hm => (h3 q hm).warm hW, h4.moved hW.alike, ?_, ?_, h7⟩
  · rcases h5 with h | ⟨t, h⟩
    · exact Or.inl (h.moved hW.alike)
    · exact Or.inr ⟨t, h.moved hW.alike⟩
  · obtain ⟨scr, g1, g2, g3⟩ := h6
    exact ⟨scr, g1, State.isArrayOf_alike hW.alike g2, g3⟩
theorem zS_same {Z : zLay} {u U : State} {H : Heap} (e : U.vm = u.vm) (h : zS Z u H) : zS Z U H := by
  obtain ⟨h1, h2, h3, h4, h5, h6, h7⟩ := h
  have ha : u.vm.Alike U.vm := by rw [e]; exact Vm.Alike.refl _
  refine ⟨fun q hm => ⟨(h1 q hm).1.moved ha, (h1 q hm).2.moved ha⟩, h2.moved ha, fun q hm => (h3 q hm).same e, h4.moved ha, ?_, ?_, h7⟩
  · rcases h5 with h | ⟨t, h⟩
    · exact Or.inl (h.moved ha)
    · exact Or.inr ⟨t, h.moved ha⟩
  · obtain ⟨scr, g1, g2, g3⟩ := h6
    exact ⟨scr, g1, State.isArrayOf_alike ha g2, g3⟩
def zP (Z : zLay) (σ : zMem) (U : State) : Prop := zW Z σ U.heap ∧ va_K Z.1 vwCl (zTys Z) U ∧ zI Z ∧ zNw U ∧ zS Z U U.heap
theorem zP_blind {Z : zLay} {σ : zMem} {av : List Value} : FrameBlind (va_Pc av (zP Z σ)) := by
  intro a U g mk hq
  obtain ⟨e, h1, h2, h3, h4, h5⟩ := hq
  exact ⟨e, h1, va_K.moved (u := U) (U := U.calling g mk a) (Vm.Alike.refl U.vm) h2, h3, zNw_same (u := U) (U := U.calling g mk a) rfl h4, zS_same (u := U) (U := U.calling g mk a) rfl h5⟩
theorem zP_of {Z : zLay} {σ : zMem} {s U : State} {H : Heap} {locs : List Loc} (hW : zW Z σ H) (hK : va_K Z.1 vwCl (zTys Z) s) (hI : zI Z) (hN : zNw s) (hS0 : zS Z s s.heap) (hS : va_S (zA Z) s.heap H locs) (e : U.heap = H) (hw : s.WarmedH U.vm) : zP Z σ U :=
  ⟨by rw [e]; exact hW, va_K.moved hw.alike hK, hI, zNw_warm hw hN, by rw [e]; exact zS_warm hw (zS_kept hS0 hS.2.1)⟩
/-- a method's contract: number y, code b, n locals, answers of the type ret, at most ht calls deep -/
def zMet (l : Launch) (y : MethodName) (b : ByteArray) (n : Nat) (ret : Option FieldType) (ht : Nat) (Z : zLay) (av : List Value) (σ : zMem) (Qc : Array Value → State → Outcome → State → Prop) : Prop :=
  Met l y (Cond.code y b n ret :: zTB) (zRm ht) (va_Pc av (zP Z σ)) Qc 0 0 (zA Z)
def zQI (Z : zLay) (r : Int32) (σ' : zMem) : Array Value → State → Outcome → State → Prop := va_Qi (fun r1 u => r1 = r ∧ u = σ') (fun (u : zMem) t => zW Z u t.heap) (zA Z)
def zQL (Z : zLay) (r : Int64) (σ' : zMem) : Array Value → State → Outcome → State → Prop := va_Ql (fun r1 u => r1 = r ∧ u = σ') (fun (u : zMem) t => zW Z u t.heap) (zA Z)
def zQV (Z : zLay) (_ : Unit) (σ' : zMem) : Array Value → State → Outcome → State → Prop := va_Qv (fun u => u = σ') (fun (u : zMem) t => zW Z u t.heap) (zA Z)
def zMQ (E : zEn) (Z : zLay) {α : Type} (Qc : α → zMem → Array Value → State → Outcome → State → Prop) : α → zMem → State → Prop := fun r σ' => MQ (zbe E) (Qc r σ') (zar E) (zs E) (znc E) (zns E) (zA Z)
theorem zMet_of {l : Launch} {y : MethodName} {b : ByteArray} {n : Nat} {ret : Option FieldType} {ht : Nat} {Z : zLay} {av : List Value} {σ : zMem} {α : Type} {Qc : α → zMem → Array Value → State → Outcome → State → Prop} {o : Option (α × zMem)} (hy : plainName y.cls = true) (hn : (lg_sl av).length ≤ n) (L0 : List (Nat × Value)) (hL : lv_args 0 av = L0)
    (hb : ∀ E : zEn, zCx E b y.cls n ret Z ht → zKO E n Z (zMQ E Z Qc) 0 L0 [] σ o) {r : α} {σ' : zMem} (ho : o = some (r, σ')) : zMet l y b n ret ht Z av σ (Qc r σ') := by
  refine Met.ofW (cc := b) (maxL := n) (ret := ret) hy rfl ?_
  intro p e s m args below meth c s₁ B hml hv
  obtain ⟨rfl, hW, hK, hI, hN, hS0⟩ := hv
  have hts := atoms_spec (ws := Cond.code y b n ret :: zTB) B.pre
  have hown : s.vm.findClass y.cls = some m.cls := findClass_of_methodNamed B.named
  have hl := lv_entry av (n := n) hn
  rw [lg_entry_eq]
  rw [hL] at hl
  exact hb (p, l, e, (headSpec (Cond.code y b n ret :: zTB) (zRm ht)).room, s, m, av.toArray, below, meth, c, 0, 0) ⟨B.exec, B.bytes, hown, hml, fun w hw => hts w (List.mem_cons_of_mem _ hw), hK, hI, hN, hS0, B.notSynchronized, B.returns, Nat.le_refl _, Nat.le_refl _, Nat.le_refl _, Nat.le_refl _⟩ r σ' ho s.heap [] _ hW va_S.rf hl

section ZB
variable {E : zEn} {cc : ByteArray} {own : String} {nL h : Nat} {ret : Option FieldType} {Z : zLay} {α : Type} {QQ : α → zMem → State → Prop} {pc : Nat} {L : List (Nat × Value)} {st : List Value} {σ : zMem} {o o1 o2 : Option (α × zMem)}

theorem zr_iret (C : zCx E cc own nL (some .int) Z h) {x : Int32} (hd : decode cc pc = .ok (.ireturn, 1)) : zKO E nL Z (zMQ E Z (zQI Z)) pc L [.int x] σ (some (x, σ)) := by
  intro r σ' ho H locs ls hW hS hl
  cases ho
  exact W.iret C.1 C.2.1 C.2.2.2.2.2.2.2.2.2.2.1 (fun t ht hw => ⟨⟨x, σ, rfl, ⟨rfl, rfl⟩, by show zW Z σ t.heap; rw [ht]; exact hW⟩, hS.F ht⟩) hS.2.2 hd C.2.2.2.2.2.2.2.2.2.1
theorem zr_zret {ty : FieldType} (C : zCx E cc own nL (some ty) Z h) {x : Int32} (hd : decode cc pc = .ok (.ireturn, 1)) (hn : narrow ty (.int x) = .int x) : zKO E nL Z (zMQ E Z (zQI Z)) pc L [.int x] σ (some (x, σ)) := by
  intro r σ' ho H locs ls hW hS hl
  cases ho
  exact W.zret C.1 C.2.1 C.2.2.2.2.2.2.2.2.2.2.1 hn (fun t ht hw => ⟨⟨x, σ, rfl, ⟨rfl, rfl⟩, by show zW Z σ t.heap; rw [ht]; exact hW⟩, hS.F ht⟩) hS.2.2 hd C.2.2.2.2.2.2.2.2.2.1
theorem zr_zretg (C : zCx E cc own nL (some .boolean) Z h) {x : Int32} (hd : decode cc pc = .ok (.ireturn, 1)) : zKO E nL Z (zMQ E Z (zQI Z)) pc L [.int x] σ (zg (zbo x) (some (x, σ))) :=
  zr_g fun hb => zr_zret C hd (zbo_nar hb)
theorem zr_lret (C : zCx E cc own nL (some .long) Z h) {x : Int64} (hd : decode cc pc = .ok (.lreturn, 1)) : zKO E nL Z (zMQ E Z (zQL Z)) pc L [.long x] σ (some (x, σ)) := by
  intro r σ' ho H locs ls hW hS hl
  cases ho
  exact W.lret C.1 C.2.1 C.2.2.2.2.2.2.2.2.2.2.1 (fun t ht hw => ⟨⟨x, σ, rfl, ⟨rfl, rfl⟩, by show zW Z σ t.heap; rw [ht]; exact hW⟩, hS.F ht⟩) hS.2.2 hd C.2.2.2.2.2.2.2.2.2.1
theorem zr_vret (C : zCx E cc own nL none Z h) (hd : decode cc pc = .ok (.return_, 1)) : zKO E nL Z (zMQ E Z (zQV Z)) pc L [] σ (some ((), σ)) := by
  intro r σ' ho H locs ls hW hS hl
  cases ho
  exact W.vret C.1 C.2.1 C.2.2.2.2.2.2.2.2.2.2.1 (fun t ht hw => ⟨⟨σ, rfl, rfl, by show zW Z σ t.heap; rw [ht]; exact hW⟩, hS.F ht⟩) hS.2.2 hd C.2.2.2.2.2.2.2.2.2.1
theorem zTB_good : GoodIn zTB zTB := fun w hw => ⟨hw, good_of_word (List.mem_filter.mp hw).2⟩
theorem zTB_call {y : MethodName} {b : ByteArray} {n : Nat} {ret : Option FieldType} (h : Cond.code y b n ret ∈ zTB) : GoodIn zTB (Cond.code y b n ret :: zTB) := fun w hw => by
  rcases List.mem_cons.mp hw with rfl | hw
  · exact zTB_good _ h
  · exact zTB_good _ hw
theorem zTB_mem (i : Nat) {w : Cond} (h : lw_tbl[i]? = some w) (hg : goodWord w = true) : w ∈ zTB := List.mem_filter.mpr ⟨List.mem_of_getElem? h, hg⟩
theorem zNest_mem (i : Nat) {w : Cond} (h : tables_1[i]? = some w) (hg : zisNest w = true) : w ∈ zNest := List.mem_filter.mpr ⟨List.mem_of_getElem? h, hg⟩
theorem zRooms {m n h : Nat} {R : Room} (hm : m ≤ 41) (hh : n + 1 ≤ h) (h1 : h ≤ R.frames) (h2 : 60 * h ≤ R.locals) : (zRm n).frames + 1 ≤ R.frames ∧ 8 + (m + 11) + (zRm n).locals ≤ R.locals := by
  constructor
  · show n + 1 ≤ _
    omega
  · show 8 + (m + 11) + 60 * n ≤ _
    omega
theorem zr_callVI (C : zCx E cc own nL ret Z h) {y : MethodName} {b : ByteArray} {n ix hh ia : Nat} {ret1 : Option FieldType} {As : List Value} {k0 i0 ci N0 : Nat} {T0 : u_T} {fs : List Value} {f : Option (Int32 × zMem)} {g : Int32 → zMem → Option (α × zMem)} (M : ∀ (r : Int32) (σ1 : zMem), f = some (r, σ1) → zMet (zla E) y b n ret1 hh Z (.ref (zad Z k0 i0) :: As) σ (zQI Z r σ1)) (hlink : Cond.methodLink own ix y ∈ zTB) (hk0 : i0 < zN k0) (hE0 : zE Z k0 i0 (σ.1 k0 i0) (σ.2 k0 i0) = .inr (ci, fs)) (hc0 : vwCl[ci]? = some (y.cls, T0, N0)) (hsel : Cond.selects y.cls y y ∈ zTB) (hins : Cond.instanceMethod y ∈ zTB) (hcode : Cond.code y b n ret1 ∈ zTB) (hini : Cond.initialized y.cls ∈ zTB) (hdd : y.cls ≠ "java/lang/invoke/MethodHandle" ∧ y.cls ≠ "java/lang/invoke/VarHandle" ∧ (parseMethodDescriptor y.desc).map (fun d => d.parameters.length) = some ia) (hia : As.length = ia) (hm : n ≤ 41) (hh1 : hh + 1 ≤ h) (hd : decode cc pc = .ok (.invokevirtual ix, 3)) (hst8 : (st.map fun v => v.category).sum ≤ 8) (kk : ∀ (r : Int32) (σ1 : zMem), zKO E nL Z QQ (pc + 3) L (.int r :: st) σ1 (g r σ1)) : zKO E nL Z QQ (pc) L (As.reverse ++ .ref (zad Z k0 i0) :: st) σ (zb f g) := by
  intro r σ' ho H locs ls hW hS hl
  cases hf : f with
  | none => rw [hf] at ho; cases ho
  | some q =>
  obtain ⟨r0, σ0⟩ := q
  rw [hf] at ho
  have hR := zRooms hm hh1 C.2.2.2.2.2.2.2.2.2.2.2.1 C.2.2.2.2.2.2.2.2.2.2.2.2.1
  have hP1 := zP1 hW hk0
  rw [hE0] at hP1
  refine va_calli (va_runV (As := As) (rest := st) ⟨C.1, C.2.1, C.2.2.2.1, C.2.2.1, C.2.2.2.2.1⟩ (M r0 σ0 hf) ⟨(callB_of ia C.2.2.2.2.1 (zTB_call hcode) rfl rfl rfl (C.2.2.2.2.1 _ hini) (C.2.2.2.2.1 _ hlink) hdd hR), C.2.2.2.2.1 _ hins, C.2.2.2.2.1 _ hsel⟩ ⟨zP_blind, va_recv C.2.2.2.2.2.1 hP1 (ci := ci) (q0 := 0) hc0 rfl, fun U hU hw => ⟨rfl, zP_of hW C.2.2.2.2.2.1 C.2.2.2.2.2.2.1 C.2.2.2.2.2.2.2.1 C.2.2.2.2.2.2.2.2.1 hS hU hw⟩⟩ rfl hia hl.1 rfl (lv_room hst8) hd ⟨C.2.2.2.2.2.2.2.2.2.2.2.2.2.1, C.2.2.2.2.2.2.2.2.2.2.2.2.2.2⟩) hS (fun q _ h => h) (fun q h => h) (fun r1 u t H1 locs1 ht hvm hp hB hz1 hk1 hS1 => ?_)
  have hB : zW Z u t.heap := hB
  rw [ht] at hB
  obtain ⟨rfl, rfl⟩ := hp
  exact kk _ _ r σ' ho H1 locs1 ls hB hS1 hl
theorem zr_callVL (C : zCx E cc own nL ret Z h) {y : MethodName} {b : ByteArray} {n ix hh ia : Nat} {ret1 : Option FieldType} {As : List Value} {k0 i0 ci N0 : Nat} {T0 : u_T} {fs : List Value} {f : Option (Int64 × zMem)} {g : Int64 → zMem → Option (α × zMem)} (M : ∀ (r : Int64) (σ1 : zMem), f = some (r, σ1) → zMet (zla E) y b n ret1 hh Z (.ref (zad Z k0 i0) :: As) σ (zQL Z r σ1)) (hlink : Cond.methodLink own ix y ∈ zTB) (hk0 : i0 < zN k0) (hE0 : zE Z k0 i0 (σ.1 k0 i0) (σ.2 k0 i0) = .inr (ci, fs)) (hc0 : vwCl[ci]? = some (y.cls, T0, N0)) (hsel : Cond.selects y.cls y y ∈ zTB) (hins : Cond.instanceMethod y ∈ zTB) (hcode : Cond.code y b n ret1 ∈ zTB) (hini : Cond.initialized y.cls ∈ zTB) (hdd : y.cls ≠ "java/lang/invoke/MethodHandle" ∧ y.cls ≠ "java/lang/invoke/VarHandle" ∧ (parseMethodDescriptor y.desc).map (fun d => d.parameters.length) = some ia) (hia : As.length = ia) (hm : n ≤ 41) (hh1 : hh + 1 ≤ h) (hd : decode cc pc = .ok (.invokevirtual ix, 3)) (hst8 : (st.map fun v => v.category).sum ≤ 8) (kk : ∀ (r : Int64) (σ1 : zMem), zKO E nL Z QQ (pc + 3) L (.long r :: st) σ1 (g r σ1)) : zKO E nL Z QQ (pc) L (As.reverse ++ .ref (zad Z k0 i0) :: st) σ (zb f g) := by
  intro r σ' ho H locs ls hW hS hl
  cases hf : f with
  | none => rw [hf] at ho; cases ho
  | some q =>
  obtain ⟨r0, σ0⟩ := q
  rw [hf] at ho
  have hR := zRooms hm hh1 C.2.2.2.2.2.2.2.2.2.2.2.1 C.2.2.2.2.2.2.2.2.2.2.2.2.1
  have hP1 := zP1 hW hk0
  rw [hE0] at hP1
  refine va_calll (va_runV (As := As) (rest := st) ⟨C.1, C.2.1, C.2.2.2.1, C.2.2.1, C.2.2.2.2.1⟩ (M r0 σ0 hf) ⟨(callB_of ia C.2.2.2.2.1 (zTB_call hcode) rfl rfl rfl (C.2.2.2.2.1 _ hini) (C.2.2.2.2.1 _ hlink) hdd hR), C.2.2.2.2.1 _ hins, C.2.2.2.2.1 _ hsel⟩ ⟨zP_blind, va_recv C.2.2.2.2.2.1 hP1 (ci := ci) (q0 := 0) hc0 rfl, fun U hU hw => ⟨rfl, zP_of hW C.2.2.2.2.2.1 C.2.2.2.2.2.2.1 C.2.2.2.2.2.2.2.1 C.2.2.2.2.2.2.2.2.1 hS hU hw⟩⟩ rfl hia hl.1 rfl (lv_room hst8) hd ⟨C.2.2.2.2.2.2.2.2.2.2.2.2.2.1, C.2.2.2.2.2.2.2.2.2.2.2.2.2.2⟩) hS (fun q _ h => h) (fun q h => h) (fun r1 u t H1 locs1 ht hvm hp hB hz1 hk1 hS1 => ?_)
  have hB : zW Z u t.heap := hB
  rw [ht] at hB
  obtain ⟨rfl, rfl⟩ := hp
  exact kk _ _ r σ' ho H1 locs1 ls hB hS1 hl
theorem zr_callVU (C : zCx E cc own nL ret Z h) {y : MethodName} {b : ByteArray} {n ix hh ia : Nat} {ret1 : Option FieldType} {As : List Value} {k0 i0 ci N0 : Nat} {T0 : u_T} {fs : List Value} {f : Option (Unit × zMem)} {g : Unit → zMem → Option (α × zMem)} (M : ∀ (r : Unit) (σ1 : zMem), f = some (r, σ1) → zMet (zla E) y b n ret1 hh Z (.ref (zad Z k0 i0) :: As) σ (zQV Z r σ1)) (hlink : Cond.methodLink own ix y ∈ zTB) (hk0 : i0 < zN k0) (hE0 : zE Z k0 i0 (σ.1 k0 i0) (σ.2 k0 i0) = .inr (ci, fs)) (hc0 : vwCl[ci]? = some (y.cls, T0, N0)) (hsel : Cond.selects y.cls y y ∈ zTB) (hins : Cond.instanceMethod y ∈ zTB) (hcode : Cond.code y b n ret1 ∈ zTB) (hini : Cond.initialized y.cls ∈ zTB) (hdd : y.cls ≠ "java/lang/invoke/MethodHandle" ∧ y.cls ≠ "java/lang/invoke/VarHandle" ∧ (parseMethodDescriptor y.desc).map (fun d => d.parameters.length) = some ia) (hia : As.length = ia) (hm : n ≤ 41) (hh1 : hh + 1 ≤ h) (hd : decode cc pc = .ok (.invokevirtual ix, 3)) (hst8 : (st.map fun v => v.category).sum ≤ 8) (kk : ∀ (r : Unit) (σ1 : zMem), zKO E nL Z QQ (pc + 3) L (st) σ1 (g r σ1)) : zKO E nL Z QQ (pc) L (As.reverse ++ .ref (zad Z k0 i0) :: st) σ (zb f g) := by
  intro r σ' ho H locs ls hW hS hl
  cases hf : f with
  | none => rw [hf] at ho; cases ho
  | some q =>
  obtain ⟨r0, σ0⟩ := q
  rw [hf] at ho
  have hR := zRooms hm hh1 C.2.2.2.2.2.2.2.2.2.2.2.1 C.2.2.2.2.2.2.2.2.2.2.2.2.1
  have hP1 := zP1 hW hk0
  rw [hE0] at hP1
  refine va_callv (va_runV (As := As) (rest := st) ⟨C.1, C.2.1, C.2.2.2.1, C.2.2.1, C.2.2.2.2.1⟩ (M r0 σ0 hf) ⟨(callB_of ia C.2.2.2.2.1 (zTB_call hcode) rfl rfl rfl (C.2.2.2.2.1 _ hini) (C.2.2.2.2.1 _ hlink) hdd hR), C.2.2.2.2.1 _ hins, C.2.2.2.2.1 _ hsel⟩ ⟨zP_blind, va_recv C.2.2.2.2.2.1 hP1 (ci := ci) (q0 := 0) hc0 rfl, fun U hU hw => ⟨rfl, zP_of hW C.2.2.2.2.2.1 C.2.2.2.2.2.2.1 C.2.2.2.2.2.2.2.1 C.2.2.2.2.2.2.2.2.1 hS hU hw⟩⟩ rfl hia hl.1 rfl (lv_room hst8) hd ⟨C.2.2.2.2.2.2.2.2.2.2.2.2.2.1, C.2.2.2.2.2.2.2.2.2.2.2.2.2.2⟩) hS (fun q _ h => h) (fun q h => h) (fun u t H1 locs1 ht hvm hp hB hz1 hk1 hS1 => ?_)
  have hB : zW Z u t.heap := hB
  rw [ht] at hB
  cases hp
  exact kk _ _ r σ' ho H1 locs1 ls hB hS1 hl
theorem zr_callSI (C : zCx E cc own nL ret Z h) {y : MethodName} {b : ByteArray} {n ix hh ia : Nat} {ret1 : Option FieldType} {As : List Value} {f : Option (Int32 × zMem)} {g : Int32 → zMem → Option (α × zMem)} (M : ∀ (r : Int32) (σ1 : zMem), f = some (r, σ1) → zMet (zla E) y b n ret1 hh Z (As) σ (zQI Z r σ1)) (hlink : Cond.methodLink own ix y ∈ zTB) (hst : Cond.static y ∈ zTB) (hcode : Cond.code y b n ret1 ∈ zTB) (hini : Cond.initialized y.cls ∈ zTB) (hdd : y.cls ≠ "java/lang/invoke/MethodHandle" ∧ y.cls ≠ "java/lang/invoke/VarHandle" ∧ (parseMethodDescriptor y.desc).map (fun d => d.parameters.length) = some ia) (hia : As.length = ia) (hm : n ≤ 41) (hh1 : hh + 1 ≤ h) (hd : decode cc pc = .ok (.invokestatic ix, 3)) (hst8 : (st.map fun v => v.category).sum ≤ 8) (kk : ∀ (r : Int32) (σ1 : zMem), zKO E nL Z QQ (pc + 3) L (.int r :: st) σ1 (g r σ1)) : zKO E nL Z QQ (pc) L (As.reverse ++ st) σ (zb f g) := by
  intro r σ' ho H locs ls hW hS hl
  cases hf : f with
  | none => rw [hf] at ho; cases ho
  | some q =>
  obtain ⟨r0, σ0⟩ := q
  rw [hf] at ho
  have hR := zRooms hm hh1 C.2.2.2.2.2.2.2.2.2.2.2.1 C.2.2.2.2.2.2.2.2.2.2.2.2.1
  refine va_calli (va_runS (As := As) (rest := st) ⟨C.1, C.2.1, C.2.2.2.1, C.2.2.1, C.2.2.2.2.1⟩ (M r0 σ0 hf) ⟨(callB_of ia C.2.2.2.2.1 (zTB_call hcode) rfl rfl rfl (C.2.2.2.2.1 _ hini) (C.2.2.2.2.1 _ hlink) hdd hR), C.2.2.2.2.1 _ hst⟩ ⟨zP_blind, fun U hU hw => ⟨rfl, zP_of hW C.2.2.2.2.2.1 C.2.2.2.2.2.2.1 C.2.2.2.2.2.2.2.1 C.2.2.2.2.2.2.2.2.1 hS hU hw⟩⟩ rfl hia hl.1 rfl (lv_room hst8) hd ⟨C.2.2.2.2.2.2.2.2.2.2.2.2.2.1, C.2.2.2.2.2.2.2.2.2.2.2.2.2.2⟩) hS (fun q _ h => h) (fun q h => h) (fun r1 u t H1 locs1 ht hvm hp hB hz1 hk1 hS1 => ?_)
  have hB : zW Z u t.heap := hB
  rw [ht] at hB
  obtain ⟨rfl, rfl⟩ := hp
  exact kk _ _ r σ' ho H1 locs1 ls hB hS1 hl
theorem zr_callSL (C : zCx E cc own nL ret Z h) {y : MethodName} {b : ByteArray} {n ix hh ia : Nat} {ret1 : Option FieldType} {As : List Value} {f : Option (Int64 × zMem)} {g : Int64 → zMem → Option (α × zMem)} (M : ∀ (r : Int64) (σ1 : zMem), f = some (r, σ1) → zMet (zla E) y b n ret1 hh Z (As) σ (zQL Z r σ1)) (hlink : Cond.methodLink own ix y ∈ zTB) (hst : Cond.static y ∈ zTB) (hcode : Cond.code y b n ret1 ∈ zTB) (hini : Cond.initialized y.cls ∈ zTB) (hdd : y.cls ≠ "java/lang/invoke/MethodHandle" ∧ y.cls ≠ "java/lang/invoke/VarHandle" ∧ (parseMethodDescriptor y.desc).map (fun d => d.parameters.length) = some ia) (hia : As.length = ia) (hm : n ≤ 41) (hh1 : hh + 1 ≤ h) (hd : decode cc pc = .ok (.invokestatic ix, 3)) (hst8 : (st.map fun v => v.category).sum ≤ 8) (kk : ∀ (r : Int64) (σ1 : zMem), zKO E nL Z QQ (pc + 3) L (.long r :: st) σ1 (g r σ1)) : zKO E nL Z QQ (pc) L (As.reverse ++ st) σ (zb f g) := by
  intro r σ' ho H locs ls hW hS hl
  cases hf : f with
  | none => rw [hf] at ho; cases ho
  | some q =>
  obtain ⟨r0, σ0⟩ := q
  rw [hf] at ho
  have hR := zRooms hm hh1 C.2.2.2.2.2.2.2.2.2.2.2.1 C.2.2.2.2.2.2.2.2.2.2.2.2.1
  refine va_calll (va_runS (As := As) (rest := st) ⟨C.1, C.2.1, C.2.2.2.1, C.2.2.1, C.2.2.2.2.1⟩ (M r0 σ0 hf) ⟨(callB_of ia C.2.2.2.2.1 (zTB_call hcode) rfl rfl rfl (C.2.2.2.2.1 _ hini) (C.2.2.2.2.1 _ hlink) hdd hR), C.2.2.2.2.1 _ hst⟩ ⟨zP_blind, fun U hU hw => ⟨rfl, zP_of hW C.2.2.2.2.2.1 C.2.2.2.2.2.2.1 C.2.2.2.2.2.2.2.1 C.2.2.2.2.2.2.2.2.1 hS hU hw⟩⟩ rfl hia hl.1 rfl (lv_room hst8) hd ⟨C.2.2.2.2.2.2.2.2.2.2.2.2.2.1, C.2.2.2.2.2.2.2.2.2.2.2.2.2.2⟩) hS (fun q _ h => h) (fun q h => h) (fun r1 u t H1 locs1 ht hvm hp hB hz1 hk1 hS1 => ?_)
  have hB : zW Z u t.heap := hB
  rw [ht] at hB
  obtain ⟨rfl, rfl⟩ := hp
  exact kk _ _ r σ' ho H1 locs1 ls hB hS1 hl
theorem zr_callSU (C : zCx E cc own nL ret Z h) {y : MethodName} {b : ByteArray} {n ix hh ia : Nat} {ret1 : Option FieldType} {As : List Value} {f : Option (Unit × zMem)} {g : Unit → zMem → Option (α × zMem)} (M : ∀ (r : Unit) (σ1 : zMem), f = some (r, σ1) → zMet (zla E) y b n ret1 hh Z (As) σ (zQV Z r σ1)) (hlink : Cond.methodLink own ix y ∈ zTB) (hst : Cond.static y ∈ zTB) (hcode : Cond.code y b n ret1 ∈ zTB) (hini : Cond.initialized y.cls ∈ zTB) (hdd : y.cls ≠ "java/lang/invoke/MethodHandle" ∧ y.cls ≠ "java/lang/invoke/VarHandle" ∧ (parseMethodDescriptor y.desc).map (fun d => d.parameters.length) = some ia) (hia : As.length = ia) (hm : n ≤ 41) (hh1 : hh + 1 ≤ h) (hd : decode cc pc = .ok (.invokestatic ix, 3)) (hst8 : (st.map fun v => v.category).sum ≤ 8) (kk : ∀ (r : Unit) (σ1 : zMem), zKO E nL Z QQ (pc + 3) L (st) σ1 (g r σ1)) : zKO E nL Z QQ (pc) L (As.reverse ++ st) σ (zb f g) := by
  intro r σ' ho H locs ls hW hS hl
  cases hf : f with
  | none => rw [hf] at ho; cases ho
  | some q =>
  obtain ⟨r0, σ0⟩ := q
  rw [hf] at ho
  have hR := zRooms hm hh1 C.2.2.2.2.2.2.2.2.2.2.2.1 C.2.2.2.2.2.2.2.2.2.2.2.2.1
  refine va_callv (va_runS (As := As) (rest := st) ⟨C.1, C.2.1, C.2.2.2.1, C.2.2.1, C.2.2.2.2.1⟩ (M r0 σ0 hf) ⟨(callB_of ia C.2.2.2.2.1 (zTB_call hcode) rfl rfl rfl (C.2.2.2.2.1 _ hini) (C.2.2.2.2.1 _ hlink) hdd hR), C.2.2.2.2.1 _ hst⟩ ⟨zP_blind, fun U hU hw => ⟨rfl, zP_of hW C.2.2.2.2.2.1 C.2.2.2.2.2.2.1 C.2.2.2.2.2.2.2.1 C.2.2.2.2.2.2.2.2.1 hS hU hw⟩⟩ rfl hia hl.1 rfl (lv_room hst8) hd ⟨C.2.2.2.2.2.2.2.2.2.2.2.2.2.1, C.2.2.2.2.2.2.2.2.2.2.2.2.2.2⟩) hS (fun q _ h => h) (fun q h => h) (fun u t H1 locs1 ht hvm hp hB hz1 hk1 hS1 => ?_)
  have hB : zW Z u t.heap := hB
  rw [ht] at hB
  cases hp
  exact kk _ _ r σ' ho H1 locs1 ls hB hS1 hl
theorem zr_callVNI (C : zCx E cc own nL ret Z h) {y : MethodName} {b : ByteArray} {n ix hh ia : Nat} {ret1 : Option FieldType} {As : List Value} {k0 i0 ci N0 : Nat} {T0 : u_T} {fs : List Value} {f : Option (Int32 × zMem)} {g : Int32 → zMem → Option (α × zMem)} (M : ∀ (r : Int32) (σ1 : zMem), f = some (r, σ1) → zMet (zla E) y b n ret1 hh Z (.ref (zad Z k0 i0) :: As) σ (zQI Z r σ1)) {host : String} (hlink : Cond.methodLinkNest own ix y host ∈ zNest) (hk0 : i0 < zN k0) (hE0 : zE Z k0 i0 (σ.1 k0 i0) (σ.2 k0 i0) = .inr (ci, fs)) (hc0 : vwCl[ci]? = some (y.cls, T0, N0)) (hsel : Cond.selects y.cls y y ∈ zTB) (hins : Cond.instanceMethod y ∈ zTB) (hcode : Cond.code y b n ret1 ∈ zTB) (hini : Cond.initialized y.cls ∈ zTB) (hdd : y.cls ≠ "java/lang/invoke/MethodHandle" ∧ y.cls ≠ "java/lang/invoke/VarHandle" ∧ (parseMethodDescriptor y.desc).map (fun d => d.parameters.length) = some ia) (hia : As.length = ia) (hm : n ≤ 41) (hh1 : hh + 1 ≤ h) (hd : decode cc pc = .ok (.invokevirtual ix, 3)) (hst8 : (st.map fun v => v.category).sum ≤ 8) (kk : ∀ (r : Int32) (σ1 : zMem), zKO E nL Z QQ (pc + 3) L (.int r :: st) σ1 (g r σ1)) : zKO E nL Z QQ (pc) L (As.reverse ++ .ref (zad Z k0 i0) :: st) σ (zb f g) := by
  intro r σ' ho H locs ls hW hS hl
  cases hf : f with
  | none => rw [hf] at ho; cases ho
  | some q =>
  obtain ⟨r0, σ0⟩ := q
  rw [hf] at ho
  have hR := zRooms hm hh1 C.2.2.2.2.2.2.2.2.2.2.2.1 C.2.2.2.2.2.2.2.2.2.2.2.2.1
  have hP1 := zP1 hW hk0
  rw [hE0] at hP1
  refine va_calli (va_runVN (As := As) (rest := st) ⟨C.1, C.2.1, C.2.2.2.1, C.2.2.1, C.2.2.2.2.1⟩ (M r0 σ0 hf) ⟨(va_cnB ia C.2.2.2.2.1 (zTB_call hcode) rfl rfl rfl (C.2.2.2.2.2.2.2.1 _ hlink) (C.2.2.2.2.1 _ hini) hdd hR), C.2.2.2.2.1 _ hins, C.2.2.2.2.1 _ hsel⟩ ⟨zP_blind, va_recv C.2.2.2.2.2.1 hP1 (ci := ci) (q0 := 0) hc0 rfl, fun U hU hw => ⟨rfl, zP_of hW C.2.2.2.2.2.1 C.2.2.2.2.2.2.1 C.2.2.2.2.2.2.2.1 C.2.2.2.2.2.2.2.2.1 hS hU hw⟩⟩ rfl hia hl.1 rfl (lv_room hst8) hd ⟨C.2.2.2.2.2.2.2.2.2.2.2.2.2.1, C.2.2.2.2.2.2.2.2.2.2.2.2.2.2⟩) hS (fun q _ h => h) (fun q h => h) (fun r1 u t H1 locs1 ht hvm hp hB hz1 hk1 hS1 => ?_)
  have hB : zW Z u t.heap := hB
  rw [ht] at hB
  obtain ⟨rfl, rfl⟩ := hp
  exact kk _ _ r σ' ho H1 locs1 ls hB hS1 hl
theorem zr_callVNL (C : zCx E cc own nL ret Z h) {y : MethodName} {b : ByteArray} {n ix hh ia : Nat} {ret1 : Option FieldType} {As : List Value} {k0 i0 ci N0 : Nat} {T0 : u_T} {fs : List Value} {f : Option (Int64 × zMem)} {g : Int64 → zMem → Option (α × zMem)} (M : ∀ (r : Int64) (σ1 : zMem), f = some (r, σ1) → zMet (zla E) y b n ret1 hh Z (.ref (zad Z k0 i0) :: As) σ (zQL Z r σ1)) {host : String} (hlink : Cond.methodLinkNest own ix y host ∈ zNest) (hk0 : i0 < zN k0) (hE0 : zE Z k0 i0 (σ.1 k0 i0) (σ.2 k0 i0) = .inr (ci, fs)) (hc0 : vwCl[ci]? = some (y.cls, T0, N0)) (hsel : Cond.selects y.cls y y ∈ zTB) (hins : Cond.instanceMethod y ∈ zTB) (hcode : Cond.code y b n ret1 ∈ zTB) (hini : Cond.initialized y.cls ∈ zTB) (hdd : y.cls ≠ "java/lang/invoke/MethodHandle" ∧ y.cls ≠ "java/lang/invoke/VarHandle" ∧ (parseMethodDescriptor y.desc).map (fun d => d.parameters.length) = some ia) (hia : As.length = ia) (hm : n ≤ 41) (hh1 : hh + 1 ≤ h) (hd : decode cc pc = .ok (.invokevirtual ix, 3)) (hst8 : (st.map fun v => v.category).sum ≤ 8) (kk : ∀ (r : Int64) (σ1 : zMem), zKO E nL Z QQ (pc + 3) L (.long r :: st) σ1 (g r σ1)) : zKO E nL Z QQ (pc) L (As.reverse ++ .ref (zad Z k0 i0) :: st) σ (zb f g) := by
  intro r σ' ho H locs ls hW hS hl
  cases hf : f with
  | none => rw [hf] at ho; cases ho
  | some q =>
  obtain ⟨r0, σ0⟩ := q
  rw [hf] at ho
  have hR := zRooms hm hh1 C.2.2.2.2.2.2.2.2.2.2.2.1 C.2.2.2.2.2.2.2.2.2.2.2.2.1
  have hP1 := zP1 hW hk0
  rw [hE0] at hP1
  refine va_calll (va_runVN (As := As) (rest := st) ⟨C.1, C.2.1, C.2.2.2.1, C.2.2.1, C.2.2.2.2.1⟩ (M r0 σ0 hf) ⟨(va_cnB ia C.2.2.2.2.1 (zTB_call hcode) rfl rfl rfl (C.2.2.2.2.2.2.2.1 _ hlink) (C.2.2.2.2.1 _ hini) hdd hR), C.2.2.2.2.1 _ hins, C.2.2.2.2.1 _ hsel⟩ ⟨zP_blind, va_recv C.2.2.2.2.2.1 hP1 (ci := ci) (q0 := 0) hc0 rfl, fun U hU hw => ⟨rfl, zP_of hW C.2.2.2.2.2.1 C.2.2.2.2.2.2.1 C.2.2.2.2.2.2.2.1 C.2.2.2.2.2.2.2.2.1 hS hU hw⟩⟩ rfl hia hl.1 rfl (lv_room hst8) hd ⟨C.2.2.2.2.2.2.2.2.2.2.2.2.2.1, C.2.2.2.2.2.2.2.2.2.2.2.2.2.2⟩) hS (fun q _ h => h) (fun q h => h) (fun r1 u t H1 locs1 ht hvm hp hB hz1 hk1 hS1 => ?_)
  have hB : zW Z u t.heap := hB
  rw [ht] at hB
  obtain ⟨rfl, rfl⟩ := hp
  exact kk _ _ r σ' ho H1 locs1 ls hB hS1 hl
theorem zr_callVNU (C : zCx E cc own nL ret Z h) {y : MethodName} {b : ByteArray} {n ix hh ia : Nat} {ret1 : Option FieldType} {As : List Value} {k0 i0 ci N0 : Nat} {T0 : u_T} {fs : List Value} {f : Option (Unit × zMem)} {g : Unit → zMem → Option (α × zMem)} (M : ∀ (r : Unit) (σ1 : zMem), f = some (r, σ1) → zMet (zla E) y b n ret1 hh Z (.ref (zad Z k0 i0) :: As) σ (zQV Z r σ1)) {host : String} (hlink : Cond.methodLinkNest own ix y host ∈ zNest) (hk0 : i0 < zN k0) (hE0 : zE Z k0 i0 (σ.1 k0 i0) (σ.2 k0 i0) = .inr (ci, fs)) (hc0 : vwCl[ci]? = some (y.cls, T0, N0)) (hsel : Cond.selects y.cls y y ∈ zTB) (hins : Cond.instanceMethod y ∈ zTB) (hcode : Cond.code y b n ret1 ∈ zTB) (hini : Cond.initialized y.cls ∈ zTB) (hdd : y.cls ≠ "java/lang/invoke/MethodHandle" ∧ y.cls ≠ "java/lang/invoke/VarHandle" ∧ (parseMethodDescriptor y.desc).map (fun d => d.parameters.length) = some ia) (hia : As.length = ia) (hm : n ≤ 41) (hh1 : hh + 1 ≤ h) (hd : decode cc pc = .ok (.invokevirtual ix, 3)) (hst8 : (st.map fun v => v.category).sum ≤ 8) (kk : ∀ (r : Unit) (σ1 : zMem), zKO E nL Z QQ (pc + 3) L (st) σ1 (g r σ1)) : zKO E nL Z QQ (pc) L (As.reverse ++ .ref (zad Z k0 i0) :: st) σ (zb f g) := by
  intro r σ' ho H locs ls hW hS hl
  cases hf : f with
  | none => rw [hf] at ho; cases ho
  | some q =>
  obtain ⟨r0, σ0⟩ := q
  rw [hf] at ho
  have hR := zRooms hm hh1 C.2.2.2.2.2.2.2.2.2.2.2.1 C.2.2.2.2.2.2.2.2.2.2.2.2.1
  have hP1 := zP1 hW hk0
  rw [hE0] at hP1
  refine va_callv (va_runVN (As := As) (rest := st) ⟨C.1, C.2.1, C.2.2.2.1, C.2.2.1, C.2.2.2.2.1⟩ (M r0 σ0 hf) ⟨(va_cnB ia C.2.2.2.2.1 (zTB_call hcode) rfl rfl rfl (C.2.2.2.2.2.2.2.1 _ hlink) (C.2.2.2.2.1 _ hini) hdd hR), C.2.2.2.2.1 _ hins, C.2.2.2.2.1 _ hsel⟩ ⟨zP_blind, va_recv C.2.2.2.2.2.1 hP1 (ci := ci) (q0 := 0) hc0 rfl, fun U hU hw => ⟨rfl, zP_of hW C.2.2.2.2.2.1 C.2.2.2.2.2.2.1 C.2.2.2.2.2.2.2.1 C.2.2.2.2.2.2.2.2.1 hS hU hw⟩⟩ rfl hia hl.1 rfl (lv_room hst8) hd ⟨C.2.2.2.2.2.2.2.2.2.2.2.2.2.1, C.2.2.2.2.2.2.2.2.2.2.2.2.2.2⟩) hS (fun q _ h => h) (fun q h => h) (fun u t H1 locs1 ht hvm hp hB hz1 hk1 hS1 => ?_)
  have hB : zW Z u t.heap := hB
  rw [ht] at hB
  cases hp
  exact kk _ _ r σ' ho H1 locs1 ls hB hS1 hl
theorem zr_callSNI (C : zCx E cc own nL ret Z h) {y : MethodName} {b : ByteArray} {n ix hh ia : Nat} {ret1 : Option FieldType} {As : List Value} {f : Option (Int32 × zMem)} {g : Int32 → zMem → Option (α × zMem)} (M : ∀ (r : Int32) (σ1 : zMem), f = some (r, σ1) → zMet (zla E) y b n ret1 hh Z (As) σ (zQI Z r σ1)) {host : String} (hlink : Cond.methodLinkNest own ix y host ∈ zNest) (hst : Cond.static y ∈ zTB) (hcode : Cond.code y b n ret1 ∈ zTB) (hini : Cond.initialized y.cls ∈ zTB) (hdd : y.cls ≠ "java/lang/invoke/MethodHandle" ∧ y.cls ≠ "java/lang/invoke/VarHandle" ∧ (parseMethodDescriptor y.desc).map (fun d => d.parameters.length) = some ia) (hia : As.length = ia) (hm : n ≤ 41) (hh1 : hh + 1 ≤ h) (hd : decode cc pc = .ok (.invokestatic ix, 3)) (hst8 : (st.map fun v => v.category).sum ≤ 8) (kk : ∀ (r : Int32) (σ1 : zMem), zKO E nL Z QQ (pc + 3) L (.int r :: st) σ1 (g r σ1)) : zKO E nL Z QQ (pc) L (As.reverse ++ st) σ (zb f g) := by
  intro r σ' ho H locs ls hW hS hl
  cases hf : f with
  | none => rw [hf] at ho; cases ho
  | some q =>
  obtain ⟨r0, σ0⟩ := q
  rw [hf] at ho
  have hR := zRooms hm hh1 C.2.2.2.2.2.2.2.2.2.2.2.1 C.2.2.2.2.2.2.2.2.2.2.2.2.1
  refine va_calli (va_runSN (As := As) (rest := st) ⟨C.1, C.2.1, C.2.2.2.1, C.2.2.1, C.2.2.2.2.1⟩ (M r0 σ0 hf) ⟨(va_cnB ia C.2.2.2.2.1 (zTB_call hcode) rfl rfl rfl (C.2.2.2.2.2.2.2.1 _ hlink) (C.2.2.2.2.1 _ hini) hdd hR), C.2.2.2.2.1 _ hst, trivial⟩ ⟨zP_blind, fun U hU hw => ⟨rfl, zP_of hW C.2.2.2.2.2.1 C.2.2.2.2.2.2.1 C.2.2.2.2.2.2.2.1 C.2.2.2.2.2.2.2.2.1 hS hU hw⟩⟩ rfl hia hl.1 rfl (lv_room hst8) hd ⟨C.2.2.2.2.2.2.2.2.2.2.2.2.2.1, C.2.2.2.2.2.2.2.2.2.2.2.2.2.2⟩) hS (fun q _ h => h) (fun q h => h) (fun r1 u t H1 locs1 ht hvm hp hB hz1 hk1 hS1 => ?_)
  have hB : zW Z u t.heap := hB
  rw [ht] at hB
  obtain ⟨rfl, rfl⟩ := hp
  exact kk _ _ r σ' ho H1 locs1 ls hB hS1 hl
theorem zr_callSNL (C : zCx E cc own nL ret Z h) {y : MethodName} {b : ByteArray} {n ix hh ia : Nat} {ret1 : Option FieldType} {As : List Value} {f : Option (Int64 × zMem)} {g : Int64 → zMem → Option (α × zMem)} (M : ∀ (r : Int64) (σ1 : zMem), f = some (r, σ1) → zMet (zla E) y b n ret1 hh Z (As) σ (zQL Z r σ1)) {host : String} (hlink : Cond.methodLinkNest own ix y host ∈ zNest) (hst : Cond.static y ∈ zTB) (hcode : Cond.code y b n ret1 ∈ zTB) (hini : Cond.initialized y.cls ∈ zTB) (hdd : y.cls ≠ "java/lang/invoke/MethodHandle" ∧ y.cls ≠ "java/lang/invoke/VarHandle" ∧ (parseMethodDescriptor y.desc).map (fun d => d.parameters.length) = some ia) (hia : As.length = ia) (hm : n ≤ 41) (hh1 : hh + 1 ≤ h) (hd : decode cc pc = .ok (.invokestatic ix, 3)) (hst8 : (st.map fun v => v.category).sum ≤ 8) (kk : ∀ (r : Int64) (σ1 : zMem), zKO E nL Z QQ (pc + 3) L (.long r :: st) σ1 (g r σ1)) : zKO E nL Z QQ (pc) L (As.reverse ++ st) σ (zb f g) := by
  intro r σ' ho H locs ls hW hS hl
  cases hf : f with
  | none => rw [hf] at ho; cases ho
  | some q =>
  obtain ⟨r0, σ0⟩ := q
  rw [hf] at ho
  have hR := zRooms hm hh1 C.2.2.2.2.2.2.2.2.2.2.2.1 C.2.2.2.2.2.2.2.2.2.2.2.2.1
  refine va_calll (va_runSN (As := As) (rest := st) ⟨C.1, C.2.1, C.2.2.2.1, C.2.2.1, C.2.2.2.2.1⟩ (M r0 σ0 hf) ⟨(va_cnB ia C.2.2.2.2.1 (zTB_call hcode) rfl rfl rfl (C.2.2.2.2.2.2.2.1 _ hlink) (C.2.2.2.2.1 _ hini) hdd hR), C.2.2.2.2.1 _ hst, trivial⟩ ⟨zP_blind, fun U hU hw => ⟨rfl, zP_of hW C.2.2.2.2.2.1 C.2.2.2.2.2.2.1 C.2.2.2.2.2.2.2.1 C.2.2.2.2.2.2.2.2.1 hS hU hw⟩⟩ rfl hia hl.1 rfl (lv_room hst8) hd ⟨C.2.2.2.2.2.2.2.2.2.2.2.2.2.1, C.2.2.2.2.2.2.2.2.2.2.2.2.2.2⟩) hS (fun q _ h => h) (fun q h => h) (fun r1 u t H1 locs1 ht hvm hp hB hz1 hk1 hS1 => ?_)
  have hB : zW Z u t.heap := hB
  rw [ht] at hB
  obtain ⟨rfl, rfl⟩ := hp
  exact kk _ _ r σ' ho H1 locs1 ls hB hS1 hl
theorem zr_callSNU (C : zCx E cc own nL ret Z h) {y : MethodName} {b : ByteArray} {n ix hh ia : Nat} {ret1 : Option FieldType} {As : List Value} {f : Option (Unit × zMem)} {g : Unit → zMem → Option (α × zMem)} (M : ∀ (r : Unit) (σ1 : zMem), f = some (r, σ1) → zMet (zla E) y b n ret1 hh Z (As) σ (zQV Z r σ1)) {host : String} (hlink : Cond.methodLinkNest own ix y host ∈ zNest) (hst : Cond.static y ∈ zTB) (hcode : Cond.code y b n ret1 ∈ zTB) (hini : Cond.initialized y.cls ∈ zTB) (hdd : y.cls ≠ "java/lang/invoke/MethodHandle" ∧ y.cls ≠ "java/lang/invoke/VarHandle" ∧ (parseMethodDescriptor y.desc).map (fun d => d.parameters.length) = some ia) (hia : As.length = ia) (hm : n ≤ 41) (hh1 : hh + 1 ≤ h) (hd : decode cc pc = .ok (.invokestatic ix, 3)) (hst8 : (st.map fun v => v.category).sum ≤ 8) (kk : ∀ (r : Unit) (σ1 : zMem), zKO E nL Z QQ (pc + 3) L (st) σ1 (g r σ1)) : zKO E nL Z QQ (pc) L (As.reverse ++ st) σ (zb f g) := by
  intro r σ' ho H locs ls hW hS hl
  cases hf : f with
  | none => rw [hf] at ho; cases ho
  | some q =>
  obtain ⟨r0, σ0⟩ := q
  rw [hf] at ho
  have hR := zRooms hm hh1 C.2.2.2.2.2.2.2.2.2.2.2.1 C.2.2.2.2.2.2.2.2.2.2.2.2.1
  refine va_callv (va_runSN (As := As) (rest := st) ⟨C.1, C.2.1, C.2.2.2.1, C.2.2.1, C.2.2.2.2.1⟩ (M r0 σ0 hf) ⟨(va_cnB ia C.2.2.2.2.1 (zTB_call hcode) rfl rfl rfl (C.2.2.2.2.2.2.2.1 _ hlink) (C.2.2.2.2.1 _ hini) hdd hR), C.2.2.2.2.1 _ hst, trivial⟩ ⟨zP_blind, fun U hU hw => ⟨rfl, zP_of hW C.2.2.2.2.2.1 C.2.2.2.2.2.2.1 C.2.2.2.2.2.2.2.1 C.2.2.2.2.2.2.2.2.1 hS hU hw⟩⟩ rfl hia hl.1 rfl (lv_room hst8) hd ⟨C.2.2.2.2.2.2.2.2.2.2.2.2.2.1, C.2.2.2.2.2.2.2.2.2.2.2.2.2.2⟩) hS (fun q _ h => h) (fun q h => h) (fun u t H1 locs1 ht hvm hp hB hz1 hk1 hS1 => ?_)
  have hB : zW Z u t.heap := hB
  rw [ht] at hB
  cases hp
  exact kk _ _ r σ' ho H1 locs1 ls hB hS1 hl
theorem zr_gets (C : zCx E cc own nL ret Z h) {ix : Nat} (q : String × String × Nat × List Int32) (hq : q ∈ zStat) (hlink : Cond.fieldLink own ix q.1 q.2.1 "[I" ∈ zTB) (hd : decode cc pc = .ok (.getstatic ix, 3)) (kk : zKO E nL Z QQ (pc + 3) L (.ref (zad Z q.2.2.1 0) :: st) σ o) : zKO E nL Z QQ (pc) L (st) σ o :=
  fun r σ' ho H locs ls hW hS hl => va_gets C.1 C.2.1 (C.2.2.2.2.2.2.2.2.1.1 q hq).1 hS C.2.2.1 (C.2.2.2.2.1 _ hlink) (fun _ h => h) hd (kk r σ' ho H locs ls hW hS hl)
theorem zr_ialdS (C : zCx E cc own nL ret Z h) {x : Int32} (q : String × String × Nat × List Int32) (hq : q ∈ zStat) (hd : decode cc pc = .ok (.iaload, 1)) (kk : zKO E nL Z QQ (pc + 1) L (.int (q.2.2.2.getD x.toNatClampNeg 0) :: st) σ o) : zKO E nL Z QQ (pc) L (.int x :: .ref (zad Z q.2.2.1 0) :: st) σ (zg (inb x q.2.2.2.length) o) := by
  refine zr_g fun hb => ?_
  intro r σ' ho H locs ls hW hS hl
  have hin := inb_in hb
  have hlt : x.toNatClampNeg < q.2.2.2.length := Nat.not_le.mp fun e => hin (Or.inr e)
  obtain ⟨cell, g1, g2, g3, g4, g5, g6, g7⟩ := (C.2.2.2.2.2.2.2.2.1.1 q hq).2.kept hS.2.1
  exact W.iald (v := .int (q.2.2.2.getD x.toNatClampNeg 0)) C.1 C.2.1 g1 g2 g3 (fun e => hin (e.imp id (fun e => Nat.le_trans g4 e))) (g6 _ hlt) rfl rfl hd (kk r σ' ho H locs ls hW hS hl)
theorem zr_sald0 (C : zCx E cc own nL ret Z h) {x : Int32} (hd : decode cc pc = .ok (.iaload, 1)) (kk : zKO E nL Z QQ (pc + 1) L (.int (Z.2.2.2.2 x.toNatClampNeg) :: st) σ o) : zKO E nL Z QQ (pc) L (.int x :: .ref (zad Z 170 0) :: st) σ (zg (inb x Z.2.2.2.1) o) := by
  refine zr_g fun hb => ?_
  intro r σ' ho H locs ls hW hS hl
  have hin := inb_in hb
  have hlt : x.toNatClampNeg < Z.2.2.2.1 := Nat.not_le.mp fun e => hin (Or.inr e)
  have hX := (zS_kept C.2.2.2.2.2.2.2.2.1 hS.2.1).2.2.2.2.2.1
  obtain ⟨scr, g1, g2, g3, g4, g5⟩ := hX
  exact W.iald (v := .int (Z.2.2.2.2 x.toNatClampNeg)) C.1 C.2.1 g1 g2 g3 (by rw [g4]; exact hin) (g5 _ hlt) rfl rfl hd (kk r σ' ho H locs ls hW hS hl)
theorem zr_slen0 (C : zCx E cc own nL ret Z h) (hd : decode cc pc = .ok (.arraylength, 1)) (kk : zKO E nL Z QQ (pc + 1) L (.int Z.2.2.2.1.toInt32 :: st) σ o) : zKO E nL Z QQ (pc) L (.ref (zad Z 170 0) :: st) σ o := by
  intro r σ' ho H locs ls hW hS hl
  have hX := (zS_kept C.2.2.2.2.2.2.2.2.1 hS.2.1).2.2.2.2.2.1
  obtain ⟨scr, g1, g2, g3, g4, g5⟩ := hX
  exact W.alen C.1 C.2.1 g1 g2 (by rw [g4]) rfl rfl hd (kk r σ' ho H locs ls hW hS hl)
theorem zr_mmax (C : zCx E cc own nL ret Z h) {ix : Nat} {x y : Int32} (hlink : Cond.methodLink own ix Lib.Math.max.name ∈ zTB) (hstat : Cond.static Lib.Math.max.name ∈ zTB) (hini : Cond.initialized "java/lang/Math" ∈ zTB) (hcode : Cond.code Lib.Math.max.name Lib.Math.max.code 2 (some .int) ∈ zTB) (hh : 1 ≤ h) (hst8 : (st.map fun v => v.category).sum ≤ 8) (hd : decode cc pc = .ok (.invokestatic ix, 3)) (kk : zKO E nL Z QQ (pc + 3) L (.int (zmax x y) :: st) σ o) : zKO E nL Z QQ (pc) L (.int y :: .int x :: st) σ o :=
  fun r σ' ho H locs ls hW hS hl => va_mmax C.1 C.2.1 (by rw [C.2.2.2.1]; exact hl.1.symm) C.2.2.1 (C.2.2.2.2.1 _ hlink) (C.2.2.2.2.1 _ hstat) (C.2.2.2.2.1 _ hini) (C.2.2.2.2.1 _ hcode) (Nat.le_trans hh C.2.2.2.2.2.2.2.2.2.2.2.1) (by have := C.2.2.2.2.2.2.2.2.2.2.2.2.1; omega) C.2.2.2.2.2.2.2.2.2.2.2.2.2.1 C.2.2.2.2.2.2.2.2.2.2.2.2.2.2 hd (kk r σ' ho H locs ls hW hS hl)
theorem zr_mmin (C : zCx E cc own nL ret Z h) {ix : Nat} {x y : Int32} (hlink : Cond.methodLink own ix Lib.Math.min.name ∈ zTB) (hstat : Cond.static Lib.Math.min.name ∈ zTB) (hini : Cond.initialized "java/lang/Math" ∈ zTB) (hcode : Cond.code Lib.Math.min.name Lib.Math.min.code 2 (some .int) ∈ zTB) (hh : 1 ≤ h) (hst8 : (st.map fun v => v.category).sum ≤ 8) (hd : decode cc pc = .ok (.invokestatic ix, 3)) (kk : zKO E nL Z QQ (pc + 3) L (.int (zmin x y) :: st) σ o) : zKO E nL Z QQ (pc) L (.int y :: .int x :: st) σ o :=
  fun r σ' ho H locs ls hW hS hl => va_mmin C.1 C.2.1 (by rw [C.2.2.2.1]; exact hl.1.symm) C.2.2.1 (C.2.2.2.2.1 _ hlink) (C.2.2.2.2.1 _ hstat) (C.2.2.2.2.1 _ hini) (C.2.2.2.2.1 _ hcode) (Nat.le_trans hh C.2.2.2.2.2.2.2.2.2.2.2.1) (by have := C.2.2.2.2.2.2.2.2.2.2.2.2.1; omega) C.2.2.2.2.2.2.2.2.2.2.2.2.2.1 C.2.2.2.2.2.2.2.2.2.2.2.2.2.2 hd (kk r σ' ho H locs ls hW hS hl)
theorem zr_mminl (C : zCx E cc own nL ret Z h) {ix : Nat} {x y : Int64} (hlink : Cond.methodLink own ix Lib.MathLoose.min_long.x ∈ zTB) (hstat : Cond.static Lib.MathLoose.min_long.x ∈ zTB) (hini : Cond.initialized "java/lang/Math" ∈ zTB) (hcode : Cond.code Lib.MathLoose.min_long.x Lib.MathLoose.min_long.code 4 (some .long) ∈ zTB) (hh : 1 ≤ h) (hst8 : (st.map fun v => v.category).sum ≤ 8) (hd : decode cc pc = .ok (.invokestatic ix, 3)) (kk : zKO E nL Z QQ (pc + 3) L (.long (zminl x y) :: st) σ o) : zKO E nL Z QQ (pc) L (.long y :: .long x :: st) σ o :=
  fun r σ' ho H locs ls hW hS hl => va_mmin_long C.1 C.2.1 (by rw [C.2.2.2.1]; exact hl.1.symm) C.2.2.1 (C.2.2.2.2.1 _ hlink) (C.2.2.2.2.1 _ hstat) (C.2.2.2.2.1 _ hini) (C.2.2.2.2.1 _ hcode) (Nat.le_trans hh C.2.2.2.2.2.2.2.2.2.2.2.1) (by have := C.2.2.2.2.2.2.2.2.2.2.2.2.1; omega) C.2.2.2.2.2.2.2.2.2.2.2.2.2.1 C.2.2.2.2.2.2.2.2.2.2.2.2.2.2 hd (kk r σ' ho H locs ls hW hS hl)
end ZB
