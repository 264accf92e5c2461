theorem dlw_0 : decode cL_law 0 = .ok (.new 7, 3) := by decide +kernel
theorem dlw_3 : decode cL_law 3 = .ok (.dup, 1) := by decide +kernel
theorem dlw_4 : decode cL_law 4 = .ok (.invokespecial 9, 3) := by decide +kernel
theorem dlw_7 : decode cL_law 7 = .ok (.astore_n 1, 1) := by decide +kernel
theorem dlw_8 : decode cL_law 8 = .ok (.new 10, 3) := by decide +kernel
theorem dlw_11 : decode cL_law 11 = .ok (.dup, 1) := by decide +kernel
theorem dlw_12 : decode cL_law 12 = .ok (.invokespecial 12, 3) := by decide +kernel
theorem dlw_15 : decode cL_law 15 = .ok (.astore_n 2, 1) := by decide +kernel
theorem dlw_16 : decode cL_law 16 = .ok (.iconst 0, 1) := by decide +kernel
theorem dlw_17 : decode cL_law 17 = .ok (.istore_n 3, 1) := by decide +kernel
theorem wl_20 : Cond.classLink "AlpCommuneLaw" (7 : Nat) "AlpCommune" ∈ zTB := zTB_mem 147 (by decide +kernel) (by decide +kernel)
theorem wl_21 : Cond.instantiable "AlpCommune" (18 : Nat) ∈ zTB := zTB_mem 148 (by decide +kernel) (by decide +kernel)
theorem wl_1 : Cond.initialized "AlpCommune" ∈ zTB := zTB_mem 128 (by decide +kernel) (by decide +kernel)
theorem wl_22 : Cond.methodLink "AlpCommuneLaw" (9 : Nat) ({ cls := "AlpCommune", name := "<init>", desc := "()V" } : MethodName) ∈ zTB := zTB_mem 149 (by decide +kernel) (by decide +kernel)
theorem wl_23 : Cond.instanceMethod ({ cls := "AlpCommune", name := "<init>", desc := "()V" } : MethodName) ∈ zTB := zTB_mem 150 (by decide +kernel) (by decide +kernel)
theorem wl_24 : Cond.code yX10_init cX10_init 2 none ∈ zTB := zTB_mem 151 (by decide +kernel) (by decide +kernel)
theorem wl_1089 : Cond.classLink "AlpCommuneLaw" (10 : Nat) "AlpCommuneModel" ∈ zTB := zTB_mem 1216 (by decide +kernel) (by decide +kernel)
theorem wl_1090 : Cond.instantiable "AlpCommuneModel" (68 : Nat) ∈ zTB := zTB_mem 1217 (by decide +kernel) (by decide +kernel)
theorem wl_12 : Cond.initialized "AlpCommuneModel" ∈ zTB := zTB_mem 139 (by decide +kernel) (by decide +kernel)
theorem wl_1091 : Cond.methodLink "AlpCommuneLaw" (12 : Nat) ({ cls := "AlpCommuneModel", name := "<init>", desc := "()V" } : MethodName) ∈ zTB := zTB_mem 1218 (by decide +kernel) (by decide +kernel)
theorem wl_1092 : Cond.instanceMethod ({ cls := "AlpCommuneModel", name := "<init>", desc := "()V" } : MethodName) ∈ zTB := zTB_mem 1219 (by decide +kernel) (by decide +kernel)
theorem wl_1093 : Cond.code yX11_init cX11_init 2 none ∈ zTB := zTB_mem 1220 (by decide +kernel) (by decide +kernel)
theorem zn_astore_n {E : zEn} {cc : ByteArray} {own : String} {nL h n0 c0 mc ms : Nat} {Z : zLay} {pc : Nat} {L : List (Nat × Value)} {st : List Value} {D : zDm} {c b : Nat} {Q : State → Prop} (C : zCN E cc own nL Z h n0 c0 mc ms) {q : Fin 4} {i : Nat} {x : Nat} {L1 : List (Nat × Value)} (hd : decode cc pc = .ok (.astore_n q, 1)) (hq : (q : Nat) = i) (hn : i < nL) (hL : (i, Value.ref x) :: L.filter (fun q => !(q.1 == i) && !(q.1 + 1 == i && q.2.category == 2)) = L1) (k : zNN E nL Z n0 Q (pc + 1) L1 st D c b) : zNN E nL Z n0 Q pc L (.ref x :: st) D c b := fun H locs ls hW hz hS hl => lv_astore_n C.1 C.2.1 hd hq hl hn hL (fun ls1 hl1 => k H locs ls1 hW hz hS hl1)
/-- the addresses: cells to be made, the script, the Strings, the static arrays -/
def zadr (n0 b : Nat) (adK adV t : Nat → Nat) : Nat → Nat → Nat := fun k i => if k < 119 then n0 + zoff k i else if k = 170 then b else if k = 180 then adK i else if k = 181 then adV i else t k
theorem zadr_q : ∀ q ∈ zStat, ¬ q.2.2.1 < 119 ∧ q.2.2.1 ≠ 170 ∧ q.2.2.1 ≠ 180 ∧ q.2.2.1 ≠ 181 := by decide +kernel
theorem zadr_s (n0 b : Nat) (adK adV t : Nat → Nat) {q : String × String × Nat × List Int32} (h : q ∈ zStat) : zadr n0 b adK adV t q.2.2.1 0 = t q.2.2.1 := by
  obtain ⟨h1, h2, h3, h4⟩ := zadr_q q h
  unfold zadr
  rw [if_neg h1, if_neg h2, if_neg h3, if_neg h4]
/-! THE CLAIM OUT OF ONE WALK OF THE LAW'S BODY. Your part is whole_start (and what it stands on); all else here is the same for every law, but numbers. -/
def R_law : String := "AlpCommuneLaw"
def lw_P (b : Addr) (xs : List Int32) (args : Array Value) (s : State) : Prop := args = #[.ref b] ∧ s.IntsAt b xs ∧ xs.length ≤ 3072 ∧ (Jvm.Cond.and given_1 narrow_1).before args s = true
def lw_Q (_ : Array Value) (s : State) (o : Outcome) (t : State) : Prop := o = .returned (some (.int 1)) ∧ Framed s o t [] 600000 7302250
def lw_Z (below : List Frame) (a : Array Value) (s : State) : State → Prop := fun t => ∃ o, t.status = .running ∧ Ended t below o ∧ lw_Q a s o t
/-- the law's own end, with 1 on the stack, nothing written that was there before, its room as the claim has it -/
theorem lw_ret {p : Program} {l : Launch} {e : Env} {s : State} {m : MethodId} {below : List Frame} {meth : Method} {c : Code} {b : Nat} (hx : p.tables.exec = Jvm.exec) (hb : c.code = code) (hr : meth.sig.returnType = ret) (hlocks : meth.locks = false) {pc : Nat} {H : Heap} {ls : Array Slot} (hdg : decode code pc = .ok (.ireturn, 1)) : W p l e room_1 s m #[Value.ref b] below meth c H [] 600000 7302250 (lw_Z below #[Value.ref b] s) (F0 m pc ls [.int 1]) := by
  intro T hT X
  obtain ⟨fs, hret, hrun, hended, hW, hframe⟩ := X.leave (v := some (.int 1)) (hlocks := hlocks) (fun h => by rw [hr] at h; cases h)
  have hmeth' : T.vm.method? m = some meth := X.method'
  refine ⟨T.setFrames fs, ?_, .returned (some (.int 1)), hrun, hended, rfl, ⟨_, rfl⟩, hW, hframe⟩
  jvm_step X.here [X.here.top, hx, hb, hdg, hmeth', hr, ret, narrow_b1]
  (try refine ⟨rfl, ?_⟩); (try refine ⟨rfl, ?_⟩)
  first | (intro acts; rw [hret _ acts rfl rfl rfl]) | rw [hret _ _ rfl rfl rfl]
  exact Steps.refl _
/-- what holds at the law's entry: the machine, the code, the tables' words (any of lw_tbl by 'hts w (by decide +kernel)'), the script of L ints xs at the cell b, what the Statement gives of the start (any of its parts by flat_of_before) -/
def lw_At (p : Program) (s : State) (m : MethodId) (meth : Method) (c : Code) (b L : Nat) (xs : Nat → Int32) : Prop :=
  p.tables.exec = Jvm.exec ∧ c.code = code ∧ meth.sig.returnType = ret ∧ c.maxLocals = 4 ∧ s.vm.findClass R_law = some m.cls ∧ (∀ w ∈ lw_tbl, w.before #[Value.ref b] s = true) ∧ va_X b L xs s s.heap ∧ b < s.heap.size ∧ meth.locks = false ∧ (Jvm.Cond.and given_1 narrow_1).before #[Value.ref b] s = true
section LW
variable {p : Program} {e : Env} {s : State} {m : MethodId} {below : List Frame} {meth : Method} {c : Code} {l : Launch} {b L : Nat} {xs : Nat → Int32} {G : va_G} {ca : Nat → ClassId} {adK adV t : Nat → Nat}
theorem lw_zad {k i : Nat} (h : i < zN k) : zad ((G, zadr s.heap.size b adK adV t, ca, L, xs) : zLay) k i = s.heap.size + zoff k i := if_pos (zN_big h)
theorem lw_zI : zI ((G, zadr s.heap.size b adK adV t, ca, L, xs) : zLay) := fun k i k' i' h h' q => zoff_i h h' (by
  rw [lw_zad (s := s) h, lw_zad (s := s) h'] at q
  omega)
theorem lw_zA : ∀ q, zA ((G, zadr s.heap.size b adK adV t, ca, L, xs) : zLay) q → zNA s.heap.size q := by
  rintro q ⟨k, i, h, rfl⟩
  rw [lw_zad (s := s) h]
  exact Nat.le_add_right _ _
theorem lw_zS (hts : ∀ w ∈ lw_tbl, w.before #[Value.ref b] s = true) (hs : ∀ w ∈ zFl, w.before #[Value.ref b] s = true) (hX : va_X b L xs s s.heap) (hbl : b < s.heap.size)
    (ht : ∀ q ∈ zStat, va_Z q.1 q.2.1 "[I" (.ref (t q.2.2.1)) (zNA s.heap.size) s s.heap ∧ va_T .int (t q.2.2.1) q.2.2.2.length (fun j => .int (q.2.2.2.getD j 0)) (zNA s.heap.size) s s.heap)
    (hSt : vk_S zSn zSlen zSbyt adK adV (zNA s.heap.size) s s.heap) (hR : ∀ q ∈ zStr, vk_R q.1 q.2.1 q.2.2.1 (adK q.2.2.2) s) : zS ((G, zadr s.heap.size b adK adV t, ca, L, xs) : zLay) s s.heap := by
  have hA : ∀ a : Nat, a < s.heap.size → ¬ zNA s.heap.size a := fun a h => Nat.not_le.mpr h
  refine ⟨fun q hq => ?_, ?_, fun q hq => hR q hq, ?_, ?_, hX, fun h => ?_⟩
  · show va_Z q.1 q.2.1 "[I" (.ref (zadr s.heap.size b adK adV t q.2.2.1 0)) _ _ _ ∧ va_T .int (zadr s.heap.size b adK adV t q.2.2.1 0) _ _ _ _ _
    rw [zadr_s _ _ _ _ _ hq]
    exact ⟨(ht q hq).1.narrow lw_zA, (ht q hq).2.narrow lw_zA⟩
  · exact hSt.narrow lw_zA
  · exact (va_Zof (hts _ st_c2.1) (hts _ st_c2.2.1) (va_eqi (hs _ st_c1.1)) hA).narrow lw_zA
  · exact (va_Zqof (hts _ st_c2.2.2.1) (hts _ st_c2.2.2.2) (hs _ st_c1.2) hA).narrow lw_zA
  · have h1 : s.heap.size ≤ b := lw_zA _ h
    omega
theorem lw_hret {Z : zLay} {k n : Nat} (hx : p.tables.exec = Jvm.exec) (hb : c.code = code) (hr : meth.sig.returnType = ret) (hlk : meth.locks = false) (hAn : ∀ q, zA Z q → s.heap.size ≤ q) (hk : k ≤ 600000) (hn : n ≤ 7302250) (pc : Nat) (L : List (Nat × Value)) (x : Int32) (σ : zMem) (hd : decode cL_law pc = .ok (.ireturn, 1)) :
    zKO ((p, l, e, room_1, s, m, #[Value.ref b], below, meth, c, k, n) : zEn) 4 Z (fun (r : Int32) (_ : zMem) (t : State) => r = 1 → lw_Z below #[Value.ref b] s t) pc L [.int x] σ (some (x, σ)) := by
  intro r σ' ho H locs ls hW hS hl
  cases ho
  by_cases q : x = 1
  · subst q
    have h1 : W p l e room_1 s m #[Value.ref b] below meth c H [] k n (lw_Z below #[Value.ref b] s) (F0 m pc ls [.int 1]) := W.widen hk hn (lw_ret hx hb hr hlk hd)
    have h2 := W.forget (L := locs) (fun q hq => hAn _ (hS.2.2 q hq)) h1
    intro T hT X
    obtain ⟨t, a1, b1⟩ := h2 T hT X
    exact ⟨t, a1, fun _ => b1⟩
  · intro T hT X
    exact ⟨_, Steps.refl _, fun h => absurd h q⟩
end LW
theorem whole_start {p : Program} {e : Env} {s : State} {m : MethodId} {below : List Frame} {meth : Method} {c : Code} (l : Launch) (hflags : l.flags = flags0) {b L : Nat} {xs : Nat → Int32} (hL : L ≤ 3072) (C0 : lw_At p s m meth c b L xs) : W p l e room_1 s m #[Value.ref b] below meth c s.heap [] 0 0 (lw_Z below #[Value.ref b] s) (entryFrame m ([Value.ref b] : List Value).toArray 4) := by
  obtain ⟨hx, hb, hr, hml, hown, hts, hX, hbl, hlk, hgv⟩ := C0
  have hs : ∀ w ∈ zFl, w.before #[Value.ref b] s = true := flat_of_before _ hgv
  obtain ⟨G, ca, hK⟩ := st_K hts
  obtain ⟨t, ht⟩ := st_stat hs hts
  obtain ⟨adK, adV, hSt, hR⟩ := st_str hs hts
  have hS0 := lw_zS (G := G) (ca := ca) hts hs hX hbl ht hSt hR
  have hI := lw_zI (s := s) (b := b) (G := G) (ca := ca) (L := L) (xs := xs) (adK := adK) (adV := adV) (t := t)
  have hAn := lw_zA (s := s) (b := b) (G := G) (ca := ca) (L := L) (xs := xs) (adK := adK) (adV := adV) (t := t)
  have had : ∀ k i, i < zN k → zad ((G, zadr s.heap.size b adK adV t, ca, L, xs) : zLay) k i = s.heap.size + zoff k i := fun k i h => lw_zad h
  have hZb : zad ((G, zadr s.heap.size b adK adV t, ca, L, xs) : zLay) 170 0 = b := rfl
  have hKZ : va_K ((G, zadr s.heap.size b adK adV t, ca, L, xs) : zLay).1 vwCl (zTys (G, zadr s.heap.size b adK adV t, ca, L, xs)) s := hK _ _ _
  have hLZ : ((G, zadr s.heap.size b adK adV t, ca, L, xs) : zLay).2.2.2.1 ≤ 3072 := hL
  generalize ((G, zadr s.heap.size b adK adV t, ca, L, xs) : zLay) = Z at hS0 hI hAn had hZb hKZ hLZ
  have C : zCN ((p, l, e, room_1, s, m, #[Value.ref b], below, meth, c, 712, 51130) : zEn) cL_law RL 4 Z 4 s.heap.size 0 712 51130 := ⟨hx, hb, hown, hml, st_TB hts, hKZ, hI, st_nw hts, ⟨had, st_ov hts, rfl⟩, hlk, Or.inl rfl, (by decide : 4 ≤ 2048), (by decide : 60 * 4 ≤ 84000), (by decide : 712 ≤ 600000), (by decide : 51130 ≤ 7302250), Or.inl rfl⟩
  have CX : zCx ((p, l, e, room_1, s, m, #[Value.ref b], below, meth, c, 712, 51130) : zEn) cL_law RL 4 (some .boolean) Z 13 := ⟨hx, hb, hown, hml, st_TB hts, hKZ, hI, st_nw hts, hS0, hlk, hr, (by decide : 13 ≤ 2048), (by decide : 60 * 13 ≤ 84000), (by decide : 712 ≤ 600000), (by decide : 51130 ≤ 7302250)⟩
  have main : zNN ((p, l, e, room_1, s, m, #[Value.ref b], below, meth, c, 712, 51130) : zEn) 4 Z s.heap.size (lw_Z below #[Value.ref b] s) 18 [(0, .ref (zad Z 170 0)), (1, .ref (zad Z 0 0)), (2, .ref (zad Z 60 0)), (3, .int 0)] [] (zDfin Z) 712 51130 := fun H locs ls hW hz hS hl => by
    obtain ⟨σ', hrun⟩ := law_run (F := 400000) (Z := Z) (σ := zsig) (by decide) hLZ z0Rel rfl
    have h1 := c_zlaw 400000 Z (QQ := fun (r : Int32) (_ : zMem) (t : State) => r = 1 → lw_Z below #[Value.ref b] s t) (lw_hret (l := l) (e := e) (m := m) hx hb hr hlk (fun q hq => hAn q hq) (by decide) (by decide)) CX (Nat.le_refl _) 400000 zsig 0 1 σ' hrun H [] ls (w0_all hW) ⟨hS.1, fun q h1 _ => hS.2.1 q h1 (Nat.not_le.mpr h1), fun q hq => absurd hq List.not_mem_nil⟩ hl
    have h2 := W.forget (L := locs) (fun q hq => hS.2.2 q hq) h1
    intro T hT X
    obtain ⟨t, a1, b1⟩ := h2 T hT X
    exact ⟨t, a1, b1 rfl⟩
  have start : zNN ((p, l, e, room_1, s, m, #[Value.ref b], below, meth, c, 712, 51130) : zEn) 4 Z s.heap.size (lw_Z below #[Value.ref b] s) 0 [(0, .ref (zad Z 170 0))] [] zD0 0 0 := by
    refine zn_new C (Cn := RX10) (T := TX10) (N := 18) (ci := 10) (fs := fX10_0) (k := 0) (i := 0) zin_X10 tyX10_ok rfl nfX10 wl_20 wl_21 wl_1 dlw_0 (by decide) rfl (by omega) (by omega) ?_
    refine zn_dup C dlw_3 rfl ?_
    refine zn_callP C (mX10 (D := zD0) rfl) rfl wl_22 wl_23 wl_24 wl_1 (by decide +kernel) (by decide) (by omega) (by omega) (by omega) dlw_4 (Nat.le_of_ble_eq_true rfl) ?_
    refine zn_astore_n C dlw_7 (i := 1) rfl (by decide) rfl ?_
    refine zn_new C (Cn := RX11) (T := TX11) (N := 68) (ci := 11) (fs := fX11_0) (k := 60) (i := 0) zin_X11 tyX11_ok rfl nfX11 wl_1089 wl_1090 wl_12 dlw_8 (by decide) rfl (by omega) (by omega) ?_
    refine zn_dup C dlw_11 rfl ?_
    refine zn_callP C (mX11 (D := gX10 Z zD0) rfl) rfl wl_1091 wl_1092 wl_1093 wl_12 (by decide +kernel) (by decide) (by omega) (by omega) (by omega) dlw_12 (Nat.le_of_ble_eq_true rfl) ?_
    refine zn_astore_n C dlw_15 (i := 2) rfl (by decide) rfl ?_
    refine zn_iconst C dlw_16 (v := 0) (by decide) ?_
    refine zn_istore_n C dlw_17 (i := 3) rfl (by decide) rfl ?_
    exact zn_sub [3, 2, 1, 0] rfl main
  have hl := lv_entry [Value.ref b] (n := 4) (Nat.le_of_ble_eq_true rfl)
  rw [lg_entry_eq]
  rw [show lv_args 0 [Value.ref b] = [(0, .ref (zad Z 170 0))] by rw [hZb]; rfl] at hl
  exact start s.heap [] _ (fun k i x h => (by cases h)) rfl va_S.rf hl
set_option maxHeartbeats 4000000 in
theorem lw_walk (l : Launch) (hflags : l.flags = flags0) (b : Addr) (xs : List Int32) : MetFree l x (headSpec (Jvm.Cond.code x code maxLocals ret :: tables_1) room_1) (lw_P b xs) (fun _ _ _ _ _ => True) lw_Q := by
  refine MetFree.of_bodyS (code := code) (maxLocals := maxLocals) (ret := ret) (by decide) ?_ ?_
  · intro args s m h hn
    obtain ⟨meth, c, h1, h2, h3, h4, h5, h6, -, -⟩ := Cond.code_spec hn (atoms_spec (ws := Jvm.Cond.code x code maxLocals ret :: tables_1) h _ List.mem_cons_self)
    exact ⟨meth, c, h1, h2, h3, h4, h5, h6⟩
  · intro p e s m args below meth c s₁ B hml0 hP _
    obtain ⟨rfl, hx, hbd, hgv⟩ := hP
    obtain ⟨scr, harrAt, hlist, hof, hsmall⟩ := hx
    obtain ⟨hcb, hkn, -, -⟩ := State.arrayAt?_spec harrAt
    have hown : s.vm.findClass R_law = some m.cls := findClass_of_methodNamed B.named
    have hts0 : ∀ c ∈ (Jvm.Cond.code x code maxLocals ret :: tables_1), c.before #[Value.ref b] s = true := atoms_spec (ws := Jvm.Cond.code x code maxLocals ret :: tables_1) B.pre
    have hts : ∀ w ∈ lw_tbl, w.before #[Value.ref b] s = true := k2_hts_sels lw_privs (fun w hw => hts0 w (List.mem_cons_of_mem _ hw)) lw_privs_ok
    have hml : c.maxLocals = 4 := B.maxLocals_eq (hts0 _ List.mem_cons_self)
    have X₀ : Stand p l e room_1 s m #[Value.ref b] below meth c s₁ [] 0 0 := Stand.of_body B
    have hh0 : s₁.heap = s.heap := by rw [B.state]; rfl
    have hsz : scr.slots.size = xs.length := by rw [← Array.length_toList, hlist, List.length_map]
    have hval : ∀ j : Nat, j < xs.length → scr.slots[j]? = some (.int (xs.getD j 0)) := fun j hj => by
      rw [← Array.getElem?_toList, hlist]
      simp [hj]
    have hbl : b < s.heap.size := (Array.getElem?_eq_some_iff.mp hcb).1
    have hX : va_X b xs.length (fun j => xs.getD j 0) s s.heap := ⟨scr, hcb, hof, hkn, hsz, hval⟩
    have K : W p l e room_1 s m #[Value.ref b] below meth c s₁.heap [] 0 0 (lw_Z below #[Value.ref b] s) (entryFrame m ([Value.ref b] : List Value).toArray 4) := by
      rw [hh0]
      exact whole_start l hflags hbd ⟨B.exec, B.bytes, B.returns, hml, hown, hts, hX, hbl, B.notSynchronized, hgv⟩
    obtain ⟨t, a1, o, b1, b2, b3⟩ := K s₁ rfl X₀
    exact ⟨t, o, a1, b1, b2, b3⟩
theorem lw_pre_spec {args : Array Value} {s : State} (h : (Jvm.Cond.and given_1 narrow_1).before args s = true) (hr : rest_1_c.before args s = true) : ∃ (b : Addr) (xs : List Int32), lw_P b xs args s := by
  have hs := flat_of_before _ h
  have hq := flat_of_before _ hr
  have hc : (Cond.count 1).before args s = true := hs _ (by decide +kernel)
  have harr : (Cond.arrayOf (.arg 0) .int).before args s = true := hs _ (by decide +kernel)
  have hle : (Cond.le (.length (.arg 0)) (.int 3072)).before args s = true := hs _ (by decide +kernel)
  have hlen : (Cond.isInt (.length (.arg 0))).before args s = true := hq _ (by decide +kernel)
  have hall : (Cond.all (.arg 0) (.isInt (.elem (.arg 0) (.index 0)))).before args s = true := hq _ (by decide +kernel)
  obtain ⟨b, xs, hb, hx⟩ := State.ints_of_pre rfl harr hlen hall
  have hsm : xs.length < 2 ^ 31 := hx.choose_spec.2.2.2
  have hev : (Term.length (.arg 0)).eval args s none [] s = some (.int xs.length.toInt32) := hx.length_eval hb
  have hv := Cond.le_ints hev (show (Term.int 3072).eval args s none [] s = some (.int 3072) from rfl)
  have hd : xs.length.toInt32 ≤ 3072 := by
    simpa [Cond.before, Cond.holds, hv] using hle
  have hN : xs.length ≤ 3072 := (Int32.ofNat_le_ofNat hsm (by decide)).mp (show Int32.ofNat xs.length ≤ Int32.ofNat 3072 from hd)
  exact ⟨b, xs, Cond.one_arg hc (show args[0]? = some (.ref b) from hb), hx, hN, h⟩
theorem lw_comes (l : Launch) (hflags : l.flags = flags0) : Comes l x (Jvm.Cond.code x code maxLocals ret :: tables_1) room_1 (fun tb e args s => Calls_1 tb e args s ∧ rest_1 tb e args s ∧ Pre_1 tb e args s)
    (fun _ _ args s o t => lw_Q args s o t) := by
  intro p e ha hc hk s m args below hf hfit hheap happ hpre
  obtain ⟨b, xs, hP⟩ := lw_pre_spec hpre.2.2 hpre.2.1
  obtain ⟨k, o, h1, h2, h3, hQ⟩ := lw_walk l hflags b xs p e ha hc hk s m args below hf ((Spec.applies_iff_loose hf).mp happ).1 hP trivial
  exact ⟨k, o, h1, h2, h3, hQ⟩
theorem lw_frame {s t : State} {o : Outcome} {args : Array Value} (h : Framed s o t [] 600000 7302250) :
    Framed s o t (fieldLocs frame_1_writes args s ++ arrayLocs frame_1_arrays args s ++ staticLocs frame_1_statics s) 600000 7302250 := h
theorem lw_limb (L : Cond) (hL : ∀ (args : Array Value) (s t : State), L.after args s (.returned (some (.int 1))) t = true) :
    ArmFor flags0 classFile x code maxLocals ret World_1 tables_1 room_1 Calls_1 rest_1 Pre_1
      (fun tb e a s o t => postC L tb e a s o t ∧ Framed s o t (fieldLocs frame_1_writes a s ++ arrayLocs frame_1_arrays a s ++ staticLocs frame_1_statics s) 600000 7302250) := by
  intro l hflags _ _ p e ha hc hk s m args below hf hfit hheap happ hpre
  obtain ⟨k, o, h1, h2, h3, rfl, hF⟩ := lw_comes l hflags p e ha hc hk s m args below hf hfit hheap happ hpre
  exact ⟨k, _, h1, h2, h3, hL args s _, lw_frame hF⟩
theorem i_vc : Claimed_1_1 ∧ Claimed_1_2 := ⟨lw_limb limb_1_1 (fun args s t => by simp [limb_1_1, Cond.after, Cond.holds, Cond.value]), lw_limb limb_1_2 (fun args s t => Cond.after_iff.mpr (by
  first | (rw [show limb_1_2 = Cond.eq .result (.int 1) from rfl, Cond.eq_ints (x := 1) (y := 1) rfl rfl]; simp; done) | (simp [limb_1_2, Cond.value, Term.eval]; done)))⟩

