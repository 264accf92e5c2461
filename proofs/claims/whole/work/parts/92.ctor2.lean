/-! a constructor's contract: the world D before, D1 after, mc cells and ms slots made -/
def zPN (Z : zLay) (n0 c0 : Nat) (D : zDm) (U : State) : Prop := zWD Z D U.heap ∧ va_K Z.1 vwCl (zTys Z) U ∧ zI Z ∧ zNw U ∧ zLy Z n0 c0 U
def zRmN (n mc ms : Nat) : Room := { frames := n, cells := mc, slots := ms, locals := 60 * n }
def zMetN (l : Launch) (y : MethodName) (b : ByteArray) (n ht : Nat) (Z : zLay) (n0 c0 mc ms : Nat) (av : List Value) (D D1 : zDm) : Prop :=
  Met l y (Cond.code y b n none :: zTB) (zRmN ht mc ms) (va_Pc av (zPN Z n0 c0 D)) (va_Qv (fun _ : Unit => True) (fun _ t => zWD Z D1 t.heap ∧ t.heap.size = n0 + (c0 + mc)) (zNA n0)) mc ms (zNA n0)
theorem zPN_blind {Z : zLay} {n0 c0 : Nat} {D : zDm} {av : List Value} : FrameBlind (va_Pc av (zPN Z n0 c0 D)) := by
  intro a U g mk hq
  obtain ⟨e, h1, h2, h3, h4, h5, h6, h7⟩ := hq
  exact ⟨e, h1, va_K.moved (u := U) (U := U.calling g mk a) (Vm.Alike.refl U.vm) h2, h3, zNw_same (u := U) (U := U.calling g mk a) rfl h4, h5, zOv_vm (u := U) (U := U.calling g mk a) h6 (Vm.Alike.refl U.vm), h7⟩
def zMQN (E : zEn) (Z : zLay) (n0 c0 mc : Nat) (D1 : zDm) : State → Prop := MQ (zbe E) (va_Qv (fun _ : Unit => True) (fun _ t => zWD Z D1 t.heap ∧ t.heap.size = n0 + (c0 + mc)) (zNA n0)) (zar E) (zs E) (znc E) (zns E) (zNA n0)
theorem zMetN_of {l : Launch} {y : MethodName} {b : ByteArray} {n ht n0 c0 mc ms : Nat} {Z : zLay} {av : List Value} {D D1 : zDm} (hy : plainName y.cls = true) (hi : y.name = "<init>") (hn : (lg_sl av).length ≤ n) (L0 : List (Nat × Value)) (hL : lv_args 0 av = L0)
    (hb : ∀ E : zEn, znc E = mc → zns E = ms → zCN E b y.cls n Z ht n0 c0 mc ms → zNN E n Z n0 (zMQN E Z n0 c0 mc D1) 0 L0 [] D 0 0) : zMetN l y b n ht Z n0 c0 mc ms av D D1 := by
  refine Met.ofW (cc := b) (maxL := n) (ret := none) hy rfl ?_
  intro p e s m args below meth c s₁ B hml hv
  obtain ⟨rfl, hW, hK, hI, hN, hY⟩ := hv
  have hts := atoms_spec (ws := Cond.code y b n none :: zTB) B.pre
  have hown : s.vm.findClass y.cls = some m.cls := findClass_of_methodNamed B.named
  have hnm : meth.name = "<init>" := ((name_of_methodNamed B.named B.method).1).trans hi
  have hl := lv_entry av (n := n) hn
  rw [lg_entry_eq]
  rw [hL] at hl
  exact hb (p, l, e, (headSpec (Cond.code y b n none :: zTB) (zRmN ht mc ms)).room, s, m, av.toArray, below, meth, c, mc, ms) rfl rfl ⟨B.exec, B.bytes, hown, hml, fun w hw => hts w (List.mem_cons_of_mem _ hw), hK, hI, hN, hY, B.notSynchronized, Or.inr B.returns, Nat.le_refl _, Nat.le_refl _, Nat.le_refl _, Nat.le_refl _, Or.inr hnm⟩ s.heap [] _ hW rfl va_S.rf hl
section ZO
variable {E : zEn} {cc : ByteArray} {own : String} {nL h n0 c0 mc ms : Nat} {Z : zLay} {pc : Nat} {L : List (Nat × Value)} {st : List Value} {D : zDm} {c b : Nat} {Q : State → Prop}
theorem zn_ret (C : zCN E cc own nL Z h n0 c0 mc ms) (hRL : own ≠ RL) (h1 : znc E = mc) (h2 : zns E = ms) (hc : c = mc) (hs : b ≤ ms) (hd : decode cc pc = .ok (.return_, 1)) : zNN E nL Z n0 (zMQN E Z n0 c0 mc D) pc L [] D c b := fun H locs ls hW hz hS hl => by
  refine W.widen (k := znc E) (n := zns E) (by omega) (by omega) ?_
  refine W.vret C.1 C.2.1 (C.2.2.2.2.2.2.2.2.2.2.1.resolve_left hRL) (fun t ht hw => ⟨⟨(), rfl, trivial, by rw [ht]; exact hW, ?_⟩, hS.F ht⟩) hS.2.2 hd C.2.2.2.2.2.2.2.2.2.1
  rw [ht, hz, C.2.2.2.2.2.2.2.2.1.2.2, hc]
  omega
theorem zn_PN (C : zCN E cc own nL Z h n0 c0 mc ms) {H : Heap} {locs : List Loc} {U : State} (hW : zWD Z D H) (hz : H.size = (zs E).heap.size + c) (e : U.heap = H) (hw : (zs E).WarmedH U.vm) : zPN Z n0 (c0 + c) D U :=
  ⟨by rw [e]; exact hW, va_K.moved hw.alike C.2.2.2.2.2.1, C.2.2.2.2.2.2.1, zNw_warm hw C.2.2.2.2.2.2.2.1, C.2.2.2.2.2.2.2.2.1.1, zOv_vm C.2.2.2.2.2.2.2.2.1.2.1 hw.alike, by
    rw [e, hz, C.2.2.2.2.2.2.2.2.1.2.2]
    omega⟩
theorem zRoomsN {m n h mc ms c b mc1 ms1 : Nat} {R : Room} (hm : m ≤ 41) (hh : n + 1 ≤ h) (h1 : h ≤ R.frames) (h2 : 60 * h ≤ R.locals) (hc : c + mc1 ≤ mc) (hs : b + ms1 ≤ ms) (h3 : mc ≤ R.cells) (h4 : ms ≤ R.slots) : ((zRmN n mc1 ms1).frames + 1 ≤ R.frames ∧ 8 + (m + 11) + (zRmN n mc1 ms1).locals ≤ R.locals) ∧ c + mc1 ≤ R.cells ∧ b + ms1 ≤ R.slots := by
  refine ⟨⟨?_, ?_⟩, by omega, by omega⟩
  · show n + 1 ≤ _
    omega
  · show 8 + (m + 11) + 60 * n ≤ _
    omega
/-- a nest mate's constructor called -/
theorem zn_callN (C : zCN E cc own nL Z h n0 c0 mc ms) {y : MethodName} {bb : ByteArray} {n ix hh mc1 ms1 a : Nat} {D1 : zDm} {host : String} (M : zMetN (zla E) y bb n hh Z n0 (c0 + c) mc1 ms1 [.ref a] D D1) (hi : y.name = "<init>") (hlink : Cond.methodLinkNest own ix y host ∈ zNest) (hins : Cond.instanceMethod y ∈ zTB) (hcode : Cond.code y bb n none ∈ zTB) (hini : Cond.initialized y.cls ∈ zTB) (hdd : y.cls ≠ "java/lang/invoke/MethodHandle" ∧ y.cls ≠ "java/lang/invoke/VarHandle" ∧ (parseMethodDescriptor y.desc).map (fun d => d.parameters.length) = some 0) (hm : n ≤ 41) (hh1 : hh + 1 ≤ h) (hc1 : c + mc1 ≤ mc) (hs1 : b + ms1 ≤ ms) (hd : decode cc pc = .ok (.invokespecial ix, 3)) (hst8 : (st.map fun v => v.category).sum ≤ 8) (kk : zNN E nL Z n0 Q (pc + 3) L st D1 (c + mc1) (b + ms1)) : zNN E nL Z n0 Q pc L (.ref a :: st) D c b := fun H locs ls hW hz hS hl => by
  obtain ⟨hR, hRc⟩ := zRoomsN hm hh1 C.2.2.2.2.2.2.2.2.2.2.2.1 C.2.2.2.2.2.2.2.2.2.2.2.2.1 hc1 hs1 C.2.2.2.2.2.2.2.2.2.2.2.2.2.1 C.2.2.2.2.2.2.2.2.2.2.2.2.2.2.1
  refine va_callv (va_runIN (As := []) (rest := st) ⟨C.1, C.2.1, C.2.2.2.1, C.2.2.1, C.2.2.2.2.1⟩ M ⟨va_cnB 0 C.2.2.2.2.1 (zTB_call hcode) rfl rfl rfl (C.2.2.2.2.2.2.2.1 _ hlink) (C.2.2.2.2.1 _ hini) hdd hR, hi, C.2.2.2.2.1 _ hins⟩ ⟨zPN_blind, fun U hU hw => ⟨rfl, zn_PN (locs := locs) C hW hz hU hw⟩⟩ rfl rfl hl.1 rfl (lv_room hst8) hd hRc) hS (fun q _ h => h) (fun q h => h) (fun u t H1 locs1 ht hvm hp hB hz1 hk1 hS1 => ?_)
  obtain ⟨hB1, hB2⟩ := hB
  rw [ht] at hB1 hB2
  refine kk H1 locs1 ls hB1 ?_ hS1 hl
  rw [hB2, C.2.2.2.2.2.2.2.2.1.2.2]
  omega
/-- a public constructor called -/
theorem zn_callP (C : zCN E cc own nL Z h n0 c0 mc ms) {y : MethodName} {bb : ByteArray} {n ix hh mc1 ms1 a : Nat} {D1 : zDm} (M : zMetN (zla E) y bb n hh Z n0 (c0 + c) mc1 ms1 [.ref a] D D1) (hi : y.name = "<init>") (hlink : Cond.methodLink own ix y ∈ zTB) (hins : Cond.instanceMethod y ∈ zTB) (hcode : Cond.code y bb n none ∈ zTB) (hini : Cond.initialized y.cls ∈ zTB) (hdd : y.cls ≠ "java/lang/invoke/MethodHandle" ∧ y.cls ≠ "java/lang/invoke/VarHandle" ∧ (parseMethodDescriptor y.desc).map (fun d => d.parameters.length) = some 0) (hm : n ≤ 41) (hh1 : hh + 1 ≤ h) (hc1 : c + mc1 ≤ mc) (hs1 : b + ms1 ≤ ms) (hd : decode cc pc = .ok (.invokespecial ix, 3)) (hst8 : (st.map fun v => v.category).sum ≤ 8) (kk : zNN E nL Z n0 Q (pc + 3) L st D1 (c + mc1) (b + ms1)) : zNN E nL Z n0 Q pc L (.ref a :: st) D c b := fun H locs ls hW hz hS hl => by
  obtain ⟨hR, hRc⟩ := zRoomsN hm hh1 C.2.2.2.2.2.2.2.2.2.2.2.1 C.2.2.2.2.2.2.2.2.2.2.2.2.1 hc1 hs1 C.2.2.2.2.2.2.2.2.2.2.2.2.2.1 C.2.2.2.2.2.2.2.2.2.2.2.2.2.2.1
  refine va_callv (va_runI (As := []) (rest := st) ⟨C.1, C.2.1, C.2.2.2.1, C.2.2.1, C.2.2.2.2.1⟩ M ⟨callB_of 0 C.2.2.2.2.1 (zTB_call hcode) rfl rfl rfl (C.2.2.2.2.1 _ hini) (C.2.2.2.2.1 _ hlink) hdd hR, hi, C.2.2.2.2.1 _ hins⟩ ⟨zPN_blind, fun U hU hw => ⟨rfl, zn_PN (locs := locs) C hW hz hU hw⟩⟩ rfl rfl hl.1 rfl (lv_room hst8) hd hRc) hS (fun q _ h => h) (fun q h => h) (fun u t H1 locs1 ht hvm hp hB hz1 hk1 hS1 => ?_)
  obtain ⟨hB1, hB2⟩ := hB
  rw [ht] at hB1 hB2
  refine kk H1 locs1 ls hB1 ?_ hS1 hl
  rw [hB2, C.2.2.2.2.2.2.2.2.1.2.2]
  omega
/-- new T[N][M]: kind k the outer row, kind k1 the N inner ones, all alike -/
def zDr (D : zDm) (k N : Nat) (x : va_E) : zDm := fun a b => if a = k ∧ b < N then some x else D a b
theorem zn_mna (C : zCN E cc own nL Z h n0 c0 mc ms) {ty : FieldType} {ix N M t0 t1 k k1 : Nat} {x y : Int32} {a0 : vp_A} (hlink : Cond.classLink own ix ("[" ++ (FieldType.array ty).toString) ∈ zTB) (hov : FieldType.array ty ∈ zOvL) (harr : Cond.arrayClass ty ∈ zTB) (ht : (zTys Z)[t0]? = some (zca Z t0, .array ty)) (ht1 : (zTys Z)[t1]? = some (zca Z t1, ty)) (hpr : ∀ (u : State) (v : ClassId), va_RA u v ty → u.vm.findClass (FieldType.array ty).toString = some v) (hd : decode cc pc = .ok (.multianewarray ix 2, 4)) (hn : ¬ x < 0) (hm : ¬ y < 0) (hN : x.toNatClampNeg = N) (hM : y.toNatClampNeg = M) (hb1 : N * 4 ≤ 536870912) (hb2 : M * componentBytes ty ≤ 536870912) (hb3 : M ≤ 536870912) (hdf : fits ty (defaultValue ty) = true) (hdd : (defaultValue ty).isDefault = true) (ha : ∀ cA : ClassId, vp_cell cA a0 = arrV cA M (fun _ => defaultValue ty)) (hk : 0 < zN k) (hk1 : N ≤ zN k1) (ho : zoff k 0 = c0 + c) (ho1 : ∀ i, i < N → zoff k1 i = c0 + c + 1 + i) (hc : c + 1 + N ≤ mc) (hs : b + N + N * M ≤ ms) (kk : zNN E nL Z n0 Q (pc + 4) L (.ref (zad Z k 0) :: st) (zDr (zDu D k 0 (.inl (zca Z t0, N, .inr (.inr (.inr (.inr (fun i => if i < N then some (zad Z k1 i) else none))))))) k1 N (.inl (zca Z t1, a0))) (c + 1 + N) (b + N + N * M)) : zNN E nL Z n0 Q pc L (.int y :: .int x :: st) D c b := fun H locs ls hW hz hS hl => by

  sorry
end ZO
