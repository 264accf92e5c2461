section
/-! a constructor's contract: the world D before, D1 after, mc cells and ms slots made -/
def zPN (Z : zLay) (n0 c0 : Nat) (D : zDm) (U : State) : Prop := zWD Z D U.heap ∧ va_K Z.1 vwCl (zTys Z) U ∧ zI Z ∧ zNw U ∧ zLy Z n0 c0 U
def zRmN (n mc ms : Nat) : Room := { frames := n, cells := mc, slots := ms, locals := 60 * n }
def zMetN (l : Launch) (y : MethodName) (b : ByteArray) (n ht : Nat) (Z : zLay) (n0 c0 mc ms : Nat) (av : List Value) (D D1 : zDm) : Prop :=
  Met l y (Cond.code y b n none :: zTB) (zRmN ht mc ms) (va_Pc av (zPN Z n0 c0 D)) (va_Qv (fun _ : Unit => True) (fun _ t => zWD Z D1 t.heap ∧ t.heap.size = n0 + (c0 + mc)) (zNA n0)) mc ms (zNA n0)
theorem zPN_blind {Z : zLay} {n0 c0 : Nat} {D : zDm} {av : List Value} : FrameBlind (va_Pc av (zPN Z n0 c0 D)) := by
  intro a U g mk hq
  obtain ⟨e, h1, h2, h3, h4, h5, h6, h7⟩ := hq
  exact ⟨e, h1, va_K.moved (u := U) (U := U.calling g mk a) (Vm.Alike.refl U.vm) h2, h3, zNw_same (u := U) (U := U.calling g mk a) rfl h4, h5, zOv_vm (u := U) (U := U.calling g mk a) h6 (Vm.Alike.refl U.vm), h7⟩
def zMQN (E : zEn) (Z : zLay) (n0 c0 mc : Nat) (D1 : zDm) : State → Prop := MQ (zbe E) (va_Qv (fun _ : Unit => True) (fun _ t => zWD Z D1 t.heap ∧ t.heap.size = n0 + (c0 + mc)) (zNA n0)) (zar E) (zs E) (znc E) (zns E) (zNA n0)
theorem zMetN_of {l : Launch} {y : MethodName} {b : ByteArray} {n ht n0 c0 mc ms : Nat} {Z : zLay} {av : List Value} {D D1 : zDm} (hy : plainName y.cls = true) (hi : y.name = "<init>") (hn : (lg_sl av).length ≤ n) (L0 : List (Nat × Value)) (hL : lv_args 0 av = L0)
    (hb : ∀ E : zEn, znc E = mc → zns E = ms → zCN E b y.cls n Z ht n0 c0 mc ms → zNN E n Z n0 (zMQN E Z n0 c0 mc D1) 0 L0 [] D 0 0) : zMetN l y b n ht Z n0 c0 mc ms av D D1 := by
  refine Met.ofW (cc := b) (maxL := n) (ret := none) hy rfl ?_
  intro p e s m args below meth c s₁ B hml hv
  obtain ⟨rfl, hW, hK, hI, hN, hY⟩ := hv
  have hts := atoms_spec (ws := Cond.code y b n none :: zTB) B.pre
  have hown : s.vm.findClass y.cls = some m.cls := findClass_of_methodNamed B.named
  have hnm : meth.name = "<init>" := ((name_of_methodNamed B.named B.method).1).trans hi
  have hl := lv_entry av (n := n) hn
  rw [lg_entry_eq]
  rw [hL] at hl
  exact hb (p, l, e, (headSpec (Cond.code y b n none :: zTB) (zRmN ht mc ms)).room, s, m, av.toArray, below, meth, c, mc, ms) rfl rfl ⟨B.exec, B.bytes, hown, hml, fun w hw => hts w (List.mem_cons_of_mem _ hw), hK, hI, hN, hY, B.notSynchronized, Or.inr B.returns, Nat.le_refl _, Nat.le_refl _, Nat.le_refl _, Nat.le_refl _, Or.inr hnm⟩ s.heap [] _ hW rfl va_S.rf hl
section ZO
variable {E : zEn} {cc : ByteArray} {own : String} {nL h n0 c0 mc ms : Nat} {Z : zLay} {pc : Nat} {L : List (Nat × Value)} {st : List Value} {D : zDm} {c b : Nat} {Q : State → Prop}
theorem zn_ret (C : zCN E cc own nL Z h n0 c0 mc ms) (hRL : own ≠ RL) (h1 : znc E = mc) (h2 : zns E = ms) (hc : c = mc) (hs : b ≤ ms) (hd : decode cc pc = .ok (.return_, 1)) : zNN E nL Z n0 (zMQN E Z n0 c0 mc D) pc L [] D c b := fun H locs ls hW hz hS hl => by
  refine W.widen (k := znc E) (n := zns E) (by omega) (by omega) ?_
  refine W.vret C.1 C.2.1 (C.2.2.2.2.2.2.2.2.2.2.1.resolve_left hRL) (fun t ht hw => ⟨⟨(), rfl, trivial, by rw [ht]; exact hW, ?_⟩, hS.F ht⟩) hS.2.2 hd C.2.2.2.2.2.2.2.2.2.1
  rw [ht, hz, C.2.2.2.2.2.2.2.2.1.2.2, hc]
  omega
theorem zn_PN (C : zCN E cc own nL Z h n0 c0 mc ms) {H : Heap} {locs : List Loc} {U : State} (hW : zWD Z D H) (hz : H.size = (zs E).heap.size + c) (e : U.heap = H) (hw : (zs E).WarmedH U.vm) : zPN Z n0 (c0 + c) D U :=
  ⟨by rw [e]; exact hW, va_K.moved hw.alike C.2.2.2.2.2.1, C.2.2.2.2.2.2.1, zNw_warm hw C.2.2.2.2.2.2.2.1, C.2.2.2.2.2.2.2.2.1.1, zOv_vm C.2.2.2.2.2.2.2.2.1.2.1 hw.alike, by
    rw [e, hz, C.2.2.2.2.2.2.2.2.1.2.2]
    omega⟩
theorem zRoomsN {m n h mc ms c b mc1 ms1 : Nat} {R : Room} (hm : m ≤ 41) (hh : n + 1 ≤ h) (h1 : h ≤ R.frames) (h2 : 60 * h ≤ R.locals) (hc : c + mc1 ≤ mc) (hs : b + ms1 ≤ ms) (h3 : mc ≤ R.cells) (h4 : ms ≤ R.slots) : ((zRmN n mc1 ms1).frames + 1 ≤ R.frames ∧ 8 + (m + 11) + (zRmN n mc1 ms1).locals ≤ R.locals) ∧ c + mc1 ≤ R.cells ∧ b + ms1 ≤ R.slots := by
  refine ⟨⟨?_, ?_⟩, by omega, by omega⟩
  · show n + 1 ≤ _
    omega
  · show 8 + (m + 11) + 60 * n ≤ _
    omega
/-- a nest mate's constructor called -/
theorem zn_callN (C : zCN E cc own nL Z h n0 c0 mc ms) {y : MethodName} {bb : ByteArray} {n ix hh mc1 ms1 a : Nat} {D1 : zDm} {host : String} (M : zMetN (zla E) y bb n hh Z n0 (c0 + c) mc1 ms1 [.ref a] D D1) (hi : y.name = "<init>") (hlink : Cond.methodLinkNest own ix y host ∈ zNest) (hins : Cond.instanceMethod y ∈ zTB) (hcode : Cond.code y bb n none ∈ zTB) (hini : Cond.initialized y.cls ∈ zTB) (hdd : y.cls ≠ "java/lang/invoke/MethodHandle" ∧ y.cls ≠ "java/lang/invoke/VarHandle" ∧ (parseMethodDescriptor y.desc).map (fun d => d.parameters.length) = some 0) (hm : n ≤ 41) (hh1 : hh + 1 ≤ h) (hc1 : c + mc1 ≤ mc) (hs1 : b + ms1 ≤ ms) (hd : decode cc pc = .ok (.invokespecial ix, 3)) (hst8 : (st.map fun v => v.category).sum ≤ 8) (kk : zNN E nL Z n0 Q (pc + 3) L st D1 (c + mc1) (b + ms1)) : zNN E nL Z n0 Q pc L (.ref a :: st) D c b := fun H locs ls hW hz hS hl => by
  obtain ⟨hR, hRc⟩ := zRoomsN hm hh1 C.2.2.2.2.2.2.2.2.2.2.2.1 C.2.2.2.2.2.2.2.2.2.2.2.2.1 hc1 hs1 C.2.2.2.2.2.2.2.2.2.2.2.2.2.1 C.2.2.2.2.2.2.2.2.2.2.2.2.2.2.1
  refine va_callv (va_runIN (As := []) (rest := st) ⟨C.1, C.2.1, C.2.2.2.1, C.2.2.1, C.2.2.2.2.1⟩ M ⟨va_cnB 0 C.2.2.2.2.1 (zTB_call hcode) rfl rfl rfl (C.2.2.2.2.2.2.2.1 _ hlink) (C.2.2.2.2.1 _ hini) hdd hR, hi, C.2.2.2.2.1 _ hins⟩ ⟨zPN_blind, fun U hU hw => ⟨rfl, zn_PN (locs := locs) C hW hz hU hw⟩⟩ rfl rfl hl.1 rfl (lv_room hst8) hd hRc) hS (fun q _ h => h) (fun q h => h) (fun u t H1 locs1 ht hvm hp hB hz1 hk1 hS1 => ?_)
  obtain ⟨hB1, hB2⟩ := hB
  rw [ht] at hB1 hB2
  refine kk H1 locs1 ls hB1 ?_ hS1 hl
  rw [hB2, C.2.2.2.2.2.2.2.2.1.2.2]
  omega
/-- a public constructor called -/
theorem zn_callP (C : zCN E cc own nL Z h n0 c0 mc ms) {y : MethodName} {bb : ByteArray} {n ix hh mc1 ms1 a : Nat} {D1 : zDm} (M : zMetN (zla E) y bb n hh Z n0 (c0 + c) mc1 ms1 [.ref a] D D1) (hi : y.name = "<init>") (hlink : Cond.methodLink own ix y ∈ zTB) (hins : Cond.instanceMethod y ∈ zTB) (hcode : Cond.code y bb n none ∈ zTB) (hini : Cond.initialized y.cls ∈ zTB) (hdd : y.cls ≠ "java/lang/invoke/MethodHandle" ∧ y.cls ≠ "java/lang/invoke/VarHandle" ∧ (parseMethodDescriptor y.desc).map (fun d => d.parameters.length) = some 0) (hm : n ≤ 41) (hh1 : hh + 1 ≤ h) (hc1 : c + mc1 ≤ mc) (hs1 : b + ms1 ≤ ms) (hd : decode cc pc = .ok (.invokespecial ix, 3)) (hst8 : (st.map fun v => v.category).sum ≤ 8) (kk : zNN E nL Z n0 Q (pc + 3) L st D1 (c + mc1) (b + ms1)) : zNN E nL Z n0 Q pc L (.ref a :: st) D c b := fun H locs ls hW hz hS hl => by
  obtain ⟨hR, hRc⟩ := zRoomsN hm hh1 C.2.2.2.2.2.2.2.2.2.2.2.1 C.2.2.2.2.2.2.2.2.2.2.2.2.1 hc1 hs1 C.2.2.2.2.2.2.2.2.2.2.2.2.2.1 C.2.2.2.2.2.2.2.2.2.2.2.2.2.2.1
  refine va_callv (va_runI (As := []) (rest := st) ⟨C.1, C.2.1, C.2.2.2.1, C.2.2.1, C.2.2.2.2.1⟩ M ⟨callB_of 0 C.2.2.2.2.1 (zTB_call hcode) rfl rfl rfl (C.2.2.2.2.1 _ hini) (C.2.2.2.2.1 _ hlink) hdd hR, hi, C.2.2.2.2.1 _ hins⟩ ⟨zPN_blind, fun U hU hw => ⟨rfl, zn_PN (locs := locs) C hW hz hU hw⟩⟩ rfl rfl hl.1 rfl (lv_room hst8) hd hRc) hS (fun q _ h => h) (fun q h => h) (fun u t H1 locs1 ht hvm hp hB hz1 hk1 hS1 => ?_)
  obtain ⟨hB1, hB2⟩ := hB
  rw [ht] at hB1 hB2
  refine kk H1 locs1 ls hB1 ?_ hS1 hl
  rw [hB2, C.2.2.2.2.2.2.2.2.1.2.2]
  omega
theorem zouter (c : ClassId) (N h0 : Nat) : ∀ i : Nat, Jvm.Free.Multi.outerC c N h0 i = arrV c N (fun j => va_rf (if j < i then some (h0 + 1 + j) else none))
  | 0 => by
    show ({ cls := c, slots := Array.replicate N .null, vm := .none } : Cell) = _
    rw [arrV_new]
    refine congrArg (arrV c N) (funext fun j => ?_)
    rw [if_neg (Nat.not_lt_zero j)]
    rfl
  | i + 1 => by
    show (Jvm.Free.Multi.outerC c N h0 i).setSlot i (.ref (h0 + 1 + i)) = _
    rw [zouter c N h0 i, arrV_store]
    refine congrArg (arrV c N) (funext fun j => ?_)
    by_cases e : j = i
    · subst e
      rw [if_pos (Nat.lt_succ_self j)]
      exact if_pos rfl
    · by_cases h : j < i
      · rw [if_pos (Nat.lt_succ_of_lt h)]
        refine (if_neg e).trans ?_
        show va_rf (if j < i then some (h0 + 1 + j) else none) = _
        rw [if_pos h]
      · rw [if_neg (show ¬ j < i + 1 by omega)]
        refine (if_neg e).trans ?_
        show va_rf (if j < i then some (h0 + 1 + j) else none) = _
        rw [if_neg h]
/-- new T[N][M]: kind k the outer row, kind k1 the N inner ones, all alike -/
def zDr (D : zDm) (k N : Nat) (x : va_E) : zDm := fun a b => if a = k ∧ b < N then some x else D a b
theorem zn_mna (C : zCN E cc own nL Z h n0 c0 mc ms) {ty : FieldType} {ix N M t0 t1 k k1 : Nat} {x y : Int32} {a0 : vp_A} (hlink : Cond.classLink own ix ("[" ++ (FieldType.array ty).toString) ∈ zTB) (hov : FieldType.array ty ∈ zOvL) (harr : Cond.arrayClass ty ∈ zTB) (ht : (zTys Z)[t0]? = some (zca Z t0, .array ty)) (ht1 : (zTys Z)[t1]? = some (zca Z t1, ty)) (hpr : ∀ (u : State) (v : ClassId), va_RA u v ty → u.vm.findClass (FieldType.array ty).toString = some v) (hd : decode cc pc = .ok (.multianewarray ix 2, 4)) (hn : ¬ x < 0) (hm : ¬ y < 0) (hN : x.toNatClampNeg = N) (hM : y.toNatClampNeg = M) (hb1 : N * 4 ≤ 536870912) (hb2 : M * componentBytes ty ≤ 536870912) (hb3 : M ≤ 536870912) (hdf : fits ty (defaultValue ty) = true) (hdd : (defaultValue ty).isDefault = true) (ha : ∀ cA : ClassId, vp_cell cA a0 = arrV cA M (fun _ => defaultValue ty)) (hk : 0 < zN k) (hk1 : N ≤ zN k1) (ho : zoff k 0 = c0 + c) (ho1 : ∀ i, i < N → zoff k1 i = c0 + c + 1 + i) (hc : c + 1 + N ≤ mc) (hs : b + N + N * M ≤ ms) (kk : zNN E nL Z n0 Q (pc + 4) L (.ref (zad Z k 0) :: st) (zDr (zDu D k 0 (.inl (zca Z t0, N, .inr (.inr (.inr (.inr (fun i => if i < N then some (zad Z k1 i) else none))))))) k1 N (.inl (zca Z t1, a0))) (c + 1 + N) (b + N + N * M)) : zNN E nL Z n0 Q pc L (.int y :: .int x :: st) D c b := fun H locs ls hW hz hS hl => by
  subst hN
  subst hM
  have hq := zn_base C hk ho hz
  have hly := C.2.2.2.2.2.2.2.2.1
  intro T hT Xs
  obtain ⟨vm₁, cA, comp, -, fA, fC, hO, -, X', step⟩ := Xs.multianewarray2F C.1 C.2.2.1 (C.2.2.2.2.1 _ hlink) (hly.2.1 _ hov) (C.2.2.2.2.1 _ harr) (g := F0 (zm E) pc ls (.int y :: .int x :: st)) rfl (by rw [C.2.1]; exact hd) rfl hn hm hb1 hb2 hb3 hdf hdd (by have := C.2.2.2.2.2.2.2.2.2.2.2.2.2.1; omega) (by have := C.2.2.2.2.2.2.2.2.2.2.2.2.2.2.1; omega)
  have eA : cA = zca Z t0 := Option.some.inj (fA.symm.trans (C.2.2.2.2.2.1.2 t0 _ ht).2)
  have eC : comp = zca Z t1 := Option.some.inj (fC.symm.trans (hpr _ _ (C.2.2.2.2.2.1.2 t1 _ ht1).2))
  subst eA eC
  generalize hF : Jvm.Free.Multi.fill (T.setVm vm₁) (zca Z t0) (zca Z t1) x.toNatClampNeg y.toNatClampNeg (defaultValue ty) x.toNatClampNeg = F at X' step
  have hTh : (T.setVm vm₁).heap = H := hT
  obtain ⟨f1, f2, -, -⟩ := Jvm.Free.Multi.fill_facts (T.setVm vm₁) (zca Z t0) (zca Z t1) x.toNatClampNeg y.toNatClampNeg (defaultValue ty) x.toNatClampNeg
  rw [hF, hTh] at f1 f2
  have hold : ∀ q : Nat, q < H.size → F.heap[q]? = H[q]? := fun q hq1 => by
    have h1 := Jvm.Free.Multi.fill_old (T.setVm vm₁) (zca Z t0) (zca Z t1) x.toNatClampNeg y.toNatClampNeg (defaultValue ty) (a := q) (by rw [hTh]; exact hq1) x.toNatClampNeg
    rw [hF, hTh] at h1
    exact h1
  have hrow : ∀ j : Nat, j < x.toNatClampNeg → F.heap[H.size + 1 + j]? = some (vp_cell (zca Z t1) a0) := fun j hj => by
    have h1 := Jvm.Free.Multi.fill_inner (T.setVm vm₁) (zca Z t0) (zca Z t1) x.toNatClampNeg y.toNatClampNeg (defaultValue ty) x.toNatClampNeg j hj
    rw [hF, hTh] at h1
    rw [h1, ha, ← arrV_new]
    rfl
  have hW1 : zWD Z (zDu D k 0 (.inl (zca Z t0, x.toNatClampNeg, .inr (.inr (.inr (.inr (fun i => if i < x.toNatClampNeg then some (zad Z k1 i) else none))))))) F.heap := zWD_new hW hold hk (by
    show F.heap[zad Z k 0]? = some (vp_cell (zca Z t0) _)
    rw [← hq, f2, vp_cell_q, zouter]
    refine congrArg some (congrArg (arrV (zca Z t0) x.toNatClampNeg) (funext fun j => ?_))
    by_cases g : j < x.toNatClampNeg
    · rw [if_pos g, if_pos g, hly.1 k1 j (Nat.lt_of_lt_of_le g hk1), ho1 j g, hz, hly.2.2]
      refine congrArg va_rf (congrArg some ?_)
      omega
    · rw [if_neg g, if_neg g])
  have hW2 : zWD Z (zDr (zDu D k 0 (.inl (zca Z t0, x.toNatClampNeg, .inr (.inr (.inr (.inr (fun i => if i < x.toNatClampNeg then some (zad Z k1 i) else none))))))) k1 x.toNatClampNeg (.inl (zca Z t1, a0))) F.heap := fun a d w hy => by
    by_cases g : a = k1 ∧ d < x.toNatClampNeg
    · have e1 : some (Sum.inl (zca Z t1, a0)) = some w := (if_pos g).symm.trans hy
      injection e1 with e1
      subst e1
      obtain ⟨rfl, g2⟩ := g
      refine ⟨Nat.lt_of_lt_of_le g2 hk1, ?_⟩
      show F.heap[zad Z a d]? = _
      rw [hly.1 a d (Nat.lt_of_lt_of_le g2 hk1), ho1 d g2]
      have h2 := hrow d g2
      rw [hz, hly.2.2] at h2
      rw [show n0 + (c0 + c + 1 + d) = n0 + c0 + c + 1 + d by omega]
      exact h2
    · exact hW1 a d w ((if_neg g).symm.trans hy)
  obtain ⟨t, a1, b1⟩ := kk F.heap locs ls hW2 (by rw [f1, hz]; omega) (zn_S hS (by omega) hold) hl F rfl X'
  refine ⟨t, step t ?_, b1⟩
  have e : T.heap.size = zad Z k 0 := by rw [hT]; exact hq
  rw [e]
  exact a1
end ZO
end
section
/-! constructors, laid out of the code -/
theorem zDu_o {D : zDm} {k i a b : Nat} {x y : va_E} (h : a ≠ k) (e : D a b = some y) : zDu D k i x a b = some y := (zDu_n D x (fun w => h w.1)).trans e
theorem zDr_o {D : zDm} {k N a b : Nat} {x y : va_E} (h : a ≠ k) (e : D a b = some y) : zDr D k N x a b = some y := (if_neg fun w => h w.1).trans e
def zfill (Z : zLay) (k : Nat) : Nat → Nat → Option Nat
  | 0 => fun _ => none
  | n + 1 => va_up (zfill Z k n) n (some (zad Z k n))
theorem zfill_at (Z : zLay) (k n j : Nat) (h : j < n) : zfill Z k n j = some (zad Z k j) := by
  induction n with
  | zero => exact absurd h (Nat.not_lt_zero _)
  | succ n ih =>
    show va_up (zfill Z k n) n (some (zad Z k n)) j = _
    unfold va_up
    by_cases q : j = n
    · rw [if_pos q, q]
    · rw [if_neg q]
      exact ih (by omega)
theorem wq_167 : Cond.methodLink "AlpCommune$Alps" (3 : Nat) ({ cls := "java/lang/Object", name := "<init>", desc := "()V" } : MethodName) ∈ zTB := zTB_mem 293 (by decide +kernel) (by decide +kernel)
theorem wq_26 : Cond.instanceMethod ({ cls := "java/lang/Object", name := "<init>", desc := "()V" } : MethodName) ∈ zTB := zTB_mem 152 (by decide +kernel) (by decide +kernel)
theorem wq_27 : Cond.code objectInit ⟨#[0xb1]⟩ 1 none ∈ zTB := zTB_mem 153 (by decide +kernel) (by decide +kernel)
theorem wq_169 : Cond.fieldLink "AlpCommune$Alps" (9 : Nat) "AlpCommune$Alps" "height" "[I" ∈ zTB := zTB_mem 295 (by decide +kernel) (by decide +kernel)
theorem wq_61 : Cond.arrayClass ClassFile.FieldType.int ∈ zTB := zTB_mem 187 (by decide +kernel) (by decide +kernel)
theorem wq_171 : Cond.fieldLink "AlpCommune$Alps" (15 : Nat) "AlpCommune$Alps" "area" "[I" ∈ zTB := zTB_mem 297 (by decide +kernel) (by decide +kernel)
theorem wq_173 : Cond.fieldLink "AlpCommune$Alps" (18 : Nat) "AlpCommune$Alps" "grass" "[I" ∈ zTB := zTB_mem 299 (by decide +kernel) (by decide +kernel)
theorem wq_175 : Cond.fieldLink "AlpCommune$Alps" (21 : Nat) "AlpCommune$Alps" "snow" "[I" ∈ zTB := zTB_mem 301 (by decide +kernel) (by decide +kernel)
theorem wq_179 : Cond.fieldLink "AlpCommune$Alps" (24 : Nat) "AlpCommune$Alps" "planWarm" "[I" ∈ zTB := zTB_mem 305 (by decide +kernel) (by decide +kernel)
theorem wq_181 : Cond.fieldLink "AlpCommune$Alps" (27 : Nat) "AlpCommune$Alps" "planFall" "[I" ∈ zTB := zTB_mem 307 (by decide +kernel) (by decide +kernel)
theorem wq_183 : Cond.fieldLink "AlpCommune$Alps" (30 : Nat) "AlpCommune$Alps" "planCows" "[I" ∈ zTB := zTB_mem 309 (by decide +kernel) (by decide +kernel)
theorem wq_185 : Cond.fieldLink "AlpCommune$Alps" (35 : Nat) "AlpCommune$Alps" "planHunger" "[[I" ∈ zTB := zTB_mem 311 (by decide +kernel) (by decide +kernel)
theorem wq_168 : Cond.classLink "AlpCommune$Alps" (33 : Nat) "[[I" ∈ zTB := zTB_mem 294 (by decide +kernel) (by decide +kernel)
theorem wq_187 : Cond.fieldLink "AlpCommune$Alps" (38 : Nat) "AlpCommune$Alps" "planAlp" "[I" ∈ zTB := zTB_mem 313 (by decide +kernel) (by decide +kernel)
theorem wq_188 : Cond.fieldLink "AlpCommune$Alps" (41 : Nat) "AlpCommune$Alps" "planOn" "[I" ∈ zTB := zTB_mem 314 (by decide +kernel) (by decide +kernel)
theorem wq_189 : Cond.fieldLink "AlpCommune$Alps" (44 : Nat) "AlpCommune$Alps" "planBest" "[I" ∈ zTB := zTB_mem 315 (by decide +kernel) (by decide +kernel)
section YX0
variable {E : zEn} {nL h n0 c0 mc ms : Nat} {Z : zLay} {D : zDm} {Q : State → Prop}
def fX0_0 : List Value := [.null, .null, .null, .null, .int 0, .null, .null, .null, .null, .null, .null, .null]
theorem nfX0 : ∀ j, j < 12 → defaultValue (tyX0 j) = vp_V fX0_0 j := by decide +kernel
def eX0_0 (Z : zLay) (D : zDm) : zDm := D
theorem sX0_0 (C : zCN E cX0_init RX0 1 Z h n0 c0 15 227) (hh : 1 ≤ h) (hc : c0 = 259) (kk : zNN E 1 Z n0 Q 4 [(0, .ref (zad Z 25 0))] [] (zDu (eX0_0 Z D) 25 0 (.inr (0, fX0_0))) 0 0) : zNN E 1 Z n0 Q 0 [(0, .ref (zad Z 25 0))] [] (zDu (eX0_0 Z D) 25 0 (.inr (0, fX0_0))) 0 0 := by
  subst hc
  refine zn_aload_n C dX0_init_0 rfl ?_
  refine zn_obj C wq_167 wq_26 wq_27 dX0_init_1 (by omega) (Nat.le_of_ble_eq_true rfl) ?_
  exact kk
def fX0_1 (Z : zLay) : List Value := [.ref (zad Z 26 0), .null, .null, .null, .int 0, .null, .null, .null, .null, .null, .null, .null]
def eX0_1 (Z : zLay) (D : zDm) : zDm := (zDu (zDu (eX0_0 Z D) 25 0 (.inr (0, fX0_0))) 26 0 (.inl (zca Z 0, 4, .inl fun _ => 0)))
theorem sX0_4 (C : zCN E cX0_init RX0 1 Z h n0 c0 15 227) (hh : 1 ≤ h) (hc : c0 = 259) (kk : zNN E 1 Z n0 Q 11 [(0, .ref (zad Z 25 0))] [] (zDu (eX0_1 Z D) 25 0 (.inr (0, fX0_1 Z))) 1 4) : zNN E 1 Z n0 Q 4 [(0, .ref (zad Z 25 0))] [] (zDu (eX0_0 Z D) 25 0 (.inr (0, fX0_0))) 0 0 := by
  subst hc
  refine zn_aload_n C dX0_init_4 rfl ?_
  refine zn_iconst C dX0_init_5 (v := 4) (by decide) ?_
  refine zn_newa C (atype := .int) (k := 26) (i := 0) (t0 := 0) (N := 4) (a0 := (4, .inl fun _ => 0)) wq_61 rfl dX0_init_6 (by decide) (by decide) (by decide) (fun _ => rfl) (by decide) rfl (by omega) (by omega) ?_
  refine zn_putF C (by decide +kernel) 0 zin_X0 rfl (Nat.le_of_ble_eq_true rfl) rfl rfl tyX0_ok nmX0 rfl (ty := tyX0 0) (by decide +kernel) wq_169 dX0_init_8 (zDu_o (by decide) (zDu_i _ _ _ _)) (Nat.le_of_ble_eq_true rfl) rfl rfl ?_
  exact kk
def fX0_2 (Z : zLay) : List Value := [.ref (zad Z 26 0), .ref (zad Z 27 0), .null, .null, .int 0, .null, .null, .null, .null, .null, .null, .null]
def eX0_2 (Z : zLay) (D : zDm) : zDm := (zDu (zDu (eX0_1 Z D) 25 0 (.inr (0, fX0_1 Z))) 27 0 (.inl (zca Z 0, 4, .inl fun _ => 0)))
theorem sX0_11 (C : zCN E cX0_init RX0 1 Z h n0 c0 15 227) (hh : 1 ≤ h) (hc : c0 = 259) (kk : zNN E 1 Z n0 Q 18 [(0, .ref (zad Z 25 0))] [] (zDu (eX0_2 Z D) 25 0 (.inr (0, fX0_2 Z))) 2 8) : zNN E 1 Z n0 Q 11 [(0, .ref (zad Z 25 0))] [] (zDu (eX0_1 Z D) 25 0 (.inr (0, fX0_1 Z))) 1 4 := by
  subst hc
  refine zn_aload_n C dX0_init_11 rfl ?_
  refine zn_iconst C dX0_init_12 (v := 4) (by decide) ?_
  refine zn_newa C (atype := .int) (k := 27) (i := 0) (t0 := 0) (N := 4) (a0 := (4, .inl fun _ => 0)) wq_61 rfl dX0_init_13 (by decide) (by decide) (by decide) (fun _ => rfl) (by decide) rfl (by omega) (by omega) ?_
  refine zn_putF C (by decide +kernel) 1 zin_X0 rfl (Nat.le_of_ble_eq_true rfl) rfl rfl tyX0_ok nmX0 rfl (ty := tyX0 1) (by decide +kernel) wq_171 dX0_init_15 (zDu_o (by decide) (zDu_i _ _ _ _)) (Nat.le_of_ble_eq_true rfl) rfl rfl ?_
  exact kk
def fX0_3 (Z : zLay) : List Value := [.ref (zad Z 26 0), .ref (zad Z 27 0), .ref (zad Z 28 0), .null, .int 0, .null, .null, .null, .null, .null, .null, .null]
def eX0_3 (Z : zLay) (D : zDm) : zDm := (zDu (zDu (eX0_2 Z D) 25 0 (.inr (0, fX0_2 Z))) 28 0 (.inl (zca Z 0, 4, .inl fun _ => 0)))
theorem sX0_18 (C : zCN E cX0_init RX0 1 Z h n0 c0 15 227) (hh : 1 ≤ h) (hc : c0 = 259) (kk : zNN E 1 Z n0 Q 25 [(0, .ref (zad Z 25 0))] [] (zDu (eX0_3 Z D) 25 0 (.inr (0, fX0_3 Z))) 3 12) : zNN E 1 Z n0 Q 18 [(0, .ref (zad Z 25 0))] [] (zDu (eX0_2 Z D) 25 0 (.inr (0, fX0_2 Z))) 2 8 := by
  subst hc
  refine zn_aload_n C dX0_init_18 rfl ?_
  refine zn_iconst C dX0_init_19 (v := 4) (by decide) ?_
  refine zn_newa C (atype := .int) (k := 28) (i := 0) (t0 := 0) (N := 4) (a0 := (4, .inl fun _ => 0)) wq_61 rfl dX0_init_20 (by decide) (by decide) (by decide) (fun _ => rfl) (by decide) rfl (by omega) (by omega) ?_
  refine zn_putF C (by decide +kernel) 2 zin_X0 rfl (Nat.le_of_ble_eq_true rfl) rfl rfl tyX0_ok nmX0 rfl (ty := tyX0 2) (by decide +kernel) wq_173 dX0_init_22 (zDu_o (by decide) (zDu_i _ _ _ _)) (Nat.le_of_ble_eq_true rfl) rfl rfl ?_
  exact kk
def fX0_4 (Z : zLay) : List Value := [.ref (zad Z 26 0), .ref (zad Z 27 0), .ref (zad Z 28 0), .ref (zad Z 29 0), .int 0, .null, .null, .null, .null, .null, .null, .null]
def eX0_4 (Z : zLay) (D : zDm) : zDm := (zDu (zDu (eX0_3 Z D) 25 0 (.inr (0, fX0_3 Z))) 29 0 (.inl (zca Z 0, 4, .inl fun _ => 0)))
theorem sX0_25 (C : zCN E cX0_init RX0 1 Z h n0 c0 15 227) (hh : 1 ≤ h) (hc : c0 = 259) (kk : zNN E 1 Z n0 Q 32 [(0, .ref (zad Z 25 0))] [] (zDu (eX0_4 Z D) 25 0 (.inr (0, fX0_4 Z))) 4 16) : zNN E 1 Z n0 Q 25 [(0, .ref (zad Z 25 0))] [] (zDu (eX0_3 Z D) 25 0 (.inr (0, fX0_3 Z))) 3 12 := by
  subst hc
  refine zn_aload_n C dX0_init_25 rfl ?_
  refine zn_iconst C dX0_init_26 (v := 4) (by decide) ?_
  refine zn_newa C (atype := .int) (k := 29) (i := 0) (t0 := 0) (N := 4) (a0 := (4, .inl fun _ => 0)) wq_61 rfl dX0_init_27 (by decide) (by decide) (by decide) (fun _ => rfl) (by decide) rfl (by omega) (by omega) ?_
  refine zn_putF C (by decide +kernel) 3 zin_X0 rfl (Nat.le_of_ble_eq_true rfl) rfl rfl tyX0_ok nmX0 rfl (ty := tyX0 3) (by decide +kernel) wq_175 dX0_init_29 (zDu_o (by decide) (zDu_i _ _ _ _)) (Nat.le_of_ble_eq_true rfl) rfl rfl ?_
  exact kk
def fX0_5 (Z : zLay) : List Value := [.ref (zad Z 26 0), .ref (zad Z 27 0), .ref (zad Z 28 0), .ref (zad Z 29 0), .int 0, .ref (zad Z 30 0), .null, .null, .null, .null, .null, .null]
def eX0_5 (Z : zLay) (D : zDm) : zDm := (zDu (zDu (eX0_4 Z D) 25 0 (.inr (0, fX0_4 Z))) 30 0 (.inl (zca Z 0, 30, .inl fun _ => 0)))
theorem sX0_32 (C : zCN E cX0_init RX0 1 Z h n0 c0 15 227) (hh : 1 ≤ h) (hc : c0 = 259) (kk : zNN E 1 Z n0 Q 40 [(0, .ref (zad Z 25 0))] [] (zDu (eX0_5 Z D) 25 0 (.inr (0, fX0_5 Z))) 5 46) : zNN E 1 Z n0 Q 32 [(0, .ref (zad Z 25 0))] [] (zDu (eX0_4 Z D) 25 0 (.inr (0, fX0_4 Z))) 4 16 := by
  subst hc
  refine zn_aload_n C dX0_init_32 rfl ?_
  refine zn_bipush C dX0_init_33 (v := 30) (by decide) ?_
  refine zn_newa C (atype := .int) (k := 30) (i := 0) (t0 := 0) (N := 30) (a0 := (30, .inl fun _ => 0)) wq_61 rfl dX0_init_35 (by decide) (by decide) (by decide) (fun _ => rfl) (by decide) rfl (by omega) (by omega) ?_
  refine zn_putF C (by decide +kernel) 5 zin_X0 rfl (Nat.le_of_ble_eq_true rfl) rfl rfl tyX0_ok nmX0 rfl (ty := tyX0 5) (by decide +kernel) wq_179 dX0_init_37 (zDu_o (by decide) (zDu_i _ _ _ _)) (Nat.le_of_ble_eq_true rfl) rfl rfl ?_
  exact kk
def fX0_6 (Z : zLay) : List Value := [.ref (zad Z 26 0), .ref (zad Z 27 0), .ref (zad Z 28 0), .ref (zad Z 29 0), .int 0, .ref (zad Z 30 0), .ref (zad Z 31 0), .null, .null, .null, .null, .null]
def eX0_6 (Z : zLay) (D : zDm) : zDm := (zDu (zDu (eX0_5 Z D) 25 0 (.inr (0, fX0_5 Z))) 31 0 (.inl (zca Z 0, 30, .inl fun _ => 0)))
theorem sX0_40 (C : zCN E cX0_init RX0 1 Z h n0 c0 15 227) (hh : 1 ≤ h) (hc : c0 = 259) (kk : zNN E 1 Z n0 Q 48 [(0, .ref (zad Z 25 0))] [] (zDu (eX0_6 Z D) 25 0 (.inr (0, fX0_6 Z))) 6 76) : zNN E 1 Z n0 Q 40 [(0, .ref (zad Z 25 0))] [] (zDu (eX0_5 Z D) 25 0 (.inr (0, fX0_5 Z))) 5 46 := by
  subst hc
  refine zn_aload_n C dX0_init_40 rfl ?_
  refine zn_bipush C dX0_init_41 (v := 30) (by decide) ?_
  refine zn_newa C (atype := .int) (k := 31) (i := 0) (t0 := 0) (N := 30) (a0 := (30, .inl fun _ => 0)) wq_61 rfl dX0_init_43 (by decide) (by decide) (by decide) (fun _ => rfl) (by decide) rfl (by omega) (by omega) ?_
  refine zn_putF C (by decide +kernel) 6 zin_X0 rfl (Nat.le_of_ble_eq_true rfl) rfl rfl tyX0_ok nmX0 rfl (ty := tyX0 6) (by decide +kernel) wq_181 dX0_init_45 (zDu_o (by decide) (zDu_i _ _ _ _)) (Nat.le_of_ble_eq_true rfl) rfl rfl ?_
  exact kk
def fX0_7 (Z : zLay) : List Value := [.ref (zad Z 26 0), .ref (zad Z 27 0), .ref (zad Z 28 0), .ref (zad Z 29 0), .int 0, .ref (zad Z 30 0), .ref (zad Z 31 0), .ref (zad Z 32 0), .null, .null, .null, .null]
def eX0_7 (Z : zLay) (D : zDm) : zDm := (zDu (zDu (eX0_6 Z D) 25 0 (.inr (0, fX0_6 Z))) 32 0 (.inl (zca Z 0, 5, .inl fun _ => 0)))
theorem sX0_48 (C : zCN E cX0_init RX0 1 Z h n0 c0 15 227) (hh : 1 ≤ h) (hc : c0 = 259) (kk : zNN E 1 Z n0 Q 55 [(0, .ref (zad Z 25 0))] [] (zDu (eX0_7 Z D) 25 0 (.inr (0, fX0_7 Z))) 7 81) : zNN E 1 Z n0 Q 48 [(0, .ref (zad Z 25 0))] [] (zDu (eX0_6 Z D) 25 0 (.inr (0, fX0_6 Z))) 6 76 := by
  subst hc
  refine zn_aload_n C dX0_init_48 rfl ?_
  refine zn_iconst C dX0_init_49 (v := 5) (by decide) ?_
  refine zn_newa C (atype := .int) (k := 32) (i := 0) (t0 := 0) (N := 5) (a0 := (5, .inl fun _ => 0)) wq_61 rfl dX0_init_50 (by decide) (by decide) (by decide) (fun _ => rfl) (by decide) rfl (by omega) (by omega) ?_
  refine zn_putF C (by decide +kernel) 7 zin_X0 rfl (Nat.le_of_ble_eq_true rfl) rfl rfl tyX0_ok nmX0 rfl (ty := tyX0 7) (by decide +kernel) wq_183 dX0_init_52 (zDu_o (by decide) (zDu_i _ _ _ _)) (Nat.le_of_ble_eq_true rfl) rfl rfl ?_
  exact kk
def fX0_8 (Z : zLay) : List Value := [.ref (zad Z 26 0), .ref (zad Z 27 0), .ref (zad Z 28 0), .ref (zad Z 29 0), .int 0, .ref (zad Z 30 0), .ref (zad Z 31 0), .ref (zad Z 32 0), .ref (zad Z 33 0), .null, .null, .null]
def eX0_8 (Z : zLay) (D : zDm) : zDm := (zDr (zDu (zDu (eX0_7 Z D) 25 0 (.inr (0, fX0_7 Z))) 33 0 (.inl (zca Z 9, 4, .inr (.inr (.inr (.inr (fun i => if i < 4 then some (zad Z 34 i) else none))))))) 34 4 (.inl (zca Z 0, (32, .inl fun _ => 0))))
theorem sX0_55 (C : zCN E cX0_init RX0 1 Z h n0 c0 15 227) (hh : 1 ≤ h) (hc : c0 = 259) (kk : zNN E 1 Z n0 Q 66 [(0, .ref (zad Z 25 0))] [] (zDu (eX0_8 Z D) 25 0 (.inr (0, fX0_8 Z))) 12 213) : zNN E 1 Z n0 Q 55 [(0, .ref (zad Z 25 0))] [] (zDu (eX0_7 Z D) 25 0 (.inr (0, fX0_7 Z))) 7 81 := by
  subst hc
  refine zn_aload_n C dX0_init_55 rfl ?_
  refine zn_iconst C dX0_init_56 (v := 4) (by decide) ?_
  refine zn_bipush C dX0_init_57 (v := 32) (by decide) ?_
  refine zn_mna C (ty := .int) (N := 4) (M := 32) (t0 := 9) (t1 := 0) (k := 33) (k1 := 34) (a0 := (32, .inl fun _ => 0)) wq_168 (by unfold zOvL; simp) wq_61 rfl rfl (fun _ _ q => q) dX0_init_59 (by decide) (by decide) (by decide) (by decide) (by decide) (by decide) (by decide) rfl rfl (fun _ => rfl) (by decide) (by decide) rfl (fun j _ => by show 267 + 1 * j = 259 + 7 + 1 + j; omega) (by omega) (by omega) ?_
  refine zn_putF C (by decide +kernel) 8 zin_X0 rfl (Nat.le_of_ble_eq_true rfl) rfl rfl tyX0_ok nmX0 rfl (ty := tyX0 8) (by decide +kernel) wq_185 dX0_init_63 (zDr_o (by decide) (zDu_o (by decide) (zDu_i _ _ _ _))) (Nat.le_of_ble_eq_true rfl) rfl rfl ?_
  exact kk
def fX0_9 (Z : zLay) : List Value := [.ref (zad Z 26 0), .ref (zad Z 27 0), .ref (zad Z 28 0), .ref (zad Z 29 0), .int 0, .ref (zad Z 30 0), .ref (zad Z 31 0), .ref (zad Z 32 0), .ref (zad Z 33 0), .ref (zad Z 35 0), .null, .null]
def eX0_9 (Z : zLay) (D : zDm) : zDm := (zDu (zDu (eX0_8 Z D) 25 0 (.inr (0, fX0_8 Z))) 35 0 (.inl (zca Z 0, 5, .inl fun _ => 0)))
theorem sX0_66 (C : zCN E cX0_init RX0 1 Z h n0 c0 15 227) (hh : 1 ≤ h) (hc : c0 = 259) (kk : zNN E 1 Z n0 Q 73 [(0, .ref (zad Z 25 0))] [] (zDu (eX0_9 Z D) 25 0 (.inr (0, fX0_9 Z))) 13 218) : zNN E 1 Z n0 Q 66 [(0, .ref (zad Z 25 0))] [] (zDu (eX0_8 Z D) 25 0 (.inr (0, fX0_8 Z))) 12 213 := by
  subst hc
  refine zn_aload_n C dX0_init_66 rfl ?_
  refine zn_iconst C dX0_init_67 (v := 5) (by decide) ?_
  refine zn_newa C (atype := .int) (k := 35) (i := 0) (t0 := 0) (N := 5) (a0 := (5, .inl fun _ => 0)) wq_61 rfl dX0_init_68 (by decide) (by decide) (by decide) (fun _ => rfl) (by decide) rfl (by omega) (by omega) ?_
  refine zn_putF C (by decide +kernel) 9 zin_X0 rfl (Nat.le_of_ble_eq_true rfl) rfl rfl tyX0_ok nmX0 rfl (ty := tyX0 9) (by decide +kernel) wq_187 dX0_init_70 (zDu_o (by decide) (zDu_i _ _ _ _)) (Nat.le_of_ble_eq_true rfl) rfl rfl ?_
  exact kk
def fX0_10 (Z : zLay) : List Value := [.ref (zad Z 26 0), .ref (zad Z 27 0), .ref (zad Z 28 0), .ref (zad Z 29 0), .int 0, .ref (zad Z 30 0), .ref (zad Z 31 0), .ref (zad Z 32 0), .ref (zad Z 33 0), .ref (zad Z 35 0), .ref (zad Z 36 0), .null]
def eX0_10 (Z : zLay) (D : zDm) : zDm := (zDu (zDu (eX0_9 Z D) 25 0 (.inr (0, fX0_9 Z))) 36 0 (.inl (zca Z 0, 4, .inl fun _ => 0)))
theorem sX0_73 (C : zCN E cX0_init RX0 1 Z h n0 c0 15 227) (hh : 1 ≤ h) (hc : c0 = 259) (kk : zNN E 1 Z n0 Q 80 [(0, .ref (zad Z 25 0))] [] (zDu (eX0_10 Z D) 25 0 (.inr (0, fX0_10 Z))) 14 222) : zNN E 1 Z n0 Q 73 [(0, .ref (zad Z 25 0))] [] (zDu (eX0_9 Z D) 25 0 (.inr (0, fX0_9 Z))) 13 218 := by
  subst hc
  refine zn_aload_n C dX0_init_73 rfl ?_
  refine zn_iconst C dX0_init_74 (v := 4) (by decide) ?_
  refine zn_newa C (atype := .int) (k := 36) (i := 0) (t0 := 0) (N := 4) (a0 := (4, .inl fun _ => 0)) wq_61 rfl dX0_init_75 (by decide) (by decide) (by decide) (fun _ => rfl) (by decide) rfl (by omega) (by omega) ?_
  refine zn_putF C (by decide +kernel) 10 zin_X0 rfl (Nat.le_of_ble_eq_true rfl) rfl rfl tyX0_ok nmX0 rfl (ty := tyX0 10) (by decide +kernel) wq_188 dX0_init_77 (zDu_o (by decide) (zDu_i _ _ _ _)) (Nat.le_of_ble_eq_true rfl) rfl rfl ?_
  exact kk
def fX0_11 (Z : zLay) : List Value := [.ref (zad Z 26 0), .ref (zad Z 27 0), .ref (zad Z 28 0), .ref (zad Z 29 0), .int 0, .ref (zad Z 30 0), .ref (zad Z 31 0), .ref (zad Z 32 0), .ref (zad Z 33 0), .ref (zad Z 35 0), .ref (zad Z 36 0), .ref (zad Z 37 0)]
def eX0_11 (Z : zLay) (D : zDm) : zDm := (zDu (zDu (eX0_10 Z D) 25 0 (.inr (0, fX0_10 Z))) 37 0 (.inl (zca Z 0, 5, .inl fun _ => 0)))
theorem sX0_80 (C : zCN E cX0_init RX0 1 Z h n0 c0 15 227) (hh : 1 ≤ h) (hc : c0 = 259) (kk : zNN E 1 Z n0 Q 87 [(0, .ref (zad Z 25 0))] [] (zDu (eX0_11 Z D) 25 0 (.inr (0, fX0_11 Z))) 15 227) : zNN E 1 Z n0 Q 80 [(0, .ref (zad Z 25 0))] [] (zDu (eX0_10 Z D) 25 0 (.inr (0, fX0_10 Z))) 14 222 := by
  subst hc
  refine zn_aload_n C dX0_init_80 rfl ?_
  refine zn_iconst C dX0_init_81 (v := 5) (by decide) ?_
  refine zn_newa C (atype := .int) (k := 37) (i := 0) (t0 := 0) (N := 5) (a0 := (5, .inl fun _ => 0)) wq_61 rfl dX0_init_82 (by decide) (by decide) (by decide) (fun _ => rfl) (by decide) rfl (by omega) (by omega) ?_
  refine zn_putF C (by decide +kernel) 11 zin_X0 rfl (Nat.le_of_ble_eq_true rfl) rfl rfl tyX0_ok nmX0 rfl (ty := tyX0 11) (by decide +kernel) wq_189 dX0_init_84 (zDu_o (by decide) (zDu_i _ _ _ _)) (Nat.le_of_ble_eq_true rfl) rfl rfl ?_
  exact kk
def gX0 (Z : zLay) (D : zDm) : zDm := (zDu (eX0_11 Z D) 25 0 (.inr (0, fX0_11 Z)))
theorem eX0_0_o {a b : Nat} {y : va_E} (h : D a b = some y) : eX0_0 Z D a b = some y := h
theorem eX0_1_o {a b : Nat} {y : va_E} (w : a < 25 ∨ 37 < a) (h : D a b = some y) : eX0_1 Z D a b = some y := zDu_o (by omega) (zDu_o (by omega) (eX0_0_o h))
theorem eX0_2_o {a b : Nat} {y : va_E} (w : a < 25 ∨ 37 < a) (h : D a b = some y) : eX0_2 Z D a b = some y := zDu_o (by omega) (zDu_o (by omega) (eX0_1_o w h))
theorem eX0_3_o {a b : Nat} {y : va_E} (w : a < 25 ∨ 37 < a) (h : D a b = some y) : eX0_3 Z D a b = some y := zDu_o (by omega) (zDu_o (by omega) (eX0_2_o w h))
theorem eX0_4_o {a b : Nat} {y : va_E} (w : a < 25 ∨ 37 < a) (h : D a b = some y) : eX0_4 Z D a b = some y := zDu_o (by omega) (zDu_o (by omega) (eX0_3_o w h))
theorem eX0_5_o {a b : Nat} {y : va_E} (w : a < 25 ∨ 37 < a) (h : D a b = some y) : eX0_5 Z D a b = some y := zDu_o (by omega) (zDu_o (by omega) (eX0_4_o w h))
theorem eX0_6_o {a b : Nat} {y : va_E} (w : a < 25 ∨ 37 < a) (h : D a b = some y) : eX0_6 Z D a b = some y := zDu_o (by omega) (zDu_o (by omega) (eX0_5_o w h))
theorem eX0_7_o {a b : Nat} {y : va_E} (w : a < 25 ∨ 37 < a) (h : D a b = some y) : eX0_7 Z D a b = some y := zDu_o (by omega) (zDu_o (by omega) (eX0_6_o w h))
theorem eX0_8_o {a b : Nat} {y : va_E} (w : a < 25 ∨ 37 < a) (h : D a b = some y) : eX0_8 Z D a b = some y := zDr_o (by omega) (zDu_o (by omega) (zDu_o (by omega) (eX0_7_o w h)))
theorem eX0_9_o {a b : Nat} {y : va_E} (w : a < 25 ∨ 37 < a) (h : D a b = some y) : eX0_9 Z D a b = some y := zDu_o (by omega) (zDu_o (by omega) (eX0_8_o w h))
theorem eX0_10_o {a b : Nat} {y : va_E} (w : a < 25 ∨ 37 < a) (h : D a b = some y) : eX0_10 Z D a b = some y := zDu_o (by omega) (zDu_o (by omega) (eX0_9_o w h))
theorem eX0_11_o {a b : Nat} {y : va_E} (w : a < 25 ∨ 37 < a) (h : D a b = some y) : eX0_11 Z D a b = some y := zDu_o (by omega) (zDu_o (by omega) (eX0_10_o w h))
theorem gX0_o {a b : Nat} {y : va_E} (w : a < 25 ∨ 37 < a) (h : D a b = some y) : gX0 Z D a b = some y := zDu_o (by omega) (eX0_11_o w h)
theorem mX0 {l : Launch} (hc : c0 = 259) : zMetN l yX0_init cX0_init 1 1 Z n0 c0 15 227 [.ref (zad Z 25 0)] (zDu D 25 0 (.inr (0, fX0_0))) (gX0 Z D) :=
  zMetN_of (by decide +kernel) rfl (Nat.le_of_ble_eq_true rfl) [(0, .ref (zad Z 25 0))] rfl fun E h1 h2 C => sX0_0 C (Nat.le_refl _) hc (sX0_4 C (Nat.le_refl _) hc (sX0_11 C (Nat.le_refl _) hc (sX0_18 C (Nat.le_refl _) hc (sX0_25 C (Nat.le_refl _) hc (sX0_32 C (Nat.le_refl _) hc (sX0_40 C (Nat.le_refl _) hc (sX0_48 C (Nat.le_refl _) hc (sX0_55 C (Nat.le_refl _) hc (sX0_66 C (Nat.le_refl _) hc (sX0_73 C (Nat.le_refl _) hc (sX0_80 C (Nat.le_refl _) hc (zn_ret C (by decide +kernel) h1 h2 rfl (Nat.le_refl _) dX0_init_87))))))))))))
end YX0
theorem wq_286 : Cond.methodLink "AlpCommune$Channel" (3 : Nat) ({ cls := "java/lang/Object", name := "<init>", desc := "()V" } : MethodName) ∈ zTB := zTB_mem 412 (by decide +kernel) (by decide +kernel)
theorem wq_287 : Cond.fieldLink "AlpCommune$Channel" (9 : Nat) "AlpCommune$Channel" "house" "[I" ∈ zTB := zTB_mem 413 (by decide +kernel) (by decide +kernel)
theorem wq_289 : Cond.fieldLink "AlpCommune$Channel" (15 : Nat) "AlpCommune$Channel" "leak" "[I" ∈ zTB := zTB_mem 415 (by decide +kernel) (by decide +kernel)
section YX1
variable {E : zEn} {nL h n0 c0 mc ms : Nat} {Z : zLay} {D : zDm} {Q : State → Prop}
def fX1_0 : List Value := [.null, .null, .int 0]
theorem nfX1 : ∀ j, j < 3 → defaultValue (tyX1 j) = vp_V fX1_0 j := by decide +kernel
def eX1_0 (Z : zLay) (D : zDm) : zDm := D
theorem sX1_0 (C : zCN E cX1_init RX1 1 Z h n0 c0 2 20) (hh : 1 ≤ h) (hc : c0 = 295) (kk : zNN E 1 Z n0 Q 4 [(0, .ref (zad Z 43 0))] [] (zDu (eX1_0 Z D) 43 0 (.inr (1, fX1_0))) 0 0) : zNN E 1 Z n0 Q 0 [(0, .ref (zad Z 43 0))] [] (zDu (eX1_0 Z D) 43 0 (.inr (1, fX1_0))) 0 0 := by
  subst hc
  refine zn_aload_n C dX1_init_0 rfl ?_
  refine zn_obj C wq_286 wq_26 wq_27 dX1_init_1 (by omega) (Nat.le_of_ble_eq_true rfl) ?_
  exact kk
def fX1_1 (Z : zLay) : List Value := [.ref (zad Z 44 0), .null, .int 0]
def eX1_1 (Z : zLay) (D : zDm) : zDm := (zDu (zDu (eX1_0 Z D) 43 0 (.inr (1, fX1_0))) 44 0 (.inl (zca Z 0, 10, .inl fun _ => 0)))
theorem sX1_4 (C : zCN E cX1_init RX1 1 Z h n0 c0 2 20) (hh : 1 ≤ h) (hc : c0 = 295) (kk : zNN E 1 Z n0 Q 12 [(0, .ref (zad Z 43 0))] [] (zDu (eX1_1 Z D) 43 0 (.inr (1, fX1_1 Z))) 1 10) : zNN E 1 Z n0 Q 4 [(0, .ref (zad Z 43 0))] [] (zDu (eX1_0 Z D) 43 0 (.inr (1, fX1_0))) 0 0 := by
  subst hc
  refine zn_aload_n C dX1_init_4 rfl ?_
  refine zn_bipush C dX1_init_5 (v := 10) (by decide) ?_
  refine zn_newa C (atype := .int) (k := 44) (i := 0) (t0 := 0) (N := 10) (a0 := (10, .inl fun _ => 0)) wq_61 rfl dX1_init_7 (by decide) (by decide) (by decide) (fun _ => rfl) (by decide) rfl (by omega) (by omega) ?_
  refine zn_putF C (by decide +kernel) 0 zin_X1 rfl (Nat.le_of_ble_eq_true rfl) rfl rfl tyX1_ok nmX1 rfl (ty := tyX1 0) (by decide +kernel) wq_287 dX1_init_9 (zDu_o (by decide) (zDu_i _ _ _ _)) (Nat.le_of_ble_eq_true rfl) rfl rfl ?_
  exact kk
def fX1_2 (Z : zLay) : List Value := [.ref (zad Z 44 0), .ref (zad Z 45 0), .int 0]
def eX1_2 (Z : zLay) (D : zDm) : zDm := (zDu (zDu (eX1_1 Z D) 43 0 (.inr (1, fX1_1 Z))) 45 0 (.inl (zca Z 0, 10, .inl fun _ => 0)))
theorem sX1_12 (C : zCN E cX1_init RX1 1 Z h n0 c0 2 20) (hh : 1 ≤ h) (hc : c0 = 295) (kk : zNN E 1 Z n0 Q 20 [(0, .ref (zad Z 43 0))] [] (zDu (eX1_2 Z D) 43 0 (.inr (1, fX1_2 Z))) 2 20) : zNN E 1 Z n0 Q 12 [(0, .ref (zad Z 43 0))] [] (zDu (eX1_1 Z D) 43 0 (.inr (1, fX1_1 Z))) 1 10 := by
  subst hc
  refine zn_aload_n C dX1_init_12 rfl ?_
  refine zn_bipush C dX1_init_13 (v := 10) (by decide) ?_
  refine zn_newa C (atype := .int) (k := 45) (i := 0) (t0 := 0) (N := 10) (a0 := (10, .inl fun _ => 0)) wq_61 rfl dX1_init_15 (by decide) (by decide) (by decide) (fun _ => rfl) (by decide) rfl (by omega) (by omega) ?_
  refine zn_putF C (by decide +kernel) 1 zin_X1 rfl (Nat.le_of_ble_eq_true rfl) rfl rfl tyX1_ok nmX1 rfl (ty := tyX1 1) (by decide +kernel) wq_289 dX1_init_17 (zDu_o (by decide) (zDu_i _ _ _ _)) (Nat.le_of_ble_eq_true rfl) rfl rfl ?_
  exact kk
def gX1 (Z : zLay) (D : zDm) : zDm := (zDu (eX1_2 Z D) 43 0 (.inr (1, fX1_2 Z)))
theorem eX1_0_o {a b : Nat} {y : va_E} (h : D a b = some y) : eX1_0 Z D a b = some y := h
theorem eX1_1_o {a b : Nat} {y : va_E} (w : a < 43 ∨ 45 < a) (h : D a b = some y) : eX1_1 Z D a b = some y := zDu_o (by omega) (zDu_o (by omega) (eX1_0_o h))
theorem eX1_2_o {a b : Nat} {y : va_E} (w : a < 43 ∨ 45 < a) (h : D a b = some y) : eX1_2 Z D a b = some y := zDu_o (by omega) (zDu_o (by omega) (eX1_1_o w h))
theorem gX1_o {a b : Nat} {y : va_E} (w : a < 43 ∨ 45 < a) (h : D a b = some y) : gX1 Z D a b = some y := zDu_o (by omega) (eX1_2_o w h)
theorem mX1 {l : Launch} (hc : c0 = 295) : zMetN l yX1_init cX1_init 1 1 Z n0 c0 2 20 [.ref (zad Z 43 0)] (zDu D 43 0 (.inr (1, fX1_0))) (gX1 Z D) :=
  zMetN_of (by decide +kernel) rfl (Nat.le_of_ble_eq_true rfl) [(0, .ref (zad Z 43 0))] rfl fun E h1 h2 C => sX1_0 C (Nat.le_refl _) hc (sX1_4 C (Nat.le_refl _) hc (sX1_12 C (Nat.le_refl _) hc (zn_ret C (by decide +kernel) h1 h2 rfl (Nat.le_refl _) dX1_init_20)))
end YX1
theorem wq_307 : Cond.methodLink "AlpCommune$House" (3 : Nat) ({ cls := "java/lang/Object", name := "<init>", desc := "()V" } : MethodName) ∈ zTB := zTB_mem 433 (by decide +kernel) (by decide +kernel)
theorem wq_308 : Cond.fieldLink "AlpCommune$House" (9 : Nat) "AlpCommune$House" "has" "[I" ∈ zTB := zTB_mem 434 (by decide +kernel) (by decide +kernel)
theorem wq_311 : Cond.fieldLink "AlpCommune$House" (15 : Nat) "AlpCommune$House" "up" "[I" ∈ zTB := zTB_mem 437 (by decide +kernel) (by decide +kernel)
section YX2
variable {E : zEn} {nL h n0 c0 mc ms : Nat} {Z : zLay} {D : zDm} {Q : State → Prop}
def fX2_0 : List Value := [.null, .null, .int 0, .int 0, .int 0, .int 0, .int 0, .int 0, .int 0, .int 0, .int 0, .int 0]
theorem nfX2 : ∀ j, j < 12 → defaultValue (tyX2 j) = vp_V fX2_0 j := by decide +kernel
def eX2_0 (Z : zLay) (i : Nat) (D : zDm) : zDm := D
theorem sX2_0 (C : zCN E cX2_init RX2 1 Z h n0 c0 2 8) (hh : 1 ≤ h) {i : Nat} (hi : i < 10) (hc : c0 = 308 + 3 * i) (kk : zNN E 1 Z n0 Q 4 [(0, .ref (zad Z 2 i))] [] (zDu (eX2_0 Z i D) 2 i (.inr (2, fX2_0))) 0 0) : zNN E 1 Z n0 Q 0 [(0, .ref (zad Z 2 i))] [] (zDu (eX2_0 Z i D) 2 i (.inr (2, fX2_0))) 0 0 := by
  subst hc
  refine zn_aload_n C dX2_init_0 rfl ?_
  refine zn_obj C wq_307 wq_26 wq_27 dX2_init_1 (by omega) (Nat.le_of_ble_eq_true rfl) ?_
  exact kk
def fX2_1 (Z : zLay) (i : Nat) : List Value := [.ref (zad Z 3 i), .null, .int 0, .int 0, .int 0, .int 0, .int 0, .int 0, .int 0, .int 0, .int 0, .int 0]
def eX2_1 (Z : zLay) (i : Nat) (D : zDm) : zDm := (zDu (zDu (eX2_0 Z i D) 2 i (.inr (2, fX2_0))) 3 i (.inl (zca Z 0, 4, .inl fun _ => 0)))
theorem sX2_4 (C : zCN E cX2_init RX2 1 Z h n0 c0 2 8) (hh : 1 ≤ h) {i : Nat} (hi : i < 10) (hc : c0 = 308 + 3 * i) (kk : zNN E 1 Z n0 Q 11 [(0, .ref (zad Z 2 i))] [] (zDu (eX2_1 Z i D) 2 i (.inr (2, fX2_1 Z i))) 1 4) : zNN E 1 Z n0 Q 4 [(0, .ref (zad Z 2 i))] [] (zDu (eX2_0 Z i D) 2 i (.inr (2, fX2_0))) 0 0 := by
  subst hc
  refine zn_aload_n C dX2_init_4 rfl ?_
  refine zn_iconst C dX2_init_5 (v := 4) (by decide) ?_
  refine zn_newa C (atype := .int) (k := 3) (i := i) (t0 := 0) (N := 4) (a0 := (4, .inl fun _ => 0)) wq_61 rfl dX2_init_6 (by decide) (by decide) (by decide) (fun _ => rfl) hi (by show 308 + 3 * i = 308 + 3 * i + 0; omega) (by omega) (by omega) ?_
  refine zn_putF C (by decide +kernel) 0 zin_X2 rfl (Nat.le_of_ble_eq_true rfl) rfl rfl tyX2_ok nmX2 rfl (ty := tyX2 0) (by decide +kernel) wq_308 dX2_init_8 (zDu_o (by decide) (zDu_i _ _ _ _)) (Nat.le_of_ble_eq_true rfl) rfl rfl ?_
  exact kk
def fX2_2 (Z : zLay) (i : Nat) : List Value := [.ref (zad Z 3 i), .ref (zad Z 4 i), .int 0, .int 0, .int 0, .int 0, .int 0, .int 0, .int 0, .int 0, .int 0, .int 0]
def eX2_2 (Z : zLay) (i : Nat) (D : zDm) : zDm := (zDu (zDu (eX2_1 Z i D) 2 i (.inr (2, fX2_1 Z i))) 4 i (.inl (zca Z 0, 4, .inl fun _ => 0)))
theorem sX2_11 (C : zCN E cX2_init RX2 1 Z h n0 c0 2 8) (hh : 1 ≤ h) {i : Nat} (hi : i < 10) (hc : c0 = 308 + 3 * i) (kk : zNN E 1 Z n0 Q 18 [(0, .ref (zad Z 2 i))] [] (zDu (eX2_2 Z i D) 2 i (.inr (2, fX2_2 Z i))) 2 8) : zNN E 1 Z n0 Q 11 [(0, .ref (zad Z 2 i))] [] (zDu (eX2_1 Z i D) 2 i (.inr (2, fX2_1 Z i))) 1 4 := by
  subst hc
  refine zn_aload_n C dX2_init_11 rfl ?_
  refine zn_iconst C dX2_init_12 (v := 4) (by decide) ?_
  refine zn_newa C (atype := .int) (k := 4) (i := i) (t0 := 0) (N := 4) (a0 := (4, .inl fun _ => 0)) wq_61 rfl dX2_init_13 (by decide) (by decide) (by decide) (fun _ => rfl) hi (by show 309 + 3 * i = 308 + 3 * i + 1; omega) (by omega) (by omega) ?_
  refine zn_putF C (by decide +kernel) 1 zin_X2 rfl (Nat.le_of_ble_eq_true rfl) rfl rfl tyX2_ok nmX2 rfl (ty := tyX2 1) (by decide +kernel) wq_311 dX2_init_15 (zDu_o (by decide) (zDu_i _ _ _ _)) (Nat.le_of_ble_eq_true rfl) rfl rfl ?_
  exact kk
def gX2 (Z : zLay) (i : Nat) (D : zDm) : zDm := (zDu (eX2_2 Z i D) 2 i (.inr (2, fX2_2 Z i)))
theorem eX2_0_o {i : Nat} {a b : Nat} {y : va_E} (h : D a b = some y) : eX2_0 Z i D a b = some y := h
theorem eX2_1_o {i : Nat} {a b : Nat} {y : va_E} (w : a < 2 ∨ 4 < a) (h : D a b = some y) : eX2_1 Z i D a b = some y := zDu_o (by omega) (zDu_o (by omega) (eX2_0_o h))
theorem eX2_2_o {i : Nat} {a b : Nat} {y : va_E} (w : a < 2 ∨ 4 < a) (h : D a b = some y) : eX2_2 Z i D a b = some y := zDu_o (by omega) (zDu_o (by omega) (eX2_1_o w h))
theorem gX2_o {i : Nat} {a b : Nat} {y : va_E} (w : a < 2 ∨ 4 < a) (h : D a b = some y) : gX2 Z i D a b = some y := zDu_o (by omega) (eX2_2_o w h)
theorem mX2 {l : Launch} {i : Nat} (hi : i < 10) (hc : c0 = 308 + 3 * i) : zMetN l yX2_init cX2_init 1 1 Z n0 c0 2 8 [.ref (zad Z 2 i)] (zDu D 2 i (.inr (2, fX2_0))) (gX2 Z i D) :=
  zMetN_of (by decide +kernel) rfl (Nat.le_of_ble_eq_true rfl) [(0, .ref (zad Z 2 i))] rfl fun E h1 h2 C => sX2_0 C (Nat.le_refl _) hi hc (sX2_4 C (Nat.le_refl _) hi hc (sX2_11 C (Nat.le_refl _) hi hc (zn_ret C (by decide +kernel) h1 h2 rfl (Nat.le_refl _) dX2_init_18)))
end YX2
theorem wq_35 : Cond.methodLink "AlpCommune$Rights" (3 : Nat) ({ cls := "java/lang/Object", name := "<init>", desc := "()V" } : MethodName) ∈ zTB := zTB_mem 161 (by decide +kernel) (by decide +kernel)
theorem wq_36 : Cond.fieldLink "AlpCommune$Rights" (9 : Nat) "AlpCommune$Rights" "kind" "[I" ∈ zTB := zTB_mem 162 (by decide +kernel) (by decide +kernel)
theorem wq_38 : Cond.fieldLink "AlpCommune$Rights" (15 : Nat) "AlpCommune$Rights" "owner" "[I" ∈ zTB := zTB_mem 164 (by decide +kernel) (by decide +kernel)
theorem wq_40 : Cond.fieldLink "AlpCommune$Rights" (18 : Nat) "AlpCommune$Rights" "parts" "[I" ∈ zTB := zTB_mem 166 (by decide +kernel) (by decide +kernel)
theorem wq_42 : Cond.fieldLink "AlpCommune$Rights" (21 : Nat) "AlpCommune$Rights" "lentTo" "[I" ∈ zTB := zTB_mem 168 (by decide +kernel) (by decide +kernel)
theorem wq_44 : Cond.fieldLink "AlpCommune$Rights" (24 : Nat) "AlpCommune$Rights" "lentTill" "[I" ∈ zTB := zTB_mem 170 (by decide +kernel) (by decide +kernel)
section YX3
variable {E : zEn} {nL h n0 c0 mc ms : Nat} {Z : zLay} {D : zDm} {Q : State → Prop}
def fX3_0 : List Value := [.null, .null, .null, .null, .null, .int 0]
theorem nfX3 : ∀ j, j < 6 → defaultValue (tyX3 j) = vp_V fX3_0 j := by decide +kernel
def eX3_0 (Z : zLay) (D : zDm) : zDm := D
theorem sX3_0 (C : zCN E cX3_init RX3 1 Z h n0 c0 5 250) (hh : 1 ≤ h) (hc : c0 = 3) (kk : zNN E 1 Z n0 Q 4 [(0, .ref (zad Z 5 0))] [] (zDu (eX3_0 Z D) 5 0 (.inr (3, fX3_0))) 0 0) : zNN E 1 Z n0 Q 0 [(0, .ref (zad Z 5 0))] [] (zDu (eX3_0 Z D) 5 0 (.inr (3, fX3_0))) 0 0 := by
  subst hc
  refine zn_aload_n C dX3_init_0 rfl ?_
  refine zn_obj C wq_35 wq_26 wq_27 dX3_init_1 (by omega) (Nat.le_of_ble_eq_true rfl) ?_
  exact kk
def fX3_1 (Z : zLay) : List Value := [.ref (zad Z 6 0), .null, .null, .null, .null, .int 0]
def eX3_1 (Z : zLay) (D : zDm) : zDm := (zDu (zDu (eX3_0 Z D) 5 0 (.inr (3, fX3_0))) 6 0 (.inl (zca Z 0, 50, .inl fun _ => 0)))
theorem sX3_4 (C : zCN E cX3_init RX3 1 Z h n0 c0 5 250) (hh : 1 ≤ h) (hc : c0 = 3) (kk : zNN E 1 Z n0 Q 12 [(0, .ref (zad Z 5 0))] [] (zDu (eX3_1 Z D) 5 0 (.inr (3, fX3_1 Z))) 1 50) : zNN E 1 Z n0 Q 4 [(0, .ref (zad Z 5 0))] [] (zDu (eX3_0 Z D) 5 0 (.inr (3, fX3_0))) 0 0 := by
  subst hc
  refine zn_aload_n C dX3_init_4 rfl ?_
  refine zn_bipush C dX3_init_5 (v := 50) (by decide) ?_
  refine zn_newa C (atype := .int) (k := 6) (i := 0) (t0 := 0) (N := 50) (a0 := (50, .inl fun _ => 0)) wq_61 rfl dX3_init_7 (by decide) (by decide) (by decide) (fun _ => rfl) (by decide) rfl (by omega) (by omega) ?_
  refine zn_putF C (by decide +kernel) 0 zin_X3 rfl (Nat.le_of_ble_eq_true rfl) rfl rfl tyX3_ok nmX3 rfl (ty := tyX3 0) (by decide +kernel) wq_36 dX3_init_9 (zDu_o (by decide) (zDu_i _ _ _ _)) (Nat.le_of_ble_eq_true rfl) rfl rfl ?_
  exact kk
def fX3_2 (Z : zLay) : List Value := [.ref (zad Z 6 0), .ref (zad Z 7 0), .null, .null, .null, .int 0]
def eX3_2 (Z : zLay) (D : zDm) : zDm := (zDu (zDu (eX3_1 Z D) 5 0 (.inr (3, fX3_1 Z))) 7 0 (.inl (zca Z 0, 50, .inl fun _ => 0)))
theorem sX3_12 (C : zCN E cX3_init RX3 1 Z h n0 c0 5 250) (hh : 1 ≤ h) (hc : c0 = 3) (kk : zNN E 1 Z n0 Q 20 [(0, .ref (zad Z 5 0))] [] (zDu (eX3_2 Z D) 5 0 (.inr (3, fX3_2 Z))) 2 100) : zNN E 1 Z n0 Q 12 [(0, .ref (zad Z 5 0))] [] (zDu (eX3_1 Z D) 5 0 (.inr (3, fX3_1 Z))) 1 50 := by
  subst hc
  refine zn_aload_n C dX3_init_12 rfl ?_
  refine zn_bipush C dX3_init_13 (v := 50) (by decide) ?_
  refine zn_newa C (atype := .int) (k := 7) (i := 0) (t0 := 0) (N := 50) (a0 := (50, .inl fun _ => 0)) wq_61 rfl dX3_init_15 (by decide) (by decide) (by decide) (fun _ => rfl) (by decide) rfl (by omega) (by omega) ?_
  refine zn_putF C (by decide +kernel) 1 zin_X3 rfl (Nat.le_of_ble_eq_true rfl) rfl rfl tyX3_ok nmX3 rfl (ty := tyX3 1) (by decide +kernel) wq_38 dX3_init_17 (zDu_o (by decide) (zDu_i _ _ _ _)) (Nat.le_of_ble_eq_true rfl) rfl rfl ?_
  exact kk
def fX3_3 (Z : zLay) : List Value := [.ref (zad Z 6 0), .ref (zad Z 7 0), .ref (zad Z 8 0), .null, .null, .int 0]
def eX3_3 (Z : zLay) (D : zDm) : zDm := (zDu (zDu (eX3_2 Z D) 5 0 (.inr (3, fX3_2 Z))) 8 0 (.inl (zca Z 0, 50, .inl fun _ => 0)))
theorem sX3_20 (C : zCN E cX3_init RX3 1 Z h n0 c0 5 250) (hh : 1 ≤ h) (hc : c0 = 3) (kk : zNN E 1 Z n0 Q 28 [(0, .ref (zad Z 5 0))] [] (zDu (eX3_3 Z D) 5 0 (.inr (3, fX3_3 Z))) 3 150) : zNN E 1 Z n0 Q 20 [(0, .ref (zad Z 5 0))] [] (zDu (eX3_2 Z D) 5 0 (.inr (3, fX3_2 Z))) 2 100 := by
  subst hc
  refine zn_aload_n C dX3_init_20 rfl ?_
  refine zn_bipush C dX3_init_21 (v := 50) (by decide) ?_
  refine zn_newa C (atype := .int) (k := 8) (i := 0) (t0 := 0) (N := 50) (a0 := (50, .inl fun _ => 0)) wq_61 rfl dX3_init_23 (by decide) (by decide) (by decide) (fun _ => rfl) (by decide) rfl (by omega) (by omega) ?_
  refine zn_putF C (by decide +kernel) 2 zin_X3 rfl (Nat.le_of_ble_eq_true rfl) rfl rfl tyX3_ok nmX3 rfl (ty := tyX3 2) (by decide +kernel) wq_40 dX3_init_25 (zDu_o (by decide) (zDu_i _ _ _ _)) (Nat.le_of_ble_eq_true rfl) rfl rfl ?_
  exact kk
def fX3_4 (Z : zLay) : List Value := [.ref (zad Z 6 0), .ref (zad Z 7 0), .ref (zad Z 8 0), .ref (zad Z 9 0), .null, .int 0]
def eX3_4 (Z : zLay) (D : zDm) : zDm := (zDu (zDu (eX3_3 Z D) 5 0 (.inr (3, fX3_3 Z))) 9 0 (.inl (zca Z 0, 50, .inl fun _ => 0)))
theorem sX3_28 (C : zCN E cX3_init RX3 1 Z h n0 c0 5 250) (hh : 1 ≤ h) (hc : c0 = 3) (kk : zNN E 1 Z n0 Q 36 [(0, .ref (zad Z 5 0))] [] (zDu (eX3_4 Z D) 5 0 (.inr (3, fX3_4 Z))) 4 200) : zNN E 1 Z n0 Q 28 [(0, .ref (zad Z 5 0))] [] (zDu (eX3_3 Z D) 5 0 (.inr (3, fX3_3 Z))) 3 150 := by
  subst hc
  refine zn_aload_n C dX3_init_28 rfl ?_
  refine zn_bipush C dX3_init_29 (v := 50) (by decide) ?_
  refine zn_newa C (atype := .int) (k := 9) (i := 0) (t0 := 0) (N := 50) (a0 := (50, .inl fun _ => 0)) wq_61 rfl dX3_init_31 (by decide) (by decide) (by decide) (fun _ => rfl) (by decide) rfl (by omega) (by omega) ?_
  refine zn_putF C (by decide +kernel) 3 zin_X3 rfl (Nat.le_of_ble_eq_true rfl) rfl rfl tyX3_ok nmX3 rfl (ty := tyX3 3) (by decide +kernel) wq_42 dX3_init_33 (zDu_o (by decide) (zDu_i _ _ _ _)) (Nat.le_of_ble_eq_true rfl) rfl rfl ?_
  exact kk
def fX3_5 (Z : zLay) : List Value := [.ref (zad Z 6 0), .ref (zad Z 7 0), .ref (zad Z 8 0), .ref (zad Z 9 0), .ref (zad Z 10 0), .int 0]
def eX3_5 (Z : zLay) (D : zDm) : zDm := (zDu (zDu (eX3_4 Z D) 5 0 (.inr (3, fX3_4 Z))) 10 0 (.inl (zca Z 0, 50, .inl fun _ => 0)))
theorem sX3_36 (C : zCN E cX3_init RX3 1 Z h n0 c0 5 250) (hh : 1 ≤ h) (hc : c0 = 3) (kk : zNN E 1 Z n0 Q 44 [(0, .ref (zad Z 5 0))] [] (zDu (eX3_5 Z D) 5 0 (.inr (3, fX3_5 Z))) 5 250) : zNN E 1 Z n0 Q 36 [(0, .ref (zad Z 5 0))] [] (zDu (eX3_4 Z D) 5 0 (.inr (3, fX3_4 Z))) 4 200 := by
  subst hc
  refine zn_aload_n C dX3_init_36 rfl ?_
  refine zn_bipush C dX3_init_37 (v := 50) (by decide) ?_
  refine zn_newa C (atype := .int) (k := 10) (i := 0) (t0 := 0) (N := 50) (a0 := (50, .inl fun _ => 0)) wq_61 rfl dX3_init_39 (by decide) (by decide) (by decide) (fun _ => rfl) (by decide) rfl (by omega) (by omega) ?_
  refine zn_putF C (by decide +kernel) 4 zin_X3 rfl (Nat.le_of_ble_eq_true rfl) rfl rfl tyX3_ok nmX3 rfl (ty := tyX3 4) (by decide +kernel) wq_44 dX3_init_41 (zDu_o (by decide) (zDu_i _ _ _ _)) (Nat.le_of_ble_eq_true rfl) rfl rfl ?_
  exact kk
def gX3 (Z : zLay) (D : zDm) : zDm := (zDu (eX3_5 Z D) 5 0 (.inr (3, fX3_5 Z)))
theorem eX3_0_o {a b : Nat} {y : va_E} (h : D a b = some y) : eX3_0 Z D a b = some y := h
theorem eX3_1_o {a b : Nat} {y : va_E} (w : a < 5 ∨ 10 < a) (h : D a b = some y) : eX3_1 Z D a b = some y := zDu_o (by omega) (zDu_o (by omega) (eX3_0_o h))
theorem eX3_2_o {a b : Nat} {y : va_E} (w : a < 5 ∨ 10 < a) (h : D a b = some y) : eX3_2 Z D a b = some y := zDu_o (by omega) (zDu_o (by omega) (eX3_1_o w h))
theorem eX3_3_o {a b : Nat} {y : va_E} (w : a < 5 ∨ 10 < a) (h : D a b = some y) : eX3_3 Z D a b = some y := zDu_o (by omega) (zDu_o (by omega) (eX3_2_o w h))
theorem eX3_4_o {a b : Nat} {y : va_E} (w : a < 5 ∨ 10 < a) (h : D a b = some y) : eX3_4 Z D a b = some y := zDu_o (by omega) (zDu_o (by omega) (eX3_3_o w h))
theorem eX3_5_o {a b : Nat} {y : va_E} (w : a < 5 ∨ 10 < a) (h : D a b = some y) : eX3_5 Z D a b = some y := zDu_o (by omega) (zDu_o (by omega) (eX3_4_o w h))
theorem gX3_o {a b : Nat} {y : va_E} (w : a < 5 ∨ 10 < a) (h : D a b = some y) : gX3 Z D a b = some y := zDu_o (by omega) (eX3_5_o w h)
theorem mX3 {l : Launch} (hc : c0 = 3) : zMetN l yX3_init cX3_init 1 1 Z n0 c0 5 250 [.ref (zad Z 5 0)] (zDu D 5 0 (.inr (3, fX3_0))) (gX3 Z D) :=
  zMetN_of (by decide +kernel) rfl (Nat.le_of_ble_eq_true rfl) [(0, .ref (zad Z 5 0))] rfl fun E h1 h2 C => sX3_0 C (Nat.le_refl _) hc (sX3_4 C (Nat.le_refl _) hc (sX3_12 C (Nat.le_refl _) hc (sX3_20 C (Nat.le_refl _) hc (sX3_28 C (Nat.le_refl _) hc (sX3_36 C (Nat.le_refl _) hc (zn_ret C (by decide +kernel) h1 h2 rfl (Nat.le_refl _) dX3_init_44))))))
end YX3
theorem wq_358 : Cond.methodLink "AlpCommune$Sheet" (3 : Nat) ({ cls := "java/lang/Object", name := "<init>", desc := "()V" } : MethodName) ∈ zTB := zTB_mem 484 (by decide +kernel) (by decide +kernel)
theorem wq_359 : Cond.fieldLink "AlpCommune$Sheet" (9 : Nat) "AlpCommune$Sheet" "sort" "I" ∈ zTB := zTB_mem 485 (by decide +kernel) (by decide +kernel)
theorem wq_362 : Cond.fieldLink "AlpCommune$Sheet" (15 : Nat) "AlpCommune$Sheet" "items" "[J" ∈ zTB := zTB_mem 488 (by decide +kernel) (by decide +kernel)
theorem wq_371 : Cond.arrayClass ClassFile.FieldType.long ∈ zTB := zTB_mem 497 (by decide +kernel) (by decide +kernel)
section YX4
variable {E : zEn} {nL h n0 c0 mc ms : Nat} {Z : zLay} {D : zDm} {Q : State → Prop}
def fX4_0 : List Value := [.int 0, .int 0, .null]
theorem nfX4 : ∀ j, j < 3 → defaultValue (tyX4 j) = vp_V fX4_0 j := by decide +kernel
def eX4_0 (Z : zLay) (i : Nat) (D : zDm) : zDm := D
theorem sX4_0 (C : zCN E cX4_init RX4 1 Z h n0 c0 1 60) (hh : 1 ≤ h) {i : Nat} (hi : i < 3) (hc : c0 = 338 + 2 * i) (kk : zNN E 1 Z n0 Q 4 [(0, .ref (zad Z 47 i))] [] (zDu (eX4_0 Z i D) 47 i (.inr (4, fX4_0))) 0 0) : zNN E 1 Z n0 Q 0 [(0, .ref (zad Z 47 i))] [] (zDu (eX4_0 Z i D) 47 i (.inr (4, fX4_0))) 0 0 := by
  subst hc
  refine zn_aload_n C dX4_init_0 rfl ?_
  refine zn_obj C wq_358 wq_26 wq_27 dX4_init_1 (by omega) (Nat.le_of_ble_eq_true rfl) ?_
  exact kk
def fX4_1 (Z : zLay) (i : Nat) : List Value := [.int (-1), .int 0, .null]
def eX4_1 (Z : zLay) (i : Nat) (D : zDm) : zDm := (zDu (eX4_0 Z i D) 47 i (.inr (4, fX4_0)))
theorem sX4_4 (C : zCN E cX4_init RX4 1 Z h n0 c0 1 60) (hh : 1 ≤ h) {i : Nat} (hi : i < 3) (hc : c0 = 338 + 2 * i) (kk : zNN E 1 Z n0 Q 9 [(0, .ref (zad Z 47 i))] [] (zDu (eX4_1 Z i D) 47 i (.inr (4, fX4_1 Z i))) 0 0) : zNN E 1 Z n0 Q 4 [(0, .ref (zad Z 47 i))] [] (zDu (eX4_0 Z i D) 47 i (.inr (4, fX4_0))) 0 0 := by
  subst hc
  refine zn_aload_n C dX4_init_4 rfl ?_
  refine zn_iconst C dX4_init_5 (v := (-1)) (by decide) ?_
  refine zn_put C 0 zin_X4 rfl (Nat.le_of_ble_eq_true rfl) rfl tyX4_ok nmX4 rfl (ty := tyX4 0) (by decide +kernel) wq_359 dX4_init_6 (zDu_i _ _ _ _) (Nat.le_of_ble_eq_true rfl) rfl rfl ?_
  exact kk
def fX4_2 (Z : zLay) (i : Nat) : List Value := [.int (-1), .int 0, .ref (zad Z 48 i)]
def eX4_2 (Z : zLay) (i : Nat) (D : zDm) : zDm := (zDu (zDu (eX4_1 Z i D) 47 i (.inr (4, fX4_1 Z i))) 48 i (.inl (zca Z 1, 60, .inr (.inl fun _ => 0))))
theorem sX4_9 (C : zCN E cX4_init RX4 1 Z h n0 c0 1 60) (hh : 1 ≤ h) {i : Nat} (hi : i < 3) (hc : c0 = 338 + 2 * i) (kk : zNN E 1 Z n0 Q 17 [(0, .ref (zad Z 47 i))] [] (zDu (eX4_2 Z i D) 47 i (.inr (4, fX4_2 Z i))) 1 60) : zNN E 1 Z n0 Q 9 [(0, .ref (zad Z 47 i))] [] (zDu (eX4_1 Z i D) 47 i (.inr (4, fX4_1 Z i))) 0 0 := by
  subst hc
  refine zn_aload_n C dX4_init_9 rfl ?_
  refine zn_bipush C dX4_init_10 (v := 60) (by decide) ?_
  refine zn_newa C (atype := .long) (k := 48) (i := i) (t0 := 1) (N := 60) (a0 := (60, .inr (.inl fun _ => 0))) wq_371 rfl dX4_init_12 (by decide) (by decide) (by decide) (fun _ => rfl) hi (by show 338 + 2 * i = 338 + 2 * i + 0; omega) (by omega) (by omega) ?_
  refine zn_putF C (by decide +kernel) 2 zin_X4 rfl (Nat.le_of_ble_eq_true rfl) rfl rfl tyX4_ok nmX4 rfl (ty := tyX4 2) (by decide +kernel) wq_362 dX4_init_14 (zDu_o (by decide) (zDu_i _ _ _ _)) (Nat.le_of_ble_eq_true rfl) rfl rfl ?_
  exact kk
def gX4 (Z : zLay) (i : Nat) (D : zDm) : zDm := (zDu (eX4_2 Z i D) 47 i (.inr (4, fX4_2 Z i)))
theorem eX4_0_o {i : Nat} {a b : Nat} {y : va_E} (h : D a b = some y) : eX4_0 Z i D a b = some y := h
theorem eX4_1_o {i : Nat} {a b : Nat} {y : va_E} (w : a < 47 ∨ 48 < a) (h : D a b = some y) : eX4_1 Z i D a b = some y := zDu_o (by omega) (eX4_0_o h)
theorem eX4_2_o {i : Nat} {a b : Nat} {y : va_E} (w : a < 47 ∨ 48 < a) (h : D a b = some y) : eX4_2 Z i D a b = some y := zDu_o (by omega) (zDu_o (by omega) (eX4_1_o w h))
theorem gX4_o {i : Nat} {a b : Nat} {y : va_E} (w : a < 47 ∨ 48 < a) (h : D a b = some y) : gX4 Z i D a b = some y := zDu_o (by omega) (eX4_2_o w h)
theorem mX4 {l : Launch} {i : Nat} (hi : i < 3) (hc : c0 = 338 + 2 * i) : zMetN l yX4_init cX4_init 1 1 Z n0 c0 1 60 [.ref (zad Z 47 i)] (zDu D 47 i (.inr (4, fX4_0))) (gX4 Z i D) :=
  zMetN_of (by decide +kernel) rfl (Nat.le_of_ble_eq_true rfl) [(0, .ref (zad Z 47 i))] rfl fun E h1 h2 C => sX4_0 C (Nat.le_refl _) hi hc (sX4_4 C (Nat.le_refl _) hi hc (sX4_9 C (Nat.le_refl _) hi hc (zn_ret C (by decide +kernel) h1 h2 rfl (Nat.le_refl _) dX4_init_17)))
end YX4
theorem wq_149 : Cond.methodLink "AlpCommune$Sky" (3 : Nat) ({ cls := "java/lang/Object", name := "<init>", desc := "()V" } : MethodName) ∈ zTB := zTB_mem 275 (by decide +kernel) (by decide +kernel)
theorem wq_154 : Cond.fieldLink "AlpCommune$Sky" (11 : Nat) "AlpCommune$Sky" "told" "[[S" ∈ zTB := zTB_mem 280 (by decide +kernel) (by decide +kernel)
theorem wq_150 : Cond.classLink "AlpCommune$Sky" (9 : Nat) "[[S" ∈ zTB := zTB_mem 276 (by decide +kernel) (by decide +kernel)
theorem wq_161 : Cond.arrayClass ClassFile.FieldType.short ∈ zTB := zTB_mem 287 (by decide +kernel) (by decide +kernel)
theorem wq_155 : Cond.fieldLink "AlpCommune$Sky" (18 : Nat) "AlpCommune$Sky" "toldIn" "[[I" ∈ zTB := zTB_mem 281 (by decide +kernel) (by decide +kernel)
theorem wq_152 : Cond.classLink "AlpCommune$Sky" (16 : Nat) "[[I" ∈ zTB := zTB_mem 278 (by decide +kernel) (by decide +kernel)
section YX5
variable {E : zEn} {nL h n0 c0 mc ms : Nat} {Z : zLay} {D : zDm} {Q : State → Prop}
def fX5_0 : List Value := [.null, .null]
theorem nfX5 : ∀ j, j < 2 → defaultValue (tyX5 j) = vp_V fX5_0 j := by decide +kernel
def eX5_0 (Z : zLay) (D : zDm) : zDm := D
theorem sX5_0 (C : zCN E cX5_init RX5 1 Z h n0 c0 6 14644) (hh : 1 ≤ h) (hc : c0 = 252) (kk : zNN E 1 Z n0 Q 4 [(0, .ref (zad Z 20 0))] [] (zDu (eX5_0 Z D) 20 0 (.inr (5, fX5_0))) 0 0) : zNN E 1 Z n0 Q 0 [(0, .ref (zad Z 20 0))] [] (zDu (eX5_0 Z D) 20 0 (.inr (5, fX5_0))) 0 0 := by
  subst hc
  refine zn_aload_n C dX5_init_0 rfl ?_
  refine zn_obj C wq_149 wq_26 wq_27 dX5_init_1 (by omega) (Nat.le_of_ble_eq_true rfl) ?_
  exact kk
def fX5_1 (Z : zLay) : List Value := [.ref (zad Z 21 0), .null]
def eX5_1 (Z : zLay) (D : zDm) : zDm := (zDr (zDu (zDu (eX5_0 Z D) 20 0 (.inr (5, fX5_0))) 21 0 (.inl (zca Z 10, 2, .inr (.inr (.inr (.inr (fun i => if i < 2 then some (zad Z 22 i) else none))))))) 22 2 (.inl (zca Z 3, (7200, .inl fun _ => 0))))
theorem sX5_4 (C : zCN E cX5_init RX5 1 Z h n0 c0 6 14644) (hh : 1 ≤ h) (hc : c0 = 252) (kk : zNN E 1 Z n0 Q 16 [(0, .ref (zad Z 20 0))] [] (zDu (eX5_1 Z D) 20 0 (.inr (5, fX5_1 Z))) 3 14402) : zNN E 1 Z n0 Q 4 [(0, .ref (zad Z 20 0))] [] (zDu (eX5_0 Z D) 20 0 (.inr (5, fX5_0))) 0 0 := by
  subst hc
  refine zn_aload_n C dX5_init_4 rfl ?_
  refine zn_iconst C dX5_init_5 (v := 2) (by decide) ?_
  refine zn_sipush C dX5_init_6 (v := 7200) (by decide) ?_
  refine zn_mna C (ty := .short) (N := 2) (M := 7200) (t0 := 10) (t1 := 3) (k := 21) (k1 := 22) (a0 := (7200, .inl fun _ => 0)) wq_150 (by unfold zOvL; simp) wq_161 rfl rfl (fun _ _ q => q) dX5_init_9 (by decide) (by decide) (by decide) (by decide) (by decide) (by decide) (by decide) rfl rfl (fun _ => rfl) (by decide) (by decide) rfl (fun j _ => by show 253 + 1 * j = 252 + 0 + 1 + j; omega) (by omega) (by omega) ?_
  refine zn_putF C (by decide +kernel) 0 zin_X5 rfl (Nat.le_of_ble_eq_true rfl) rfl rfl tyX5_ok nmX5 rfl (ty := tyX5 0) (by decide +kernel) wq_154 dX5_init_13 (zDr_o (by decide) (zDu_o (by decide) (zDu_i _ _ _ _))) (Nat.le_of_ble_eq_true rfl) rfl rfl ?_
  exact kk
def fX5_2 (Z : zLay) : List Value := [.ref (zad Z 21 0), .ref (zad Z 23 0)]
def eX5_2 (Z : zLay) (D : zDm) : zDm := (zDr (zDu (zDu (eX5_1 Z D) 20 0 (.inr (5, fX5_1 Z))) 23 0 (.inl (zca Z 9, 2, .inr (.inr (.inr (.inr (fun i => if i < 2 then some (zad Z 24 i) else none))))))) 24 2 (.inl (zca Z 0, (120, .inl fun _ => 0))))
theorem sX5_16 (C : zCN E cX5_init RX5 1 Z h n0 c0 6 14644) (hh : 1 ≤ h) (hc : c0 = 252) (kk : zNN E 1 Z n0 Q 27 [(0, .ref (zad Z 20 0))] [] (zDu (eX5_2 Z D) 20 0 (.inr (5, fX5_2 Z))) 6 14644) : zNN E 1 Z n0 Q 16 [(0, .ref (zad Z 20 0))] [] (zDu (eX5_1 Z D) 20 0 (.inr (5, fX5_1 Z))) 3 14402 := by
  subst hc
  refine zn_aload_n C dX5_init_16 rfl ?_
  refine zn_iconst C dX5_init_17 (v := 2) (by decide) ?_
  refine zn_bipush C dX5_init_18 (v := 120) (by decide) ?_
  refine zn_mna C (ty := .int) (N := 2) (M := 120) (t0 := 9) (t1 := 0) (k := 23) (k1 := 24) (a0 := (120, .inl fun _ => 0)) wq_152 (by unfold zOvL; simp) wq_61 rfl rfl (fun _ _ q => q) dX5_init_20 (by decide) (by decide) (by decide) (by decide) (by decide) (by decide) (by decide) rfl rfl (fun _ => rfl) (by decide) (by decide) rfl (fun j _ => by show 256 + 1 * j = 252 + 3 + 1 + j; omega) (by omega) (by omega) ?_
  refine zn_putF C (by decide +kernel) 1 zin_X5 rfl (Nat.le_of_ble_eq_true rfl) rfl rfl tyX5_ok nmX5 rfl (ty := tyX5 1) (by decide +kernel) wq_155 dX5_init_24 (zDr_o (by decide) (zDu_o (by decide) (zDu_i _ _ _ _))) (Nat.le_of_ble_eq_true rfl) rfl rfl ?_
  exact kk
def gX5 (Z : zLay) (D : zDm) : zDm := (zDu (eX5_2 Z D) 20 0 (.inr (5, fX5_2 Z)))
theorem eX5_0_o {a b : Nat} {y : va_E} (h : D a b = some y) : eX5_0 Z D a b = some y := h
theorem eX5_1_o {a b : Nat} {y : va_E} (w : a < 20 ∨ 24 < a) (h : D a b = some y) : eX5_1 Z D a b = some y := zDr_o (by omega) (zDu_o (by omega) (zDu_o (by omega) (eX5_0_o h)))
theorem eX5_2_o {a b : Nat} {y : va_E} (w : a < 20 ∨ 24 < a) (h : D a b = some y) : eX5_2 Z D a b = some y := zDr_o (by omega) (zDu_o (by omega) (zDu_o (by omega) (eX5_1_o w h)))
theorem gX5_o {a b : Nat} {y : va_E} (w : a < 20 ∨ 24 < a) (h : D a b = some y) : gX5 Z D a b = some y := zDu_o (by omega) (eX5_2_o w h)
theorem mX5 {l : Launch} (hc : c0 = 252) : zMetN l yX5_init cX5_init 1 1 Z n0 c0 6 14644 [.ref (zad Z 20 0)] (zDu D 20 0 (.inr (5, fX5_0))) (gX5 Z D) :=
  zMetN_of (by decide +kernel) rfl (Nat.le_of_ble_eq_true rfl) [(0, .ref (zad Z 20 0))] rfl fun E h1 h2 C => sX5_0 C (Nat.le_refl _) hc (sX5_4 C (Nat.le_refl _) hc (sX5_16 C (Nat.le_refl _) hc (zn_ret C (by decide +kernel) h1 h2 rfl (Nat.le_refl _) dX5_init_27)))
end YX5
theorem wq_228 : Cond.methodLink "AlpCommune$Slope" (3 : Nat) ({ cls := "java/lang/Object", name := "<init>", desc := "()V" } : MethodName) ∈ zTB := zTB_mem 354 (by decide +kernel) (by decide +kernel)
theorem wq_238 : Cond.fieldLink "AlpCommune$Slope" (9 : Nat) "AlpCommune$Slope" "depth" "[I" ∈ zTB := zTB_mem 364 (by decide +kernel) (by decide +kernel)
theorem wq_239 : Cond.fieldLink "AlpCommune$Slope" (15 : Nat) "AlpCommune$Slope" "soft" "[Z" ∈ zTB := zTB_mem 365 (by decide +kernel) (by decide +kernel)
theorem wq_124 : Cond.arrayClass ClassFile.FieldType.boolean ∈ zTB := zTB_mem 250 (by decide +kernel) (by decide +kernel)
section YX6
variable {E : zEn} {nL h n0 c0 mc ms : Nat} {Z : zLay} {D : zDm} {Q : State → Prop}
def fX6_0 : List Value := [.int 0, .int 0, .int 0, .int 0, .null, .null]
theorem nfX6 : ∀ j, j < 6 → defaultValue (tyX6 j) = vp_V fX6_0 j := by decide +kernel
def eX6_0 (Z : zLay) (i : Nat) (D : zDm) : zDm := D
theorem sX6_0 (C : zCN E cX6_init RX6 1 Z h n0 c0 2 14) (hh : 1 ≤ h) {i : Nat} (hi : i < 6) (hc : c0 = 277 + 3 * i) (kk : zNN E 1 Z n0 Q 4 [(0, .ref (zad Z 40 i))] [] (zDu (eX6_0 Z i D) 40 i (.inr (6, fX6_0))) 0 0) : zNN E 1 Z n0 Q 0 [(0, .ref (zad Z 40 i))] [] (zDu (eX6_0 Z i D) 40 i (.inr (6, fX6_0))) 0 0 := by
  subst hc
  refine zn_aload_n C dX6_init_0 rfl ?_
  refine zn_obj C wq_228 wq_26 wq_27 dX6_init_1 (by omega) (Nat.le_of_ble_eq_true rfl) ?_
  exact kk
def fX6_1 (Z : zLay) (i : Nat) : List Value := [.int 0, .int 0, .int 0, .int 0, .ref (zad Z 41 i), .null]
def eX6_1 (Z : zLay) (i : Nat) (D : zDm) : zDm := (zDu (zDu (eX6_0 Z i D) 40 i (.inr (6, fX6_0))) 41 i (.inl (zca Z 0, 7, .inl fun _ => 0)))
theorem sX6_4 (C : zCN E cX6_init RX6 1 Z h n0 c0 2 14) (hh : 1 ≤ h) {i : Nat} (hi : i < 6) (hc : c0 = 277 + 3 * i) (kk : zNN E 1 Z n0 Q 12 [(0, .ref (zad Z 40 i))] [] (zDu (eX6_1 Z i D) 40 i (.inr (6, fX6_1 Z i))) 1 7) : zNN E 1 Z n0 Q 4 [(0, .ref (zad Z 40 i))] [] (zDu (eX6_0 Z i D) 40 i (.inr (6, fX6_0))) 0 0 := by
  subst hc
  refine zn_aload_n C dX6_init_4 rfl ?_
  refine zn_bipush C dX6_init_5 (v := 7) (by decide) ?_
  refine zn_newa C (atype := .int) (k := 41) (i := i) (t0 := 0) (N := 7) (a0 := (7, .inl fun _ => 0)) wq_61 rfl dX6_init_7 (by decide) (by decide) (by decide) (fun _ => rfl) hi (by show 277 + 3 * i = 277 + 3 * i + 0; omega) (by omega) (by omega) ?_
  refine zn_putF C (by decide +kernel) 4 zin_X6 rfl (Nat.le_of_ble_eq_true rfl) rfl rfl tyX6_ok nmX6 rfl (ty := tyX6 4) (by decide +kernel) wq_238 dX6_init_9 (zDu_o (by decide) (zDu_i _ _ _ _)) (Nat.le_of_ble_eq_true rfl) rfl rfl ?_
  exact kk
def fX6_2 (Z : zLay) (i : Nat) : List Value := [.int 0, .int 0, .int 0, .int 0, .ref (zad Z 41 i), .ref (zad Z 42 i)]
def eX6_2 (Z : zLay) (i : Nat) (D : zDm) : zDm := (zDu (zDu (eX6_1 Z i D) 40 i (.inr (6, fX6_1 Z i))) 42 i (.inl (zca Z 4, 7, .inl fun _ => 0)))
theorem sX6_12 (C : zCN E cX6_init RX6 1 Z h n0 c0 2 14) (hh : 1 ≤ h) {i : Nat} (hi : i < 6) (hc : c0 = 277 + 3 * i) (kk : zNN E 1 Z n0 Q 20 [(0, .ref (zad Z 40 i))] [] (zDu (eX6_2 Z i D) 40 i (.inr (6, fX6_2 Z i))) 2 14) : zNN E 1 Z n0 Q 12 [(0, .ref (zad Z 40 i))] [] (zDu (eX6_1 Z i D) 40 i (.inr (6, fX6_1 Z i))) 1 7 := by
  subst hc
  refine zn_aload_n C dX6_init_12 rfl ?_
  refine zn_bipush C dX6_init_13 (v := 7) (by decide) ?_
  refine zn_newa C (atype := .boolean) (k := 42) (i := i) (t0 := 4) (N := 7) (a0 := (7, .inl fun _ => 0)) wq_124 rfl dX6_init_15 (by decide) (by decide) (by decide) (fun _ => rfl) hi (by show 278 + 3 * i = 277 + 3 * i + 1; omega) (by omega) (by omega) ?_
  refine zn_putF C (by decide +kernel) 5 zin_X6 rfl (Nat.le_of_ble_eq_true rfl) rfl rfl tyX6_ok nmX6 rfl (ty := tyX6 5) (by decide +kernel) wq_239 dX6_init_17 (zDu_o (by decide) (zDu_i _ _ _ _)) (Nat.le_of_ble_eq_true rfl) rfl rfl ?_
  exact kk
def gX6 (Z : zLay) (i : Nat) (D : zDm) : zDm := (zDu (eX6_2 Z i D) 40 i (.inr (6, fX6_2 Z i)))
theorem eX6_0_o {i : Nat} {a b : Nat} {y : va_E} (h : D a b = some y) : eX6_0 Z i D a b = some y := h
theorem eX6_1_o {i : Nat} {a b : Nat} {y : va_E} (w : a < 40 ∨ 42 < a) (h : D a b = some y) : eX6_1 Z i D a b = some y := zDu_o (by omega) (zDu_o (by omega) (eX6_0_o h))
theorem eX6_2_o {i : Nat} {a b : Nat} {y : va_E} (w : a < 40 ∨ 42 < a) (h : D a b = some y) : eX6_2 Z i D a b = some y := zDu_o (by omega) (zDu_o (by omega) (eX6_1_o w h))
theorem gX6_o {i : Nat} {a b : Nat} {y : va_E} (w : a < 40 ∨ 42 < a) (h : D a b = some y) : gX6 Z i D a b = some y := zDu_o (by omega) (eX6_2_o w h)
theorem mX6 {l : Launch} {i : Nat} (hi : i < 6) (hc : c0 = 277 + 3 * i) : zMetN l yX6_init cX6_init 1 1 Z n0 c0 2 14 [.ref (zad Z 40 i)] (zDu D 40 i (.inr (6, fX6_0))) (gX6 Z i D) :=
  zMetN_of (by decide +kernel) rfl (Nat.le_of_ble_eq_true rfl) [(0, .ref (zad Z 40 i))] rfl fun E h1 h2 C => sX6_0 C (Nat.le_refl _) hi hc (sX6_4 C (Nat.le_refl _) hi hc (sX6_12 C (Nat.le_refl _) hi hc (zn_ret C (by decide +kernel) h1 h2 rfl (Nat.le_refl _) dX6_init_20)))
end YX6
theorem wq_74 : Cond.methodLink "AlpCommune$Word" (3 : Nat) ({ cls := "java/lang/Object", name := "<init>", desc := "()V" } : MethodName) ∈ zTB := zTB_mem 200 (by decide +kernel) (by decide +kernel)
theorem wq_88 : Cond.fieldLink "AlpCommune$Word" (9 : Nat) "AlpCommune$Word" "field" "[I" ∈ zTB := zTB_mem 214 (by decide +kernel) (by decide +kernel)
theorem wq_90 : Cond.fieldLink "AlpCommune$Word" (15 : Nat) "AlpCommune$Word" "sign" "[I" ∈ zTB := zTB_mem 216 (by decide +kernel) (by decide +kernel)
theorem wq_92 : Cond.fieldLink "AlpCommune$Word" (18 : Nat) "AlpCommune$Word" "than" "[I" ∈ zTB := zTB_mem 218 (by decide +kernel) (by decide +kernel)
theorem wq_94 : Cond.fieldLink "AlpCommune$Word" (21 : Nat) "AlpCommune$Word" "not" "[Z" ∈ zTB := zTB_mem 220 (by decide +kernel) (by decide +kernel)
theorem wq_96 : Cond.fieldLink "AlpCommune$Word" (25 : Nat) "AlpCommune$Word" "or" "[Z" ∈ zTB := zTB_mem 222 (by decide +kernel) (by decide +kernel)
section YX8
variable {E : zEn} {nL h n0 c0 mc ms : Nat} {Z : zLay} {D : zDm} {Q : State → Prop}
def fX8_0 : List Value := [.int 0, .int 0, .int 0, .int 0, .int 0, .int 0, .int 0, .null, .null, .null, .null, .null]
theorem nfX8 : ∀ j, j < 12 → defaultValue (tyX8 j) = vp_V fX8_0 j := by decide +kernel
def eX8_0 (Z : zLay) (i : Nat) (D : zDm) : zDm := D
theorem sX8_0 (C : zCN E cX8_init RX8 1 Z h n0 c0 5 20) (hh : 1 ≤ h) {i : Nat} (hi : i < 40) (hc : c0 = 12 + 6 * i) (kk : zNN E 1 Z n0 Q 4 [(0, .ref (zad Z 13 i))] [] (zDu (eX8_0 Z i D) 13 i (.inr (8, fX8_0))) 0 0) : zNN E 1 Z n0 Q 0 [(0, .ref (zad Z 13 i))] [] (zDu (eX8_0 Z i D) 13 i (.inr (8, fX8_0))) 0 0 := by
  subst hc
  refine zn_aload_n C dX8_init_0 rfl ?_
  refine zn_obj C wq_74 wq_26 wq_27 dX8_init_1 (by omega) (Nat.le_of_ble_eq_true rfl) ?_
  exact kk
def fX8_1 (Z : zLay) (i : Nat) : List Value := [.int 0, .int 0, .int 0, .int 0, .int 0, .int 0, .int 0, .ref (zad Z 14 i), .null, .null, .null, .null]
def eX8_1 (Z : zLay) (i : Nat) (D : zDm) : zDm := (zDu (zDu (eX8_0 Z i D) 13 i (.inr (8, fX8_0))) 14 i (.inl (zca Z 0, 4, .inl fun _ => 0)))
theorem sX8_4 (C : zCN E cX8_init RX8 1 Z h n0 c0 5 20) (hh : 1 ≤ h) {i : Nat} (hi : i < 40) (hc : c0 = 12 + 6 * i) (kk : zNN E 1 Z n0 Q 11 [(0, .ref (zad Z 13 i))] [] (zDu (eX8_1 Z i D) 13 i (.inr (8, fX8_1 Z i))) 1 4) : zNN E 1 Z n0 Q 4 [(0, .ref (zad Z 13 i))] [] (zDu (eX8_0 Z i D) 13 i (.inr (8, fX8_0))) 0 0 := by
  subst hc
  refine zn_aload_n C dX8_init_4 rfl ?_
  refine zn_iconst C dX8_init_5 (v := 4) (by decide) ?_
  refine zn_newa C (atype := .int) (k := 14) (i := i) (t0 := 0) (N := 4) (a0 := (4, .inl fun _ => 0)) wq_61 rfl dX8_init_6 (by decide) (by decide) (by decide) (fun _ => rfl) hi (by show 12 + 6 * i = 12 + 6 * i + 0; omega) (by omega) (by omega) ?_
  refine zn_putF C (by decide +kernel) 7 zin_X8 rfl (Nat.le_of_ble_eq_true rfl) rfl rfl tyX8_ok nmX8 rfl (ty := tyX8 7) (by decide +kernel) wq_88 dX8_init_8 (zDu_o (by decide) (zDu_i _ _ _ _)) (Nat.le_of_ble_eq_true rfl) rfl rfl ?_
  exact kk
def fX8_2 (Z : zLay) (i : Nat) : List Value := [.int 0, .int 0, .int 0, .int 0, .int 0, .int 0, .int 0, .ref (zad Z 14 i), .ref (zad Z 15 i), .null, .null, .null]
def eX8_2 (Z : zLay) (i : Nat) (D : zDm) : zDm := (zDu (zDu (eX8_1 Z i D) 13 i (.inr (8, fX8_1 Z i))) 15 i (.inl (zca Z 0, 4, .inl fun _ => 0)))
theorem sX8_11 (C : zCN E cX8_init RX8 1 Z h n0 c0 5 20) (hh : 1 ≤ h) {i : Nat} (hi : i < 40) (hc : c0 = 12 + 6 * i) (kk : zNN E 1 Z n0 Q 18 [(0, .ref (zad Z 13 i))] [] (zDu (eX8_2 Z i D) 13 i (.inr (8, fX8_2 Z i))) 2 8) : zNN E 1 Z n0 Q 11 [(0, .ref (zad Z 13 i))] [] (zDu (eX8_1 Z i D) 13 i (.inr (8, fX8_1 Z i))) 1 4 := by
  subst hc
  refine zn_aload_n C dX8_init_11 rfl ?_
  refine zn_iconst C dX8_init_12 (v := 4) (by decide) ?_
  refine zn_newa C (atype := .int) (k := 15) (i := i) (t0 := 0) (N := 4) (a0 := (4, .inl fun _ => 0)) wq_61 rfl dX8_init_13 (by decide) (by decide) (by decide) (fun _ => rfl) hi (by show 13 + 6 * i = 12 + 6 * i + 1; omega) (by omega) (by omega) ?_
  refine zn_putF C (by decide +kernel) 8 zin_X8 rfl (Nat.le_of_ble_eq_true rfl) rfl rfl tyX8_ok nmX8 rfl (ty := tyX8 8) (by decide +kernel) wq_90 dX8_init_15 (zDu_o (by decide) (zDu_i _ _ _ _)) (Nat.le_of_ble_eq_true rfl) rfl rfl ?_
  exact kk
def fX8_3 (Z : zLay) (i : Nat) : List Value := [.int 0, .int 0, .int 0, .int 0, .int 0, .int 0, .int 0, .ref (zad Z 14 i), .ref (zad Z 15 i), .ref (zad Z 16 i), .null, .null]
def eX8_3 (Z : zLay) (i : Nat) (D : zDm) : zDm := (zDu (zDu (eX8_2 Z i D) 13 i (.inr (8, fX8_2 Z i))) 16 i (.inl (zca Z 0, 4, .inl fun _ => 0)))
theorem sX8_18 (C : zCN E cX8_init RX8 1 Z h n0 c0 5 20) (hh : 1 ≤ h) {i : Nat} (hi : i < 40) (hc : c0 = 12 + 6 * i) (kk : zNN E 1 Z n0 Q 25 [(0, .ref (zad Z 13 i))] [] (zDu (eX8_3 Z i D) 13 i (.inr (8, fX8_3 Z i))) 3 12) : zNN E 1 Z n0 Q 18 [(0, .ref (zad Z 13 i))] [] (zDu (eX8_2 Z i D) 13 i (.inr (8, fX8_2 Z i))) 2 8 := by
  subst hc
  refine zn_aload_n C dX8_init_18 rfl ?_
  refine zn_iconst C dX8_init_19 (v := 4) (by decide) ?_
  refine zn_newa C (atype := .int) (k := 16) (i := i) (t0 := 0) (N := 4) (a0 := (4, .inl fun _ => 0)) wq_61 rfl dX8_init_20 (by decide) (by decide) (by decide) (fun _ => rfl) hi (by show 14 + 6 * i = 12 + 6 * i + 2; omega) (by omega) (by omega) ?_
  refine zn_putF C (by decide +kernel) 9 zin_X8 rfl (Nat.le_of_ble_eq_true rfl) rfl rfl tyX8_ok nmX8 rfl (ty := tyX8 9) (by decide +kernel) wq_92 dX8_init_22 (zDu_o (by decide) (zDu_i _ _ _ _)) (Nat.le_of_ble_eq_true rfl) rfl rfl ?_
  exact kk
def fX8_4 (Z : zLay) (i : Nat) : List Value := [.int 0, .int 0, .int 0, .int 0, .int 0, .int 0, .int 0, .ref (zad Z 14 i), .ref (zad Z 15 i), .ref (zad Z 16 i), .ref (zad Z 17 i), .null]
def eX8_4 (Z : zLay) (i : Nat) (D : zDm) : zDm := (zDu (zDu (eX8_3 Z i D) 13 i (.inr (8, fX8_3 Z i))) 17 i (.inl (zca Z 4, 4, .inl fun _ => 0)))
theorem sX8_25 (C : zCN E cX8_init RX8 1 Z h n0 c0 5 20) (hh : 1 ≤ h) {i : Nat} (hi : i < 40) (hc : c0 = 12 + 6 * i) (kk : zNN E 1 Z n0 Q 32 [(0, .ref (zad Z 13 i))] [] (zDu (eX8_4 Z i D) 13 i (.inr (8, fX8_4 Z i))) 4 16) : zNN E 1 Z n0 Q 25 [(0, .ref (zad Z 13 i))] [] (zDu (eX8_3 Z i D) 13 i (.inr (8, fX8_3 Z i))) 3 12 := by
  subst hc
  refine zn_aload_n C dX8_init_25 rfl ?_
  refine zn_iconst C dX8_init_26 (v := 4) (by decide) ?_
  refine zn_newa C (atype := .boolean) (k := 17) (i := i) (t0 := 4) (N := 4) (a0 := (4, .inl fun _ => 0)) wq_124 rfl dX8_init_27 (by decide) (by decide) (by decide) (fun _ => rfl) hi (by show 15 + 6 * i = 12 + 6 * i + 3; omega) (by omega) (by omega) ?_
  refine zn_putF C (by decide +kernel) 10 zin_X8 rfl (Nat.le_of_ble_eq_true rfl) rfl rfl tyX8_ok nmX8 rfl (ty := tyX8 10) (by decide +kernel) wq_94 dX8_init_29 (zDu_o (by decide) (zDu_i _ _ _ _)) (Nat.le_of_ble_eq_true rfl) rfl rfl ?_
  exact kk
def fX8_5 (Z : zLay) (i : Nat) : List Value := [.int 0, .int 0, .int 0, .int 0, .int 0, .int 0, .int 0, .ref (zad Z 14 i), .ref (zad Z 15 i), .ref (zad Z 16 i), .ref (zad Z 17 i), .ref (zad Z 18 i)]
def eX8_5 (Z : zLay) (i : Nat) (D : zDm) : zDm := (zDu (zDu (eX8_4 Z i D) 13 i (.inr (8, fX8_4 Z i))) 18 i (.inl (zca Z 4, 4, .inl fun _ => 0)))
theorem sX8_32 (C : zCN E cX8_init RX8 1 Z h n0 c0 5 20) (hh : 1 ≤ h) {i : Nat} (hi : i < 40) (hc : c0 = 12 + 6 * i) (kk : zNN E 1 Z n0 Q 39 [(0, .ref (zad Z 13 i))] [] (zDu (eX8_5 Z i D) 13 i (.inr (8, fX8_5 Z i))) 5 20) : zNN E 1 Z n0 Q 32 [(0, .ref (zad Z 13 i))] [] (zDu (eX8_4 Z i D) 13 i (.inr (8, fX8_4 Z i))) 4 16 := by
  subst hc
  refine zn_aload_n C dX8_init_32 rfl ?_
  refine zn_iconst C dX8_init_33 (v := 4) (by decide) ?_
  refine zn_newa C (atype := .boolean) (k := 18) (i := i) (t0 := 4) (N := 4) (a0 := (4, .inl fun _ => 0)) wq_124 rfl dX8_init_34 (by decide) (by decide) (by decide) (fun _ => rfl) hi (by show 16 + 6 * i = 12 + 6 * i + 4; omega) (by omega) (by omega) ?_
  refine zn_putF C (by decide +kernel) 11 zin_X8 rfl (Nat.le_of_ble_eq_true rfl) rfl rfl tyX8_ok nmX8 rfl (ty := tyX8 11) (by decide +kernel) wq_96 dX8_init_36 (zDu_o (by decide) (zDu_i _ _ _ _)) (Nat.le_of_ble_eq_true rfl) rfl rfl ?_
  exact kk
def gX8 (Z : zLay) (i : Nat) (D : zDm) : zDm := (zDu (eX8_5 Z i D) 13 i (.inr (8, fX8_5 Z i)))
theorem eX8_0_o {i : Nat} {a b : Nat} {y : va_E} (h : D a b = some y) : eX8_0 Z i D a b = some y := h
theorem eX8_1_o {i : Nat} {a b : Nat} {y : va_E} (w : a < 13 ∨ 18 < a) (h : D a b = some y) : eX8_1 Z i D a b = some y := zDu_o (by omega) (zDu_o (by omega) (eX8_0_o h))
theorem eX8_2_o {i : Nat} {a b : Nat} {y : va_E} (w : a < 13 ∨ 18 < a) (h : D a b = some y) : eX8_2 Z i D a b = some y := zDu_o (by omega) (zDu_o (by omega) (eX8_1_o w h))
theorem eX8_3_o {i : Nat} {a b : Nat} {y : va_E} (w : a < 13 ∨ 18 < a) (h : D a b = some y) : eX8_3 Z i D a b = some y := zDu_o (by omega) (zDu_o (by omega) (eX8_2_o w h))
theorem eX8_4_o {i : Nat} {a b : Nat} {y : va_E} (w : a < 13 ∨ 18 < a) (h : D a b = some y) : eX8_4 Z i D a b = some y := zDu_o (by omega) (zDu_o (by omega) (eX8_3_o w h))
theorem eX8_5_o {i : Nat} {a b : Nat} {y : va_E} (w : a < 13 ∨ 18 < a) (h : D a b = some y) : eX8_5 Z i D a b = some y := zDu_o (by omega) (zDu_o (by omega) (eX8_4_o w h))
theorem gX8_o {i : Nat} {a b : Nat} {y : va_E} (w : a < 13 ∨ 18 < a) (h : D a b = some y) : gX8 Z i D a b = some y := zDu_o (by omega) (eX8_5_o w h)
theorem mX8 {l : Launch} {i : Nat} (hi : i < 40) (hc : c0 = 12 + 6 * i) : zMetN l yX8_init cX8_init 1 1 Z n0 c0 5 20 [.ref (zad Z 13 i)] (zDu D 13 i (.inr (8, fX8_0))) (gX8 Z i D) :=
  zMetN_of (by decide +kernel) rfl (Nat.le_of_ble_eq_true rfl) [(0, .ref (zad Z 13 i))] rfl fun E h1 h2 C => sX8_0 C (Nat.le_refl _) hi hc (sX8_4 C (Nat.le_refl _) hi hc (sX8_11 C (Nat.le_refl _) hi hc (sX8_18 C (Nat.le_refl _) hi hc (sX8_25 C (Nat.le_refl _) hi hc (sX8_32 C (Nat.le_refl _) hi hc (zn_ret C (by decide +kernel) h1 h2 rfl (Nat.le_refl _) dX8_init_39))))))
end YX8
end
section
/-! what the constructors leave behind -/
theorem zDr_i (D : zDm) {k N b : Nat} {x : va_E} (h : b < N) : zDr D k N x k b = some x := if_pos ⟨rfl, h⟩
theorem zDu_ob {D : zDm} {k i a b : Nat} {x y : va_E} (h : b ≠ i) (e : D a b = some y) : zDu D k i x a b = some y := (zDu_n D x (fun w => h w.2)).trans e
theorem nI41_c : ∀ n, n < 42 → nI n + Int32.ofInt 1 = nI (n + 1) ∧ ¬ nI n < 0 ∧ (nI n).toNatClampNeg = n := by decide +kernel
theorem eX0_11_c {Z : zLay} {D : zDm} {a b : Nat} {y : va_E} (w : a ≠ 25) (v : a < 37) (h : eX0_10 Z D a b = some y) : eX0_11 Z D a b = some y := zDu_o (by omega) (zDu_o (by omega) (h))
theorem eX0_10_c {Z : zLay} {D : zDm} {a b : Nat} {y : va_E} (w : a ≠ 25) (v : a < 36) (h : eX0_9 Z D a b = some y) : eX0_11 Z D a b = some y := eX0_11_c w (by omega) (zDu_o (by omega) (zDu_o (by omega) (h)))
theorem eX0_9_c {Z : zLay} {D : zDm} {a b : Nat} {y : va_E} (w : a ≠ 25) (v : a < 35) (h : eX0_8 Z D a b = some y) : eX0_11 Z D a b = some y := eX0_10_c w (by omega) (zDu_o (by omega) (zDu_o (by omega) (h)))
theorem eX0_8_c {Z : zLay} {D : zDm} {a b : Nat} {y : va_E} (w : a ≠ 25) (v : a < 33) (h : eX0_7 Z D a b = some y) : eX0_11 Z D a b = some y := eX0_9_c w (by omega) (zDr_o (by omega) (zDu_o (by omega) (zDu_o (by omega) (h))))
theorem eX0_7_c {Z : zLay} {D : zDm} {a b : Nat} {y : va_E} (w : a ≠ 25) (v : a < 32) (h : eX0_6 Z D a b = some y) : eX0_11 Z D a b = some y := eX0_8_c w (by omega) (zDu_o (by omega) (zDu_o (by omega) (h)))
theorem eX0_6_c {Z : zLay} {D : zDm} {a b : Nat} {y : va_E} (w : a ≠ 25) (v : a < 31) (h : eX0_5 Z D a b = some y) : eX0_11 Z D a b = some y := eX0_7_c w (by omega) (zDu_o (by omega) (zDu_o (by omega) (h)))
theorem eX0_5_c {Z : zLay} {D : zDm} {a b : Nat} {y : va_E} (w : a ≠ 25) (v : a < 30) (h : eX0_4 Z D a b = some y) : eX0_11 Z D a b = some y := eX0_6_c w (by omega) (zDu_o (by omega) (zDu_o (by omega) (h)))
theorem eX0_4_c {Z : zLay} {D : zDm} {a b : Nat} {y : va_E} (w : a ≠ 25) (v : a < 29) (h : eX0_3 Z D a b = some y) : eX0_11 Z D a b = some y := eX0_5_c w (by omega) (zDu_o (by omega) (zDu_o (by omega) (h)))
theorem eX0_3_c {Z : zLay} {D : zDm} {a b : Nat} {y : va_E} (w : a ≠ 25) (v : a < 28) (h : eX0_2 Z D a b = some y) : eX0_11 Z D a b = some y := eX0_4_c w (by omega) (zDu_o (by omega) (zDu_o (by omega) (h)))
theorem eX0_2_c {Z : zLay} {D : zDm} {a b : Nat} {y : va_E} (w : a ≠ 25) (v : a < 27) (h : eX0_1 Z D a b = some y) : eX0_11 Z D a b = some y := eX0_3_c w (by omega) (zDu_o (by omega) (zDu_o (by omega) (h)))
theorem eX0_1_c {Z : zLay} {D : zDm} {a b : Nat} {y : va_E} (w : a ≠ 25) (v : a < 26) (h : eX0_0 Z D a b = some y) : eX0_11 Z D a b = some y := eX0_2_c w (by omega) (zDu_o (by omega) (zDu_o (by omega) (h)))
theorem pX0_26 {Z : zLay} {D : zDm} : eX0_11 Z D 26 0 = some (.inl (zca Z 0, 4, .inl fun _ => 0)) := eX0_2_c (by decide) (by decide) (zDu_i _ _ _ _)
theorem pX0_27 {Z : zLay} {D : zDm} : eX0_11 Z D 27 0 = some (.inl (zca Z 0, 4, .inl fun _ => 0)) := eX0_3_c (by decide) (by decide) (zDu_i _ _ _ _)
theorem pX0_28 {Z : zLay} {D : zDm} : eX0_11 Z D 28 0 = some (.inl (zca Z 0, 4, .inl fun _ => 0)) := eX0_4_c (by decide) (by decide) (zDu_i _ _ _ _)
theorem pX0_29 {Z : zLay} {D : zDm} : eX0_11 Z D 29 0 = some (.inl (zca Z 0, 4, .inl fun _ => 0)) := eX0_5_c (by decide) (by decide) (zDu_i _ _ _ _)
theorem pX0_30 {Z : zLay} {D : zDm} : eX0_11 Z D 30 0 = some (.inl (zca Z 0, 30, .inl fun _ => 0)) := eX0_6_c (by decide) (by decide) (zDu_i _ _ _ _)
theorem pX0_31 {Z : zLay} {D : zDm} : eX0_11 Z D 31 0 = some (.inl (zca Z 0, 30, .inl fun _ => 0)) := eX0_7_c (by decide) (by decide) (zDu_i _ _ _ _)
theorem pX0_32 {Z : zLay} {D : zDm} : eX0_11 Z D 32 0 = some (.inl (zca Z 0, 5, .inl fun _ => 0)) := eX0_8_c (by decide) (by decide) (zDu_i _ _ _ _)
theorem pX0_34 {Z : zLay} {D : zDm} {b : Nat} (hb : b < 4) : eX0_11 Z D 34 b = some (.inl (zca Z 0, (32, .inl fun _ => 0))) := eX0_9_c (by decide) (by decide) (zDr_i _ hb)
theorem pX0_33 {Z : zLay} {D : zDm} : eX0_11 Z D 33 0 = some (.inl (zca Z 9, 4, .inr (.inr (.inr (.inr (fun i => if i < 4 then some (zad Z 34 i) else none)))))) := eX0_9_c (by decide) (by decide) (zDr_o (by decide) (zDu_i _ _ _ _))
theorem pX0_35 {Z : zLay} {D : zDm} : eX0_11 Z D 35 0 = some (.inl (zca Z 0, 5, .inl fun _ => 0)) := eX0_10_c (by decide) (by decide) (zDu_i _ _ _ _)
theorem pX0_36 {Z : zLay} {D : zDm} : eX0_11 Z D 36 0 = some (.inl (zca Z 0, 4, .inl fun _ => 0)) := eX0_11_c (by decide) (by decide) (zDu_i _ _ _ _)
theorem pX0_37 {Z : zLay} {D : zDm} : eX0_11 Z D 37 0 = some (.inl (zca Z 0, 5, .inl fun _ => 0)) := zDu_i _ _ _ _
theorem qX0_26 {Z : zLay} {D : zDm} : gX0 Z D 26 0 = some (.inl (zca Z 0, 4, .inl fun _ => 0)) := zDu_o (by decide) pX0_26
theorem qX0_27 {Z : zLay} {D : zDm} : gX0 Z D 27 0 = some (.inl (zca Z 0, 4, .inl fun _ => 0)) := zDu_o (by decide) pX0_27
theorem qX0_28 {Z : zLay} {D : zDm} : gX0 Z D 28 0 = some (.inl (zca Z 0, 4, .inl fun _ => 0)) := zDu_o (by decide) pX0_28
theorem qX0_29 {Z : zLay} {D : zDm} : gX0 Z D 29 0 = some (.inl (zca Z 0, 4, .inl fun _ => 0)) := zDu_o (by decide) pX0_29
theorem qX0_30 {Z : zLay} {D : zDm} : gX0 Z D 30 0 = some (.inl (zca Z 0, 30, .inl fun _ => 0)) := zDu_o (by decide) pX0_30
theorem qX0_31 {Z : zLay} {D : zDm} : gX0 Z D 31 0 = some (.inl (zca Z 0, 30, .inl fun _ => 0)) := zDu_o (by decide) pX0_31
theorem qX0_32 {Z : zLay} {D : zDm} : gX0 Z D 32 0 = some (.inl (zca Z 0, 5, .inl fun _ => 0)) := zDu_o (by decide) pX0_32
theorem qX0_34 {Z : zLay} {D : zDm} {b : Nat} (hb : b < 4) : gX0 Z D 34 b = some (.inl (zca Z 0, (32, .inl fun _ => 0))) := zDu_o (by decide) (pX0_34 hb)
theorem qX0_33 {Z : zLay} {D : zDm} : gX0 Z D 33 0 = some (.inl (zca Z 9, 4, .inr (.inr (.inr (.inr (fun i => if i < 4 then some (zad Z 34 i) else none)))))) := zDu_o (by decide) pX0_33
theorem qX0_35 {Z : zLay} {D : zDm} : gX0 Z D 35 0 = some (.inl (zca Z 0, 5, .inl fun _ => 0)) := zDu_o (by decide) pX0_35
theorem qX0_36 {Z : zLay} {D : zDm} : gX0 Z D 36 0 = some (.inl (zca Z 0, 4, .inl fun _ => 0)) := zDu_o (by decide) pX0_36
theorem qX0_37 {Z : zLay} {D : zDm} : gX0 Z D 37 0 = some (.inl (zca Z 0, 5, .inl fun _ => 0)) := zDu_o (by decide) pX0_37
theorem qX0_25 {Z : zLay} {D : zDm} : gX0 Z D 25 0 = some (.inr (0, fX0_11 Z)) := zDu_i _ _ _ _
theorem eX1_2_c {Z : zLay} {D : zDm} {a b : Nat} {y : va_E} (w : a ≠ 43) (v : a < 45) (h : eX1_1 Z D a b = some y) : eX1_2 Z D a b = some y := zDu_o (by omega) (zDu_o (by omega) (h))
theorem eX1_1_c {Z : zLay} {D : zDm} {a b : Nat} {y : va_E} (w : a ≠ 43) (v : a < 44) (h : eX1_0 Z D a b = some y) : eX1_2 Z D a b = some y := eX1_2_c w (by omega) (zDu_o (by omega) (zDu_o (by omega) (h)))
theorem pX1_44 {Z : zLay} {D : zDm} : eX1_2 Z D 44 0 = some (.inl (zca Z 0, 10, .inl fun _ => 0)) := eX1_2_c (by decide) (by decide) (zDu_i _ _ _ _)
theorem pX1_45 {Z : zLay} {D : zDm} : eX1_2 Z D 45 0 = some (.inl (zca Z 0, 10, .inl fun _ => 0)) := zDu_i _ _ _ _
theorem qX1_44 {Z : zLay} {D : zDm} : gX1 Z D 44 0 = some (.inl (zca Z 0, 10, .inl fun _ => 0)) := zDu_o (by decide) pX1_44
theorem qX1_45 {Z : zLay} {D : zDm} : gX1 Z D 45 0 = some (.inl (zca Z 0, 10, .inl fun _ => 0)) := zDu_o (by decide) pX1_45
theorem qX1_43 {Z : zLay} {D : zDm} : gX1 Z D 43 0 = some (.inr (1, fX1_2 Z)) := zDu_i _ _ _ _
theorem eX2_2_c {Z : zLay} {D : zDm} {i : Nat} {a b : Nat} {y : va_E} (w : a ≠ 2) (v : a < 4) (h : eX2_1 Z i D a b = some y) : eX2_2 Z i D a b = some y := zDu_o (by omega) (zDu_o (by omega) (h))
theorem eX2_1_c {Z : zLay} {D : zDm} {i : Nat} {a b : Nat} {y : va_E} (w : a ≠ 2) (v : a < 3) (h : eX2_0 Z i D a b = some y) : eX2_2 Z i D a b = some y := eX2_2_c w (by omega) (zDu_o (by omega) (zDu_o (by omega) (h)))
theorem pX2_3 {Z : zLay} {D : zDm} {i : Nat} : eX2_2 Z i D 3 i = some (.inl (zca Z 0, 4, .inl fun _ => 0)) := eX2_2_c (by decide) (by decide) (zDu_i _ _ _ _)
theorem pX2_4 {Z : zLay} {D : zDm} {i : Nat} : eX2_2 Z i D 4 i = some (.inl (zca Z 0, 4, .inl fun _ => 0)) := zDu_i _ _ _ _
theorem qX2_3 {Z : zLay} {D : zDm} {i : Nat} : gX2 Z i D 3 i = some (.inl (zca Z 0, 4, .inl fun _ => 0)) := zDu_o (by decide) pX2_3
theorem qX2_4 {Z : zLay} {D : zDm} {i : Nat} : gX2 Z i D 4 i = some (.inl (zca Z 0, 4, .inl fun _ => 0)) := zDu_o (by decide) pX2_4
theorem qX2_2 {Z : zLay} {D : zDm} {i : Nat} : gX2 Z i D 2 i = some (.inr (2, fX2_2 Z i)) := zDu_i _ _ _ _
theorem eX2_1_b {Z : zLay} {D : zDm} {i a b : Nat} {y : va_E} (w : b ≠ i) (h : D a b = some y) : eX2_1 Z i D a b = some y := zDu_ob w (zDu_ob w (h))
theorem eX2_2_b {Z : zLay} {D : zDm} {i a b : Nat} {y : va_E} (w : b ≠ i) (h : D a b = some y) : eX2_2 Z i D a b = some y := zDu_ob w (zDu_ob w (eX2_1_b w h))
theorem gX2_b {Z : zLay} {D : zDm} {i a b : Nat} {y : va_E} (w : b ≠ i) (h : D a b = some y) : gX2 Z i D a b = some y := zDu_ob w (eX2_2_b w h)
theorem eX3_5_c {Z : zLay} {D : zDm} {a b : Nat} {y : va_E} (w : a ≠ 5) (v : a < 10) (h : eX3_4 Z D a b = some y) : eX3_5 Z D a b = some y := zDu_o (by omega) (zDu_o (by omega) (h))
theorem eX3_4_c {Z : zLay} {D : zDm} {a b : Nat} {y : va_E} (w : a ≠ 5) (v : a < 9) (h : eX3_3 Z D a b = some y) : eX3_5 Z D a b = some y := eX3_5_c w (by omega) (zDu_o (by omega) (zDu_o (by omega) (h)))
theorem eX3_3_c {Z : zLay} {D : zDm} {a b : Nat} {y : va_E} (w : a ≠ 5) (v : a < 8) (h : eX3_2 Z D a b = some y) : eX3_5 Z D a b = some y := eX3_4_c w (by omega) (zDu_o (by omega) (zDu_o (by omega) (h)))
theorem eX3_2_c {Z : zLay} {D : zDm} {a b : Nat} {y : va_E} (w : a ≠ 5) (v : a < 7) (h : eX3_1 Z D a b = some y) : eX3_5 Z D a b = some y := eX3_3_c w (by omega) (zDu_o (by omega) (zDu_o (by omega) (h)))
theorem eX3_1_c {Z : zLay} {D : zDm} {a b : Nat} {y : va_E} (w : a ≠ 5) (v : a < 6) (h : eX3_0 Z D a b = some y) : eX3_5 Z D a b = some y := eX3_2_c w (by omega) (zDu_o (by omega) (zDu_o (by omega) (h)))
theorem pX3_6 {Z : zLay} {D : zDm} : eX3_5 Z D 6 0 = some (.inl (zca Z 0, 50, .inl fun _ => 0)) := eX3_2_c (by decide) (by decide) (zDu_i _ _ _ _)
theorem pX3_7 {Z : zLay} {D : zDm} : eX3_5 Z D 7 0 = some (.inl (zca Z 0, 50, .inl fun _ => 0)) := eX3_3_c (by decide) (by decide) (zDu_i _ _ _ _)
theorem pX3_8 {Z : zLay} {D : zDm} : eX3_5 Z D 8 0 = some (.inl (zca Z 0, 50, .inl fun _ => 0)) := eX3_4_c (by decide) (by decide) (zDu_i _ _ _ _)
theorem pX3_9 {Z : zLay} {D : zDm} : eX3_5 Z D 9 0 = some (.inl (zca Z 0, 50, .inl fun _ => 0)) := eX3_5_c (by decide) (by decide) (zDu_i _ _ _ _)
theorem pX3_10 {Z : zLay} {D : zDm} : eX3_5 Z D 10 0 = some (.inl (zca Z 0, 50, .inl fun _ => 0)) := zDu_i _ _ _ _
theorem qX3_6 {Z : zLay} {D : zDm} : gX3 Z D 6 0 = some (.inl (zca Z 0, 50, .inl fun _ => 0)) := zDu_o (by decide) pX3_6
theorem qX3_7 {Z : zLay} {D : zDm} : gX3 Z D 7 0 = some (.inl (zca Z 0, 50, .inl fun _ => 0)) := zDu_o (by decide) pX3_7
theorem qX3_8 {Z : zLay} {D : zDm} : gX3 Z D 8 0 = some (.inl (zca Z 0, 50, .inl fun _ => 0)) := zDu_o (by decide) pX3_8
theorem qX3_9 {Z : zLay} {D : zDm} : gX3 Z D 9 0 = some (.inl (zca Z 0, 50, .inl fun _ => 0)) := zDu_o (by decide) pX3_9
theorem qX3_10 {Z : zLay} {D : zDm} : gX3 Z D 10 0 = some (.inl (zca Z 0, 50, .inl fun _ => 0)) := zDu_o (by decide) pX3_10
theorem qX3_5 {Z : zLay} {D : zDm} : gX3 Z D 5 0 = some (.inr (3, fX3_5 Z)) := zDu_i _ _ _ _
theorem eX4_2_c {Z : zLay} {D : zDm} {i : Nat} {a b : Nat} {y : va_E} (w : a ≠ 47) (v : a < 48) (h : eX4_1 Z i D a b = some y) : eX4_2 Z i D a b = some y := zDu_o (by omega) (zDu_o (by omega) (h))
theorem eX4_1_c {Z : zLay} {D : zDm} {i : Nat} {a b : Nat} {y : va_E} (w : a ≠ 47) (v : a < 48) (h : eX4_0 Z i D a b = some y) : eX4_2 Z i D a b = some y := eX4_2_c w (by omega) (zDu_o (by omega) (h))
theorem pX4_48 {Z : zLay} {D : zDm} {i : Nat} : eX4_2 Z i D 48 i = some (.inl (zca Z 1, 60, .inr (.inl fun _ => 0))) := zDu_i _ _ _ _
theorem qX4_48 {Z : zLay} {D : zDm} {i : Nat} : gX4 Z i D 48 i = some (.inl (zca Z 1, 60, .inr (.inl fun _ => 0))) := zDu_o (by decide) pX4_48
theorem qX4_47 {Z : zLay} {D : zDm} {i : Nat} : gX4 Z i D 47 i = some (.inr (4, fX4_2 Z i)) := zDu_i _ _ _ _
theorem eX4_1_b {Z : zLay} {D : zDm} {i a b : Nat} {y : va_E} (w : b ≠ i) (h : D a b = some y) : eX4_1 Z i D a b = some y := zDu_ob w (h)
theorem eX4_2_b {Z : zLay} {D : zDm} {i a b : Nat} {y : va_E} (w : b ≠ i) (h : D a b = some y) : eX4_2 Z i D a b = some y := zDu_ob w (zDu_ob w (eX4_1_b w h))
theorem gX4_b {Z : zLay} {D : zDm} {i a b : Nat} {y : va_E} (w : b ≠ i) (h : D a b = some y) : gX4 Z i D a b = some y := zDu_ob w (eX4_2_b w h)
theorem eX5_2_c {Z : zLay} {D : zDm} {a b : Nat} {y : va_E} (w : a ≠ 20) (v : a < 23) (h : eX5_1 Z D a b = some y) : eX5_2 Z D a b = some y := zDr_o (by omega) (zDu_o (by omega) (zDu_o (by omega) (h)))
theorem eX5_1_c {Z : zLay} {D : zDm} {a b : Nat} {y : va_E} (w : a ≠ 20) (v : a < 21) (h : eX5_0 Z D a b = some y) : eX5_2 Z D a b = some y := eX5_2_c w (by omega) (zDr_o (by omega) (zDu_o (by omega) (zDu_o (by omega) (h))))
theorem pX5_22 {Z : zLay} {D : zDm} {b : Nat} (hb : b < 2) : eX5_2 Z D 22 b = some (.inl (zca Z 3, (7200, .inl fun _ => 0))) := eX5_2_c (by decide) (by decide) (zDr_i _ hb)
theorem pX5_21 {Z : zLay} {D : zDm} : eX5_2 Z D 21 0 = some (.inl (zca Z 10, 2, .inr (.inr (.inr (.inr (fun i => if i < 2 then some (zad Z 22 i) else none)))))) := eX5_2_c (by decide) (by decide) (zDr_o (by decide) (zDu_i _ _ _ _))
theorem pX5_24 {Z : zLay} {D : zDm} {b : Nat} (hb : b < 2) : eX5_2 Z D 24 b = some (.inl (zca Z 0, (120, .inl fun _ => 0))) := zDr_i _ hb
theorem pX5_23 {Z : zLay} {D : zDm} : eX5_2 Z D 23 0 = some (.inl (zca Z 9, 2, .inr (.inr (.inr (.inr (fun i => if i < 2 then some (zad Z 24 i) else none)))))) := zDr_o (by decide) (zDu_i _ _ _ _)
theorem qX5_22 {Z : zLay} {D : zDm} {b : Nat} (hb : b < 2) : gX5 Z D 22 b = some (.inl (zca Z 3, (7200, .inl fun _ => 0))) := zDu_o (by decide) (pX5_22 hb)
theorem qX5_21 {Z : zLay} {D : zDm} : gX5 Z D 21 0 = some (.inl (zca Z 10, 2, .inr (.inr (.inr (.inr (fun i => if i < 2 then some (zad Z 22 i) else none)))))) := zDu_o (by decide) pX5_21
theorem qX5_24 {Z : zLay} {D : zDm} {b : Nat} (hb : b < 2) : gX5 Z D 24 b = some (.inl (zca Z 0, (120, .inl fun _ => 0))) := zDu_o (by decide) (pX5_24 hb)
theorem qX5_23 {Z : zLay} {D : zDm} : gX5 Z D 23 0 = some (.inl (zca Z 9, 2, .inr (.inr (.inr (.inr (fun i => if i < 2 then some (zad Z 24 i) else none)))))) := zDu_o (by decide) pX5_23
theorem qX5_20 {Z : zLay} {D : zDm} : gX5 Z D 20 0 = some (.inr (5, fX5_2 Z)) := zDu_i _ _ _ _
theorem eX6_2_c {Z : zLay} {D : zDm} {i : Nat} {a b : Nat} {y : va_E} (w : a ≠ 40) (v : a < 42) (h : eX6_1 Z i D a b = some y) : eX6_2 Z i D a b = some y := zDu_o (by omega) (zDu_o (by omega) (h))
theorem eX6_1_c {Z : zLay} {D : zDm} {i : Nat} {a b : Nat} {y : va_E} (w : a ≠ 40) (v : a < 41) (h : eX6_0 Z i D a b = some y) : eX6_2 Z i D a b = some y := eX6_2_c w (by omega) (zDu_o (by omega) (zDu_o (by omega) (h)))
theorem pX6_41 {Z : zLay} {D : zDm} {i : Nat} : eX6_2 Z i D 41 i = some (.inl (zca Z 0, 7, .inl fun _ => 0)) := eX6_2_c (by decide) (by decide) (zDu_i _ _ _ _)
theorem pX6_42 {Z : zLay} {D : zDm} {i : Nat} : eX6_2 Z i D 42 i = some (.inl (zca Z 4, 7, .inl fun _ => 0)) := zDu_i _ _ _ _
theorem qX6_41 {Z : zLay} {D : zDm} {i : Nat} : gX6 Z i D 41 i = some (.inl (zca Z 0, 7, .inl fun _ => 0)) := zDu_o (by decide) pX6_41
theorem qX6_42 {Z : zLay} {D : zDm} {i : Nat} : gX6 Z i D 42 i = some (.inl (zca Z 4, 7, .inl fun _ => 0)) := zDu_o (by decide) pX6_42
theorem qX6_40 {Z : zLay} {D : zDm} {i : Nat} : gX6 Z i D 40 i = some (.inr (6, fX6_2 Z i)) := zDu_i _ _ _ _
theorem eX6_1_b {Z : zLay} {D : zDm} {i a b : Nat} {y : va_E} (w : b ≠ i) (h : D a b = some y) : eX6_1 Z i D a b = some y := zDu_ob w (zDu_ob w (h))
theorem eX6_2_b {Z : zLay} {D : zDm} {i a b : Nat} {y : va_E} (w : b ≠ i) (h : D a b = some y) : eX6_2 Z i D a b = some y := zDu_ob w (zDu_ob w (eX6_1_b w h))
theorem gX6_b {Z : zLay} {D : zDm} {i a b : Nat} {y : va_E} (w : b ≠ i) (h : D a b = some y) : gX6 Z i D a b = some y := zDu_ob w (eX6_2_b w h)
theorem eX8_5_c {Z : zLay} {D : zDm} {i : Nat} {a b : Nat} {y : va_E} (w : a ≠ 13) (v : a < 18) (h : eX8_4 Z i D a b = some y) : eX8_5 Z i D a b = some y := zDu_o (by omega) (zDu_o (by omega) (h))
theorem eX8_4_c {Z : zLay} {D : zDm} {i : Nat} {a b : Nat} {y : va_E} (w : a ≠ 13) (v : a < 17) (h : eX8_3 Z i D a b = some y) : eX8_5 Z i D a b = some y := eX8_5_c w (by omega) (zDu_o (by omega) (zDu_o (by omega) (h)))
theorem eX8_3_c {Z : zLay} {D : zDm} {i : Nat} {a b : Nat} {y : va_E} (w : a ≠ 13) (v : a < 16) (h : eX8_2 Z i D a b = some y) : eX8_5 Z i D a b = some y := eX8_4_c w (by omega) (zDu_o (by omega) (zDu_o (by omega) (h)))
theorem eX8_2_c {Z : zLay} {D : zDm} {i : Nat} {a b : Nat} {y : va_E} (w : a ≠ 13) (v : a < 15) (h : eX8_1 Z i D a b = some y) : eX8_5 Z i D a b = some y := eX8_3_c w (by omega) (zDu_o (by omega) (zDu_o (by omega) (h)))
theorem eX8_1_c {Z : zLay} {D : zDm} {i : Nat} {a b : Nat} {y : va_E} (w : a ≠ 13) (v : a < 14) (h : eX8_0 Z i D a b = some y) : eX8_5 Z i D a b = some y := eX8_2_c w (by omega) (zDu_o (by omega) (zDu_o (by omega) (h)))
theorem pX8_14 {Z : zLay} {D : zDm} {i : Nat} : eX8_5 Z i D 14 i = some (.inl (zca Z 0, 4, .inl fun _ => 0)) := eX8_2_c (by decide) (by decide) (zDu_i _ _ _ _)
theorem pX8_15 {Z : zLay} {D : zDm} {i : Nat} : eX8_5 Z i D 15 i = some (.inl (zca Z 0, 4, .inl fun _ => 0)) := eX8_3_c (by decide) (by decide) (zDu_i _ _ _ _)
theorem pX8_16 {Z : zLay} {D : zDm} {i : Nat} : eX8_5 Z i D 16 i = some (.inl (zca Z 0, 4, .inl fun _ => 0)) := eX8_4_c (by decide) (by decide) (zDu_i _ _ _ _)
theorem pX8_17 {Z : zLay} {D : zDm} {i : Nat} : eX8_5 Z i D 17 i = some (.inl (zca Z 4, 4, .inl fun _ => 0)) := eX8_5_c (by decide) (by decide) (zDu_i _ _ _ _)
theorem pX8_18 {Z : zLay} {D : zDm} {i : Nat} : eX8_5 Z i D 18 i = some (.inl (zca Z 4, 4, .inl fun _ => 0)) := zDu_i _ _ _ _
theorem qX8_14 {Z : zLay} {D : zDm} {i : Nat} : gX8 Z i D 14 i = some (.inl (zca Z 0, 4, .inl fun _ => 0)) := zDu_o (by decide) pX8_14
theorem qX8_15 {Z : zLay} {D : zDm} {i : Nat} : gX8 Z i D 15 i = some (.inl (zca Z 0, 4, .inl fun _ => 0)) := zDu_o (by decide) pX8_15
theorem qX8_16 {Z : zLay} {D : zDm} {i : Nat} : gX8 Z i D 16 i = some (.inl (zca Z 0, 4, .inl fun _ => 0)) := zDu_o (by decide) pX8_16
theorem qX8_17 {Z : zLay} {D : zDm} {i : Nat} : gX8 Z i D 17 i = some (.inl (zca Z 4, 4, .inl fun _ => 0)) := zDu_o (by decide) pX8_17
theorem qX8_18 {Z : zLay} {D : zDm} {i : Nat} : gX8 Z i D 18 i = some (.inl (zca Z 4, 4, .inl fun _ => 0)) := zDu_o (by decide) pX8_18
theorem qX8_13 {Z : zLay} {D : zDm} {i : Nat} : gX8 Z i D 13 i = some (.inr (8, fX8_5 Z i)) := zDu_i _ _ _ _
theorem eX8_1_b {Z : zLay} {D : zDm} {i a b : Nat} {y : va_E} (w : b ≠ i) (h : D a b = some y) : eX8_1 Z i D a b = some y := zDu_ob w (zDu_ob w (h))
theorem eX8_2_b {Z : zLay} {D : zDm} {i a b : Nat} {y : va_E} (w : b ≠ i) (h : D a b = some y) : eX8_2 Z i D a b = some y := zDu_ob w (zDu_ob w (eX8_1_b w h))
theorem eX8_3_b {Z : zLay} {D : zDm} {i a b : Nat} {y : va_E} (w : b ≠ i) (h : D a b = some y) : eX8_3 Z i D a b = some y := zDu_ob w (zDu_ob w (eX8_2_b w h))
theorem eX8_4_b {Z : zLay} {D : zDm} {i a b : Nat} {y : va_E} (w : b ≠ i) (h : D a b = some y) : eX8_4 Z i D a b = some y := zDu_ob w (zDu_ob w (eX8_3_b w h))
theorem eX8_5_b {Z : zLay} {D : zDm} {i a b : Nat} {y : va_E} (w : b ≠ i) (h : D a b = some y) : eX8_5 Z i D a b = some y := zDu_ob w (zDu_ob w (eX8_4_b w h))
theorem gX8_b {Z : zLay} {D : zDm} {i a b : Nat} {y : va_E} (w : b ≠ i) (h : D a b = some y) : gX8 Z i D a b = some y := zDu_ob w (eX8_5_b w h)
theorem wq_221 : Cond.methodLink "AlpCommune$Way" (3 : Nat) ({ cls := "java/lang/Object", name := "<init>", desc := "()V" } : MethodName) ∈ zTB := zTB_mem 347 (by decide +kernel) (by decide +kernel)
theorem wq_253 : Cond.fieldLink "AlpCommune$Way" (11 : Nat) "AlpCommune$Way" "slopes" "[LAlpCommune$Slope;" ∈ zTB := zTB_mem 379 (by decide +kernel) (by decide +kernel)
theorem wq_222 : Cond.classLink "AlpCommune$Way" (9 : Nat) "AlpCommune$Slope" ∈ zTB := zTB_mem 348 (by decide +kernel) (by decide +kernel)
section YX7
variable {E : zEn} {nL h n0 c0 mc ms : Nat} {Z : zLay} {D : zDm} {Q : State → Prop}
def fX7_0 : List Value := [.null, .int 0, .int 0, .int 0, .int 0, .int 0, .int 0]
theorem nfX7 : ∀ j, j < 7 → defaultValue (tyX7 j) = vp_V fX7_0 j := by decide +kernel
def eX7_0 (Z : zLay) (D : zDm) : zDm := D
theorem sX7_0 (C : zCN E cX7_init RX7 2 Z h n0 c0 19 126) (hh : 2 ≤ h) (hc : c0 = 275) (kk : zNN E 2 Z n0 Q 4 [(0, .ref (zad Z 38 0))] [] (zDu (eX7_0 Z D) 38 0 (.inr (7, fX7_0))) 0 0) : zNN E 2 Z n0 Q 0 [(0, .ref (zad Z 38 0))] [] (zDu (eX7_0 Z D) 38 0 (.inr (7, fX7_0))) 0 0 := by
  subst hc
  refine zn_aload_n C dX7_init_0 rfl ?_
  refine zn_obj C wq_221 wq_26 wq_27 dX7_init_1 (by omega) (Nat.le_of_ble_eq_true rfl) ?_
  exact kk
def fX7_1 (Z : zLay) : List Value := [.ref (zad Z 39 0), .int 0, .int 0, .int 0, .int 0, .int 0, .int 0]
def eX7_1 (Z : zLay) (D : zDm) : zDm := (zDu (zDu (eX7_0 Z D) 38 0 (.inr (7, fX7_0))) 39 0 (.inl (zca Z 7, 6, .inr (.inr (.inr (.inr (fun _ => none)))))))
theorem sX7_4 (C : zCN E cX7_init RX7 2 Z h n0 c0 19 126) (hh : 2 ≤ h) (hc : c0 = 275) (kk : zNN E 2 Z n0 Q 13 [(0, .ref (zad Z 38 0))] [] (zDu (eX7_1 Z D) 38 0 (.inr (7, fX7_1 Z))) 1 6) : zNN E 2 Z n0 Q 4 [(0, .ref (zad Z 38 0))] [] (zDu (eX7_0 Z D) 38 0 (.inr (7, fX7_0))) 0 0 := by
  subst hc
  refine zn_aload_n C dX7_init_4 rfl ?_
  refine zn_bipush C dX7_init_5 (v := 6) (by decide) ?_
  refine zn_anew C (Cn := RX6) (k := 39) (i := 0) (t0 := 7) (N := 6) wq_222 (by unfold zOvL; simp [RX6]) rfl dX7_init_7 (by decide) (by decide) (by decide) (by decide) rfl (by omega) (by omega) ?_
  refine zn_putF C (by decide +kernel) 0 zin_X7 rfl (Nat.le_of_ble_eq_true rfl) rfl rfl tyX7_ok nmX7 rfl (ty := tyX7 0) (by decide +kernel) wq_253 dX7_init_10 (zDu_o (by decide) (zDu_i _ _ _ _)) (Nat.le_of_ble_eq_true rfl) rfl rfl ?_
  exact kk
end YX7
theorem eX7_0_o {Z : zLay} {D : zDm} {a b : Nat} {y : va_E} (h : D a b = some y) : eX7_0 Z D a b = some y := h
theorem eX7_1_o {Z : zLay} {D : zDm} {a b : Nat} {y : va_E} (w : a < 38 ∨ 42 < a) (h : D a b = some y) : eX7_1 Z D a b = some y := zDu_o (by omega) (zDu_o (by omega) (eX7_0_o h))
theorem eX7_1_c {Z : zLay} {D : zDm} {a b : Nat} {y : va_E} (w : a ≠ 38) (v : a < 39) (h : eX7_0 Z D a b = some y) : eX7_1 Z D a b = some y := zDu_o (by omega) (zDu_o (by omega) (h))
theorem pX7_39 {Z : zLay} {D : zDm} : eX7_1 Z D 39 0 = some (.inl (zca Z 7, 6, .inr (.inr (.inr (.inr (fun _ => none)))))) := zDu_i _ _ _ _
def wX7_39 (Z : zLay) (D : zDm) : Nat → zDm
  | 0 => D
  | n + 1 => zDu (gX6 Z n (wX7_39 Z D n)) 39 0 (.inl (zca Z 7, 6, .inr (.inr (.inr (.inr (zfill Z 40 (n + 1)))))))
theorem wX7_39_o {Z : zLay} {D : zDm} {a b : Nat} {y : va_E} (v : a ≠ 39) (u : a < 40 ∨ 42 < a) (h : D a b = some y) (n : Nat) : wX7_39 Z D n a b = some y := by
  induction n with
  | zero => exact h
  | succ n ih => exact zDu_o v (gX6_o u ih)
theorem wX7_39_A {Z : zLay} {D : zDm} (h : D 39 0 = some (.inl (zca Z 7, 6, .inr (.inr (.inr (.inr (fun _ => none))))))) (n : Nat) : wX7_39 Z D n 39 0 = some (.inl (zca Z 7, 6, .inr (.inr (.inr (.inr (zfill Z 40 n)))))) := by
  cases n with
  | zero => exact h
  | succ n => exact zDu_i _ _ _ _
theorem wX7_39_41 {Z : zLay} {D : zDm} (n : Nat) : ∀ j, j < n → wX7_39 Z D n 41 j = some (.inl (zca Z 0, 7, .inl fun _ => 0)) := by
  induction n with
  | zero => exact fun j h => absurd h (Nat.not_lt_zero _)
  | succ n ih =>
    intro j h
    by_cases q : j = n
    · subst q
      exact zDu_o (by decide) qX6_41
    · exact zDu_o (by decide) (gX6_b q (ih j (by omega)))
theorem wX7_39_42 {Z : zLay} {D : zDm} (n : Nat) : ∀ j, j < n → wX7_39 Z D n 42 j = some (.inl (zca Z 4, 7, .inl fun _ => 0)) := by
  induction n with
  | zero => exact fun j h => absurd h (Nat.not_lt_zero _)
  | succ n ih =>
    intro j h
    by_cases q : j = n
    · subst q
      exact zDu_o (by decide) qX6_42
    · exact zDu_o (by decide) (gX6_b q (ih j (by omega)))
theorem wX7_39_40 {Z : zLay} {D : zDm} (n : Nat) : ∀ j, j < n → wX7_39 Z D n 40 j = some (.inr (6, fX6_2 Z j)) := by
  induction n with
  | zero => exact fun j h => absurd h (Nat.not_lt_zero _)
  | succ n ih =>
    intro j h
    by_cases q : j = n
    · subst q
      exact zDu_o (by decide) qX6_40
    · exact zDu_o (by decide) (gX6_b q (ih j (by omega)))
theorem wq_n225 : Cond.methodLinkNest RX7 17 yX6_init "AlpCommune" ∈ zNest := zNest_mem 225 (by decide +kernel) (by decide +kernel)
theorem wq_224 : Cond.instantiable "AlpCommune$Slope" (6 : Nat) ∈ zTB := zTB_mem 350 (by decide +kernel) (by decide +kernel)
theorem wq_8 : Cond.initialized "AlpCommune$Slope" ∈ zTB := zTB_mem 134 (by decide +kernel) (by decide +kernel)
theorem wq_226 : Cond.instanceMethod ({ cls := "AlpCommune$Slope", name := "<init>", desc := "()V" } : MethodName) ∈ zTB := zTB_mem 352 (by decide +kernel) (by decide +kernel)
theorem wq_227 : Cond.code yX6_init cX6_init 1 none ∈ zTB := zTB_mem 353 (by decide +kernel) (by decide +kernel)
theorem sX7_h39 {E : zEn} {h n0 : Nat} {Z : zLay} {D : zDm} {Q : State → Prop} (C : zCN E cX7_init RX7 2 Z h n0 275 19 126) (hh : 2 ≤ h) (hD : D 38 0 = some (.inr (7, fX7_1 Z))) (hA : D 39 0 = some (.inl (zca Z 7, 6, .inr (.inr (.inr (.inr (fun _ => none))))))) (kk : zNN E 2 Z n0 Q 40 [(1, .int (nI 6)), (0, .ref (zad Z 38 0))] [] (wX7_39 Z D 6) 19 126) : ∀ m n cn bn, n + m = 6 → cn = 1 + 3 * n → bn = 6 + 20 * n → zNN E 2 Z n0 Q 15 [(1, .int (nI n)), (0, .ref (zad Z 38 0))] [] (wX7_39 Z D n) cn bn := by
  intro m
  induction m with
  | zero =>
    intro n cn bn e1 e2 e3
    obtain rfl : n = 6 := e1
    subst e2 e3
    refine zn_iload_n C dX7_init_15 rfl ?_
    refine zn_bipush C dX7_init_16 (v := 6) (by decide) ?_
    refine zn_icmp C dX7_init_18 (tgt := 40) (by decide) (fun _ => kk) (fun q => absurd (by decide +kernel) q)
  | succ m ih =>
    intro n cn bn e1 e2 e3
    have hn : n < 6 := by omega
    obtain ⟨n1, n2, n3⟩ := nI41_c n (by omega)
    refine zn_iload_n C dX7_init_15 rfl ?_
    refine zn_bipush C dX7_init_16 (v := 6) (by decide) ?_
    refine zn_icmp C dX7_init_18 (tgt := 40) (by decide) (fun q => absurd q ((by decide +kernel : ∀ n, n < 6 → ¬ (6 : Int32) ≤ nI n) n hn)) (fun _ => ?_)
    refine zn_aload_n C dX7_init_21 rfl ?_
    refine zn_get C 0 zin_X7 rfl (Nat.le_of_ble_eq_true rfl) rfl wq_253 dX7_init_22 (wX7_39_o (by decide) (by decide) hD n) (v := .ref (zad Z 39 0)) rfl ?_
    refine zn_iload_n C dX7_init_25 rfl ?_
    refine zn_new C (Cn := RX6) (T := TX6) (N := 6) (ci := 6) (fs := fX6_0) (k := 40) (i := n) zin_X6 tyX6_ok rfl nfX6 wq_222 wq_224 wq_8 dX7_init_26 hn (by show 276 + 3 * n = 275 + cn; omega) (by omega) (by omega) ?_
    refine zn_dup C dX7_init_29 rfl ?_
    refine zn_callN C (mX6 (D := wX7_39 Z D n) (i := n) hn (by omega)) rfl wq_n225 wq_226 wq_227 wq_8 (by decide +kernel) (by decide) (by omega) (by omega) (by omega) dX7_init_30 (Nat.le_of_ble_eq_true rfl) ?_
    refine zn_aast C (k := 39) (i := 0) (k1 := 40) (i1 := n) (N := 6) (t0 := 7) (ci := 6) (f := zfill Z 40 n) (gX6_o (by decide) (wX7_39_A hA n)) rfl qX6_40 rfl n2 (by rw [n3]; exact hn) dX7_init_33 ?_
    rw [n3]
    refine zn_iinc C (kk := 0) dX7_init_34 rfl n1 (by decide) rfl ?_
    refine zn_goto C dX7_init_37 (tgt := 15) (by decide) ?_
    exact ih (n + 1) _ _ (by omega) (by omega) (by omega)
def gX7 (Z : zLay) (D : zDm) : zDm := (wX7_39 Z (zDu (eX7_1 Z D) 38 0 (.inr (7, fX7_1 Z))) 6)
theorem gX7_o {Z : zLay} {D : zDm} {a b : Nat} {y : va_E} (w : a < 38 ∨ 42 < a) (h : D a b = some y) : gX7 Z D a b = some y := wX7_39_o (by omega) (by omega) (zDu_o (by omega) (eX7_1_o w h)) _
theorem mX7 {l : Launch} {Z : zLay} {D : zDm} {n0 c0 : Nat} (hc : c0 = 275) : zMetN l yX7_init cX7_init 2 2 Z n0 c0 19 126 [.ref (zad Z 38 0)] (zDu D 38 0 (.inr (7, fX7_0))) (gX7 Z D) := by
  subst hc
  exact zMetN_of (by decide +kernel) rfl (Nat.le_of_ble_eq_true rfl) [(0, .ref (zad Z 38 0))] rfl fun E h1 h2 C => sX7_0 C (Nat.le_refl _) rfl (sX7_4 C (Nat.le_refl _) rfl (zn_iconst C dX7_init_13 (v := nI 0) (by decide +kernel) (zn_istore_n C dX7_init_14 (i := 1) rfl (by decide) rfl (sX7_h39 C (Nat.le_refl _) (zDu_i _ _ _ _) (zDu_o (by decide) pX7_39) (zn_ret C (by decide +kernel) h1 h2 rfl (Nat.le_refl _) dX7_init_40) 6 0 _ _ rfl rfl rfl))))
theorem qX7_38 {Z : zLay} {D : zDm} : gX7 Z D 38 0 = some (.inr (7, fX7_1 Z)) := wX7_39_o (by decide) (by decide) (zDu_i _ _ _ _) _
theorem qX7_39 {Z : zLay} {D : zDm} : gX7 Z D 39 0 = some (.inl (zca Z 7, 6, .inr (.inr (.inr (.inr (zfill Z 40 6)))))) := wX7_39_A (zDu_o (by decide) pX7_39) 6
theorem qX7_41 {Z : zLay} {D : zDm} {b : Nat} (hb : b < 6) : gX7 Z D 41 b = some (.inl (zca Z 0, 7, .inl fun _ => 0)) := wX7_39_41 6 b hb
theorem qX7_42 {Z : zLay} {D : zDm} {b : Nat} (hb : b < 6) : gX7 Z D 42 b = some (.inl (zca Z 4, 7, .inl fun _ => 0)) := wX7_39_42 6 b hb
theorem qX7_40 {Z : zLay} {D : zDm} {b : Nat} (hb : b < 6) : gX7 Z D 40 b = some (.inr (6, fX6_2 Z b)) := wX7_39_40 6 b hb
theorem wq_67 : Cond.methodLink "AlpCommune$Words" (3 : Nat) ({ cls := "java/lang/Object", name := "<init>", desc := "()V" } : MethodName) ∈ zTB := zTB_mem 193 (by decide +kernel) (by decide +kernel)
theorem wq_125 : Cond.fieldLink "AlpCommune$Words" (11 : Nat) "AlpCommune$Words" "rows" "[LAlpCommune$Word;" ∈ zTB := zTB_mem 251 (by decide +kernel) (by decide +kernel)
theorem wq_68 : Cond.classLink "AlpCommune$Words" (9 : Nat) "AlpCommune$Word" ∈ zTB := zTB_mem 194 (by decide +kernel) (by decide +kernel)
theorem wq_129 : Cond.fieldLink "AlpCommune$Words" (17 : Nat) "AlpCommune$Words" "tape" "[B" ∈ zTB := zTB_mem 255 (by decide +kernel) (by decide +kernel)
theorem wq_123 : Cond.arrayClass ClassFile.FieldType.byte ∈ zTB := zTB_mem 249 (by decide +kernel) (by decide +kernel)
section YX9
variable {E : zEn} {nL h n0 c0 mc ms : Nat} {Z : zLay} {D : zDm} {Q : State → Prop}
def fX9_0 : List Value := [.null, .int 0, .null, .int 0, .int 0]
theorem nfX9 : ∀ j, j < 5 → defaultValue (tyX9 j) = vp_V fX9_0 j := by decide +kernel
def eX9_0 (Z : zLay) (D : zDm) : zDm := D
theorem sX9_0 (C : zCN E cX9_init RX9 2 Z h n0 c0 242 1420) (hh : 2 ≤ h) (hc : c0 = 9) (kk : zNN E 2 Z n0 Q 4 [(0, .ref (zad Z 11 0))] [] (zDu (eX9_0 Z D) 11 0 (.inr (9, fX9_0))) 0 0) : zNN E 2 Z n0 Q 0 [(0, .ref (zad Z 11 0))] [] (zDu (eX9_0 Z D) 11 0 (.inr (9, fX9_0))) 0 0 := by
  subst hc
  refine zn_aload_n C dX9_init_0 rfl ?_
  refine zn_obj C wq_67 wq_26 wq_27 dX9_init_1 (by omega) (Nat.le_of_ble_eq_true rfl) ?_
  exact kk
def fX9_1 (Z : zLay) : List Value := [.ref (zad Z 12 0), .int 0, .null, .int 0, .int 0]
def eX9_1 (Z : zLay) (D : zDm) : zDm := (zDu (zDu (eX9_0 Z D) 11 0 (.inr (9, fX9_0))) 12 0 (.inl (zca Z 6, 40, .inr (.inr (.inr (.inr (fun _ => none)))))))
theorem sX9_4 (C : zCN E cX9_init RX9 2 Z h n0 c0 242 1420) (hh : 2 ≤ h) (hc : c0 = 9) (kk : zNN E 2 Z n0 Q 13 [(0, .ref (zad Z 11 0))] [] (zDu (eX9_1 Z D) 11 0 (.inr (9, fX9_1 Z))) 1 40) : zNN E 2 Z n0 Q 4 [(0, .ref (zad Z 11 0))] [] (zDu (eX9_0 Z D) 11 0 (.inr (9, fX9_0))) 0 0 := by
  subst hc
  refine zn_aload_n C dX9_init_4 rfl ?_
  refine zn_bipush C dX9_init_5 (v := 40) (by decide) ?_
  refine zn_anew C (Cn := RX8) (k := 12) (i := 0) (t0 := 6) (N := 40) wq_68 (by unfold zOvL; simp [RX8]) rfl dX9_init_7 (by decide) (by decide) (by decide) (by decide) rfl (by omega) (by omega) ?_
  refine zn_putF C (by decide +kernel) 0 zin_X9 rfl (Nat.le_of_ble_eq_true rfl) rfl rfl tyX9_ok nmX9 rfl (ty := tyX9 0) (by decide +kernel) wq_125 dX9_init_10 (zDu_o (by decide) (zDu_i _ _ _ _)) (Nat.le_of_ble_eq_true rfl) rfl rfl ?_
  exact kk
def fX9_2 (Z : zLay) : List Value := [.ref (zad Z 12 0), .int 0, .ref (zad Z 19 0), .int 0, .int 0]
def eX9_2 (Z : zLay) (D : zDm) : zDm := (zDu (zDu (eX9_1 Z D) 11 0 (.inr (9, fX9_1 Z))) 19 0 (.inl (zca Z 2, 100, .inl fun _ => 0)))
theorem sX9_13 (C : zCN E cX9_init RX9 2 Z h n0 c0 242 1420) (hh : 2 ≤ h) (hc : c0 = 9) (kk : zNN E 2 Z n0 Q 21 [(0, .ref (zad Z 11 0))] [] (zDu (eX9_2 Z D) 11 0 (.inr (9, fX9_2 Z))) 2 140) : zNN E 2 Z n0 Q 13 [(0, .ref (zad Z 11 0))] [] (zDu (eX9_1 Z D) 11 0 (.inr (9, fX9_1 Z))) 1 40 := by
  subst hc
  refine zn_aload_n C dX9_init_13 rfl ?_
  refine zn_bipush C dX9_init_14 (v := 100) (by decide) ?_
  refine zn_newa C (atype := .byte) (k := 19) (i := 0) (t0 := 2) (N := 100) (a0 := (100, .inl fun _ => 0)) wq_123 rfl dX9_init_16 (by decide) (by decide) (by decide) (fun _ => rfl) (by decide) rfl (by omega) (by omega) ?_
  refine zn_putF C (by decide +kernel) 2 zin_X9 rfl (Nat.le_of_ble_eq_true rfl) rfl rfl tyX9_ok nmX9 rfl (ty := tyX9 2) (by decide +kernel) wq_129 dX9_init_18 (zDu_o (by decide) (zDu_i _ _ _ _)) (Nat.le_of_ble_eq_true rfl) rfl rfl ?_
  exact kk
end YX9
theorem eX9_0_o {Z : zLay} {D : zDm} {a b : Nat} {y : va_E} (h : D a b = some y) : eX9_0 Z D a b = some y := h
theorem eX9_1_o {Z : zLay} {D : zDm} {a b : Nat} {y : va_E} (w : a < 11 ∨ 19 < a) (h : D a b = some y) : eX9_1 Z D a b = some y := zDu_o (by omega) (zDu_o (by omega) (eX9_0_o h))
theorem eX9_2_o {Z : zLay} {D : zDm} {a b : Nat} {y : va_E} (w : a < 11 ∨ 19 < a) (h : D a b = some y) : eX9_2 Z D a b = some y := zDu_o (by omega) (zDu_o (by omega) (eX9_1_o w h))
theorem eX9_2_c {Z : zLay} {D : zDm} {a b : Nat} {y : va_E} (w : a ≠ 11) (v : a < 19) (h : eX9_1 Z D a b = some y) : eX9_2 Z D a b = some y := zDu_o (by omega) (zDu_o (by omega) (h))
theorem eX9_1_c {Z : zLay} {D : zDm} {a b : Nat} {y : va_E} (w : a ≠ 11) (v : a < 12) (h : eX9_0 Z D a b = some y) : eX9_2 Z D a b = some y := eX9_2_c w (by omega) (zDu_o (by omega) (zDu_o (by omega) (h)))
theorem pX9_12 {Z : zLay} {D : zDm} : eX9_2 Z D 12 0 = some (.inl (zca Z 6, 40, .inr (.inr (.inr (.inr (fun _ => none)))))) := eX9_2_c (by decide) (by decide) (zDu_i _ _ _ _)
theorem pX9_19 {Z : zLay} {D : zDm} : eX9_2 Z D 19 0 = some (.inl (zca Z 2, 100, .inl fun _ => 0)) := zDu_i _ _ _ _
def wX9_12 (Z : zLay) (D : zDm) : Nat → zDm
  | 0 => D
  | n + 1 => zDu (gX8 Z n (wX9_12 Z D n)) 12 0 (.inl (zca Z 6, 40, .inr (.inr (.inr (.inr (zfill Z 13 (n + 1)))))))
theorem wX9_12_o {Z : zLay} {D : zDm} {a b : Nat} {y : va_E} (v : a ≠ 12) (u : a < 13 ∨ 18 < a) (h : D a b = some y) (n : Nat) : wX9_12 Z D n a b = some y := by
  induction n with
  | zero => exact h
  | succ n ih => exact zDu_o v (gX8_o u ih)
theorem wX9_12_A {Z : zLay} {D : zDm} (h : D 12 0 = some (.inl (zca Z 6, 40, .inr (.inr (.inr (.inr (fun _ => none))))))) (n : Nat) : wX9_12 Z D n 12 0 = some (.inl (zca Z 6, 40, .inr (.inr (.inr (.inr (zfill Z 13 n)))))) := by
  cases n with
  | zero => exact h
  | succ n => exact zDu_i _ _ _ _
theorem wX9_12_14 {Z : zLay} {D : zDm} (n : Nat) : ∀ j, j < n → wX9_12 Z D n 14 j = some (.inl (zca Z 0, 4, .inl fun _ => 0)) := by
  induction n with
  | zero => exact fun j h => absurd h (Nat.not_lt_zero _)
  | succ n ih =>
    intro j h
    by_cases q : j = n
    · subst q
      exact zDu_o (by decide) qX8_14
    · exact zDu_o (by decide) (gX8_b q (ih j (by omega)))
theorem wX9_12_15 {Z : zLay} {D : zDm} (n : Nat) : ∀ j, j < n → wX9_12 Z D n 15 j = some (.inl (zca Z 0, 4, .inl fun _ => 0)) := by
  induction n with
  | zero => exact fun j h => absurd h (Nat.not_lt_zero _)
  | succ n ih =>
    intro j h
    by_cases q : j = n
    · subst q
      exact zDu_o (by decide) qX8_15
    · exact zDu_o (by decide) (gX8_b q (ih j (by omega)))
theorem wX9_12_16 {Z : zLay} {D : zDm} (n : Nat) : ∀ j, j < n → wX9_12 Z D n 16 j = some (.inl (zca Z 0, 4, .inl fun _ => 0)) := by
  induction n with
  | zero => exact fun j h => absurd h (Nat.not_lt_zero _)
  | succ n ih =>
    intro j h
    by_cases q : j = n
    · subst q
      exact zDu_o (by decide) qX8_16
    · exact zDu_o (by decide) (gX8_b q (ih j (by omega)))
theorem wX9_12_17 {Z : zLay} {D : zDm} (n : Nat) : ∀ j, j < n → wX9_12 Z D n 17 j = some (.inl (zca Z 4, 4, .inl fun _ => 0)) := by
  induction n with
  | zero => exact fun j h => absurd h (Nat.not_lt_zero _)
  | succ n ih =>
    intro j h
    by_cases q : j = n
    · subst q
      exact zDu_o (by decide) qX8_17
    · exact zDu_o (by decide) (gX8_b q (ih j (by omega)))
theorem wX9_12_18 {Z : zLay} {D : zDm} (n : Nat) : ∀ j, j < n → wX9_12 Z D n 18 j = some (.inl (zca Z 4, 4, .inl fun _ => 0)) := by
  induction n with
  | zero => exact fun j h => absurd h (Nat.not_lt_zero _)
  | succ n ih =>
    intro j h
    by_cases q : j = n
    · subst q
      exact zDu_o (by decide) qX8_18
    · exact zDu_o (by decide) (gX8_b q (ih j (by omega)))
theorem wX9_12_13 {Z : zLay} {D : zDm} (n : Nat) : ∀ j, j < n → wX9_12 Z D n 13 j = some (.inr (8, fX8_5 Z j)) := by
  induction n with
  | zero => exact fun j h => absurd h (Nat.not_lt_zero _)
  | succ n ih =>
    intro j h
    by_cases q : j = n
    · subst q
      exact zDu_o (by decide) qX8_13
    · exact zDu_o (by decide) (gX8_b q (ih j (by omega)))
theorem wq_n71 : Cond.methodLinkNest RX9 21 yX8_init "AlpCommune" ∈ zNest := zNest_mem 71 (by decide +kernel) (by decide +kernel)
theorem wq_70 : Cond.instantiable "AlpCommune$Word" (12 : Nat) ∈ zTB := zTB_mem 196 (by decide +kernel) (by decide +kernel)
theorem wq_4 : Cond.initialized "AlpCommune$Word" ∈ zTB := zTB_mem 130 (by decide +kernel) (by decide +kernel)
theorem wq_72 : Cond.instanceMethod ({ cls := "AlpCommune$Word", name := "<init>", desc := "()V" } : MethodName) ∈ zTB := zTB_mem 198 (by decide +kernel) (by decide +kernel)
theorem wq_73 : Cond.code yX8_init cX8_init 1 none ∈ zTB := zTB_mem 199 (by decide +kernel) (by decide +kernel)
theorem sX9_h12 {E : zEn} {h n0 : Nat} {Z : zLay} {D : zDm} {Q : State → Prop} (C : zCN E cX9_init RX9 2 Z h n0 9 242 1420) (hh : 2 ≤ h) (hD : D 11 0 = some (.inr (9, fX9_2 Z))) (hA : D 12 0 = some (.inl (zca Z 6, 40, .inr (.inr (.inr (.inr (fun _ => none))))))) (kk : zNN E 2 Z n0 Q 48 [(1, .int (nI 40)), (0, .ref (zad Z 11 0))] [] (wX9_12 Z D 40) 242 1420) : ∀ m n cn bn, n + m = 40 → cn = 2 + 6 * n → bn = 140 + 32 * n → zNN E 2 Z n0 Q 23 [(1, .int (nI n)), (0, .ref (zad Z 11 0))] [] (wX9_12 Z D n) cn bn := by
  intro m
  induction m with
  | zero =>
    intro n cn bn e1 e2 e3
    obtain rfl : n = 40 := e1
    subst e2 e3
    refine zn_iload_n C dX9_init_23 rfl ?_
    refine zn_bipush C dX9_init_24 (v := 40) (by decide) ?_
    refine zn_icmp C dX9_init_26 (tgt := 48) (by decide) (fun _ => kk) (fun q => absurd (by decide +kernel) q)
  | succ m ih =>
    intro n cn bn e1 e2 e3
    have hn : n < 40 := by omega
    obtain ⟨n1, n2, n3⟩ := nI41_c n (by omega)
    refine zn_iload_n C dX9_init_23 rfl ?_
    refine zn_bipush C dX9_init_24 (v := 40) (by decide) ?_
    refine zn_icmp C dX9_init_26 (tgt := 48) (by decide) (fun q => absurd q ((by decide +kernel : ∀ n, n < 40 → ¬ (40 : Int32) ≤ nI n) n hn)) (fun _ => ?_)
    refine zn_aload_n C dX9_init_29 rfl ?_
    refine zn_get C 0 zin_X9 rfl (Nat.le_of_ble_eq_true rfl) rfl wq_125 dX9_init_30 (wX9_12_o (by decide) (by decide) hD n) (v := .ref (zad Z 12 0)) rfl ?_
    refine zn_iload_n C dX9_init_33 rfl ?_
    refine zn_new C (Cn := RX8) (T := TX8) (N := 12) (ci := 8) (fs := fX8_0) (k := 13) (i := n) zin_X8 tyX8_ok rfl nfX8 wq_68 wq_70 wq_4 dX9_init_34 hn (by show 11 + 6 * n = 9 + cn; omega) (by omega) (by omega) ?_
    refine zn_dup C dX9_init_37 rfl ?_
    refine zn_callN C (mX8 (D := wX9_12 Z D n) (i := n) hn (by omega)) rfl wq_n71 wq_72 wq_73 wq_4 (by decide +kernel) (by decide) (by omega) (by omega) (by omega) dX9_init_38 (Nat.le_of_ble_eq_true rfl) ?_
    refine zn_aast C (k := 12) (i := 0) (k1 := 13) (i1 := n) (N := 40) (t0 := 6) (ci := 8) (f := zfill Z 13 n) (gX8_o (by decide) (wX9_12_A hA n)) rfl qX8_13 rfl n2 (by rw [n3]; exact hn) dX9_init_41 ?_
    rw [n3]
    refine zn_iinc C (kk := 0) dX9_init_42 rfl n1 (by decide) rfl ?_
    refine zn_goto C dX9_init_45 (tgt := 23) (by decide) ?_
    exact ih (n + 1) _ _ (by omega) (by omega) (by omega)
def gX9 (Z : zLay) (D : zDm) : zDm := (wX9_12 Z (zDu (eX9_2 Z D) 11 0 (.inr (9, fX9_2 Z))) 40)
theorem gX9_o {Z : zLay} {D : zDm} {a b : Nat} {y : va_E} (w : a < 11 ∨ 19 < a) (h : D a b = some y) : gX9 Z D a b = some y := wX9_12_o (by omega) (by omega) (zDu_o (by omega) (eX9_2_o w h)) _
theorem mX9 {l : Launch} {Z : zLay} {D : zDm} {n0 c0 : Nat} (hc : c0 = 9) : zMetN l yX9_init cX9_init 2 2 Z n0 c0 242 1420 [.ref (zad Z 11 0)] (zDu D 11 0 (.inr (9, fX9_0))) (gX9 Z D) := by
  subst hc
  exact zMetN_of (by decide +kernel) rfl (Nat.le_of_ble_eq_true rfl) [(0, .ref (zad Z 11 0))] rfl fun E h1 h2 C => sX9_0 C (Nat.le_refl _) rfl (sX9_4 C (Nat.le_refl _) rfl (sX9_13 C (Nat.le_refl _) rfl (zn_iconst C dX9_init_21 (v := nI 0) (by decide +kernel) (zn_istore_n C dX9_init_22 (i := 1) rfl (by decide) rfl (sX9_h12 C (Nat.le_refl _) (zDu_i _ _ _ _) (zDu_o (by decide) pX9_12) (zn_ret C (by decide +kernel) h1 h2 rfl (Nat.le_refl _) dX9_init_48) 40 0 _ _ rfl rfl rfl)))))
theorem qX9_19 {Z : zLay} {D : zDm} : gX9 Z D 19 0 = some (.inl (zca Z 2, 100, .inl fun _ => 0)) := wX9_12_o (by decide) (by decide) (zDu_o (by decide) pX9_19) _
theorem qX9_11 {Z : zLay} {D : zDm} : gX9 Z D 11 0 = some (.inr (9, fX9_2 Z)) := wX9_12_o (by decide) (by decide) (zDu_i _ _ _ _) _
theorem qX9_12 {Z : zLay} {D : zDm} : gX9 Z D 12 0 = some (.inl (zca Z 6, 40, .inr (.inr (.inr (.inr (zfill Z 13 40)))))) := wX9_12_A (zDu_o (by decide) pX9_12) 40
theorem qX9_14 {Z : zLay} {D : zDm} {b : Nat} (hb : b < 40) : gX9 Z D 14 b = some (.inl (zca Z 0, 4, .inl fun _ => 0)) := wX9_12_14 40 b hb
theorem qX9_15 {Z : zLay} {D : zDm} {b : Nat} (hb : b < 40) : gX9 Z D 15 b = some (.inl (zca Z 0, 4, .inl fun _ => 0)) := wX9_12_15 40 b hb
theorem qX9_16 {Z : zLay} {D : zDm} {b : Nat} (hb : b < 40) : gX9 Z D 16 b = some (.inl (zca Z 0, 4, .inl fun _ => 0)) := wX9_12_16 40 b hb
theorem qX9_17 {Z : zLay} {D : zDm} {b : Nat} (hb : b < 40) : gX9 Z D 17 b = some (.inl (zca Z 4, 4, .inl fun _ => 0)) := wX9_12_17 40 b hb
theorem qX9_18 {Z : zLay} {D : zDm} {b : Nat} (hb : b < 40) : gX9 Z D 18 b = some (.inl (zca Z 4, 4, .inl fun _ => 0)) := wX9_12_18 40 b hb
theorem qX9_13 {Z : zLay} {D : zDm} {b : Nat} (hb : b < 40) : gX9 Z D 13 b = some (.inr (8, fX8_5 Z b)) := wX9_12_13 40 b hb
end
section
theorem wq_25 : Cond.methodLink "AlpCommune" (1 : Nat) ({ cls := "java/lang/Object", name := "<init>", desc := "()V" } : MethodName) ∈ zTB := zTB_mem 151 (by decide +kernel) (by decide +kernel)
theorem wq_372 : Cond.fieldLink "AlpCommune" (11 : Nat) "AlpCommune" "houses" "[LAlpCommune$House;" ∈ zTB := zTB_mem 498 (by decide +kernel) (by decide +kernel)
theorem wq_28 : Cond.classLink "AlpCommune" (9 : Nat) "AlpCommune$House" ∈ zTB := zTB_mem 154 (by decide +kernel) (by decide +kernel)
theorem wq_374 : Cond.fieldLink "AlpCommune" (18 : Nat) "AlpCommune" "rights" "LAlpCommune$Rights;" ∈ zTB := zTB_mem 500 (by decide +kernel) (by decide +kernel)
theorem wq_30 : Cond.classLink "AlpCommune" (15 : Nat) "AlpCommune$Rights" ∈ zTB := zTB_mem 156 (by decide +kernel) (by decide +kernel)
theorem wq_31 : Cond.instantiable "AlpCommune$Rights" (6 : Nat) ∈ zTB := zTB_mem 157 (by decide +kernel) (by decide +kernel)
theorem wq_2 : Cond.initialized "AlpCommune$Rights" ∈ zTB := zTB_mem 128 (by decide +kernel) (by decide +kernel)
theorem wq_n32 : Cond.methodLinkNest RX10 17 yX3_init "AlpCommune" ∈ zNest := zNest_mem 32 (by decide +kernel) (by decide +kernel)
theorem wq_33 : Cond.instanceMethod ({ cls := "AlpCommune$Rights", name := "<init>", desc := "()V" } : MethodName) ∈ zTB := zTB_mem 159 (by decide +kernel) (by decide +kernel)
theorem wq_34 : Cond.code yX3_init cX3_init 1 none ∈ zTB := zTB_mem 160 (by decide +kernel) (by decide +kernel)
theorem wq_375 : Cond.fieldLink "AlpCommune" (25 : Nat) "AlpCommune" "words" "LAlpCommune$Words;" ∈ zTB := zTB_mem 501 (by decide +kernel) (by decide +kernel)
theorem wq_62 : Cond.classLink "AlpCommune" (22 : Nat) "AlpCommune$Words" ∈ zTB := zTB_mem 188 (by decide +kernel) (by decide +kernel)
theorem wq_63 : Cond.instantiable "AlpCommune$Words" (5 : Nat) ∈ zTB := zTB_mem 189 (by decide +kernel) (by decide +kernel)
theorem wq_3 : Cond.initialized "AlpCommune$Words" ∈ zTB := zTB_mem 129 (by decide +kernel) (by decide +kernel)
theorem wq_n64 : Cond.methodLinkNest RX10 24 yX9_init "AlpCommune" ∈ zNest := zNest_mem 64 (by decide +kernel) (by decide +kernel)
theorem wq_65 : Cond.instanceMethod ({ cls := "AlpCommune$Words", name := "<init>", desc := "()V" } : MethodName) ∈ zTB := zTB_mem 191 (by decide +kernel) (by decide +kernel)
theorem wq_66 : Cond.code yX9_init cX9_init 2 none ∈ zTB := zTB_mem 192 (by decide +kernel) (by decide +kernel)
theorem wq_376 : Cond.fieldLink "AlpCommune" (32 : Nat) "AlpCommune" "skies" "LAlpCommune$Sky;" ∈ zTB := zTB_mem 502 (by decide +kernel) (by decide +kernel)
theorem wq_144 : Cond.classLink "AlpCommune" (29 : Nat) "AlpCommune$Sky" ∈ zTB := zTB_mem 270 (by decide +kernel) (by decide +kernel)
theorem wq_145 : Cond.instantiable "AlpCommune$Sky" (2 : Nat) ∈ zTB := zTB_mem 271 (by decide +kernel) (by decide +kernel)
theorem wq_5 : Cond.initialized "AlpCommune$Sky" ∈ zTB := zTB_mem 131 (by decide +kernel) (by decide +kernel)
theorem wq_n146 : Cond.methodLinkNest RX10 31 yX5_init "AlpCommune" ∈ zNest := zNest_mem 146 (by decide +kernel) (by decide +kernel)
theorem wq_147 : Cond.instanceMethod ({ cls := "AlpCommune$Sky", name := "<init>", desc := "()V" } : MethodName) ∈ zTB := zTB_mem 273 (by decide +kernel) (by decide +kernel)
theorem wq_148 : Cond.code yX5_init cX5_init 1 none ∈ zTB := zTB_mem 274 (by decide +kernel) (by decide +kernel)
theorem wq_377 : Cond.fieldLink "AlpCommune" (39 : Nat) "AlpCommune" "alps" "LAlpCommune$Alps;" ∈ zTB := zTB_mem 503 (by decide +kernel) (by decide +kernel)
theorem wq_162 : Cond.classLink "AlpCommune" (36 : Nat) "AlpCommune$Alps" ∈ zTB := zTB_mem 288 (by decide +kernel) (by decide +kernel)
theorem wq_163 : Cond.instantiable "AlpCommune$Alps" (12 : Nat) ∈ zTB := zTB_mem 289 (by decide +kernel) (by decide +kernel)
theorem wq_6 : Cond.initialized "AlpCommune$Alps" ∈ zTB := zTB_mem 132 (by decide +kernel) (by decide +kernel)
theorem wq_n164 : Cond.methodLinkNest RX10 38 yX0_init "AlpCommune" ∈ zNest := zNest_mem 164 (by decide +kernel) (by decide +kernel)
theorem wq_165 : Cond.instanceMethod ({ cls := "AlpCommune$Alps", name := "<init>", desc := "()V" } : MethodName) ∈ zTB := zTB_mem 291 (by decide +kernel) (by decide +kernel)
theorem wq_166 : Cond.code yX0_init cX0_init 1 none ∈ zTB := zTB_mem 292 (by decide +kernel) (by decide +kernel)
theorem wq_378 : Cond.fieldLink "AlpCommune" (46 : Nat) "AlpCommune" "way" "LAlpCommune$Way;" ∈ zTB := zTB_mem 504 (by decide +kernel) (by decide +kernel)
theorem wq_216 : Cond.classLink "AlpCommune" (43 : Nat) "AlpCommune$Way" ∈ zTB := zTB_mem 342 (by decide +kernel) (by decide +kernel)
theorem wq_217 : Cond.instantiable "AlpCommune$Way" (7 : Nat) ∈ zTB := zTB_mem 343 (by decide +kernel) (by decide +kernel)
theorem wq_7 : Cond.initialized "AlpCommune$Way" ∈ zTB := zTB_mem 133 (by decide +kernel) (by decide +kernel)
theorem wq_n218 : Cond.methodLinkNest RX10 45 yX7_init "AlpCommune" ∈ zNest := zNest_mem 218 (by decide +kernel) (by decide +kernel)
theorem wq_219 : Cond.instanceMethod ({ cls := "AlpCommune$Way", name := "<init>", desc := "()V" } : MethodName) ∈ zTB := zTB_mem 345 (by decide +kernel) (by decide +kernel)
theorem wq_220 : Cond.code yX7_init cX7_init 2 none ∈ zTB := zTB_mem 346 (by decide +kernel) (by decide +kernel)
theorem wq_379 : Cond.fieldLink "AlpCommune" (53 : Nat) "AlpCommune" "water" "LAlpCommune$Channel;" ∈ zTB := zTB_mem 505 (by decide +kernel) (by decide +kernel)
theorem wq_281 : Cond.classLink "AlpCommune" (50 : Nat) "AlpCommune$Channel" ∈ zTB := zTB_mem 407 (by decide +kernel) (by decide +kernel)
theorem wq_282 : Cond.instantiable "AlpCommune$Channel" (3 : Nat) ∈ zTB := zTB_mem 408 (by decide +kernel) (by decide +kernel)
theorem wq_9 : Cond.initialized "AlpCommune$Channel" ∈ zTB := zTB_mem 135 (by decide +kernel) (by decide +kernel)
theorem wq_n283 : Cond.methodLinkNest RX10 52 yX1_init "AlpCommune" ∈ zNest := zNest_mem 283 (by decide +kernel) (by decide +kernel)
theorem wq_284 : Cond.instanceMethod ({ cls := "AlpCommune$Channel", name := "<init>", desc := "()V" } : MethodName) ∈ zTB := zTB_mem 410 (by decide +kernel) (by decide +kernel)
theorem wq_285 : Cond.code yX1_init cX1_init 1 none ∈ zTB := zTB_mem 411 (by decide +kernel) (by decide +kernel)
theorem wq_380 : Cond.fieldLink "AlpCommune" (59 : Nat) "AlpCommune" "sheets" "[LAlpCommune$Sheet;" ∈ zTB := zTB_mem 506 (by decide +kernel) (by decide +kernel)
theorem wq_300 : Cond.classLink "AlpCommune" (57 : Nat) "AlpCommune$Sheet" ∈ zTB := zTB_mem 426 (by decide +kernel) (by decide +kernel)
theorem wq_381 : Cond.fieldLink "AlpCommune" (65 : Nat) "AlpCommune" "drives" "[[I" ∈ zTB := zTB_mem 507 (by decide +kernel) (by decide +kernel)
theorem wq_302 : Cond.classLink "AlpCommune" (63 : Nat) "[[I" ∈ zTB := zTB_mem 428 (by decide +kernel) (by decide +kernel)
theorem wq_385 : Cond.fieldLink "AlpCommune" (68 : Nat) "AlpCommune" "yearTold" "I" ∈ zTB := zTB_mem 511 (by decide +kernel) (by decide +kernel)
theorem wq_386 : Cond.fieldLink "AlpCommune" (72 : Nat) "AlpCommune" "lastTurn" "[I" ∈ zTB := zTB_mem 512 (by decide +kernel) (by decide +kernel)
theorem wq_388 : Cond.fieldLink "AlpCommune" (76 : Nat) "AlpCommune" "bodies" "[I" ∈ zTB := zTB_mem 514 (by decide +kernel) (by decide +kernel)
section YX10
variable {E : zEn} {nL h n0 c0 mc ms : Nat} {Z : zLay} {D : zDm} {Q : State → Prop}
def fX10_0 : List Value := [.null, .int 0, .null, .null, .null, .null, .null, .null, .null, .null, .int 0, .int 0, .int 0, .int 0, .null, .int 0, .null, .int 0]
theorem nfX10 : ∀ j, j < 18 → defaultValue (tyX10 j) = vp_V fX10_0 j := by decide +kernel
def eX10_0 (Z : zLay) (D : zDm) : zDm := D
theorem sX10_0 (C : zCN E cX10_init RX10 2 Z h n0 c0 342 18353) (hh : 3 ≤ h) (hc : c0 = 1) (kk : zNN E 2 Z n0 Q 4 [(0, .ref (zad Z 0 0))] [] (zDu (eX10_0 Z D) 0 0 (.inr (10, fX10_0))) 0 0) : zNN E 2 Z n0 Q 0 [(0, .ref (zad Z 0 0))] [] (zDu (eX10_0 Z D) 0 0 (.inr (10, fX10_0))) 0 0 := by
  subst hc
  refine zn_aload_n C dX10_init_0 rfl ?_
  refine zn_obj C wq_25 wq_26 wq_27 dX10_init_1 (by omega) (Nat.le_of_ble_eq_true rfl) ?_
  exact kk
def fX10_1 (Z : zLay) : List Value := [.ref (zad Z 1 0), .int 0, .null, .null, .null, .null, .null, .null, .null, .null, .int 0, .int 0, .int 0, .int 0, .null, .int 0, .null, .int 0]
def eX10_1 (Z : zLay) (D : zDm) : zDm := (zDu (zDu (eX10_0 Z D) 0 0 (.inr (10, fX10_0))) 1 0 (.inl (zca Z 5, 10, .inr (.inr (.inr (.inr (fun _ => none)))))))
theorem sX10_4 (C : zCN E cX10_init RX10 2 Z h n0 c0 342 18353) (hh : 3 ≤ h) (hc : c0 = 1) (kk : zNN E 2 Z n0 Q 13 [(0, .ref (zad Z 0 0))] [] (zDu (eX10_1 Z D) 0 0 (.inr (10, fX10_1 Z))) 1 10) : zNN E 2 Z n0 Q 4 [(0, .ref (zad Z 0 0))] [] (zDu (eX10_0 Z D) 0 0 (.inr (10, fX10_0))) 0 0 := by
  subst hc
  refine zn_aload_n C dX10_init_4 rfl ?_
  refine zn_bipush C dX10_init_5 (v := 10) (by decide) ?_
  refine zn_anew C (Cn := RX2) (k := 1) (i := 0) (t0 := 5) (N := 10) wq_28 (by unfold zOvL; simp [RX2]) rfl dX10_init_7 (by decide) (by decide) (by decide) (by decide) rfl (by omega) (by omega) ?_
  refine zn_putF C (by decide +kernel) 0 zin_X10 rfl (Nat.le_of_ble_eq_true rfl) rfl rfl tyX10_ok nmX10 rfl (ty := tyX10 0) (by decide +kernel) wq_372 dX10_init_10 (zDu_o (by decide) (zDu_i _ _ _ _)) (Nat.le_of_ble_eq_true rfl) rfl rfl ?_
  exact kk
def fX10_2 (Z : zLay) : List Value := [.ref (zad Z 1 0), .int 0, .ref (zad Z 5 0), .null, .null, .null, .null, .null, .null, .null, .int 0, .int 0, .int 0, .int 0, .null, .int 0, .null, .int 0]
def eX10_2 (Z : zLay) (D : zDm) : zDm := (gX3 Z (zDu (eX10_1 Z D) 0 0 (.inr (10, fX10_1 Z))))
theorem sX10_13 (C : zCN E cX10_init RX10 2 Z h n0 c0 342 18353) (hh : 3 ≤ h) (hc : c0 = 1) (kk : zNN E 2 Z n0 Q 24 [(0, .ref (zad Z 0 0))] [] (zDu (eX10_2 Z D) 0 0 (.inr (10, fX10_2 Z))) 7 266) : zNN E 2 Z n0 Q 13 [(0, .ref (zad Z 0 0))] [] (zDu (eX10_1 Z D) 0 0 (.inr (10, fX10_1 Z))) 1 10 := by
  subst hc
  refine zn_aload_n C dX10_init_13 rfl ?_
  refine zn_new C (Cn := RX3) (T := TX3) (N := 6) (ci := 3) (fs := fX3_0) (k := 5) (i := 0) zin_X3 tyX3_ok rfl nfX3 wq_30 wq_31 wq_2 dX10_init_14 (by decide) rfl (by omega) (by omega) ?_
  refine zn_dup C dX10_init_17 rfl ?_
  refine zn_callN C (mX3 (D := (zDu (eX10_1 Z D) 0 0 (.inr (10, fX10_1 Z)))) rfl) rfl wq_n32 wq_33 wq_34 wq_2 (by decide +kernel) (by decide) (by omega) (by omega) (by omega) dX10_init_18 (Nat.le_of_ble_eq_true rfl) ?_
  refine zn_putF C (by decide +kernel) 2 zin_X10 rfl (Nat.le_of_ble_eq_true rfl) rfl rfl tyX10_ok nmX10 rfl (ty := tyX10 2) (by decide +kernel) wq_374 dX10_init_21 (gX3_o (by decide) (zDu_i _ _ _ _)) (Nat.le_of_ble_eq_true rfl) rfl rfl ?_
  exact kk
def fX10_3 (Z : zLay) : List Value := [.ref (zad Z 1 0), .int 0, .ref (zad Z 5 0), .ref (zad Z 11 0), .null, .null, .null, .null, .null, .null, .int 0, .int 0, .int 0, .int 0, .null, .int 0, .null, .int 0]
def eX10_3 (Z : zLay) (D : zDm) : zDm := (gX9 Z (zDu (eX10_2 Z D) 0 0 (.inr (10, fX10_2 Z))))
theorem sX10_24 (C : zCN E cX10_init RX10 2 Z h n0 c0 342 18353) (hh : 3 ≤ h) (hc : c0 = 1) (kk : zNN E 2 Z n0 Q 35 [(0, .ref (zad Z 0 0))] [] (zDu (eX10_3 Z D) 0 0 (.inr (10, fX10_3 Z))) 250 1691) : zNN E 2 Z n0 Q 24 [(0, .ref (zad Z 0 0))] [] (zDu (eX10_2 Z D) 0 0 (.inr (10, fX10_2 Z))) 7 266 := by
  subst hc
  refine zn_aload_n C dX10_init_24 rfl ?_
  refine zn_new C (Cn := RX9) (T := TX9) (N := 5) (ci := 9) (fs := fX9_0) (k := 11) (i := 0) zin_X9 tyX9_ok rfl nfX9 wq_62 wq_63 wq_3 dX10_init_25 (by decide) rfl (by omega) (by omega) ?_
  refine zn_dup C dX10_init_28 rfl ?_
  refine zn_callN C (mX9 (D := (zDu (eX10_2 Z D) 0 0 (.inr (10, fX10_2 Z)))) rfl) rfl wq_n64 wq_65 wq_66 wq_3 (by decide +kernel) (by decide) (by omega) (by omega) (by omega) dX10_init_29 (Nat.le_of_ble_eq_true rfl) ?_
  refine zn_putF C (by decide +kernel) 3 zin_X10 rfl (Nat.le_of_ble_eq_true rfl) rfl rfl tyX10_ok nmX10 rfl (ty := tyX10 3) (by decide +kernel) wq_375 dX10_init_32 (gX9_o (by decide) (zDu_i _ _ _ _)) (Nat.le_of_ble_eq_true rfl) rfl rfl ?_
  exact kk
def fX10_4 (Z : zLay) : List Value := [.ref (zad Z 1 0), .int 0, .ref (zad Z 5 0), .ref (zad Z 11 0), .ref (zad Z 20 0), .null, .null, .null, .null, .null, .int 0, .int 0, .int 0, .int 0, .null, .int 0, .null, .int 0]
def eX10_4 (Z : zLay) (D : zDm) : zDm := (gX5 Z (zDu (eX10_3 Z D) 0 0 (.inr (10, fX10_3 Z))))
theorem sX10_35 (C : zCN E cX10_init RX10 2 Z h n0 c0 342 18353) (hh : 3 ≤ h) (hc : c0 = 1) (kk : zNN E 2 Z n0 Q 46 [(0, .ref (zad Z 0 0))] [] (zDu (eX10_4 Z D) 0 0 (.inr (10, fX10_4 Z))) 257 16337) : zNN E 2 Z n0 Q 35 [(0, .ref (zad Z 0 0))] [] (zDu (eX10_3 Z D) 0 0 (.inr (10, fX10_3 Z))) 250 1691 := by
  subst hc
  refine zn_aload_n C dX10_init_35 rfl ?_
  refine zn_new C (Cn := RX5) (T := TX5) (N := 2) (ci := 5) (fs := fX5_0) (k := 20) (i := 0) zin_X5 tyX5_ok rfl nfX5 wq_144 wq_145 wq_5 dX10_init_36 (by decide) rfl (by omega) (by omega) ?_
  refine zn_dup C dX10_init_39 rfl ?_
  refine zn_callN C (mX5 (D := (zDu (eX10_3 Z D) 0 0 (.inr (10, fX10_3 Z)))) rfl) rfl wq_n146 wq_147 wq_148 wq_5 (by decide +kernel) (by decide) (by omega) (by omega) (by omega) dX10_init_40 (Nat.le_of_ble_eq_true rfl) ?_
  refine zn_putF C (by decide +kernel) 4 zin_X10 rfl (Nat.le_of_ble_eq_true rfl) rfl rfl tyX10_ok nmX10 rfl (ty := tyX10 4) (by decide +kernel) wq_376 dX10_init_43 (gX5_o (by decide) (zDu_i _ _ _ _)) (Nat.le_of_ble_eq_true rfl) rfl rfl ?_
  exact kk
def fX10_5 (Z : zLay) : List Value := [.ref (zad Z 1 0), .int 0, .ref (zad Z 5 0), .ref (zad Z 11 0), .ref (zad Z 20 0), .ref (zad Z 25 0), .null, .null, .null, .null, .int 0, .int 0, .int 0, .int 0, .null, .int 0, .null, .int 0]
def eX10_5 (Z : zLay) (D : zDm) : zDm := (gX0 Z (zDu (eX10_4 Z D) 0 0 (.inr (10, fX10_4 Z))))
theorem sX10_46 (C : zCN E cX10_init RX10 2 Z h n0 c0 342 18353) (hh : 3 ≤ h) (hc : c0 = 1) (kk : zNN E 2 Z n0 Q 57 [(0, .ref (zad Z 0 0))] [] (zDu (eX10_5 Z D) 0 0 (.inr (10, fX10_5 Z))) 273 16576) : zNN E 2 Z n0 Q 46 [(0, .ref (zad Z 0 0))] [] (zDu (eX10_4 Z D) 0 0 (.inr (10, fX10_4 Z))) 257 16337 := by
  subst hc
  refine zn_aload_n C dX10_init_46 rfl ?_
  refine zn_new C (Cn := RX0) (T := TX0) (N := 12) (ci := 0) (fs := fX0_0) (k := 25) (i := 0) zin_X0 tyX0_ok rfl nfX0 wq_162 wq_163 wq_6 dX10_init_47 (by decide) rfl (by omega) (by omega) ?_
  refine zn_dup C dX10_init_50 rfl ?_
  refine zn_callN C (mX0 (D := (zDu (eX10_4 Z D) 0 0 (.inr (10, fX10_4 Z)))) rfl) rfl wq_n164 wq_165 wq_166 wq_6 (by decide +kernel) (by decide) (by omega) (by omega) (by omega) dX10_init_51 (Nat.le_of_ble_eq_true rfl) ?_
  refine zn_putF C (by decide +kernel) 5 zin_X10 rfl (Nat.le_of_ble_eq_true rfl) rfl rfl tyX10_ok nmX10 rfl (ty := tyX10 5) (by decide +kernel) wq_377 dX10_init_54 (gX0_o (by decide) (zDu_i _ _ _ _)) (Nat.le_of_ble_eq_true rfl) rfl rfl ?_
  exact kk
def fX10_6 (Z : zLay) : List Value := [.ref (zad Z 1 0), .int 0, .ref (zad Z 5 0), .ref (zad Z 11 0), .ref (zad Z 20 0), .ref (zad Z 25 0), .ref (zad Z 38 0), .null, .null, .null, .int 0, .int 0, .int 0, .int 0, .null, .int 0, .null, .int 0]
def eX10_6 (Z : zLay) (D : zDm) : zDm := (gX7 Z (zDu (eX10_5 Z D) 0 0 (.inr (10, fX10_5 Z))))
theorem sX10_57 (C : zCN E cX10_init RX10 2 Z h n0 c0 342 18353) (hh : 3 ≤ h) (hc : c0 = 1) (kk : zNN E 2 Z n0 Q 68 [(0, .ref (zad Z 0 0))] [] (zDu (eX10_6 Z D) 0 0 (.inr (10, fX10_6 Z))) 293 16709) : zNN E 2 Z n0 Q 57 [(0, .ref (zad Z 0 0))] [] (zDu (eX10_5 Z D) 0 0 (.inr (10, fX10_5 Z))) 273 16576 := by
  subst hc
  refine zn_aload_n C dX10_init_57 rfl ?_
  refine zn_new C (Cn := RX7) (T := TX7) (N := 7) (ci := 7) (fs := fX7_0) (k := 38) (i := 0) zin_X7 tyX7_ok rfl nfX7 wq_216 wq_217 wq_7 dX10_init_58 (by decide) rfl (by omega) (by omega) ?_
  refine zn_dup C dX10_init_61 rfl ?_
  refine zn_callN C (mX7 (D := (zDu (eX10_5 Z D) 0 0 (.inr (10, fX10_5 Z)))) rfl) rfl wq_n218 wq_219 wq_220 wq_7 (by decide +kernel) (by decide) (by omega) (by omega) (by omega) dX10_init_62 (Nat.le_of_ble_eq_true rfl) ?_
  refine zn_putF C (by decide +kernel) 6 zin_X10 rfl (Nat.le_of_ble_eq_true rfl) rfl rfl tyX10_ok nmX10 rfl (ty := tyX10 6) (by decide +kernel) wq_378 dX10_init_65 (gX7_o (by decide) (zDu_i _ _ _ _)) (Nat.le_of_ble_eq_true rfl) rfl rfl ?_
  exact kk
def fX10_7 (Z : zLay) : List Value := [.ref (zad Z 1 0), .int 0, .ref (zad Z 5 0), .ref (zad Z 11 0), .ref (zad Z 20 0), .ref (zad Z 25 0), .ref (zad Z 38 0), .ref (zad Z 43 0), .null, .null, .int 0, .int 0, .int 0, .int 0, .null, .int 0, .null, .int 0]
def eX10_7 (Z : zLay) (D : zDm) : zDm := (gX1 Z (zDu (eX10_6 Z D) 0 0 (.inr (10, fX10_6 Z))))
theorem sX10_68 (C : zCN E cX10_init RX10 2 Z h n0 c0 342 18353) (hh : 3 ≤ h) (hc : c0 = 1) (kk : zNN E 2 Z n0 Q 79 [(0, .ref (zad Z 0 0))] [] (zDu (eX10_7 Z D) 0 0 (.inr (10, fX10_7 Z))) 296 16732) : zNN E 2 Z n0 Q 68 [(0, .ref (zad Z 0 0))] [] (zDu (eX10_6 Z D) 0 0 (.inr (10, fX10_6 Z))) 293 16709 := by
  subst hc
  refine zn_aload_n C dX10_init_68 rfl ?_
  refine zn_new C (Cn := RX1) (T := TX1) (N := 3) (ci := 1) (fs := fX1_0) (k := 43) (i := 0) zin_X1 tyX1_ok rfl nfX1 wq_281 wq_282 wq_9 dX10_init_69 (by decide) rfl (by omega) (by omega) ?_
  refine zn_dup C dX10_init_72 rfl ?_
  refine zn_callN C (mX1 (D := (zDu (eX10_6 Z D) 0 0 (.inr (10, fX10_6 Z)))) rfl) rfl wq_n283 wq_284 wq_285 wq_9 (by decide +kernel) (by decide) (by omega) (by omega) (by omega) dX10_init_73 (Nat.le_of_ble_eq_true rfl) ?_
  refine zn_putF C (by decide +kernel) 7 zin_X10 rfl (Nat.le_of_ble_eq_true rfl) rfl rfl tyX10_ok nmX10 rfl (ty := tyX10 7) (by decide +kernel) wq_379 dX10_init_76 (gX1_o (by decide) (zDu_i _ _ _ _)) (Nat.le_of_ble_eq_true rfl) rfl rfl ?_
  exact kk
def fX10_8 (Z : zLay) : List Value := [.ref (zad Z 1 0), .int 0, .ref (zad Z 5 0), .ref (zad Z 11 0), .ref (zad Z 20 0), .ref (zad Z 25 0), .ref (zad Z 38 0), .ref (zad Z 43 0), .ref (zad Z 46 0), .null, .int 0, .int 0, .int 0, .int 0, .null, .int 0, .null, .int 0]
def eX10_8 (Z : zLay) (D : zDm) : zDm := (zDu (zDu (eX10_7 Z D) 0 0 (.inr (10, fX10_7 Z))) 46 0 (.inl (zca Z 8, 3, .inr (.inr (.inr (.inr (fun _ => none)))))))
theorem sX10_79 (C : zCN E cX10_init RX10 2 Z h n0 c0 342 18353) (hh : 3 ≤ h) (hc : c0 = 1) (kk : zNN E 2 Z n0 Q 87 [(0, .ref (zad Z 0 0))] [] (zDu (eX10_8 Z D) 0 0 (.inr (10, fX10_8 Z))) 297 16735) : zNN E 2 Z n0 Q 79 [(0, .ref (zad Z 0 0))] [] (zDu (eX10_7 Z D) 0 0 (.inr (10, fX10_7 Z))) 296 16732 := by
  subst hc
  refine zn_aload_n C dX10_init_79 rfl ?_
  refine zn_iconst C dX10_init_80 (v := 3) (by decide) ?_
  refine zn_anew C (Cn := RX4) (k := 46) (i := 0) (t0 := 8) (N := 3) wq_300 (by unfold zOvL; simp [RX4]) rfl dX10_init_81 (by decide) (by decide) (by decide) (by decide) rfl (by omega) (by omega) ?_
  refine zn_putF C (by decide +kernel) 8 zin_X10 rfl (Nat.le_of_ble_eq_true rfl) rfl rfl tyX10_ok nmX10 rfl (ty := tyX10 8) (by decide +kernel) wq_380 dX10_init_84 (zDu_o (by decide) (zDu_i _ _ _ _)) (Nat.le_of_ble_eq_true rfl) rfl rfl ?_
  exact kk
def fX10_9 (Z : zLay) : List Value := [.ref (zad Z 1 0), .int 0, .ref (zad Z 5 0), .ref (zad Z 11 0), .ref (zad Z 20 0), .ref (zad Z 25 0), .ref (zad Z 38 0), .ref (zad Z 43 0), .ref (zad Z 46 0), .ref (zad Z 49 0), .int 0, .int 0, .int 0, .int 0, .null, .int 0, .null, .int 0]
def eX10_9 (Z : zLay) (D : zDm) : zDm := (zDr (zDu (zDu (eX10_8 Z D) 0 0 (.inr (10, fX10_8 Z))) 49 0 (.inl (zca Z 9, 6, .inr (.inr (.inr (.inr (fun i => if i < 6 then some (zad Z 50 i) else none))))))) 50 6 (.inl (zca Z 0, (200, .inl fun _ => 0))))
theorem sX10_87 (C : zCN E cX10_init RX10 2 Z h n0 c0 342 18353) (hh : 3 ≤ h) (hc : c0 = 1) (kk : zNN E 2 Z n0 Q 100 [(0, .ref (zad Z 0 0))] [] (zDu (eX10_9 Z D) 0 0 (.inr (10, fX10_9 Z))) 304 17941) : zNN E 2 Z n0 Q 87 [(0, .ref (zad Z 0 0))] [] (zDu (eX10_8 Z D) 0 0 (.inr (10, fX10_8 Z))) 297 16735 := by
  subst hc
  refine zn_aload_n C dX10_init_87 rfl ?_
  refine zn_bipush C dX10_init_88 (v := 6) (by decide) ?_
  refine zn_sipush C dX10_init_90 (v := 200) (by decide) ?_
  refine zn_mna C (ty := .int) (N := 6) (M := 200) (t0 := 9) (t1 := 0) (k := 49) (k1 := 50) (a0 := (200, .inl fun _ => 0)) wq_302 (by unfold zOvL; simp) wq_61 rfl rfl (fun _ _ q => q) dX10_init_93 (by decide) (by decide) (by decide) (by decide) (by decide) (by decide) (by decide) rfl rfl (fun _ => rfl) (by decide) (by decide) rfl (fun j _ => by show 299 + 1 * j = 1 + 297 + 1 + j; omega) (by omega) (by omega) ?_
  refine zn_putF C (by decide +kernel) 9 zin_X10 rfl (Nat.le_of_ble_eq_true rfl) rfl rfl tyX10_ok nmX10 rfl (ty := tyX10 9) (by decide +kernel) wq_381 dX10_init_97 (zDr_o (by decide) (zDu_o (by decide) (zDu_i _ _ _ _))) (Nat.le_of_ble_eq_true rfl) rfl rfl ?_
  exact kk
def fX10_10 (Z : zLay) : List Value := [.ref (zad Z 1 0), .int 0, .ref (zad Z 5 0), .ref (zad Z 11 0), .ref (zad Z 20 0), .ref (zad Z 25 0), .ref (zad Z 38 0), .ref (zad Z 43 0), .ref (zad Z 46 0), .ref (zad Z 49 0), .int 0, .int 0, .int 0, .int (-1), .null, .int 0, .null, .int 0]
def eX10_10 (Z : zLay) (D : zDm) : zDm := (zDu (eX10_9 Z D) 0 0 (.inr (10, fX10_9 Z)))
theorem sX10_100 (C : zCN E cX10_init RX10 2 Z h n0 c0 342 18353) (hh : 3 ≤ h) (hc : c0 = 1) (kk : zNN E 2 Z n0 Q 105 [(0, .ref (zad Z 0 0))] [] (zDu (eX10_10 Z D) 0 0 (.inr (10, fX10_10 Z))) 304 17941) : zNN E 2 Z n0 Q 100 [(0, .ref (zad Z 0 0))] [] (zDu (eX10_9 Z D) 0 0 (.inr (10, fX10_9 Z))) 304 17941 := by
  subst hc
  refine zn_aload_n C dX10_init_100 rfl ?_
  refine zn_iconst C dX10_init_101 (v := (-1)) (by decide) ?_
  refine zn_put C 13 zin_X10 rfl (Nat.le_of_ble_eq_true rfl) rfl tyX10_ok nmX10 rfl (ty := tyX10 13) (by decide +kernel) wq_385 dX10_init_102 (zDu_i _ _ _ _) (Nat.le_of_ble_eq_true rfl) rfl rfl ?_
  exact kk
def fX10_11 (Z : zLay) : List Value := [.ref (zad Z 1 0), .int 0, .ref (zad Z 5 0), .ref (zad Z 11 0), .ref (zad Z 20 0), .ref (zad Z 25 0), .ref (zad Z 38 0), .ref (zad Z 43 0), .ref (zad Z 46 0), .ref (zad Z 49 0), .int 0, .int 0, .int 0, .int (-1), .ref (zad Z 51 0), .int 0, .null, .int 0]
def eX10_11 (Z : zLay) (D : zDm) : zDm := (zDu (zDu (zDu (zDu (zDu (eX10_10 Z D) 0 0 (.inr (10, fX10_10 Z))) 51 0 (.inl (zca Z 0, 3, .inl fun _ => 0))) 51 0 (.inl (zca Z 0, 3, .inl (fun j => if j = (0 : Int32).toNatClampNeg then (-1) else 0)))) 51 0 (.inl (zca Z 0, 3, .inl (fun j => if j = (1 : Int32).toNatClampNeg then (-1) else (fun j => if j = (0 : Int32).toNatClampNeg then (-1) else 0) j)))) 51 0 (.inl (zca Z 0, 3, .inl (fun j => if j = (2 : Int32).toNatClampNeg then (-1) else (fun j => if j = (1 : Int32).toNatClampNeg then (-1) else (fun j => if j = (0 : Int32).toNatClampNeg then (-1) else 0) j) j))))
theorem sX10_105 (C : zCN E cX10_init RX10 2 Z h n0 c0 342 18353) (hh : 3 ≤ h) (hc : c0 = 1) (kk : zNN E 2 Z n0 Q 124 [(0, .ref (zad Z 0 0))] [] (zDu (eX10_11 Z D) 0 0 (.inr (10, fX10_11 Z))) 305 17944) : zNN E 2 Z n0 Q 105 [(0, .ref (zad Z 0 0))] [] (zDu (eX10_10 Z D) 0 0 (.inr (10, fX10_10 Z))) 304 17941 := by
  subst hc
  refine zn_aload_n C dX10_init_105 rfl ?_
  refine zn_iconst C dX10_init_106 (v := 3) (by decide) ?_
  refine zn_newa C (atype := .int) (k := 51) (i := 0) (t0 := 0) (N := 3) (a0 := (3, .inl fun _ => 0)) wq_61 rfl dX10_init_107 (by decide) (by decide) (by decide) (fun _ => rfl) (by decide) rfl (by omega) (by omega) ?_
  refine zn_dup C dX10_init_109 rfl ?_
  refine zn_iconst C dX10_init_110 (v := 0) (by decide) ?_
  refine zn_iconst C dX10_init_111 (v := (-1)) (by decide) ?_
  refine zn_iast C (k := 51) (i := 0) (zDu_i _ _ _ _) (by decide) (by decide) dX10_init_112 ?_
  refine zn_dup C dX10_init_113 rfl ?_
  refine zn_iconst C dX10_init_114 (v := 1) (by decide) ?_
  refine zn_iconst C dX10_init_115 (v := (-1)) (by decide) ?_
  refine zn_iast C (k := 51) (i := 0) (zDu_i _ _ _ _) (by decide) (by decide) dX10_init_116 ?_
  refine zn_dup C dX10_init_117 rfl ?_
  refine zn_iconst C dX10_init_118 (v := 2) (by decide) ?_
  refine zn_iconst C dX10_init_119 (v := (-1)) (by decide) ?_
  refine zn_iast C (k := 51) (i := 0) (zDu_i _ _ _ _) (by decide) (by decide) dX10_init_120 ?_
  refine zn_putF C (by decide +kernel) 14 zin_X10 rfl (Nat.le_of_ble_eq_true rfl) rfl rfl tyX10_ok nmX10 rfl (ty := tyX10 14) (by decide +kernel) wq_386 dX10_init_121 (zDu_o (by decide) (zDu_o (by decide) (zDu_o (by decide) (zDu_o (by decide) (zDu_i _ _ _ _))))) (Nat.le_of_ble_eq_true rfl) rfl rfl ?_
  exact kk
def fX10_12 (Z : zLay) : List Value := [.ref (zad Z 1 0), .int 0, .ref (zad Z 5 0), .ref (zad Z 11 0), .ref (zad Z 20 0), .ref (zad Z 25 0), .ref (zad Z 38 0), .ref (zad Z 43 0), .ref (zad Z 46 0), .ref (zad Z 49 0), .int 0, .int 0, .int 0, .int (-1), .ref (zad Z 51 0), .int 0, .ref (zad Z 52 0), .int 0]
def eX10_12 (Z : zLay) (D : zDm) : zDm := (zDu (zDu (eX10_11 Z D) 0 0 (.inr (10, fX10_11 Z))) 52 0 (.inl (zca Z 0, 20, .inl fun _ => 0)))
theorem sX10_124 (C : zCN E cX10_init RX10 2 Z h n0 c0 342 18353) (hh : 3 ≤ h) (hc : c0 = 1) (kk : zNN E 2 Z n0 Q 132 [(0, .ref (zad Z 0 0))] [] (zDu (eX10_12 Z D) 0 0 (.inr (10, fX10_12 Z))) 306 17964) : zNN E 2 Z n0 Q 124 [(0, .ref (zad Z 0 0))] [] (zDu (eX10_11 Z D) 0 0 (.inr (10, fX10_11 Z))) 305 17944 := by
  subst hc
  refine zn_aload_n C dX10_init_124 rfl ?_
  refine zn_bipush C dX10_init_125 (v := 20) (by decide) ?_
  refine zn_newa C (atype := .int) (k := 52) (i := 0) (t0 := 0) (N := 20) (a0 := (20, .inl fun _ => 0)) wq_61 rfl dX10_init_127 (by decide) (by decide) (by decide) (fun _ => rfl) (by decide) rfl (by omega) (by omega) ?_
  refine zn_putF C (by decide +kernel) 16 zin_X10 rfl (Nat.le_of_ble_eq_true rfl) rfl rfl tyX10_ok nmX10 rfl (ty := tyX10 16) (by decide +kernel) wq_388 dX10_init_129 (zDu_o (by decide) (zDu_i _ _ _ _)) (Nat.le_of_ble_eq_true rfl) rfl rfl ?_
  exact kk
end YX10
theorem eX10_0_o {Z : zLay} {D : zDm} {a b : Nat} {y : va_E} (h : D a b = some y) : eX10_0 Z D a b = some y := h
theorem eX10_1_o {Z : zLay} {D : zDm} {a b : Nat} {y : va_E} (w : a < 0 ∨ 52 < a) (h : D a b = some y) : eX10_1 Z D a b = some y := zDu_o (by omega) (zDu_o (by omega) (eX10_0_o h))
theorem eX10_2_o {Z : zLay} {D : zDm} {a b : Nat} {y : va_E} (w : a < 0 ∨ 52 < a) (h : D a b = some y) : eX10_2 Z D a b = some y := gX3_o (by omega) (zDu_o (by omega) (eX10_1_o w h))
theorem eX10_3_o {Z : zLay} {D : zDm} {a b : Nat} {y : va_E} (w : a < 0 ∨ 52 < a) (h : D a b = some y) : eX10_3 Z D a b = some y := gX9_o (by omega) (zDu_o (by omega) (eX10_2_o w h))
theorem eX10_4_o {Z : zLay} {D : zDm} {a b : Nat} {y : va_E} (w : a < 0 ∨ 52 < a) (h : D a b = some y) : eX10_4 Z D a b = some y := gX5_o (by omega) (zDu_o (by omega) (eX10_3_o w h))
theorem eX10_5_o {Z : zLay} {D : zDm} {a b : Nat} {y : va_E} (w : a < 0 ∨ 52 < a) (h : D a b = some y) : eX10_5 Z D a b = some y := gX0_o (by omega) (zDu_o (by omega) (eX10_4_o w h))
theorem eX10_6_o {Z : zLay} {D : zDm} {a b : Nat} {y : va_E} (w : a < 0 ∨ 52 < a) (h : D a b = some y) : eX10_6 Z D a b = some y := gX7_o (by omega) (zDu_o (by omega) (eX10_5_o w h))
theorem eX10_7_o {Z : zLay} {D : zDm} {a b : Nat} {y : va_E} (w : a < 0 ∨ 52 < a) (h : D a b = some y) : eX10_7 Z D a b = some y := gX1_o (by omega) (zDu_o (by omega) (eX10_6_o w h))
theorem eX10_8_o {Z : zLay} {D : zDm} {a b : Nat} {y : va_E} (w : a < 0 ∨ 52 < a) (h : D a b = some y) : eX10_8 Z D a b = some y := zDu_o (by omega) (zDu_o (by omega) (eX10_7_o w h))
theorem eX10_9_o {Z : zLay} {D : zDm} {a b : Nat} {y : va_E} (w : a < 0 ∨ 52 < a) (h : D a b = some y) : eX10_9 Z D a b = some y := zDr_o (by omega) (zDu_o (by omega) (zDu_o (by omega) (eX10_8_o w h)))
theorem eX10_10_o {Z : zLay} {D : zDm} {a b : Nat} {y : va_E} (w : a < 0 ∨ 52 < a) (h : D a b = some y) : eX10_10 Z D a b = some y := zDu_o (by omega) (eX10_9_o w h)
theorem eX10_11_o {Z : zLay} {D : zDm} {a b : Nat} {y : va_E} (w : a < 0 ∨ 52 < a) (h : D a b = some y) : eX10_11 Z D a b = some y := zDu_o (by omega) (zDu_o (by omega) (zDu_o (by omega) (zDu_o (by omega) (zDu_o (by omega) (eX10_10_o w h)))))
theorem eX10_12_o {Z : zLay} {D : zDm} {a b : Nat} {y : va_E} (w : a < 0 ∨ 52 < a) (h : D a b = some y) : eX10_12 Z D a b = some y := zDu_o (by omega) (zDu_o (by omega) (eX10_11_o w h))
theorem eX10_12_c {Z : zLay} {D : zDm} {a b : Nat} {y : va_E} (w : a ≠ 0) (v : a < 52) (h : eX10_11 Z D a b = some y) : eX10_12 Z D a b = some y := zDu_o (by omega) (zDu_o (by omega) (h))
theorem eX10_11_c {Z : zLay} {D : zDm} {a b : Nat} {y : va_E} (w : a ≠ 0) (v : a < 51) (h : eX10_10 Z D a b = some y) : eX10_12 Z D a b = some y := eX10_12_c w (by omega) (zDu_o (by omega) (zDu_o (by omega) (zDu_o (by omega) (zDu_o (by omega) (zDu_o (by omega) (h))))))
theorem eX10_10_c {Z : zLay} {D : zDm} {a b : Nat} {y : va_E} (w : a ≠ 0) (v : a < 51) (h : eX10_9 Z D a b = some y) : eX10_12 Z D a b = some y := eX10_11_c w (by omega) (zDu_o (by omega) (h))
theorem eX10_9_c {Z : zLay} {D : zDm} {a b : Nat} {y : va_E} (w : a ≠ 0) (v : a < 49) (h : eX10_8 Z D a b = some y) : eX10_12 Z D a b = some y := eX10_10_c w (by omega) (zDr_o (by omega) (zDu_o (by omega) (zDu_o (by omega) (h))))
theorem eX10_8_c {Z : zLay} {D : zDm} {a b : Nat} {y : va_E} (w : a ≠ 0) (v : a < 46) (h : eX10_7 Z D a b = some y) : eX10_12 Z D a b = some y := eX10_9_c w (by omega) (zDu_o (by omega) (zDu_o (by omega) (h)))
theorem eX10_7_c {Z : zLay} {D : zDm} {a b : Nat} {y : va_E} (w : a ≠ 0) (v : a < 43) (h : eX10_6 Z D a b = some y) : eX10_12 Z D a b = some y := eX10_8_c w (by omega) (gX1_o (by omega) (zDu_o (by omega) (h)))
theorem eX10_6_c {Z : zLay} {D : zDm} {a b : Nat} {y : va_E} (w : a ≠ 0) (v : a < 38) (h : eX10_5 Z D a b = some y) : eX10_12 Z D a b = some y := eX10_7_c w (by omega) (gX7_o (by omega) (zDu_o (by omega) (h)))
theorem eX10_5_c {Z : zLay} {D : zDm} {a b : Nat} {y : va_E} (w : a ≠ 0) (v : a < 25) (h : eX10_4 Z D a b = some y) : eX10_12 Z D a b = some y := eX10_6_c w (by omega) (gX0_o (by omega) (zDu_o (by omega) (h)))
theorem eX10_4_c {Z : zLay} {D : zDm} {a b : Nat} {y : va_E} (w : a ≠ 0) (v : a < 20) (h : eX10_3 Z D a b = some y) : eX10_12 Z D a b = some y := eX10_5_c w (by omega) (gX5_o (by omega) (zDu_o (by omega) (h)))
theorem eX10_3_c {Z : zLay} {D : zDm} {a b : Nat} {y : va_E} (w : a ≠ 0) (v : a < 11) (h : eX10_2 Z D a b = some y) : eX10_12 Z D a b = some y := eX10_4_c w (by omega) (gX9_o (by omega) (zDu_o (by omega) (h)))
theorem eX10_2_c {Z : zLay} {D : zDm} {a b : Nat} {y : va_E} (w : a ≠ 0) (v : a < 5) (h : eX10_1 Z D a b = some y) : eX10_12 Z D a b = some y := eX10_3_c w (by omega) (gX3_o (by omega) (zDu_o (by omega) (h)))
theorem eX10_1_c {Z : zLay} {D : zDm} {a b : Nat} {y : va_E} (w : a ≠ 0) (v : a < 1) (h : eX10_0 Z D a b = some y) : eX10_12 Z D a b = some y := eX10_2_c w (by omega) (zDu_o (by omega) (zDu_o (by omega) (h)))
theorem pX10_1 {Z : zLay} {D : zDm} : eX10_12 Z D 1 0 = some (.inl (zca Z 5, 10, .inr (.inr (.inr (.inr (fun _ => none)))))) := eX10_2_c (by decide) (by decide) (zDu_i _ _ _ _)
theorem pX10_6 {Z : zLay} {D : zDm} : eX10_12 Z D 6 0 = some (.inl (zca Z 0, 50, .inl fun _ => 0)) := eX10_3_c (by decide) (by decide) (qX3_6)
theorem pX10_7 {Z : zLay} {D : zDm} : eX10_12 Z D 7 0 = some (.inl (zca Z 0, 50, .inl fun _ => 0)) := eX10_3_c (by decide) (by decide) (qX3_7)
theorem pX10_8 {Z : zLay} {D : zDm} : eX10_12 Z D 8 0 = some (.inl (zca Z 0, 50, .inl fun _ => 0)) := eX10_3_c (by decide) (by decide) (qX3_8)
theorem pX10_9 {Z : zLay} {D : zDm} : eX10_12 Z D 9 0 = some (.inl (zca Z 0, 50, .inl fun _ => 0)) := eX10_3_c (by decide) (by decide) (qX3_9)
theorem pX10_10 {Z : zLay} {D : zDm} : eX10_12 Z D 10 0 = some (.inl (zca Z 0, 50, .inl fun _ => 0)) := eX10_3_c (by decide) (by decide) (qX3_10)
theorem pX10_5 {Z : zLay} {D : zDm} : eX10_12 Z D 5 0 = some (.inr (3, fX3_5 Z)) := eX10_3_c (by decide) (by decide) (qX3_5)
theorem pX10_19 {Z : zLay} {D : zDm} : eX10_12 Z D 19 0 = some (.inl (zca Z 2, 100, .inl fun _ => 0)) := eX10_4_c (by decide) (by decide) (qX9_19)
theorem pX10_11 {Z : zLay} {D : zDm} : eX10_12 Z D 11 0 = some (.inr (9, fX9_2 Z)) := eX10_4_c (by decide) (by decide) (qX9_11)
theorem pX10_12 {Z : zLay} {D : zDm} : eX10_12 Z D 12 0 = some (.inl (zca Z 6, 40, .inr (.inr (.inr (.inr (zfill Z 13 40)))))) := eX10_4_c (by decide) (by decide) (qX9_12)
theorem pX10_14 {Z : zLay} {D : zDm} {b : Nat} (hb : b < 40) : eX10_12 Z D 14 b = some (.inl (zca Z 0, 4, .inl fun _ => 0)) := eX10_4_c (by decide) (by decide) (qX9_14 hb)
theorem pX10_15 {Z : zLay} {D : zDm} {b : Nat} (hb : b < 40) : eX10_12 Z D 15 b = some (.inl (zca Z 0, 4, .inl fun _ => 0)) := eX10_4_c (by decide) (by decide) (qX9_15 hb)
theorem pX10_16 {Z : zLay} {D : zDm} {b : Nat} (hb : b < 40) : eX10_12 Z D 16 b = some (.inl (zca Z 0, 4, .inl fun _ => 0)) := eX10_4_c (by decide) (by decide) (qX9_16 hb)
theorem pX10_17 {Z : zLay} {D : zDm} {b : Nat} (hb : b < 40) : eX10_12 Z D 17 b = some (.inl (zca Z 4, 4, .inl fun _ => 0)) := eX10_4_c (by decide) (by decide) (qX9_17 hb)
theorem pX10_18 {Z : zLay} {D : zDm} {b : Nat} (hb : b < 40) : eX10_12 Z D 18 b = some (.inl (zca Z 4, 4, .inl fun _ => 0)) := eX10_4_c (by decide) (by decide) (qX9_18 hb)
theorem pX10_13 {Z : zLay} {D : zDm} {b : Nat} (hb : b < 40) : eX10_12 Z D 13 b = some (.inr (8, fX8_5 Z b)) := eX10_4_c (by decide) (by decide) (qX9_13 hb)
theorem pX10_22 {Z : zLay} {D : zDm} {b : Nat} (hb : b < 2) : eX10_12 Z D 22 b = some (.inl (zca Z 3, (7200, .inl fun _ => 0))) := eX10_5_c (by decide) (by decide) (qX5_22 hb)
theorem pX10_21 {Z : zLay} {D : zDm} : eX10_12 Z D 21 0 = some (.inl (zca Z 10, 2, .inr (.inr (.inr (.inr (fun i => if i < 2 then some (zad Z 22 i) else none)))))) := eX10_5_c (by decide) (by decide) (qX5_21)
theorem pX10_24 {Z : zLay} {D : zDm} {b : Nat} (hb : b < 2) : eX10_12 Z D 24 b = some (.inl (zca Z 0, (120, .inl fun _ => 0))) := eX10_5_c (by decide) (by decide) (qX5_24 hb)
theorem pX10_23 {Z : zLay} {D : zDm} : eX10_12 Z D 23 0 = some (.inl (zca Z 9, 2, .inr (.inr (.inr (.inr (fun i => if i < 2 then some (zad Z 24 i) else none)))))) := eX10_5_c (by decide) (by decide) (qX5_23)
theorem pX10_20 {Z : zLay} {D : zDm} : eX10_12 Z D 20 0 = some (.inr (5, fX5_2 Z)) := eX10_5_c (by decide) (by decide) (qX5_20)
theorem pX10_26 {Z : zLay} {D : zDm} : eX10_12 Z D 26 0 = some (.inl (zca Z 0, 4, .inl fun _ => 0)) := eX10_6_c (by decide) (by decide) (qX0_26)
theorem pX10_27 {Z : zLay} {D : zDm} : eX10_12 Z D 27 0 = some (.inl (zca Z 0, 4, .inl fun _ => 0)) := eX10_6_c (by decide) (by decide) (qX0_27)
theorem pX10_28 {Z : zLay} {D : zDm} : eX10_12 Z D 28 0 = some (.inl (zca Z 0, 4, .inl fun _ => 0)) := eX10_6_c (by decide) (by decide) (qX0_28)
theorem pX10_29 {Z : zLay} {D : zDm} : eX10_12 Z D 29 0 = some (.inl (zca Z 0, 4, .inl fun _ => 0)) := eX10_6_c (by decide) (by decide) (qX0_29)
theorem pX10_30 {Z : zLay} {D : zDm} : eX10_12 Z D 30 0 = some (.inl (zca Z 0, 30, .inl fun _ => 0)) := eX10_6_c (by decide) (by decide) (qX0_30)
theorem pX10_31 {Z : zLay} {D : zDm} : eX10_12 Z D 31 0 = some (.inl (zca Z 0, 30, .inl fun _ => 0)) := eX10_6_c (by decide) (by decide) (qX0_31)
theorem pX10_32 {Z : zLay} {D : zDm} : eX10_12 Z D 32 0 = some (.inl (zca Z 0, 5, .inl fun _ => 0)) := eX10_6_c (by decide) (by decide) (qX0_32)
theorem pX10_34 {Z : zLay} {D : zDm} {b : Nat} (hb : b < 4) : eX10_12 Z D 34 b = some (.inl (zca Z 0, (32, .inl fun _ => 0))) := eX10_6_c (by decide) (by decide) (qX0_34 hb)
theorem pX10_33 {Z : zLay} {D : zDm} : eX10_12 Z D 33 0 = some (.inl (zca Z 9, 4, .inr (.inr (.inr (.inr (fun i => if i < 4 then some (zad Z 34 i) else none)))))) := eX10_6_c (by decide) (by decide) (qX0_33)
theorem pX10_35 {Z : zLay} {D : zDm} : eX10_12 Z D 35 0 = some (.inl (zca Z 0, 5, .inl fun _ => 0)) := eX10_6_c (by decide) (by decide) (qX0_35)
theorem pX10_36 {Z : zLay} {D : zDm} : eX10_12 Z D 36 0 = some (.inl (zca Z 0, 4, .inl fun _ => 0)) := eX10_6_c (by decide) (by decide) (qX0_36)
theorem pX10_37 {Z : zLay} {D : zDm} : eX10_12 Z D 37 0 = some (.inl (zca Z 0, 5, .inl fun _ => 0)) := eX10_6_c (by decide) (by decide) (qX0_37)
theorem pX10_25 {Z : zLay} {D : zDm} : eX10_12 Z D 25 0 = some (.inr (0, fX0_11 Z)) := eX10_6_c (by decide) (by decide) (qX0_25)
theorem pX10_38 {Z : zLay} {D : zDm} : eX10_12 Z D 38 0 = some (.inr (7, fX7_1 Z)) := eX10_7_c (by decide) (by decide) (qX7_38)
theorem pX10_39 {Z : zLay} {D : zDm} : eX10_12 Z D 39 0 = some (.inl (zca Z 7, 6, .inr (.inr (.inr (.inr (zfill Z 40 6)))))) := eX10_7_c (by decide) (by decide) (qX7_39)
theorem pX10_41 {Z : zLay} {D : zDm} {b : Nat} (hb : b < 6) : eX10_12 Z D 41 b = some (.inl (zca Z 0, 7, .inl fun _ => 0)) := eX10_7_c (by decide) (by decide) (qX7_41 hb)
theorem pX10_42 {Z : zLay} {D : zDm} {b : Nat} (hb : b < 6) : eX10_12 Z D 42 b = some (.inl (zca Z 4, 7, .inl fun _ => 0)) := eX10_7_c (by decide) (by decide) (qX7_42 hb)
theorem pX10_40 {Z : zLay} {D : zDm} {b : Nat} (hb : b < 6) : eX10_12 Z D 40 b = some (.inr (6, fX6_2 Z b)) := eX10_7_c (by decide) (by decide) (qX7_40 hb)
theorem pX10_44 {Z : zLay} {D : zDm} : eX10_12 Z D 44 0 = some (.inl (zca Z 0, 10, .inl fun _ => 0)) := eX10_8_c (by decide) (by decide) (qX1_44)
theorem pX10_45 {Z : zLay} {D : zDm} : eX10_12 Z D 45 0 = some (.inl (zca Z 0, 10, .inl fun _ => 0)) := eX10_8_c (by decide) (by decide) (qX1_45)
theorem pX10_43 {Z : zLay} {D : zDm} : eX10_12 Z D 43 0 = some (.inr (1, fX1_2 Z)) := eX10_8_c (by decide) (by decide) (qX1_43)
theorem pX10_46 {Z : zLay} {D : zDm} : eX10_12 Z D 46 0 = some (.inl (zca Z 8, 3, .inr (.inr (.inr (.inr (fun _ => none)))))) := eX10_9_c (by decide) (by decide) (zDu_i _ _ _ _)
theorem pX10_50 {Z : zLay} {D : zDm} {b : Nat} (hb : b < 6) : eX10_12 Z D 50 b = some (.inl (zca Z 0, (200, .inl fun _ => 0))) := eX10_10_c (by decide) (by decide) (zDr_i _ hb)
theorem pX10_49 {Z : zLay} {D : zDm} : eX10_12 Z D 49 0 = some (.inl (zca Z 9, 6, .inr (.inr (.inr (.inr (fun i => if i < 6 then some (zad Z 50 i) else none)))))) := eX10_10_c (by decide) (by decide) (zDr_o (by decide) (zDu_i _ _ _ _))
theorem pX10_51 {Z : zLay} {D : zDm} : eX10_12 Z D 51 0 = some (.inl (zca Z 0, 3, .inl (fun j => if j = (2 : Int32).toNatClampNeg then (-1) else (fun j => if j = (1 : Int32).toNatClampNeg then (-1) else (fun j => if j = (0 : Int32).toNatClampNeg then (-1) else 0) j) j))) := eX10_12_c (by decide) (by decide) (zDu_i _ _ _ _)
theorem pX10_52 {Z : zLay} {D : zDm} : eX10_12 Z D 52 0 = some (.inl (zca Z 0, 20, .inl fun _ => 0)) := zDu_i _ _ _ _
def wX10_1 (Z : zLay) (D : zDm) : Nat → zDm
  | 0 => D
  | n + 1 => zDu (gX2 Z n (wX10_1 Z D n)) 1 0 (.inl (zca Z 5, 10, .inr (.inr (.inr (.inr (zfill Z 2 (n + 1)))))))
theorem wX10_1_o {Z : zLay} {D : zDm} {a b : Nat} {y : va_E} (v : a ≠ 1) (u : a < 2 ∨ 4 < a) (h : D a b = some y) (n : Nat) : wX10_1 Z D n a b = some y := by
  induction n with
  | zero => exact h
  | succ n ih => exact zDu_o v (gX2_o u ih)
theorem wX10_1_A {Z : zLay} {D : zDm} (h : D 1 0 = some (.inl (zca Z 5, 10, .inr (.inr (.inr (.inr (fun _ => none))))))) (n : Nat) : wX10_1 Z D n 1 0 = some (.inl (zca Z 5, 10, .inr (.inr (.inr (.inr (zfill Z 2 n)))))) := by
  cases n with
  | zero => exact h
  | succ n => exact zDu_i _ _ _ _
theorem wX10_1_3 {Z : zLay} {D : zDm} (n : Nat) : ∀ j, j < n → wX10_1 Z D n 3 j = some (.inl (zca Z 0, 4, .inl fun _ => 0)) := by
  induction n with
  | zero => exact fun j h => absurd h (Nat.not_lt_zero _)
  | succ n ih =>
    intro j h
    by_cases q : j = n
    · subst q
      exact zDu_o (by decide) qX2_3
    · exact zDu_o (by decide) (gX2_b q (ih j (by omega)))
theorem wX10_1_4 {Z : zLay} {D : zDm} (n : Nat) : ∀ j, j < n → wX10_1 Z D n 4 j = some (.inl (zca Z 0, 4, .inl fun _ => 0)) := by
  induction n with
  | zero => exact fun j h => absurd h (Nat.not_lt_zero _)
  | succ n ih =>
    intro j h
    by_cases q : j = n
    · subst q
      exact zDu_o (by decide) qX2_4
    · exact zDu_o (by decide) (gX2_b q (ih j (by omega)))
theorem wX10_1_2 {Z : zLay} {D : zDm} (n : Nat) : ∀ j, j < n → wX10_1 Z D n 2 j = some (.inr (2, fX2_2 Z j)) := by
  induction n with
  | zero => exact fun j h => absurd h (Nat.not_lt_zero _)
  | succ n ih =>
    intro j h
    by_cases q : j = n
    · subst q
      exact zDu_o (by decide) qX2_2
    · exact zDu_o (by decide) (gX2_b q (ih j (by omega)))
theorem wq_n304 : Cond.methodLinkNest RX10 79 yX2_init "AlpCommune" ∈ zNest := zNest_mem 304 (by decide +kernel) (by decide +kernel)
theorem wq_303 : Cond.instantiable "AlpCommune$House" (12 : Nat) ∈ zTB := zTB_mem 429 (by decide +kernel) (by decide +kernel)
theorem wq_10 : Cond.initialized "AlpCommune$House" ∈ zTB := zTB_mem 136 (by decide +kernel) (by decide +kernel)
theorem wq_305 : Cond.instanceMethod ({ cls := "AlpCommune$House", name := "<init>", desc := "()V" } : MethodName) ∈ zTB := zTB_mem 431 (by decide +kernel) (by decide +kernel)
theorem wq_306 : Cond.code yX2_init cX2_init 1 none ∈ zTB := zTB_mem 432 (by decide +kernel) (by decide +kernel)
theorem sX10_h1 {E : zEn} {h n0 : Nat} {Z : zLay} {D : zDm} {Q : State → Prop} (C : zCN E cX10_init RX10 2 Z h n0 1 342 18353) (hh : 3 ≤ h) (hD : D 0 0 = some (.inr (10, fX10_12 Z))) (hA : D 1 0 = some (.inl (zca Z 5, 10, .inr (.inr (.inr (.inr (fun _ => none))))))) (kk : zNN E 2 Z n0 Q 159 [(1, .int (nI 10)), (0, .ref (zad Z 0 0))] [] (wX10_1 Z D 10) 336 18164) : ∀ m n cn bn, n + m = 10 → cn = 306 + 3 * n → bn = 17964 + 20 * n → zNN E 2 Z n0 Q 134 [(1, .int (nI n)), (0, .ref (zad Z 0 0))] [] (wX10_1 Z D n) cn bn := by
  intro m
  induction m with
  | zero =>
    intro n cn bn e1 e2 e3
    obtain rfl : n = 10 := e1
    subst e2 e3
    refine zn_iload_n C dX10_init_134 rfl ?_
    refine zn_bipush C dX10_init_135 (v := 10) (by decide) ?_
    refine zn_icmp C dX10_init_137 (tgt := 159) (by decide) (fun _ => kk) (fun q => absurd (by decide +kernel) q)
  | succ m ih =>
    intro n cn bn e1 e2 e3
    have hn : n < 10 := by omega
    obtain ⟨n1, n2, n3⟩ := nI41_c n (by omega)
    refine zn_iload_n C dX10_init_134 rfl ?_
    refine zn_bipush C dX10_init_135 (v := 10) (by decide) ?_
    refine zn_icmp C dX10_init_137 (tgt := 159) (by decide) (fun q => absurd q ((by decide +kernel : ∀ n, n < 10 → ¬ (10 : Int32) ≤ nI n) n hn)) (fun _ => ?_)
    refine zn_aload_n C dX10_init_140 rfl ?_
    refine zn_get C 0 zin_X10 rfl (Nat.le_of_ble_eq_true rfl) rfl wq_372 dX10_init_141 (wX10_1_o (by decide) (by decide) hD n) (v := .ref (zad Z 1 0)) rfl ?_
    refine zn_iload_n C dX10_init_144 rfl ?_
    refine zn_new C (Cn := RX2) (T := TX2) (N := 12) (ci := 2) (fs := fX2_0) (k := 2) (i := n) zin_X2 tyX2_ok rfl nfX2 wq_28 wq_303 wq_10 dX10_init_145 hn (by show 307 + 3 * n = 1 + cn; omega) (by omega) (by omega) ?_
    refine zn_dup C dX10_init_148 rfl ?_
    refine zn_callN C (mX2 (D := wX10_1 Z D n) (i := n) hn (by omega)) rfl wq_n304 wq_305 wq_306 wq_10 (by decide +kernel) (by decide) (by omega) (by omega) (by omega) dX10_init_149 (Nat.le_of_ble_eq_true rfl) ?_
    refine zn_aast C (k := 1) (i := 0) (k1 := 2) (i1 := n) (N := 10) (t0 := 5) (ci := 2) (f := zfill Z 2 n) (gX2_o (by decide) (wX10_1_A hA n)) rfl qX2_2 rfl n2 (by rw [n3]; exact hn) dX10_init_152 ?_
    rw [n3]
    refine zn_iinc C (kk := 0) dX10_init_153 rfl n1 (by decide) rfl ?_
    refine zn_goto C dX10_init_156 (tgt := 134) (by decide) ?_
    exact ih (n + 1) _ _ (by omega) (by omega) (by omega)
def wX10_46 (Z : zLay) (D : zDm) : Nat → zDm
  | 0 => D
  | n + 1 => zDu (gX4 Z n (wX10_46 Z D n)) 46 0 (.inl (zca Z 8, 3, .inr (.inr (.inr (.inr (zfill Z 47 (n + 1)))))))
theorem wX10_46_o {Z : zLay} {D : zDm} {a b : Nat} {y : va_E} (v : a ≠ 46) (u : a < 47 ∨ 48 < a) (h : D a b = some y) (n : Nat) : wX10_46 Z D n a b = some y := by
  induction n with
  | zero => exact h
  | succ n ih => exact zDu_o v (gX4_o u ih)
theorem wX10_46_A {Z : zLay} {D : zDm} (h : D 46 0 = some (.inl (zca Z 8, 3, .inr (.inr (.inr (.inr (fun _ => none))))))) (n : Nat) : wX10_46 Z D n 46 0 = some (.inl (zca Z 8, 3, .inr (.inr (.inr (.inr (zfill Z 47 n)))))) := by
  cases n with
  | zero => exact h
  | succ n => exact zDu_i _ _ _ _
theorem wX10_46_48 {Z : zLay} {D : zDm} (n : Nat) : ∀ j, j < n → wX10_46 Z D n 48 j = some (.inl (zca Z 1, 60, .inr (.inl fun _ => 0))) := by
  induction n with
  | zero => exact fun j h => absurd h (Nat.not_lt_zero _)
  | succ n ih =>
    intro j h
    by_cases q : j = n
    · subst q
      exact zDu_o (by decide) qX4_48
    · exact zDu_o (by decide) (gX4_b q (ih j (by omega)))
theorem wX10_46_47 {Z : zLay} {D : zDm} (n : Nat) : ∀ j, j < n → wX10_46 Z D n 47 j = some (.inr (4, fX4_2 Z j)) := by
  induction n with
  | zero => exact fun j h => absurd h (Nat.not_lt_zero _)
  | succ n ih =>
    intro j h
    by_cases q : j = n
    · subst q
      exact zDu_o (by decide) qX4_47
    · exact zDu_o (by decide) (gX4_b q (ih j (by omega)))
theorem wq_n355 : Cond.methodLinkNest RX10 80 yX4_init "AlpCommune" ∈ zNest := zNest_mem 355 (by decide +kernel) (by decide +kernel)
theorem wq_354 : Cond.instantiable "AlpCommune$Sheet" (3 : Nat) ∈ zTB := zTB_mem 480 (by decide +kernel) (by decide +kernel)
theorem wq_11 : Cond.initialized "AlpCommune$Sheet" ∈ zTB := zTB_mem 137 (by decide +kernel) (by decide +kernel)
theorem wq_356 : Cond.instanceMethod ({ cls := "AlpCommune$Sheet", name := "<init>", desc := "()V" } : MethodName) ∈ zTB := zTB_mem 482 (by decide +kernel) (by decide +kernel)
theorem wq_357 : Cond.code yX4_init cX4_init 1 none ∈ zTB := zTB_mem 483 (by decide +kernel) (by decide +kernel)
theorem sX10_h46 {E : zEn} {h n0 : Nat} {Z : zLay} {D : zDm} {Q : State → Prop} (C : zCN E cX10_init RX10 2 Z h n0 1 342 18353) (hh : 3 ≤ h) (hD : D 0 0 = some (.inr (10, fX10_12 Z))) (hA : D 46 0 = some (.inl (zca Z 8, 3, .inr (.inr (.inr (.inr (fun _ => none))))))) (kk : zNN E 2 Z n0 Q 185 [(1, .int (nI 3)), (0, .ref (zad Z 0 0))] [] (wX10_46 Z D 3) 342 18353) : ∀ m n cn bn, n + m = 3 → cn = 336 + 2 * n → bn = 18164 + 63 * n → zNN E 2 Z n0 Q 161 [(1, .int (nI n)), (0, .ref (zad Z 0 0))] [] (wX10_46 Z D n) cn bn := by
  intro m
  induction m with
  | zero =>
    intro n cn bn e1 e2 e3
    obtain rfl : n = 3 := e1
    subst e2 e3
    refine zn_iload_n C dX10_init_161 rfl ?_
    refine zn_iconst C dX10_init_162 (v := 3) (by decide) ?_
    refine zn_icmp C dX10_init_163 (tgt := 185) (by decide) (fun _ => kk) (fun q => absurd (by decide +kernel) q)
  | succ m ih =>
    intro n cn bn e1 e2 e3
    have hn : n < 3 := by omega
    obtain ⟨n1, n2, n3⟩ := nI41_c n (by omega)
    refine zn_iload_n C dX10_init_161 rfl ?_
    refine zn_iconst C dX10_init_162 (v := 3) (by decide) ?_
    refine zn_icmp C dX10_init_163 (tgt := 185) (by decide) (fun q => absurd q ((by decide +kernel : ∀ n, n < 3 → ¬ (3 : Int32) ≤ nI n) n hn)) (fun _ => ?_)
    refine zn_aload_n C dX10_init_166 rfl ?_
    refine zn_get C 8 zin_X10 rfl (Nat.le_of_ble_eq_true rfl) rfl wq_380 dX10_init_167 (wX10_46_o (by decide) (by decide) hD n) (v := .ref (zad Z 46 0)) rfl ?_
    refine zn_iload_n C dX10_init_170 rfl ?_
    refine zn_new C (Cn := RX4) (T := TX4) (N := 3) (ci := 4) (fs := fX4_0) (k := 47) (i := n) zin_X4 tyX4_ok rfl nfX4 wq_300 wq_354 wq_11 dX10_init_171 hn (by show 337 + 2 * n = 1 + cn; omega) (by omega) (by omega) ?_
    refine zn_dup C dX10_init_174 rfl ?_
    refine zn_callN C (mX4 (D := wX10_46 Z D n) (i := n) hn (by omega)) rfl wq_n355 wq_356 wq_357 wq_11 (by decide +kernel) (by decide) (by omega) (by omega) (by omega) dX10_init_175 (Nat.le_of_ble_eq_true rfl) ?_
    refine zn_aast C (k := 46) (i := 0) (k1 := 47) (i1 := n) (N := 3) (t0 := 8) (ci := 4) (f := zfill Z 47 n) (gX4_o (by decide) (wX10_46_A hA n)) rfl qX4_47 rfl n2 (by rw [n3]; exact hn) dX10_init_178 ?_
    rw [n3]
    refine zn_iinc C (kk := 0) dX10_init_179 rfl n1 (by decide) rfl ?_
    refine zn_goto C dX10_init_182 (tgt := 161) (by decide) ?_
    exact ih (n + 1) _ _ (by omega) (by omega) (by omega)
def gX10 (Z : zLay) (D : zDm) : zDm := (wX10_46 Z (wX10_1 Z (zDu (eX10_12 Z D) 0 0 (.inr (10, fX10_12 Z))) 10) 3)
theorem gX10_o {Z : zLay} {D : zDm} {a b : Nat} {y : va_E} (w : a < 0 ∨ 52 < a) (h : D a b = some y) : gX10 Z D a b = some y := wX10_46_o (by omega) (by omega) (wX10_1_o (by omega) (by omega) (zDu_o (by omega) (eX10_12_o w h)) _) _
theorem mX10 {l : Launch} {Z : zLay} {D : zDm} {n0 c0 : Nat} (hc : c0 = 1) : zMetN l yX10_init cX10_init 2 3 Z n0 c0 342 18353 [.ref (zad Z 0 0)] (zDu D 0 0 (.inr (10, fX10_0))) (gX10 Z D) := by
  subst hc
  exact zMetN_of (by decide +kernel) rfl (Nat.le_of_ble_eq_true rfl) [(0, .ref (zad Z 0 0))] rfl fun E h1 h2 C => sX10_0 C (Nat.le_refl _) rfl (sX10_4 C (Nat.le_refl _) rfl (sX10_13 C (Nat.le_refl _) rfl (sX10_24 C (Nat.le_refl _) rfl (sX10_35 C (Nat.le_refl _) rfl (sX10_46 C (Nat.le_refl _) rfl (sX10_57 C (Nat.le_refl _) rfl (sX10_68 C (Nat.le_refl _) rfl (sX10_79 C (Nat.le_refl _) rfl (sX10_87 C (Nat.le_refl _) rfl (sX10_100 C (Nat.le_refl _) rfl (sX10_105 C (Nat.le_refl _) rfl (sX10_124 C (Nat.le_refl _) rfl (zn_iconst C dX10_init_132 (v := nI 0) (by decide +kernel) (zn_istore_n C dX10_init_133 (i := 1) rfl (by decide) rfl (sX10_h1 C (Nat.le_refl _) (zDu_i _ _ _ _) (zDu_o (by decide) pX10_1) (zn_iconst C dX10_init_159 (v := nI 0) (by decide +kernel) (zn_istore_n C dX10_init_160 (i := 1) rfl (by decide) rfl (sX10_h46 C (Nat.le_refl _) (wX10_1_o (by decide) (by decide) (zDu_i _ _ _ _) _) (wX10_1_o (by decide) (by decide) (zDu_o (by decide) pX10_46) _) (zn_ret C (by decide +kernel) h1 h2 rfl (Nat.le_refl _) dX10_init_185) 3 0 _ _ rfl rfl rfl))) 10 0 _ _ rfl rfl rfl)))))))))))))))
theorem qX10_6 {Z : zLay} {D : zDm} : gX10 Z D 6 0 = some (.inl (zca Z 0, 50, .inl fun _ => 0)) := wX10_46_o (by decide) (by decide) (wX10_1_o (by decide) (by decide) (zDu_o (by decide) pX10_6) _) _
theorem qX10_7 {Z : zLay} {D : zDm} : gX10 Z D 7 0 = some (.inl (zca Z 0, 50, .inl fun _ => 0)) := wX10_46_o (by decide) (by decide) (wX10_1_o (by decide) (by decide) (zDu_o (by decide) pX10_7) _) _
theorem qX10_8 {Z : zLay} {D : zDm} : gX10 Z D 8 0 = some (.inl (zca Z 0, 50, .inl fun _ => 0)) := wX10_46_o (by decide) (by decide) (wX10_1_o (by decide) (by decide) (zDu_o (by decide) pX10_8) _) _
theorem qX10_9 {Z : zLay} {D : zDm} : gX10 Z D 9 0 = some (.inl (zca Z 0, 50, .inl fun _ => 0)) := wX10_46_o (by decide) (by decide) (wX10_1_o (by decide) (by decide) (zDu_o (by decide) pX10_9) _) _
theorem qX10_10 {Z : zLay} {D : zDm} : gX10 Z D 10 0 = some (.inl (zca Z 0, 50, .inl fun _ => 0)) := wX10_46_o (by decide) (by decide) (wX10_1_o (by decide) (by decide) (zDu_o (by decide) pX10_10) _) _
theorem qX10_5 {Z : zLay} {D : zDm} : gX10 Z D 5 0 = some (.inr (3, fX3_5 Z)) := wX10_46_o (by decide) (by decide) (wX10_1_o (by decide) (by decide) (zDu_o (by decide) pX10_5) _) _
theorem qX10_19 {Z : zLay} {D : zDm} : gX10 Z D 19 0 = some (.inl (zca Z 2, 100, .inl fun _ => 0)) := wX10_46_o (by decide) (by decide) (wX10_1_o (by decide) (by decide) (zDu_o (by decide) pX10_19) _) _
theorem qX10_11 {Z : zLay} {D : zDm} : gX10 Z D 11 0 = some (.inr (9, fX9_2 Z)) := wX10_46_o (by decide) (by decide) (wX10_1_o (by decide) (by decide) (zDu_o (by decide) pX10_11) _) _
theorem qX10_12 {Z : zLay} {D : zDm} : gX10 Z D 12 0 = some (.inl (zca Z 6, 40, .inr (.inr (.inr (.inr (zfill Z 13 40)))))) := wX10_46_o (by decide) (by decide) (wX10_1_o (by decide) (by decide) (zDu_o (by decide) pX10_12) _) _
theorem qX10_14 {Z : zLay} {D : zDm} {b : Nat} (hb : b < 40) : gX10 Z D 14 b = some (.inl (zca Z 0, 4, .inl fun _ => 0)) := wX10_46_o (by decide) (by decide) (wX10_1_o (by decide) (by decide) (zDu_o (by decide) (pX10_14 hb)) _) _
theorem qX10_15 {Z : zLay} {D : zDm} {b : Nat} (hb : b < 40) : gX10 Z D 15 b = some (.inl (zca Z 0, 4, .inl fun _ => 0)) := wX10_46_o (by decide) (by decide) (wX10_1_o (by decide) (by decide) (zDu_o (by decide) (pX10_15 hb)) _) _
theorem qX10_16 {Z : zLay} {D : zDm} {b : Nat} (hb : b < 40) : gX10 Z D 16 b = some (.inl (zca Z 0, 4, .inl fun _ => 0)) := wX10_46_o (by decide) (by decide) (wX10_1_o (by decide) (by decide) (zDu_o (by decide) (pX10_16 hb)) _) _
theorem qX10_17 {Z : zLay} {D : zDm} {b : Nat} (hb : b < 40) : gX10 Z D 17 b = some (.inl (zca Z 4, 4, .inl fun _ => 0)) := wX10_46_o (by decide) (by decide) (wX10_1_o (by decide) (by decide) (zDu_o (by decide) (pX10_17 hb)) _) _
theorem qX10_18 {Z : zLay} {D : zDm} {b : Nat} (hb : b < 40) : gX10 Z D 18 b = some (.inl (zca Z 4, 4, .inl fun _ => 0)) := wX10_46_o (by decide) (by decide) (wX10_1_o (by decide) (by decide) (zDu_o (by decide) (pX10_18 hb)) _) _
theorem qX10_13 {Z : zLay} {D : zDm} {b : Nat} (hb : b < 40) : gX10 Z D 13 b = some (.inr (8, fX8_5 Z b)) := wX10_46_o (by decide) (by decide) (wX10_1_o (by decide) (by decide) (zDu_o (by decide) (pX10_13 hb)) _) _
theorem qX10_22 {Z : zLay} {D : zDm} {b : Nat} (hb : b < 2) : gX10 Z D 22 b = some (.inl (zca Z 3, (7200, .inl fun _ => 0))) := wX10_46_o (by decide) (by decide) (wX10_1_o (by decide) (by decide) (zDu_o (by decide) (pX10_22 hb)) _) _
theorem qX10_21 {Z : zLay} {D : zDm} : gX10 Z D 21 0 = some (.inl (zca Z 10, 2, .inr (.inr (.inr (.inr (fun i => if i < 2 then some (zad Z 22 i) else none)))))) := wX10_46_o (by decide) (by decide) (wX10_1_o (by decide) (by decide) (zDu_o (by decide) pX10_21) _) _
theorem qX10_24 {Z : zLay} {D : zDm} {b : Nat} (hb : b < 2) : gX10 Z D 24 b = some (.inl (zca Z 0, (120, .inl fun _ => 0))) := wX10_46_o (by decide) (by decide) (wX10_1_o (by decide) (by decide) (zDu_o (by decide) (pX10_24 hb)) _) _
theorem qX10_23 {Z : zLay} {D : zDm} : gX10 Z D 23 0 = some (.inl (zca Z 9, 2, .inr (.inr (.inr (.inr (fun i => if i < 2 then some (zad Z 24 i) else none)))))) := wX10_46_o (by decide) (by decide) (wX10_1_o (by decide) (by decide) (zDu_o (by decide) pX10_23) _) _
theorem qX10_20 {Z : zLay} {D : zDm} : gX10 Z D 20 0 = some (.inr (5, fX5_2 Z)) := wX10_46_o (by decide) (by decide) (wX10_1_o (by decide) (by decide) (zDu_o (by decide) pX10_20) _) _
theorem qX10_26 {Z : zLay} {D : zDm} : gX10 Z D 26 0 = some (.inl (zca Z 0, 4, .inl fun _ => 0)) := wX10_46_o (by decide) (by decide) (wX10_1_o (by decide) (by decide) (zDu_o (by decide) pX10_26) _) _
theorem qX10_27 {Z : zLay} {D : zDm} : gX10 Z D 27 0 = some (.inl (zca Z 0, 4, .inl fun _ => 0)) := wX10_46_o (by decide) (by decide) (wX10_1_o (by decide) (by decide) (zDu_o (by decide) pX10_27) _) _
theorem qX10_28 {Z : zLay} {D : zDm} : gX10 Z D 28 0 = some (.inl (zca Z 0, 4, .inl fun _ => 0)) := wX10_46_o (by decide) (by decide) (wX10_1_o (by decide) (by decide) (zDu_o (by decide) pX10_28) _) _
theorem qX10_29 {Z : zLay} {D : zDm} : gX10 Z D 29 0 = some (.inl (zca Z 0, 4, .inl fun _ => 0)) := wX10_46_o (by decide) (by decide) (wX10_1_o (by decide) (by decide) (zDu_o (by decide) pX10_29) _) _
theorem qX10_30 {Z : zLay} {D : zDm} : gX10 Z D 30 0 = some (.inl (zca Z 0, 30, .inl fun _ => 0)) := wX10_46_o (by decide) (by decide) (wX10_1_o (by decide) (by decide) (zDu_o (by decide) pX10_30) _) _
theorem qX10_31 {Z : zLay} {D : zDm} : gX10 Z D 31 0 = some (.inl (zca Z 0, 30, .inl fun _ => 0)) := wX10_46_o (by decide) (by decide) (wX10_1_o (by decide) (by decide) (zDu_o (by decide) pX10_31) _) _
theorem qX10_32 {Z : zLay} {D : zDm} : gX10 Z D 32 0 = some (.inl (zca Z 0, 5, .inl fun _ => 0)) := wX10_46_o (by decide) (by decide) (wX10_1_o (by decide) (by decide) (zDu_o (by decide) pX10_32) _) _
theorem qX10_34 {Z : zLay} {D : zDm} {b : Nat} (hb : b < 4) : gX10 Z D 34 b = some (.inl (zca Z 0, (32, .inl fun _ => 0))) := wX10_46_o (by decide) (by decide) (wX10_1_o (by decide) (by decide) (zDu_o (by decide) (pX10_34 hb)) _) _
theorem qX10_33 {Z : zLay} {D : zDm} : gX10 Z D 33 0 = some (.inl (zca Z 9, 4, .inr (.inr (.inr (.inr (fun i => if i < 4 then some (zad Z 34 i) else none)))))) := wX10_46_o (by decide) (by decide) (wX10_1_o (by decide) (by decide) (zDu_o (by decide) pX10_33) _) _
theorem qX10_35 {Z : zLay} {D : zDm} : gX10 Z D 35 0 = some (.inl (zca Z 0, 5, .inl fun _ => 0)) := wX10_46_o (by decide) (by decide) (wX10_1_o (by decide) (by decide) (zDu_o (by decide) pX10_35) _) _
theorem qX10_36 {Z : zLay} {D : zDm} : gX10 Z D 36 0 = some (.inl (zca Z 0, 4, .inl fun _ => 0)) := wX10_46_o (by decide) (by decide) (wX10_1_o (by decide) (by decide) (zDu_o (by decide) pX10_36) _) _
theorem qX10_37 {Z : zLay} {D : zDm} : gX10 Z D 37 0 = some (.inl (zca Z 0, 5, .inl fun _ => 0)) := wX10_46_o (by decide) (by decide) (wX10_1_o (by decide) (by decide) (zDu_o (by decide) pX10_37) _) _
theorem qX10_25 {Z : zLay} {D : zDm} : gX10 Z D 25 0 = some (.inr (0, fX0_11 Z)) := wX10_46_o (by decide) (by decide) (wX10_1_o (by decide) (by decide) (zDu_o (by decide) pX10_25) _) _
theorem qX10_38 {Z : zLay} {D : zDm} : gX10 Z D 38 0 = some (.inr (7, fX7_1 Z)) := wX10_46_o (by decide) (by decide) (wX10_1_o (by decide) (by decide) (zDu_o (by decide) pX10_38) _) _
theorem qX10_39 {Z : zLay} {D : zDm} : gX10 Z D 39 0 = some (.inl (zca Z 7, 6, .inr (.inr (.inr (.inr (zfill Z 40 6)))))) := wX10_46_o (by decide) (by decide) (wX10_1_o (by decide) (by decide) (zDu_o (by decide) pX10_39) _) _
theorem qX10_41 {Z : zLay} {D : zDm} {b : Nat} (hb : b < 6) : gX10 Z D 41 b = some (.inl (zca Z 0, 7, .inl fun _ => 0)) := wX10_46_o (by decide) (by decide) (wX10_1_o (by decide) (by decide) (zDu_o (by decide) (pX10_41 hb)) _) _
theorem qX10_42 {Z : zLay} {D : zDm} {b : Nat} (hb : b < 6) : gX10 Z D 42 b = some (.inl (zca Z 4, 7, .inl fun _ => 0)) := wX10_46_o (by decide) (by decide) (wX10_1_o (by decide) (by decide) (zDu_o (by decide) (pX10_42 hb)) _) _
theorem qX10_40 {Z : zLay} {D : zDm} {b : Nat} (hb : b < 6) : gX10 Z D 40 b = some (.inr (6, fX6_2 Z b)) := wX10_46_o (by decide) (by decide) (wX10_1_o (by decide) (by decide) (zDu_o (by decide) (pX10_40 hb)) _) _
theorem qX10_44 {Z : zLay} {D : zDm} : gX10 Z D 44 0 = some (.inl (zca Z 0, 10, .inl fun _ => 0)) := wX10_46_o (by decide) (by decide) (wX10_1_o (by decide) (by decide) (zDu_o (by decide) pX10_44) _) _
theorem qX10_45 {Z : zLay} {D : zDm} : gX10 Z D 45 0 = some (.inl (zca Z 0, 10, .inl fun _ => 0)) := wX10_46_o (by decide) (by decide) (wX10_1_o (by decide) (by decide) (zDu_o (by decide) pX10_45) _) _
theorem qX10_43 {Z : zLay} {D : zDm} : gX10 Z D 43 0 = some (.inr (1, fX1_2 Z)) := wX10_46_o (by decide) (by decide) (wX10_1_o (by decide) (by decide) (zDu_o (by decide) pX10_43) _) _
theorem qX10_50 {Z : zLay} {D : zDm} {b : Nat} (hb : b < 6) : gX10 Z D 50 b = some (.inl (zca Z 0, (200, .inl fun _ => 0))) := wX10_46_o (by decide) (by decide) (wX10_1_o (by decide) (by decide) (zDu_o (by decide) (pX10_50 hb)) _) _
theorem qX10_49 {Z : zLay} {D : zDm} : gX10 Z D 49 0 = some (.inl (zca Z 9, 6, .inr (.inr (.inr (.inr (fun i => if i < 6 then some (zad Z 50 i) else none)))))) := wX10_46_o (by decide) (by decide) (wX10_1_o (by decide) (by decide) (zDu_o (by decide) pX10_49) _) _
theorem qX10_51 {Z : zLay} {D : zDm} : gX10 Z D 51 0 = some (.inl (zca Z 0, 3, .inl (fun j => if j = (2 : Int32).toNatClampNeg then (-1) else (fun j => if j = (1 : Int32).toNatClampNeg then (-1) else (fun j => if j = (0 : Int32).toNatClampNeg then (-1) else 0) j) j))) := wX10_46_o (by decide) (by decide) (wX10_1_o (by decide) (by decide) (zDu_o (by decide) pX10_51) _) _
theorem qX10_52 {Z : zLay} {D : zDm} : gX10 Z D 52 0 = some (.inl (zca Z 0, 20, .inl fun _ => 0)) := wX10_46_o (by decide) (by decide) (wX10_1_o (by decide) (by decide) (zDu_o (by decide) pX10_52) _) _
theorem qX10_0 {Z : zLay} {D : zDm} : gX10 Z D 0 0 = some (.inr (10, fX10_12 Z)) := wX10_46_o (by decide) (by decide) (wX10_1_o (by decide) (by decide) (zDu_i _ _ _ _) _) _
theorem qX10_1 {Z : zLay} {D : zDm} : gX10 Z D 1 0 = some (.inl (zca Z 5, 10, .inr (.inr (.inr (.inr (zfill Z 2 10)))))) := wX10_46_o (by decide) (by decide) (wX10_1_A (zDu_o (by decide) pX10_1) 10) _
theorem qX10_3 {Z : zLay} {D : zDm} {b : Nat} (hb : b < 10) : gX10 Z D 3 b = some (.inl (zca Z 0, 4, .inl fun _ => 0)) := wX10_46_o (by decide) (by decide) (wX10_1_3 10 b hb) _
theorem qX10_4 {Z : zLay} {D : zDm} {b : Nat} (hb : b < 10) : gX10 Z D 4 b = some (.inl (zca Z 0, 4, .inl fun _ => 0)) := wX10_46_o (by decide) (by decide) (wX10_1_4 10 b hb) _
theorem qX10_2 {Z : zLay} {D : zDm} {b : Nat} (hb : b < 10) : gX10 Z D 2 b = some (.inr (2, fX2_2 Z b)) := wX10_46_o (by decide) (by decide) (wX10_1_2 10 b hb) _
theorem qX10_46 {Z : zLay} {D : zDm} : gX10 Z D 46 0 = some (.inl (zca Z 8, 3, .inr (.inr (.inr (.inr (zfill Z 47 3)))))) := wX10_46_A (wX10_1_o (by decide) (by decide) (zDu_o (by decide) pX10_46) _) 3
theorem qX10_48 {Z : zLay} {D : zDm} {b : Nat} (hb : b < 3) : gX10 Z D 48 b = some (.inl (zca Z 1, 60, .inr (.inl fun _ => 0))) := wX10_46_48 3 b hb
theorem qX10_47 {Z : zLay} {D : zDm} {b : Nat} (hb : b < 3) : gX10 Z D 47 b = some (.inr (4, fX4_2 Z b)) := wX10_46_47 3 b hb
end
section
theorem wq_1084 : Cond.methodLink "AlpCommuneModel" (1 : Nat) ({ cls := "java/lang/Object", name := "<init>", desc := "()V" } : MethodName) ∈ zTB := zTB_mem 1210 (by decide +kernel) (by decide +kernel)
theorem wq_1090 : Cond.fieldLink "AlpCommuneModel" (9 : Nat) "AlpCommuneModel" "has" "[[I" ∈ zTB := zTB_mem 1216 (by decide +kernel) (by decide +kernel)
theorem wq_1085 : Cond.classLink "AlpCommuneModel" (7 : Nat) "[[I" ∈ zTB := zTB_mem 1211 (by decide +kernel) (by decide +kernel)
theorem wq_1091 : Cond.fieldLink "AlpCommuneModel" (14 : Nat) "AlpCommuneModel" "hungry" "[I" ∈ zTB := zTB_mem 1217 (by decide +kernel) (by decide +kernel)
theorem wq_1092 : Cond.fieldLink "AlpCommuneModel" (18 : Nat) "AlpCommuneModel" "milk" "[I" ∈ zTB := zTB_mem 1218 (by decide +kernel) (by decide +kernel)
theorem wq_1093 : Cond.fieldLink "AlpCommuneModel" (21 : Nat) "AlpCommuneModel" "sum" "[I" ∈ zTB := zTB_mem 1219 (by decide +kernel) (by decide +kernel)
theorem wq_1094 : Cond.fieldLink "AlpCommuneModel" (24 : Nat) "AlpCommuneModel" "rest" "[I" ∈ zTB := zTB_mem 1220 (by decide +kernel) (by decide +kernel)
theorem wq_1095 : Cond.fieldLink "AlpCommuneModel" (27 : Nat) "AlpCommuneModel" "countedHay" "[I" ∈ zTB := zTB_mem 1221 (by decide +kernel) (by decide +kernel)
theorem wq_1096 : Cond.fieldLink "AlpCommuneModel" (30 : Nat) "AlpCommuneModel" "wheels" "[I" ∈ zTB := zTB_mem 1222 (by decide +kernel) (by decide +kernel)
theorem wq_1097 : Cond.fieldLink "AlpCommuneModel" (33 : Nat) "AlpCommuneModel" "logs" "[I" ∈ zTB := zTB_mem 1223 (by decide +kernel) (by decide +kernel)
theorem wq_1098 : Cond.fieldLink "AlpCommuneModel" (36 : Nat) "AlpCommuneModel" "worked" "[I" ∈ zTB := zTB_mem 1224 (by decide +kernel) (by decide +kernel)
theorem wq_1099 : Cond.fieldLink "AlpCommuneModel" (39 : Nat) "AlpCommuneModel" "up" "[[I" ∈ zTB := zTB_mem 1225 (by decide +kernel) (by decide +kernel)
theorem wq_1101 : Cond.fieldLink "AlpCommuneModel" (42 : Nat) "AlpCommuneModel" "kind" "[I" ∈ zTB := zTB_mem 1227 (by decide +kernel) (by decide +kernel)
theorem wq_1102 : Cond.fieldLink "AlpCommuneModel" (45 : Nat) "AlpCommuneModel" "owner" "[I" ∈ zTB := zTB_mem 1228 (by decide +kernel) (by decide +kernel)
theorem wq_1103 : Cond.fieldLink "AlpCommuneModel" (48 : Nat) "AlpCommuneModel" "part" "[I" ∈ zTB := zTB_mem 1229 (by decide +kernel) (by decide +kernel)
theorem wq_1104 : Cond.fieldLink "AlpCommuneModel" (51 : Nat) "AlpCommuneModel" "lentTo" "[I" ∈ zTB := zTB_mem 1230 (by decide +kernel) (by decide +kernel)
theorem wq_1105 : Cond.fieldLink "AlpCommuneModel" (54 : Nat) "AlpCommuneModel" "lentTill" "[I" ∈ zTB := zTB_mem 1231 (by decide +kernel) (by decide +kernel)
theorem wq_1106 : Cond.fieldLink "AlpCommuneModel" (57 : Nat) "AlpCommuneModel" "tape" "[I" ∈ zTB := zTB_mem 1232 (by decide +kernel) (by decide +kernel)
theorem wq_1109 : Cond.fieldLink "AlpCommuneModel" (60 : Nat) "AlpCommuneModel" "word" "[[I" ∈ zTB := zTB_mem 1235 (by decide +kernel) (by decide +kernel)
theorem wq_1110 : Cond.fieldLink "AlpCommuneModel" (63 : Nat) "AlpCommuneModel" "tests" "[[I" ∈ zTB := zTB_mem 1236 (by decide +kernel) (by decide +kernel)
theorem wq_1111 : Cond.fieldLink "AlpCommuneModel" (66 : Nat) "AlpCommuneModel" "told" "[[I" ∈ zTB := zTB_mem 1237 (by decide +kernel) (by decide +kernel)
theorem wq_1112 : Cond.fieldLink "AlpCommuneModel" (71 : Nat) "AlpCommuneModel" "isTold" "[[Z" ∈ zTB := zTB_mem 1238 (by decide +kernel) (by decide +kernel)
theorem wq_1086 : Cond.classLink "AlpCommuneModel" (69 : Nat) "[[Z" ∈ zTB := zTB_mem 1212 (by decide +kernel) (by decide +kernel)
theorem wq_1114 : Cond.fieldLink "AlpCommuneModel" (74 : Nat) "AlpCommuneModel" "high" "[I" ∈ zTB := zTB_mem 1240 (by decide +kernel) (by decide +kernel)
theorem wq_1115 : Cond.fieldLink "AlpCommuneModel" (77 : Nat) "AlpCommuneModel" "area" "[I" ∈ zTB := zTB_mem 1241 (by decide +kernel) (by decide +kernel)
theorem wq_1116 : Cond.fieldLink "AlpCommuneModel" (80 : Nat) "AlpCommuneModel" "grass" "[I" ∈ zTB := zTB_mem 1242 (by decide +kernel) (by decide +kernel)
theorem wq_1117 : Cond.fieldLink "AlpCommuneModel" (83 : Nat) "AlpCommuneModel" "snow" "[I" ∈ zTB := zTB_mem 1243 (by decide +kernel) (by decide +kernel)
theorem wq_1119 : Cond.fieldLink "AlpCommuneModel" (86 : Nat) "AlpCommuneModel" "book" "[[I" ∈ zTB := zTB_mem 1245 (by decide +kernel) (by decide +kernel)
theorem wq_1121 : Cond.fieldLink "AlpCommuneModel" (89 : Nat) "AlpCommuneModel" "age" "[I" ∈ zTB := zTB_mem 1247 (by decide +kernel) (by decide +kernel)
theorem wq_1122 : Cond.fieldLink "AlpCommuneModel" (92 : Nat) "AlpCommuneModel" "works" "[Z" ∈ zTB := zTB_mem 1248 (by decide +kernel) (by decide +kernel)
theorem wq_1123 : Cond.fieldLink "AlpCommuneModel" (96 : Nat) "AlpCommuneModel" "layers" "[I" ∈ zTB := zTB_mem 1249 (by decide +kernel) (by decide +kernel)
theorem wq_1124 : Cond.fieldLink "AlpCommuneModel" (99 : Nat) "AlpCommuneModel" "lies" "[[I" ∈ zTB := zTB_mem 1250 (by decide +kernel) (by decide +kernel)
theorem wq_1125 : Cond.fieldLink "AlpCommuneModel" (102 : Nat) "AlpCommuneModel" "soft" "[[Z" ∈ zTB := zTB_mem 1251 (by decide +kernel) (by decide +kernel)
theorem wq_1126 : Cond.fieldLink "AlpCommuneModel" (105 : Nat) "AlpCommuneModel" "slid" "[I" ∈ zTB := zTB_mem 1252 (by decide +kernel) (by decide +kernel)
theorem wq_1131 : Cond.fieldLink "AlpCommuneModel" (108 : Nat) "AlpCommuneModel" "measured" "I" ∈ zTB := zTB_mem 1257 (by decide +kernel) (by decide +kernel)
theorem wq_1135 : Cond.fieldLink "AlpCommuneModel" (112 : Nat) "AlpCommuneModel" "channelHouse" "[I" ∈ zTB := zTB_mem 1261 (by decide +kernel) (by decide +kernel)
theorem wq_1136 : Cond.fieldLink "AlpCommuneModel" (115 : Nat) "AlpCommuneModel" "channelLeak" "[I" ∈ zTB := zTB_mem 1262 (by decide +kernel) (by decide +kernel)
theorem wq_1137 : Cond.fieldLink "AlpCommuneModel" (118 : Nat) "AlpCommuneModel" "lastTurn" "[I" ∈ zTB := zTB_mem 1263 (by decide +kernel) (by decide +kernel)
theorem wq_1139 : Cond.fieldLink "AlpCommuneModel" (121 : Nat) "AlpCommuneModel" "lastYear" "I" ∈ zTB := zTB_mem 1265 (by decide +kernel) (by decide +kernel)
theorem wq_1140 : Cond.fieldLink "AlpCommuneModel" (124 : Nat) "AlpCommuneModel" "sheetSort" "[I" ∈ zTB := zTB_mem 1266 (by decide +kernel) (by decide +kernel)
theorem wq_1141 : Cond.fieldLink "AlpCommuneModel" (127 : Nat) "AlpCommuneModel" "sheetSize" "[I" ∈ zTB := zTB_mem 1267 (by decide +kernel) (by decide +kernel)
theorem wq_1142 : Cond.fieldLink "AlpCommuneModel" (130 : Nat) "AlpCommuneModel" "sheet" "[[I" ∈ zTB := zTB_mem 1268 (by decide +kernel) (by decide +kernel)
theorem wq_1143 : Cond.fieldLink "AlpCommuneModel" (133 : Nat) "AlpCommuneModel" "noNumber" "[[Z" ∈ zTB := zTB_mem 1269 (by decide +kernel) (by decide +kernel)
theorem wq_1144 : Cond.fieldLink "AlpCommuneModel" (136 : Nat) "AlpCommuneModel" "trace" "[I" ∈ zTB := zTB_mem 1270 (by decide +kernel) (by decide +kernel)
theorem wq_1149 : Cond.fieldLink "AlpCommuneModel" (139 : Nat) "AlpCommuneModel" "test" "[I" ∈ zTB := zTB_mem 1275 (by decide +kernel) (by decide +kernel)
theorem wq_1150 : Cond.fieldLink "AlpCommuneModel" (142 : Nat) "AlpCommuneModel" "now" "[I" ∈ zTB := zTB_mem 1276 (by decide +kernel) (by decide +kernel)
theorem wq_1151 : Cond.fieldLink "AlpCommuneModel" (145 : Nat) "AlpCommuneModel" "mindGrass" "[I" ∈ zTB := zTB_mem 1277 (by decide +kernel) (by decide +kernel)
theorem wq_1152 : Cond.fieldLink "AlpCommuneModel" (148 : Nat) "AlpCommuneModel" "mindSnow" "[I" ∈ zTB := zTB_mem 1278 (by decide +kernel) (by decide +kernel)
theorem wq_1153 : Cond.fieldLink "AlpCommuneModel" (151 : Nat) "AlpCommuneModel" "mindUp" "[[I" ∈ zTB := zTB_mem 1279 (by decide +kernel) (by decide +kernel)
theorem wq_1154 : Cond.fieldLink "AlpCommuneModel" (154 : Nat) "AlpCommuneModel" "chosen" "[I" ∈ zTB := zTB_mem 1280 (by decide +kernel) (by decide +kernel)
theorem wq_1155 : Cond.fieldLink "AlpCommuneModel" (157 : Nat) "AlpCommuneModel" "bestChosen" "[I" ∈ zTB := zTB_mem 1281 (by decide +kernel) (by decide +kernel)
section YX11
variable {E : zEn} {nL h n0 c0 mc ms : Nat} {Z : zLay} {D : zDm} {Q : State → Prop}
def fX11_0 : List Value := [.int 0, .int 0, .null, .null, .null, .null, .null, .null, .null, .null, .null, .null, .int 0, .null, .null, .null, .null, .null, .null, .int 0, .int 0, .null, .null, .null, .null, .int 0, .null, .null, .null, .null, .int 0, .null, .int 0, .null, .null, .null, .null, .null, .null, .int 0, .int 0, .int 0, .int 0, .int 0, .int 0, .int 0, .int 0, .null, .null, .null, .int 0, .int 0, .null, .null, .null, .null, .null, .int 0, .int 0, .int 0, .int 0, .null, .null, .null, .null, .null, .null, .null]
theorem nfX11 : ∀ j, j < 68 → defaultValue (tyX11 j) = vp_V fX11_0 j := by decide +kernel
def eX11_0 (Z : zLay) (D : zDm) : zDm := D
theorem sX11_0 (C : zCN E cX11_init RX11 2 Z h n0 c0 368 32691) (hh : 1 ≤ h) (hc : c0 = 344) (kk : zNN E 2 Z n0 Q 4 [(0, .ref (zad Z 60 0))] [] (zDu (eX11_0 Z D) 60 0 (.inr (11, fX11_0))) 0 0) : zNN E 2 Z n0 Q 0 [(0, .ref (zad Z 60 0))] [] (zDu (eX11_0 Z D) 60 0 (.inr (11, fX11_0))) 0 0 := by
  subst hc
  refine zn_aload_n C dX11_init_0 rfl ?_
  refine zn_obj C wq_1084 wq_26 wq_27 dX11_init_1 (by omega) (Nat.le_of_ble_eq_true rfl) ?_
  exact kk
def fX11_1 (Z : zLay) : List Value := [.int 0, .int 0, .ref (zad Z 61 0), .null, .null, .null, .null, .null, .null, .null, .null, .null, .int 0, .null, .null, .null, .null, .null, .null, .int 0, .int 0, .null, .null, .null, .null, .int 0, .null, .null, .null, .null, .int 0, .null, .int 0, .null, .null, .null, .null, .null, .null, .int 0, .int 0, .int 0, .int 0, .int 0, .int 0, .int 0, .int 0, .null, .null, .null, .int 0, .int 0, .null, .null, .null, .null, .null, .int 0, .int 0, .int 0, .int 0, .null, .null, .null, .null, .null, .null, .null]
def eX11_1 (Z : zLay) (D : zDm) : zDm := (zDr (zDu (zDu (eX11_0 Z D) 60 0 (.inr (11, fX11_0))) 61 0 (.inl (zca Z 9, 10, .inr (.inr (.inr (.inr (fun i => if i < 10 then some (zad Z 62 i) else none))))))) 62 10 (.inl (zca Z 0, (5, .inl fun _ => 0))))
theorem sX11_4 (C : zCN E cX11_init RX11 2 Z h n0 c0 368 32691) (hh : 1 ≤ h) (hc : c0 = 344) (kk : zNN E 2 Z n0 Q 15 [(0, .ref (zad Z 60 0))] [] (zDu (eX11_1 Z D) 60 0 (.inr (11, fX11_1 Z))) 11 60) : zNN E 2 Z n0 Q 4 [(0, .ref (zad Z 60 0))] [] (zDu (eX11_0 Z D) 60 0 (.inr (11, fX11_0))) 0 0 := by
  subst hc
  refine zn_aload_n C dX11_init_4 rfl ?_
  refine zn_bipush C dX11_init_5 (v := 10) (by decide) ?_
  refine zn_iconst C dX11_init_7 (v := 5) (by decide) ?_
  refine zn_mna C (ty := .int) (N := 10) (M := 5) (t0 := 9) (t1 := 0) (k := 61) (k1 := 62) (a0 := (5, .inl fun _ => 0)) wq_1085 (by unfold zOvL; simp) wq_61 rfl rfl (fun _ _ q => q) dX11_init_8 (by decide) (by decide) (by decide) (by decide) (by decide) (by decide) (by decide) rfl rfl (fun _ => rfl) (by decide) (by decide) rfl (fun j _ => by show 345 + 1 * j = 344 + 0 + 1 + j; omega) (by omega) (by omega) ?_
  refine zn_putF C (by decide +kernel) 2 zin_X11 rfl (Nat.le_of_ble_eq_true rfl) rfl rfl tyX11_ok nmX11 rfl (ty := tyX11 2) (by decide +kernel) wq_1090 dX11_init_12 (zDr_o (by decide) (zDu_o (by decide) (zDu_i _ _ _ _))) (Nat.le_of_ble_eq_true rfl) rfl rfl ?_
  exact kk
def fX11_2 (Z : zLay) : List Value := [.int 0, .int 0, .ref (zad Z 61 0), .ref (zad Z 63 0), .null, .null, .null, .null, .null, .null, .null, .null, .int 0, .null, .null, .null, .null, .null, .null, .int 0, .int 0, .null, .null, .null, .null, .int 0, .null, .null, .null, .null, .int 0, .null, .int 0, .null, .null, .null, .null, .null, .null, .int 0, .int 0, .int 0, .int 0, .int 0, .int 0, .int 0, .int 0, .null, .null, .null, .int 0, .int 0, .null, .null, .null, .null, .null, .int 0, .int 0, .int 0, .int 0, .null, .null, .null, .null, .null, .null, .null]
def eX11_2 (Z : zLay) (D : zDm) : zDm := (zDu (zDu (eX11_1 Z D) 60 0 (.inr (11, fX11_1 Z))) 63 0 (.inl (zca Z 0, 10, .inl fun _ => 0)))
theorem sX11_15 (C : zCN E cX11_init RX11 2 Z h n0 c0 368 32691) (hh : 1 ≤ h) (hc : c0 = 344) (kk : zNN E 2 Z n0 Q 23 [(0, .ref (zad Z 60 0))] [] (zDu (eX11_2 Z D) 60 0 (.inr (11, fX11_2 Z))) 12 70) : zNN E 2 Z n0 Q 15 [(0, .ref (zad Z 60 0))] [] (zDu (eX11_1 Z D) 60 0 (.inr (11, fX11_1 Z))) 11 60 := by
  subst hc
  refine zn_aload_n C dX11_init_15 rfl ?_
  refine zn_bipush C dX11_init_16 (v := 10) (by decide) ?_
  refine zn_newa C (atype := .int) (k := 63) (i := 0) (t0 := 0) (N := 10) (a0 := (10, .inl fun _ => 0)) wq_61 rfl dX11_init_18 (by decide) (by decide) (by decide) (fun _ => rfl) (by decide) rfl (by omega) (by omega) ?_
  refine zn_putF C (by decide +kernel) 3 zin_X11 rfl (Nat.le_of_ble_eq_true rfl) rfl rfl tyX11_ok nmX11 rfl (ty := tyX11 3) (by decide +kernel) wq_1091 dX11_init_20 (zDu_o (by decide) (zDu_i _ _ _ _)) (Nat.le_of_ble_eq_true rfl) rfl rfl ?_
  exact kk
def fX11_3 (Z : zLay) : List Value := [.int 0, .int 0, .ref (zad Z 61 0), .ref (zad Z 63 0), .ref (zad Z 64 0), .null, .null, .null, .null, .null, .null, .null, .int 0, .null, .null, .null, .null, .null, .null, .int 0, .int 0, .null, .null, .null, .null, .int 0, .null, .null, .null, .null, .int 0, .null, .int 0, .null, .null, .null, .null, .null, .null, .int 0, .int 0, .int 0, .int 0, .int 0, .int 0, .int 0, .int 0, .null, .null, .null, .int 0, .int 0, .null, .null, .null, .null, .null, .int 0, .int 0, .int 0, .int 0, .null, .null, .null, .null, .null, .null, .null]
def eX11_3 (Z : zLay) (D : zDm) : zDm := (zDu (zDu (eX11_2 Z D) 60 0 (.inr (11, fX11_2 Z))) 64 0 (.inl (zca Z 0, 10, .inl fun _ => 0)))
theorem sX11_23 (C : zCN E cX11_init RX11 2 Z h n0 c0 368 32691) (hh : 1 ≤ h) (hc : c0 = 344) (kk : zNN E 2 Z n0 Q 31 [(0, .ref (zad Z 60 0))] [] (zDu (eX11_3 Z D) 60 0 (.inr (11, fX11_3 Z))) 13 80) : zNN E 2 Z n0 Q 23 [(0, .ref (zad Z 60 0))] [] (zDu (eX11_2 Z D) 60 0 (.inr (11, fX11_2 Z))) 12 70 := by
  subst hc
  refine zn_aload_n C dX11_init_23 rfl ?_
  refine zn_bipush C dX11_init_24 (v := 10) (by decide) ?_
  refine zn_newa C (atype := .int) (k := 64) (i := 0) (t0 := 0) (N := 10) (a0 := (10, .inl fun _ => 0)) wq_61 rfl dX11_init_26 (by decide) (by decide) (by decide) (fun _ => rfl) (by decide) rfl (by omega) (by omega) ?_
  refine zn_putF C (by decide +kernel) 4 zin_X11 rfl (Nat.le_of_ble_eq_true rfl) rfl rfl tyX11_ok nmX11 rfl (ty := tyX11 4) (by decide +kernel) wq_1092 dX11_init_28 (zDu_o (by decide) (zDu_i _ _ _ _)) (Nat.le_of_ble_eq_true rfl) rfl rfl ?_
  exact kk
def fX11_4 (Z : zLay) : List Value := [.int 0, .int 0, .ref (zad Z 61 0), .ref (zad Z 63 0), .ref (zad Z 64 0), .ref (zad Z 65 0), .null, .null, .null, .null, .null, .null, .int 0, .null, .null, .null, .null, .null, .null, .int 0, .int 0, .null, .null, .null, .null, .int 0, .null, .null, .null, .null, .int 0, .null, .int 0, .null, .null, .null, .null, .null, .null, .int 0, .int 0, .int 0, .int 0, .int 0, .int 0, .int 0, .int 0, .null, .null, .null, .int 0, .int 0, .null, .null, .null, .null, .null, .int 0, .int 0, .int 0, .int 0, .null, .null, .null, .null, .null, .null, .null]
def eX11_4 (Z : zLay) (D : zDm) : zDm := (zDu (zDu (eX11_3 Z D) 60 0 (.inr (11, fX11_3 Z))) 65 0 (.inl (zca Z 0, 10, .inl fun _ => 0)))
theorem sX11_31 (C : zCN E cX11_init RX11 2 Z h n0 c0 368 32691) (hh : 1 ≤ h) (hc : c0 = 344) (kk : zNN E 2 Z n0 Q 39 [(0, .ref (zad Z 60 0))] [] (zDu (eX11_4 Z D) 60 0 (.inr (11, fX11_4 Z))) 14 90) : zNN E 2 Z n0 Q 31 [(0, .ref (zad Z 60 0))] [] (zDu (eX11_3 Z D) 60 0 (.inr (11, fX11_3 Z))) 13 80 := by
  subst hc
  refine zn_aload_n C dX11_init_31 rfl ?_
  refine zn_bipush C dX11_init_32 (v := 10) (by decide) ?_
  refine zn_newa C (atype := .int) (k := 65) (i := 0) (t0 := 0) (N := 10) (a0 := (10, .inl fun _ => 0)) wq_61 rfl dX11_init_34 (by decide) (by decide) (by decide) (fun _ => rfl) (by decide) rfl (by omega) (by omega) ?_
  refine zn_putF C (by decide +kernel) 5 zin_X11 rfl (Nat.le_of_ble_eq_true rfl) rfl rfl tyX11_ok nmX11 rfl (ty := tyX11 5) (by decide +kernel) wq_1093 dX11_init_36 (zDu_o (by decide) (zDu_i _ _ _ _)) (Nat.le_of_ble_eq_true rfl) rfl rfl ?_
  exact kk
def fX11_5 (Z : zLay) : List Value := [.int 0, .int 0, .ref (zad Z 61 0), .ref (zad Z 63 0), .ref (zad Z 64 0), .ref (zad Z 65 0), .ref (zad Z 66 0), .null, .null, .null, .null, .null, .int 0, .null, .null, .null, .null, .null, .null, .int 0, .int 0, .null, .null, .null, .null, .int 0, .null, .null, .null, .null, .int 0, .null, .int 0, .null, .null, .null, .null, .null, .null, .int 0, .int 0, .int 0, .int 0, .int 0, .int 0, .int 0, .int 0, .null, .null, .null, .int 0, .int 0, .null, .null, .null, .null, .null, .int 0, .int 0, .int 0, .int 0, .null, .null, .null, .null, .null, .null, .null]
def eX11_5 (Z : zLay) (D : zDm) : zDm := (zDu (zDu (eX11_4 Z D) 60 0 (.inr (11, fX11_4 Z))) 66 0 (.inl (zca Z 0, 10, .inl fun _ => 0)))
theorem sX11_39 (C : zCN E cX11_init RX11 2 Z h n0 c0 368 32691) (hh : 1 ≤ h) (hc : c0 = 344) (kk : zNN E 2 Z n0 Q 47 [(0, .ref (zad Z 60 0))] [] (zDu (eX11_5 Z D) 60 0 (.inr (11, fX11_5 Z))) 15 100) : zNN E 2 Z n0 Q 39 [(0, .ref (zad Z 60 0))] [] (zDu (eX11_4 Z D) 60 0 (.inr (11, fX11_4 Z))) 14 90 := by
  subst hc
  refine zn_aload_n C dX11_init_39 rfl ?_
  refine zn_bipush C dX11_init_40 (v := 10) (by decide) ?_
  refine zn_newa C (atype := .int) (k := 66) (i := 0) (t0 := 0) (N := 10) (a0 := (10, .inl fun _ => 0)) wq_61 rfl dX11_init_42 (by decide) (by decide) (by decide) (fun _ => rfl) (by decide) rfl (by omega) (by omega) ?_
  refine zn_putF C (by decide +kernel) 6 zin_X11 rfl (Nat.le_of_ble_eq_true rfl) rfl rfl tyX11_ok nmX11 rfl (ty := tyX11 6) (by decide +kernel) wq_1094 dX11_init_44 (zDu_o (by decide) (zDu_i _ _ _ _)) (Nat.le_of_ble_eq_true rfl) rfl rfl ?_
  exact kk
def fX11_6 (Z : zLay) : List Value := [.int 0, .int 0, .ref (zad Z 61 0), .ref (zad Z 63 0), .ref (zad Z 64 0), .ref (zad Z 65 0), .ref (zad Z 66 0), .ref (zad Z 67 0), .null, .null, .null, .null, .int 0, .null, .null, .null, .null, .null, .null, .int 0, .int 0, .null, .null, .null, .null, .int 0, .null, .null, .null, .null, .int 0, .null, .int 0, .null, .null, .null, .null, .null, .null, .int 0, .int 0, .int 0, .int 0, .int 0, .int 0, .int 0, .int 0, .null, .null, .null, .int 0, .int 0, .null, .null, .null, .null, .null, .int 0, .int 0, .int 0, .int 0, .null, .null, .null, .null, .null, .null, .null]
def eX11_6 (Z : zLay) (D : zDm) : zDm := (zDu (zDu (eX11_5 Z D) 60 0 (.inr (11, fX11_5 Z))) 67 0 (.inl (zca Z 0, 10, .inl fun _ => 0)))
theorem sX11_47 (C : zCN E cX11_init RX11 2 Z h n0 c0 368 32691) (hh : 1 ≤ h) (hc : c0 = 344) (kk : zNN E 2 Z n0 Q 55 [(0, .ref (zad Z 60 0))] [] (zDu (eX11_6 Z D) 60 0 (.inr (11, fX11_6 Z))) 16 110) : zNN E 2 Z n0 Q 47 [(0, .ref (zad Z 60 0))] [] (zDu (eX11_5 Z D) 60 0 (.inr (11, fX11_5 Z))) 15 100 := by
  subst hc
  refine zn_aload_n C dX11_init_47 rfl ?_
  refine zn_bipush C dX11_init_48 (v := 10) (by decide) ?_
  refine zn_newa C (atype := .int) (k := 67) (i := 0) (t0 := 0) (N := 10) (a0 := (10, .inl fun _ => 0)) wq_61 rfl dX11_init_50 (by decide) (by decide) (by decide) (fun _ => rfl) (by decide) rfl (by omega) (by omega) ?_
  refine zn_putF C (by decide +kernel) 7 zin_X11 rfl (Nat.le_of_ble_eq_true rfl) rfl rfl tyX11_ok nmX11 rfl (ty := tyX11 7) (by decide +kernel) wq_1095 dX11_init_52 (zDu_o (by decide) (zDu_i _ _ _ _)) (Nat.le_of_ble_eq_true rfl) rfl rfl ?_
  exact kk
def fX11_7 (Z : zLay) : List Value := [.int 0, .int 0, .ref (zad Z 61 0), .ref (zad Z 63 0), .ref (zad Z 64 0), .ref (zad Z 65 0), .ref (zad Z 66 0), .ref (zad Z 67 0), .ref (zad Z 68 0), .null, .null, .null, .int 0, .null, .null, .null, .null, .null, .null, .int 0, .int 0, .null, .null, .null, .null, .int 0, .null, .null, .null, .null, .int 0, .null, .int 0, .null, .null, .null, .null, .null, .null, .int 0, .int 0, .int 0, .int 0, .int 0, .int 0, .int 0, .int 0, .null, .null, .null, .int 0, .int 0, .null, .null, .null, .null, .null, .int 0, .int 0, .int 0, .int 0, .null, .null, .null, .null, .null, .null, .null]
def eX11_7 (Z : zLay) (D : zDm) : zDm := (zDu (zDu (eX11_6 Z D) 60 0 (.inr (11, fX11_6 Z))) 68 0 (.inl (zca Z 0, 10, .inl fun _ => 0)))
theorem sX11_55 (C : zCN E cX11_init RX11 2 Z h n0 c0 368 32691) (hh : 1 ≤ h) (hc : c0 = 344) (kk : zNN E 2 Z n0 Q 63 [(0, .ref (zad Z 60 0))] [] (zDu (eX11_7 Z D) 60 0 (.inr (11, fX11_7 Z))) 17 120) : zNN E 2 Z n0 Q 55 [(0, .ref (zad Z 60 0))] [] (zDu (eX11_6 Z D) 60 0 (.inr (11, fX11_6 Z))) 16 110 := by
  subst hc
  refine zn_aload_n C dX11_init_55 rfl ?_
  refine zn_bipush C dX11_init_56 (v := 10) (by decide) ?_
  refine zn_newa C (atype := .int) (k := 68) (i := 0) (t0 := 0) (N := 10) (a0 := (10, .inl fun _ => 0)) wq_61 rfl dX11_init_58 (by decide) (by decide) (by decide) (fun _ => rfl) (by decide) rfl (by omega) (by omega) ?_
  refine zn_putF C (by decide +kernel) 8 zin_X11 rfl (Nat.le_of_ble_eq_true rfl) rfl rfl tyX11_ok nmX11 rfl (ty := tyX11 8) (by decide +kernel) wq_1096 dX11_init_60 (zDu_o (by decide) (zDu_i _ _ _ _)) (Nat.le_of_ble_eq_true rfl) rfl rfl ?_
  exact kk
def fX11_8 (Z : zLay) : List Value := [.int 0, .int 0, .ref (zad Z 61 0), .ref (zad Z 63 0), .ref (zad Z 64 0), .ref (zad Z 65 0), .ref (zad Z 66 0), .ref (zad Z 67 0), .ref (zad Z 68 0), .ref (zad Z 69 0), .null, .null, .int 0, .null, .null, .null, .null, .null, .null, .int 0, .int 0, .null, .null, .null, .null, .int 0, .null, .null, .null, .null, .int 0, .null, .int 0, .null, .null, .null, .null, .null, .null, .int 0, .int 0, .int 0, .int 0, .int 0, .int 0, .int 0, .int 0, .null, .null, .null, .int 0, .int 0, .null, .null, .null, .null, .null, .int 0, .int 0, .int 0, .int 0, .null, .null, .null, .null, .null, .null, .null]
def eX11_8 (Z : zLay) (D : zDm) : zDm := (zDu (zDu (eX11_7 Z D) 60 0 (.inr (11, fX11_7 Z))) 69 0 (.inl (zca Z 0, 10, .inl fun _ => 0)))
theorem sX11_63 (C : zCN E cX11_init RX11 2 Z h n0 c0 368 32691) (hh : 1 ≤ h) (hc : c0 = 344) (kk : zNN E 2 Z n0 Q 71 [(0, .ref (zad Z 60 0))] [] (zDu (eX11_8 Z D) 60 0 (.inr (11, fX11_8 Z))) 18 130) : zNN E 2 Z n0 Q 63 [(0, .ref (zad Z 60 0))] [] (zDu (eX11_7 Z D) 60 0 (.inr (11, fX11_7 Z))) 17 120 := by
  subst hc
  refine zn_aload_n C dX11_init_63 rfl ?_
  refine zn_bipush C dX11_init_64 (v := 10) (by decide) ?_
  refine zn_newa C (atype := .int) (k := 69) (i := 0) (t0 := 0) (N := 10) (a0 := (10, .inl fun _ => 0)) wq_61 rfl dX11_init_66 (by decide) (by decide) (by decide) (fun _ => rfl) (by decide) rfl (by omega) (by omega) ?_
  refine zn_putF C (by decide +kernel) 9 zin_X11 rfl (Nat.le_of_ble_eq_true rfl) rfl rfl tyX11_ok nmX11 rfl (ty := tyX11 9) (by decide +kernel) wq_1097 dX11_init_68 (zDu_o (by decide) (zDu_i _ _ _ _)) (Nat.le_of_ble_eq_true rfl) rfl rfl ?_
  exact kk
def fX11_9 (Z : zLay) : List Value := [.int 0, .int 0, .ref (zad Z 61 0), .ref (zad Z 63 0), .ref (zad Z 64 0), .ref (zad Z 65 0), .ref (zad Z 66 0), .ref (zad Z 67 0), .ref (zad Z 68 0), .ref (zad Z 69 0), .ref (zad Z 70 0), .null, .int 0, .null, .null, .null, .null, .null, .null, .int 0, .int 0, .null, .null, .null, .null, .int 0, .null, .null, .null, .null, .int 0, .null, .int 0, .null, .null, .null, .null, .null, .null, .int 0, .int 0, .int 0, .int 0, .int 0, .int 0, .int 0, .int 0, .null, .null, .null, .int 0, .int 0, .null, .null, .null, .null, .null, .int 0, .int 0, .int 0, .int 0, .null, .null, .null, .null, .null, .null, .null]
def eX11_9 (Z : zLay) (D : zDm) : zDm := (zDu (zDu (eX11_8 Z D) 60 0 (.inr (11, fX11_8 Z))) 70 0 (.inl (zca Z 0, 10, .inl fun _ => 0)))
theorem sX11_71 (C : zCN E cX11_init RX11 2 Z h n0 c0 368 32691) (hh : 1 ≤ h) (hc : c0 = 344) (kk : zNN E 2 Z n0 Q 79 [(0, .ref (zad Z 60 0))] [] (zDu (eX11_9 Z D) 60 0 (.inr (11, fX11_9 Z))) 19 140) : zNN E 2 Z n0 Q 71 [(0, .ref (zad Z 60 0))] [] (zDu (eX11_8 Z D) 60 0 (.inr (11, fX11_8 Z))) 18 130 := by
  subst hc
  refine zn_aload_n C dX11_init_71 rfl ?_
  refine zn_bipush C dX11_init_72 (v := 10) (by decide) ?_
  refine zn_newa C (atype := .int) (k := 70) (i := 0) (t0 := 0) (N := 10) (a0 := (10, .inl fun _ => 0)) wq_61 rfl dX11_init_74 (by decide) (by decide) (by decide) (fun _ => rfl) (by decide) rfl (by omega) (by omega) ?_
  refine zn_putF C (by decide +kernel) 10 zin_X11 rfl (Nat.le_of_ble_eq_true rfl) rfl rfl tyX11_ok nmX11 rfl (ty := tyX11 10) (by decide +kernel) wq_1098 dX11_init_76 (zDu_o (by decide) (zDu_i _ _ _ _)) (Nat.le_of_ble_eq_true rfl) rfl rfl ?_
  exact kk
def fX11_10 (Z : zLay) : List Value := [.int 0, .int 0, .ref (zad Z 61 0), .ref (zad Z 63 0), .ref (zad Z 64 0), .ref (zad Z 65 0), .ref (zad Z 66 0), .ref (zad Z 67 0), .ref (zad Z 68 0), .ref (zad Z 69 0), .ref (zad Z 70 0), .ref (zad Z 71 0), .int 0, .null, .null, .null, .null, .null, .null, .int 0, .int 0, .null, .null, .null, .null, .int 0, .null, .null, .null, .null, .int 0, .null, .int 0, .null, .null, .null, .null, .null, .null, .int 0, .int 0, .int 0, .int 0, .int 0, .int 0, .int 0, .int 0, .null, .null, .null, .int 0, .int 0, .null, .null, .null, .null, .null, .int 0, .int 0, .int 0, .int 0, .null, .null, .null, .null, .null, .null, .null]
def eX11_10 (Z : zLay) (D : zDm) : zDm := (zDr (zDu (zDu (eX11_9 Z D) 60 0 (.inr (11, fX11_9 Z))) 71 0 (.inl (zca Z 9, 4, .inr (.inr (.inr (.inr (fun i => if i < 4 then some (zad Z 72 i) else none))))))) 72 4 (.inl (zca Z 0, (10, .inl fun _ => 0))))
theorem sX11_79 (C : zCN E cX11_init RX11 2 Z h n0 c0 368 32691) (hh : 1 ≤ h) (hc : c0 = 344) (kk : zNN E 2 Z n0 Q 90 [(0, .ref (zad Z 60 0))] [] (zDu (eX11_10 Z D) 60 0 (.inr (11, fX11_10 Z))) 24 184) : zNN E 2 Z n0 Q 79 [(0, .ref (zad Z 60 0))] [] (zDu (eX11_9 Z D) 60 0 (.inr (11, fX11_9 Z))) 19 140 := by
  subst hc
  refine zn_aload_n C dX11_init_79 rfl ?_
  refine zn_iconst C dX11_init_80 (v := 4) (by decide) ?_
  refine zn_bipush C dX11_init_81 (v := 10) (by decide) ?_
  refine zn_mna C (ty := .int) (N := 4) (M := 10) (t0 := 9) (t1 := 0) (k := 71) (k1 := 72) (a0 := (10, .inl fun _ => 0)) wq_1085 (by unfold zOvL; simp) wq_61 rfl rfl (fun _ _ q => q) dX11_init_83 (by decide) (by decide) (by decide) (by decide) (by decide) (by decide) (by decide) rfl rfl (fun _ => rfl) (by decide) (by decide) rfl (fun j _ => by show 364 + 1 * j = 344 + 19 + 1 + j; omega) (by omega) (by omega) ?_
  refine zn_put C 11 zin_X11 rfl (Nat.le_of_ble_eq_true rfl) rfl tyX11_ok nmX11 rfl (ty := tyX11 11) (by decide +kernel) wq_1099 dX11_init_87 (zDr_o (by decide) (zDu_o (by decide) (zDu_i _ _ _ _))) (Nat.le_of_ble_eq_true rfl) rfl rfl ?_
  exact kk
def fX11_11 (Z : zLay) : List Value := [.int 0, .int 0, .ref (zad Z 61 0), .ref (zad Z 63 0), .ref (zad Z 64 0), .ref (zad Z 65 0), .ref (zad Z 66 0), .ref (zad Z 67 0), .ref (zad Z 68 0), .ref (zad Z 69 0), .ref (zad Z 70 0), .ref (zad Z 71 0), .int 0, .ref (zad Z 73 0), .null, .null, .null, .null, .null, .int 0, .int 0, .null, .null, .null, .null, .int 0, .null, .null, .null, .null, .int 0, .null, .int 0, .null, .null, .null, .null, .null, .null, .int 0, .int 0, .int 0, .int 0, .int 0, .int 0, .int 0, .int 0, .null, .null, .null, .int 0, .int 0, .null, .null, .null, .null, .null, .int 0, .int 0, .int 0, .int 0, .null, .null, .null, .null, .null, .null, .null]
def eX11_11 (Z : zLay) (D : zDm) : zDm := (zDu (zDu (eX11_10 Z D) 60 0 (.inr (11, fX11_10 Z))) 73 0 (.inl (zca Z 0, 50, .inl fun _ => 0)))
theorem sX11_90 (C : zCN E cX11_init RX11 2 Z h n0 c0 368 32691) (hh : 1 ≤ h) (hc : c0 = 344) (kk : zNN E 2 Z n0 Q 98 [(0, .ref (zad Z 60 0))] [] (zDu (eX11_11 Z D) 60 0 (.inr (11, fX11_11 Z))) 25 234) : zNN E 2 Z n0 Q 90 [(0, .ref (zad Z 60 0))] [] (zDu (eX11_10 Z D) 60 0 (.inr (11, fX11_10 Z))) 24 184 := by
  subst hc
  refine zn_aload_n C dX11_init_90 rfl ?_
  refine zn_bipush C dX11_init_91 (v := 50) (by decide) ?_
  refine zn_newa C (atype := .int) (k := 73) (i := 0) (t0 := 0) (N := 50) (a0 := (50, .inl fun _ => 0)) wq_61 rfl dX11_init_93 (by decide) (by decide) (by decide) (fun _ => rfl) (by decide) rfl (by omega) (by omega) ?_
  refine zn_putF C (by decide +kernel) 13 zin_X11 rfl (Nat.le_of_ble_eq_true rfl) rfl rfl tyX11_ok nmX11 rfl (ty := tyX11 13) (by decide +kernel) wq_1101 dX11_init_95 (zDu_o (by decide) (zDu_i _ _ _ _)) (Nat.le_of_ble_eq_true rfl) rfl rfl ?_
  exact kk
def fX11_12 (Z : zLay) : List Value := [.int 0, .int 0, .ref (zad Z 61 0), .ref (zad Z 63 0), .ref (zad Z 64 0), .ref (zad Z 65 0), .ref (zad Z 66 0), .ref (zad Z 67 0), .ref (zad Z 68 0), .ref (zad Z 69 0), .ref (zad Z 70 0), .ref (zad Z 71 0), .int 0, .ref (zad Z 73 0), .ref (zad Z 74 0), .null, .null, .null, .null, .int 0, .int 0, .null, .null, .null, .null, .int 0, .null, .null, .null, .null, .int 0, .null, .int 0, .null, .null, .null, .null, .null, .null, .int 0, .int 0, .int 0, .int 0, .int 0, .int 0, .int 0, .int 0, .null, .null, .null, .int 0, .int 0, .null, .null, .null, .null, .null, .int 0, .int 0, .int 0, .int 0, .null, .null, .null, .null, .null, .null, .null]
def eX11_12 (Z : zLay) (D : zDm) : zDm := (zDu (zDu (eX11_11 Z D) 60 0 (.inr (11, fX11_11 Z))) 74 0 (.inl (zca Z 0, 50, .inl fun _ => 0)))
theorem sX11_98 (C : zCN E cX11_init RX11 2 Z h n0 c0 368 32691) (hh : 1 ≤ h) (hc : c0 = 344) (kk : zNN E 2 Z n0 Q 106 [(0, .ref (zad Z 60 0))] [] (zDu (eX11_12 Z D) 60 0 (.inr (11, fX11_12 Z))) 26 284) : zNN E 2 Z n0 Q 98 [(0, .ref (zad Z 60 0))] [] (zDu (eX11_11 Z D) 60 0 (.inr (11, fX11_11 Z))) 25 234 := by
  subst hc
  refine zn_aload_n C dX11_init_98 rfl ?_
  refine zn_bipush C dX11_init_99 (v := 50) (by decide) ?_
  refine zn_newa C (atype := .int) (k := 74) (i := 0) (t0 := 0) (N := 50) (a0 := (50, .inl fun _ => 0)) wq_61 rfl dX11_init_101 (by decide) (by decide) (by decide) (fun _ => rfl) (by decide) rfl (by omega) (by omega) ?_
  refine zn_putF C (by decide +kernel) 14 zin_X11 rfl (Nat.le_of_ble_eq_true rfl) rfl rfl tyX11_ok nmX11 rfl (ty := tyX11 14) (by decide +kernel) wq_1102 dX11_init_103 (zDu_o (by decide) (zDu_i _ _ _ _)) (Nat.le_of_ble_eq_true rfl) rfl rfl ?_
  exact kk
def fX11_13 (Z : zLay) : List Value := [.int 0, .int 0, .ref (zad Z 61 0), .ref (zad Z 63 0), .ref (zad Z 64 0), .ref (zad Z 65 0), .ref (zad Z 66 0), .ref (zad Z 67 0), .ref (zad Z 68 0), .ref (zad Z 69 0), .ref (zad Z 70 0), .ref (zad Z 71 0), .int 0, .ref (zad Z 73 0), .ref (zad Z 74 0), .ref (zad Z 75 0), .null, .null, .null, .int 0, .int 0, .null, .null, .null, .null, .int 0, .null, .null, .null, .null, .int 0, .null, .int 0, .null, .null, .null, .null, .null, .null, .int 0, .int 0, .int 0, .int 0, .int 0, .int 0, .int 0, .int 0, .null, .null, .null, .int 0, .int 0, .null, .null, .null, .null, .null, .int 0, .int 0, .int 0, .int 0, .null, .null, .null, .null, .null, .null, .null]
def eX11_13 (Z : zLay) (D : zDm) : zDm := (zDu (zDu (eX11_12 Z D) 60 0 (.inr (11, fX11_12 Z))) 75 0 (.inl (zca Z 0, 50, .inl fun _ => 0)))
theorem sX11_106 (C : zCN E cX11_init RX11 2 Z h n0 c0 368 32691) (hh : 1 ≤ h) (hc : c0 = 344) (kk : zNN E 2 Z n0 Q 114 [(0, .ref (zad Z 60 0))] [] (zDu (eX11_13 Z D) 60 0 (.inr (11, fX11_13 Z))) 27 334) : zNN E 2 Z n0 Q 106 [(0, .ref (zad Z 60 0))] [] (zDu (eX11_12 Z D) 60 0 (.inr (11, fX11_12 Z))) 26 284 := by
  subst hc
  refine zn_aload_n C dX11_init_106 rfl ?_
  refine zn_bipush C dX11_init_107 (v := 50) (by decide) ?_
  refine zn_newa C (atype := .int) (k := 75) (i := 0) (t0 := 0) (N := 50) (a0 := (50, .inl fun _ => 0)) wq_61 rfl dX11_init_109 (by decide) (by decide) (by decide) (fun _ => rfl) (by decide) rfl (by omega) (by omega) ?_
  refine zn_putF C (by decide +kernel) 15 zin_X11 rfl (Nat.le_of_ble_eq_true rfl) rfl rfl tyX11_ok nmX11 rfl (ty := tyX11 15) (by decide +kernel) wq_1103 dX11_init_111 (zDu_o (by decide) (zDu_i _ _ _ _)) (Nat.le_of_ble_eq_true rfl) rfl rfl ?_
  exact kk
def fX11_14 (Z : zLay) : List Value := [.int 0, .int 0, .ref (zad Z 61 0), .ref (zad Z 63 0), .ref (zad Z 64 0), .ref (zad Z 65 0), .ref (zad Z 66 0), .ref (zad Z 67 0), .ref (zad Z 68 0), .ref (zad Z 69 0), .ref (zad Z 70 0), .ref (zad Z 71 0), .int 0, .ref (zad Z 73 0), .ref (zad Z 74 0), .ref (zad Z 75 0), .ref (zad Z 76 0), .null, .null, .int 0, .int 0, .null, .null, .null, .null, .int 0, .null, .null, .null, .null, .int 0, .null, .int 0, .null, .null, .null, .null, .null, .null, .int 0, .int 0, .int 0, .int 0, .int 0, .int 0, .int 0, .int 0, .null, .null, .null, .int 0, .int 0, .null, .null, .null, .null, .null, .int 0, .int 0, .int 0, .int 0, .null, .null, .null, .null, .null, .null, .null]
def eX11_14 (Z : zLay) (D : zDm) : zDm := (zDu (zDu (eX11_13 Z D) 60 0 (.inr (11, fX11_13 Z))) 76 0 (.inl (zca Z 0, 50, .inl fun _ => 0)))
theorem sX11_114 (C : zCN E cX11_init RX11 2 Z h n0 c0 368 32691) (hh : 1 ≤ h) (hc : c0 = 344) (kk : zNN E 2 Z n0 Q 122 [(0, .ref (zad Z 60 0))] [] (zDu (eX11_14 Z D) 60 0 (.inr (11, fX11_14 Z))) 28 384) : zNN E 2 Z n0 Q 114 [(0, .ref (zad Z 60 0))] [] (zDu (eX11_13 Z D) 60 0 (.inr (11, fX11_13 Z))) 27 334 := by
  subst hc
  refine zn_aload_n C dX11_init_114 rfl ?_
  refine zn_bipush C dX11_init_115 (v := 50) (by decide) ?_
  refine zn_newa C (atype := .int) (k := 76) (i := 0) (t0 := 0) (N := 50) (a0 := (50, .inl fun _ => 0)) wq_61 rfl dX11_init_117 (by decide) (by decide) (by decide) (fun _ => rfl) (by decide) rfl (by omega) (by omega) ?_
  refine zn_putF C (by decide +kernel) 16 zin_X11 rfl (Nat.le_of_ble_eq_true rfl) rfl rfl tyX11_ok nmX11 rfl (ty := tyX11 16) (by decide +kernel) wq_1104 dX11_init_119 (zDu_o (by decide) (zDu_i _ _ _ _)) (Nat.le_of_ble_eq_true rfl) rfl rfl ?_
  exact kk
def fX11_15 (Z : zLay) : List Value := [.int 0, .int 0, .ref (zad Z 61 0), .ref (zad Z 63 0), .ref (zad Z 64 0), .ref (zad Z 65 0), .ref (zad Z 66 0), .ref (zad Z 67 0), .ref (zad Z 68 0), .ref (zad Z 69 0), .ref (zad Z 70 0), .ref (zad Z 71 0), .int 0, .ref (zad Z 73 0), .ref (zad Z 74 0), .ref (zad Z 75 0), .ref (zad Z 76 0), .ref (zad Z 77 0), .null, .int 0, .int 0, .null, .null, .null, .null, .int 0, .null, .null, .null, .null, .int 0, .null, .int 0, .null, .null, .null, .null, .null, .null, .int 0, .int 0, .int 0, .int 0, .int 0, .int 0, .int 0, .int 0, .null, .null, .null, .int 0, .int 0, .null, .null, .null, .null, .null, .int 0, .int 0, .int 0, .int 0, .null, .null, .null, .null, .null, .null, .null]
def eX11_15 (Z : zLay) (D : zDm) : zDm := (zDu (zDu (eX11_14 Z D) 60 0 (.inr (11, fX11_14 Z))) 77 0 (.inl (zca Z 0, 50, .inl fun _ => 0)))
theorem sX11_122 (C : zCN E cX11_init RX11 2 Z h n0 c0 368 32691) (hh : 1 ≤ h) (hc : c0 = 344) (kk : zNN E 2 Z n0 Q 130 [(0, .ref (zad Z 60 0))] [] (zDu (eX11_15 Z D) 60 0 (.inr (11, fX11_15 Z))) 29 434) : zNN E 2 Z n0 Q 122 [(0, .ref (zad Z 60 0))] [] (zDu (eX11_14 Z D) 60 0 (.inr (11, fX11_14 Z))) 28 384 := by
  subst hc
  refine zn_aload_n C dX11_init_122 rfl ?_
  refine zn_bipush C dX11_init_123 (v := 50) (by decide) ?_
  refine zn_newa C (atype := .int) (k := 77) (i := 0) (t0 := 0) (N := 50) (a0 := (50, .inl fun _ => 0)) wq_61 rfl dX11_init_125 (by decide) (by decide) (by decide) (fun _ => rfl) (by decide) rfl (by omega) (by omega) ?_
  refine zn_putF C (by decide +kernel) 17 zin_X11 rfl (Nat.le_of_ble_eq_true rfl) rfl rfl tyX11_ok nmX11 rfl (ty := tyX11 17) (by decide +kernel) wq_1105 dX11_init_127 (zDu_o (by decide) (zDu_i _ _ _ _)) (Nat.le_of_ble_eq_true rfl) rfl rfl ?_
  exact kk
def fX11_16 (Z : zLay) : List Value := [.int 0, .int 0, .ref (zad Z 61 0), .ref (zad Z 63 0), .ref (zad Z 64 0), .ref (zad Z 65 0), .ref (zad Z 66 0), .ref (zad Z 67 0), .ref (zad Z 68 0), .ref (zad Z 69 0), .ref (zad Z 70 0), .ref (zad Z 71 0), .int 0, .ref (zad Z 73 0), .ref (zad Z 74 0), .ref (zad Z 75 0), .ref (zad Z 76 0), .ref (zad Z 77 0), .ref (zad Z 78 0), .int 0, .int 0, .null, .null, .null, .null, .int 0, .null, .null, .null, .null, .int 0, .null, .int 0, .null, .null, .null, .null, .null, .null, .int 0, .int 0, .int 0, .int 0, .int 0, .int 0, .int 0, .int 0, .null, .null, .null, .int 0, .int 0, .null, .null, .null, .null, .null, .int 0, .int 0, .int 0, .int 0, .null, .null, .null, .null, .null, .null, .null]
def eX11_16 (Z : zLay) (D : zDm) : zDm := (zDu (zDu (eX11_15 Z D) 60 0 (.inr (11, fX11_15 Z))) 78 0 (.inl (zca Z 0, 100, .inl fun _ => 0)))
theorem sX11_130 (C : zCN E cX11_init RX11 2 Z h n0 c0 368 32691) (hh : 1 ≤ h) (hc : c0 = 344) (kk : zNN E 2 Z n0 Q 138 [(0, .ref (zad Z 60 0))] [] (zDu (eX11_16 Z D) 60 0 (.inr (11, fX11_16 Z))) 30 534) : zNN E 2 Z n0 Q 130 [(0, .ref (zad Z 60 0))] [] (zDu (eX11_15 Z D) 60 0 (.inr (11, fX11_15 Z))) 29 434 := by
  subst hc
  refine zn_aload_n C dX11_init_130 rfl ?_
  refine zn_bipush C dX11_init_131 (v := 100) (by decide) ?_
  refine zn_newa C (atype := .int) (k := 78) (i := 0) (t0 := 0) (N := 100) (a0 := (100, .inl fun _ => 0)) wq_61 rfl dX11_init_133 (by decide) (by decide) (by decide) (fun _ => rfl) (by decide) rfl (by omega) (by omega) ?_
  refine zn_putF C (by decide +kernel) 18 zin_X11 rfl (Nat.le_of_ble_eq_true rfl) rfl rfl tyX11_ok nmX11 rfl (ty := tyX11 18) (by decide +kernel) wq_1106 dX11_init_135 (zDu_o (by decide) (zDu_i _ _ _ _)) (Nat.le_of_ble_eq_true rfl) rfl rfl ?_
  exact kk
def fX11_17 (Z : zLay) : List Value := [.int 0, .int 0, .ref (zad Z 61 0), .ref (zad Z 63 0), .ref (zad Z 64 0), .ref (zad Z 65 0), .ref (zad Z 66 0), .ref (zad Z 67 0), .ref (zad Z 68 0), .ref (zad Z 69 0), .ref (zad Z 70 0), .ref (zad Z 71 0), .int 0, .ref (zad Z 73 0), .ref (zad Z 74 0), .ref (zad Z 75 0), .ref (zad Z 76 0), .ref (zad Z 77 0), .ref (zad Z 78 0), .int 0, .int 0, .ref (zad Z 79 0), .null, .null, .null, .int 0, .null, .null, .null, .null, .int 0, .null, .int 0, .null, .null, .null, .null, .null, .null, .int 0, .int 0, .int 0, .int 0, .int 0, .int 0, .int 0, .int 0, .null, .null, .null, .int 0, .int 0, .null, .null, .null, .null, .null, .int 0, .int 0, .int 0, .int 0, .null, .null, .null, .null, .null, .null, .null]
def eX11_17 (Z : zLay) (D : zDm) : zDm := (zDr (zDu (zDu (eX11_16 Z D) 60 0 (.inr (11, fX11_16 Z))) 79 0 (.inl (zca Z 9, 41, .inr (.inr (.inr (.inr (fun i => if i < 41 then some (zad Z 80 i) else none))))))) 80 41 (.inl (zca Z 0, (6, .inl fun _ => 0))))
theorem sX11_138 (C : zCN E cX11_init RX11 2 Z h n0 c0 368 32691) (hh : 1 ≤ h) (hc : c0 = 344) (kk : zNN E 2 Z n0 Q 150 [(0, .ref (zad Z 60 0))] [] (zDu (eX11_17 Z D) 60 0 (.inr (11, fX11_17 Z))) 72 821) : zNN E 2 Z n0 Q 138 [(0, .ref (zad Z 60 0))] [] (zDu (eX11_16 Z D) 60 0 (.inr (11, fX11_16 Z))) 30 534 := by
  subst hc
  refine zn_aload_n C dX11_init_138 rfl ?_
  refine zn_bipush C dX11_init_139 (v := 41) (by decide) ?_
  refine zn_bipush C dX11_init_141 (v := 6) (by decide) ?_
  refine zn_mna C (ty := .int) (N := 41) (M := 6) (t0 := 9) (t1 := 0) (k := 79) (k1 := 80) (a0 := (6, .inl fun _ => 0)) wq_1085 (by unfold zOvL; simp) wq_61 rfl rfl (fun _ _ q => q) dX11_init_143 (by decide) (by decide) (by decide) (by decide) (by decide) (by decide) (by decide) rfl rfl (fun _ => rfl) (by decide) (by decide) rfl (fun j _ => by show 375 + 1 * j = 344 + 30 + 1 + j; omega) (by omega) (by omega) ?_
  refine zn_putF C (by decide +kernel) 21 zin_X11 rfl (Nat.le_of_ble_eq_true rfl) rfl rfl tyX11_ok nmX11 rfl (ty := tyX11 21) (by decide +kernel) wq_1109 dX11_init_147 (zDr_o (by decide) (zDu_o (by decide) (zDu_i _ _ _ _))) (Nat.le_of_ble_eq_true rfl) rfl rfl ?_
  exact kk
def fX11_18 (Z : zLay) : List Value := [.int 0, .int 0, .ref (zad Z 61 0), .ref (zad Z 63 0), .ref (zad Z 64 0), .ref (zad Z 65 0), .ref (zad Z 66 0), .ref (zad Z 67 0), .ref (zad Z 68 0), .ref (zad Z 69 0), .ref (zad Z 70 0), .ref (zad Z 71 0), .int 0, .ref (zad Z 73 0), .ref (zad Z 74 0), .ref (zad Z 75 0), .ref (zad Z 76 0), .ref (zad Z 77 0), .ref (zad Z 78 0), .int 0, .int 0, .ref (zad Z 79 0), .ref (zad Z 81 0), .null, .null, .int 0, .null, .null, .null, .null, .int 0, .null, .int 0, .null, .null, .null, .null, .null, .null, .int 0, .int 0, .int 0, .int 0, .int 0, .int 0, .int 0, .int 0, .null, .null, .null, .int 0, .int 0, .null, .null, .null, .null, .null, .int 0, .int 0, .int 0, .int 0, .null, .null, .null, .null, .null, .null, .null]
def eX11_18 (Z : zLay) (D : zDm) : zDm := (zDr (zDu (zDu (eX11_17 Z D) 60 0 (.inr (11, fX11_17 Z))) 81 0 (.inl (zca Z 9, 41, .inr (.inr (.inr (.inr (fun i => if i < 41 then some (zad Z 82 i) else none))))))) 82 41 (.inl (zca Z 0, (24, .inl fun _ => 0))))
theorem sX11_150 (C : zCN E cX11_init RX11 2 Z h n0 c0 368 32691) (hh : 1 ≤ h) (hc : c0 = 344) (kk : zNN E 2 Z n0 Q 162 [(0, .ref (zad Z 60 0))] [] (zDu (eX11_18 Z D) 60 0 (.inr (11, fX11_18 Z))) 114 1846) : zNN E 2 Z n0 Q 150 [(0, .ref (zad Z 60 0))] [] (zDu (eX11_17 Z D) 60 0 (.inr (11, fX11_17 Z))) 72 821 := by
  subst hc
  refine zn_aload_n C dX11_init_150 rfl ?_
  refine zn_bipush C dX11_init_151 (v := 41) (by decide) ?_
  refine zn_bipush C dX11_init_153 (v := 24) (by decide) ?_
  refine zn_mna C (ty := .int) (N := 41) (M := 24) (t0 := 9) (t1 := 0) (k := 81) (k1 := 82) (a0 := (24, .inl fun _ => 0)) wq_1085 (by unfold zOvL; simp) wq_61 rfl rfl (fun _ _ q => q) dX11_init_155 (by decide) (by decide) (by decide) (by decide) (by decide) (by decide) (by decide) rfl rfl (fun _ => rfl) (by decide) (by decide) rfl (fun j _ => by show 417 + 1 * j = 344 + 72 + 1 + j; omega) (by omega) (by omega) ?_
  refine zn_putF C (by decide +kernel) 22 zin_X11 rfl (Nat.le_of_ble_eq_true rfl) rfl rfl tyX11_ok nmX11 rfl (ty := tyX11 22) (by decide +kernel) wq_1110 dX11_init_159 (zDr_o (by decide) (zDu_o (by decide) (zDu_i _ _ _ _))) (Nat.le_of_ble_eq_true rfl) rfl rfl ?_
  exact kk
def fX11_19 (Z : zLay) : List Value := [.int 0, .int 0, .ref (zad Z 61 0), .ref (zad Z 63 0), .ref (zad Z 64 0), .ref (zad Z 65 0), .ref (zad Z 66 0), .ref (zad Z 67 0), .ref (zad Z 68 0), .ref (zad Z 69 0), .ref (zad Z 70 0), .ref (zad Z 71 0), .int 0, .ref (zad Z 73 0), .ref (zad Z 74 0), .ref (zad Z 75 0), .ref (zad Z 76 0), .ref (zad Z 77 0), .ref (zad Z 78 0), .int 0, .int 0, .ref (zad Z 79 0), .ref (zad Z 81 0), .ref (zad Z 83 0), .null, .int 0, .null, .null, .null, .null, .int 0, .null, .int 0, .null, .null, .null, .null, .null, .null, .int 0, .int 0, .int 0, .int 0, .int 0, .int 0, .int 0, .int 0, .null, .null, .null, .int 0, .int 0, .null, .null, .null, .null, .null, .int 0, .int 0, .int 0, .int 0, .null, .null, .null, .null, .null, .null, .null]
def eX11_19 (Z : zLay) (D : zDm) : zDm := (zDr (zDu (zDu (eX11_18 Z D) 60 0 (.inr (11, fX11_18 Z))) 83 0 (.inl (zca Z 9, 2, .inr (.inr (.inr (.inr (fun i => if i < 2 then some (zad Z 84 i) else none))))))) 84 2 (.inl (zca Z 0, (7200, .inl fun _ => 0))))
theorem sX11_162 (C : zCN E cX11_init RX11 2 Z h n0 c0 368 32691) (hh : 1 ≤ h) (hc : c0 = 344) (kk : zNN E 2 Z n0 Q 174 [(0, .ref (zad Z 60 0))] [] (zDu (eX11_19 Z D) 60 0 (.inr (11, fX11_19 Z))) 117 16248) : zNN E 2 Z n0 Q 162 [(0, .ref (zad Z 60 0))] [] (zDu (eX11_18 Z D) 60 0 (.inr (11, fX11_18 Z))) 114 1846 := by
  subst hc
  refine zn_aload_n C dX11_init_162 rfl ?_
  refine zn_iconst C dX11_init_163 (v := 2) (by decide) ?_
  refine zn_sipush C dX11_init_164 (v := 7200) (by decide) ?_
  refine zn_mna C (ty := .int) (N := 2) (M := 7200) (t0 := 9) (t1 := 0) (k := 83) (k1 := 84) (a0 := (7200, .inl fun _ => 0)) wq_1085 (by unfold zOvL; simp) wq_61 rfl rfl (fun _ _ q => q) dX11_init_167 (by decide) (by decide) (by decide) (by decide) (by decide) (by decide) (by decide) rfl rfl (fun _ => rfl) (by decide) (by decide) rfl (fun j _ => by show 459 + 1 * j = 344 + 114 + 1 + j; omega) (by omega) (by omega) ?_
  refine zn_putF C (by decide +kernel) 23 zin_X11 rfl (Nat.le_of_ble_eq_true rfl) rfl rfl tyX11_ok nmX11 rfl (ty := tyX11 23) (by decide +kernel) wq_1111 dX11_init_171 (zDr_o (by decide) (zDu_o (by decide) (zDu_i _ _ _ _))) (Nat.le_of_ble_eq_true rfl) rfl rfl ?_
  exact kk
def fX11_20 (Z : zLay) : List Value := [.int 0, .int 0, .ref (zad Z 61 0), .ref (zad Z 63 0), .ref (zad Z 64 0), .ref (zad Z 65 0), .ref (zad Z 66 0), .ref (zad Z 67 0), .ref (zad Z 68 0), .ref (zad Z 69 0), .ref (zad Z 70 0), .ref (zad Z 71 0), .int 0, .ref (zad Z 73 0), .ref (zad Z 74 0), .ref (zad Z 75 0), .ref (zad Z 76 0), .ref (zad Z 77 0), .ref (zad Z 78 0), .int 0, .int 0, .ref (zad Z 79 0), .ref (zad Z 81 0), .ref (zad Z 83 0), .ref (zad Z 85 0), .int 0, .null, .null, .null, .null, .int 0, .null, .int 0, .null, .null, .null, .null, .null, .null, .int 0, .int 0, .int 0, .int 0, .int 0, .int 0, .int 0, .int 0, .null, .null, .null, .int 0, .int 0, .null, .null, .null, .null, .null, .int 0, .int 0, .int 0, .int 0, .null, .null, .null, .null, .null, .null, .null]
def eX11_20 (Z : zLay) (D : zDm) : zDm := (zDr (zDu (zDu (eX11_19 Z D) 60 0 (.inr (11, fX11_19 Z))) 85 0 (.inl (zca Z 11, 2, .inr (.inr (.inr (.inr (fun i => if i < 2 then some (zad Z 86 i) else none))))))) 86 2 (.inl (zca Z 4, (7200, .inl fun _ => 0))))
theorem sX11_174 (C : zCN E cX11_init RX11 2 Z h n0 c0 368 32691) (hh : 1 ≤ h) (hc : c0 = 344) (kk : zNN E 2 Z n0 Q 186 [(0, .ref (zad Z 60 0))] [] (zDu (eX11_20 Z D) 60 0 (.inr (11, fX11_20 Z))) 120 30650) : zNN E 2 Z n0 Q 174 [(0, .ref (zad Z 60 0))] [] (zDu (eX11_19 Z D) 60 0 (.inr (11, fX11_19 Z))) 117 16248 := by
  subst hc
  refine zn_aload_n C dX11_init_174 rfl ?_
  refine zn_iconst C dX11_init_175 (v := 2) (by decide) ?_
  refine zn_sipush C dX11_init_176 (v := 7200) (by decide) ?_
  refine zn_mna C (ty := .boolean) (N := 2) (M := 7200) (t0 := 11) (t1 := 4) (k := 85) (k1 := 86) (a0 := (7200, .inl fun _ => 0)) wq_1086 (by unfold zOvL; simp) wq_124 rfl rfl (fun _ _ q => q) dX11_init_179 (by decide) (by decide) (by decide) (by decide) (by decide) (by decide) (by decide) rfl rfl (fun _ => rfl) (by decide) (by decide) rfl (fun j _ => by show 462 + 1 * j = 344 + 117 + 1 + j; omega) (by omega) (by omega) ?_
  refine zn_putF C (by decide +kernel) 24 zin_X11 rfl (Nat.le_of_ble_eq_true rfl) rfl rfl tyX11_ok nmX11 rfl (ty := tyX11 24) (by decide +kernel) wq_1112 dX11_init_183 (zDr_o (by decide) (zDu_o (by decide) (zDu_i _ _ _ _))) (Nat.le_of_ble_eq_true rfl) rfl rfl ?_
  exact kk
def fX11_21 (Z : zLay) : List Value := [.int 0, .int 0, .ref (zad Z 61 0), .ref (zad Z 63 0), .ref (zad Z 64 0), .ref (zad Z 65 0), .ref (zad Z 66 0), .ref (zad Z 67 0), .ref (zad Z 68 0), .ref (zad Z 69 0), .ref (zad Z 70 0), .ref (zad Z 71 0), .int 0, .ref (zad Z 73 0), .ref (zad Z 74 0), .ref (zad Z 75 0), .ref (zad Z 76 0), .ref (zad Z 77 0), .ref (zad Z 78 0), .int 0, .int 0, .ref (zad Z 79 0), .ref (zad Z 81 0), .ref (zad Z 83 0), .ref (zad Z 85 0), .int 0, .ref (zad Z 87 0), .null, .null, .null, .int 0, .null, .int 0, .null, .null, .null, .null, .null, .null, .int 0, .int 0, .int 0, .int 0, .int 0, .int 0, .int 0, .int 0, .null, .null, .null, .int 0, .int 0, .null, .null, .null, .null, .null, .int 0, .int 0, .int 0, .int 0, .null, .null, .null, .null, .null, .null, .null]
def eX11_21 (Z : zLay) (D : zDm) : zDm := (zDu (zDu (eX11_20 Z D) 60 0 (.inr (11, fX11_20 Z))) 87 0 (.inl (zca Z 0, 4, .inl fun _ => 0)))
theorem sX11_186 (C : zCN E cX11_init RX11 2 Z h n0 c0 368 32691) (hh : 1 ≤ h) (hc : c0 = 344) (kk : zNN E 2 Z n0 Q 193 [(0, .ref (zad Z 60 0))] [] (zDu (eX11_21 Z D) 60 0 (.inr (11, fX11_21 Z))) 121 30654) : zNN E 2 Z n0 Q 186 [(0, .ref (zad Z 60 0))] [] (zDu (eX11_20 Z D) 60 0 (.inr (11, fX11_20 Z))) 120 30650 := by
  subst hc
  refine zn_aload_n C dX11_init_186 rfl ?_
  refine zn_iconst C dX11_init_187 (v := 4) (by decide) ?_
  refine zn_newa C (atype := .int) (k := 87) (i := 0) (t0 := 0) (N := 4) (a0 := (4, .inl fun _ => 0)) wq_61 rfl dX11_init_188 (by decide) (by decide) (by decide) (fun _ => rfl) (by decide) rfl (by omega) (by omega) ?_
  refine zn_putF C (by decide +kernel) 26 zin_X11 rfl (Nat.le_of_ble_eq_true rfl) rfl rfl tyX11_ok nmX11 rfl (ty := tyX11 26) (by decide +kernel) wq_1114 dX11_init_190 (zDu_o (by decide) (zDu_i _ _ _ _)) (Nat.le_of_ble_eq_true rfl) rfl rfl ?_
  exact kk
def fX11_22 (Z : zLay) : List Value := [.int 0, .int 0, .ref (zad Z 61 0), .ref (zad Z 63 0), .ref (zad Z 64 0), .ref (zad Z 65 0), .ref (zad Z 66 0), .ref (zad Z 67 0), .ref (zad Z 68 0), .ref (zad Z 69 0), .ref (zad Z 70 0), .ref (zad Z 71 0), .int 0, .ref (zad Z 73 0), .ref (zad Z 74 0), .ref (zad Z 75 0), .ref (zad Z 76 0), .ref (zad Z 77 0), .ref (zad Z 78 0), .int 0, .int 0, .ref (zad Z 79 0), .ref (zad Z 81 0), .ref (zad Z 83 0), .ref (zad Z 85 0), .int 0, .ref (zad Z 87 0), .ref (zad Z 88 0), .null, .null, .int 0, .null, .int 0, .null, .null, .null, .null, .null, .null, .int 0, .int 0, .int 0, .int 0, .int 0, .int 0, .int 0, .int 0, .null, .null, .null, .int 0, .int 0, .null, .null, .null, .null, .null, .int 0, .int 0, .int 0, .int 0, .null, .null, .null, .null, .null, .null, .null]
def eX11_22 (Z : zLay) (D : zDm) : zDm := (zDu (zDu (eX11_21 Z D) 60 0 (.inr (11, fX11_21 Z))) 88 0 (.inl (zca Z 0, 4, .inl fun _ => 0)))
theorem sX11_193 (C : zCN E cX11_init RX11 2 Z h n0 c0 368 32691) (hh : 1 ≤ h) (hc : c0 = 344) (kk : zNN E 2 Z n0 Q 200 [(0, .ref (zad Z 60 0))] [] (zDu (eX11_22 Z D) 60 0 (.inr (11, fX11_22 Z))) 122 30658) : zNN E 2 Z n0 Q 193 [(0, .ref (zad Z 60 0))] [] (zDu (eX11_21 Z D) 60 0 (.inr (11, fX11_21 Z))) 121 30654 := by
  subst hc
  refine zn_aload_n C dX11_init_193 rfl ?_
  refine zn_iconst C dX11_init_194 (v := 4) (by decide) ?_
  refine zn_newa C (atype := .int) (k := 88) (i := 0) (t0 := 0) (N := 4) (a0 := (4, .inl fun _ => 0)) wq_61 rfl dX11_init_195 (by decide) (by decide) (by decide) (fun _ => rfl) (by decide) rfl (by omega) (by omega) ?_
  refine zn_putF C (by decide +kernel) 27 zin_X11 rfl (Nat.le_of_ble_eq_true rfl) rfl rfl tyX11_ok nmX11 rfl (ty := tyX11 27) (by decide +kernel) wq_1115 dX11_init_197 (zDu_o (by decide) (zDu_i _ _ _ _)) (Nat.le_of_ble_eq_true rfl) rfl rfl ?_
  exact kk
def fX11_23 (Z : zLay) : List Value := [.int 0, .int 0, .ref (zad Z 61 0), .ref (zad Z 63 0), .ref (zad Z 64 0), .ref (zad Z 65 0), .ref (zad Z 66 0), .ref (zad Z 67 0), .ref (zad Z 68 0), .ref (zad Z 69 0), .ref (zad Z 70 0), .ref (zad Z 71 0), .int 0, .ref (zad Z 73 0), .ref (zad Z 74 0), .ref (zad Z 75 0), .ref (zad Z 76 0), .ref (zad Z 77 0), .ref (zad Z 78 0), .int 0, .int 0, .ref (zad Z 79 0), .ref (zad Z 81 0), .ref (zad Z 83 0), .ref (zad Z 85 0), .int 0, .ref (zad Z 87 0), .ref (zad Z 88 0), .ref (zad Z 89 0), .null, .int 0, .null, .int 0, .null, .null, .null, .null, .null, .null, .int 0, .int 0, .int 0, .int 0, .int 0, .int 0, .int 0, .int 0, .null, .null, .null, .int 0, .int 0, .null, .null, .null, .null, .null, .int 0, .int 0, .int 0, .int 0, .null, .null, .null, .null, .null, .null, .null]
def eX11_23 (Z : zLay) (D : zDm) : zDm := (zDu (zDu (eX11_22 Z D) 60 0 (.inr (11, fX11_22 Z))) 89 0 (.inl (zca Z 0, 4, .inl fun _ => 0)))
theorem sX11_200 (C : zCN E cX11_init RX11 2 Z h n0 c0 368 32691) (hh : 1 ≤ h) (hc : c0 = 344) (kk : zNN E 2 Z n0 Q 207 [(0, .ref (zad Z 60 0))] [] (zDu (eX11_23 Z D) 60 0 (.inr (11, fX11_23 Z))) 123 30662) : zNN E 2 Z n0 Q 200 [(0, .ref (zad Z 60 0))] [] (zDu (eX11_22 Z D) 60 0 (.inr (11, fX11_22 Z))) 122 30658 := by
  subst hc
  refine zn_aload_n C dX11_init_200 rfl ?_
  refine zn_iconst C dX11_init_201 (v := 4) (by decide) ?_
  refine zn_newa C (atype := .int) (k := 89) (i := 0) (t0 := 0) (N := 4) (a0 := (4, .inl fun _ => 0)) wq_61 rfl dX11_init_202 (by decide) (by decide) (by decide) (fun _ => rfl) (by decide) rfl (by omega) (by omega) ?_
  refine zn_put C 28 zin_X11 rfl (Nat.le_of_ble_eq_true rfl) rfl tyX11_ok nmX11 rfl (ty := tyX11 28) (by decide +kernel) wq_1116 dX11_init_204 (zDu_o (by decide) (zDu_i _ _ _ _)) (Nat.le_of_ble_eq_true rfl) rfl rfl ?_
  exact kk
def fX11_24 (Z : zLay) : List Value := [.int 0, .int 0, .ref (zad Z 61 0), .ref (zad Z 63 0), .ref (zad Z 64 0), .ref (zad Z 65 0), .ref (zad Z 66 0), .ref (zad Z 67 0), .ref (zad Z 68 0), .ref (zad Z 69 0), .ref (zad Z 70 0), .ref (zad Z 71 0), .int 0, .ref (zad Z 73 0), .ref (zad Z 74 0), .ref (zad Z 75 0), .ref (zad Z 76 0), .ref (zad Z 77 0), .ref (zad Z 78 0), .int 0, .int 0, .ref (zad Z 79 0), .ref (zad Z 81 0), .ref (zad Z 83 0), .ref (zad Z 85 0), .int 0, .ref (zad Z 87 0), .ref (zad Z 88 0), .ref (zad Z 89 0), .ref (zad Z 90 0), .int 0, .null, .int 0, .null, .null, .null, .null, .null, .null, .int 0, .int 0, .int 0, .int 0, .int 0, .int 0, .int 0, .int 0, .null, .null, .null, .int 0, .int 0, .null, .null, .null, .null, .null, .int 0, .int 0, .int 0, .int 0, .null, .null, .null, .null, .null, .null, .null]
def eX11_24 (Z : zLay) (D : zDm) : zDm := (zDu (zDu (eX11_23 Z D) 60 0 (.inr (11, fX11_23 Z))) 90 0 (.inl (zca Z 0, 4, .inl fun _ => 0)))
theorem sX11_207 (C : zCN E cX11_init RX11 2 Z h n0 c0 368 32691) (hh : 1 ≤ h) (hc : c0 = 344) (kk : zNN E 2 Z n0 Q 214 [(0, .ref (zad Z 60 0))] [] (zDu (eX11_24 Z D) 60 0 (.inr (11, fX11_24 Z))) 124 30666) : zNN E 2 Z n0 Q 207 [(0, .ref (zad Z 60 0))] [] (zDu (eX11_23 Z D) 60 0 (.inr (11, fX11_23 Z))) 123 30662 := by
  subst hc
  refine zn_aload_n C dX11_init_207 rfl ?_
  refine zn_iconst C dX11_init_208 (v := 4) (by decide) ?_
  refine zn_newa C (atype := .int) (k := 90) (i := 0) (t0 := 0) (N := 4) (a0 := (4, .inl fun _ => 0)) wq_61 rfl dX11_init_209 (by decide) (by decide) (by decide) (fun _ => rfl) (by decide) rfl (by omega) (by omega) ?_
  refine zn_put C 29 zin_X11 rfl (Nat.le_of_ble_eq_true rfl) rfl tyX11_ok nmX11 rfl (ty := tyX11 29) (by decide +kernel) wq_1117 dX11_init_211 (zDu_o (by decide) (zDu_i _ _ _ _)) (Nat.le_of_ble_eq_true rfl) rfl rfl ?_
  exact kk
def fX11_25 (Z : zLay) : List Value := [.int 0, .int 0, .ref (zad Z 61 0), .ref (zad Z 63 0), .ref (zad Z 64 0), .ref (zad Z 65 0), .ref (zad Z 66 0), .ref (zad Z 67 0), .ref (zad Z 68 0), .ref (zad Z 69 0), .ref (zad Z 70 0), .ref (zad Z 71 0), .int 0, .ref (zad Z 73 0), .ref (zad Z 74 0), .ref (zad Z 75 0), .ref (zad Z 76 0), .ref (zad Z 77 0), .ref (zad Z 78 0), .int 0, .int 0, .ref (zad Z 79 0), .ref (zad Z 81 0), .ref (zad Z 83 0), .ref (zad Z 85 0), .int 0, .ref (zad Z 87 0), .ref (zad Z 88 0), .ref (zad Z 89 0), .ref (zad Z 90 0), .int 0, .ref (zad Z 91 0), .int 0, .null, .null, .null, .null, .null, .null, .int 0, .int 0, .int 0, .int 0, .int 0, .int 0, .int 0, .int 0, .null, .null, .null, .int 0, .int 0, .null, .null, .null, .null, .null, .int 0, .int 0, .int 0, .int 0, .null, .null, .null, .null, .null, .null, .null]
def eX11_25 (Z : zLay) (D : zDm) : zDm := (zDr (zDu (zDu (eX11_24 Z D) 60 0 (.inr (11, fX11_24 Z))) 91 0 (.inl (zca Z 9, 200, .inr (.inr (.inr (.inr (fun i => if i < 200 then some (zad Z 92 i) else none))))))) 92 200 (.inl (zca Z 0, (6, .inl fun _ => 0))))
theorem sX11_214 (C : zCN E cX11_init RX11 2 Z h n0 c0 368 32691) (hh : 1 ≤ h) (hc : c0 = 344) (kk : zNN E 2 Z n0 Q 227 [(0, .ref (zad Z 60 0))] [] (zDu (eX11_25 Z D) 60 0 (.inr (11, fX11_25 Z))) 325 32066) : zNN E 2 Z n0 Q 214 [(0, .ref (zad Z 60 0))] [] (zDu (eX11_24 Z D) 60 0 (.inr (11, fX11_24 Z))) 124 30666 := by
  subst hc
  refine zn_aload_n C dX11_init_214 rfl ?_
  refine zn_sipush C dX11_init_215 (v := 200) (by decide) ?_
  refine zn_bipush C dX11_init_218 (v := 6) (by decide) ?_
  refine zn_mna C (ty := .int) (N := 200) (M := 6) (t0 := 9) (t1 := 0) (k := 91) (k1 := 92) (a0 := (6, .inl fun _ => 0)) wq_1085 (by unfold zOvL; simp) wq_61 rfl rfl (fun _ _ q => q) dX11_init_220 (by decide) (by decide) (by decide) (by decide) (by decide) (by decide) (by decide) rfl rfl (fun _ => rfl) (by decide) (by decide) rfl (fun j _ => by show 469 + 1 * j = 344 + 124 + 1 + j; omega) (by omega) (by omega) ?_
  refine zn_putF C (by decide +kernel) 31 zin_X11 rfl (Nat.le_of_ble_eq_true rfl) rfl rfl tyX11_ok nmX11 rfl (ty := tyX11 31) (by decide +kernel) wq_1119 dX11_init_224 (zDr_o (by decide) (zDu_o (by decide) (zDu_i _ _ _ _))) (Nat.le_of_ble_eq_true rfl) rfl rfl ?_
  exact kk
def fX11_26 (Z : zLay) : List Value := [.int 0, .int 0, .ref (zad Z 61 0), .ref (zad Z 63 0), .ref (zad Z 64 0), .ref (zad Z 65 0), .ref (zad Z 66 0), .ref (zad Z 67 0), .ref (zad Z 68 0), .ref (zad Z 69 0), .ref (zad Z 70 0), .ref (zad Z 71 0), .int 0, .ref (zad Z 73 0), .ref (zad Z 74 0), .ref (zad Z 75 0), .ref (zad Z 76 0), .ref (zad Z 77 0), .ref (zad Z 78 0), .int 0, .int 0, .ref (zad Z 79 0), .ref (zad Z 81 0), .ref (zad Z 83 0), .ref (zad Z 85 0), .int 0, .ref (zad Z 87 0), .ref (zad Z 88 0), .ref (zad Z 89 0), .ref (zad Z 90 0), .int 0, .ref (zad Z 91 0), .int 0, .ref (zad Z 93 0), .null, .null, .null, .null, .null, .int 0, .int 0, .int 0, .int 0, .int 0, .int 0, .int 0, .int 0, .null, .null, .null, .int 0, .int 0, .null, .null, .null, .null, .null, .int 0, .int 0, .int 0, .int 0, .null, .null, .null, .null, .null, .null, .null]
def eX11_26 (Z : zLay) (D : zDm) : zDm := (zDu (zDu (eX11_25 Z D) 60 0 (.inr (11, fX11_25 Z))) 93 0 (.inl (zca Z 0, 6, .inl fun _ => 0)))
theorem sX11_227 (C : zCN E cX11_init RX11 2 Z h n0 c0 368 32691) (hh : 1 ≤ h) (hc : c0 = 344) (kk : zNN E 2 Z n0 Q 235 [(0, .ref (zad Z 60 0))] [] (zDu (eX11_26 Z D) 60 0 (.inr (11, fX11_26 Z))) 326 32072) : zNN E 2 Z n0 Q 227 [(0, .ref (zad Z 60 0))] [] (zDu (eX11_25 Z D) 60 0 (.inr (11, fX11_25 Z))) 325 32066 := by
  subst hc
  refine zn_aload_n C dX11_init_227 rfl ?_
  refine zn_bipush C dX11_init_228 (v := 6) (by decide) ?_
  refine zn_newa C (atype := .int) (k := 93) (i := 0) (t0 := 0) (N := 6) (a0 := (6, .inl fun _ => 0)) wq_61 rfl dX11_init_230 (by decide) (by decide) (by decide) (fun _ => rfl) (by decide) rfl (by omega) (by omega) ?_
  refine zn_putF C (by decide +kernel) 33 zin_X11 rfl (Nat.le_of_ble_eq_true rfl) rfl rfl tyX11_ok nmX11 rfl (ty := tyX11 33) (by decide +kernel) wq_1121 dX11_init_232 (zDu_o (by decide) (zDu_i _ _ _ _)) (Nat.le_of_ble_eq_true rfl) rfl rfl ?_
  exact kk
def fX11_27 (Z : zLay) : List Value := [.int 0, .int 0, .ref (zad Z 61 0), .ref (zad Z 63 0), .ref (zad Z 64 0), .ref (zad Z 65 0), .ref (zad Z 66 0), .ref (zad Z 67 0), .ref (zad Z 68 0), .ref (zad Z 69 0), .ref (zad Z 70 0), .ref (zad Z 71 0), .int 0, .ref (zad Z 73 0), .ref (zad Z 74 0), .ref (zad Z 75 0), .ref (zad Z 76 0), .ref (zad Z 77 0), .ref (zad Z 78 0), .int 0, .int 0, .ref (zad Z 79 0), .ref (zad Z 81 0), .ref (zad Z 83 0), .ref (zad Z 85 0), .int 0, .ref (zad Z 87 0), .ref (zad Z 88 0), .ref (zad Z 89 0), .ref (zad Z 90 0), .int 0, .ref (zad Z 91 0), .int 0, .ref (zad Z 93 0), .ref (zad Z 94 0), .null, .null, .null, .null, .int 0, .int 0, .int 0, .int 0, .int 0, .int 0, .int 0, .int 0, .null, .null, .null, .int 0, .int 0, .null, .null, .null, .null, .null, .int 0, .int 0, .int 0, .int 0, .null, .null, .null, .null, .null, .null, .null]
def eX11_27 (Z : zLay) (D : zDm) : zDm := (zDu (zDu (eX11_26 Z D) 60 0 (.inr (11, fX11_26 Z))) 94 0 (.inl (zca Z 4, 6, .inl fun _ => 0)))
theorem sX11_235 (C : zCN E cX11_init RX11 2 Z h n0 c0 368 32691) (hh : 1 ≤ h) (hc : c0 = 344) (kk : zNN E 2 Z n0 Q 243 [(0, .ref (zad Z 60 0))] [] (zDu (eX11_27 Z D) 60 0 (.inr (11, fX11_27 Z))) 327 32078) : zNN E 2 Z n0 Q 235 [(0, .ref (zad Z 60 0))] [] (zDu (eX11_26 Z D) 60 0 (.inr (11, fX11_26 Z))) 326 32072 := by
  subst hc
  refine zn_aload_n C dX11_init_235 rfl ?_
  refine zn_bipush C dX11_init_236 (v := 6) (by decide) ?_
  refine zn_newa C (atype := .boolean) (k := 94) (i := 0) (t0 := 4) (N := 6) (a0 := (6, .inl fun _ => 0)) wq_124 rfl dX11_init_238 (by decide) (by decide) (by decide) (fun _ => rfl) (by decide) rfl (by omega) (by omega) ?_
  refine zn_putF C (by decide +kernel) 34 zin_X11 rfl (Nat.le_of_ble_eq_true rfl) rfl rfl tyX11_ok nmX11 rfl (ty := tyX11 34) (by decide +kernel) wq_1122 dX11_init_240 (zDu_o (by decide) (zDu_i _ _ _ _)) (Nat.le_of_ble_eq_true rfl) rfl rfl ?_
  exact kk
def fX11_28 (Z : zLay) : List Value := [.int 0, .int 0, .ref (zad Z 61 0), .ref (zad Z 63 0), .ref (zad Z 64 0), .ref (zad Z 65 0), .ref (zad Z 66 0), .ref (zad Z 67 0), .ref (zad Z 68 0), .ref (zad Z 69 0), .ref (zad Z 70 0), .ref (zad Z 71 0), .int 0, .ref (zad Z 73 0), .ref (zad Z 74 0), .ref (zad Z 75 0), .ref (zad Z 76 0), .ref (zad Z 77 0), .ref (zad Z 78 0), .int 0, .int 0, .ref (zad Z 79 0), .ref (zad Z 81 0), .ref (zad Z 83 0), .ref (zad Z 85 0), .int 0, .ref (zad Z 87 0), .ref (zad Z 88 0), .ref (zad Z 89 0), .ref (zad Z 90 0), .int 0, .ref (zad Z 91 0), .int 0, .ref (zad Z 93 0), .ref (zad Z 94 0), .ref (zad Z 95 0), .null, .null, .null, .int 0, .int 0, .int 0, .int 0, .int 0, .int 0, .int 0, .int 0, .null, .null, .null, .int 0, .int 0, .null, .null, .null, .null, .null, .int 0, .int 0, .int 0, .int 0, .null, .null, .null, .null, .null, .null, .null]
def eX11_28 (Z : zLay) (D : zDm) : zDm := (zDu (zDu (eX11_27 Z D) 60 0 (.inr (11, fX11_27 Z))) 95 0 (.inl (zca Z 0, 6, .inl fun _ => 0)))
theorem sX11_243 (C : zCN E cX11_init RX11 2 Z h n0 c0 368 32691) (hh : 1 ≤ h) (hc : c0 = 344) (kk : zNN E 2 Z n0 Q 251 [(0, .ref (zad Z 60 0))] [] (zDu (eX11_28 Z D) 60 0 (.inr (11, fX11_28 Z))) 328 32084) : zNN E 2 Z n0 Q 243 [(0, .ref (zad Z 60 0))] [] (zDu (eX11_27 Z D) 60 0 (.inr (11, fX11_27 Z))) 327 32078 := by
  subst hc
  refine zn_aload_n C dX11_init_243 rfl ?_
  refine zn_bipush C dX11_init_244 (v := 6) (by decide) ?_
  refine zn_newa C (atype := .int) (k := 95) (i := 0) (t0 := 0) (N := 6) (a0 := (6, .inl fun _ => 0)) wq_61 rfl dX11_init_246 (by decide) (by decide) (by decide) (fun _ => rfl) (by decide) rfl (by omega) (by omega) ?_
  refine zn_putF C (by decide +kernel) 35 zin_X11 rfl (Nat.le_of_ble_eq_true rfl) rfl rfl tyX11_ok nmX11 rfl (ty := tyX11 35) (by decide +kernel) wq_1123 dX11_init_248 (zDu_o (by decide) (zDu_i _ _ _ _)) (Nat.le_of_ble_eq_true rfl) rfl rfl ?_
  exact kk
def fX11_29 (Z : zLay) : List Value := [.int 0, .int 0, .ref (zad Z 61 0), .ref (zad Z 63 0), .ref (zad Z 64 0), .ref (zad Z 65 0), .ref (zad Z 66 0), .ref (zad Z 67 0), .ref (zad Z 68 0), .ref (zad Z 69 0), .ref (zad Z 70 0), .ref (zad Z 71 0), .int 0, .ref (zad Z 73 0), .ref (zad Z 74 0), .ref (zad Z 75 0), .ref (zad Z 76 0), .ref (zad Z 77 0), .ref (zad Z 78 0), .int 0, .int 0, .ref (zad Z 79 0), .ref (zad Z 81 0), .ref (zad Z 83 0), .ref (zad Z 85 0), .int 0, .ref (zad Z 87 0), .ref (zad Z 88 0), .ref (zad Z 89 0), .ref (zad Z 90 0), .int 0, .ref (zad Z 91 0), .int 0, .ref (zad Z 93 0), .ref (zad Z 94 0), .ref (zad Z 95 0), .ref (zad Z 96 0), .null, .null, .int 0, .int 0, .int 0, .int 0, .int 0, .int 0, .int 0, .int 0, .null, .null, .null, .int 0, .int 0, .null, .null, .null, .null, .null, .int 0, .int 0, .int 0, .int 0, .null, .null, .null, .null, .null, .null, .null]
def eX11_29 (Z : zLay) (D : zDm) : zDm := (zDr (zDu (zDu (eX11_28 Z D) 60 0 (.inr (11, fX11_28 Z))) 96 0 (.inl (zca Z 9, 6, .inr (.inr (.inr (.inr (fun i => if i < 6 then some (zad Z 97 i) else none))))))) 97 6 (.inl (zca Z 0, (8, .inl fun _ => 0))))
theorem sX11_251 (C : zCN E cX11_init RX11 2 Z h n0 c0 368 32691) (hh : 1 ≤ h) (hc : c0 = 344) (kk : zNN E 2 Z n0 Q 263 [(0, .ref (zad Z 60 0))] [] (zDu (eX11_29 Z D) 60 0 (.inr (11, fX11_29 Z))) 335 32138) : zNN E 2 Z n0 Q 251 [(0, .ref (zad Z 60 0))] [] (zDu (eX11_28 Z D) 60 0 (.inr (11, fX11_28 Z))) 328 32084 := by
  subst hc
  refine zn_aload_n C dX11_init_251 rfl ?_
  refine zn_bipush C dX11_init_252 (v := 6) (by decide) ?_
  refine zn_bipush C dX11_init_254 (v := 8) (by decide) ?_
  refine zn_mna C (ty := .int) (N := 6) (M := 8) (t0 := 9) (t1 := 0) (k := 96) (k1 := 97) (a0 := (8, .inl fun _ => 0)) wq_1085 (by unfold zOvL; simp) wq_61 rfl rfl (fun _ _ q => q) dX11_init_256 (by decide) (by decide) (by decide) (by decide) (by decide) (by decide) (by decide) rfl rfl (fun _ => rfl) (by decide) (by decide) rfl (fun j _ => by show 673 + 1 * j = 344 + 328 + 1 + j; omega) (by omega) (by omega) ?_
  refine zn_putF C (by decide +kernel) 36 zin_X11 rfl (Nat.le_of_ble_eq_true rfl) rfl rfl tyX11_ok nmX11 rfl (ty := tyX11 36) (by decide +kernel) wq_1124 dX11_init_260 (zDr_o (by decide) (zDu_o (by decide) (zDu_i _ _ _ _))) (Nat.le_of_ble_eq_true rfl) rfl rfl ?_
  exact kk
def fX11_30 (Z : zLay) : List Value := [.int 0, .int 0, .ref (zad Z 61 0), .ref (zad Z 63 0), .ref (zad Z 64 0), .ref (zad Z 65 0), .ref (zad Z 66 0), .ref (zad Z 67 0), .ref (zad Z 68 0), .ref (zad Z 69 0), .ref (zad Z 70 0), .ref (zad Z 71 0), .int 0, .ref (zad Z 73 0), .ref (zad Z 74 0), .ref (zad Z 75 0), .ref (zad Z 76 0), .ref (zad Z 77 0), .ref (zad Z 78 0), .int 0, .int 0, .ref (zad Z 79 0), .ref (zad Z 81 0), .ref (zad Z 83 0), .ref (zad Z 85 0), .int 0, .ref (zad Z 87 0), .ref (zad Z 88 0), .ref (zad Z 89 0), .ref (zad Z 90 0), .int 0, .ref (zad Z 91 0), .int 0, .ref (zad Z 93 0), .ref (zad Z 94 0), .ref (zad Z 95 0), .ref (zad Z 96 0), .ref (zad Z 98 0), .null, .int 0, .int 0, .int 0, .int 0, .int 0, .int 0, .int 0, .int 0, .null, .null, .null, .int 0, .int 0, .null, .null, .null, .null, .null, .int 0, .int 0, .int 0, .int 0, .null, .null, .null, .null, .null, .null, .null]
def eX11_30 (Z : zLay) (D : zDm) : zDm := (zDr (zDu (zDu (eX11_29 Z D) 60 0 (.inr (11, fX11_29 Z))) 98 0 (.inl (zca Z 11, 6, .inr (.inr (.inr (.inr (fun i => if i < 6 then some (zad Z 99 i) else none))))))) 99 6 (.inl (zca Z 4, (8, .inl fun _ => 0))))
theorem sX11_263 (C : zCN E cX11_init RX11 2 Z h n0 c0 368 32691) (hh : 1 ≤ h) (hc : c0 = 344) (kk : zNN E 2 Z n0 Q 275 [(0, .ref (zad Z 60 0))] [] (zDu (eX11_30 Z D) 60 0 (.inr (11, fX11_30 Z))) 342 32192) : zNN E 2 Z n0 Q 263 [(0, .ref (zad Z 60 0))] [] (zDu (eX11_29 Z D) 60 0 (.inr (11, fX11_29 Z))) 335 32138 := by
  subst hc
  refine zn_aload_n C dX11_init_263 rfl ?_
  refine zn_bipush C dX11_init_264 (v := 6) (by decide) ?_
  refine zn_bipush C dX11_init_266 (v := 8) (by decide) ?_
  refine zn_mna C (ty := .boolean) (N := 6) (M := 8) (t0 := 11) (t1 := 4) (k := 98) (k1 := 99) (a0 := (8, .inl fun _ => 0)) wq_1086 (by unfold zOvL; simp) wq_124 rfl rfl (fun _ _ q => q) dX11_init_268 (by decide) (by decide) (by decide) (by decide) (by decide) (by decide) (by decide) rfl rfl (fun _ => rfl) (by decide) (by decide) rfl (fun j _ => by show 680 + 1 * j = 344 + 335 + 1 + j; omega) (by omega) (by omega) ?_
  refine zn_putF C (by decide +kernel) 37 zin_X11 rfl (Nat.le_of_ble_eq_true rfl) rfl rfl tyX11_ok nmX11 rfl (ty := tyX11 37) (by decide +kernel) wq_1125 dX11_init_272 (zDr_o (by decide) (zDu_o (by decide) (zDu_i _ _ _ _))) (Nat.le_of_ble_eq_true rfl) rfl rfl ?_
  exact kk
def fX11_31 (Z : zLay) : List Value := [.int 0, .int 0, .ref (zad Z 61 0), .ref (zad Z 63 0), .ref (zad Z 64 0), .ref (zad Z 65 0), .ref (zad Z 66 0), .ref (zad Z 67 0), .ref (zad Z 68 0), .ref (zad Z 69 0), .ref (zad Z 70 0), .ref (zad Z 71 0), .int 0, .ref (zad Z 73 0), .ref (zad Z 74 0), .ref (zad Z 75 0), .ref (zad Z 76 0), .ref (zad Z 77 0), .ref (zad Z 78 0), .int 0, .int 0, .ref (zad Z 79 0), .ref (zad Z 81 0), .ref (zad Z 83 0), .ref (zad Z 85 0), .int 0, .ref (zad Z 87 0), .ref (zad Z 88 0), .ref (zad Z 89 0), .ref (zad Z 90 0), .int 0, .ref (zad Z 91 0), .int 0, .ref (zad Z 93 0), .ref (zad Z 94 0), .ref (zad Z 95 0), .ref (zad Z 96 0), .ref (zad Z 98 0), .ref (zad Z 100 0), .int 0, .int 0, .int 0, .int 0, .int 0, .int 0, .int 0, .int 0, .null, .null, .null, .int 0, .int 0, .null, .null, .null, .null, .null, .int 0, .int 0, .int 0, .int 0, .null, .null, .null, .null, .null, .null, .null]
def eX11_31 (Z : zLay) (D : zDm) : zDm := (zDu (zDu (eX11_30 Z D) 60 0 (.inr (11, fX11_30 Z))) 100 0 (.inl (zca Z 0, 6, .inl fun _ => 0)))
theorem sX11_275 (C : zCN E cX11_init RX11 2 Z h n0 c0 368 32691) (hh : 1 ≤ h) (hc : c0 = 344) (kk : zNN E 2 Z n0 Q 283 [(0, .ref (zad Z 60 0))] [] (zDu (eX11_31 Z D) 60 0 (.inr (11, fX11_31 Z))) 343 32198) : zNN E 2 Z n0 Q 275 [(0, .ref (zad Z 60 0))] [] (zDu (eX11_30 Z D) 60 0 (.inr (11, fX11_30 Z))) 342 32192 := by
  subst hc
  refine zn_aload_n C dX11_init_275 rfl ?_
  refine zn_bipush C dX11_init_276 (v := 6) (by decide) ?_
  refine zn_newa C (atype := .int) (k := 100) (i := 0) (t0 := 0) (N := 6) (a0 := (6, .inl fun _ => 0)) wq_61 rfl dX11_init_278 (by decide) (by decide) (by decide) (fun _ => rfl) (by decide) rfl (by omega) (by omega) ?_
  refine zn_putF C (by decide +kernel) 38 zin_X11 rfl (Nat.le_of_ble_eq_true rfl) rfl rfl tyX11_ok nmX11 rfl (ty := tyX11 38) (by decide +kernel) wq_1126 dX11_init_280 (zDu_o (by decide) (zDu_i _ _ _ _)) (Nat.le_of_ble_eq_true rfl) rfl rfl ?_
  exact kk
def fX11_32 (Z : zLay) : List Value := [.int 0, .int 0, .ref (zad Z 61 0), .ref (zad Z 63 0), .ref (zad Z 64 0), .ref (zad Z 65 0), .ref (zad Z 66 0), .ref (zad Z 67 0), .ref (zad Z 68 0), .ref (zad Z 69 0), .ref (zad Z 70 0), .ref (zad Z 71 0), .int 0, .ref (zad Z 73 0), .ref (zad Z 74 0), .ref (zad Z 75 0), .ref (zad Z 76 0), .ref (zad Z 77 0), .ref (zad Z 78 0), .int 0, .int 0, .ref (zad Z 79 0), .ref (zad Z 81 0), .ref (zad Z 83 0), .ref (zad Z 85 0), .int 0, .ref (zad Z 87 0), .ref (zad Z 88 0), .ref (zad Z 89 0), .ref (zad Z 90 0), .int 0, .ref (zad Z 91 0), .int 0, .ref (zad Z 93 0), .ref (zad Z 94 0), .ref (zad Z 95 0), .ref (zad Z 96 0), .ref (zad Z 98 0), .ref (zad Z 100 0), .int 0, .int 0, .int 0, .int 0, .int (-1), .int 0, .int 0, .int 0, .null, .null, .null, .int 0, .int 0, .null, .null, .null, .null, .null, .int 0, .int 0, .int 0, .int 0, .null, .null, .null, .null, .null, .null, .null]
def eX11_32 (Z : zLay) (D : zDm) : zDm := (zDu (eX11_31 Z D) 60 0 (.inr (11, fX11_31 Z)))
theorem sX11_283 (C : zCN E cX11_init RX11 2 Z h n0 c0 368 32691) (hh : 1 ≤ h) (hc : c0 = 344) (kk : zNN E 2 Z n0 Q 288 [(0, .ref (zad Z 60 0))] [] (zDu (eX11_32 Z D) 60 0 (.inr (11, fX11_32 Z))) 343 32198) : zNN E 2 Z n0 Q 283 [(0, .ref (zad Z 60 0))] [] (zDu (eX11_31 Z D) 60 0 (.inr (11, fX11_31 Z))) 343 32198 := by
  subst hc
  refine zn_aload_n C dX11_init_283 rfl ?_
  refine zn_iconst C dX11_init_284 (v := (-1)) (by decide) ?_
  refine zn_put C 43 zin_X11 rfl (Nat.le_of_ble_eq_true rfl) rfl tyX11_ok nmX11 rfl (ty := tyX11 43) (by decide +kernel) wq_1131 dX11_init_285 (zDu_i _ _ _ _) (Nat.le_of_ble_eq_true rfl) rfl rfl ?_
  exact kk
def fX11_33 (Z : zLay) : List Value := [.int 0, .int 0, .ref (zad Z 61 0), .ref (zad Z 63 0), .ref (zad Z 64 0), .ref (zad Z 65 0), .ref (zad Z 66 0), .ref (zad Z 67 0), .ref (zad Z 68 0), .ref (zad Z 69 0), .ref (zad Z 70 0), .ref (zad Z 71 0), .int 0, .ref (zad Z 73 0), .ref (zad Z 74 0), .ref (zad Z 75 0), .ref (zad Z 76 0), .ref (zad Z 77 0), .ref (zad Z 78 0), .int 0, .int 0, .ref (zad Z 79 0), .ref (zad Z 81 0), .ref (zad Z 83 0), .ref (zad Z 85 0), .int 0, .ref (zad Z 87 0), .ref (zad Z 88 0), .ref (zad Z 89 0), .ref (zad Z 90 0), .int 0, .ref (zad Z 91 0), .int 0, .ref (zad Z 93 0), .ref (zad Z 94 0), .ref (zad Z 95 0), .ref (zad Z 96 0), .ref (zad Z 98 0), .ref (zad Z 100 0), .int 0, .int 0, .int 0, .int 0, .int (-1), .int 0, .int 0, .int 0, .ref (zad Z 101 0), .null, .null, .int 0, .int 0, .null, .null, .null, .null, .null, .int 0, .int 0, .int 0, .int 0, .null, .null, .null, .null, .null, .null, .null]
def eX11_33 (Z : zLay) (D : zDm) : zDm := (zDu (zDu (eX11_32 Z D) 60 0 (.inr (11, fX11_32 Z))) 101 0 (.inl (zca Z 0, 10, .inl fun _ => 0)))
theorem sX11_288 (C : zCN E cX11_init RX11 2 Z h n0 c0 368 32691) (hh : 1 ≤ h) (hc : c0 = 344) (kk : zNN E 2 Z n0 Q 296 [(0, .ref (zad Z 60 0))] [] (zDu (eX11_33 Z D) 60 0 (.inr (11, fX11_33 Z))) 344 32208) : zNN E 2 Z n0 Q 288 [(0, .ref (zad Z 60 0))] [] (zDu (eX11_32 Z D) 60 0 (.inr (11, fX11_32 Z))) 343 32198 := by
  subst hc
  refine zn_aload_n C dX11_init_288 rfl ?_
  refine zn_bipush C dX11_init_289 (v := 10) (by decide) ?_
  refine zn_newa C (atype := .int) (k := 101) (i := 0) (t0 := 0) (N := 10) (a0 := (10, .inl fun _ => 0)) wq_61 rfl dX11_init_291 (by decide) (by decide) (by decide) (fun _ => rfl) (by decide) rfl (by omega) (by omega) ?_
  refine zn_putF C (by decide +kernel) 47 zin_X11 rfl (Nat.le_of_ble_eq_true rfl) rfl rfl tyX11_ok nmX11 rfl (ty := tyX11 47) (by decide +kernel) wq_1135 dX11_init_293 (zDu_o (by decide) (zDu_i _ _ _ _)) (Nat.le_of_ble_eq_true rfl) rfl rfl ?_
  exact kk
def fX11_34 (Z : zLay) : List Value := [.int 0, .int 0, .ref (zad Z 61 0), .ref (zad Z 63 0), .ref (zad Z 64 0), .ref (zad Z 65 0), .ref (zad Z 66 0), .ref (zad Z 67 0), .ref (zad Z 68 0), .ref (zad Z 69 0), .ref (zad Z 70 0), .ref (zad Z 71 0), .int 0, .ref (zad Z 73 0), .ref (zad Z 74 0), .ref (zad Z 75 0), .ref (zad Z 76 0), .ref (zad Z 77 0), .ref (zad Z 78 0), .int 0, .int 0, .ref (zad Z 79 0), .ref (zad Z 81 0), .ref (zad Z 83 0), .ref (zad Z 85 0), .int 0, .ref (zad Z 87 0), .ref (zad Z 88 0), .ref (zad Z 89 0), .ref (zad Z 90 0), .int 0, .ref (zad Z 91 0), .int 0, .ref (zad Z 93 0), .ref (zad Z 94 0), .ref (zad Z 95 0), .ref (zad Z 96 0), .ref (zad Z 98 0), .ref (zad Z 100 0), .int 0, .int 0, .int 0, .int 0, .int (-1), .int 0, .int 0, .int 0, .ref (zad Z 101 0), .ref (zad Z 102 0), .null, .int 0, .int 0, .null, .null, .null, .null, .null, .int 0, .int 0, .int 0, .int 0, .null, .null, .null, .null, .null, .null, .null]
def eX11_34 (Z : zLay) (D : zDm) : zDm := (zDu (zDu (eX11_33 Z D) 60 0 (.inr (11, fX11_33 Z))) 102 0 (.inl (zca Z 0, 10, .inl fun _ => 0)))
theorem sX11_296 (C : zCN E cX11_init RX11 2 Z h n0 c0 368 32691) (hh : 1 ≤ h) (hc : c0 = 344) (kk : zNN E 2 Z n0 Q 304 [(0, .ref (zad Z 60 0))] [] (zDu (eX11_34 Z D) 60 0 (.inr (11, fX11_34 Z))) 345 32218) : zNN E 2 Z n0 Q 296 [(0, .ref (zad Z 60 0))] [] (zDu (eX11_33 Z D) 60 0 (.inr (11, fX11_33 Z))) 344 32208 := by
  subst hc
  refine zn_aload_n C dX11_init_296 rfl ?_
  refine zn_bipush C dX11_init_297 (v := 10) (by decide) ?_
  refine zn_newa C (atype := .int) (k := 102) (i := 0) (t0 := 0) (N := 10) (a0 := (10, .inl fun _ => 0)) wq_61 rfl dX11_init_299 (by decide) (by decide) (by decide) (fun _ => rfl) (by decide) rfl (by omega) (by omega) ?_
  refine zn_putF C (by decide +kernel) 48 zin_X11 rfl (Nat.le_of_ble_eq_true rfl) rfl rfl tyX11_ok nmX11 rfl (ty := tyX11 48) (by decide +kernel) wq_1136 dX11_init_301 (zDu_o (by decide) (zDu_i _ _ _ _)) (Nat.le_of_ble_eq_true rfl) rfl rfl ?_
  exact kk
def fX11_35 (Z : zLay) : List Value := [.int 0, .int 0, .ref (zad Z 61 0), .ref (zad Z 63 0), .ref (zad Z 64 0), .ref (zad Z 65 0), .ref (zad Z 66 0), .ref (zad Z 67 0), .ref (zad Z 68 0), .ref (zad Z 69 0), .ref (zad Z 70 0), .ref (zad Z 71 0), .int 0, .ref (zad Z 73 0), .ref (zad Z 74 0), .ref (zad Z 75 0), .ref (zad Z 76 0), .ref (zad Z 77 0), .ref (zad Z 78 0), .int 0, .int 0, .ref (zad Z 79 0), .ref (zad Z 81 0), .ref (zad Z 83 0), .ref (zad Z 85 0), .int 0, .ref (zad Z 87 0), .ref (zad Z 88 0), .ref (zad Z 89 0), .ref (zad Z 90 0), .int 0, .ref (zad Z 91 0), .int 0, .ref (zad Z 93 0), .ref (zad Z 94 0), .ref (zad Z 95 0), .ref (zad Z 96 0), .ref (zad Z 98 0), .ref (zad Z 100 0), .int 0, .int 0, .int 0, .int 0, .int (-1), .int 0, .int 0, .int 0, .ref (zad Z 101 0), .ref (zad Z 102 0), .ref (zad Z 103 0), .int 0, .int 0, .null, .null, .null, .null, .null, .int 0, .int 0, .int 0, .int 0, .null, .null, .null, .null, .null, .null, .null]
def eX11_35 (Z : zLay) (D : zDm) : zDm := (zDu (zDu (zDu (zDu (zDu (eX11_34 Z D) 60 0 (.inr (11, fX11_34 Z))) 103 0 (.inl (zca Z 0, 3, .inl fun _ => 0))) 103 0 (.inl (zca Z 0, 3, .inl (fun j => if j = (0 : Int32).toNatClampNeg then (-1) else 0)))) 103 0 (.inl (zca Z 0, 3, .inl (fun j => if j = (1 : Int32).toNatClampNeg then (-1) else (fun j => if j = (0 : Int32).toNatClampNeg then (-1) else 0) j)))) 103 0 (.inl (zca Z 0, 3, .inl (fun j => if j = (2 : Int32).toNatClampNeg then (-1) else (fun j => if j = (1 : Int32).toNatClampNeg then (-1) else (fun j => if j = (0 : Int32).toNatClampNeg then (-1) else 0) j) j))))
theorem sX11_304 (C : zCN E cX11_init RX11 2 Z h n0 c0 368 32691) (hh : 1 ≤ h) (hc : c0 = 344) (kk : zNN E 2 Z n0 Q 323 [(0, .ref (zad Z 60 0))] [] (zDu (eX11_35 Z D) 60 0 (.inr (11, fX11_35 Z))) 346 32221) : zNN E 2 Z n0 Q 304 [(0, .ref (zad Z 60 0))] [] (zDu (eX11_34 Z D) 60 0 (.inr (11, fX11_34 Z))) 345 32218 := by
  subst hc
  refine zn_aload_n C dX11_init_304 rfl ?_
  refine zn_iconst C dX11_init_305 (v := 3) (by decide) ?_
  refine zn_newa C (atype := .int) (k := 103) (i := 0) (t0 := 0) (N := 3) (a0 := (3, .inl fun _ => 0)) wq_61 rfl dX11_init_306 (by decide) (by decide) (by decide) (fun _ => rfl) (by decide) rfl (by omega) (by omega) ?_
  refine zn_dup C dX11_init_308 rfl ?_
  refine zn_iconst C dX11_init_309 (v := 0) (by decide) ?_
  refine zn_iconst C dX11_init_310 (v := (-1)) (by decide) ?_
  refine zn_iast C (k := 103) (i := 0) (zDu_i _ _ _ _) (by decide) (by decide) dX11_init_311 ?_
  refine zn_dup C dX11_init_312 rfl ?_
  refine zn_iconst C dX11_init_313 (v := 1) (by decide) ?_
  refine zn_iconst C dX11_init_314 (v := (-1)) (by decide) ?_
  refine zn_iast C (k := 103) (i := 0) (zDu_i _ _ _ _) (by decide) (by decide) dX11_init_315 ?_
  refine zn_dup C dX11_init_316 rfl ?_
  refine zn_iconst C dX11_init_317 (v := 2) (by decide) ?_
  refine zn_iconst C dX11_init_318 (v := (-1)) (by decide) ?_
  refine zn_iast C (k := 103) (i := 0) (zDu_i _ _ _ _) (by decide) (by decide) dX11_init_319 ?_
  refine zn_putF C (by decide +kernel) 49 zin_X11 rfl (Nat.le_of_ble_eq_true rfl) rfl rfl tyX11_ok nmX11 rfl (ty := tyX11 49) (by decide +kernel) wq_1137 dX11_init_320 (zDu_o (by decide) (zDu_o (by decide) (zDu_o (by decide) (zDu_o (by decide) (zDu_i _ _ _ _))))) (Nat.le_of_ble_eq_true rfl) rfl rfl ?_
  exact kk
def fX11_36 (Z : zLay) : List Value := [.int 0, .int 0, .ref (zad Z 61 0), .ref (zad Z 63 0), .ref (zad Z 64 0), .ref (zad Z 65 0), .ref (zad Z 66 0), .ref (zad Z 67 0), .ref (zad Z 68 0), .ref (zad Z 69 0), .ref (zad Z 70 0), .ref (zad Z 71 0), .int 0, .ref (zad Z 73 0), .ref (zad Z 74 0), .ref (zad Z 75 0), .ref (zad Z 76 0), .ref (zad Z 77 0), .ref (zad Z 78 0), .int 0, .int 0, .ref (zad Z 79 0), .ref (zad Z 81 0), .ref (zad Z 83 0), .ref (zad Z 85 0), .int 0, .ref (zad Z 87 0), .ref (zad Z 88 0), .ref (zad Z 89 0), .ref (zad Z 90 0), .int 0, .ref (zad Z 91 0), .int 0, .ref (zad Z 93 0), .ref (zad Z 94 0), .ref (zad Z 95 0), .ref (zad Z 96 0), .ref (zad Z 98 0), .ref (zad Z 100 0), .int 0, .int 0, .int 0, .int 0, .int (-1), .int 0, .int 0, .int 0, .ref (zad Z 101 0), .ref (zad Z 102 0), .ref (zad Z 103 0), .int 0, .int (-1), .null, .null, .null, .null, .null, .int 0, .int 0, .int 0, .int 0, .null, .null, .null, .null, .null, .null, .null]
def eX11_36 (Z : zLay) (D : zDm) : zDm := (zDu (eX11_35 Z D) 60 0 (.inr (11, fX11_35 Z)))
theorem sX11_323 (C : zCN E cX11_init RX11 2 Z h n0 c0 368 32691) (hh : 1 ≤ h) (hc : c0 = 344) (kk : zNN E 2 Z n0 Q 328 [(0, .ref (zad Z 60 0))] [] (zDu (eX11_36 Z D) 60 0 (.inr (11, fX11_36 Z))) 346 32221) : zNN E 2 Z n0 Q 323 [(0, .ref (zad Z 60 0))] [] (zDu (eX11_35 Z D) 60 0 (.inr (11, fX11_35 Z))) 346 32221 := by
  subst hc
  refine zn_aload_n C dX11_init_323 rfl ?_
  refine zn_iconst C dX11_init_324 (v := (-1)) (by decide) ?_
  refine zn_put C 51 zin_X11 rfl (Nat.le_of_ble_eq_true rfl) rfl tyX11_ok nmX11 rfl (ty := tyX11 51) (by decide +kernel) wq_1139 dX11_init_325 (zDu_i _ _ _ _) (Nat.le_of_ble_eq_true rfl) rfl rfl ?_
  exact kk
def fX11_37 (Z : zLay) : List Value := [.int 0, .int 0, .ref (zad Z 61 0), .ref (zad Z 63 0), .ref (zad Z 64 0), .ref (zad Z 65 0), .ref (zad Z 66 0), .ref (zad Z 67 0), .ref (zad Z 68 0), .ref (zad Z 69 0), .ref (zad Z 70 0), .ref (zad Z 71 0), .int 0, .ref (zad Z 73 0), .ref (zad Z 74 0), .ref (zad Z 75 0), .ref (zad Z 76 0), .ref (zad Z 77 0), .ref (zad Z 78 0), .int 0, .int 0, .ref (zad Z 79 0), .ref (zad Z 81 0), .ref (zad Z 83 0), .ref (zad Z 85 0), .int 0, .ref (zad Z 87 0), .ref (zad Z 88 0), .ref (zad Z 89 0), .ref (zad Z 90 0), .int 0, .ref (zad Z 91 0), .int 0, .ref (zad Z 93 0), .ref (zad Z 94 0), .ref (zad Z 95 0), .ref (zad Z 96 0), .ref (zad Z 98 0), .ref (zad Z 100 0), .int 0, .int 0, .int 0, .int 0, .int (-1), .int 0, .int 0, .int 0, .ref (zad Z 101 0), .ref (zad Z 102 0), .ref (zad Z 103 0), .int 0, .int (-1), .ref (zad Z 104 0), .null, .null, .null, .null, .int 0, .int 0, .int 0, .int 0, .null, .null, .null, .null, .null, .null, .null]
def eX11_37 (Z : zLay) (D : zDm) : zDm := (zDu (zDu (zDu (zDu (zDu (eX11_36 Z D) 60 0 (.inr (11, fX11_36 Z))) 104 0 (.inl (zca Z 0, 3, .inl fun _ => 0))) 104 0 (.inl (zca Z 0, 3, .inl (fun j => if j = (0 : Int32).toNatClampNeg then (-1) else 0)))) 104 0 (.inl (zca Z 0, 3, .inl (fun j => if j = (1 : Int32).toNatClampNeg then (-1) else (fun j => if j = (0 : Int32).toNatClampNeg then (-1) else 0) j)))) 104 0 (.inl (zca Z 0, 3, .inl (fun j => if j = (2 : Int32).toNatClampNeg then (-1) else (fun j => if j = (1 : Int32).toNatClampNeg then (-1) else (fun j => if j = (0 : Int32).toNatClampNeg then (-1) else 0) j) j))))
theorem sX11_328 (C : zCN E cX11_init RX11 2 Z h n0 c0 368 32691) (hh : 1 ≤ h) (hc : c0 = 344) (kk : zNN E 2 Z n0 Q 347 [(0, .ref (zad Z 60 0))] [] (zDu (eX11_37 Z D) 60 0 (.inr (11, fX11_37 Z))) 347 32224) : zNN E 2 Z n0 Q 328 [(0, .ref (zad Z 60 0))] [] (zDu (eX11_36 Z D) 60 0 (.inr (11, fX11_36 Z))) 346 32221 := by
  subst hc
  refine zn_aload_n C dX11_init_328 rfl ?_
  refine zn_iconst C dX11_init_329 (v := 3) (by decide) ?_
  refine zn_newa C (atype := .int) (k := 104) (i := 0) (t0 := 0) (N := 3) (a0 := (3, .inl fun _ => 0)) wq_61 rfl dX11_init_330 (by decide) (by decide) (by decide) (fun _ => rfl) (by decide) rfl (by omega) (by omega) ?_
  refine zn_dup C dX11_init_332 rfl ?_
  refine zn_iconst C dX11_init_333 (v := 0) (by decide) ?_
  refine zn_iconst C dX11_init_334 (v := (-1)) (by decide) ?_
  refine zn_iast C (k := 104) (i := 0) (zDu_i _ _ _ _) (by decide) (by decide) dX11_init_335 ?_
  refine zn_dup C dX11_init_336 rfl ?_
  refine zn_iconst C dX11_init_337 (v := 1) (by decide) ?_
  refine zn_iconst C dX11_init_338 (v := (-1)) (by decide) ?_
  refine zn_iast C (k := 104) (i := 0) (zDu_i _ _ _ _) (by decide) (by decide) dX11_init_339 ?_
  refine zn_dup C dX11_init_340 rfl ?_
  refine zn_iconst C dX11_init_341 (v := 2) (by decide) ?_
  refine zn_iconst C dX11_init_342 (v := (-1)) (by decide) ?_
  refine zn_iast C (k := 104) (i := 0) (zDu_i _ _ _ _) (by decide) (by decide) dX11_init_343 ?_
  refine zn_putF C (by decide +kernel) 52 zin_X11 rfl (Nat.le_of_ble_eq_true rfl) rfl rfl tyX11_ok nmX11 rfl (ty := tyX11 52) (by decide +kernel) wq_1140 dX11_init_344 (zDu_o (by decide) (zDu_o (by decide) (zDu_o (by decide) (zDu_o (by decide) (zDu_i _ _ _ _))))) (Nat.le_of_ble_eq_true rfl) rfl rfl ?_
  exact kk
def fX11_38 (Z : zLay) : List Value := [.int 0, .int 0, .ref (zad Z 61 0), .ref (zad Z 63 0), .ref (zad Z 64 0), .ref (zad Z 65 0), .ref (zad Z 66 0), .ref (zad Z 67 0), .ref (zad Z 68 0), .ref (zad Z 69 0), .ref (zad Z 70 0), .ref (zad Z 71 0), .int 0, .ref (zad Z 73 0), .ref (zad Z 74 0), .ref (zad Z 75 0), .ref (zad Z 76 0), .ref (zad Z 77 0), .ref (zad Z 78 0), .int 0, .int 0, .ref (zad Z 79 0), .ref (zad Z 81 0), .ref (zad Z 83 0), .ref (zad Z 85 0), .int 0, .ref (zad Z 87 0), .ref (zad Z 88 0), .ref (zad Z 89 0), .ref (zad Z 90 0), .int 0, .ref (zad Z 91 0), .int 0, .ref (zad Z 93 0), .ref (zad Z 94 0), .ref (zad Z 95 0), .ref (zad Z 96 0), .ref (zad Z 98 0), .ref (zad Z 100 0), .int 0, .int 0, .int 0, .int 0, .int (-1), .int 0, .int 0, .int 0, .ref (zad Z 101 0), .ref (zad Z 102 0), .ref (zad Z 103 0), .int 0, .int (-1), .ref (zad Z 104 0), .ref (zad Z 105 0), .null, .null, .null, .int 0, .int 0, .int 0, .int 0, .null, .null, .null, .null, .null, .null, .null]
def eX11_38 (Z : zLay) (D : zDm) : zDm := (zDu (zDu (eX11_37 Z D) 60 0 (.inr (11, fX11_37 Z))) 105 0 (.inl (zca Z 0, 3, .inl fun _ => 0)))
theorem sX11_347 (C : zCN E cX11_init RX11 2 Z h n0 c0 368 32691) (hh : 1 ≤ h) (hc : c0 = 344) (kk : zNN E 2 Z n0 Q 354 [(0, .ref (zad Z 60 0))] [] (zDu (eX11_38 Z D) 60 0 (.inr (11, fX11_38 Z))) 348 32227) : zNN E 2 Z n0 Q 347 [(0, .ref (zad Z 60 0))] [] (zDu (eX11_37 Z D) 60 0 (.inr (11, fX11_37 Z))) 347 32224 := by
  subst hc
  refine zn_aload_n C dX11_init_347 rfl ?_
  refine zn_iconst C dX11_init_348 (v := 3) (by decide) ?_
  refine zn_newa C (atype := .int) (k := 105) (i := 0) (t0 := 0) (N := 3) (a0 := (3, .inl fun _ => 0)) wq_61 rfl dX11_init_349 (by decide) (by decide) (by decide) (fun _ => rfl) (by decide) rfl (by omega) (by omega) ?_
  refine zn_putF C (by decide +kernel) 53 zin_X11 rfl (Nat.le_of_ble_eq_true rfl) rfl rfl tyX11_ok nmX11 rfl (ty := tyX11 53) (by decide +kernel) wq_1141 dX11_init_351 (zDu_o (by decide) (zDu_i _ _ _ _)) (Nat.le_of_ble_eq_true rfl) rfl rfl ?_
  exact kk
def fX11_39 (Z : zLay) : List Value := [.int 0, .int 0, .ref (zad Z 61 0), .ref (zad Z 63 0), .ref (zad Z 64 0), .ref (zad Z 65 0), .ref (zad Z 66 0), .ref (zad Z 67 0), .ref (zad Z 68 0), .ref (zad Z 69 0), .ref (zad Z 70 0), .ref (zad Z 71 0), .int 0, .ref (zad Z 73 0), .ref (zad Z 74 0), .ref (zad Z 75 0), .ref (zad Z 76 0), .ref (zad Z 77 0), .ref (zad Z 78 0), .int 0, .int 0, .ref (zad Z 79 0), .ref (zad Z 81 0), .ref (zad Z 83 0), .ref (zad Z 85 0), .int 0, .ref (zad Z 87 0), .ref (zad Z 88 0), .ref (zad Z 89 0), .ref (zad Z 90 0), .int 0, .ref (zad Z 91 0), .int 0, .ref (zad Z 93 0), .ref (zad Z 94 0), .ref (zad Z 95 0), .ref (zad Z 96 0), .ref (zad Z 98 0), .ref (zad Z 100 0), .int 0, .int 0, .int 0, .int 0, .int (-1), .int 0, .int 0, .int 0, .ref (zad Z 101 0), .ref (zad Z 102 0), .ref (zad Z 103 0), .int 0, .int (-1), .ref (zad Z 104 0), .ref (zad Z 105 0), .ref (zad Z 106 0), .null, .null, .int 0, .int 0, .int 0, .int 0, .null, .null, .null, .null, .null, .null, .null]
def eX11_39 (Z : zLay) (D : zDm) : zDm := (zDr (zDu (zDu (eX11_38 Z D) 60 0 (.inr (11, fX11_38 Z))) 106 0 (.inl (zca Z 9, 3, .inr (.inr (.inr (.inr (fun i => if i < 3 then some (zad Z 107 i) else none))))))) 107 3 (.inl (zca Z 0, (60, .inl fun _ => 0))))
theorem sX11_354 (C : zCN E cX11_init RX11 2 Z h n0 c0 368 32691) (hh : 1 ≤ h) (hc : c0 = 344) (kk : zNN E 2 Z n0 Q 365 [(0, .ref (zad Z 60 0))] [] (zDu (eX11_39 Z D) 60 0 (.inr (11, fX11_39 Z))) 352 32410) : zNN E 2 Z n0 Q 354 [(0, .ref (zad Z 60 0))] [] (zDu (eX11_38 Z D) 60 0 (.inr (11, fX11_38 Z))) 348 32227 := by
  subst hc
  refine zn_aload_n C dX11_init_354 rfl ?_
  refine zn_iconst C dX11_init_355 (v := 3) (by decide) ?_
  refine zn_bipush C dX11_init_356 (v := 60) (by decide) ?_
  refine zn_mna C (ty := .int) (N := 3) (M := 60) (t0 := 9) (t1 := 0) (k := 106) (k1 := 107) (a0 := (60, .inl fun _ => 0)) wq_1085 (by unfold zOvL; simp) wq_61 rfl rfl (fun _ _ q => q) dX11_init_358 (by decide) (by decide) (by decide) (by decide) (by decide) (by decide) (by decide) rfl rfl (fun _ => rfl) (by decide) (by decide) rfl (fun j _ => by show 693 + 1 * j = 344 + 348 + 1 + j; omega) (by omega) (by omega) ?_
  refine zn_putF C (by decide +kernel) 54 zin_X11 rfl (Nat.le_of_ble_eq_true rfl) rfl rfl tyX11_ok nmX11 rfl (ty := tyX11 54) (by decide +kernel) wq_1142 dX11_init_362 (zDr_o (by decide) (zDu_o (by decide) (zDu_i _ _ _ _))) (Nat.le_of_ble_eq_true rfl) rfl rfl ?_
  exact kk
def fX11_40 (Z : zLay) : List Value := [.int 0, .int 0, .ref (zad Z 61 0), .ref (zad Z 63 0), .ref (zad Z 64 0), .ref (zad Z 65 0), .ref (zad Z 66 0), .ref (zad Z 67 0), .ref (zad Z 68 0), .ref (zad Z 69 0), .ref (zad Z 70 0), .ref (zad Z 71 0), .int 0, .ref (zad Z 73 0), .ref (zad Z 74 0), .ref (zad Z 75 0), .ref (zad Z 76 0), .ref (zad Z 77 0), .ref (zad Z 78 0), .int 0, .int 0, .ref (zad Z 79 0), .ref (zad Z 81 0), .ref (zad Z 83 0), .ref (zad Z 85 0), .int 0, .ref (zad Z 87 0), .ref (zad Z 88 0), .ref (zad Z 89 0), .ref (zad Z 90 0), .int 0, .ref (zad Z 91 0), .int 0, .ref (zad Z 93 0), .ref (zad Z 94 0), .ref (zad Z 95 0), .ref (zad Z 96 0), .ref (zad Z 98 0), .ref (zad Z 100 0), .int 0, .int 0, .int 0, .int 0, .int (-1), .int 0, .int 0, .int 0, .ref (zad Z 101 0), .ref (zad Z 102 0), .ref (zad Z 103 0), .int 0, .int (-1), .ref (zad Z 104 0), .ref (zad Z 105 0), .ref (zad Z 106 0), .ref (zad Z 108 0), .null, .int 0, .int 0, .int 0, .int 0, .null, .null, .null, .null, .null, .null, .null]
def eX11_40 (Z : zLay) (D : zDm) : zDm := (zDr (zDu (zDu (eX11_39 Z D) 60 0 (.inr (11, fX11_39 Z))) 108 0 (.inl (zca Z 11, 3, .inr (.inr (.inr (.inr (fun i => if i < 3 then some (zad Z 109 i) else none))))))) 109 3 (.inl (zca Z 4, (60, .inl fun _ => 0))))
theorem sX11_365 (C : zCN E cX11_init RX11 2 Z h n0 c0 368 32691) (hh : 1 ≤ h) (hc : c0 = 344) (kk : zNN E 2 Z n0 Q 376 [(0, .ref (zad Z 60 0))] [] (zDu (eX11_40 Z D) 60 0 (.inr (11, fX11_40 Z))) 356 32593) : zNN E 2 Z n0 Q 365 [(0, .ref (zad Z 60 0))] [] (zDu (eX11_39 Z D) 60 0 (.inr (11, fX11_39 Z))) 352 32410 := by
  subst hc
  refine zn_aload_n C dX11_init_365 rfl ?_
  refine zn_iconst C dX11_init_366 (v := 3) (by decide) ?_
  refine zn_bipush C dX11_init_367 (v := 60) (by decide) ?_
  refine zn_mna C (ty := .boolean) (N := 3) (M := 60) (t0 := 11) (t1 := 4) (k := 108) (k1 := 109) (a0 := (60, .inl fun _ => 0)) wq_1086 (by unfold zOvL; simp) wq_124 rfl rfl (fun _ _ q => q) dX11_init_369 (by decide) (by decide) (by decide) (by decide) (by decide) (by decide) (by decide) rfl rfl (fun _ => rfl) (by decide) (by decide) rfl (fun j _ => by show 697 + 1 * j = 344 + 352 + 1 + j; omega) (by omega) (by omega) ?_
  refine zn_putF C (by decide +kernel) 55 zin_X11 rfl (Nat.le_of_ble_eq_true rfl) rfl rfl tyX11_ok nmX11 rfl (ty := tyX11 55) (by decide +kernel) wq_1143 dX11_init_373 (zDr_o (by decide) (zDu_o (by decide) (zDu_i _ _ _ _))) (Nat.le_of_ble_eq_true rfl) rfl rfl ?_
  exact kk
def fX11_41 (Z : zLay) : List Value := [.int 0, .int 0, .ref (zad Z 61 0), .ref (zad Z 63 0), .ref (zad Z 64 0), .ref (zad Z 65 0), .ref (zad Z 66 0), .ref (zad Z 67 0), .ref (zad Z 68 0), .ref (zad Z 69 0), .ref (zad Z 70 0), .ref (zad Z 71 0), .int 0, .ref (zad Z 73 0), .ref (zad Z 74 0), .ref (zad Z 75 0), .ref (zad Z 76 0), .ref (zad Z 77 0), .ref (zad Z 78 0), .int 0, .int 0, .ref (zad Z 79 0), .ref (zad Z 81 0), .ref (zad Z 83 0), .ref (zad Z 85 0), .int 0, .ref (zad Z 87 0), .ref (zad Z 88 0), .ref (zad Z 89 0), .ref (zad Z 90 0), .int 0, .ref (zad Z 91 0), .int 0, .ref (zad Z 93 0), .ref (zad Z 94 0), .ref (zad Z 95 0), .ref (zad Z 96 0), .ref (zad Z 98 0), .ref (zad Z 100 0), .int 0, .int 0, .int 0, .int 0, .int (-1), .int 0, .int 0, .int 0, .ref (zad Z 101 0), .ref (zad Z 102 0), .ref (zad Z 103 0), .int 0, .int (-1), .ref (zad Z 104 0), .ref (zad Z 105 0), .ref (zad Z 106 0), .ref (zad Z 108 0), .ref (zad Z 110 0), .int 0, .int 0, .int 0, .int 0, .null, .null, .null, .null, .null, .null, .null]
def eX11_41 (Z : zLay) (D : zDm) : zDm := (zDu (zDu (eX11_40 Z D) 60 0 (.inr (11, fX11_40 Z))) 110 0 (.inl (zca Z 0, 20, .inl fun _ => 0)))
theorem sX11_376 (C : zCN E cX11_init RX11 2 Z h n0 c0 368 32691) (hh : 1 ≤ h) (hc : c0 = 344) (kk : zNN E 2 Z n0 Q 384 [(0, .ref (zad Z 60 0))] [] (zDu (eX11_41 Z D) 60 0 (.inr (11, fX11_41 Z))) 357 32613) : zNN E 2 Z n0 Q 376 [(0, .ref (zad Z 60 0))] [] (zDu (eX11_40 Z D) 60 0 (.inr (11, fX11_40 Z))) 356 32593 := by
  subst hc
  refine zn_aload_n C dX11_init_376 rfl ?_
  refine zn_bipush C dX11_init_377 (v := 20) (by decide) ?_
  refine zn_newa C (atype := .int) (k := 110) (i := 0) (t0 := 0) (N := 20) (a0 := (20, .inl fun _ => 0)) wq_61 rfl dX11_init_379 (by decide) (by decide) (by decide) (fun _ => rfl) (by decide) rfl (by omega) (by omega) ?_
  refine zn_putF C (by decide +kernel) 56 zin_X11 rfl (Nat.le_of_ble_eq_true rfl) rfl rfl tyX11_ok nmX11 rfl (ty := tyX11 56) (by decide +kernel) wq_1144 dX11_init_381 (zDu_o (by decide) (zDu_i _ _ _ _)) (Nat.le_of_ble_eq_true rfl) rfl rfl ?_
  exact kk
def fX11_42 (Z : zLay) : List Value := [.int 0, .int 0, .ref (zad Z 61 0), .ref (zad Z 63 0), .ref (zad Z 64 0), .ref (zad Z 65 0), .ref (zad Z 66 0), .ref (zad Z 67 0), .ref (zad Z 68 0), .ref (zad Z 69 0), .ref (zad Z 70 0), .ref (zad Z 71 0), .int 0, .ref (zad Z 73 0), .ref (zad Z 74 0), .ref (zad Z 75 0), .ref (zad Z 76 0), .ref (zad Z 77 0), .ref (zad Z 78 0), .int 0, .int 0, .ref (zad Z 79 0), .ref (zad Z 81 0), .ref (zad Z 83 0), .ref (zad Z 85 0), .int 0, .ref (zad Z 87 0), .ref (zad Z 88 0), .ref (zad Z 89 0), .ref (zad Z 90 0), .int 0, .ref (zad Z 91 0), .int 0, .ref (zad Z 93 0), .ref (zad Z 94 0), .ref (zad Z 95 0), .ref (zad Z 96 0), .ref (zad Z 98 0), .ref (zad Z 100 0), .int 0, .int 0, .int 0, .int 0, .int (-1), .int 0, .int 0, .int 0, .ref (zad Z 101 0), .ref (zad Z 102 0), .ref (zad Z 103 0), .int 0, .int (-1), .ref (zad Z 104 0), .ref (zad Z 105 0), .ref (zad Z 106 0), .ref (zad Z 108 0), .ref (zad Z 110 0), .int 0, .int 0, .int 0, .int 0, .ref (zad Z 111 0), .null, .null, .null, .null, .null, .null]
def eX11_42 (Z : zLay) (D : zDm) : zDm := (zDu (zDu (eX11_41 Z D) 60 0 (.inr (11, fX11_41 Z))) 111 0 (.inl (zca Z 0, 6, .inl fun _ => 0)))
theorem sX11_384 (C : zCN E cX11_init RX11 2 Z h n0 c0 368 32691) (hh : 1 ≤ h) (hc : c0 = 344) (kk : zNN E 2 Z n0 Q 392 [(0, .ref (zad Z 60 0))] [] (zDu (eX11_42 Z D) 60 0 (.inr (11, fX11_42 Z))) 358 32619) : zNN E 2 Z n0 Q 384 [(0, .ref (zad Z 60 0))] [] (zDu (eX11_41 Z D) 60 0 (.inr (11, fX11_41 Z))) 357 32613 := by
  subst hc
  refine zn_aload_n C dX11_init_384 rfl ?_
  refine zn_bipush C dX11_init_385 (v := 6) (by decide) ?_
  refine zn_newa C (atype := .int) (k := 111) (i := 0) (t0 := 0) (N := 6) (a0 := (6, .inl fun _ => 0)) wq_61 rfl dX11_init_387 (by decide) (by decide) (by decide) (fun _ => rfl) (by decide) rfl (by omega) (by omega) ?_
  refine zn_putF C (by decide +kernel) 61 zin_X11 rfl (Nat.le_of_ble_eq_true rfl) rfl rfl tyX11_ok nmX11 rfl (ty := tyX11 61) (by decide +kernel) wq_1149 dX11_init_389 (zDu_o (by decide) (zDu_i _ _ _ _)) (Nat.le_of_ble_eq_true rfl) rfl rfl ?_
  exact kk
def fX11_43 (Z : zLay) : List Value := [.int 0, .int 0, .ref (zad Z 61 0), .ref (zad Z 63 0), .ref (zad Z 64 0), .ref (zad Z 65 0), .ref (zad Z 66 0), .ref (zad Z 67 0), .ref (zad Z 68 0), .ref (zad Z 69 0), .ref (zad Z 70 0), .ref (zad Z 71 0), .int 0, .ref (zad Z 73 0), .ref (zad Z 74 0), .ref (zad Z 75 0), .ref (zad Z 76 0), .ref (zad Z 77 0), .ref (zad Z 78 0), .int 0, .int 0, .ref (zad Z 79 0), .ref (zad Z 81 0), .ref (zad Z 83 0), .ref (zad Z 85 0), .int 0, .ref (zad Z 87 0), .ref (zad Z 88 0), .ref (zad Z 89 0), .ref (zad Z 90 0), .int 0, .ref (zad Z 91 0), .int 0, .ref (zad Z 93 0), .ref (zad Z 94 0), .ref (zad Z 95 0), .ref (zad Z 96 0), .ref (zad Z 98 0), .ref (zad Z 100 0), .int 0, .int 0, .int 0, .int 0, .int (-1), .int 0, .int 0, .int 0, .ref (zad Z 101 0), .ref (zad Z 102 0), .ref (zad Z 103 0), .int 0, .int (-1), .ref (zad Z 104 0), .ref (zad Z 105 0), .ref (zad Z 106 0), .ref (zad Z 108 0), .ref (zad Z 110 0), .int 0, .int 0, .int 0, .int 0, .ref (zad Z 111 0), .ref (zad Z 112 0), .null, .null, .null, .null, .null]
def eX11_43 (Z : zLay) (D : zDm) : zDm := (zDu (zDu (eX11_42 Z D) 60 0 (.inr (11, fX11_42 Z))) 112 0 (.inl (zca Z 0, 10, .inl fun _ => 0)))
theorem sX11_392 (C : zCN E cX11_init RX11 2 Z h n0 c0 368 32691) (hh : 1 ≤ h) (hc : c0 = 344) (kk : zNN E 2 Z n0 Q 400 [(0, .ref (zad Z 60 0))] [] (zDu (eX11_43 Z D) 60 0 (.inr (11, fX11_43 Z))) 359 32629) : zNN E 2 Z n0 Q 392 [(0, .ref (zad Z 60 0))] [] (zDu (eX11_42 Z D) 60 0 (.inr (11, fX11_42 Z))) 358 32619 := by
  subst hc
  refine zn_aload_n C dX11_init_392 rfl ?_
  refine zn_bipush C dX11_init_393 (v := 10) (by decide) ?_
  refine zn_newa C (atype := .int) (k := 112) (i := 0) (t0 := 0) (N := 10) (a0 := (10, .inl fun _ => 0)) wq_61 rfl dX11_init_395 (by decide) (by decide) (by decide) (fun _ => rfl) (by decide) rfl (by omega) (by omega) ?_
  refine zn_putF C (by decide +kernel) 62 zin_X11 rfl (Nat.le_of_ble_eq_true rfl) rfl rfl tyX11_ok nmX11 rfl (ty := tyX11 62) (by decide +kernel) wq_1150 dX11_init_397 (zDu_o (by decide) (zDu_i _ _ _ _)) (Nat.le_of_ble_eq_true rfl) rfl rfl ?_
  exact kk
def fX11_44 (Z : zLay) : List Value := [.int 0, .int 0, .ref (zad Z 61 0), .ref (zad Z 63 0), .ref (zad Z 64 0), .ref (zad Z 65 0), .ref (zad Z 66 0), .ref (zad Z 67 0), .ref (zad Z 68 0), .ref (zad Z 69 0), .ref (zad Z 70 0), .ref (zad Z 71 0), .int 0, .ref (zad Z 73 0), .ref (zad Z 74 0), .ref (zad Z 75 0), .ref (zad Z 76 0), .ref (zad Z 77 0), .ref (zad Z 78 0), .int 0, .int 0, .ref (zad Z 79 0), .ref (zad Z 81 0), .ref (zad Z 83 0), .ref (zad Z 85 0), .int 0, .ref (zad Z 87 0), .ref (zad Z 88 0), .ref (zad Z 89 0), .ref (zad Z 90 0), .int 0, .ref (zad Z 91 0), .int 0, .ref (zad Z 93 0), .ref (zad Z 94 0), .ref (zad Z 95 0), .ref (zad Z 96 0), .ref (zad Z 98 0), .ref (zad Z 100 0), .int 0, .int 0, .int 0, .int 0, .int (-1), .int 0, .int 0, .int 0, .ref (zad Z 101 0), .ref (zad Z 102 0), .ref (zad Z 103 0), .int 0, .int (-1), .ref (zad Z 104 0), .ref (zad Z 105 0), .ref (zad Z 106 0), .ref (zad Z 108 0), .ref (zad Z 110 0), .int 0, .int 0, .int 0, .int 0, .ref (zad Z 111 0), .ref (zad Z 112 0), .ref (zad Z 113 0), .null, .null, .null, .null]
def eX11_44 (Z : zLay) (D : zDm) : zDm := (zDu (zDu (eX11_43 Z D) 60 0 (.inr (11, fX11_43 Z))) 113 0 (.inl (zca Z 0, 4, .inl fun _ => 0)))
theorem sX11_400 (C : zCN E cX11_init RX11 2 Z h n0 c0 368 32691) (hh : 1 ≤ h) (hc : c0 = 344) (kk : zNN E 2 Z n0 Q 407 [(0, .ref (zad Z 60 0))] [] (zDu (eX11_44 Z D) 60 0 (.inr (11, fX11_44 Z))) 360 32633) : zNN E 2 Z n0 Q 400 [(0, .ref (zad Z 60 0))] [] (zDu (eX11_43 Z D) 60 0 (.inr (11, fX11_43 Z))) 359 32629 := by
  subst hc
  refine zn_aload_n C dX11_init_400 rfl ?_
  refine zn_iconst C dX11_init_401 (v := 4) (by decide) ?_
  refine zn_newa C (atype := .int) (k := 113) (i := 0) (t0 := 0) (N := 4) (a0 := (4, .inl fun _ => 0)) wq_61 rfl dX11_init_402 (by decide) (by decide) (by decide) (fun _ => rfl) (by decide) rfl (by omega) (by omega) ?_
  refine zn_putF C (by decide +kernel) 63 zin_X11 rfl (Nat.le_of_ble_eq_true rfl) rfl rfl tyX11_ok nmX11 rfl (ty := tyX11 63) (by decide +kernel) wq_1151 dX11_init_404 (zDu_o (by decide) (zDu_i _ _ _ _)) (Nat.le_of_ble_eq_true rfl) rfl rfl ?_
  exact kk
def fX11_45 (Z : zLay) : List Value := [.int 0, .int 0, .ref (zad Z 61 0), .ref (zad Z 63 0), .ref (zad Z 64 0), .ref (zad Z 65 0), .ref (zad Z 66 0), .ref (zad Z 67 0), .ref (zad Z 68 0), .ref (zad Z 69 0), .ref (zad Z 70 0), .ref (zad Z 71 0), .int 0, .ref (zad Z 73 0), .ref (zad Z 74 0), .ref (zad Z 75 0), .ref (zad Z 76 0), .ref (zad Z 77 0), .ref (zad Z 78 0), .int 0, .int 0, .ref (zad Z 79 0), .ref (zad Z 81 0), .ref (zad Z 83 0), .ref (zad Z 85 0), .int 0, .ref (zad Z 87 0), .ref (zad Z 88 0), .ref (zad Z 89 0), .ref (zad Z 90 0), .int 0, .ref (zad Z 91 0), .int 0, .ref (zad Z 93 0), .ref (zad Z 94 0), .ref (zad Z 95 0), .ref (zad Z 96 0), .ref (zad Z 98 0), .ref (zad Z 100 0), .int 0, .int 0, .int 0, .int 0, .int (-1), .int 0, .int 0, .int 0, .ref (zad Z 101 0), .ref (zad Z 102 0), .ref (zad Z 103 0), .int 0, .int (-1), .ref (zad Z 104 0), .ref (zad Z 105 0), .ref (zad Z 106 0), .ref (zad Z 108 0), .ref (zad Z 110 0), .int 0, .int 0, .int 0, .int 0, .ref (zad Z 111 0), .ref (zad Z 112 0), .ref (zad Z 113 0), .ref (zad Z 114 0), .null, .null, .null]
def eX11_45 (Z : zLay) (D : zDm) : zDm := (zDu (zDu (eX11_44 Z D) 60 0 (.inr (11, fX11_44 Z))) 114 0 (.inl (zca Z 0, 4, .inl fun _ => 0)))
theorem sX11_407 (C : zCN E cX11_init RX11 2 Z h n0 c0 368 32691) (hh : 1 ≤ h) (hc : c0 = 344) (kk : zNN E 2 Z n0 Q 414 [(0, .ref (zad Z 60 0))] [] (zDu (eX11_45 Z D) 60 0 (.inr (11, fX11_45 Z))) 361 32637) : zNN E 2 Z n0 Q 407 [(0, .ref (zad Z 60 0))] [] (zDu (eX11_44 Z D) 60 0 (.inr (11, fX11_44 Z))) 360 32633 := by
  subst hc
  refine zn_aload_n C dX11_init_407 rfl ?_
  refine zn_iconst C dX11_init_408 (v := 4) (by decide) ?_
  refine zn_newa C (atype := .int) (k := 114) (i := 0) (t0 := 0) (N := 4) (a0 := (4, .inl fun _ => 0)) wq_61 rfl dX11_init_409 (by decide) (by decide) (by decide) (fun _ => rfl) (by decide) rfl (by omega) (by omega) ?_
  refine zn_putF C (by decide +kernel) 64 zin_X11 rfl (Nat.le_of_ble_eq_true rfl) rfl rfl tyX11_ok nmX11 rfl (ty := tyX11 64) (by decide +kernel) wq_1152 dX11_init_411 (zDu_o (by decide) (zDu_i _ _ _ _)) (Nat.le_of_ble_eq_true rfl) rfl rfl ?_
  exact kk
def fX11_46 (Z : zLay) : List Value := [.int 0, .int 0, .ref (zad Z 61 0), .ref (zad Z 63 0), .ref (zad Z 64 0), .ref (zad Z 65 0), .ref (zad Z 66 0), .ref (zad Z 67 0), .ref (zad Z 68 0), .ref (zad Z 69 0), .ref (zad Z 70 0), .ref (zad Z 71 0), .int 0, .ref (zad Z 73 0), .ref (zad Z 74 0), .ref (zad Z 75 0), .ref (zad Z 76 0), .ref (zad Z 77 0), .ref (zad Z 78 0), .int 0, .int 0, .ref (zad Z 79 0), .ref (zad Z 81 0), .ref (zad Z 83 0), .ref (zad Z 85 0), .int 0, .ref (zad Z 87 0), .ref (zad Z 88 0), .ref (zad Z 89 0), .ref (zad Z 90 0), .int 0, .ref (zad Z 91 0), .int 0, .ref (zad Z 93 0), .ref (zad Z 94 0), .ref (zad Z 95 0), .ref (zad Z 96 0), .ref (zad Z 98 0), .ref (zad Z 100 0), .int 0, .int 0, .int 0, .int 0, .int (-1), .int 0, .int 0, .int 0, .ref (zad Z 101 0), .ref (zad Z 102 0), .ref (zad Z 103 0), .int 0, .int (-1), .ref (zad Z 104 0), .ref (zad Z 105 0), .ref (zad Z 106 0), .ref (zad Z 108 0), .ref (zad Z 110 0), .int 0, .int 0, .int 0, .int 0, .ref (zad Z 111 0), .ref (zad Z 112 0), .ref (zad Z 113 0), .ref (zad Z 114 0), .ref (zad Z 115 0), .null, .null]
def eX11_46 (Z : zLay) (D : zDm) : zDm := (zDr (zDu (zDu (eX11_45 Z D) 60 0 (.inr (11, fX11_45 Z))) 115 0 (.inl (zca Z 9, 4, .inr (.inr (.inr (.inr (fun i => if i < 4 then some (zad Z 116 i) else none))))))) 116 4 (.inl (zca Z 0, (10, .inl fun _ => 0))))
theorem sX11_414 (C : zCN E cX11_init RX11 2 Z h n0 c0 368 32691) (hh : 1 ≤ h) (hc : c0 = 344) (kk : zNN E 2 Z n0 Q 425 [(0, .ref (zad Z 60 0))] [] (zDu (eX11_46 Z D) 60 0 (.inr (11, fX11_46 Z))) 366 32681) : zNN E 2 Z n0 Q 414 [(0, .ref (zad Z 60 0))] [] (zDu (eX11_45 Z D) 60 0 (.inr (11, fX11_45 Z))) 361 32637 := by
  subst hc
  refine zn_aload_n C dX11_init_414 rfl ?_
  refine zn_iconst C dX11_init_415 (v := 4) (by decide) ?_
  refine zn_bipush C dX11_init_416 (v := 10) (by decide) ?_
  refine zn_mna C (ty := .int) (N := 4) (M := 10) (t0 := 9) (t1 := 0) (k := 115) (k1 := 116) (a0 := (10, .inl fun _ => 0)) wq_1085 (by unfold zOvL; simp) wq_61 rfl rfl (fun _ _ q => q) dX11_init_418 (by decide) (by decide) (by decide) (by decide) (by decide) (by decide) (by decide) rfl rfl (fun _ => rfl) (by decide) (by decide) rfl (fun j _ => by show 706 + 1 * j = 344 + 361 + 1 + j; omega) (by omega) (by omega) ?_
  refine zn_putF C (by decide +kernel) 65 zin_X11 rfl (Nat.le_of_ble_eq_true rfl) rfl rfl tyX11_ok nmX11 rfl (ty := tyX11 65) (by decide +kernel) wq_1153 dX11_init_422 (zDr_o (by decide) (zDu_o (by decide) (zDu_i _ _ _ _))) (Nat.le_of_ble_eq_true rfl) rfl rfl ?_
  exact kk
def fX11_47 (Z : zLay) : List Value := [.int 0, .int 0, .ref (zad Z 61 0), .ref (zad Z 63 0), .ref (zad Z 64 0), .ref (zad Z 65 0), .ref (zad Z 66 0), .ref (zad Z 67 0), .ref (zad Z 68 0), .ref (zad Z 69 0), .ref (zad Z 70 0), .ref (zad Z 71 0), .int 0, .ref (zad Z 73 0), .ref (zad Z 74 0), .ref (zad Z 75 0), .ref (zad Z 76 0), .ref (zad Z 77 0), .ref (zad Z 78 0), .int 0, .int 0, .ref (zad Z 79 0), .ref (zad Z 81 0), .ref (zad Z 83 0), .ref (zad Z 85 0), .int 0, .ref (zad Z 87 0), .ref (zad Z 88 0), .ref (zad Z 89 0), .ref (zad Z 90 0), .int 0, .ref (zad Z 91 0), .int 0, .ref (zad Z 93 0), .ref (zad Z 94 0), .ref (zad Z 95 0), .ref (zad Z 96 0), .ref (zad Z 98 0), .ref (zad Z 100 0), .int 0, .int 0, .int 0, .int 0, .int (-1), .int 0, .int 0, .int 0, .ref (zad Z 101 0), .ref (zad Z 102 0), .ref (zad Z 103 0), .int 0, .int (-1), .ref (zad Z 104 0), .ref (zad Z 105 0), .ref (zad Z 106 0), .ref (zad Z 108 0), .ref (zad Z 110 0), .int 0, .int 0, .int 0, .int 0, .ref (zad Z 111 0), .ref (zad Z 112 0), .ref (zad Z 113 0), .ref (zad Z 114 0), .ref (zad Z 115 0), .ref (zad Z 117 0), .null]
def eX11_47 (Z : zLay) (D : zDm) : zDm := (zDu (zDu (eX11_46 Z D) 60 0 (.inr (11, fX11_46 Z))) 117 0 (.inl (zca Z 0, 5, .inl fun _ => 0)))
theorem sX11_425 (C : zCN E cX11_init RX11 2 Z h n0 c0 368 32691) (hh : 1 ≤ h) (hc : c0 = 344) (kk : zNN E 2 Z n0 Q 432 [(0, .ref (zad Z 60 0))] [] (zDu (eX11_47 Z D) 60 0 (.inr (11, fX11_47 Z))) 367 32686) : zNN E 2 Z n0 Q 425 [(0, .ref (zad Z 60 0))] [] (zDu (eX11_46 Z D) 60 0 (.inr (11, fX11_46 Z))) 366 32681 := by
  subst hc
  refine zn_aload_n C dX11_init_425 rfl ?_
  refine zn_iconst C dX11_init_426 (v := 5) (by decide) ?_
  refine zn_newa C (atype := .int) (k := 117) (i := 0) (t0 := 0) (N := 5) (a0 := (5, .inl fun _ => 0)) wq_61 rfl dX11_init_427 (by decide) (by decide) (by decide) (fun _ => rfl) (by decide) rfl (by omega) (by omega) ?_
  refine zn_putF C (by decide +kernel) 66 zin_X11 rfl (Nat.le_of_ble_eq_true rfl) rfl rfl tyX11_ok nmX11 rfl (ty := tyX11 66) (by decide +kernel) wq_1154 dX11_init_429 (zDu_o (by decide) (zDu_i _ _ _ _)) (Nat.le_of_ble_eq_true rfl) rfl rfl ?_
  exact kk
def fX11_48 (Z : zLay) : List Value := [.int 0, .int 0, .ref (zad Z 61 0), .ref (zad Z 63 0), .ref (zad Z 64 0), .ref (zad Z 65 0), .ref (zad Z 66 0), .ref (zad Z 67 0), .ref (zad Z 68 0), .ref (zad Z 69 0), .ref (zad Z 70 0), .ref (zad Z 71 0), .int 0, .ref (zad Z 73 0), .ref (zad Z 74 0), .ref (zad Z 75 0), .ref (zad Z 76 0), .ref (zad Z 77 0), .ref (zad Z 78 0), .int 0, .int 0, .ref (zad Z 79 0), .ref (zad Z 81 0), .ref (zad Z 83 0), .ref (zad Z 85 0), .int 0, .ref (zad Z 87 0), .ref (zad Z 88 0), .ref (zad Z 89 0), .ref (zad Z 90 0), .int 0, .ref (zad Z 91 0), .int 0, .ref (zad Z 93 0), .ref (zad Z 94 0), .ref (zad Z 95 0), .ref (zad Z 96 0), .ref (zad Z 98 0), .ref (zad Z 100 0), .int 0, .int 0, .int 0, .int 0, .int (-1), .int 0, .int 0, .int 0, .ref (zad Z 101 0), .ref (zad Z 102 0), .ref (zad Z 103 0), .int 0, .int (-1), .ref (zad Z 104 0), .ref (zad Z 105 0), .ref (zad Z 106 0), .ref (zad Z 108 0), .ref (zad Z 110 0), .int 0, .int 0, .int 0, .int 0, .ref (zad Z 111 0), .ref (zad Z 112 0), .ref (zad Z 113 0), .ref (zad Z 114 0), .ref (zad Z 115 0), .ref (zad Z 117 0), .ref (zad Z 118 0)]
def eX11_48 (Z : zLay) (D : zDm) : zDm := (zDu (zDu (eX11_47 Z D) 60 0 (.inr (11, fX11_47 Z))) 118 0 (.inl (zca Z 0, 5, .inl fun _ => 0)))
theorem sX11_432 (C : zCN E cX11_init RX11 2 Z h n0 c0 368 32691) (hh : 1 ≤ h) (hc : c0 = 344) (kk : zNN E 2 Z n0 Q 439 [(0, .ref (zad Z 60 0))] [] (zDu (eX11_48 Z D) 60 0 (.inr (11, fX11_48 Z))) 368 32691) : zNN E 2 Z n0 Q 432 [(0, .ref (zad Z 60 0))] [] (zDu (eX11_47 Z D) 60 0 (.inr (11, fX11_47 Z))) 367 32686 := by
  subst hc
  refine zn_aload_n C dX11_init_432 rfl ?_
  refine zn_iconst C dX11_init_433 (v := 5) (by decide) ?_
  refine zn_newa C (atype := .int) (k := 118) (i := 0) (t0 := 0) (N := 5) (a0 := (5, .inl fun _ => 0)) wq_61 rfl dX11_init_434 (by decide) (by decide) (by decide) (fun _ => rfl) (by decide) rfl (by omega) (by omega) ?_
  refine zn_putF C (by decide +kernel) 67 zin_X11 rfl (Nat.le_of_ble_eq_true rfl) rfl rfl tyX11_ok nmX11 rfl (ty := tyX11 67) (by decide +kernel) wq_1155 dX11_init_436 (zDu_o (by decide) (zDu_i _ _ _ _)) (Nat.le_of_ble_eq_true rfl) rfl rfl ?_
  exact kk
end YX11
theorem eX11_0_o {Z : zLay} {D : zDm} {a b : Nat} {y : va_E} (h : D a b = some y) : eX11_0 Z D a b = some y := h
theorem eX11_1_o {Z : zLay} {D : zDm} {a b : Nat} {y : va_E} (w : a < 60 ∨ 118 < a) (h : D a b = some y) : eX11_1 Z D a b = some y := zDr_o (by omega) (zDu_o (by omega) (zDu_o (by omega) (eX11_0_o h)))
theorem eX11_2_o {Z : zLay} {D : zDm} {a b : Nat} {y : va_E} (w : a < 60 ∨ 118 < a) (h : D a b = some y) : eX11_2 Z D a b = some y := zDu_o (by omega) (zDu_o (by omega) (eX11_1_o w h))
theorem eX11_3_o {Z : zLay} {D : zDm} {a b : Nat} {y : va_E} (w : a < 60 ∨ 118 < a) (h : D a b = some y) : eX11_3 Z D a b = some y := zDu_o (by omega) (zDu_o (by omega) (eX11_2_o w h))
theorem eX11_4_o {Z : zLay} {D : zDm} {a b : Nat} {y : va_E} (w : a < 60 ∨ 118 < a) (h : D a b = some y) : eX11_4 Z D a b = some y := zDu_o (by omega) (zDu_o (by omega) (eX11_3_o w h))
theorem eX11_5_o {Z : zLay} {D : zDm} {a b : Nat} {y : va_E} (w : a < 60 ∨ 118 < a) (h : D a b = some y) : eX11_5 Z D a b = some y := zDu_o (by omega) (zDu_o (by omega) (eX11_4_o w h))
theorem eX11_6_o {Z : zLay} {D : zDm} {a b : Nat} {y : va_E} (w : a < 60 ∨ 118 < a) (h : D a b = some y) : eX11_6 Z D a b = some y := zDu_o (by omega) (zDu_o (by omega) (eX11_5_o w h))
theorem eX11_7_o {Z : zLay} {D : zDm} {a b : Nat} {y : va_E} (w : a < 60 ∨ 118 < a) (h : D a b = some y) : eX11_7 Z D a b = some y := zDu_o (by omega) (zDu_o (by omega) (eX11_6_o w h))
theorem eX11_8_o {Z : zLay} {D : zDm} {a b : Nat} {y : va_E} (w : a < 60 ∨ 118 < a) (h : D a b = some y) : eX11_8 Z D a b = some y := zDu_o (by omega) (zDu_o (by omega) (eX11_7_o w h))
theorem eX11_9_o {Z : zLay} {D : zDm} {a b : Nat} {y : va_E} (w : a < 60 ∨ 118 < a) (h : D a b = some y) : eX11_9 Z D a b = some y := zDu_o (by omega) (zDu_o (by omega) (eX11_8_o w h))
theorem eX11_10_o {Z : zLay} {D : zDm} {a b : Nat} {y : va_E} (w : a < 60 ∨ 118 < a) (h : D a b = some y) : eX11_10 Z D a b = some y := zDr_o (by omega) (zDu_o (by omega) (zDu_o (by omega) (eX11_9_o w h)))
theorem eX11_11_o {Z : zLay} {D : zDm} {a b : Nat} {y : va_E} (w : a < 60 ∨ 118 < a) (h : D a b = some y) : eX11_11 Z D a b = some y := zDu_o (by omega) (zDu_o (by omega) (eX11_10_o w h))
theorem eX11_12_o {Z : zLay} {D : zDm} {a b : Nat} {y : va_E} (w : a < 60 ∨ 118 < a) (h : D a b = some y) : eX11_12 Z D a b = some y := zDu_o (by omega) (zDu_o (by omega) (eX11_11_o w h))
theorem eX11_13_o {Z : zLay} {D : zDm} {a b : Nat} {y : va_E} (w : a < 60 ∨ 118 < a) (h : D a b = some y) : eX11_13 Z D a b = some y := zDu_o (by omega) (zDu_o (by omega) (eX11_12_o w h))
theorem eX11_14_o {Z : zLay} {D : zDm} {a b : Nat} {y : va_E} (w : a < 60 ∨ 118 < a) (h : D a b = some y) : eX11_14 Z D a b = some y := zDu_o (by omega) (zDu_o (by omega) (eX11_13_o w h))
theorem eX11_15_o {Z : zLay} {D : zDm} {a b : Nat} {y : va_E} (w : a < 60 ∨ 118 < a) (h : D a b = some y) : eX11_15 Z D a b = some y := zDu_o (by omega) (zDu_o (by omega) (eX11_14_o w h))
theorem eX11_16_o {Z : zLay} {D : zDm} {a b : Nat} {y : va_E} (w : a < 60 ∨ 118 < a) (h : D a b = some y) : eX11_16 Z D a b = some y := zDu_o (by omega) (zDu_o (by omega) (eX11_15_o w h))
theorem eX11_17_o {Z : zLay} {D : zDm} {a b : Nat} {y : va_E} (w : a < 60 ∨ 118 < a) (h : D a b = some y) : eX11_17 Z D a b = some y := zDr_o (by omega) (zDu_o (by omega) (zDu_o (by omega) (eX11_16_o w h)))
theorem eX11_18_o {Z : zLay} {D : zDm} {a b : Nat} {y : va_E} (w : a < 60 ∨ 118 < a) (h : D a b = some y) : eX11_18 Z D a b = some y := zDr_o (by omega) (zDu_o (by omega) (zDu_o (by omega) (eX11_17_o w h)))
theorem eX11_19_o {Z : zLay} {D : zDm} {a b : Nat} {y : va_E} (w : a < 60 ∨ 118 < a) (h : D a b = some y) : eX11_19 Z D a b = some y := zDr_o (by omega) (zDu_o (by omega) (zDu_o (by omega) (eX11_18_o w h)))
theorem eX11_20_o {Z : zLay} {D : zDm} {a b : Nat} {y : va_E} (w : a < 60 ∨ 118 < a) (h : D a b = some y) : eX11_20 Z D a b = some y := zDr_o (by omega) (zDu_o (by omega) (zDu_o (by omega) (eX11_19_o w h)))
theorem eX11_21_o {Z : zLay} {D : zDm} {a b : Nat} {y : va_E} (w : a < 60 ∨ 118 < a) (h : D a b = some y) : eX11_21 Z D a b = some y := zDu_o (by omega) (zDu_o (by omega) (eX11_20_o w h))
theorem eX11_22_o {Z : zLay} {D : zDm} {a b : Nat} {y : va_E} (w : a < 60 ∨ 118 < a) (h : D a b = some y) : eX11_22 Z D a b = some y := zDu_o (by omega) (zDu_o (by omega) (eX11_21_o w h))
theorem eX11_23_o {Z : zLay} {D : zDm} {a b : Nat} {y : va_E} (w : a < 60 ∨ 118 < a) (h : D a b = some y) : eX11_23 Z D a b = some y := zDu_o (by omega) (zDu_o (by omega) (eX11_22_o w h))
theorem eX11_24_o {Z : zLay} {D : zDm} {a b : Nat} {y : va_E} (w : a < 60 ∨ 118 < a) (h : D a b = some y) : eX11_24 Z D a b = some y := zDu_o (by omega) (zDu_o (by omega) (eX11_23_o w h))
theorem eX11_25_o {Z : zLay} {D : zDm} {a b : Nat} {y : va_E} (w : a < 60 ∨ 118 < a) (h : D a b = some y) : eX11_25 Z D a b = some y := zDr_o (by omega) (zDu_o (by omega) (zDu_o (by omega) (eX11_24_o w h)))
theorem eX11_26_o {Z : zLay} {D : zDm} {a b : Nat} {y : va_E} (w : a < 60 ∨ 118 < a) (h : D a b = some y) : eX11_26 Z D a b = some y := zDu_o (by omega) (zDu_o (by omega) (eX11_25_o w h))
theorem eX11_27_o {Z : zLay} {D : zDm} {a b : Nat} {y : va_E} (w : a < 60 ∨ 118 < a) (h : D a b = some y) : eX11_27 Z D a b = some y := zDu_o (by omega) (zDu_o (by omega) (eX11_26_o w h))
theorem eX11_28_o {Z : zLay} {D : zDm} {a b : Nat} {y : va_E} (w : a < 60 ∨ 118 < a) (h : D a b = some y) : eX11_28 Z D a b = some y := zDu_o (by omega) (zDu_o (by omega) (eX11_27_o w h))
theorem eX11_29_o {Z : zLay} {D : zDm} {a b : Nat} {y : va_E} (w : a < 60 ∨ 118 < a) (h : D a b = some y) : eX11_29 Z D a b = some y := zDr_o (by omega) (zDu_o (by omega) (zDu_o (by omega) (eX11_28_o w h)))
theorem eX11_30_o {Z : zLay} {D : zDm} {a b : Nat} {y : va_E} (w : a < 60 ∨ 118 < a) (h : D a b = some y) : eX11_30 Z D a b = some y := zDr_o (by omega) (zDu_o (by omega) (zDu_o (by omega) (eX11_29_o w h)))
theorem eX11_31_o {Z : zLay} {D : zDm} {a b : Nat} {y : va_E} (w : a < 60 ∨ 118 < a) (h : D a b = some y) : eX11_31 Z D a b = some y := zDu_o (by omega) (zDu_o (by omega) (eX11_30_o w h))
theorem eX11_32_o {Z : zLay} {D : zDm} {a b : Nat} {y : va_E} (w : a < 60 ∨ 118 < a) (h : D a b = some y) : eX11_32 Z D a b = some y := zDu_o (by omega) (eX11_31_o w h)
theorem eX11_33_o {Z : zLay} {D : zDm} {a b : Nat} {y : va_E} (w : a < 60 ∨ 118 < a) (h : D a b = some y) : eX11_33 Z D a b = some y := zDu_o (by omega) (zDu_o (by omega) (eX11_32_o w h))
theorem eX11_34_o {Z : zLay} {D : zDm} {a b : Nat} {y : va_E} (w : a < 60 ∨ 118 < a) (h : D a b = some y) : eX11_34 Z D a b = some y := zDu_o (by omega) (zDu_o (by omega) (eX11_33_o w h))
theorem eX11_35_o {Z : zLay} {D : zDm} {a b : Nat} {y : va_E} (w : a < 60 ∨ 118 < a) (h : D a b = some y) : eX11_35 Z D a b = some y := zDu_o (by omega) (zDu_o (by omega) (zDu_o (by omega) (zDu_o (by omega) (zDu_o (by omega) (eX11_34_o w h)))))
theorem eX11_36_o {Z : zLay} {D : zDm} {a b : Nat} {y : va_E} (w : a < 60 ∨ 118 < a) (h : D a b = some y) : eX11_36 Z D a b = some y := zDu_o (by omega) (eX11_35_o w h)
theorem eX11_37_o {Z : zLay} {D : zDm} {a b : Nat} {y : va_E} (w : a < 60 ∨ 118 < a) (h : D a b = some y) : eX11_37 Z D a b = some y := zDu_o (by omega) (zDu_o (by omega) (zDu_o (by omega) (zDu_o (by omega) (zDu_o (by omega) (eX11_36_o w h)))))
theorem eX11_38_o {Z : zLay} {D : zDm} {a b : Nat} {y : va_E} (w : a < 60 ∨ 118 < a) (h : D a b = some y) : eX11_38 Z D a b = some y := zDu_o (by omega) (zDu_o (by omega) (eX11_37_o w h))
theorem eX11_39_o {Z : zLay} {D : zDm} {a b : Nat} {y : va_E} (w : a < 60 ∨ 118 < a) (h : D a b = some y) : eX11_39 Z D a b = some y := zDr_o (by omega) (zDu_o (by omega) (zDu_o (by omega) (eX11_38_o w h)))
theorem eX11_40_o {Z : zLay} {D : zDm} {a b : Nat} {y : va_E} (w : a < 60 ∨ 118 < a) (h : D a b = some y) : eX11_40 Z D a b = some y := zDr_o (by omega) (zDu_o (by omega) (zDu_o (by omega) (eX11_39_o w h)))
theorem eX11_41_o {Z : zLay} {D : zDm} {a b : Nat} {y : va_E} (w : a < 60 ∨ 118 < a) (h : D a b = some y) : eX11_41 Z D a b = some y := zDu_o (by omega) (zDu_o (by omega) (eX11_40_o w h))
theorem eX11_42_o {Z : zLay} {D : zDm} {a b : Nat} {y : va_E} (w : a < 60 ∨ 118 < a) (h : D a b = some y) : eX11_42 Z D a b = some y := zDu_o (by omega) (zDu_o (by omega) (eX11_41_o w h))
theorem eX11_43_o {Z : zLay} {D : zDm} {a b : Nat} {y : va_E} (w : a < 60 ∨ 118 < a) (h : D a b = some y) : eX11_43 Z D a b = some y := zDu_o (by omega) (zDu_o (by omega) (eX11_42_o w h))
theorem eX11_44_o {Z : zLay} {D : zDm} {a b : Nat} {y : va_E} (w : a < 60 ∨ 118 < a) (h : D a b = some y) : eX11_44 Z D a b = some y := zDu_o (by omega) (zDu_o (by omega) (eX11_43_o w h))
theorem eX11_45_o {Z : zLay} {D : zDm} {a b : Nat} {y : va_E} (w : a < 60 ∨ 118 < a) (h : D a b = some y) : eX11_45 Z D a b = some y := zDu_o (by omega) (zDu_o (by omega) (eX11_44_o w h))
theorem eX11_46_o {Z : zLay} {D : zDm} {a b : Nat} {y : va_E} (w : a < 60 ∨ 118 < a) (h : D a b = some y) : eX11_46 Z D a b = some y := zDr_o (by omega) (zDu_o (by omega) (zDu_o (by omega) (eX11_45_o w h)))
theorem eX11_47_o {Z : zLay} {D : zDm} {a b : Nat} {y : va_E} (w : a < 60 ∨ 118 < a) (h : D a b = some y) : eX11_47 Z D a b = some y := zDu_o (by omega) (zDu_o (by omega) (eX11_46_o w h))
theorem eX11_48_o {Z : zLay} {D : zDm} {a b : Nat} {y : va_E} (w : a < 60 ∨ 118 < a) (h : D a b = some y) : eX11_48 Z D a b = some y := zDu_o (by omega) (zDu_o (by omega) (eX11_47_o w h))
theorem eX11_48_c {Z : zLay} {D : zDm} {a b : Nat} {y : va_E} (w : a ≠ 60) (v : a < 118) (h : eX11_47 Z D a b = some y) : eX11_48 Z D a b = some y := zDu_o (by omega) (zDu_o (by omega) (h))
theorem eX11_47_c {Z : zLay} {D : zDm} {a b : Nat} {y : va_E} (w : a ≠ 60) (v : a < 117) (h : eX11_46 Z D a b = some y) : eX11_48 Z D a b = some y := eX11_48_c w (by omega) (zDu_o (by omega) (zDu_o (by omega) (h)))
theorem eX11_46_c {Z : zLay} {D : zDm} {a b : Nat} {y : va_E} (w : a ≠ 60) (v : a < 115) (h : eX11_45 Z D a b = some y) : eX11_48 Z D a b = some y := eX11_47_c w (by omega) (zDr_o (by omega) (zDu_o (by omega) (zDu_o (by omega) (h))))
theorem eX11_45_c {Z : zLay} {D : zDm} {a b : Nat} {y : va_E} (w : a ≠ 60) (v : a < 114) (h : eX11_44 Z D a b = some y) : eX11_48 Z D a b = some y := eX11_46_c w (by omega) (zDu_o (by omega) (zDu_o (by omega) (h)))
theorem eX11_44_c {Z : zLay} {D : zDm} {a b : Nat} {y : va_E} (w : a ≠ 60) (v : a < 113) (h : eX11_43 Z D a b = some y) : eX11_48 Z D a b = some y := eX11_45_c w (by omega) (zDu_o (by omega) (zDu_o (by omega) (h)))
theorem eX11_43_c {Z : zLay} {D : zDm} {a b : Nat} {y : va_E} (w : a ≠ 60) (v : a < 112) (h : eX11_42 Z D a b = some y) : eX11_48 Z D a b = some y := eX11_44_c w (by omega) (zDu_o (by omega) (zDu_o (by omega) (h)))
theorem eX11_42_c {Z : zLay} {D : zDm} {a b : Nat} {y : va_E} (w : a ≠ 60) (v : a < 111) (h : eX11_41 Z D a b = some y) : eX11_48 Z D a b = some y := eX11_43_c w (by omega) (zDu_o (by omega) (zDu_o (by omega) (h)))
theorem eX11_41_c {Z : zLay} {D : zDm} {a b : Nat} {y : va_E} (w : a ≠ 60) (v : a < 110) (h : eX11_40 Z D a b = some y) : eX11_48 Z D a b = some y := eX11_42_c w (by omega) (zDu_o (by omega) (zDu_o (by omega) (h)))
theorem eX11_40_c {Z : zLay} {D : zDm} {a b : Nat} {y : va_E} (w : a ≠ 60) (v : a < 108) (h : eX11_39 Z D a b = some y) : eX11_48 Z D a b = some y := eX11_41_c w (by omega) (zDr_o (by omega) (zDu_o (by omega) (zDu_o (by omega) (h))))
theorem eX11_39_c {Z : zLay} {D : zDm} {a b : Nat} {y : va_E} (w : a ≠ 60) (v : a < 106) (h : eX11_38 Z D a b = some y) : eX11_48 Z D a b = some y := eX11_40_c w (by omega) (zDr_o (by omega) (zDu_o (by omega) (zDu_o (by omega) (h))))
theorem eX11_38_c {Z : zLay} {D : zDm} {a b : Nat} {y : va_E} (w : a ≠ 60) (v : a < 105) (h : eX11_37 Z D a b = some y) : eX11_48 Z D a b = some y := eX11_39_c w (by omega) (zDu_o (by omega) (zDu_o (by omega) (h)))
theorem eX11_37_c {Z : zLay} {D : zDm} {a b : Nat} {y : va_E} (w : a ≠ 60) (v : a < 104) (h : eX11_36 Z D a b = some y) : eX11_48 Z D a b = some y := eX11_38_c w (by omega) (zDu_o (by omega) (zDu_o (by omega) (zDu_o (by omega) (zDu_o (by omega) (zDu_o (by omega) (h))))))
theorem eX11_36_c {Z : zLay} {D : zDm} {a b : Nat} {y : va_E} (w : a ≠ 60) (v : a < 104) (h : eX11_35 Z D a b = some y) : eX11_48 Z D a b = some y := eX11_37_c w (by omega) (zDu_o (by omega) (h))
theorem eX11_35_c {Z : zLay} {D : zDm} {a b : Nat} {y : va_E} (w : a ≠ 60) (v : a < 103) (h : eX11_34 Z D a b = some y) : eX11_48 Z D a b = some y := eX11_36_c w (by omega) (zDu_o (by omega) (zDu_o (by omega) (zDu_o (by omega) (zDu_o (by omega) (zDu_o (by omega) (h))))))
theorem eX11_34_c {Z : zLay} {D : zDm} {a b : Nat} {y : va_E} (w : a ≠ 60) (v : a < 102) (h : eX11_33 Z D a b = some y) : eX11_48 Z D a b = some y := eX11_35_c w (by omega) (zDu_o (by omega) (zDu_o (by omega) (h)))
theorem eX11_33_c {Z : zLay} {D : zDm} {a b : Nat} {y : va_E} (w : a ≠ 60) (v : a < 101) (h : eX11_32 Z D a b = some y) : eX11_48 Z D a b = some y := eX11_34_c w (by omega) (zDu_o (by omega) (zDu_o (by omega) (h)))
theorem eX11_32_c {Z : zLay} {D : zDm} {a b : Nat} {y : va_E} (w : a ≠ 60) (v : a < 101) (h : eX11_31 Z D a b = some y) : eX11_48 Z D a b = some y := eX11_33_c w (by omega) (zDu_o (by omega) (h))
theorem eX11_31_c {Z : zLay} {D : zDm} {a b : Nat} {y : va_E} (w : a ≠ 60) (v : a < 100) (h : eX11_30 Z D a b = some y) : eX11_48 Z D a b = some y := eX11_32_c w (by omega) (zDu_o (by omega) (zDu_o (by omega) (h)))
theorem eX11_30_c {Z : zLay} {D : zDm} {a b : Nat} {y : va_E} (w : a ≠ 60) (v : a < 98) (h : eX11_29 Z D a b = some y) : eX11_48 Z D a b = some y := eX11_31_c w (by omega) (zDr_o (by omega) (zDu_o (by omega) (zDu_o (by omega) (h))))
theorem eX11_29_c {Z : zLay} {D : zDm} {a b : Nat} {y : va_E} (w : a ≠ 60) (v : a < 96) (h : eX11_28 Z D a b = some y) : eX11_48 Z D a b = some y := eX11_30_c w (by omega) (zDr_o (by omega) (zDu_o (by omega) (zDu_o (by omega) (h))))
theorem eX11_28_c {Z : zLay} {D : zDm} {a b : Nat} {y : va_E} (w : a ≠ 60) (v : a < 95) (h : eX11_27 Z D a b = some y) : eX11_48 Z D a b = some y := eX11_29_c w (by omega) (zDu_o (by omega) (zDu_o (by omega) (h)))
theorem eX11_27_c {Z : zLay} {D : zDm} {a b : Nat} {y : va_E} (w : a ≠ 60) (v : a < 94) (h : eX11_26 Z D a b = some y) : eX11_48 Z D a b = some y := eX11_28_c w (by omega) (zDu_o (by omega) (zDu_o (by omega) (h)))
theorem eX11_26_c {Z : zLay} {D : zDm} {a b : Nat} {y : va_E} (w : a ≠ 60) (v : a < 93) (h : eX11_25 Z D a b = some y) : eX11_48 Z D a b = some y := eX11_27_c w (by omega) (zDu_o (by omega) (zDu_o (by omega) (h)))
theorem eX11_25_c {Z : zLay} {D : zDm} {a b : Nat} {y : va_E} (w : a ≠ 60) (v : a < 91) (h : eX11_24 Z D a b = some y) : eX11_48 Z D a b = some y := eX11_26_c w (by omega) (zDr_o (by omega) (zDu_o (by omega) (zDu_o (by omega) (h))))
theorem eX11_24_c {Z : zLay} {D : zDm} {a b : Nat} {y : va_E} (w : a ≠ 60) (v : a < 90) (h : eX11_23 Z D a b = some y) : eX11_48 Z D a b = some y := eX11_25_c w (by omega) (zDu_o (by omega) (zDu_o (by omega) (h)))
theorem eX11_23_c {Z : zLay} {D : zDm} {a b : Nat} {y : va_E} (w : a ≠ 60) (v : a < 89) (h : eX11_22 Z D a b = some y) : eX11_48 Z D a b = some y := eX11_24_c w (by omega) (zDu_o (by omega) (zDu_o (by omega) (h)))
theorem eX11_22_c {Z : zLay} {D : zDm} {a b : Nat} {y : va_E} (w : a ≠ 60) (v : a < 88) (h : eX11_21 Z D a b = some y) : eX11_48 Z D a b = some y := eX11_23_c w (by omega) (zDu_o (by omega) (zDu_o (by omega) (h)))
theorem eX11_21_c {Z : zLay} {D : zDm} {a b : Nat} {y : va_E} (w : a ≠ 60) (v : a < 87) (h : eX11_20 Z D a b = some y) : eX11_48 Z D a b = some y := eX11_22_c w (by omega) (zDu_o (by omega) (zDu_o (by omega) (h)))
theorem eX11_20_c {Z : zLay} {D : zDm} {a b : Nat} {y : va_E} (w : a ≠ 60) (v : a < 85) (h : eX11_19 Z D a b = some y) : eX11_48 Z D a b = some y := eX11_21_c w (by omega) (zDr_o (by omega) (zDu_o (by omega) (zDu_o (by omega) (h))))
theorem eX11_19_c {Z : zLay} {D : zDm} {a b : Nat} {y : va_E} (w : a ≠ 60) (v : a < 83) (h : eX11_18 Z D a b = some y) : eX11_48 Z D a b = some y := eX11_20_c w (by omega) (zDr_o (by omega) (zDu_o (by omega) (zDu_o (by omega) (h))))
theorem eX11_18_c {Z : zLay} {D : zDm} {a b : Nat} {y : va_E} (w : a ≠ 60) (v : a < 81) (h : eX11_17 Z D a b = some y) : eX11_48 Z D a b = some y := eX11_19_c w (by omega) (zDr_o (by omega) (zDu_o (by omega) (zDu_o (by omega) (h))))
theorem eX11_17_c {Z : zLay} {D : zDm} {a b : Nat} {y : va_E} (w : a ≠ 60) (v : a < 79) (h : eX11_16 Z D a b = some y) : eX11_48 Z D a b = some y := eX11_18_c w (by omega) (zDr_o (by omega) (zDu_o (by omega) (zDu_o (by omega) (h))))
theorem eX11_16_c {Z : zLay} {D : zDm} {a b : Nat} {y : va_E} (w : a ≠ 60) (v : a < 78) (h : eX11_15 Z D a b = some y) : eX11_48 Z D a b = some y := eX11_17_c w (by omega) (zDu_o (by omega) (zDu_o (by omega) (h)))
theorem eX11_15_c {Z : zLay} {D : zDm} {a b : Nat} {y : va_E} (w : a ≠ 60) (v : a < 77) (h : eX11_14 Z D a b = some y) : eX11_48 Z D a b = some y := eX11_16_c w (by omega) (zDu_o (by omega) (zDu_o (by omega) (h)))
theorem eX11_14_c {Z : zLay} {D : zDm} {a b : Nat} {y : va_E} (w : a ≠ 60) (v : a < 76) (h : eX11_13 Z D a b = some y) : eX11_48 Z D a b = some y := eX11_15_c w (by omega) (zDu_o (by omega) (zDu_o (by omega) (h)))
theorem eX11_13_c {Z : zLay} {D : zDm} {a b : Nat} {y : va_E} (w : a ≠ 60) (v : a < 75) (h : eX11_12 Z D a b = some y) : eX11_48 Z D a b = some y := eX11_14_c w (by omega) (zDu_o (by omega) (zDu_o (by omega) (h)))
theorem eX11_12_c {Z : zLay} {D : zDm} {a b : Nat} {y : va_E} (w : a ≠ 60) (v : a < 74) (h : eX11_11 Z D a b = some y) : eX11_48 Z D a b = some y := eX11_13_c w (by omega) (zDu_o (by omega) (zDu_o (by omega) (h)))
theorem eX11_11_c {Z : zLay} {D : zDm} {a b : Nat} {y : va_E} (w : a ≠ 60) (v : a < 73) (h : eX11_10 Z D a b = some y) : eX11_48 Z D a b = some y := eX11_12_c w (by omega) (zDu_o (by omega) (zDu_o (by omega) (h)))
theorem eX11_10_c {Z : zLay} {D : zDm} {a b : Nat} {y : va_E} (w : a ≠ 60) (v : a < 71) (h : eX11_9 Z D a b = some y) : eX11_48 Z D a b = some y := eX11_11_c w (by omega) (zDr_o (by omega) (zDu_o (by omega) (zDu_o (by omega) (h))))
theorem eX11_9_c {Z : zLay} {D : zDm} {a b : Nat} {y : va_E} (w : a ≠ 60) (v : a < 70) (h : eX11_8 Z D a b = some y) : eX11_48 Z D a b = some y := eX11_10_c w (by omega) (zDu_o (by omega) (zDu_o (by omega) (h)))
theorem eX11_8_c {Z : zLay} {D : zDm} {a b : Nat} {y : va_E} (w : a ≠ 60) (v : a < 69) (h : eX11_7 Z D a b = some y) : eX11_48 Z D a b = some y := eX11_9_c w (by omega) (zDu_o (by omega) (zDu_o (by omega) (h)))
theorem eX11_7_c {Z : zLay} {D : zDm} {a b : Nat} {y : va_E} (w : a ≠ 60) (v : a < 68) (h : eX11_6 Z D a b = some y) : eX11_48 Z D a b = some y := eX11_8_c w (by omega) (zDu_o (by omega) (zDu_o (by omega) (h)))
theorem eX11_6_c {Z : zLay} {D : zDm} {a b : Nat} {y : va_E} (w : a ≠ 60) (v : a < 67) (h : eX11_5 Z D a b = some y) : eX11_48 Z D a b = some y := eX11_7_c w (by omega) (zDu_o (by omega) (zDu_o (by omega) (h)))
theorem eX11_5_c {Z : zLay} {D : zDm} {a b : Nat} {y : va_E} (w : a ≠ 60) (v : a < 66) (h : eX11_4 Z D a b = some y) : eX11_48 Z D a b = some y := eX11_6_c w (by omega) (zDu_o (by omega) (zDu_o (by omega) (h)))
theorem eX11_4_c {Z : zLay} {D : zDm} {a b : Nat} {y : va_E} (w : a ≠ 60) (v : a < 65) (h : eX11_3 Z D a b = some y) : eX11_48 Z D a b = some y := eX11_5_c w (by omega) (zDu_o (by omega) (zDu_o (by omega) (h)))
theorem eX11_3_c {Z : zLay} {D : zDm} {a b : Nat} {y : va_E} (w : a ≠ 60) (v : a < 64) (h : eX11_2 Z D a b = some y) : eX11_48 Z D a b = some y := eX11_4_c w (by omega) (zDu_o (by omega) (zDu_o (by omega) (h)))
theorem eX11_2_c {Z : zLay} {D : zDm} {a b : Nat} {y : va_E} (w : a ≠ 60) (v : a < 63) (h : eX11_1 Z D a b = some y) : eX11_48 Z D a b = some y := eX11_3_c w (by omega) (zDu_o (by omega) (zDu_o (by omega) (h)))
theorem eX11_1_c {Z : zLay} {D : zDm} {a b : Nat} {y : va_E} (w : a ≠ 60) (v : a < 61) (h : eX11_0 Z D a b = some y) : eX11_48 Z D a b = some y := eX11_2_c w (by omega) (zDr_o (by omega) (zDu_o (by omega) (zDu_o (by omega) (h))))
theorem pX11_62 {Z : zLay} {D : zDm} {b : Nat} (hb : b < 10) : eX11_48 Z D 62 b = some (.inl (zca Z 0, (5, .inl fun _ => 0))) := eX11_2_c (by decide) (by decide) (zDr_i _ hb)
theorem pX11_61 {Z : zLay} {D : zDm} : eX11_48 Z D 61 0 = some (.inl (zca Z 9, 10, .inr (.inr (.inr (.inr (fun i => if i < 10 then some (zad Z 62 i) else none)))))) := eX11_2_c (by decide) (by decide) (zDr_o (by decide) (zDu_i _ _ _ _))
theorem pX11_63 {Z : zLay} {D : zDm} : eX11_48 Z D 63 0 = some (.inl (zca Z 0, 10, .inl fun _ => 0)) := eX11_3_c (by decide) (by decide) (zDu_i _ _ _ _)
theorem pX11_64 {Z : zLay} {D : zDm} : eX11_48 Z D 64 0 = some (.inl (zca Z 0, 10, .inl fun _ => 0)) := eX11_4_c (by decide) (by decide) (zDu_i _ _ _ _)
theorem pX11_65 {Z : zLay} {D : zDm} : eX11_48 Z D 65 0 = some (.inl (zca Z 0, 10, .inl fun _ => 0)) := eX11_5_c (by decide) (by decide) (zDu_i _ _ _ _)
theorem pX11_66 {Z : zLay} {D : zDm} : eX11_48 Z D 66 0 = some (.inl (zca Z 0, 10, .inl fun _ => 0)) := eX11_6_c (by decide) (by decide) (zDu_i _ _ _ _)
theorem pX11_67 {Z : zLay} {D : zDm} : eX11_48 Z D 67 0 = some (.inl (zca Z 0, 10, .inl fun _ => 0)) := eX11_7_c (by decide) (by decide) (zDu_i _ _ _ _)
theorem pX11_68 {Z : zLay} {D : zDm} : eX11_48 Z D 68 0 = some (.inl (zca Z 0, 10, .inl fun _ => 0)) := eX11_8_c (by decide) (by decide) (zDu_i _ _ _ _)
theorem pX11_69 {Z : zLay} {D : zDm} : eX11_48 Z D 69 0 = some (.inl (zca Z 0, 10, .inl fun _ => 0)) := eX11_9_c (by decide) (by decide) (zDu_i _ _ _ _)
theorem pX11_70 {Z : zLay} {D : zDm} : eX11_48 Z D 70 0 = some (.inl (zca Z 0, 10, .inl fun _ => 0)) := eX11_10_c (by decide) (by decide) (zDu_i _ _ _ _)
theorem pX11_72 {Z : zLay} {D : zDm} {b : Nat} (hb : b < 4) : eX11_48 Z D 72 b = some (.inl (zca Z 0, (10, .inl fun _ => 0))) := eX11_11_c (by decide) (by decide) (zDr_i _ hb)
theorem pX11_71 {Z : zLay} {D : zDm} : eX11_48 Z D 71 0 = some (.inl (zca Z 9, 4, .inr (.inr (.inr (.inr (fun i => if i < 4 then some (zad Z 72 i) else none)))))) := eX11_11_c (by decide) (by decide) (zDr_o (by decide) (zDu_i _ _ _ _))
theorem pX11_73 {Z : zLay} {D : zDm} : eX11_48 Z D 73 0 = some (.inl (zca Z 0, 50, .inl fun _ => 0)) := eX11_12_c (by decide) (by decide) (zDu_i _ _ _ _)
theorem pX11_74 {Z : zLay} {D : zDm} : eX11_48 Z D 74 0 = some (.inl (zca Z 0, 50, .inl fun _ => 0)) := eX11_13_c (by decide) (by decide) (zDu_i _ _ _ _)
theorem pX11_75 {Z : zLay} {D : zDm} : eX11_48 Z D 75 0 = some (.inl (zca Z 0, 50, .inl fun _ => 0)) := eX11_14_c (by decide) (by decide) (zDu_i _ _ _ _)
theorem pX11_76 {Z : zLay} {D : zDm} : eX11_48 Z D 76 0 = some (.inl (zca Z 0, 50, .inl fun _ => 0)) := eX11_15_c (by decide) (by decide) (zDu_i _ _ _ _)
theorem pX11_77 {Z : zLay} {D : zDm} : eX11_48 Z D 77 0 = some (.inl (zca Z 0, 50, .inl fun _ => 0)) := eX11_16_c (by decide) (by decide) (zDu_i _ _ _ _)
theorem pX11_78 {Z : zLay} {D : zDm} : eX11_48 Z D 78 0 = some (.inl (zca Z 0, 100, .inl fun _ => 0)) := eX11_17_c (by decide) (by decide) (zDu_i _ _ _ _)
theorem pX11_80 {Z : zLay} {D : zDm} {b : Nat} (hb : b < 41) : eX11_48 Z D 80 b = some (.inl (zca Z 0, (6, .inl fun _ => 0))) := eX11_18_c (by decide) (by decide) (zDr_i _ hb)
theorem pX11_79 {Z : zLay} {D : zDm} : eX11_48 Z D 79 0 = some (.inl (zca Z 9, 41, .inr (.inr (.inr (.inr (fun i => if i < 41 then some (zad Z 80 i) else none)))))) := eX11_18_c (by decide) (by decide) (zDr_o (by decide) (zDu_i _ _ _ _))
theorem pX11_82 {Z : zLay} {D : zDm} {b : Nat} (hb : b < 41) : eX11_48 Z D 82 b = some (.inl (zca Z 0, (24, .inl fun _ => 0))) := eX11_19_c (by decide) (by decide) (zDr_i _ hb)
theorem pX11_81 {Z : zLay} {D : zDm} : eX11_48 Z D 81 0 = some (.inl (zca Z 9, 41, .inr (.inr (.inr (.inr (fun i => if i < 41 then some (zad Z 82 i) else none)))))) := eX11_19_c (by decide) (by decide) (zDr_o (by decide) (zDu_i _ _ _ _))
theorem pX11_84 {Z : zLay} {D : zDm} {b : Nat} (hb : b < 2) : eX11_48 Z D 84 b = some (.inl (zca Z 0, (7200, .inl fun _ => 0))) := eX11_20_c (by decide) (by decide) (zDr_i _ hb)
theorem pX11_83 {Z : zLay} {D : zDm} : eX11_48 Z D 83 0 = some (.inl (zca Z 9, 2, .inr (.inr (.inr (.inr (fun i => if i < 2 then some (zad Z 84 i) else none)))))) := eX11_20_c (by decide) (by decide) (zDr_o (by decide) (zDu_i _ _ _ _))
theorem pX11_86 {Z : zLay} {D : zDm} {b : Nat} (hb : b < 2) : eX11_48 Z D 86 b = some (.inl (zca Z 4, (7200, .inl fun _ => 0))) := eX11_21_c (by decide) (by decide) (zDr_i _ hb)
theorem pX11_85 {Z : zLay} {D : zDm} : eX11_48 Z D 85 0 = some (.inl (zca Z 11, 2, .inr (.inr (.inr (.inr (fun i => if i < 2 then some (zad Z 86 i) else none)))))) := eX11_21_c (by decide) (by decide) (zDr_o (by decide) (zDu_i _ _ _ _))
theorem pX11_87 {Z : zLay} {D : zDm} : eX11_48 Z D 87 0 = some (.inl (zca Z 0, 4, .inl fun _ => 0)) := eX11_22_c (by decide) (by decide) (zDu_i _ _ _ _)
theorem pX11_88 {Z : zLay} {D : zDm} : eX11_48 Z D 88 0 = some (.inl (zca Z 0, 4, .inl fun _ => 0)) := eX11_23_c (by decide) (by decide) (zDu_i _ _ _ _)
theorem pX11_89 {Z : zLay} {D : zDm} : eX11_48 Z D 89 0 = some (.inl (zca Z 0, 4, .inl fun _ => 0)) := eX11_24_c (by decide) (by decide) (zDu_i _ _ _ _)
theorem pX11_90 {Z : zLay} {D : zDm} : eX11_48 Z D 90 0 = some (.inl (zca Z 0, 4, .inl fun _ => 0)) := eX11_25_c (by decide) (by decide) (zDu_i _ _ _ _)
theorem pX11_92 {Z : zLay} {D : zDm} {b : Nat} (hb : b < 200) : eX11_48 Z D 92 b = some (.inl (zca Z 0, (6, .inl fun _ => 0))) := eX11_26_c (by decide) (by decide) (zDr_i _ hb)
theorem pX11_91 {Z : zLay} {D : zDm} : eX11_48 Z D 91 0 = some (.inl (zca Z 9, 200, .inr (.inr (.inr (.inr (fun i => if i < 200 then some (zad Z 92 i) else none)))))) := eX11_26_c (by decide) (by decide) (zDr_o (by decide) (zDu_i _ _ _ _))
theorem pX11_93 {Z : zLay} {D : zDm} : eX11_48 Z D 93 0 = some (.inl (zca Z 0, 6, .inl fun _ => 0)) := eX11_27_c (by decide) (by decide) (zDu_i _ _ _ _)
theorem pX11_94 {Z : zLay} {D : zDm} : eX11_48 Z D 94 0 = some (.inl (zca Z 4, 6, .inl fun _ => 0)) := eX11_28_c (by decide) (by decide) (zDu_i _ _ _ _)
theorem pX11_95 {Z : zLay} {D : zDm} : eX11_48 Z D 95 0 = some (.inl (zca Z 0, 6, .inl fun _ => 0)) := eX11_29_c (by decide) (by decide) (zDu_i _ _ _ _)
theorem pX11_97 {Z : zLay} {D : zDm} {b : Nat} (hb : b < 6) : eX11_48 Z D 97 b = some (.inl (zca Z 0, (8, .inl fun _ => 0))) := eX11_30_c (by decide) (by decide) (zDr_i _ hb)
theorem pX11_96 {Z : zLay} {D : zDm} : eX11_48 Z D 96 0 = some (.inl (zca Z 9, 6, .inr (.inr (.inr (.inr (fun i => if i < 6 then some (zad Z 97 i) else none)))))) := eX11_30_c (by decide) (by decide) (zDr_o (by decide) (zDu_i _ _ _ _))
theorem pX11_99 {Z : zLay} {D : zDm} {b : Nat} (hb : b < 6) : eX11_48 Z D 99 b = some (.inl (zca Z 4, (8, .inl fun _ => 0))) := eX11_31_c (by decide) (by decide) (zDr_i _ hb)
theorem pX11_98 {Z : zLay} {D : zDm} : eX11_48 Z D 98 0 = some (.inl (zca Z 11, 6, .inr (.inr (.inr (.inr (fun i => if i < 6 then some (zad Z 99 i) else none)))))) := eX11_31_c (by decide) (by decide) (zDr_o (by decide) (zDu_i _ _ _ _))
theorem pX11_100 {Z : zLay} {D : zDm} : eX11_48 Z D 100 0 = some (.inl (zca Z 0, 6, .inl fun _ => 0)) := eX11_32_c (by decide) (by decide) (zDu_i _ _ _ _)
theorem pX11_101 {Z : zLay} {D : zDm} : eX11_48 Z D 101 0 = some (.inl (zca Z 0, 10, .inl fun _ => 0)) := eX11_34_c (by decide) (by decide) (zDu_i _ _ _ _)
theorem pX11_102 {Z : zLay} {D : zDm} : eX11_48 Z D 102 0 = some (.inl (zca Z 0, 10, .inl fun _ => 0)) := eX11_35_c (by decide) (by decide) (zDu_i _ _ _ _)
theorem pX11_103 {Z : zLay} {D : zDm} : eX11_48 Z D 103 0 = some (.inl (zca Z 0, 3, .inl (fun j => if j = (2 : Int32).toNatClampNeg then (-1) else (fun j => if j = (1 : Int32).toNatClampNeg then (-1) else (fun j => if j = (0 : Int32).toNatClampNeg then (-1) else 0) j) j))) := eX11_36_c (by decide) (by decide) (zDu_i _ _ _ _)
theorem pX11_104 {Z : zLay} {D : zDm} : eX11_48 Z D 104 0 = some (.inl (zca Z 0, 3, .inl (fun j => if j = (2 : Int32).toNatClampNeg then (-1) else (fun j => if j = (1 : Int32).toNatClampNeg then (-1) else (fun j => if j = (0 : Int32).toNatClampNeg then (-1) else 0) j) j))) := eX11_38_c (by decide) (by decide) (zDu_i _ _ _ _)
theorem pX11_105 {Z : zLay} {D : zDm} : eX11_48 Z D 105 0 = some (.inl (zca Z 0, 3, .inl fun _ => 0)) := eX11_39_c (by decide) (by decide) (zDu_i _ _ _ _)
theorem pX11_107 {Z : zLay} {D : zDm} {b : Nat} (hb : b < 3) : eX11_48 Z D 107 b = some (.inl (zca Z 0, (60, .inl fun _ => 0))) := eX11_40_c (by decide) (by decide) (zDr_i _ hb)
theorem pX11_106 {Z : zLay} {D : zDm} : eX11_48 Z D 106 0 = some (.inl (zca Z 9, 3, .inr (.inr (.inr (.inr (fun i => if i < 3 then some (zad Z 107 i) else none)))))) := eX11_40_c (by decide) (by decide) (zDr_o (by decide) (zDu_i _ _ _ _))
theorem pX11_109 {Z : zLay} {D : zDm} {b : Nat} (hb : b < 3) : eX11_48 Z D 109 b = some (.inl (zca Z 4, (60, .inl fun _ => 0))) := eX11_41_c (by decide) (by decide) (zDr_i _ hb)
theorem pX11_108 {Z : zLay} {D : zDm} : eX11_48 Z D 108 0 = some (.inl (zca Z 11, 3, .inr (.inr (.inr (.inr (fun i => if i < 3 then some (zad Z 109 i) else none)))))) := eX11_41_c (by decide) (by decide) (zDr_o (by decide) (zDu_i _ _ _ _))
theorem pX11_110 {Z : zLay} {D : zDm} : eX11_48 Z D 110 0 = some (.inl (zca Z 0, 20, .inl fun _ => 0)) := eX11_42_c (by decide) (by decide) (zDu_i _ _ _ _)
theorem pX11_111 {Z : zLay} {D : zDm} : eX11_48 Z D 111 0 = some (.inl (zca Z 0, 6, .inl fun _ => 0)) := eX11_43_c (by decide) (by decide) (zDu_i _ _ _ _)
theorem pX11_112 {Z : zLay} {D : zDm} : eX11_48 Z D 112 0 = some (.inl (zca Z 0, 10, .inl fun _ => 0)) := eX11_44_c (by decide) (by decide) (zDu_i _ _ _ _)
theorem pX11_113 {Z : zLay} {D : zDm} : eX11_48 Z D 113 0 = some (.inl (zca Z 0, 4, .inl fun _ => 0)) := eX11_45_c (by decide) (by decide) (zDu_i _ _ _ _)
theorem pX11_114 {Z : zLay} {D : zDm} : eX11_48 Z D 114 0 = some (.inl (zca Z 0, 4, .inl fun _ => 0)) := eX11_46_c (by decide) (by decide) (zDu_i _ _ _ _)
theorem pX11_116 {Z : zLay} {D : zDm} {b : Nat} (hb : b < 4) : eX11_48 Z D 116 b = some (.inl (zca Z 0, (10, .inl fun _ => 0))) := eX11_47_c (by decide) (by decide) (zDr_i _ hb)
theorem pX11_115 {Z : zLay} {D : zDm} : eX11_48 Z D 115 0 = some (.inl (zca Z 9, 4, .inr (.inr (.inr (.inr (fun i => if i < 4 then some (zad Z 116 i) else none)))))) := eX11_47_c (by decide) (by decide) (zDr_o (by decide) (zDu_i _ _ _ _))
theorem pX11_117 {Z : zLay} {D : zDm} : eX11_48 Z D 117 0 = some (.inl (zca Z 0, 5, .inl fun _ => 0)) := eX11_48_c (by decide) (by decide) (zDu_i _ _ _ _)
theorem pX11_118 {Z : zLay} {D : zDm} : eX11_48 Z D 118 0 = some (.inl (zca Z 0, 5, .inl fun _ => 0)) := zDu_i _ _ _ _
def wX11 (Z : zLay) (D : zDm) : Nat → zDm
  | 0 => D
  | n + 1 => zDu (wX11 Z D n) 80 n (.inl (zca Z 0, 6, .inl (fun j => if j = (5 : Int32).toNatClampNeg then -1 else 0)))
theorem wX11_o {Z : zLay} {D : zDm} {a b : Nat} {y : va_E} (v : a ≠ 80) (h : D a b = some y) (n : Nat) : wX11 Z D n a b = some y := by
  induction n with
  | zero => exact h
  | succ n ih => exact zDu_o v ih
theorem wX11_n {Z : zLay} {D : zDm} {b : Nat} {y : va_E} (h : D 80 b = some y) (n : Nat) (hb : n ≤ b) : wX11 Z D n 80 b = some y := by
  induction n with
  | zero => exact h
  | succ n ih => exact zDu_ob (by omega) (ih (by omega))
theorem wX11_80 {Z : zLay} {D : zDm} (n : Nat) : ∀ j, j < n → wX11 Z D n 80 j = some (.inl (zca Z 0, 6, .inl (fun j => if j = (5 : Int32).toNatClampNeg then -1 else 0))) := by
  induction n with
  | zero => exact fun j h => absurd h (Nat.not_lt_zero _)
  | succ n ih =>
    intro j h
    by_cases q : j = n
    · subst q
      exact zDu_i _ _ _ _
    · exact zDu_ob q (ih j (by omega))
theorem sX11_h80 {E : zEn} {h n0 : Nat} {Z : zLay} {D : zDm} {Q : State → Prop} (C : zCN E cX11_init RX11 2 Z h n0 344 368 32691) (hD : D 60 0 = some (.inr (11, fX11_48 Z))) (hA : D 79 0 = some (.inl (zca Z 9, 41, .inr (.inr (.inr (.inr (fun i => if i < 41 then some (zad Z 80 i) else none))))))) (hB : ∀ b, b < 41 → D 80 b = some (.inl (zca Z 0, (6, .inl fun _ => 0)))) (kk : zNN E 2 Z n0 Q 462 [(1, .int (nI 41)), (0, .ref (zad Z 60 0))] [] (wX11 Z D 41) 368 32691) : ∀ m n, n + m = 41 → zNN E 2 Z n0 Q 441 [(1, .int (nI n)), (0, .ref (zad Z 60 0))] [] (wX11 Z D n) 368 32691 := by
  intro m
  induction m with
  | zero =>
    intro n e1
    obtain rfl : n = 41 := e1
    refine zn_iload_n C dX11_init_441 rfl ?_
    refine zn_bipush C dX11_init_442 (v := 40) (by decide) ?_
    refine zn_icmpg C dX11_init_444 (tgt := 462) (by decide) (fun _ => kk) (fun q => absurd (by decide +kernel) q)
  | succ m ih =>
    intro n e1
    have hn : n < 41 := by omega
    obtain ⟨n1, n2, n3⟩ := nI41_c n (by omega)
    refine zn_iload_n C dX11_init_441 rfl ?_
    refine zn_bipush C dX11_init_442 (v := 40) (by decide) ?_
    refine zn_icmpg C dX11_init_444 (tgt := 462) (by decide) (fun q => absurd q ((by decide +kernel : ∀ n, n < 41 → ¬ (40 : Int32) < nI n) n hn)) (fun _ => ?_)
    refine zn_aload_n C dX11_init_447 rfl ?_
    refine zn_get C 21 zin_X11 rfl (Nat.le_of_ble_eq_true rfl) rfl wq_1109 dX11_init_448 (wX11_o (by decide) hD n) (v := .ref (zad Z 79 0)) rfl ?_
    refine zn_iload_n C dX11_init_451 rfl ?_
    refine zn_aald C (t0 := 9) (ty := .array .int) (a := zad Z 80 n) (wX11_o (by decide) hA n) rfl rfl n2 (by rw [n3]; exact hn) (by rw [n3]; exact if_pos hn) dX11_init_452 ?_
    refine zn_iconst C dX11_init_453 (v := 5) (by decide) ?_
    refine zn_iconst C dX11_init_454 (v := -1) (by decide) ?_
    refine zn_iast C (k := 80) (i := n) (wX11_n (hB n hn) n (Nat.le_refl _)) (by decide) (by decide) dX11_init_455 ?_
    refine zn_iinc C (kk := 0) dX11_init_456 rfl n1 (by decide) rfl ?_
    refine zn_goto C dX11_init_459 (tgt := 441) (by decide) ?_
    exact ih (n + 1) (by omega)
def gX11 (Z : zLay) (D : zDm) : zDm := wX11 Z (zDu (eX11_48 Z D) 60 0 (.inr (11, fX11_48 Z))) 41
theorem gX11_o {Z : zLay} {D : zDm} {a b : Nat} {y : va_E} (w : a < 60 ∨ 118 < a) (h : D a b = some y) : gX11 Z D a b = some y := wX11_o (by omega) (zDu_o (by omega) (eX11_48_o w h)) _
theorem mX11 {l : Launch} {Z : zLay} {D : zDm} {n0 c0 : Nat} (hc : c0 = 344) : zMetN l yX11_init cX11_init 2 1 Z n0 c0 368 32691 [.ref (zad Z 60 0)] (zDu D 60 0 (.inr (11, fX11_0))) (gX11 Z D) := by
  subst hc
  exact zMetN_of (by decide +kernel) rfl (Nat.le_of_ble_eq_true rfl) [(0, .ref (zad Z 60 0))] rfl fun E h1 h2 C => sX11_0 C (Nat.le_refl _) rfl (sX11_4 C (Nat.le_refl _) rfl (sX11_15 C (Nat.le_refl _) rfl (sX11_23 C (Nat.le_refl _) rfl (sX11_31 C (Nat.le_refl _) rfl (sX11_39 C (Nat.le_refl _) rfl (sX11_47 C (Nat.le_refl _) rfl (sX11_55 C (Nat.le_refl _) rfl (sX11_63 C (Nat.le_refl _) rfl (sX11_71 C (Nat.le_refl _) rfl (sX11_79 C (Nat.le_refl _) rfl (sX11_90 C (Nat.le_refl _) rfl (sX11_98 C (Nat.le_refl _) rfl (sX11_106 C (Nat.le_refl _) rfl (sX11_114 C (Nat.le_refl _) rfl (sX11_122 C (Nat.le_refl _) rfl (sX11_130 C (Nat.le_refl _) rfl (sX11_138 C (Nat.le_refl _) rfl (sX11_150 C (Nat.le_refl _) rfl (sX11_162 C (Nat.le_refl _) rfl (sX11_174 C (Nat.le_refl _) rfl (sX11_186 C (Nat.le_refl _) rfl (sX11_193 C (Nat.le_refl _) rfl (sX11_200 C (Nat.le_refl _) rfl (sX11_207 C (Nat.le_refl _) rfl (sX11_214 C (Nat.le_refl _) rfl (sX11_227 C (Nat.le_refl _) rfl (sX11_235 C (Nat.le_refl _) rfl (sX11_243 C (Nat.le_refl _) rfl (sX11_251 C (Nat.le_refl _) rfl (sX11_263 C (Nat.le_refl _) rfl (sX11_275 C (Nat.le_refl _) rfl (sX11_283 C (Nat.le_refl _) rfl (sX11_288 C (Nat.le_refl _) rfl (sX11_296 C (Nat.le_refl _) rfl (sX11_304 C (Nat.le_refl _) rfl (sX11_323 C (Nat.le_refl _) rfl (sX11_328 C (Nat.le_refl _) rfl (sX11_347 C (Nat.le_refl _) rfl (sX11_354 C (Nat.le_refl _) rfl (sX11_365 C (Nat.le_refl _) rfl (sX11_376 C (Nat.le_refl _) rfl (sX11_384 C (Nat.le_refl _) rfl (sX11_392 C (Nat.le_refl _) rfl (sX11_400 C (Nat.le_refl _) rfl (sX11_407 C (Nat.le_refl _) rfl (sX11_414 C (Nat.le_refl _) rfl (sX11_425 C (Nat.le_refl _) rfl (sX11_432 C (Nat.le_refl _) rfl (zn_iconst C dX11_init_439 (v := nI 0) (by decide +kernel) (zn_istore_n C dX11_init_440 (i := 1) rfl (by decide) rfl (sX11_h80 C (zDu_i _ _ _ _) (zDu_o (by decide) pX11_79) (fun b hb => zDu_o (by decide) (pX11_80 hb)) (zn_ret C (by decide +kernel) h1 h2 rfl (Nat.le_refl _) dX11_init_462) 41 0 rfl)))))))))))))))))))))))))))))))))))))))))))))))))))
theorem qX11_62 {Z : zLay} {D : zDm} {b : Nat} (hb : b < 10) : gX11 Z D 62 b = some (.inl (zca Z 0, (5, .inl fun _ => 0))) := wX11_o (by decide) (zDu_o (by decide) (pX11_62 hb)) _
theorem qX11_61 {Z : zLay} {D : zDm} : gX11 Z D 61 0 = some (.inl (zca Z 9, 10, .inr (.inr (.inr (.inr (fun i => if i < 10 then some (zad Z 62 i) else none)))))) := wX11_o (by decide) (zDu_o (by decide) pX11_61) _
theorem qX11_63 {Z : zLay} {D : zDm} : gX11 Z D 63 0 = some (.inl (zca Z 0, 10, .inl fun _ => 0)) := wX11_o (by decide) (zDu_o (by decide) pX11_63) _
theorem qX11_64 {Z : zLay} {D : zDm} : gX11 Z D 64 0 = some (.inl (zca Z 0, 10, .inl fun _ => 0)) := wX11_o (by decide) (zDu_o (by decide) pX11_64) _
theorem qX11_65 {Z : zLay} {D : zDm} : gX11 Z D 65 0 = some (.inl (zca Z 0, 10, .inl fun _ => 0)) := wX11_o (by decide) (zDu_o (by decide) pX11_65) _
theorem qX11_66 {Z : zLay} {D : zDm} : gX11 Z D 66 0 = some (.inl (zca Z 0, 10, .inl fun _ => 0)) := wX11_o (by decide) (zDu_o (by decide) pX11_66) _
theorem qX11_67 {Z : zLay} {D : zDm} : gX11 Z D 67 0 = some (.inl (zca Z 0, 10, .inl fun _ => 0)) := wX11_o (by decide) (zDu_o (by decide) pX11_67) _
theorem qX11_68 {Z : zLay} {D : zDm} : gX11 Z D 68 0 = some (.inl (zca Z 0, 10, .inl fun _ => 0)) := wX11_o (by decide) (zDu_o (by decide) pX11_68) _
theorem qX11_69 {Z : zLay} {D : zDm} : gX11 Z D 69 0 = some (.inl (zca Z 0, 10, .inl fun _ => 0)) := wX11_o (by decide) (zDu_o (by decide) pX11_69) _
theorem qX11_70 {Z : zLay} {D : zDm} : gX11 Z D 70 0 = some (.inl (zca Z 0, 10, .inl fun _ => 0)) := wX11_o (by decide) (zDu_o (by decide) pX11_70) _
theorem qX11_72 {Z : zLay} {D : zDm} {b : Nat} (hb : b < 4) : gX11 Z D 72 b = some (.inl (zca Z 0, (10, .inl fun _ => 0))) := wX11_o (by decide) (zDu_o (by decide) (pX11_72 hb)) _
theorem qX11_71 {Z : zLay} {D : zDm} : gX11 Z D 71 0 = some (.inl (zca Z 9, 4, .inr (.inr (.inr (.inr (fun i => if i < 4 then some (zad Z 72 i) else none)))))) := wX11_o (by decide) (zDu_o (by decide) pX11_71) _
theorem qX11_73 {Z : zLay} {D : zDm} : gX11 Z D 73 0 = some (.inl (zca Z 0, 50, .inl fun _ => 0)) := wX11_o (by decide) (zDu_o (by decide) pX11_73) _
theorem qX11_74 {Z : zLay} {D : zDm} : gX11 Z D 74 0 = some (.inl (zca Z 0, 50, .inl fun _ => 0)) := wX11_o (by decide) (zDu_o (by decide) pX11_74) _
theorem qX11_75 {Z : zLay} {D : zDm} : gX11 Z D 75 0 = some (.inl (zca Z 0, 50, .inl fun _ => 0)) := wX11_o (by decide) (zDu_o (by decide) pX11_75) _
theorem qX11_76 {Z : zLay} {D : zDm} : gX11 Z D 76 0 = some (.inl (zca Z 0, 50, .inl fun _ => 0)) := wX11_o (by decide) (zDu_o (by decide) pX11_76) _
theorem qX11_77 {Z : zLay} {D : zDm} : gX11 Z D 77 0 = some (.inl (zca Z 0, 50, .inl fun _ => 0)) := wX11_o (by decide) (zDu_o (by decide) pX11_77) _
theorem qX11_78 {Z : zLay} {D : zDm} : gX11 Z D 78 0 = some (.inl (zca Z 0, 100, .inl fun _ => 0)) := wX11_o (by decide) (zDu_o (by decide) pX11_78) _
theorem qX11_80 {Z : zLay} {D : zDm} {b : Nat} (hb : b < 41) : gX11 Z D 80 b = some (.inl (zca Z 0, 6, .inl (fun j => if j = (5 : Int32).toNatClampNeg then -1 else 0))) := wX11_80 41 b hb
theorem qX11_79 {Z : zLay} {D : zDm} : gX11 Z D 79 0 = some (.inl (zca Z 9, 41, .inr (.inr (.inr (.inr (fun i => if i < 41 then some (zad Z 80 i) else none)))))) := wX11_o (by decide) (zDu_o (by decide) pX11_79) _
theorem qX11_82 {Z : zLay} {D : zDm} {b : Nat} (hb : b < 41) : gX11 Z D 82 b = some (.inl (zca Z 0, (24, .inl fun _ => 0))) := wX11_o (by decide) (zDu_o (by decide) (pX11_82 hb)) _
theorem qX11_81 {Z : zLay} {D : zDm} : gX11 Z D 81 0 = some (.inl (zca Z 9, 41, .inr (.inr (.inr (.inr (fun i => if i < 41 then some (zad Z 82 i) else none)))))) := wX11_o (by decide) (zDu_o (by decide) pX11_81) _
theorem qX11_84 {Z : zLay} {D : zDm} {b : Nat} (hb : b < 2) : gX11 Z D 84 b = some (.inl (zca Z 0, (7200, .inl fun _ => 0))) := wX11_o (by decide) (zDu_o (by decide) (pX11_84 hb)) _
theorem qX11_83 {Z : zLay} {D : zDm} : gX11 Z D 83 0 = some (.inl (zca Z 9, 2, .inr (.inr (.inr (.inr (fun i => if i < 2 then some (zad Z 84 i) else none)))))) := wX11_o (by decide) (zDu_o (by decide) pX11_83) _
theorem qX11_86 {Z : zLay} {D : zDm} {b : Nat} (hb : b < 2) : gX11 Z D 86 b = some (.inl (zca Z 4, (7200, .inl fun _ => 0))) := wX11_o (by decide) (zDu_o (by decide) (pX11_86 hb)) _
theorem qX11_85 {Z : zLay} {D : zDm} : gX11 Z D 85 0 = some (.inl (zca Z 11, 2, .inr (.inr (.inr (.inr (fun i => if i < 2 then some (zad Z 86 i) else none)))))) := wX11_o (by decide) (zDu_o (by decide) pX11_85) _
theorem qX11_87 {Z : zLay} {D : zDm} : gX11 Z D 87 0 = some (.inl (zca Z 0, 4, .inl fun _ => 0)) := wX11_o (by decide) (zDu_o (by decide) pX11_87) _
theorem qX11_88 {Z : zLay} {D : zDm} : gX11 Z D 88 0 = some (.inl (zca Z 0, 4, .inl fun _ => 0)) := wX11_o (by decide) (zDu_o (by decide) pX11_88) _
theorem qX11_89 {Z : zLay} {D : zDm} : gX11 Z D 89 0 = some (.inl (zca Z 0, 4, .inl fun _ => 0)) := wX11_o (by decide) (zDu_o (by decide) pX11_89) _
theorem qX11_90 {Z : zLay} {D : zDm} : gX11 Z D 90 0 = some (.inl (zca Z 0, 4, .inl fun _ => 0)) := wX11_o (by decide) (zDu_o (by decide) pX11_90) _
theorem qX11_92 {Z : zLay} {D : zDm} {b : Nat} (hb : b < 200) : gX11 Z D 92 b = some (.inl (zca Z 0, (6, .inl fun _ => 0))) := wX11_o (by decide) (zDu_o (by decide) (pX11_92 hb)) _
theorem qX11_91 {Z : zLay} {D : zDm} : gX11 Z D 91 0 = some (.inl (zca Z 9, 200, .inr (.inr (.inr (.inr (fun i => if i < 200 then some (zad Z 92 i) else none)))))) := wX11_o (by decide) (zDu_o (by decide) pX11_91) _
theorem qX11_93 {Z : zLay} {D : zDm} : gX11 Z D 93 0 = some (.inl (zca Z 0, 6, .inl fun _ => 0)) := wX11_o (by decide) (zDu_o (by decide) pX11_93) _
theorem qX11_94 {Z : zLay} {D : zDm} : gX11 Z D 94 0 = some (.inl (zca Z 4, 6, .inl fun _ => 0)) := wX11_o (by decide) (zDu_o (by decide) pX11_94) _
theorem qX11_95 {Z : zLay} {D : zDm} : gX11 Z D 95 0 = some (.inl (zca Z 0, 6, .inl fun _ => 0)) := wX11_o (by decide) (zDu_o (by decide) pX11_95) _
theorem qX11_97 {Z : zLay} {D : zDm} {b : Nat} (hb : b < 6) : gX11 Z D 97 b = some (.inl (zca Z 0, (8, .inl fun _ => 0))) := wX11_o (by decide) (zDu_o (by decide) (pX11_97 hb)) _
theorem qX11_96 {Z : zLay} {D : zDm} : gX11 Z D 96 0 = some (.inl (zca Z 9, 6, .inr (.inr (.inr (.inr (fun i => if i < 6 then some (zad Z 97 i) else none)))))) := wX11_o (by decide) (zDu_o (by decide) pX11_96) _
theorem qX11_99 {Z : zLay} {D : zDm} {b : Nat} (hb : b < 6) : gX11 Z D 99 b = some (.inl (zca Z 4, (8, .inl fun _ => 0))) := wX11_o (by decide) (zDu_o (by decide) (pX11_99 hb)) _
theorem qX11_98 {Z : zLay} {D : zDm} : gX11 Z D 98 0 = some (.inl (zca Z 11, 6, .inr (.inr (.inr (.inr (fun i => if i < 6 then some (zad Z 99 i) else none)))))) := wX11_o (by decide) (zDu_o (by decide) pX11_98) _
theorem qX11_100 {Z : zLay} {D : zDm} : gX11 Z D 100 0 = some (.inl (zca Z 0, 6, .inl fun _ => 0)) := wX11_o (by decide) (zDu_o (by decide) pX11_100) _
theorem qX11_101 {Z : zLay} {D : zDm} : gX11 Z D 101 0 = some (.inl (zca Z 0, 10, .inl fun _ => 0)) := wX11_o (by decide) (zDu_o (by decide) pX11_101) _
theorem qX11_102 {Z : zLay} {D : zDm} : gX11 Z D 102 0 = some (.inl (zca Z 0, 10, .inl fun _ => 0)) := wX11_o (by decide) (zDu_o (by decide) pX11_102) _
theorem qX11_103 {Z : zLay} {D : zDm} : gX11 Z D 103 0 = some (.inl (zca Z 0, 3, .inl (fun j => if j = (2 : Int32).toNatClampNeg then (-1) else (fun j => if j = (1 : Int32).toNatClampNeg then (-1) else (fun j => if j = (0 : Int32).toNatClampNeg then (-1) else 0) j) j))) := wX11_o (by decide) (zDu_o (by decide) pX11_103) _
theorem qX11_104 {Z : zLay} {D : zDm} : gX11 Z D 104 0 = some (.inl (zca Z 0, 3, .inl (fun j => if j = (2 : Int32).toNatClampNeg then (-1) else (fun j => if j = (1 : Int32).toNatClampNeg then (-1) else (fun j => if j = (0 : Int32).toNatClampNeg then (-1) else 0) j) j))) := wX11_o (by decide) (zDu_o (by decide) pX11_104) _
theorem qX11_105 {Z : zLay} {D : zDm} : gX11 Z D 105 0 = some (.inl (zca Z 0, 3, .inl fun _ => 0)) := wX11_o (by decide) (zDu_o (by decide) pX11_105) _
theorem qX11_107 {Z : zLay} {D : zDm} {b : Nat} (hb : b < 3) : gX11 Z D 107 b = some (.inl (zca Z 0, (60, .inl fun _ => 0))) := wX11_o (by decide) (zDu_o (by decide) (pX11_107 hb)) _
theorem qX11_106 {Z : zLay} {D : zDm} : gX11 Z D 106 0 = some (.inl (zca Z 9, 3, .inr (.inr (.inr (.inr (fun i => if i < 3 then some (zad Z 107 i) else none)))))) := wX11_o (by decide) (zDu_o (by decide) pX11_106) _
theorem qX11_109 {Z : zLay} {D : zDm} {b : Nat} (hb : b < 3) : gX11 Z D 109 b = some (.inl (zca Z 4, (60, .inl fun _ => 0))) := wX11_o (by decide) (zDu_o (by decide) (pX11_109 hb)) _
theorem qX11_108 {Z : zLay} {D : zDm} : gX11 Z D 108 0 = some (.inl (zca Z 11, 3, .inr (.inr (.inr (.inr (fun i => if i < 3 then some (zad Z 109 i) else none)))))) := wX11_o (by decide) (zDu_o (by decide) pX11_108) _
theorem qX11_110 {Z : zLay} {D : zDm} : gX11 Z D 110 0 = some (.inl (zca Z 0, 20, .inl fun _ => 0)) := wX11_o (by decide) (zDu_o (by decide) pX11_110) _
theorem qX11_111 {Z : zLay} {D : zDm} : gX11 Z D 111 0 = some (.inl (zca Z 0, 6, .inl fun _ => 0)) := wX11_o (by decide) (zDu_o (by decide) pX11_111) _
theorem qX11_112 {Z : zLay} {D : zDm} : gX11 Z D 112 0 = some (.inl (zca Z 0, 10, .inl fun _ => 0)) := wX11_o (by decide) (zDu_o (by decide) pX11_112) _
theorem qX11_113 {Z : zLay} {D : zDm} : gX11 Z D 113 0 = some (.inl (zca Z 0, 4, .inl fun _ => 0)) := wX11_o (by decide) (zDu_o (by decide) pX11_113) _
theorem qX11_114 {Z : zLay} {D : zDm} : gX11 Z D 114 0 = some (.inl (zca Z 0, 4, .inl fun _ => 0)) := wX11_o (by decide) (zDu_o (by decide) pX11_114) _
theorem qX11_116 {Z : zLay} {D : zDm} {b : Nat} (hb : b < 4) : gX11 Z D 116 b = some (.inl (zca Z 0, (10, .inl fun _ => 0))) := wX11_o (by decide) (zDu_o (by decide) (pX11_116 hb)) _
theorem qX11_115 {Z : zLay} {D : zDm} : gX11 Z D 115 0 = some (.inl (zca Z 9, 4, .inr (.inr (.inr (.inr (fun i => if i < 4 then some (zad Z 116 i) else none)))))) := wX11_o (by decide) (zDu_o (by decide) pX11_115) _
theorem qX11_117 {Z : zLay} {D : zDm} : gX11 Z D 117 0 = some (.inl (zca Z 0, 5, .inl fun _ => 0)) := wX11_o (by decide) (zDu_o (by decide) pX11_117) _
theorem qX11_118 {Z : zLay} {D : zDm} : gX11 Z D 118 0 = some (.inl (zca Z 0, 5, .inl fun _ => 0)) := wX11_o (by decide) (zDu_o (by decide) pX11_118) _
theorem qX11_60 {Z : zLay} {D : zDm} : gX11 Z D 60 0 = some (.inr (11, fX11_48 Z)) := wX11_o (by decide) (zDu_i _ _ _ _) _
end
section
/-! what the Statement gives of the start -/
theorem st_prim {args : Array Value} {s : State} {ty : FieldType} (h : (Cond.arrayClass ty).before args s = true) : ∃ cA : ClassId, ArrOfT s cA ty ∧ s.vm.findClass ("[" ++ ty.toString) = some cA := by
  obtain ⟨c, k, comp, h1, h2, h3⟩ := Cond.arrayClass_spec h
  exact ⟨c, fun n z => ⟨fun k h => (by cases h), k, h2, comp, h3⟩, h1⟩
theorem st_obj {s : State} {n : String} (h : (Cond.arrayOver (.object n)).before #[] s = true) : ∃ cA : ClassId, ArrOfT s cA (.object n) ∧ va_RA s cA (.object n) := by
  obtain ⟨comp, c, k, h1, h2, h3, h4, h5⟩ := Cond.arrayOver_spec h
  exact ⟨c, fun n z => ⟨fun k h => (by cases h), k, h3, comp, h4⟩, k, comp, h3, h4, h1, h5⟩
theorem st_arr {s : State} {ty : FieldType} (h : (Cond.arrayOver (.array ty)).before #[] s = true) : ∃ cA : ClassId, ArrOfT s cA (.array ty) ∧ va_RA s cA (.array ty) := by
  obtain ⟨comp, c, k, h1, h2, h3, h4, h5⟩ := arrayOverA_spec h
  exact ⟨c, fun n z => ⟨fun k h => (by cases h), k, h3, comp, h4⟩, h5⟩
theorem st_tb (i : Nat) {args : Array Value} {s : State} {w : Cond} (hts : ∀ w ∈ lw_tbl, w.before args s = true) (h : lw_tbl[i]? = some w) : w.before args s = true := hts w (List.mem_of_getElem? h)
theorem st_ov {args : Array Value} {s : State} (hts : ∀ w ∈ lw_tbl, w.before args s = true) : zOv s := fun t ht => by
  simp only [zOvL, List.mem_cons, List.not_mem_nil, or_false] at ht
  rcases ht with rfl | rfl | rfl | rfl | rfl | rfl | rfl
  · have h : (Cond.arrayOver (ClassFile.FieldType.object "AlpCommune$House")).before args s = true := st_tb 155 hts (by decide +kernel)
    exact h
  · have h : (Cond.arrayOver (ClassFile.FieldType.object "AlpCommune$Word")).before args s = true := st_tb 195 hts (by decide +kernel)
    exact h
  · have h : (Cond.arrayOver (ClassFile.FieldType.object "AlpCommune$Slope")).before args s = true := st_tb 349 hts (by decide +kernel)
    exact h
  · have h : (Cond.arrayOver (ClassFile.FieldType.object "AlpCommune$Sheet")).before args s = true := st_tb 427 hts (by decide +kernel)
    exact h
  · have h : (Cond.arrayOver (ClassFile.FieldType.array ClassFile.FieldType.int)).before args s = true := st_tb 279 hts (by decide +kernel)
    exact h
  · have h : (Cond.arrayOver (ClassFile.FieldType.array ClassFile.FieldType.short)).before args s = true := st_tb 277 hts (by decide +kernel)
    exact h
  · have h : (Cond.arrayOver (ClassFile.FieldType.array ClassFile.FieldType.boolean)).before args s = true := st_tb 1213 hts (by decide +kernel)
    exact h
theorem st_nw {args : Array Value} {s : State} (hts : ∀ w ∈ lw_tbl, w.before args s = true) : zNw s := by
  intro w hw
  have h1 : w.before args s = true := hts w (List.mem_append_right _ (List.mem_filter.mp hw).1)
  have h2 := (List.mem_filter.mp hw).2
  cases w <;> simp [zisNest] at h2
  · exact va_Nw.of rfl h1
  · exact va_Nw.of rfl h1
theorem st_TB {args : Array Value} {s : State} (hts : ∀ w ∈ lw_tbl, w.before args s = true) : ∀ w ∈ zTB, w.before args s = true := fun w hw => hts w (List.mem_filter.mp hw).1
def zTl : List FieldType := [.int, .long, .byte, .short, .boolean, .object "AlpCommune$House", .object "AlpCommune$Word", .object "AlpCommune$Slope", .object "AlpCommune$Sheet", .array .int, .array .short, .array .boolean]
theorem st_K {args : Array Value} {s : State} (hts : ∀ w ∈ lw_tbl, w.before args s = true) : ∃ (G : va_G) (ca : Nat → ClassId), ∀ (ad : Nat → Nat → Nat) (n : Nat) (xs : Nat → Int32), va_K G vwCl (zTys (G, ad, ca, n, xs)) s := by
  have h0 : ∀ c : Nat, ∃ r : ClassId × (Nat → Nat), ∀ q : vw_C, vwCl[c]? = some q → u_Kn s q.1 q.2.1 q.2.2 r.1 r.2 := by
    intro c
    match c with
    | 0 =>
      obtain ⟨a, f, h⟩ := u_known (ws := zTB) (C := RX0) (T := TX0) (N := 12) (n := 12) (st_TB hts) zin_X0 (st_tb 289 hts (by decide +kernel))
      exact ⟨(a, f), fun q hq => (by obtain rfl : (RX0, TX0, 12) = q := Option.some.inj hq; exact h)⟩
    | 1 =>
      obtain ⟨a, f, h⟩ := u_known (ws := zTB) (C := RX1) (T := TX1) (N := 3) (n := 3) (st_TB hts) zin_X1 (st_tb 408 hts (by decide +kernel))
      exact ⟨(a, f), fun q hq => (by obtain rfl : (RX1, TX1, 3) = q := Option.some.inj hq; exact h)⟩
    | 2 =>
      obtain ⟨a, f, h⟩ := u_known (ws := zTB) (C := RX2) (T := TX2) (N := 12) (n := 12) (st_TB hts) zin_X2 (st_tb 429 hts (by decide +kernel))
      exact ⟨(a, f), fun q hq => (by obtain rfl : (RX2, TX2, 12) = q := Option.some.inj hq; exact h)⟩
    | 3 =>
      obtain ⟨a, f, h⟩ := u_known (ws := zTB) (C := RX3) (T := TX3) (N := 6) (n := 6) (st_TB hts) zin_X3 (st_tb 157 hts (by decide +kernel))
      exact ⟨(a, f), fun q hq => (by obtain rfl : (RX3, TX3, 6) = q := Option.some.inj hq; exact h)⟩
    | 4 =>
      obtain ⟨a, f, h⟩ := u_known (ws := zTB) (C := RX4) (T := TX4) (N := 3) (n := 3) (st_TB hts) zin_X4 (st_tb 480 hts (by decide +kernel))
      exact ⟨(a, f), fun q hq => (by obtain rfl : (RX4, TX4, 3) = q := Option.some.inj hq; exact h)⟩
    | 5 =>
      obtain ⟨a, f, h⟩ := u_known (ws := zTB) (C := RX5) (T := TX5) (N := 2) (n := 2) (st_TB hts) zin_X5 (st_tb 271 hts (by decide +kernel))
      exact ⟨(a, f), fun q hq => (by obtain rfl : (RX5, TX5, 2) = q := Option.some.inj hq; exact h)⟩
    | 6 =>
      obtain ⟨a, f, h⟩ := u_known (ws := zTB) (C := RX6) (T := TX6) (N := 6) (n := 6) (st_TB hts) zin_X6 (st_tb 350 hts (by decide +kernel))
      exact ⟨(a, f), fun q hq => (by obtain rfl : (RX6, TX6, 6) = q := Option.some.inj hq; exact h)⟩
    | 7 =>
      obtain ⟨a, f, h⟩ := u_known (ws := zTB) (C := RX7) (T := TX7) (N := 7) (n := 7) (st_TB hts) zin_X7 (st_tb 343 hts (by decide +kernel))
      exact ⟨(a, f), fun q hq => (by obtain rfl : (RX7, TX7, 7) = q := Option.some.inj hq; exact h)⟩
    | 8 =>
      obtain ⟨a, f, h⟩ := u_known (ws := zTB) (C := RX8) (T := TX8) (N := 12) (n := 12) (st_TB hts) zin_X8 (st_tb 196 hts (by decide +kernel))
      exact ⟨(a, f), fun q hq => (by obtain rfl : (RX8, TX8, 12) = q := Option.some.inj hq; exact h)⟩
    | 9 =>
      obtain ⟨a, f, h⟩ := u_known (ws := zTB) (C := RX9) (T := TX9) (N := 5) (n := 5) (st_TB hts) zin_X9 (st_tb 189 hts (by decide +kernel))
      exact ⟨(a, f), fun q hq => (by obtain rfl : (RX9, TX9, 5) = q := Option.some.inj hq; exact h)⟩
    | 10 =>
      obtain ⟨a, f, h⟩ := u_known (ws := zTB) (C := RX10) (T := TX10) (N := 18) (n := 18) (st_TB hts) zin_X10 (st_tb 147 hts (by decide +kernel))
      exact ⟨(a, f), fun q hq => (by obtain rfl : (RX10, TX10, 18) = q := Option.some.inj hq; exact h)⟩
    | 11 =>
      obtain ⟨a, f, h⟩ := u_known (ws := zTB) (C := RX11) (T := TX11) (N := 68) (n := 68) (st_TB hts) zin_X11 (st_tb 1206 hts (by decide +kernel))
      exact ⟨(a, f), fun q hq => (by obtain rfl : (RX11, TX11, 68) = q := Option.some.inj hq; exact h)⟩
    | n + 12 => exact ⟨((0 : Nat), fun _ => 0), fun q hq => (by cases hq)⟩
  have h1 : ∀ c : Nat, ∃ r : ClassId, ∀ q : FieldType, zTl[c]? = some q → ArrOfT s r q ∧ va_RA s r q := by
    intro c
    match c with
    | 0 =>
      obtain ⟨a, h1, h2⟩ := st_prim (s := s) (ty := .int) (st_tb 187 hts (by decide +kernel))
      exact ⟨a, fun q hq => (by obtain rfl : FieldType.int = q := Option.some.inj hq; exact ⟨h1, h2⟩)⟩
    | 1 =>
      obtain ⟨a, h1, h2⟩ := st_prim (s := s) (ty := .long) (st_tb 497 hts (by decide +kernel))
      exact ⟨a, fun q hq => (by obtain rfl : FieldType.long = q := Option.some.inj hq; exact ⟨h1, h2⟩)⟩
    | 2 =>
      obtain ⟨a, h1, h2⟩ := st_prim (s := s) (ty := .byte) (st_tb 249 hts (by decide +kernel))
      exact ⟨a, fun q hq => (by obtain rfl : FieldType.byte = q := Option.some.inj hq; exact ⟨h1, h2⟩)⟩
    | 3 =>
      obtain ⟨a, h1, h2⟩ := st_prim (s := s) (ty := .short) (st_tb 287 hts (by decide +kernel))
      exact ⟨a, fun q hq => (by obtain rfl : FieldType.short = q := Option.some.inj hq; exact ⟨h1, h2⟩)⟩
    | 4 =>
      obtain ⟨a, h1, h2⟩ := st_prim (s := s) (ty := .boolean) (st_tb 250 hts (by decide +kernel))
      exact ⟨a, fun q hq => (by obtain rfl : FieldType.boolean = q := Option.some.inj hq; exact ⟨h1, h2⟩)⟩
    | 5 =>
      obtain ⟨a, h⟩ := st_obj (st_ov hts _ (by unfold zOvL; simp : FieldType.object "AlpCommune$House" ∈ zOvL))
      exact ⟨a, fun q hq => (by obtain rfl : FieldType.object "AlpCommune$House" = q := Option.some.inj hq; exact h)⟩
    | 6 =>
      obtain ⟨a, h⟩ := st_obj (st_ov hts _ (by unfold zOvL; simp : FieldType.object "AlpCommune$Word" ∈ zOvL))
      exact ⟨a, fun q hq => (by obtain rfl : FieldType.object "AlpCommune$Word" = q := Option.some.inj hq; exact h)⟩
    | 7 =>
      obtain ⟨a, h⟩ := st_obj (st_ov hts _ (by unfold zOvL; simp : FieldType.object "AlpCommune$Slope" ∈ zOvL))
      exact ⟨a, fun q hq => (by obtain rfl : FieldType.object "AlpCommune$Slope" = q := Option.some.inj hq; exact h)⟩
    | 8 =>
      obtain ⟨a, h⟩ := st_obj (st_ov hts _ (by unfold zOvL; simp : FieldType.object "AlpCommune$Sheet" ∈ zOvL))
      exact ⟨a, fun q hq => (by obtain rfl : FieldType.object "AlpCommune$Sheet" = q := Option.some.inj hq; exact h)⟩
    | 9 =>
      obtain ⟨a, h⟩ := st_arr (st_ov hts _ (by unfold zOvL; simp : FieldType.array .int ∈ zOvL))
      exact ⟨a, fun q hq => (by obtain rfl : FieldType.array .int = q := Option.some.inj hq; exact h)⟩
    | 10 =>
      obtain ⟨a, h⟩ := st_arr (st_ov hts _ (by unfold zOvL; simp : FieldType.array .short ∈ zOvL))
      exact ⟨a, fun q hq => (by obtain rfl : FieldType.array .short = q := Option.some.inj hq; exact h)⟩
    | 11 =>
      obtain ⟨a, h⟩ := st_arr (st_ov hts _ (by unfold zOvL; simp : FieldType.array .boolean ∈ zOvL))
      exact ⟨a, fun q hq => (by obtain rfl : FieldType.array .boolean = q := Option.some.inj hq; exact h)⟩
    | n + 12 => exact ⟨(0 : Nat), fun q hq => (by cases hq)⟩
  obtain ⟨r, hr⟩ := Classical.axiomOfChoice h0
  obtain ⟨ca, hca⟩ := Classical.axiomOfChoice h1
  refine ⟨(fun c => (r c).1, fun c => (r c).2), ca, fun ad n xs => ⟨fun c q hq => hr c q hq, fun k q hq => ?_⟩⟩
  have e : ∀ k : Nat, (zTys ((fun c => (r c).1, fun c => (r c).2), ad, ca, n, xs))[k]? = (zTl[k]?).map fun t => (ca k, t) := by
    intro k
    match k with
    | 0 => rfl
    | 1 => rfl
    | 2 => rfl
    | 3 => rfl
    | 4 => rfl
    | 5 => rfl
    | 6 => rfl
    | 7 => rfl
    | 8 => rfl
    | 9 => rfl
    | 10 => rfl
    | 11 => rfl
    | n + 12 => rfl
  rw [e k, Option.map_eq_some_iff] at hq
  obtain ⟨t, h2, rfl⟩ := hq
  exact hca k t h2
end
section
/-! what the Statement gives of the static arrays and of the String constants -/
def zFl : List Cond := flatC (Jvm.Cond.and given_1 narrow_1)
def ztm (i : Nat) : Term := .string (zStr.getD i ("", 0, "", 0)).1 (zStr.getD i ("", 0, "", 0)).2.1
theorem st_f1 : ∀ q ∈ zStat, Cond.arrayOf (.static q.1 q.2.1 "[I") .int ∈ zFl := by decide +kernel
theorem st_f2 : ∀ q ∈ zStat, Cond.eq (.length (.static q.1 q.2.1 "[I")) (.int (Int32.ofNat q.2.2.2.length)) ∈ zFl := by decide +kernel
theorem st_f3 : ∀ q ∈ zStat, ∀ j, j < q.2.2.2.length → Cond.eq (.elem (.static q.1 q.2.1 "[I") (.int (Int32.ofNat j))) (.int (q.2.2.2.getD j 0)) ∈ zFl := by decide +kernel
theorem st_f4 : ∀ q ∈ zStat, Cond.laysStatic q.1 q.2.1 "[I" ∈ lw_tbl := by decide +kernel
theorem st_f5 : ∀ q ∈ zStat, Cond.initialized q.1 ∈ lw_tbl := by decide +kernel
theorem st_f6 : ∀ q ∈ zStat, q.2.2.2.length < 2 ^ 31 := by decide +kernel
theorem st_f7 : ∀ q ∈ zStat, zStat.find? (fun x => x.2.2.1 == q.2.2.1) = some q := by decide +kernel
def zSw1 (i : Nat) : List Cond := [Cond.exactly (ztm i) "java/lang/String", Cond.eq (.field (ztm i) "java/lang/String" "coder" "B") (.int 0), Cond.arrayOf (.field (ztm i) "java/lang/String" "value" "[B") .byte, Cond.eq (.length (.field (ztm i) "java/lang/String" "value" "[B")) (.int (Int32.ofNat (zSlen.getD i 0)))]
def zSw2 (i : Nat) : List Cond := (List.range (zSlen.getD i 0)).map fun j => Cond.eq (.elem (.field (ztm i) "java/lang/String" "value" "[B") (.int (Int32.ofNat j))) (.int ((zSbyt.getD i []).getD j 0))
theorem st_sw : (zFl.drop 126).take 327 = (List.range 28).flatMap (fun i => zSw1 i ++ zSw2 i) := by decide +kernel
theorem st_sm {i : Nat} (hi : i < 28) {w : Cond} (h : w ∈ zSw1 i ++ zSw2 i) : w ∈ zFl := by
  refine List.mem_of_mem_drop (i := 126) (List.mem_of_mem_take (i := 327) ?_)
  rw [st_sw]
  exact List.mem_flatMap.mpr ⟨i, List.mem_range.mpr hi, h⟩
theorem st_s1 (i : Nat) (hi : i < 28) : Cond.exactly (ztm i) "java/lang/String" ∈ zFl := st_sm hi (List.mem_append_left _ (List.mem_of_getElem? (i := 0) rfl))
theorem st_s2 (i : Nat) (hi : i < 28) : Cond.eq (.field (ztm i) "java/lang/String" "coder" "B") (.int 0) ∈ zFl := st_sm hi (List.mem_append_left _ (List.mem_of_getElem? (i := 1) rfl))
theorem st_s3 (i : Nat) (hi : i < 28) : Cond.arrayOf (.field (ztm i) "java/lang/String" "value" "[B") .byte ∈ zFl := st_sm hi (List.mem_append_left _ (List.mem_of_getElem? (i := 2) rfl))
theorem st_s4 (i : Nat) (hi : i < 28) : Cond.eq (.length (.field (ztm i) "java/lang/String" "value" "[B")) (.int (Int32.ofNat (zSlen.getD i 0))) ∈ zFl := st_sm hi (List.mem_append_left _ (List.mem_of_getElem? (i := 3) rfl))
theorem st_s5 (i : Nat) (hi : i < 28) (j : Nat) (hj : j < zSlen.getD i 0) : Cond.eq (.elem (.field (ztm i) "java/lang/String" "value" "[B") (.int (Int32.ofNat j))) (.int ((zSbyt.getD i []).getD j 0)) ∈ zFl := st_sm hi (List.mem_append_right _ (List.mem_map.mpr ⟨j, List.mem_range.mpr hj, rfl⟩))
theorem st_s6 : ∀ i, i < 28 → zSlen.getD i 0 < 2 ^ 31 := by decide +kernel
theorem st_s7 : ∀ i, i < 28 → ∀ j, j < 28 → Int32.ofNat (zSlen.getD i 0) = Int32.ofNat (zSlen.getD j 0) → zSlen.getD i 0 = zSlen.getD j 0 := by decide +kernel
theorem st_s8 : ∀ i, i < 28 → ∀ j, j < 28 → zSlen.getD i 0 = zSlen.getD j 0 → (∀ k, k < zSlen.getD i 0 → (zSbyt.getD i []).getD k 0 = (zSbyt.getD j []).getD k 0) → i = j := by decide +kernel
theorem st_s9 : ∀ q ∈ zStr, ztm q.2.2.2 = .string q.1 q.2.1 ∧ q.2.2.2 < 28 ∧ Cond.stringRef q.1 q.2.1 q.2.2.1 ∈ lw_tbl := by decide +kernel
theorem st_c1 : Cond.eq (.static "java/lang/String" "COMPACT_STRINGS" "Z") (.int 1) ∈ zFl ∧ Cond.isRef (.static "jdk/internal/util/Preconditions" "SIOOBE_FORMATTER" "Ljava/util/function/BiFunction;") ∈ zFl := by decide +kernel
theorem st_c2 : Cond.laysStatic "java/lang/String" "COMPACT_STRINGS" "Z" ∈ lw_tbl ∧ Cond.initialized "java/lang/String" ∈ lw_tbl ∧ Cond.laysStatic "jdk/internal/util/Preconditions" "SIOOBE_FORMATTER" "Ljava/util/function/BiFunction;" ∈ lw_tbl ∧ Cond.initialized "jdk/internal/util/Preconditions" ∈ lw_tbl := by decide +kernel
section ST
variable {args : Array Value} {s : State}
theorem st_stat (hs : ∀ w ∈ zFl, w.before args s = true) (hts : ∀ w ∈ lw_tbl, w.before args s = true) : ∃ t : Nat → Nat, ∀ q ∈ zStat, va_Z q.1 q.2.1 "[I" (.ref (t q.2.2.1)) (zNA s.heap.size) s s.heap ∧ va_T .int (t q.2.2.1) q.2.2.2.length (fun j => .int (q.2.2.2.getD j 0)) (zNA s.heap.size) s s.heap := by
  have hA : ∀ a : Nat, a < s.heap.size → ¬ zNA s.heap.size a := fun a h => Nat.not_le.mpr h
  have h0 : ∀ q : String × String × Nat × List Int32, ∃ t : Nat, q ∈ zStat → va_Z q.1 q.2.1 "[I" (.ref t) (zNA s.heap.size) s s.heap ∧ va_T .int t q.2.2.2.length (fun j => .int (q.2.2.2.getD j 0)) (zNA s.heap.size) s s.heap := by
    intro q
    by_cases hq : q ∈ zStat
    · obtain ⟨t, ht, hT⟩ := va_Tof (f := fun j => .int (q.2.2.2.getD j 0)) (A := zNA s.heap.size) (st_f6 q hq) (hs _ (st_f1 q hq)) (va_eqt (hs _ (st_f2 q hq))) (fun j hj => va_eqt (hs _ (st_f3 q hq j hj))) hA
      exact ⟨t, fun _ => ⟨va_Zref (hts _ (st_f4 q hq)) (hts _ (st_f5 q hq)) ht hA, hT⟩⟩
    · exact ⟨0, fun h => absurd h hq⟩
  obtain ⟨f, hf⟩ := Classical.axiomOfChoice h0
  refine ⟨fun k => ((zStat.find? (fun x => x.2.2.1 == k)).map f).getD 0, fun q hq => ?_⟩
  have e : ((zStat.find? (fun x => x.2.2.1 == q.2.2.1)).map f).getD 0 = f q := by rw [st_f7 q hq]; rfl
  show va_Z _ _ _ (.ref (((zStat.find? (fun x => x.2.2.1 == q.2.2.1)).map f).getD 0)) _ _ _ ∧ va_T _ (((zStat.find? (fun x => x.2.2.1 == q.2.2.1)).map f).getD 0) _ _ _ _ _
  rw [e]
  exact hf q hq
theorem st_str (hs : ∀ w ∈ zFl, w.before args s = true) (hts : ∀ w ∈ lw_tbl, w.before args s = true) : ∃ adK adV : Nat → Nat, vk_S zSn zSlen zSbyt adK adV (zNA s.heap.size) s s.heap ∧ ∀ q ∈ zStr, vk_R q.1 q.2.1 q.2.2.1 (adK q.2.2.2) s := by
  have hA : ∀ a : Nat, a < s.heap.size → ¬ zNA s.heap.size a := fun a h => Nat.not_le.mpr h
  have h0 : ∀ i : Nat, ∃ q : Nat × Nat, i < 28 → (ztm i).eval args s none [] s = some (.ref q.1) ∧ va_O "java/lang/String" q.1 (zNA s.heap.size) s s.heap ∧ va_OF "java/lang/String" "coder" "B" (.int 0) q.1 (zNA s.heap.size) s s.heap ∧ va_OF "java/lang/String" "value" "[B" (.ref q.2) q.1 (zNA s.heap.size) s s.heap ∧ va_T .byte q.2 (zSlen.getD i 0) (fun j => .int ((zSbyt.getD i []).getD j 0)) (zNA s.heap.size) s s.heap := by
    intro i
    by_cases hi : i < 28
    · obtain ⟨a, c, cA, kA, q1, q2, q3, q4, q5, q6, -⟩ := Cond.exactly_spec (args := args) (first := s) (o := none) (s := s) (idx := []) (t := ztm i) (cls := "java/lang/String") (hs _ (st_s1 i hi))
      obtain ⟨t, ht, hT⟩ := va_Tof (f := fun j => .int ((zSbyt.getD i []).getD j 0)) (A := zNA s.heap.size) (st_s6 i hi) (hs _ (st_s3 i hi)) (va_eqt (hs _ (st_s4 i hi))) (fun j hj => va_eqt (hs _ (st_s5 i hi j hj))) hA
      exact ⟨(a, t), fun _ => ⟨q1, ⟨cA, q3, q5, by rw [q6]; exact q2, hA a (Array.getElem?_eq_some_iff.mp q3).1⟩, vk_OFof q1 (va_eqt (hs _ (st_s2 i hi))) hA, vk_OFof q1 ht hA, hT⟩⟩
    · exact ⟨(0, 0), fun h => absurd h hi⟩
  obtain ⟨ad, had⟩ := Classical.axiomOfChoice h0
  refine ⟨fun i => (ad i).1, fun i => (ad i).2, ⟨fun i hi => (had i hi).2, fun i j hi hj e => ?_⟩, fun q hq => ?_⟩
  · obtain ⟨-, -, -, v1, t1⟩ := had i hi
    obtain ⟨-, -, -, v2, t2⟩ := had j hj
    have e : (ad i).1 = (ad j).1 := e
    rw [e] at v1
    obtain ⟨cf, k, fi, f, cell, a1, a2, a3, a4, a5, a6⟩ := v1
    obtain ⟨cf', k', fi', f', cell', b1, b2, b3, b4, b5, b6⟩ := v2
    cases a1.symm.trans b1
    cases a3.symm.trans b3
    have ev : (ad i).2 = (ad j).2 := by
      have h9 := a5.symm.trans b5
      injection h9 with h9
      injection h9 with h9
    rw [ev] at t1
    obtain ⟨c1, d1, d2, d3, d4, d5, d6, d7⟩ := t1
    obtain ⟨c2, g1, g2, g3, g4, g5, g6, g7⟩ := t2
    cases d1.symm.trans g1
    have el := st_s7 i hi j hj (d5.symm.trans g5)
    refine st_s8 i hi j hj el (fun m hm => ?_)
    have h9 := (d6 m hm).symm.trans (g6 m (by rw [← el]; exact hm))
    injection h9 with h9
    injection h9 with h9
  · obtain ⟨r1, r2, r3⟩ := st_s9 q hq
    refine vk_R.of (hts _ r3) ?_
    rw [← r1]
    exact (had _ r2).1
end ST
end
section
/-! the memory as the constructors leave it -/
def zD0 : zDm := fun _ _ => none
def zDfin (Z : zLay) : zDm := gX11 Z (gX10 Z zD0)
def zs0 (k : Nat) : Nat → Int32 := match k with
  | 0 => fun j => if j = 13 then (-1) else 0
  | 47 => fun j => if j = 0 then (-1) else 0
  | 51 => fun j => if j = (2 : Int32).toNatClampNeg then (-1) else (fun j => if j = (1 : Int32).toNatClampNeg then (-1) else (fun j => if j = (0 : Int32).toNatClampNeg then (-1) else 0) j) j
  | 60 => fun j => if j = 11 then 71 else if j = 28 then 89 else if j = 29 then 90 else if j = 43 then (-1) else if j = 51 then (-1) else 0
  | 80 => fun j => if j = (5 : Int32).toNatClampNeg then -1 else 0
  | 103 => fun j => if j = (2 : Int32).toNatClampNeg then (-1) else (fun j => if j = (1 : Int32).toNatClampNeg then (-1) else (fun j => if j = (0 : Int32).toNatClampNeg then (-1) else 0) j) j
  | 104 => fun j => if j = (2 : Int32).toNatClampNeg then (-1) else (fun j => if j = (1 : Int32).toNatClampNeg then (-1) else (fun j => if j = (0 : Int32).toNatClampNeg then (-1) else 0) j) j
  | 999 => fun _ => nI 512
  | _ => fun _ => 0
def zsig : zMem := (fun k _ => zs0 k, fun _ _ _ => 0)
theorem arrV_lt (c : ClassId) {N : Nat} {f g : Nat → Value} (h : ∀ j, j < N → f j = g j) : arrV c N f = arrV c N g := by
  unfold arrV
  congr 2
  funext j
  exact h j.1 j.2
theorem va_at_q {D : va_G} {cl : List vw_C} {a N : Nat} {c : ClassId} {f g : Nat → Option Nat} {H : Heap} (ha : va_at D cl (a, .inl (c, N, .inr (.inr (.inr (.inr f))))) H) (h : ∀ j, j < N → f j = g j) : va_at D cl (a, .inl (c, N, .inr (.inr (.inr (.inr g))))) H := by
  show H[a]? = some (vp_cell c (N, .inr (.inr (.inr (.inr g)))))
  rw [vp_cell_q, ← arrV_lt c (f := fun j => va_rf (f j)) (fun j hj => by show va_rf (f j) = va_rf (g j); rw [h j hj])]
  exact ha
theorem w0_0 {Z : zLay} {H : Heap} (hD : zWD Z (zDfin Z) H) {i : Nat} (hi : i < zN 0) : va_at Z.1 vwCl (zad Z 0 i, zE Z 0 i (zsig.1 0 i) (zsig.2 0 i)) H := by
  obtain rfl : i = 0 := Nat.lt_one_iff.mp hi
  exact (hD 0 _ _ (gX11_o (by decide) (qX10_0))).2
theorem w0_1 {Z : zLay} {H : Heap} (hD : zWD Z (zDfin Z) H) {i : Nat} (hi : i < zN 1) : va_at Z.1 vwCl (zad Z 1 i, zE Z 1 i (zsig.1 1 i) (zsig.2 1 i)) H := by
  obtain rfl : i = 0 := Nat.lt_one_iff.mp hi
  exact va_at_q (hD 1 _ _ (gX11_o (by decide) (qX10_1))).2 (fun j hj => zfill_at Z _ _ j hj)
theorem w0_2 {Z : zLay} {H : Heap} (hD : zWD Z (zDfin Z) H) {i : Nat} (hi : i < zN 2) : va_at Z.1 vwCl (zad Z 2 i, zE Z 2 i (zsig.1 2 i) (zsig.2 2 i)) H := by
  exact (hD 2 _ _ (gX11_o (by decide) (qX10_2 hi))).2
theorem w0_3 {Z : zLay} {H : Heap} (hD : zWD Z (zDfin Z) H) {i : Nat} (hi : i < zN 3) : va_at Z.1 vwCl (zad Z 3 i, zE Z 3 i (zsig.1 3 i) (zsig.2 3 i)) H := by
  exact (hD 3 _ _ (gX11_o (by decide) (qX10_3 hi))).2
theorem w0_4 {Z : zLay} {H : Heap} (hD : zWD Z (zDfin Z) H) {i : Nat} (hi : i < zN 4) : va_at Z.1 vwCl (zad Z 4 i, zE Z 4 i (zsig.1 4 i) (zsig.2 4 i)) H := by
  exact (hD 4 _ _ (gX11_o (by decide) (qX10_4 hi))).2
theorem w0_5 {Z : zLay} {H : Heap} (hD : zWD Z (zDfin Z) H) {i : Nat} (hi : i < zN 5) : va_at Z.1 vwCl (zad Z 5 i, zE Z 5 i (zsig.1 5 i) (zsig.2 5 i)) H := by
  obtain rfl : i = 0 := Nat.lt_one_iff.mp hi
  exact (hD 5 _ _ (gX11_o (by decide) (qX10_5))).2
theorem w0_6 {Z : zLay} {H : Heap} (hD : zWD Z (zDfin Z) H) {i : Nat} (hi : i < zN 6) : va_at Z.1 vwCl (zad Z 6 i, zE Z 6 i (zsig.1 6 i) (zsig.2 6 i)) H := by
  obtain rfl : i = 0 := Nat.lt_one_iff.mp hi
  exact (hD 6 _ _ (gX11_o (by decide) (qX10_6))).2
theorem w0_7 {Z : zLay} {H : Heap} (hD : zWD Z (zDfin Z) H) {i : Nat} (hi : i < zN 7) : va_at Z.1 vwCl (zad Z 7 i, zE Z 7 i (zsig.1 7 i) (zsig.2 7 i)) H := by
  obtain rfl : i = 0 := Nat.lt_one_iff.mp hi
  exact (hD 7 _ _ (gX11_o (by decide) (qX10_7))).2
theorem w0_8 {Z : zLay} {H : Heap} (hD : zWD Z (zDfin Z) H) {i : Nat} (hi : i < zN 8) : va_at Z.1 vwCl (zad Z 8 i, zE Z 8 i (zsig.1 8 i) (zsig.2 8 i)) H := by
  obtain rfl : i = 0 := Nat.lt_one_iff.mp hi
  exact (hD 8 _ _ (gX11_o (by decide) (qX10_8))).2
theorem w0_9 {Z : zLay} {H : Heap} (hD : zWD Z (zDfin Z) H) {i : Nat} (hi : i < zN 9) : va_at Z.1 vwCl (zad Z 9 i, zE Z 9 i (zsig.1 9 i) (zsig.2 9 i)) H := by
  obtain rfl : i = 0 := Nat.lt_one_iff.mp hi
  exact (hD 9 _ _ (gX11_o (by decide) (qX10_9))).2
theorem w0_10 {Z : zLay} {H : Heap} (hD : zWD Z (zDfin Z) H) {i : Nat} (hi : i < zN 10) : va_at Z.1 vwCl (zad Z 10 i, zE Z 10 i (zsig.1 10 i) (zsig.2 10 i)) H := by
  obtain rfl : i = 0 := Nat.lt_one_iff.mp hi
  exact (hD 10 _ _ (gX11_o (by decide) (qX10_10))).2
theorem w0_11 {Z : zLay} {H : Heap} (hD : zWD Z (zDfin Z) H) {i : Nat} (hi : i < zN 11) : va_at Z.1 vwCl (zad Z 11 i, zE Z 11 i (zsig.1 11 i) (zsig.2 11 i)) H := by
  obtain rfl : i = 0 := Nat.lt_one_iff.mp hi
  exact (hD 11 _ _ (gX11_o (by decide) (qX10_11))).2
theorem w0_12 {Z : zLay} {H : Heap} (hD : zWD Z (zDfin Z) H) {i : Nat} (hi : i < zN 12) : va_at Z.1 vwCl (zad Z 12 i, zE Z 12 i (zsig.1 12 i) (zsig.2 12 i)) H := by
  obtain rfl : i = 0 := Nat.lt_one_iff.mp hi
  exact va_at_q (hD 12 _ _ (gX11_o (by decide) (qX10_12))).2 (fun j hj => zfill_at Z _ _ j hj)
theorem w0_13 {Z : zLay} {H : Heap} (hD : zWD Z (zDfin Z) H) {i : Nat} (hi : i < zN 13) : va_at Z.1 vwCl (zad Z 13 i, zE Z 13 i (zsig.1 13 i) (zsig.2 13 i)) H := by
  exact (hD 13 _ _ (gX11_o (by decide) (qX10_13 hi))).2
theorem w0_14 {Z : zLay} {H : Heap} (hD : zWD Z (zDfin Z) H) {i : Nat} (hi : i < zN 14) : va_at Z.1 vwCl (zad Z 14 i, zE Z 14 i (zsig.1 14 i) (zsig.2 14 i)) H := by
  exact (hD 14 _ _ (gX11_o (by decide) (qX10_14 hi))).2
theorem w0_15 {Z : zLay} {H : Heap} (hD : zWD Z (zDfin Z) H) {i : Nat} (hi : i < zN 15) : va_at Z.1 vwCl (zad Z 15 i, zE Z 15 i (zsig.1 15 i) (zsig.2 15 i)) H := by
  exact (hD 15 _ _ (gX11_o (by decide) (qX10_15 hi))).2
theorem w0_16 {Z : zLay} {H : Heap} (hD : zWD Z (zDfin Z) H) {i : Nat} (hi : i < zN 16) : va_at Z.1 vwCl (zad Z 16 i, zE Z 16 i (zsig.1 16 i) (zsig.2 16 i)) H := by
  exact (hD 16 _ _ (gX11_o (by decide) (qX10_16 hi))).2
theorem w0_17 {Z : zLay} {H : Heap} (hD : zWD Z (zDfin Z) H) {i : Nat} (hi : i < zN 17) : va_at Z.1 vwCl (zad Z 17 i, zE Z 17 i (zsig.1 17 i) (zsig.2 17 i)) H := by
  exact (hD 17 _ _ (gX11_o (by decide) (qX10_17 hi))).2
theorem w0_18 {Z : zLay} {H : Heap} (hD : zWD Z (zDfin Z) H) {i : Nat} (hi : i < zN 18) : va_at Z.1 vwCl (zad Z 18 i, zE Z 18 i (zsig.1 18 i) (zsig.2 18 i)) H := by
  exact (hD 18 _ _ (gX11_o (by decide) (qX10_18 hi))).2
theorem w0_19 {Z : zLay} {H : Heap} (hD : zWD Z (zDfin Z) H) {i : Nat} (hi : i < zN 19) : va_at Z.1 vwCl (zad Z 19 i, zE Z 19 i (zsig.1 19 i) (zsig.2 19 i)) H := by
  obtain rfl : i = 0 := Nat.lt_one_iff.mp hi
  exact (hD 19 _ _ (gX11_o (by decide) (qX10_19))).2
theorem w0_20 {Z : zLay} {H : Heap} (hD : zWD Z (zDfin Z) H) {i : Nat} (hi : i < zN 20) : va_at Z.1 vwCl (zad Z 20 i, zE Z 20 i (zsig.1 20 i) (zsig.2 20 i)) H := by
  obtain rfl : i = 0 := Nat.lt_one_iff.mp hi
  exact (hD 20 _ _ (gX11_o (by decide) (qX10_20))).2
theorem w0_21 {Z : zLay} {H : Heap} (hD : zWD Z (zDfin Z) H) {i : Nat} (hi : i < zN 21) : va_at Z.1 vwCl (zad Z 21 i, zE Z 21 i (zsig.1 21 i) (zsig.2 21 i)) H := by
  obtain rfl : i = 0 := Nat.lt_one_iff.mp hi
  exact va_at_q (hD 21 _ _ (gX11_o (by decide) (qX10_21))).2 (fun j hj => if_pos hj)
theorem w0_22 {Z : zLay} {H : Heap} (hD : zWD Z (zDfin Z) H) {i : Nat} (hi : i < zN 22) : va_at Z.1 vwCl (zad Z 22 i, zE Z 22 i (zsig.1 22 i) (zsig.2 22 i)) H := by
  exact (hD 22 _ _ (gX11_o (by decide) (qX10_22 hi))).2
theorem w0_23 {Z : zLay} {H : Heap} (hD : zWD Z (zDfin Z) H) {i : Nat} (hi : i < zN 23) : va_at Z.1 vwCl (zad Z 23 i, zE Z 23 i (zsig.1 23 i) (zsig.2 23 i)) H := by
  obtain rfl : i = 0 := Nat.lt_one_iff.mp hi
  exact va_at_q (hD 23 _ _ (gX11_o (by decide) (qX10_23))).2 (fun j hj => if_pos hj)
theorem w0_24 {Z : zLay} {H : Heap} (hD : zWD Z (zDfin Z) H) {i : Nat} (hi : i < zN 24) : va_at Z.1 vwCl (zad Z 24 i, zE Z 24 i (zsig.1 24 i) (zsig.2 24 i)) H := by
  exact (hD 24 _ _ (gX11_o (by decide) (qX10_24 hi))).2
theorem w0_25 {Z : zLay} {H : Heap} (hD : zWD Z (zDfin Z) H) {i : Nat} (hi : i < zN 25) : va_at Z.1 vwCl (zad Z 25 i, zE Z 25 i (zsig.1 25 i) (zsig.2 25 i)) H := by
  obtain rfl : i = 0 := Nat.lt_one_iff.mp hi
  exact (hD 25 _ _ (gX11_o (by decide) (qX10_25))).2
theorem w0_26 {Z : zLay} {H : Heap} (hD : zWD Z (zDfin Z) H) {i : Nat} (hi : i < zN 26) : va_at Z.1 vwCl (zad Z 26 i, zE Z 26 i (zsig.1 26 i) (zsig.2 26 i)) H := by
  obtain rfl : i = 0 := Nat.lt_one_iff.mp hi
  exact (hD 26 _ _ (gX11_o (by decide) (qX10_26))).2
theorem w0_27 {Z : zLay} {H : Heap} (hD : zWD Z (zDfin Z) H) {i : Nat} (hi : i < zN 27) : va_at Z.1 vwCl (zad Z 27 i, zE Z 27 i (zsig.1 27 i) (zsig.2 27 i)) H := by
  obtain rfl : i = 0 := Nat.lt_one_iff.mp hi
  exact (hD 27 _ _ (gX11_o (by decide) (qX10_27))).2
theorem w0_28 {Z : zLay} {H : Heap} (hD : zWD Z (zDfin Z) H) {i : Nat} (hi : i < zN 28) : va_at Z.1 vwCl (zad Z 28 i, zE Z 28 i (zsig.1 28 i) (zsig.2 28 i)) H := by
  obtain rfl : i = 0 := Nat.lt_one_iff.mp hi
  exact (hD 28 _ _ (gX11_o (by decide) (qX10_28))).2
theorem w0_29 {Z : zLay} {H : Heap} (hD : zWD Z (zDfin Z) H) {i : Nat} (hi : i < zN 29) : va_at Z.1 vwCl (zad Z 29 i, zE Z 29 i (zsig.1 29 i) (zsig.2 29 i)) H := by
  obtain rfl : i = 0 := Nat.lt_one_iff.mp hi
  exact (hD 29 _ _ (gX11_o (by decide) (qX10_29))).2
theorem w0_30 {Z : zLay} {H : Heap} (hD : zWD Z (zDfin Z) H) {i : Nat} (hi : i < zN 30) : va_at Z.1 vwCl (zad Z 30 i, zE Z 30 i (zsig.1 30 i) (zsig.2 30 i)) H := by
  obtain rfl : i = 0 := Nat.lt_one_iff.mp hi
  exact (hD 30 _ _ (gX11_o (by decide) (qX10_30))).2
theorem w0_31 {Z : zLay} {H : Heap} (hD : zWD Z (zDfin Z) H) {i : Nat} (hi : i < zN 31) : va_at Z.1 vwCl (zad Z 31 i, zE Z 31 i (zsig.1 31 i) (zsig.2 31 i)) H := by
  obtain rfl : i = 0 := Nat.lt_one_iff.mp hi
  exact (hD 31 _ _ (gX11_o (by decide) (qX10_31))).2
theorem w0_32 {Z : zLay} {H : Heap} (hD : zWD Z (zDfin Z) H) {i : Nat} (hi : i < zN 32) : va_at Z.1 vwCl (zad Z 32 i, zE Z 32 i (zsig.1 32 i) (zsig.2 32 i)) H := by
  obtain rfl : i = 0 := Nat.lt_one_iff.mp hi
  exact (hD 32 _ _ (gX11_o (by decide) (qX10_32))).2
theorem w0_33 {Z : zLay} {H : Heap} (hD : zWD Z (zDfin Z) H) {i : Nat} (hi : i < zN 33) : va_at Z.1 vwCl (zad Z 33 i, zE Z 33 i (zsig.1 33 i) (zsig.2 33 i)) H := by
  obtain rfl : i = 0 := Nat.lt_one_iff.mp hi
  exact va_at_q (hD 33 _ _ (gX11_o (by decide) (qX10_33))).2 (fun j hj => if_pos hj)
theorem w0_34 {Z : zLay} {H : Heap} (hD : zWD Z (zDfin Z) H) {i : Nat} (hi : i < zN 34) : va_at Z.1 vwCl (zad Z 34 i, zE Z 34 i (zsig.1 34 i) (zsig.2 34 i)) H := by
  exact (hD 34 _ _ (gX11_o (by decide) (qX10_34 hi))).2
theorem w0_35 {Z : zLay} {H : Heap} (hD : zWD Z (zDfin Z) H) {i : Nat} (hi : i < zN 35) : va_at Z.1 vwCl (zad Z 35 i, zE Z 35 i (zsig.1 35 i) (zsig.2 35 i)) H := by
  obtain rfl : i = 0 := Nat.lt_one_iff.mp hi
  exact (hD 35 _ _ (gX11_o (by decide) (qX10_35))).2
theorem w0_36 {Z : zLay} {H : Heap} (hD : zWD Z (zDfin Z) H) {i : Nat} (hi : i < zN 36) : va_at Z.1 vwCl (zad Z 36 i, zE Z 36 i (zsig.1 36 i) (zsig.2 36 i)) H := by
  obtain rfl : i = 0 := Nat.lt_one_iff.mp hi
  exact (hD 36 _ _ (gX11_o (by decide) (qX10_36))).2
theorem w0_37 {Z : zLay} {H : Heap} (hD : zWD Z (zDfin Z) H) {i : Nat} (hi : i < zN 37) : va_at Z.1 vwCl (zad Z 37 i, zE Z 37 i (zsig.1 37 i) (zsig.2 37 i)) H := by
  obtain rfl : i = 0 := Nat.lt_one_iff.mp hi
  exact (hD 37 _ _ (gX11_o (by decide) (qX10_37))).2
theorem w0_38 {Z : zLay} {H : Heap} (hD : zWD Z (zDfin Z) H) {i : Nat} (hi : i < zN 38) : va_at Z.1 vwCl (zad Z 38 i, zE Z 38 i (zsig.1 38 i) (zsig.2 38 i)) H := by
  obtain rfl : i = 0 := Nat.lt_one_iff.mp hi
  exact (hD 38 _ _ (gX11_o (by decide) (qX10_38))).2
theorem w0_39 {Z : zLay} {H : Heap} (hD : zWD Z (zDfin Z) H) {i : Nat} (hi : i < zN 39) : va_at Z.1 vwCl (zad Z 39 i, zE Z 39 i (zsig.1 39 i) (zsig.2 39 i)) H := by
  obtain rfl : i = 0 := Nat.lt_one_iff.mp hi
  exact va_at_q (hD 39 _ _ (gX11_o (by decide) (qX10_39))).2 (fun j hj => zfill_at Z _ _ j hj)
theorem w0_40 {Z : zLay} {H : Heap} (hD : zWD Z (zDfin Z) H) {i : Nat} (hi : i < zN 40) : va_at Z.1 vwCl (zad Z 40 i, zE Z 40 i (zsig.1 40 i) (zsig.2 40 i)) H := by
  exact (hD 40 _ _ (gX11_o (by decide) (qX10_40 hi))).2
theorem w0_41 {Z : zLay} {H : Heap} (hD : zWD Z (zDfin Z) H) {i : Nat} (hi : i < zN 41) : va_at Z.1 vwCl (zad Z 41 i, zE Z 41 i (zsig.1 41 i) (zsig.2 41 i)) H := by
  exact (hD 41 _ _ (gX11_o (by decide) (qX10_41 hi))).2
theorem w0_42 {Z : zLay} {H : Heap} (hD : zWD Z (zDfin Z) H) {i : Nat} (hi : i < zN 42) : va_at Z.1 vwCl (zad Z 42 i, zE Z 42 i (zsig.1 42 i) (zsig.2 42 i)) H := by
  exact (hD 42 _ _ (gX11_o (by decide) (qX10_42 hi))).2
theorem w0_43 {Z : zLay} {H : Heap} (hD : zWD Z (zDfin Z) H) {i : Nat} (hi : i < zN 43) : va_at Z.1 vwCl (zad Z 43 i, zE Z 43 i (zsig.1 43 i) (zsig.2 43 i)) H := by
  obtain rfl : i = 0 := Nat.lt_one_iff.mp hi
  exact (hD 43 _ _ (gX11_o (by decide) (qX10_43))).2
theorem w0_44 {Z : zLay} {H : Heap} (hD : zWD Z (zDfin Z) H) {i : Nat} (hi : i < zN 44) : va_at Z.1 vwCl (zad Z 44 i, zE Z 44 i (zsig.1 44 i) (zsig.2 44 i)) H := by
  obtain rfl : i = 0 := Nat.lt_one_iff.mp hi
  exact (hD 44 _ _ (gX11_o (by decide) (qX10_44))).2
theorem w0_45 {Z : zLay} {H : Heap} (hD : zWD Z (zDfin Z) H) {i : Nat} (hi : i < zN 45) : va_at Z.1 vwCl (zad Z 45 i, zE Z 45 i (zsig.1 45 i) (zsig.2 45 i)) H := by
  obtain rfl : i = 0 := Nat.lt_one_iff.mp hi
  exact (hD 45 _ _ (gX11_o (by decide) (qX10_45))).2
theorem w0_46 {Z : zLay} {H : Heap} (hD : zWD Z (zDfin Z) H) {i : Nat} (hi : i < zN 46) : va_at Z.1 vwCl (zad Z 46 i, zE Z 46 i (zsig.1 46 i) (zsig.2 46 i)) H := by
  obtain rfl : i = 0 := Nat.lt_one_iff.mp hi
  exact va_at_q (hD 46 _ _ (gX11_o (by decide) (qX10_46))).2 (fun j hj => zfill_at Z _ _ j hj)
theorem w0_47 {Z : zLay} {H : Heap} (hD : zWD Z (zDfin Z) H) {i : Nat} (hi : i < zN 47) : va_at Z.1 vwCl (zad Z 47 i, zE Z 47 i (zsig.1 47 i) (zsig.2 47 i)) H := by
  exact (hD 47 _ _ (gX11_o (by decide) (qX10_47 hi))).2
theorem w0_48 {Z : zLay} {H : Heap} (hD : zWD Z (zDfin Z) H) {i : Nat} (hi : i < zN 48) : va_at Z.1 vwCl (zad Z 48 i, zE Z 48 i (zsig.1 48 i) (zsig.2 48 i)) H := by
  exact (hD 48 _ _ (gX11_o (by decide) (qX10_48 hi))).2
theorem w0_49 {Z : zLay} {H : Heap} (hD : zWD Z (zDfin Z) H) {i : Nat} (hi : i < zN 49) : va_at Z.1 vwCl (zad Z 49 i, zE Z 49 i (zsig.1 49 i) (zsig.2 49 i)) H := by
  obtain rfl : i = 0 := Nat.lt_one_iff.mp hi
  exact va_at_q (hD 49 _ _ (gX11_o (by decide) (qX10_49))).2 (fun j hj => if_pos hj)
theorem w0_50 {Z : zLay} {H : Heap} (hD : zWD Z (zDfin Z) H) {i : Nat} (hi : i < zN 50) : va_at Z.1 vwCl (zad Z 50 i, zE Z 50 i (zsig.1 50 i) (zsig.2 50 i)) H := by
  exact (hD 50 _ _ (gX11_o (by decide) (qX10_50 hi))).2
theorem w0_51 {Z : zLay} {H : Heap} (hD : zWD Z (zDfin Z) H) {i : Nat} (hi : i < zN 51) : va_at Z.1 vwCl (zad Z 51 i, zE Z 51 i (zsig.1 51 i) (zsig.2 51 i)) H := by
  obtain rfl : i = 0 := Nat.lt_one_iff.mp hi
  exact (hD 51 _ _ (gX11_o (by decide) (qX10_51))).2
theorem w0_52 {Z : zLay} {H : Heap} (hD : zWD Z (zDfin Z) H) {i : Nat} (hi : i < zN 52) : va_at Z.1 vwCl (zad Z 52 i, zE Z 52 i (zsig.1 52 i) (zsig.2 52 i)) H := by
  obtain rfl : i = 0 := Nat.lt_one_iff.mp hi
  exact (hD 52 _ _ (gX11_o (by decide) (qX10_52))).2
theorem w0_60 {Z : zLay} {H : Heap} (hD : zWD Z (zDfin Z) H) {i : Nat} (hi : i < zN 60) : va_at Z.1 vwCl (zad Z 60 i, zE Z 60 i (zsig.1 60 i) (zsig.2 60 i)) H := by
  obtain rfl : i = 0 := Nat.lt_one_iff.mp hi
  have e : zE Z 60 0 (zsig.1 60 0) (zsig.2 60 0) = .inr (11, fX11_48 Z) := by
    have e1 : (zsig.1 60 0 11).toNatClampNeg = 71 := by decide +kernel
    have e2 : (zsig.1 60 0 28).toNatClampNeg = 89 := by decide +kernel
    have e3 : (zsig.1 60 0 29).toNatClampNeg = 90 := by decide +kernel
    unfold zE fX11_48
    rw [e1, e2, e3]
    rfl
  rw [e]
  exact (hD 60 _ _ (qX11_60)).2
theorem w0_61 {Z : zLay} {H : Heap} (hD : zWD Z (zDfin Z) H) {i : Nat} (hi : i < zN 61) : va_at Z.1 vwCl (zad Z 61 i, zE Z 61 i (zsig.1 61 i) (zsig.2 61 i)) H := by
  obtain rfl : i = 0 := Nat.lt_one_iff.mp hi
  exact va_at_q (hD 61 _ _ (qX11_61)).2 (fun j hj => if_pos hj)
theorem w0_62 {Z : zLay} {H : Heap} (hD : zWD Z (zDfin Z) H) {i : Nat} (hi : i < zN 62) : va_at Z.1 vwCl (zad Z 62 i, zE Z 62 i (zsig.1 62 i) (zsig.2 62 i)) H := by
  exact (hD 62 _ _ (qX11_62 hi)).2
theorem w0_63 {Z : zLay} {H : Heap} (hD : zWD Z (zDfin Z) H) {i : Nat} (hi : i < zN 63) : va_at Z.1 vwCl (zad Z 63 i, zE Z 63 i (zsig.1 63 i) (zsig.2 63 i)) H := by
  obtain rfl : i = 0 := Nat.lt_one_iff.mp hi
  exact (hD 63 _ _ (qX11_63)).2
theorem w0_64 {Z : zLay} {H : Heap} (hD : zWD Z (zDfin Z) H) {i : Nat} (hi : i < zN 64) : va_at Z.1 vwCl (zad Z 64 i, zE Z 64 i (zsig.1 64 i) (zsig.2 64 i)) H := by
  obtain rfl : i = 0 := Nat.lt_one_iff.mp hi
  exact (hD 64 _ _ (qX11_64)).2
theorem w0_65 {Z : zLay} {H : Heap} (hD : zWD Z (zDfin Z) H) {i : Nat} (hi : i < zN 65) : va_at Z.1 vwCl (zad Z 65 i, zE Z 65 i (zsig.1 65 i) (zsig.2 65 i)) H := by
  obtain rfl : i = 0 := Nat.lt_one_iff.mp hi
  exact (hD 65 _ _ (qX11_65)).2
theorem w0_66 {Z : zLay} {H : Heap} (hD : zWD Z (zDfin Z) H) {i : Nat} (hi : i < zN 66) : va_at Z.1 vwCl (zad Z 66 i, zE Z 66 i (zsig.1 66 i) (zsig.2 66 i)) H := by
  obtain rfl : i = 0 := Nat.lt_one_iff.mp hi
  exact (hD 66 _ _ (qX11_66)).2
theorem w0_67 {Z : zLay} {H : Heap} (hD : zWD Z (zDfin Z) H) {i : Nat} (hi : i < zN 67) : va_at Z.1 vwCl (zad Z 67 i, zE Z 67 i (zsig.1 67 i) (zsig.2 67 i)) H := by
  obtain rfl : i = 0 := Nat.lt_one_iff.mp hi
  exact (hD 67 _ _ (qX11_67)).2
theorem w0_68 {Z : zLay} {H : Heap} (hD : zWD Z (zDfin Z) H) {i : Nat} (hi : i < zN 68) : va_at Z.1 vwCl (zad Z 68 i, zE Z 68 i (zsig.1 68 i) (zsig.2 68 i)) H := by
  obtain rfl : i = 0 := Nat.lt_one_iff.mp hi
  exact (hD 68 _ _ (qX11_68)).2
theorem w0_69 {Z : zLay} {H : Heap} (hD : zWD Z (zDfin Z) H) {i : Nat} (hi : i < zN 69) : va_at Z.1 vwCl (zad Z 69 i, zE Z 69 i (zsig.1 69 i) (zsig.2 69 i)) H := by
  obtain rfl : i = 0 := Nat.lt_one_iff.mp hi
  exact (hD 69 _ _ (qX11_69)).2
theorem w0_70 {Z : zLay} {H : Heap} (hD : zWD Z (zDfin Z) H) {i : Nat} (hi : i < zN 70) : va_at Z.1 vwCl (zad Z 70 i, zE Z 70 i (zsig.1 70 i) (zsig.2 70 i)) H := by
  obtain rfl : i = 0 := Nat.lt_one_iff.mp hi
  exact (hD 70 _ _ (qX11_70)).2
theorem w0_71 {Z : zLay} {H : Heap} (hD : zWD Z (zDfin Z) H) {i : Nat} (hi : i < zN 71) : va_at Z.1 vwCl (zad Z 71 i, zE Z 71 i (zsig.1 71 i) (zsig.2 71 i)) H := by
  obtain rfl : i = 0 := Nat.lt_one_iff.mp hi
  exact va_at_q (hD 71 _ _ (qX11_71)).2 (fun j hj => if_pos hj)
theorem w0_72 {Z : zLay} {H : Heap} (hD : zWD Z (zDfin Z) H) {i : Nat} (hi : i < zN 72) : va_at Z.1 vwCl (zad Z 72 i, zE Z 72 i (zsig.1 72 i) (zsig.2 72 i)) H := by
  exact (hD 72 _ _ (qX11_72 hi)).2
theorem w0_73 {Z : zLay} {H : Heap} (hD : zWD Z (zDfin Z) H) {i : Nat} (hi : i < zN 73) : va_at Z.1 vwCl (zad Z 73 i, zE Z 73 i (zsig.1 73 i) (zsig.2 73 i)) H := by
  obtain rfl : i = 0 := Nat.lt_one_iff.mp hi
  exact (hD 73 _ _ (qX11_73)).2
theorem w0_74 {Z : zLay} {H : Heap} (hD : zWD Z (zDfin Z) H) {i : Nat} (hi : i < zN 74) : va_at Z.1 vwCl (zad Z 74 i, zE Z 74 i (zsig.1 74 i) (zsig.2 74 i)) H := by
  obtain rfl : i = 0 := Nat.lt_one_iff.mp hi
  exact (hD 74 _ _ (qX11_74)).2
theorem w0_75 {Z : zLay} {H : Heap} (hD : zWD Z (zDfin Z) H) {i : Nat} (hi : i < zN 75) : va_at Z.1 vwCl (zad Z 75 i, zE Z 75 i (zsig.1 75 i) (zsig.2 75 i)) H := by
  obtain rfl : i = 0 := Nat.lt_one_iff.mp hi
  exact (hD 75 _ _ (qX11_75)).2
theorem w0_76 {Z : zLay} {H : Heap} (hD : zWD Z (zDfin Z) H) {i : Nat} (hi : i < zN 76) : va_at Z.1 vwCl (zad Z 76 i, zE Z 76 i (zsig.1 76 i) (zsig.2 76 i)) H := by
  obtain rfl : i = 0 := Nat.lt_one_iff.mp hi
  exact (hD 76 _ _ (qX11_76)).2
theorem w0_77 {Z : zLay} {H : Heap} (hD : zWD Z (zDfin Z) H) {i : Nat} (hi : i < zN 77) : va_at Z.1 vwCl (zad Z 77 i, zE Z 77 i (zsig.1 77 i) (zsig.2 77 i)) H := by
  obtain rfl : i = 0 := Nat.lt_one_iff.mp hi
  exact (hD 77 _ _ (qX11_77)).2
theorem w0_78 {Z : zLay} {H : Heap} (hD : zWD Z (zDfin Z) H) {i : Nat} (hi : i < zN 78) : va_at Z.1 vwCl (zad Z 78 i, zE Z 78 i (zsig.1 78 i) (zsig.2 78 i)) H := by
  obtain rfl : i = 0 := Nat.lt_one_iff.mp hi
  exact (hD 78 _ _ (qX11_78)).2
theorem w0_79 {Z : zLay} {H : Heap} (hD : zWD Z (zDfin Z) H) {i : Nat} (hi : i < zN 79) : va_at Z.1 vwCl (zad Z 79 i, zE Z 79 i (zsig.1 79 i) (zsig.2 79 i)) H := by
  obtain rfl : i = 0 := Nat.lt_one_iff.mp hi
  exact va_at_q (hD 79 _ _ (qX11_79)).2 (fun j hj => if_pos hj)
theorem w0_80 {Z : zLay} {H : Heap} (hD : zWD Z (zDfin Z) H) {i : Nat} (hi : i < zN 80) : va_at Z.1 vwCl (zad Z 80 i, zE Z 80 i (zsig.1 80 i) (zsig.2 80 i)) H := by
  exact (hD 80 _ _ (qX11_80 hi)).2
theorem w0_81 {Z : zLay} {H : Heap} (hD : zWD Z (zDfin Z) H) {i : Nat} (hi : i < zN 81) : va_at Z.1 vwCl (zad Z 81 i, zE Z 81 i (zsig.1 81 i) (zsig.2 81 i)) H := by
  obtain rfl : i = 0 := Nat.lt_one_iff.mp hi
  exact va_at_q (hD 81 _ _ (qX11_81)).2 (fun j hj => if_pos hj)
theorem w0_82 {Z : zLay} {H : Heap} (hD : zWD Z (zDfin Z) H) {i : Nat} (hi : i < zN 82) : va_at Z.1 vwCl (zad Z 82 i, zE Z 82 i (zsig.1 82 i) (zsig.2 82 i)) H := by
  exact (hD 82 _ _ (qX11_82 hi)).2
theorem w0_83 {Z : zLay} {H : Heap} (hD : zWD Z (zDfin Z) H) {i : Nat} (hi : i < zN 83) : va_at Z.1 vwCl (zad Z 83 i, zE Z 83 i (zsig.1 83 i) (zsig.2 83 i)) H := by
  obtain rfl : i = 0 := Nat.lt_one_iff.mp hi
  exact va_at_q (hD 83 _ _ (qX11_83)).2 (fun j hj => if_pos hj)
theorem w0_84 {Z : zLay} {H : Heap} (hD : zWD Z (zDfin Z) H) {i : Nat} (hi : i < zN 84) : va_at Z.1 vwCl (zad Z 84 i, zE Z 84 i (zsig.1 84 i) (zsig.2 84 i)) H := by
  exact (hD 84 _ _ (qX11_84 hi)).2
theorem w0_85 {Z : zLay} {H : Heap} (hD : zWD Z (zDfin Z) H) {i : Nat} (hi : i < zN 85) : va_at Z.1 vwCl (zad Z 85 i, zE Z 85 i (zsig.1 85 i) (zsig.2 85 i)) H := by
  obtain rfl : i = 0 := Nat.lt_one_iff.mp hi
  exact va_at_q (hD 85 _ _ (qX11_85)).2 (fun j hj => if_pos hj)
theorem w0_86 {Z : zLay} {H : Heap} (hD : zWD Z (zDfin Z) H) {i : Nat} (hi : i < zN 86) : va_at Z.1 vwCl (zad Z 86 i, zE Z 86 i (zsig.1 86 i) (zsig.2 86 i)) H := by
  exact (hD 86 _ _ (qX11_86 hi)).2
theorem w0_87 {Z : zLay} {H : Heap} (hD : zWD Z (zDfin Z) H) {i : Nat} (hi : i < zN 87) : va_at Z.1 vwCl (zad Z 87 i, zE Z 87 i (zsig.1 87 i) (zsig.2 87 i)) H := by
  obtain rfl : i = 0 := Nat.lt_one_iff.mp hi
  exact (hD 87 _ _ (qX11_87)).2
theorem w0_88 {Z : zLay} {H : Heap} (hD : zWD Z (zDfin Z) H) {i : Nat} (hi : i < zN 88) : va_at Z.1 vwCl (zad Z 88 i, zE Z 88 i (zsig.1 88 i) (zsig.2 88 i)) H := by
  obtain rfl : i = 0 := Nat.lt_one_iff.mp hi
  exact (hD 88 _ _ (qX11_88)).2
theorem w0_89 {Z : zLay} {H : Heap} (hD : zWD Z (zDfin Z) H) {i : Nat} (hi : i < zN 89) : va_at Z.1 vwCl (zad Z 89 i, zE Z 89 i (zsig.1 89 i) (zsig.2 89 i)) H := by
  obtain rfl : i = 0 := Nat.lt_one_iff.mp hi
  exact (hD 89 _ _ (qX11_89)).2
theorem w0_90 {Z : zLay} {H : Heap} (hD : zWD Z (zDfin Z) H) {i : Nat} (hi : i < zN 90) : va_at Z.1 vwCl (zad Z 90 i, zE Z 90 i (zsig.1 90 i) (zsig.2 90 i)) H := by
  obtain rfl : i = 0 := Nat.lt_one_iff.mp hi
  exact (hD 90 _ _ (qX11_90)).2
theorem w0_91 {Z : zLay} {H : Heap} (hD : zWD Z (zDfin Z) H) {i : Nat} (hi : i < zN 91) : va_at Z.1 vwCl (zad Z 91 i, zE Z 91 i (zsig.1 91 i) (zsig.2 91 i)) H := by
  obtain rfl : i = 0 := Nat.lt_one_iff.mp hi
  exact va_at_q (hD 91 _ _ (qX11_91)).2 (fun j hj => if_pos hj)
theorem w0_92 {Z : zLay} {H : Heap} (hD : zWD Z (zDfin Z) H) {i : Nat} (hi : i < zN 92) : va_at Z.1 vwCl (zad Z 92 i, zE Z 92 i (zsig.1 92 i) (zsig.2 92 i)) H := by
  exact (hD 92 _ _ (qX11_92 hi)).2
theorem w0_93 {Z : zLay} {H : Heap} (hD : zWD Z (zDfin Z) H) {i : Nat} (hi : i < zN 93) : va_at Z.1 vwCl (zad Z 93 i, zE Z 93 i (zsig.1 93 i) (zsig.2 93 i)) H := by
  obtain rfl : i = 0 := Nat.lt_one_iff.mp hi
  exact (hD 93 _ _ (qX11_93)).2
theorem w0_94 {Z : zLay} {H : Heap} (hD : zWD Z (zDfin Z) H) {i : Nat} (hi : i < zN 94) : va_at Z.1 vwCl (zad Z 94 i, zE Z 94 i (zsig.1 94 i) (zsig.2 94 i)) H := by
  obtain rfl : i = 0 := Nat.lt_one_iff.mp hi
  exact (hD 94 _ _ (qX11_94)).2
theorem w0_95 {Z : zLay} {H : Heap} (hD : zWD Z (zDfin Z) H) {i : Nat} (hi : i < zN 95) : va_at Z.1 vwCl (zad Z 95 i, zE Z 95 i (zsig.1 95 i) (zsig.2 95 i)) H := by
  obtain rfl : i = 0 := Nat.lt_one_iff.mp hi
  exact (hD 95 _ _ (qX11_95)).2
theorem w0_96 {Z : zLay} {H : Heap} (hD : zWD Z (zDfin Z) H) {i : Nat} (hi : i < zN 96) : va_at Z.1 vwCl (zad Z 96 i, zE Z 96 i (zsig.1 96 i) (zsig.2 96 i)) H := by
  obtain rfl : i = 0 := Nat.lt_one_iff.mp hi
  exact va_at_q (hD 96 _ _ (qX11_96)).2 (fun j hj => if_pos hj)
theorem w0_97 {Z : zLay} {H : Heap} (hD : zWD Z (zDfin Z) H) {i : Nat} (hi : i < zN 97) : va_at Z.1 vwCl (zad Z 97 i, zE Z 97 i (zsig.1 97 i) (zsig.2 97 i)) H := by
  exact (hD 97 _ _ (qX11_97 hi)).2
theorem w0_98 {Z : zLay} {H : Heap} (hD : zWD Z (zDfin Z) H) {i : Nat} (hi : i < zN 98) : va_at Z.1 vwCl (zad Z 98 i, zE Z 98 i (zsig.1 98 i) (zsig.2 98 i)) H := by
  obtain rfl : i = 0 := Nat.lt_one_iff.mp hi
  exact va_at_q (hD 98 _ _ (qX11_98)).2 (fun j hj => if_pos hj)
theorem w0_99 {Z : zLay} {H : Heap} (hD : zWD Z (zDfin Z) H) {i : Nat} (hi : i < zN 99) : va_at Z.1 vwCl (zad Z 99 i, zE Z 99 i (zsig.1 99 i) (zsig.2 99 i)) H := by
  exact (hD 99 _ _ (qX11_99 hi)).2
theorem w0_100 {Z : zLay} {H : Heap} (hD : zWD Z (zDfin Z) H) {i : Nat} (hi : i < zN 100) : va_at Z.1 vwCl (zad Z 100 i, zE Z 100 i (zsig.1 100 i) (zsig.2 100 i)) H := by
  obtain rfl : i = 0 := Nat.lt_one_iff.mp hi
  exact (hD 100 _ _ (qX11_100)).2
theorem w0_101 {Z : zLay} {H : Heap} (hD : zWD Z (zDfin Z) H) {i : Nat} (hi : i < zN 101) : va_at Z.1 vwCl (zad Z 101 i, zE Z 101 i (zsig.1 101 i) (zsig.2 101 i)) H := by
  obtain rfl : i = 0 := Nat.lt_one_iff.mp hi
  exact (hD 101 _ _ (qX11_101)).2
theorem w0_102 {Z : zLay} {H : Heap} (hD : zWD Z (zDfin Z) H) {i : Nat} (hi : i < zN 102) : va_at Z.1 vwCl (zad Z 102 i, zE Z 102 i (zsig.1 102 i) (zsig.2 102 i)) H := by
  obtain rfl : i = 0 := Nat.lt_one_iff.mp hi
  exact (hD 102 _ _ (qX11_102)).2
theorem w0_103 {Z : zLay} {H : Heap} (hD : zWD Z (zDfin Z) H) {i : Nat} (hi : i < zN 103) : va_at Z.1 vwCl (zad Z 103 i, zE Z 103 i (zsig.1 103 i) (zsig.2 103 i)) H := by
  obtain rfl : i = 0 := Nat.lt_one_iff.mp hi
  exact (hD 103 _ _ (qX11_103)).2
theorem w0_104 {Z : zLay} {H : Heap} (hD : zWD Z (zDfin Z) H) {i : Nat} (hi : i < zN 104) : va_at Z.1 vwCl (zad Z 104 i, zE Z 104 i (zsig.1 104 i) (zsig.2 104 i)) H := by
  obtain rfl : i = 0 := Nat.lt_one_iff.mp hi
  exact (hD 104 _ _ (qX11_104)).2
theorem w0_105 {Z : zLay} {H : Heap} (hD : zWD Z (zDfin Z) H) {i : Nat} (hi : i < zN 105) : va_at Z.1 vwCl (zad Z 105 i, zE Z 105 i (zsig.1 105 i) (zsig.2 105 i)) H := by
  obtain rfl : i = 0 := Nat.lt_one_iff.mp hi
  exact (hD 105 _ _ (qX11_105)).2
theorem w0_106 {Z : zLay} {H : Heap} (hD : zWD Z (zDfin Z) H) {i : Nat} (hi : i < zN 106) : va_at Z.1 vwCl (zad Z 106 i, zE Z 106 i (zsig.1 106 i) (zsig.2 106 i)) H := by
  obtain rfl : i = 0 := Nat.lt_one_iff.mp hi
  exact va_at_q (hD 106 _ _ (qX11_106)).2 (fun j hj => if_pos hj)
theorem w0_107 {Z : zLay} {H : Heap} (hD : zWD Z (zDfin Z) H) {i : Nat} (hi : i < zN 107) : va_at Z.1 vwCl (zad Z 107 i, zE Z 107 i (zsig.1 107 i) (zsig.2 107 i)) H := by
  exact (hD 107 _ _ (qX11_107 hi)).2
theorem w0_108 {Z : zLay} {H : Heap} (hD : zWD Z (zDfin Z) H) {i : Nat} (hi : i < zN 108) : va_at Z.1 vwCl (zad Z 108 i, zE Z 108 i (zsig.1 108 i) (zsig.2 108 i)) H := by
  obtain rfl : i = 0 := Nat.lt_one_iff.mp hi
  exact va_at_q (hD 108 _ _ (qX11_108)).2 (fun j hj => if_pos hj)
theorem w0_109 {Z : zLay} {H : Heap} (hD : zWD Z (zDfin Z) H) {i : Nat} (hi : i < zN 109) : va_at Z.1 vwCl (zad Z 109 i, zE Z 109 i (zsig.1 109 i) (zsig.2 109 i)) H := by
  exact (hD 109 _ _ (qX11_109 hi)).2
theorem w0_110 {Z : zLay} {H : Heap} (hD : zWD Z (zDfin Z) H) {i : Nat} (hi : i < zN 110) : va_at Z.1 vwCl (zad Z 110 i, zE Z 110 i (zsig.1 110 i) (zsig.2 110 i)) H := by
  obtain rfl : i = 0 := Nat.lt_one_iff.mp hi
  exact (hD 110 _ _ (qX11_110)).2
theorem w0_111 {Z : zLay} {H : Heap} (hD : zWD Z (zDfin Z) H) {i : Nat} (hi : i < zN 111) : va_at Z.1 vwCl (zad Z 111 i, zE Z 111 i (zsig.1 111 i) (zsig.2 111 i)) H := by
  obtain rfl : i = 0 := Nat.lt_one_iff.mp hi
  exact (hD 111 _ _ (qX11_111)).2
theorem w0_112 {Z : zLay} {H : Heap} (hD : zWD Z (zDfin Z) H) {i : Nat} (hi : i < zN 112) : va_at Z.1 vwCl (zad Z 112 i, zE Z 112 i (zsig.1 112 i) (zsig.2 112 i)) H := by
  obtain rfl : i = 0 := Nat.lt_one_iff.mp hi
  exact (hD 112 _ _ (qX11_112)).2
theorem w0_113 {Z : zLay} {H : Heap} (hD : zWD Z (zDfin Z) H) {i : Nat} (hi : i < zN 113) : va_at Z.1 vwCl (zad Z 113 i, zE Z 113 i (zsig.1 113 i) (zsig.2 113 i)) H := by
  obtain rfl : i = 0 := Nat.lt_one_iff.mp hi
  exact (hD 113 _ _ (qX11_113)).2
theorem w0_114 {Z : zLay} {H : Heap} (hD : zWD Z (zDfin Z) H) {i : Nat} (hi : i < zN 114) : va_at Z.1 vwCl (zad Z 114 i, zE Z 114 i (zsig.1 114 i) (zsig.2 114 i)) H := by
  obtain rfl : i = 0 := Nat.lt_one_iff.mp hi
  exact (hD 114 _ _ (qX11_114)).2
theorem w0_115 {Z : zLay} {H : Heap} (hD : zWD Z (zDfin Z) H) {i : Nat} (hi : i < zN 115) : va_at Z.1 vwCl (zad Z 115 i, zE Z 115 i (zsig.1 115 i) (zsig.2 115 i)) H := by
  obtain rfl : i = 0 := Nat.lt_one_iff.mp hi
  exact va_at_q (hD 115 _ _ (qX11_115)).2 (fun j hj => if_pos hj)
theorem w0_116 {Z : zLay} {H : Heap} (hD : zWD Z (zDfin Z) H) {i : Nat} (hi : i < zN 116) : va_at Z.1 vwCl (zad Z 116 i, zE Z 116 i (zsig.1 116 i) (zsig.2 116 i)) H := by
  exact (hD 116 _ _ (qX11_116 hi)).2
theorem w0_117 {Z : zLay} {H : Heap} (hD : zWD Z (zDfin Z) H) {i : Nat} (hi : i < zN 117) : va_at Z.1 vwCl (zad Z 117 i, zE Z 117 i (zsig.1 117 i) (zsig.2 117 i)) H := by
  obtain rfl : i = 0 := Nat.lt_one_iff.mp hi
  exact (hD 117 _ _ (qX11_117)).2
theorem w0_118 {Z : zLay} {H : Heap} (hD : zWD Z (zDfin Z) H) {i : Nat} (hi : i < zN 118) : va_at Z.1 vwCl (zad Z 118 i, zE Z 118 i (zsig.1 118 i) (zsig.2 118 i)) H := by
  obtain rfl : i = 0 := Nat.lt_one_iff.mp hi
  exact (hD 118 _ _ (qX11_118)).2
theorem w0_all {Z : zLay} {H : Heap} (hD : zWD Z (zDfin Z) H) : zW Z zsig H := by
  intro k i hi
  have hk := zN_big hi
  match k, hk, hi with
  | 0, _, hi => exact w0_0 hD hi
  | 1, _, hi => exact w0_1 hD hi
  | 2, _, hi => exact w0_2 hD hi
  | 3, _, hi => exact w0_3 hD hi
  | 4, _, hi => exact w0_4 hD hi
  | 5, _, hi => exact w0_5 hD hi
  | 6, _, hi => exact w0_6 hD hi
  | 7, _, hi => exact w0_7 hD hi
  | 8, _, hi => exact w0_8 hD hi
  | 9, _, hi => exact w0_9 hD hi
  | 10, _, hi => exact w0_10 hD hi
  | 11, _, hi => exact w0_11 hD hi
  | 12, _, hi => exact w0_12 hD hi
  | 13, _, hi => exact w0_13 hD hi
  | 14, _, hi => exact w0_14 hD hi
  | 15, _, hi => exact w0_15 hD hi
  | 16, _, hi => exact w0_16 hD hi
  | 17, _, hi => exact w0_17 hD hi
  | 18, _, hi => exact w0_18 hD hi
  | 19, _, hi => exact w0_19 hD hi
  | 20, _, hi => exact w0_20 hD hi
  | 21, _, hi => exact w0_21 hD hi
  | 22, _, hi => exact w0_22 hD hi
  | 23, _, hi => exact w0_23 hD hi
  | 24, _, hi => exact w0_24 hD hi
  | 25, _, hi => exact w0_25 hD hi
  | 26, _, hi => exact w0_26 hD hi
  | 27, _, hi => exact w0_27 hD hi
  | 28, _, hi => exact w0_28 hD hi
  | 29, _, hi => exact w0_29 hD hi
  | 30, _, hi => exact w0_30 hD hi
  | 31, _, hi => exact w0_31 hD hi
  | 32, _, hi => exact w0_32 hD hi
  | 33, _, hi => exact w0_33 hD hi
  | 34, _, hi => exact w0_34 hD hi
  | 35, _, hi => exact w0_35 hD hi
  | 36, _, hi => exact w0_36 hD hi
  | 37, _, hi => exact w0_37 hD hi
  | 38, _, hi => exact w0_38 hD hi
  | 39, _, hi => exact w0_39 hD hi
  | 40, _, hi => exact w0_40 hD hi
  | 41, _, hi => exact w0_41 hD hi
  | 42, _, hi => exact w0_42 hD hi
  | 43, _, hi => exact w0_43 hD hi
  | 44, _, hi => exact w0_44 hD hi
  | 45, _, hi => exact w0_45 hD hi
  | 46, _, hi => exact w0_46 hD hi
  | 47, _, hi => exact w0_47 hD hi
  | 48, _, hi => exact w0_48 hD hi
  | 49, _, hi => exact w0_49 hD hi
  | 50, _, hi => exact w0_50 hD hi
  | 51, _, hi => exact w0_51 hD hi
  | 52, _, hi => exact w0_52 hD hi
  | 53, _, hi => exact absurd hi (Nat.not_lt_zero _)
  | 54, _, hi => exact absurd hi (Nat.not_lt_zero _)
  | 55, _, hi => exact absurd hi (Nat.not_lt_zero _)
  | 56, _, hi => exact absurd hi (Nat.not_lt_zero _)
  | 57, _, hi => exact absurd hi (Nat.not_lt_zero _)
  | 58, _, hi => exact absurd hi (Nat.not_lt_zero _)
  | 59, _, hi => exact absurd hi (Nat.not_lt_zero _)
  | 60, _, hi => exact w0_60 hD hi
  | 61, _, hi => exact w0_61 hD hi
  | 62, _, hi => exact w0_62 hD hi
  | 63, _, hi => exact w0_63 hD hi
  | 64, _, hi => exact w0_64 hD hi
  | 65, _, hi => exact w0_65 hD hi
  | 66, _, hi => exact w0_66 hD hi
  | 67, _, hi => exact w0_67 hD hi
  | 68, _, hi => exact w0_68 hD hi
  | 69, _, hi => exact w0_69 hD hi
  | 70, _, hi => exact w0_70 hD hi
  | 71, _, hi => exact w0_71 hD hi
  | 72, _, hi => exact w0_72 hD hi
  | 73, _, hi => exact w0_73 hD hi
  | 74, _, hi => exact w0_74 hD hi
  | 75, _, hi => exact w0_75 hD hi
  | 76, _, hi => exact w0_76 hD hi
  | 77, _, hi => exact w0_77 hD hi
  | 78, _, hi => exact w0_78 hD hi
  | 79, _, hi => exact w0_79 hD hi
  | 80, _, hi => exact w0_80 hD hi
  | 81, _, hi => exact w0_81 hD hi
  | 82, _, hi => exact w0_82 hD hi
  | 83, _, hi => exact w0_83 hD hi
  | 84, _, hi => exact w0_84 hD hi
  | 85, _, hi => exact w0_85 hD hi
  | 86, _, hi => exact w0_86 hD hi
  | 87, _, hi => exact w0_87 hD hi
  | 88, _, hi => exact w0_88 hD hi
  | 89, _, hi => exact w0_89 hD hi
  | 90, _, hi => exact w0_90 hD hi
  | 91, _, hi => exact w0_91 hD hi
  | 92, _, hi => exact w0_92 hD hi
  | 93, _, hi => exact w0_93 hD hi
  | 94, _, hi => exact w0_94 hD hi
  | 95, _, hi => exact w0_95 hD hi
  | 96, _, hi => exact w0_96 hD hi
  | 97, _, hi => exact w0_97 hD hi
  | 98, _, hi => exact w0_98 hD hi
  | 99, _, hi => exact w0_99 hD hi
  | 100, _, hi => exact w0_100 hD hi
  | 101, _, hi => exact w0_101 hD hi
  | 102, _, hi => exact w0_102 hD hi
  | 103, _, hi => exact w0_103 hD hi
  | 104, _, hi => exact w0_104 hD hi
  | 105, _, hi => exact w0_105 hD hi
  | 106, _, hi => exact w0_106 hD hi
  | 107, _, hi => exact w0_107 hD hi
  | 108, _, hi => exact w0_108 hD hi
  | 109, _, hi => exact w0_109 hD hi
  | 110, _, hi => exact w0_110 hD hi
  | 111, _, hi => exact w0_111 hD hi
  | 112, _, hi => exact w0_112 hD hi
  | 113, _, hi => exact w0_113 hD hi
  | 114, _, hi => exact w0_114 hD hi
  | 115, _, hi => exact w0_115 hD hi
  | 116, _, hi => exact w0_116 hD hi
  | 117, _, hi => exact w0_117 hD hi
  | 118, _, hi => exact w0_118 hD hi
theorem zsum_0 : ∀ n, zsum (fun _ => 0) n = 0 := by
  intro n
  induction n with
  | zero => rfl
  | succ n ih => exact (congrArg (· + 0) ih).trans (by decide)
end
section
/-! the relation holds of the memory as the constructors leave it -/
theorem ztold00 (b : Nat) : ∀ n, ztold (fun _ => 0) b n = 0 := by
  intro n
  induction n with
  | zero => rfl
  | succ n ih =>
    show ztold (fun _ => 0) b n + (if (0 : Int32) = 0 then 0 else 1) = 0
    rw [ih, if_pos rfl]
theorem zib0 {a : Int} (h : (0 : Int) ≤ a) : zib 0 0 a := ⟨by decide, by
  show (0 : Int32).toInt ≤ a
  rw [show (0 : Int32).toInt = 0 from rfl]
  exact h⟩
theorem z0Rh : zRh zsig := ⟨⟨0, by omega, (by decide +kernel)⟩, (by decide +kernel), fun _ _ _ _ => rfl, fun _ _ => ⟨rfl, rfl, rfl, rfl, rfl, rfl, rfl, rfl, rfl⟩, fun _ _ _ _ => rfl, (by decide +kernel)⟩
theorem z0Rr : zRr zsig := ⟨⟨0, by omega, (by decide +kernel), fun _ _ _ => rfl⟩, (by decide +kernel), fun r _ => ⟨rfl, rfl, rfl, Or.inl ⟨rfl, rfl⟩⟩, fun r _ => (by decide : (0 : Int32) ≤ 0 ∧ (0 : Int32) ≤ 5 ∧ (0 : Int32) ≤ 0)⟩
theorem z0Rw : zRw zsig := ⟨⟨0, by omega, (by decide +kernel), fun _ _ _ => rfl⟩, (by decide +kernel), ⟨0, by omega, (by decide +kernel), fun j h => absurd h (Nat.not_lt_zero _)⟩, (by decide +kernel), fun w hw h => absurd h (nI_pos (by omega))⟩
theorem z0Rk : zRk zsig := ⟨fun w d _ _ => Or.inl ⟨rfl, rfl⟩, fun w b _ _ => by
  show (0 : Int32) = nI (ztold (fun _ => 0) b 60)
  rw [ztold00]
  rfl⟩
theorem z0Ra : zRa zsig := ⟨⟨0, by omega, (by decide +kernel)⟩, (by decide +kernel), ⟨0, by omega, (by decide +kernel), fun _ _ _ _ _ => rfl⟩, (by decide +kernel), fun _ _ => ⟨rfl, rfl, rfl, rfl⟩, (by decide +kernel), (by decide +kernel)⟩
theorem z0Rd : zRd zsig := ⟨⟨0, by omega, (by decide +kernel)⟩, (by decide +kernel), fun _ _ _ _ => rfl⟩
theorem z0Rl : zRl zsig := ⟨⟨0, by omega, (by decide +kernel)⟩, (by decide +kernel), fun s _ => ⟨rfl, rfl, Or.inl rfl, (by decide : (0 : Int32) ≤ 0), (by decide : (0 : Int32) ≤ 400), rfl, 0, by omega, (by decide : (0 : Int32) = nI 0), (by decide : (0 : Int32) = nI 0), fun i h => absurd h (Nat.not_lt_zero _)⟩, (by decide +kernel), Or.inl (by decide +kernel), (by decide +kernel), (by decide +kernel), (by decide +kernel), (by decide +kernel)⟩
theorem z0Rc : zRc zsig := ⟨⟨0, by omega, (by decide +kernel)⟩, (by decide +kernel), fun _ _ => ⟨rfl, rfl⟩, fun k hk => ⟨rfl, Or.inl ((by decide +kernel : ∀ k, k < 3 → zs0 103 k = -1) k hk)⟩, (by decide +kernel), Or.inl (by decide +kernel), (by decide +kernel), Or.inr ⟨(by decide +kernel), Or.inl (by decide +kernel)⟩, (by decide +kernel), (by decide +kernel)⟩
theorem z0Rt : zRt zsig := fun s hs => ⟨(by decide +kernel : ∀ s, s < 3 → zs0 47 0 = zs0 104 s) s hs, (by decide +kernel : ∀ s, s < 3 → -1 ≤ zs0 104 s) s hs, (by decide +kernel : ∀ s, s < 3 → zs0 104 s ≤ 2) s hs, (by decide +kernel : zs0 47 1 = 0), ⟨0, by omega, (by decide : (0 : Int32) = nI 0)⟩, fun i _ => Or.inr ⟨rfl, (by decide : (0 : Int64) = (0 : Int32).toInt64)⟩⟩
theorem z0Rb : zRb zsig := ⟨⟨0, by omega, (by decide +kernel)⟩, (by decide +kernel), fun i _ _ => rfl⟩
theorem z0Rz : zRz zsig := by
  refine ⟨fun h _ => ⟨zib0 (by decide), zib0 (by decide), zib0 (by decide), zib0 (by decide), zib0 (by decide)⟩, fun h _ => ⟨fun a _ => (by decide : (0 : Int) ≤ (0 : Int32).toInt), (by decide : (0 : Int32).toInt + (0 : Int32).toInt + (0 : Int32).toInt + (0 : Int32).toInt ≤ (0 : Int32).toInt)⟩, fun w hw h => absurd h (nI_pos (by omega)), (by decide +kernel), fun h _ _ => ⟨rfl, rfl, rfl, rfl, rfl⟩, fun a _ => ⟨zib0 (by decide), zib0 (by decide)⟩, fun s i _ _ h => absurd h (nI_pos (by omega)), fun h _ => ⟨zib0 (by decide), zib0 (by decide +kernel), (by decide : (-100000 : Int) ≤ (0 : Int32).toInt)⟩, ⟨(by decide +kernel), (by decide +kernel), ?_⟩, ⟨0, 512, (by decide +kernel), rfl, by omega⟩⟩
  rintro ⟨h, _, q⟩
  exact absurd rfl q
theorem z0Rel : zRel zsig := ⟨z0Rh, z0Rr, z0Rw, z0Rk, z0Ra, z0Rd, z0Rl, z0Rc, z0Rt, z0Rb, z0Rz⟩
end
section
theorem dlw_0 : decode cL_law 0 = .ok (.new 7, 3) := by decide +kernel
theorem dlw_3 : decode cL_law 3 = .ok (.dup, 1) := by decide +kernel
theorem dlw_4 : decode cL_law 4 = .ok (.invokespecial 9, 3) := by decide +kernel
theorem dlw_7 : decode cL_law 7 = .ok (.astore_n 1, 1) := by decide +kernel
theorem dlw_8 : decode cL_law 8 = .ok (.new 10, 3) := by decide +kernel
theorem dlw_11 : decode cL_law 11 = .ok (.dup, 1) := by decide +kernel
theorem dlw_12 : decode cL_law 12 = .ok (.invokespecial 12, 3) := by decide +kernel
theorem dlw_15 : decode cL_law 15 = .ok (.astore_n 2, 1) := by decide +kernel
theorem dlw_16 : decode cL_law 16 = .ok (.iconst 0, 1) := by decide +kernel
theorem dlw_17 : decode cL_law 17 = .ok (.istore_n 3, 1) := by decide +kernel
theorem wl_20 : Cond.classLink "AlpCommuneLaw" (7 : Nat) "AlpCommune" ∈ zTB := zTB_mem 146 (by decide +kernel) (by decide +kernel)
theorem wl_21 : Cond.instantiable "AlpCommune" (18 : Nat) ∈ zTB := zTB_mem 147 (by decide +kernel) (by decide +kernel)
theorem wl_1 : Cond.initialized "AlpCommune" ∈ zTB := zTB_mem 127 (by decide +kernel) (by decide +kernel)
theorem wl_22 : Cond.methodLink "AlpCommuneLaw" (9 : Nat) ({ cls := "AlpCommune", name := "<init>", desc := "()V" } : MethodName) ∈ zTB := zTB_mem 148 (by decide +kernel) (by decide +kernel)
theorem wl_23 : Cond.instanceMethod ({ cls := "AlpCommune", name := "<init>", desc := "()V" } : MethodName) ∈ zTB := zTB_mem 149 (by decide +kernel) (by decide +kernel)
theorem wl_24 : Cond.code yX10_init cX10_init 2 none ∈ zTB := zTB_mem 150 (by decide +kernel) (by decide +kernel)
theorem wl_1079 : Cond.classLink "AlpCommuneLaw" (10 : Nat) "AlpCommuneModel" ∈ zTB := zTB_mem 1205 (by decide +kernel) (by decide +kernel)
theorem wl_1080 : Cond.instantiable "AlpCommuneModel" (68 : Nat) ∈ zTB := zTB_mem 1206 (by decide +kernel) (by decide +kernel)
theorem wl_12 : Cond.initialized "AlpCommuneModel" ∈ zTB := zTB_mem 138 (by decide +kernel) (by decide +kernel)
theorem wl_1081 : Cond.methodLink "AlpCommuneLaw" (12 : Nat) ({ cls := "AlpCommuneModel", name := "<init>", desc := "()V" } : MethodName) ∈ zTB := zTB_mem 1207 (by decide +kernel) (by decide +kernel)
theorem wl_1082 : Cond.instanceMethod ({ cls := "AlpCommuneModel", name := "<init>", desc := "()V" } : MethodName) ∈ zTB := zTB_mem 1208 (by decide +kernel) (by decide +kernel)
theorem wl_1083 : Cond.code yX11_init cX11_init 2 none ∈ zTB := zTB_mem 1209 (by decide +kernel) (by decide +kernel)
theorem zn_astore_n {E : zEn} {cc : ByteArray} {own : String} {nL h n0 c0 mc ms : Nat} {Z : zLay} {pc : Nat} {L : List (Nat × Value)} {st : List Value} {D : zDm} {c b : Nat} {Q : State → Prop} (C : zCN E cc own nL Z h n0 c0 mc ms) {q : Fin 4} {i : Nat} {x : Nat} {L1 : List (Nat × Value)} (hd : decode cc pc = .ok (.astore_n q, 1)) (hq : (q : Nat) = i) (hn : i < nL) (hL : (i, Value.ref x) :: L.filter (fun q => !(q.1 == i) && !(q.1 + 1 == i && q.2.category == 2)) = L1) (k : zNN E nL Z n0 Q (pc + 1) L1 st D c b) : zNN E nL Z n0 Q pc L (.ref x :: st) D c b := fun H locs ls hW hz hS hl => lv_astore_n C.1 C.2.1 hd hq hl hn hL (fun ls1 hl1 => k H locs ls1 hW hz hS hl1)
/-- the addresses: cells to be made, the script, the Strings, the static arrays -/
def zadr (n0 b : Nat) (adK adV t : Nat → Nat) : Nat → Nat → Nat := fun k i => if k < 119 then n0 + zoff k i else if k = 170 then b else if k = 180 then adK i else if k = 181 then adV i else t k
theorem zadr_q : ∀ q ∈ zStat, ¬ q.2.2.1 < 119 ∧ q.2.2.1 ≠ 170 ∧ q.2.2.1 ≠ 180 ∧ q.2.2.1 ≠ 181 := by decide +kernel
theorem zadr_s (n0 b : Nat) (adK adV t : Nat → Nat) {q : String × String × Nat × List Int32} (h : q ∈ zStat) : zadr n0 b adK adV t q.2.2.1 0 = t q.2.2.1 := by
  obtain ⟨h1, h2, h3, h4⟩ := zadr_q q h
  unfold zadr
  rw [if_neg h1, if_neg h2, if_neg h3, if_neg h4]
/-! THE CLAIM OUT OF ONE WALK OF THE LAW'S BODY. Your part is whole_start (and what it stands on); all else here is the same for every law, but numbers. -/
def R_law : String := "AlpCommuneLaw"
def lw_P (b : Addr) (xs : List Int32) (args : Array Value) (s : State) : Prop := args = #[.ref b] ∧ s.IntsAt b xs ∧ xs.length ≤ 3072 ∧ (Jvm.Cond.and given_1 narrow_1).before args s = true
def lw_Q (_ : Array Value) (s : State) (o : Outcome) (t : State) : Prop := o = .returned (some (.int 1)) ∧ Framed s o t [] 600000 7302250
def lw_Z (below : List Frame) (a : Array Value) (s : State) : State → Prop := fun t => ∃ o, t.status = .running ∧ Ended t below o ∧ lw_Q a s o t
/-- the law's own end, with 1 on the stack, nothing written that was there before, its room as the claim has it -/
theorem lw_ret {p : Program} {l : Launch} {e : Env} {s : State} {m : MethodId} {below : List Frame} {meth : Method} {c : Code} {b : Nat} (hx : p.tables.exec = Jvm.exec) (hb : c.code = code) (hr : meth.sig.returnType = ret) (hlocks : meth.locks = false) {pc : Nat} {H : Heap} {ls : Array Slot} (hdg : decode code pc = .ok (.ireturn, 1)) : W p l e room_1 s m #[Value.ref b] below meth c H [] 600000 7302250 (lw_Z below #[Value.ref b] s) (F0 m pc ls [.int 1]) := by
  intro T hT X
  obtain ⟨fs, hret, hrun, hended, hW, hframe⟩ := X.leave (v := some (.int 1)) (hlocks := hlocks) (fun h => by rw [hr] at h; cases h)
  have hmeth' : T.vm.method? m = some meth := X.method'
  refine ⟨T.setFrames fs, ?_, .returned (some (.int 1)), hrun, hended, rfl, ⟨_, rfl⟩, hW, hframe⟩
  jvm_step X.here [X.here.top, hx, hb, hdg, hmeth', hr, ret, narrow_b1]
  (try refine ⟨rfl, ?_⟩); (try refine ⟨rfl, ?_⟩)
  first | (intro acts; rw [hret _ acts rfl rfl rfl]) | rw [hret _ _ rfl rfl rfl]
  exact Steps.refl _
/-- what holds at the law's entry: the machine, the code, the tables' words (any of lw_tbl by 'hts w (by decide +kernel)'), the script of L ints xs at the cell b, what the Statement gives of the start (any of its parts by flat_of_before) -/
def lw_At (p : Program) (s : State) (m : MethodId) (meth : Method) (c : Code) (b L : Nat) (xs : Nat → Int32) : Prop :=
  p.tables.exec = Jvm.exec ∧ c.code = code ∧ meth.sig.returnType = ret ∧ c.maxLocals = 4 ∧ s.vm.findClass R_law = some m.cls ∧ (∀ w ∈ lw_tbl, w.before #[Value.ref b] s = true) ∧ va_X b L xs s s.heap ∧ b < s.heap.size ∧ meth.locks = false ∧ (Jvm.Cond.and given_1 narrow_1).before #[Value.ref b] s = true
section LW
variable {p : Program} {e : Env} {s : State} {m : MethodId} {below : List Frame} {meth : Method} {c : Code} {l : Launch} {b L : Nat} {xs : Nat → Int32} {G : va_G} {ca : Nat → ClassId} {adK adV t : Nat → Nat}
theorem lw_zad {k i : Nat} (h : i < zN k) : zad ((G, zadr s.heap.size b adK adV t, ca, L, xs) : zLay) k i = s.heap.size + zoff k i := if_pos (zN_big h)
theorem lw_zI : zI ((G, zadr s.heap.size b adK adV t, ca, L, xs) : zLay) := fun k i k' i' h h' q => zoff_i h h' (by
  rw [lw_zad (s := s) h, lw_zad (s := s) h'] at q
  omega)
theorem lw_zA : ∀ q, zA ((G, zadr s.heap.size b adK adV t, ca, L, xs) : zLay) q → zNA s.heap.size q := by
  rintro q ⟨k, i, h, rfl⟩
  rw [lw_zad (s := s) h]
  exact Nat.le_add_right _ _
theorem lw_zS (hts : ∀ w ∈ lw_tbl, w.before #[Value.ref b] s = true) (hs : ∀ w ∈ zFl, w.before #[Value.ref b] s = true) (hX : va_X b L xs s s.heap) (hbl : b < s.heap.size)
    (ht : ∀ q ∈ zStat, va_Z q.1 q.2.1 "[I" (.ref (t q.2.2.1)) (zNA s.heap.size) s s.heap ∧ va_T .int (t q.2.2.1) q.2.2.2.length (fun j => .int (q.2.2.2.getD j 0)) (zNA s.heap.size) s s.heap)
    (hSt : vk_S zSn zSlen zSbyt adK adV (zNA s.heap.size) s s.heap) (hR : ∀ q ∈ zStr, vk_R q.1 q.2.1 q.2.2.1 (adK q.2.2.2) s) : zS ((G, zadr s.heap.size b adK adV t, ca, L, xs) : zLay) s s.heap := by
  have hA : ∀ a : Nat, a < s.heap.size → ¬ zNA s.heap.size a := fun a h => Nat.not_le.mpr h
  refine ⟨fun q hq => ?_, ?_, fun q hq => hR q hq, ?_, ?_, hX, fun h => ?_⟩
  · show va_Z q.1 q.2.1 "[I" (.ref (zadr s.heap.size b adK adV t q.2.2.1 0)) _ _ _ ∧ va_T .int (zadr s.heap.size b adK adV t q.2.2.1 0) _ _ _ _ _
    rw [zadr_s _ _ _ _ _ hq]
    exact ⟨(ht q hq).1.narrow lw_zA, (ht q hq).2.narrow lw_zA⟩
  · exact hSt.narrow lw_zA
  · exact (va_Zof (hts _ st_c2.1) (hts _ st_c2.2.1) (va_eqi (hs _ st_c1.1)) hA).narrow lw_zA
  · exact (va_Zqof (hts _ st_c2.2.2.1) (hts _ st_c2.2.2.2) (hs _ st_c1.2) hA).narrow lw_zA
  · have h1 : s.heap.size ≤ b := lw_zA _ h
    omega
theorem lw_hret {Z : zLay} {k n : Nat} (hx : p.tables.exec = Jvm.exec) (hb : c.code = code) (hr : meth.sig.returnType = ret) (hlk : meth.locks = false) (hAn : ∀ q, zA Z q → s.heap.size ≤ q) (hk : k ≤ 600000) (hn : n ≤ 7302250) (pc : Nat) (L : List (Nat × Value)) (x : Int32) (σ : zMem) (hd : decode cL_law pc = .ok (.ireturn, 1)) :
    zKO ((p, l, e, room_1, s, m, #[Value.ref b], below, meth, c, k, n) : zEn) 4 Z (fun (r : Int32) (_ : zMem) (t : State) => r = 1 → lw_Z below #[Value.ref b] s t) pc L [.int x] σ (some (x, σ)) := by
  intro r σ' ho H locs ls hW hS hl
  cases ho
  by_cases q : x = 1
  · subst q
    have h1 : W p l e room_1 s m #[Value.ref b] below meth c H [] k n (lw_Z below #[Value.ref b] s) (F0 m pc ls [.int 1]) := W.widen hk hn (lw_ret hx hb hr hlk hd)
    have h2 := W.forget (L := locs) (fun q hq => hAn _ (hS.2.2 q hq)) h1
    intro T hT X
    obtain ⟨t, a1, b1⟩ := h2 T hT X
    exact ⟨t, a1, fun _ => b1⟩
  · intro T hT X
    exact ⟨_, Steps.refl _, fun h => absurd h q⟩
end LW
theorem whole_start {p : Program} {e : Env} {s : State} {m : MethodId} {below : List Frame} {meth : Method} {c : Code} (l : Launch) (hflags : l.flags = flags0) {b L : Nat} {xs : Nat → Int32} (hL : L ≤ 3072) (C0 : lw_At p s m meth c b L xs) : W p l e room_1 s m #[Value.ref b] below meth c s.heap [] 0 0 (lw_Z below #[Value.ref b] s) (entryFrame m ([Value.ref b] : List Value).toArray 4) := by
  obtain ⟨hx, hb, hr, hml, hown, hts, hX, hbl, hlk, hgv⟩ := C0
  have hs : ∀ w ∈ zFl, w.before #[Value.ref b] s = true := flat_of_before _ hgv
  obtain ⟨G, ca, hK⟩ := st_K hts
  obtain ⟨t, ht⟩ := st_stat hs hts
  obtain ⟨adK, adV, hSt, hR⟩ := st_str hs hts
  have hS0 := lw_zS (G := G) (ca := ca) hts hs hX hbl ht hSt hR
  have hI := lw_zI (s := s) (b := b) (G := G) (ca := ca) (L := L) (xs := xs) (adK := adK) (adV := adV) (t := t)
  have hAn := lw_zA (s := s) (b := b) (G := G) (ca := ca) (L := L) (xs := xs) (adK := adK) (adV := adV) (t := t)
  have had : ∀ k i, i < zN k → zad ((G, zadr s.heap.size b adK adV t, ca, L, xs) : zLay) k i = s.heap.size + zoff k i := fun k i h => lw_zad h
  have hZb : zad ((G, zadr s.heap.size b adK adV t, ca, L, xs) : zLay) 170 0 = b := rfl
  have hKZ : va_K ((G, zadr s.heap.size b adK adV t, ca, L, xs) : zLay).1 vwCl (zTys (G, zadr s.heap.size b adK adV t, ca, L, xs)) s := hK _ _ _
  have hLZ : ((G, zadr s.heap.size b adK adV t, ca, L, xs) : zLay).2.2.2.1 ≤ 3072 := hL
  generalize ((G, zadr s.heap.size b adK adV t, ca, L, xs) : zLay) = Z at hS0 hI hAn had hZb hKZ hLZ
  have C : zCN ((p, l, e, room_1, s, m, #[Value.ref b], below, meth, c, 712, 51130) : zEn) cL_law RL 4 Z 4 s.heap.size 0 712 51130 := ⟨hx, hb, hown, hml, st_TB hts, hKZ, hI, st_nw hts, ⟨had, st_ov hts, rfl⟩, hlk, Or.inl rfl, (by decide : 4 ≤ 2048), (by decide : 60 * 4 ≤ 84000), (by decide : 712 ≤ 600000), (by decide : 51130 ≤ 7302250), Or.inl rfl⟩
  have CX : zCx ((p, l, e, room_1, s, m, #[Value.ref b], below, meth, c, 712, 51130) : zEn) cL_law RL 4 (some .boolean) Z 13 := ⟨hx, hb, hown, hml, st_TB hts, hKZ, hI, st_nw hts, hS0, hlk, hr, (by decide : 13 ≤ 2048), (by decide : 60 * 13 ≤ 84000), (by decide : 712 ≤ 600000), (by decide : 51130 ≤ 7302250)⟩
  have main : zNN ((p, l, e, room_1, s, m, #[Value.ref b], below, meth, c, 712, 51130) : zEn) 4 Z s.heap.size (lw_Z below #[Value.ref b] s) 18 [(0, .ref (zad Z 170 0)), (1, .ref (zad Z 0 0)), (2, .ref (zad Z 60 0)), (3, .int 0)] [] (zDfin Z) 712 51130 := fun H locs ls hW hz hS hl => by
    obtain ⟨σ', hrun⟩ := law_run (F := 400000) (Z := Z) (σ := zsig) (by decide) hLZ z0Rel rfl
    have h1 := c_zlaw 400000 Z (QQ := fun (r : Int32) (_ : zMem) (t : State) => r = 1 → lw_Z below #[Value.ref b] s t) (lw_hret (l := l) (e := e) (m := m) hx hb hr hlk (fun q hq => hAn q hq) (by decide) (by decide)) CX (Nat.le_refl _) 400000 zsig 0 1 σ' hrun H [] ls (w0_all hW) ⟨hS.1, fun q h1 _ => hS.2.1 q h1 (Nat.not_le.mpr h1), fun q hq => absurd hq List.not_mem_nil⟩ hl
    have h2 := W.forget (L := locs) (fun q hq => hS.2.2 q hq) h1
    intro T hT X
    obtain ⟨t, a1, b1⟩ := h2 T hT X
    exact ⟨t, a1, b1 rfl⟩
  have start : zNN ((p, l, e, room_1, s, m, #[Value.ref b], below, meth, c, 712, 51130) : zEn) 4 Z s.heap.size (lw_Z below #[Value.ref b] s) 0 [(0, .ref (zad Z 170 0))] [] zD0 0 0 := by
    refine zn_new C (Cn := RX10) (T := TX10) (N := 18) (ci := 10) (fs := fX10_0) (k := 0) (i := 0) zin_X10 tyX10_ok rfl nfX10 wl_20 wl_21 wl_1 dlw_0 (by decide) rfl (by omega) (by omega) ?_
    refine zn_dup C dlw_3 rfl ?_
    refine zn_callP C (mX10 (D := zD0) rfl) rfl wl_22 wl_23 wl_24 wl_1 (by decide +kernel) (by decide) (by omega) (by omega) (by omega) dlw_4 (Nat.le_of_ble_eq_true rfl) ?_
    refine zn_astore_n C dlw_7 (i := 1) rfl (by decide) rfl ?_
    refine zn_new C (Cn := RX11) (T := TX11) (N := 68) (ci := 11) (fs := fX11_0) (k := 60) (i := 0) zin_X11 tyX11_ok rfl nfX11 wl_1079 wl_1080 wl_12 dlw_8 (by decide) rfl (by omega) (by omega) ?_
    refine zn_dup C dlw_11 rfl ?_
    refine zn_callP C (mX11 (D := gX10 Z zD0) rfl) rfl wl_1081 wl_1082 wl_1083 wl_12 (by decide +kernel) (by decide) (by omega) (by omega) (by omega) dlw_12 (Nat.le_of_ble_eq_true rfl) ?_
    refine zn_astore_n C dlw_15 (i := 2) rfl (by decide) rfl ?_
    refine zn_iconst C dlw_16 (v := 0) (by decide) ?_
    refine zn_istore_n C dlw_17 (i := 3) rfl (by decide) rfl ?_
    exact zn_sub [3, 2, 1, 0] rfl main
  have hl := lv_entry [Value.ref b] (n := 4) (Nat.le_of_ble_eq_true rfl)
  rw [lg_entry_eq]
  rw [show lv_args 0 [Value.ref b] = [(0, .ref (zad Z 170 0))] by rw [hZb]; rfl] at hl
  exact start s.heap [] _ (fun k i x h => (by cases h)) rfl va_S.rf hl
set_option maxHeartbeats 4000000 in
theorem lw_walk (l : Launch) (hflags : l.flags = flags0) (b : Addr) (xs : List Int32) : MetFree l x (headSpec (Jvm.Cond.code x code maxLocals ret :: tables_1) room_1) (lw_P b xs) (fun _ _ _ _ _ => True) lw_Q := by
  refine MetFree.of_bodyS (code := code) (maxLocals := maxLocals) (ret := ret) (by decide) ?_ ?_
  · intro args s m h hn
    obtain ⟨meth, c, h1, h2, h3, h4, h5, h6, -, -⟩ := Cond.code_spec hn (atoms_spec (ws := Jvm.Cond.code x code maxLocals ret :: tables_1) h _ List.mem_cons_self)
    exact ⟨meth, c, h1, h2, h3, h4, h5, h6⟩
  · intro p e s m args below meth c s₁ B hml0 hP _
    obtain ⟨rfl, hx, hbd, hgv⟩ := hP
    obtain ⟨scr, harrAt, hlist, hof, hsmall⟩ := hx
    obtain ⟨hcb, hkn, -, -⟩ := State.arrayAt?_spec harrAt
    have hown : s.vm.findClass R_law = some m.cls := findClass_of_methodNamed B.named
    have hts0 : ∀ c ∈ (Jvm.Cond.code x code maxLocals ret :: tables_1), c.before #[Value.ref b] s = true := atoms_spec (ws := Jvm.Cond.code x code maxLocals ret :: tables_1) B.pre
    have hts : ∀ w ∈ lw_tbl, w.before #[Value.ref b] s = true := k2_hts_sels lw_privs (fun w hw => hts0 w (List.mem_cons_of_mem _ hw)) lw_privs_ok
    have hml : c.maxLocals = 4 := B.maxLocals_eq (hts0 _ List.mem_cons_self)
    have X₀ : Stand p l e room_1 s m #[Value.ref b] below meth c s₁ [] 0 0 := Stand.of_body B
    have hh0 : s₁.heap = s.heap := by rw [B.state]; rfl
    have hsz : scr.slots.size = xs.length := by rw [← Array.length_toList, hlist, List.length_map]
    have hval : ∀ j : Nat, j < xs.length → scr.slots[j]? = some (.int (xs.getD j 0)) := fun j hj => by
      rw [← Array.getElem?_toList, hlist]
      simp [hj]
    have hbl : b < s.heap.size := (Array.getElem?_eq_some_iff.mp hcb).1
    have hX : va_X b xs.length (fun j => xs.getD j 0) s s.heap := ⟨scr, hcb, hof, hkn, hsz, hval⟩
    have K : W p l e room_1 s m #[Value.ref b] below meth c s₁.heap [] 0 0 (lw_Z below #[Value.ref b] s) (entryFrame m ([Value.ref b] : List Value).toArray 4) := by
      rw [hh0]
      exact whole_start l hflags hbd ⟨B.exec, B.bytes, B.returns, hml, hown, hts, hX, hbl, B.notSynchronized, hgv⟩
    obtain ⟨t, a1, o, b1, b2, b3⟩ := K s₁ rfl X₀
    exact ⟨t, o, a1, b1, b2, b3⟩
theorem lw_pre_spec {args : Array Value} {s : State} (h : (Jvm.Cond.and given_1 narrow_1).before args s = true) (hr : rest_1_c.before args s = true) : ∃ (b : Addr) (xs : List Int32), lw_P b xs args s := by
  have hs := flat_of_before _ h
  have hq := flat_of_before _ hr
  have hc : (Cond.count 1).before args s = true := hs _ (by decide +kernel)
  have harr : (Cond.arrayOf (.arg 0) .int).before args s = true := hs _ (by decide +kernel)
  have hle : (Cond.le (.length (.arg 0)) (.int 3072)).before args s = true := hs _ (by decide +kernel)
  have hlen : (Cond.isInt (.length (.arg 0))).before args s = true := hq _ (by decide +kernel)
  have hall : (Cond.all (.arg 0) (.isInt (.elem (.arg 0) (.index 0)))).before args s = true := hq _ (by decide +kernel)
  obtain ⟨b, xs, hb, hx⟩ := State.ints_of_pre rfl harr hlen hall
  have hsm : xs.length < 2 ^ 31 := hx.choose_spec.2.2.2
  have hev : (Term.length (.arg 0)).eval args s none [] s = some (.int xs.length.toInt32) := hx.length_eval hb
  have hv := Cond.le_ints hev (show (Term.int 3072).eval args s none [] s = some (.int 3072) from rfl)
  have hd : xs.length.toInt32 ≤ 3072 := by
    simpa [Cond.before, Cond.holds, hv] using hle
  have hN : xs.length ≤ 3072 := (Int32.ofNat_le_ofNat hsm (by decide)).mp (show Int32.ofNat xs.length ≤ Int32.ofNat 3072 from hd)
  exact ⟨b, xs, Cond.one_arg hc (show args[0]? = some (.ref b) from hb), hx, hN, h⟩
theorem lw_comes (l : Launch) (hflags : l.flags = flags0) : Comes l x (Jvm.Cond.code x code maxLocals ret :: tables_1) room_1 (fun tb e args s => Calls_1 tb e args s ∧ rest_1 tb e args s ∧ Pre_1 tb e args s)
    (fun _ _ args s o t => lw_Q args s o t) := by
  intro p e ha hc hk s m args below hf hfit hheap happ hpre
  obtain ⟨b, xs, hP⟩ := lw_pre_spec hpre.2.2 hpre.2.1
  obtain ⟨k, o, h1, h2, h3, hQ⟩ := lw_walk l hflags b xs p e ha hc hk s m args below hf ((Spec.applies_iff_loose hf).mp happ).1 hP trivial
  exact ⟨k, o, h1, h2, h3, hQ⟩
theorem lw_frame {s t : State} {o : Outcome} {args : Array Value} (h : Framed s o t [] 600000 7302250) :
    Framed s o t (fieldLocs frame_1_writes args s ++ arrayLocs frame_1_arrays args s ++ staticLocs frame_1_statics s) 600000 7302250 := h
theorem lw_limb (L : Cond) (hL : ∀ (args : Array Value) (s t : State), L.after args s (.returned (some (.int 1))) t = true) :
    ArmFor flags0 classFile x code maxLocals ret World_1 tables_1 room_1 Calls_1 rest_1 Pre_1
      (fun tb e a s o t => postC L tb e a s o t ∧ Framed s o t (fieldLocs frame_1_writes a s ++ arrayLocs frame_1_arrays a s ++ staticLocs frame_1_statics s) 600000 7302250) := by
  intro l hflags _ _ p e ha hc hk s m args below hf hfit hheap happ hpre
  obtain ⟨k, o, h1, h2, h3, rfl, hF⟩ := lw_comes l hflags p e ha hc hk s m args below hf hfit hheap happ hpre
  exact ⟨k, _, h1, h2, h3, hL args s _, lw_frame hF⟩
theorem i_vc : Claimed_1_1 ∧ Claimed_1_2 := ⟨lw_limb limb_1_1 (fun args s t => by simp [limb_1_1, Cond.after, Cond.holds, Cond.value]), lw_limb limb_1_2 (fun args s t => Cond.after_iff.mpr (by
  first | (rw [show limb_1_2 = Cond.eq .result (.int 1) from rfl, Cond.eq_ints (x := 1) (y := 1) rfl rfl]; simp; done) | (simp [limb_1_2, Cond.value, Term.eval]; done)))⟩

end
