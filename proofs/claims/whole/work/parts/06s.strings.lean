section ZB
variable {E : zEn} {cc : ByteArray} {own : String} {nL h : Nat} {ret : Option FieldType} {Z : zLay} {α : Type} {QQ : α → zMem → State → Prop} {pc : Nat} {L : List (Nat × Value)} {st : List Value} {σ : zMem} {o o1 o2 : Option (α × zMem)}

theorem zr_sval (C : zCx E cc own nL ret Z h) {ix j : Nat} (hj : j < 28) (hlink : Cond.fieldLink own ix "java/lang/String" "value" "[B" ∈ zTB) (hd : decode cc pc = .ok (.getfield ix, 3)) (kk : zKO E nL Z QQ (pc + 3) L (.ref (zad Z 181 j) :: st) σ o) : zKO E nL Z QQ (pc) L (.ref (zad Z 180 j) :: st) σ o :=
  fun r σ' ho H locs ls hW hS hl => vk_getf C.1 C.2.1 (C.2.2.2.2.2.2.2.2.1.2.1.1 j hj).2.2.1 hS C.2.2.1 (C.2.2.2.2.1 _ hlink) (fun _ h => h) hd (kk r σ' ho H locs ls hW hS hl)
theorem zr_scod (C : zCx E cc own nL ret Z h) {ix j : Nat} (hj : j < 28) (hlink : Cond.fieldLink own ix "java/lang/String" "coder" "B" ∈ zTB) (hd : decode cc pc = .ok (.getfield ix, 3)) (kk : zKO E nL Z QQ (pc + 3) L (.int 0 :: st) σ o) : zKO E nL Z QQ (pc) L (.ref (zad Z 180 j) :: st) σ o :=
  fun r σ' ho H locs ls hW hS hl => vk_getf C.1 C.2.1 (C.2.2.2.2.2.2.2.2.1.2.1.1 j hj).2.1 hS C.2.2.1 (C.2.2.2.2.1 _ hlink) (fun _ h => h) hd (kk r σ' ho H locs ls hW hS hl)
theorem zr_gcs (C : zCx E cc own nL ret Z h) {ix : Nat} (hlink : Cond.fieldLink own ix "java/lang/String" "COMPACT_STRINGS" "Z" ∈ zTB) (hd : decode cc pc = .ok (.getstatic ix, 3)) (kk : zKO E nL Z QQ (pc + 3) L (.int 1 :: st) σ o) : zKO E nL Z QQ (pc) L (st) σ o :=
  fun r σ' ho H locs ls hW hS hl => va_gets C.1 C.2.1 C.2.2.2.2.2.2.2.2.1.2.2.2.1 hS C.2.2.1 (C.2.2.2.2.1 _ hlink) (fun _ h => h) hd (kk r σ' ho H locs ls hW hS hl)
theorem zr_gsi (C : zCx E cc own nL ret Z h) {ix : Nat} (hlink : Cond.fieldLink own ix "jdk/internal/util/Preconditions" "SIOOBE_FORMATTER" "Ljava/util/function/BiFunction;" ∈ zTB) (hd : decode cc pc = .ok (.getstatic ix, 3)) (kk : ∀ v : Value, (v = .null ∨ ∃ t, v = .ref t) → zKO E nL Z QQ (pc + 3) L (v :: st) σ o) : zKO E nL Z QQ (pc) L (st) σ o := by
  intro r σ' ho H locs ls hW hS hl
  rcases C.2.2.2.2.2.2.2.2.1.2.2.2.2.1 with hz | ⟨t, hz⟩
  · exact va_gets C.1 C.2.1 hz hS C.2.2.1 (C.2.2.2.2.1 _ hlink) (fun _ h => h) hd (kk _ (Or.inl rfl) r σ' ho H locs ls hW hS hl)
  · exact va_gets C.1 C.2.1 hz hS C.2.2.1 (C.2.2.2.2.1 _ hlink) (fun _ h => h) hd (kk _ (Or.inr ⟨t, rfl⟩) r σ' ho H locs ls hW hS hl)
theorem zr_slen (C : zCx E cc own nL ret Z h) {j : Nat} (hj : j < 28) (hd : decode cc pc = .ok (.arraylength, 1)) (kk : zKO E nL Z QQ (pc + 1) L (.int (Int32.ofNat (zSlen.getD j 0)) :: st) σ o) : zKO E nL Z QQ (pc) L (.ref (zad Z 181 j) :: st) σ o := by
  intro r σ' ho H locs ls hW hS hl
  obtain ⟨cell, g1, g2, g3, g4, g5, g6, g7⟩ := (C.2.2.2.2.2.2.2.2.1.2.1.1 j hj).2.2.2.kept hS.2.1
  exact W.alen C.1 C.2.1 g1 g2 g5 rfl rfl hd (kk r σ' ho H locs ls hW hS hl)
theorem zr_sbal (C : zCx E cc own nL ret Z h) {j : Nat} {x : Int32} (hj : j < 28) (hd : decode cc pc = .ok (.baload, 1)) (kk : zKO E nL Z QQ (pc + 1) L (.int ((zSbyt.getD j []).getD x.toNatClampNeg 0) :: st) σ o) : zKO E nL Z QQ (pc) L (.int x :: .ref (zad Z 181 j) :: st) σ (zg (inb x (zSlen.getD j 0)) o) := by
  refine zr_g fun hb => ?_
  intro r σ' ho H locs ls hW hS hl
  have hin := inb_in hb
  have hlt : x.toNatClampNeg < zSlen.getD j 0 := Nat.not_le.mp fun e => hin (Or.inr e)
  obtain ⟨cell, g1, g2, g3, g4, g5, g6, g7⟩ := (C.2.2.2.2.2.2.2.2.1.2.1.1 j hj).2.2.2.kept hS.2.1
  exact W.bald (v := .int ((zSbyt.getD j []).getD x.toNatClampNeg 0)) C.1 C.2.1 g1 g2 g3 (fun e => hin (e.imp id (fun e => Nat.le_trans g4 e))) (g6 _ hlt) rfl rfl hd (kk r σ' ho H locs ls hW hS hl)
theorem zo_f {c : Prop} [Decidable c] (hc : ¬ c) (k : zKO E nL Z QQ (pc) L (st) σ (if c then none else o)) : zKO E nL Z QQ (pc) L (st) σ o := by rwa [if_neg hc] at k
theorem zo_t {c : Prop} [Decidable c] (hc : c) (k : zKO E nL Z QQ (pc) L (st) σ (if c then o else none)) : zKO E nL Z QQ (pc) L (st) σ o := by rwa [if_pos hc] at k
def zch (x : Int32) : Bool := decide ((x.toUInt32 % 65536).toInt32 = x)
theorem zch_nar {x : Int32} (hb : zch x = true) : narrow .char (.int x) = .int x := by
  have e : (x.toUInt32 % 65536).toInt32 = x := by simpa [zch] using hb
  rw [← e]
  exact pk_nc x
theorem zr_callVIs (C : zCx E cc own nL ret Z h) {y : MethodName} {b : ByteArray} {n ix hh ia : Nat} {ret1 : Option FieldType} {As : List Value} {i0 : Nat} {f : Option (Int32 × zMem)} {g : Int32 → zMem → Option (α × zMem)} (M : ∀ (r : Int32) (σ1 : zMem), f = some (r, σ1) → zMet (zla E) y b n ret1 hh Z (.ref (zad Z 180 i0) :: As) σ (zQI Z r σ1)) (hj : i0 < 28) (hlink : Cond.methodLink own ix y ∈ zTB) (hcl : y.cls = "java/lang/String") (hsel : Cond.selects y.cls y y ∈ zTB) (hins : Cond.instanceMethod y ∈ zTB) (hcode : Cond.code y b n ret1 ∈ zTB) (hini : Cond.initialized y.cls ∈ zTB) (hdd : y.cls ≠ "java/lang/invoke/MethodHandle" ∧ y.cls ≠ "java/lang/invoke/VarHandle" ∧ (parseMethodDescriptor y.desc).map (fun d => d.parameters.length) = some ia) (hia : As.length = ia) (hm : n ≤ 41) (hh1 : hh + 1 ≤ h) (hd : decode cc pc = .ok (.invokevirtual ix, 3)) (hst8 : (st.map fun v => v.category).sum ≤ 8) (kk : ∀ (r : Int32) (σ1 : zMem), zKO E nL Z QQ (pc + 3) L (.int r :: st) σ1 (g r σ1)) : zKO E nL Z QQ (pc) L (As.reverse ++ .ref (zad Z 180 i0) :: st) σ (zb f g) := by
  intro r σ' ho H locs ls hW hS hl
  cases hf : f with
  | none => rw [hf] at ho; cases ho
  | some q =>
  obtain ⟨r0, σ0⟩ := q
  rw [hf] at ho
  have hR := zRooms hm hh1 C.2.2.2.2.2.2.2.2.2.2.2.1 C.2.2.2.2.2.2.2.2.2.2.2.2.1
  have hrc := vk_recv C.2.2.2.2.2.2.2.2.1.2.1 hj hS
  rw [← hcl] at hrc
  refine va_calli (va_runV (As := As) (rest := st) ⟨C.1, C.2.1, C.2.2.2.1, C.2.2.1, C.2.2.2.2.1⟩ (M r0 σ0 hf) ⟨(callB_of ia C.2.2.2.2.1 (zTB_call hcode) rfl rfl rfl (C.2.2.2.2.1 _ hini) (C.2.2.2.2.1 _ hlink) hdd hR), C.2.2.2.2.1 _ hins, C.2.2.2.2.1 _ hsel⟩ ⟨zP_blind, hrc, fun U hU hw => ⟨rfl, zP_of hW C.2.2.2.2.2.1 C.2.2.2.2.2.2.1 C.2.2.2.2.2.2.2.1 C.2.2.2.2.2.2.2.2.1 hS hU hw⟩⟩ rfl hia hl.1 rfl (lv_room hst8) hd ⟨C.2.2.2.2.2.2.2.2.2.2.2.2.2.1, C.2.2.2.2.2.2.2.2.2.2.2.2.2.2⟩) hS (fun q _ h => h) (fun q h => h) (fun r1 u t H1 locs1 ht hvm hp hB hz1 hk1 hS1 => ?_)
  have hB : zW Z u t.heap := hB
  rw [ht] at hB
  obtain ⟨rfl, rfl⟩ := hp
  exact kk _ _ r σ' ho H1 locs1 ls hB hS1 hl
def f_J0_coder_7d493 (F : Nat) (σ : zMem) (j : Nat) : Option (Int32 × zMem) := zg (decide (j < 28)) (some (0, σ))
set_option maxHeartbeats 4000000 in
theorem c_J0_coder_7d493 (l : Launch) (Z : zLay) (F : Nat) (σ : zMem) (j : Nat) (r : Int32) (σ1 : zMem) (ho : f_J0_coder_7d493 F σ j = some (r, σ1)) : zMet l yJ0_coder_7d493 cJ0_coder_7d493 1 (some .byte) 1 Z [.ref (zad Z 180 j)] σ (zQI Z r σ1) := by
  refine zMet_of (Qc := zQI Z) (by decide) (Nat.le_of_ble_eq_true rfl) [(0, .ref (zad Z 180 j))] rfl (fun E C => ?_) ho
  have hh : 1 ≤ 1 := Nat.le_refl _
  unfold f_J0_coder_7d493
  refine zr_g (fun hj => ?_)
  have hj := of_decide_eq_true hj
  refine zr_gcs C wz_565 dJ0_coder_7d493_0 ?_
  refine zo_f (c := (1 : Int32) = 0) (by decide) ?_
  refine zr_if_eq (tgt := 13) C dJ0_coder_7d493_3 (by decide) zr_none ?_
  refine zr_aload_n C dJ0_coder_7d493_6 rfl ?_
  refine zr_scod C hj wz_1720 dJ0_coder_7d493_7 ?_
  refine zr_goto (tgt := 14) C dJ0_coder_7d493_10 (by decide) ?_
  exact zr_zret C dJ0_coder_7d493_14 rfl
def f_J0_isLatin1_aae02 (F : Nat) (σ : zMem) (j : Nat) : Option (Int32 × zMem) := zg (decide (j < 28)) (some (1, σ))
set_option maxHeartbeats 4000000 in
theorem c_J0_isLatin1_aae02 (l : Launch) (Z : zLay) (F : Nat) (σ : zMem) (j : Nat) (r : Int32) (σ1 : zMem) (ho : f_J0_isLatin1_aae02 F σ j = some (r, σ1)) : zMet l yJ0_isLatin1_aae02 cJ0_isLatin1_aae02 1 (some .boolean) 1 Z [.ref (zad Z 180 j)] σ (zQI Z r σ1) := by
  refine zMet_of (Qc := zQI Z) (by decide) (Nat.le_of_ble_eq_true rfl) [(0, .ref (zad Z 180 j))] rfl (fun E C => ?_) ho
  have hh : 1 ≤ 1 := Nat.le_refl _
  unfold f_J0_isLatin1_aae02
  refine zr_g (fun hj => ?_)
  have hj := of_decide_eq_true hj
  refine zr_gcs C wz_565 dJ0_isLatin1_aae02_0 ?_
  refine zo_f (c := (1 : Int32) = 0) (by decide) ?_
  refine zr_if_eq (tgt := 17) C dJ0_isLatin1_aae02_3 (by decide) zr_none ?_
  refine zr_aload_n C dJ0_isLatin1_aae02_6 rfl ?_
  refine zr_scod C hj wz_1720 dJ0_isLatin1_aae02_7 ?_
  refine zo_t (c := (0 : Int32) = 0) rfl ?_
  refine zr_if_ne (tgt := 17) C dJ0_isLatin1_aae02_10 (by decide) zr_none ?_
  refine zr_iconst (v := 1) C dJ0_isLatin1_aae02_13 rfl ?_
  refine zr_goto (tgt := 18) C dJ0_isLatin1_aae02_14 (by decide) ?_
  exact zr_zret C dJ0_isLatin1_aae02_18 rfl
def f_J3_checkIndex_8e157 (F : Nat) (σ : zMem) (a : Int32) (b : Int32) : Option (Int32 × zMem) := if a < 0 then none else if a < b then some (a, σ) else none
set_option maxHeartbeats 4000000 in
theorem c_J3_checkIndex_8e157 (l : Launch) (Z : zLay) (F : Nat) (σ : zMem) (a : Int32) (b : Int32) (v : Value) (hv : v = .null ∨ ∃ t, v = .ref t) (r : Int32) (σ1 : zMem) (ho : f_J3_checkIndex_8e157 F σ a b = some (r, σ1)) : zMet l yJ3_checkIndex_8e157 cJ3_checkIndex_8e157 3 (some .int) 1 Z [.int a, .int b, v] σ (zQI Z r σ1) := by
  refine zMet_of (Qc := zQI Z) (by decide) (by rcases hv with rfl | ⟨t, rfl⟩ <;> exact Nat.le_of_ble_eq_true rfl) [(0, .int a), (1, .int b), (2, v)] (by rcases hv with rfl | ⟨t, rfl⟩ <;> rfl) (fun E C => ?_) ho
  have hh : 1 ≤ 1 := Nat.le_refl _
  unfold f_J3_checkIndex_8e157
  refine zr_iload_n C dJ3_checkIndex_8e157_0 rfl ?_
  refine zr_if_lt (tgt := 9) C dJ3_checkIndex_8e157_1 (by decide) zr_none ?_
  refine zr_iload_n C dJ3_checkIndex_8e157_4 rfl ?_
  refine zr_iload_n C dJ3_checkIndex_8e157_5 rfl ?_
  refine zr_icmp_lt (tgt := 16) C dJ3_checkIndex_8e157_6 (by decide) ?_ zr_none
  refine zr_iload_n C dJ3_checkIndex_8e157_16 rfl ?_
  exact zr_iret C dJ3_checkIndex_8e157_17
def f_J0_checkIndex_df160 (F : Nat) (σ : zMem) (a : Int32) (b : Int32) : Option (Unit × zMem) := zb (f_J3_checkIndex_8e157 F σ a b) fun _ m => some ((), m)
set_option maxHeartbeats 4000000 in
theorem c_J0_checkIndex_df160 (l : Launch) (Z : zLay) (F : Nat) (σ : zMem) (a : Int32) (b : Int32) (r : Unit) (σ1 : zMem) (ho : f_J0_checkIndex_df160 F σ a b = some (r, σ1)) : zMet l yJ0_checkIndex_df160 cJ0_checkIndex_df160 2 none 2 Z [.int a, .int b] σ (zQV Z r σ1) := by
  refine zMet_of (Qc := zQV Z) (by decide) (Nat.le_of_ble_eq_true rfl) [(0, .int a), (1, .int b)] rfl (fun E C => ?_) ho
  have hh : 2 ≤ 2 := Nat.le_refl _
  unfold f_J0_checkIndex_df160
  refine zr_iload_n C dJ0_checkIndex_df160_0 rfl ?_
  refine zr_iload_n C dJ0_checkIndex_df160_1 rfl ?_
  refine zr_gsi C wz_581 dJ0_checkIndex_df160_2 (fun v hv => ?_)
  refine zr_callSI (As := [.int a, .int b, v]) (ia := 3) C (fun r σ1 ho => c_J3_checkIndex_8e157 (zla E) Z F _ a b v hv r σ1 ho) wz_583 wz_584 wz_585 wz_15 (by decide +kernel) rfl (by decide) (Nat.le_trans (by decide) hh) dJ0_checkIndex_df160_5 (by simp) (fun r m => ?_)
  refine zr_pop C dJ0_checkIndex_df160_8 rfl ?_
  exact zr_vret C dJ0_checkIndex_df160_9
def f_J0_length_8abf5 (F : Nat) (σ : zMem) (j : Nat) : Option (Int32 × zMem) := zg (decide (j < 28)) (zb (f_J0_coder_7d493 F σ j) fun r m => zg (decide (r = 0)) (some (Int32.ofNat (zSlen.getD j 0), m)))
set_option maxHeartbeats 4000000 in
theorem c_J0_length_8abf5 (l : Launch) (Z : zLay) (F : Nat) (σ : zMem) (j : Nat) (r : Int32) (σ1 : zMem) (ho : f_J0_length_8abf5 F σ j = some (r, σ1)) : zMet l yJ0_length_8abf5 cJ0_length_8abf5 1 (some .int) 2 Z [.ref (zad Z 180 j)] σ (zQI Z r σ1) := by
  refine zMet_of (Qc := zQI Z) (by decide) (Nat.le_of_ble_eq_true rfl) [(0, .ref (zad Z 180 j))] rfl (fun E C => ?_) ho
  have hh : 2 ≤ 2 := Nat.le_refl _
  unfold f_J0_length_8abf5
  refine zr_g (fun hj => ?_)
  have hj := of_decide_eq_true hj
  refine zr_aload_n C dJ0_length_8abf5_0 rfl ?_
  refine zr_sval C hj wz_1719 dJ0_length_8abf5_1 ?_
  refine zr_slen C hj dJ0_length_8abf5_4 ?_
  refine zr_aload_n C dJ0_length_8abf5_5 rfl ?_
  refine zr_callVIs (As := []) (ia := 0) C (fun r σ1 ho => c_J0_coder_7d493 (zla E) Z F _ _ r σ1 ho) hj wz_561 rfl wz_563 wz_562 wz_564 wz_13 (by decide +kernel) rfl (by decide) (Nat.le_trans (by decide) hh) dJ0_length_8abf5_6 (by simp [Value.category]) (fun r m => ?_)
  refine zr_g (fun hr => ?_)
  have hr := of_decide_eq_true hr
  subst hr
  refine zr_ishr C dJ0_length_8abf5_9 ?_
  rw [sb_shr0]
  exact zr_iret C dJ0_length_8abf5_10
def f_J1_charAt_3b067 (F : Nat) (σ : zMem) (j : Nat) (x : Int32) : Option (Int32 × zMem) := zg (decide (j < 28)) (zb (f_J0_checkIndex_df160 F σ x (Int32.ofNat (zSlen.getD j 0))) fun _ m => zg (inb x (zSlen.getD j 0)) (some (((((zSbyt.getD j []).getD x.toNatClampNeg 0) &&& 255).toUInt32 % 65536).toInt32, m)))
set_option maxHeartbeats 4000000 in
theorem c_J1_charAt_3b067 (l : Launch) (Z : zLay) (F : Nat) (σ : zMem) (j : Nat) (x : Int32) (r : Int32) (σ1 : zMem) (ho : f_J1_charAt_3b067 F σ j x = some (r, σ1)) : zMet l yJ1_charAt_3b067 cJ1_charAt_3b067 2 (some .char) 3 Z [.ref (zad Z 181 j), .int x] σ (zQI Z r σ1) := by
  refine zMet_of (Qc := zQI Z) (by decide) (Nat.le_of_ble_eq_true rfl) [(0, .ref (zad Z 181 j)), (1, .int x)] rfl (fun E C => ?_) ho
  have hh : 3 ≤ 3 := Nat.le_refl _
  unfold f_J1_charAt_3b067
  refine zr_g (fun hj => ?_)
  have hj := of_decide_eq_true hj
  refine zr_iload_n C dJ1_charAt_3b067_0 rfl ?_
  refine zr_aload_n C dJ1_charAt_3b067_1 rfl ?_
  refine zr_slen C hj dJ1_charAt_3b067_2 ?_
  refine zr_callSU (As := [.int x, .int _]) (ia := 2) C (fun r σ1 ho => c_J0_checkIndex_df160 (zla E) Z F _ _ _ r σ1 ho) wz_578 wz_579 wz_580 wz_13 (by decide +kernel) rfl (by decide) (Nat.le_trans (by decide) hh) dJ1_charAt_3b067_3 (by simp) (fun _ m => ?_)
  refine zr_aload_n C dJ1_charAt_3b067_6 rfl ?_
  refine zr_iload_n C dJ1_charAt_3b067_7 rfl ?_
  refine zr_sbal C hj dJ1_charAt_3b067_8 ?_
  refine zr_sipush (v := 255) C dJ1_charAt_3b067_9 rfl ?_
  refine zr_iand C dJ1_charAt_3b067_12 ?_
  refine zr_i2c C dJ1_charAt_3b067_13 ?_
  exact zr_zret C dJ1_charAt_3b067_14 (pk_nc _)
def f_J0_charAt_5068e (F : Nat) (σ : zMem) (j : Nat) (x : Int32) : Option (Int32 × zMem) := zg (decide (j < 28)) (zb (f_J0_isLatin1_aae02 F σ j) fun r m => if r = 0 then none else (zb (f_J1_charAt_3b067 F m j x) fun r1 m1 => zg (zch r1) (some (r1, m1))))
set_option maxHeartbeats 4000000 in
theorem c_J0_charAt_5068e (l : Launch) (Z : zLay) (F : Nat) (σ : zMem) (j : Nat) (x : Int32) (r : Int32) (σ1 : zMem) (ho : f_J0_charAt_5068e F σ j x = some (r, σ1)) : zMet l yJ0_charAt_5068e cJ0_charAt_5068e 2 (some .char) 4 Z [.ref (zad Z 180 j), .int x] σ (zQI Z r σ1) := by
  refine zMet_of (Qc := zQI Z) (by decide) (Nat.le_of_ble_eq_true rfl) [(0, .ref (zad Z 180 j)), (1, .int x)] rfl (fun E C => ?_) ho
  have hh : 4 ≤ 4 := Nat.le_refl _
  unfold f_J0_charAt_5068e
  refine zr_g (fun hj => ?_)
  have hj := of_decide_eq_true hj
  refine zr_aload_n C dJ0_charAt_5068e_0 rfl ?_
  refine zr_callVIs (As := []) (ia := 0) C (fun r σ1 ho => c_J0_isLatin1_aae02 (zla E) Z F _ _ r σ1 ho) hj wz_571 rfl wz_573 wz_572 wz_574 wz_13 (by decide +kernel) rfl (by decide) (Nat.le_trans (by decide) hh) dJ0_charAt_5068e_1 (by simp) (fun r m => ?_)
  refine zr_if_eq (tgt := 16) C dJ0_charAt_5068e_4 (by decide) zr_none ?_
  refine zr_aload_n C dJ0_charAt_5068e_7 rfl ?_
  refine zr_sval C hj wz_1719 dJ0_charAt_5068e_8 ?_
  refine zr_iload_n C dJ0_charAt_5068e_11 rfl ?_
  refine zr_callSI (As := [.ref (zad Z 181 j), .int x]) (ia := 2) C (fun r σ1 ho => c_J1_charAt_3b067 (zla E) Z F _ j x r σ1 ho) wz_575 wz_576 wz_577 wz_14 (by decide +kernel) rfl (by decide) (Nat.le_trans (by decide) hh) dJ0_charAt_5068e_12 (by simp) (fun r1 m1 => ?_)
  refine zr_g (fun hc => ?_)
  exact zr_zret C dJ0_charAt_5068e_15 (zch_nar hc)
theorem zk_X9_117 (C : zCx E cc RX9 nL ret Z h) (F : Nat) {i0 : Nat} (hk : i0 < 28) (hh : 2 + 1 ≤ h) (hst8 : (st.map fun v => v.category).sum ≤ 8) (hd : decode cc pc = .ok (.invokevirtual 117, 3)) {g : Int32 → zMem → Option (α × zMem)} (kk : ∀ (r : Int32) (σ1 : zMem), zKO E nL Z QQ (pc + 3) L (.int r :: st) σ1 (g r σ1)) : zKO E nL Z QQ (pc) L (.ref (zad Z 180 i0) :: st) σ (zb (f_J0_length_8abf5 F σ i0) g) :=
  zr_callVIs (As := []) (ia := 0) C (fun r σ1 ho => c_J0_length_8abf5 (zla E) Z F _ _ r σ1 ho) hk wz_557 rfl wz_559 wz_558 wz_560 wz_13 (by decide +kernel) rfl (by decide) hh hd hst8 kk
theorem zk_X9_121 (C : zCx E cc RX9 nL ret Z h) (F : Nat) {i0 : Nat} {b0 : Int32} (hk : i0 < 28) (hh : 4 + 1 ≤ h) (hst8 : (st.map fun v => v.category).sum ≤ 8) (hd : decode cc pc = .ok (.invokevirtual 121, 3)) {g : Int32 → zMem → Option (α × zMem)} (kk : ∀ (r : Int32) (σ1 : zMem), zKO E nL Z QQ (pc + 3) L (.int r :: st) σ1 (g r σ1)) : zKO E nL Z QQ (pc) L (.int b0 :: .ref (zad Z 180 i0) :: st) σ (zb (f_J0_charAt_5068e F σ i0 b0) g) :=
  zr_callVIs (As := [.int b0]) (ia := 1) C (fun r σ1 ho => c_J0_charAt_5068e (zla E) Z F _ _ _ r σ1 ho) hk wz_567 rfl wz_569 wz_568 wz_570 wz_13 (by decide +kernel) rfl (by decide) hh hd hst8 kk
theorem zk_X11_221 (C : zCx E cc RX11 nL ret Z h) (F : Nat) {i0 : Nat} (hk : i0 < 28) (hh : 2 + 1 ≤ h) (hst8 : (st.map fun v => v.category).sum ≤ 8) (hd : decode cc pc = .ok (.invokevirtual 221, 3)) {g : Int32 → zMem → Option (α × zMem)} (kk : ∀ (r : Int32) (σ1 : zMem), zKO E nL Z QQ (pc + 3) L (.int r :: st) σ1 (g r σ1)) : zKO E nL Z QQ (pc) L (.ref (zad Z 180 i0) :: st) σ (zb (f_J0_length_8abf5 F σ i0) g) :=
  zr_callVIs (As := []) (ia := 0) C (fun r σ1 ho => c_J0_length_8abf5 (zla E) Z F _ _ r σ1 ho) hk wz_1404 rfl wz_559 wz_558 wz_560 wz_13 (by decide +kernel) rfl (by decide) hh hd hst8 kk
theorem zk_X11_230 (C : zCx E cc RX11 nL ret Z h) (F : Nat) {i0 : Nat} {b0 : Int32} (hk : i0 < 28) (hh : 4 + 1 ≤ h) (hst8 : (st.map fun v => v.category).sum ≤ 8) (hd : decode cc pc = .ok (.invokevirtual 230, 3)) {g : Int32 → zMem → Option (α × zMem)} (kk : ∀ (r : Int32) (σ1 : zMem), zKO E nL Z QQ (pc + 3) L (.int r :: st) σ1 (g r σ1)) : zKO E nL Z QQ (pc) L (.int b0 :: .ref (zad Z 180 i0) :: st) σ (zb (f_J0_charAt_5068e F σ i0 b0) g) :=
  zr_callVIs (As := [.int b0]) (ia := 1) C (fun r σ1 ho => c_J0_charAt_5068e (zla E) Z F _ _ _ r σ1 ho) hk wz_1405 rfl wz_569 wz_568 wz_570 wz_13 (by decide +kernel) rfl (by decide) hh hd hst8 kk
end ZB
