section ZM
variable {E : zEn} {cc : ByteArray} {own : String} {nL h : Nat} {ret : Option FieldType} {Z : zLay} {α : Type} {QQ : α → zMem → State → Prop} {pc : Nat} {L : List (Nat × Value)} {st : List Value} {σ : zMem} {o o1 o2 : Option (α × zMem)}
def f_X0_has (F : Nat) (σ : zMem) (a1 : Int32) : Option (Int32 × zMem) := if a1 < 0 then (some (0, σ)) else (if (σ.1 25 0 4) ≤ a1 then (some (0, σ)) else (some (1, σ)))
set_option maxHeartbeats 4000000 in
set_option maxRecDepth 100000 in
theorem c_X0_has (l : Launch) (Z : zLay) (F : Nat) (σ : zMem) (a1 : Int32) (r : Int32) (σ1 : zMem) (ho : f_X0_has F σ a1 = some (r, σ1)) : zMet l yX0_has cX0_has 2 (some .boolean) 1 Z [.ref (zad Z 25 0), .int (a1)] σ (zQI Z r σ1) := by
  refine zMet_of (Qc := zQI Z) (by decide) (Nat.le_of_ble_eq_true rfl) [(0, .ref (zad Z 25 0)), (1, .int (a1))] rfl (fun E C => ?_) ho
  have hh : 1 ≤ 1 := Nat.le_refl _
  show zKO E 2 Z (zMQ E Z (zQI Z)) 0 [(0, .ref (zad Z 25 0)), (1, .int (a1))] [] σ _
  unfold f_X0_has
  refine zr_iload_n C dX0_has_0 rfl ?_
  refine zr_if_lt (tgt := 16) C dX0_has_1 (by decide) ?_ ?_
  · refine zr_iconst (v := 0) C dX0_has_16 rfl ?_
    exact zr_zret C dX0_has_17 rfl
  · refine zr_iload_n C dX0_has_4 rfl ?_
    refine zr_aload_n C dX0_has_5 rfl ?_
    refine zf_X0_47 C (Nat.le_of_ble_eq_true rfl) dX0_has_6 ?_
    refine zr_icmp_ge (tgt := 16) C dX0_has_9 (by decide) ?_ ?_
    · refine zr_iconst (v := 0) C dX0_has_16 rfl ?_
      exact zr_zret C dX0_has_17 rfl
    · refine zr_iconst (v := 1) C dX0_has_12 rfl ?_
      refine zr_goto (tgt := 17) C dX0_has_13 (by decide) ?_
      exact zr_zret C dX0_has_17 rfl
theorem zk_X10_258 (C : zCx E cc RX10 nL ret Z h) (F : Nat) {b0 : Int32} (hk : 0 < zN 25) (hh : 1 + 1 ≤ h) (hst8 : (st.map fun v => v.category).sum ≤ 8) (hd : decode cc pc = .ok (.invokevirtual 258, 3)) {g : Int32 → zMem → Option (α × zMem)} (kk : ∀ (r : Int32) (σ1 : zMem), zKO E nL Z QQ (pc + 3) L (.int r :: st) σ1 (g r σ1)) : zKO E nL Z QQ pc L (.int b0 :: .ref (zad Z 25 0) :: st) σ (zb (f_X0_has F σ b0) g) :=
  zr_callVNI (As := [.int b0]) (ia := 1) C (fun r σ1 ho => c_X0_has (zla E) Z F σ b0 r σ1 ho) wz_n740 hk rfl rfl wz_p32 wz_742 wz_743 wz_6 (by decide +kernel) rfl (by decide) hh hd hst8 kk
def f_X0_enter (F : Nat) (σ : zMem) (a1 : Int32) (a2 : Int32) : Option (Int32 × zMem) := zg (inb ((σ.1 25 0 4)) 4) (zg (inb (((zwi σ 26 0 ((σ.1 25 0 4)).toNatClampNeg a1).1 25 0 4)) 4) (some (((zwi (zwi σ 26 0 ((σ.1 25 0 4)).toNatClampNeg a1) 27 0 (((zwi σ 26 0 ((σ.1 25 0 4)).toNatClampNeg a1).1 25 0 4)).toNatClampNeg a2).1 25 0 4), (zwi (zwi (zwi σ 26 0 ((σ.1 25 0 4)).toNatClampNeg a1) 27 0 (((zwi σ 26 0 ((σ.1 25 0 4)).toNatClampNeg a1).1 25 0 4)).toNatClampNeg a2) 25 0 4 ((((zwi (zwi σ 26 0 ((σ.1 25 0 4)).toNatClampNeg a1) 27 0 (((zwi σ 26 0 ((σ.1 25 0 4)).toNatClampNeg a1).1 25 0 4)).toNatClampNeg a2).1 25 0 4) + 1))))))
set_option maxHeartbeats 4000000 in
set_option maxRecDepth 100000 in
theorem c_X0_enter (l : Launch) (Z : zLay) (F : Nat) (σ : zMem) (a1 : Int32) (a2 : Int32) (r : Int32) (σ1 : zMem) (ho : f_X0_enter F σ a1 a2 = some (r, σ1)) : zMet l yX0_enter cX0_enter 3 (some .int) 1 Z [.ref (zad Z 25 0), .int (a1), .int (a2)] σ (zQI Z r σ1) := by
  refine zMet_of (Qc := zQI Z) (by decide) (Nat.le_of_ble_eq_true rfl) [(0, .ref (zad Z 25 0)), (1, .int (a1)), (2, .int (a2))] rfl (fun E C => ?_) ho
  have hh : 1 ≤ 1 := Nat.le_refl _
  show zKO E 3 Z (zMQ E Z (zQI Z)) 0 [(0, .ref (zad Z 25 0)), (1, .int (a1)), (2, .int (a2))] [] σ _
  unfold f_X0_enter
  refine zr_aload_n C dX0_enter_0 rfl ?_
  refine zf_X0_9 C (Nat.le_of_ble_eq_true rfl) dX0_enter_1 ?_
  refine zr_aload_n C dX0_enter_4 rfl ?_
  refine zf_X0_47 C (Nat.le_of_ble_eq_true rfl) dX0_enter_5 ?_
  refine zr_iload_n C dX0_enter_8 rfl ?_
  refine zr_iast (n := 4) C dX0_enter_9 (Nat.le_of_ble_eq_true rfl) (fun _ _ => rfl) ?_
  refine zr_aload_n C dX0_enter_10 rfl ?_
  refine zf_X0_15 C (Nat.le_of_ble_eq_true rfl) dX0_enter_11 ?_
  refine zr_aload_n C dX0_enter_14 rfl ?_
  refine zf_X0_47 C (Nat.le_of_ble_eq_true rfl) dX0_enter_15 ?_
  refine zr_iload_n C dX0_enter_18 rfl ?_
  refine zr_iast (n := 4) C dX0_enter_19 (Nat.le_of_ble_eq_true rfl) (fun _ _ => rfl) ?_
  refine zr_aload_n C dX0_enter_20 rfl ?_
  refine zr_dup C dX0_enter_21 rfl ?_
  refine zf_X0_47 C (Nat.le_of_ble_eq_true rfl) dX0_enter_22 ?_
  refine zr_dup_x1 C dX0_enter_25 rfl rfl ?_
  refine zr_iconst (v := 1) C dX0_enter_26 rfl ?_
  refine zr_iadd C dX0_enter_27 ?_
  refine zp_X0_47 C (Nat.le_of_ble_eq_true rfl) dX0_enter_28 ?_
  exact zr_iret C dX0_enter_31
theorem zk_X10_256 (C : zCx E cc RX10 nL ret Z h) (F : Nat) {b0 : Int32} {b1 : Int32} (hk : 0 < zN 25) (hh : 1 + 1 ≤ h) (hst8 : (st.map fun v => v.category).sum ≤ 8) (hd : decode cc pc = .ok (.invokevirtual 256, 3)) {g : Int32 → zMem → Option (α × zMem)} (kk : ∀ (r : Int32) (σ1 : zMem), zKO E nL Z QQ (pc + 3) L (.int r :: st) σ1 (g r σ1)) : zKO E nL Z QQ pc L (.int b1 :: .int b0 :: .ref (zad Z 25 0) :: st) σ (zb (f_X0_enter F σ b0 b1) g) :=
  zr_callVNI (As := [.int b0, .int b1]) (ia := 2) C (fun r σ1 ho => c_X0_enter (zla E) Z F σ b0 b1 r σ1 ho) wz_n732 hk rfl rfl wz_p31 wz_734 wz_735 wz_6 (by decide +kernel) rfl (by decide) hh hd hst8 kk
def f_X0_snowAfter (F : Nat) (σ : zMem) (a0 : Int32) (a1 : Int32) (a2 : Int32) : Option (Int32 × zMem) := if 2 < a1 then (some ((zmax 0 ((a0 - (2 * a1)))), σ)) else (some ((a0 + a2), σ))
set_option maxHeartbeats 4000000 in
set_option maxRecDepth 100000 in
theorem c_X0_snowAfter (l : Launch) (Z : zLay) (F : Nat) (σ : zMem) (a0 : Int32) (a1 : Int32) (a2 : Int32) (r : Int32) (σ1 : zMem) (ho : f_X0_snowAfter F σ a0 a1 a2 = some (r, σ1)) : zMet l yX0_snowAfter cX0_snowAfter 3 (some .int) 1 Z [.int (a0), .int (a1), .int (a2)] σ (zQI Z r σ1) := by
  refine zMet_of (Qc := zQI Z) (by decide) (Nat.le_of_ble_eq_true rfl) [(0, .int (a0)), (1, .int (a1)), (2, .int (a2))] rfl (fun E C => ?_) ho
  have hh : 1 ≤ 1 := Nat.le_refl _
  show zKO E 3 Z (zMQ E Z (zQI Z)) 0 [(0, .int (a0)), (1, .int (a1)), (2, .int (a2))] [] σ _
  unfold f_X0_snowAfter
  refine zr_iload_n C dX0_snowAfter_0 rfl ?_
  refine zr_iconst (v := 2) C dX0_snowAfter_1 rfl ?_
  refine zr_icmp_gt (tgt := 11) C dX0_snowAfter_2 (by decide) ?_ ?_
  · refine zr_iconst (v := 0) C dX0_snowAfter_11 rfl ?_
    refine zr_iload_n C dX0_snowAfter_12 rfl ?_
    refine zr_iconst (v := 2) C dX0_snowAfter_13 rfl ?_
    refine zr_iload_n C dX0_snowAfter_14 rfl ?_
    refine zr_imul C dX0_snowAfter_15 ?_
    refine zr_isub C dX0_snowAfter_16 ?_
    refine zr_mmax C wz_791 wz_606 wz_17 wz_607 (Nat.le_trans (by decide) hh) (by simp [Value.category]) dX0_snowAfter_17 ?_
    exact zr_iret C dX0_snowAfter_20
  · refine zr_iload_n C dX0_snowAfter_5 rfl ?_
    refine zr_iload_n C dX0_snowAfter_6 rfl ?_
    refine zr_iadd C dX0_snowAfter_7 ?_
    refine zr_goto (tgt := 20) C dX0_snowAfter_8 (by decide) ?_
    exact zr_iret C dX0_snowAfter_20
theorem zk_X0_51 (C : zCx E cc RX0 nL ret Z h) (F : Nat) {b0 : Int32} {b1 : Int32} {b2 : Int32} (hh : 1 + 1 ≤ h) (hst8 : (st.map fun v => v.category).sum ≤ 8) (hd : decode cc pc = .ok (.invokestatic 51, 3)) {g : Int32 → zMem → Option (α × zMem)} (kk : ∀ (r : Int32) (σ1 : zMem), zKO E nL Z QQ (pc + 3) L (.int r :: st) σ1 (g r σ1)) : zKO E nL Z QQ pc L (.int b2 :: .int b1 :: .int b0 :: st) σ (zb (f_X0_snowAfter F σ b0 b1 b2) g) :=
  zr_callSI (As := [.int b0, .int b1, .int b2]) (ia := 3) C (fun r σ1 ho => c_X0_snowAfter (zla E) Z F σ b0 b1 b2 r σ1 ho) wz_788 wz_789 wz_790 wz_6 (by decide +kernel) rfl (by decide) hh hd hst8 kk
def f_X0_grassAfter (F : Nat) (σ : zMem) (a0 : Int32) (a1 : Int32) (a2 : Int32) : Option (Int32 × zMem) := if 0 < a1 then (zg (zni 10) (some ((zmin ((10 * a2)) ((a0 + (((zmin a1 20) * a2) / 10)))), σ))) else (some (a0, σ))
set_option maxHeartbeats 4000000 in
set_option maxRecDepth 100000 in
theorem c_X0_grassAfter (l : Launch) (Z : zLay) (F : Nat) (σ : zMem) (a0 : Int32) (a1 : Int32) (a2 : Int32) (r : Int32) (σ1 : zMem) (ho : f_X0_grassAfter F σ a0 a1 a2 = some (r, σ1)) : zMet l yX0_grassAfter cX0_grassAfter 3 (some .int) 1 Z [.int (a0), .int (a1), .int (a2)] σ (zQI Z r σ1) := by
  refine zMet_of (Qc := zQI Z) (by decide) (Nat.le_of_ble_eq_true rfl) [(0, .int (a0)), (1, .int (a1)), (2, .int (a2))] rfl (fun E C => ?_) ho
  have hh : 1 ≤ 1 := Nat.le_refl _
  show zKO E 3 Z (zMQ E Z (zQI Z)) 0 [(0, .int (a0)), (1, .int (a1)), (2, .int (a2))] [] σ _
  unfold f_X0_grassAfter
  refine zr_iload_n C dX0_grassAfter_0 rfl ?_
  refine zr_if_gt (tgt := 6) C dX0_grassAfter_1 (by decide) ?_ ?_
  · refine zr_bipush (v := 10) C dX0_grassAfter_6 rfl ?_
    refine zr_iload_n C dX0_grassAfter_8 rfl ?_
    refine zr_imul C dX0_grassAfter_9 ?_
    refine zr_iload_n C dX0_grassAfter_10 rfl ?_
    refine zr_iload_n C dX0_grassAfter_11 rfl ?_
    refine zr_bipush (v := 20) C dX0_grassAfter_12 rfl ?_
    refine zr_mmin C wz_795 wz_796 wz_17 wz_797 (Nat.le_trans (by decide) hh) (by simp [Value.category]) dX0_grassAfter_14 ?_
    refine zr_iload_n C dX0_grassAfter_17 rfl ?_
    refine zr_imul C dX0_grassAfter_18 ?_
    refine zr_bipush (v := 10) C dX0_grassAfter_19 rfl ?_
    refine zr_idiv C dX0_grassAfter_21 ?_
    refine zr_iadd C dX0_grassAfter_22 ?_
    refine zr_mmin C wz_795 wz_796 wz_17 wz_797 (Nat.le_trans (by decide) hh) (by simp [Value.category]) dX0_grassAfter_23 ?_
    exact zr_iret C dX0_grassAfter_26
  · refine zr_iload_n C dX0_grassAfter_4 rfl ?_
    exact zr_iret C dX0_grassAfter_5
theorem zk_X0_55 (C : zCx E cc RX0 nL ret Z h) (F : Nat) {b0 : Int32} {b1 : Int32} {b2 : Int32} (hh : 1 + 1 ≤ h) (hst8 : (st.map fun v => v.category).sum ≤ 8) (hd : decode cc pc = .ok (.invokestatic 55, 3)) {g : Int32 → zMem → Option (α × zMem)} (kk : ∀ (r : Int32) (σ1 : zMem), zKO E nL Z QQ (pc + 3) L (.int r :: st) σ1 (g r σ1)) : zKO E nL Z QQ pc L (.int b2 :: .int b1 :: .int b0 :: st) σ (zb (f_X0_grassAfter F σ b0 b1 b2) g) :=
  zr_callSI (As := [.int b0, .int b1, .int b2]) (ia := 3) C (fun r σ1 ho => c_X0_grassAfter (zla E) Z F σ b0 b1 b2 r σ1 ho) wz_792 wz_793 wz_794 wz_6 (by decide +kernel) rfl (by decide) hh hd hst8 kk
def f_X0_grow (F : Nat) (σ : zMem) (a1 : Int32) (a2 : Int32) (a3 : Int32) : Option (Unit × zMem) := zg (inb a1 4) (zg (inb a1 4) (zb (f_X0_snowAfter F σ ((σ.1 29 0 a1.toNatClampNeg)) ((a2 - (5 * (σ.1 26 0 a1.toNatClampNeg)))) a3) fun r26 m26 => zg (inb a1 4) (zg (inb a1 4) (if ((zwi m26 29 0 a1.toNatClampNeg r26).1 29 0 a1.toNatClampNeg) = 0 then (zg (inb a1 4) (zg (inb a1 4) (zb (f_X0_grassAfter F (zwi m26 29 0 a1.toNatClampNeg r26) (((zwi m26 29 0 a1.toNatClampNeg r26).1 28 0 a1.toNatClampNeg)) ((a2 - (5 * (σ.1 26 0 a1.toNatClampNeg)))) (((zwi m26 29 0 a1.toNatClampNeg r26).1 27 0 a1.toNatClampNeg))) fun r58 m58 => zg (inb a1 4) (some ((), (zwi m58 28 0 a1.toNatClampNeg r58)))))) else (some ((), (zwi m26 29 0 a1.toNatClampNeg r26)))))))
set_option maxHeartbeats 4000000 in
set_option maxRecDepth 100000 in
theorem c_X0_grow (l : Launch) (Z : zLay) (F : Nat) (σ : zMem) (a1 : Int32) (a2 : Int32) (a3 : Int32) (r : Unit) (σ1 : zMem) (ho : f_X0_grow F σ a1 a2 a3 = some (r, σ1)) : zMet l yX0_grow cX0_grow 5 none 2 Z [.ref (zad Z 25 0), .int (a1), .int (a2), .int (a3)] σ (zQV Z r σ1) := by
  refine zMet_of (Qc := zQV Z) (by decide) (Nat.le_of_ble_eq_true rfl) [(0, .ref (zad Z 25 0)), (1, .int (a1)), (2, .int (a2)), (3, .int (a3))] rfl (fun E C => ?_) ho
  have hh : 2 ≤ 2 := Nat.le_refl _
  show zKO E 5 Z (zMQ E Z (zQV Z)) 0 [(0, .ref (zad Z 25 0)), (1, .int (a1)), (2, .int (a2)), (3, .int (a3))] [] σ _
  unfold f_X0_grow
  refine zr_iload_n C dX0_grow_0 rfl ?_
  refine zr_iconst (v := 5) C dX0_grow_1 rfl ?_
  refine zr_aload_n C dX0_grow_2 rfl ?_
  refine zf_X0_9 C (Nat.le_of_ble_eq_true rfl) dX0_grow_3 ?_
  refine zr_iload_n C dX0_grow_6 rfl ?_
  refine zr_iald (n := 4) C dX0_grow_7 (Nat.le_of_ble_eq_true rfl) rfl ?_
  refine zr_imul C dX0_grow_8 ?_
  refine zr_isub C dX0_grow_9 ?_
  refine zr_istore (i := 4) (L1 := [(4, .int _), (0, .ref _), (1, .int _), (2, .int _), (3, .int _)]) C dX0_grow_10 (by decide) rfl ?_
  refine zr_aload_n C dX0_grow_12 rfl ?_
  refine zf_X0_21 C (Nat.le_of_ble_eq_true rfl) dX0_grow_13 ?_
  refine zr_iload_n C dX0_grow_16 rfl ?_
  refine zr_aload_n C dX0_grow_17 rfl ?_
  refine zf_X0_21 C (Nat.le_of_ble_eq_true rfl) dX0_grow_18 ?_
  refine zr_iload_n C dX0_grow_21 rfl ?_
  refine zr_iald (n := 4) C dX0_grow_22 (Nat.le_of_ble_eq_true rfl) rfl ?_
  refine zr_iload C dX0_grow_23 rfl ?_
  refine zr_iload_n C dX0_grow_25 rfl ?_
  refine zk_X0_51 C F (Nat.le_trans (by decide) hh) (by simp [Value.category]) dX0_grow_26 (fun r26 m26 => ?_)
  refine zr_iast (n := 4) C dX0_grow_29 (Nat.le_of_ble_eq_true rfl) (fun _ _ => rfl) ?_
  refine zr_aload_n C dX0_grow_30 rfl ?_
  refine zf_X0_21 C (Nat.le_of_ble_eq_true rfl) dX0_grow_31 ?_
  refine zr_iload_n C dX0_grow_34 rfl ?_
  refine zr_iald (n := 4) C dX0_grow_35 (Nat.le_of_ble_eq_true rfl) rfl ?_
  refine zr_if_ne (tgt := 62) C dX0_grow_36 (by decide) ?_ ?_
  · exact zr_vret C dX0_grow_62
  · refine zr_aload_n C dX0_grow_39 rfl ?_
    refine zf_X0_18 C (Nat.le_of_ble_eq_true rfl) dX0_grow_40 ?_
    refine zr_iload_n C dX0_grow_43 rfl ?_
    refine zr_aload_n C dX0_grow_44 rfl ?_
    refine zf_X0_18 C (Nat.le_of_ble_eq_true rfl) dX0_grow_45 ?_
    refine zr_iload_n C dX0_grow_48 rfl ?_
    refine zr_iald (n := 4) C dX0_grow_49 (Nat.le_of_ble_eq_true rfl) rfl ?_
    refine zr_iload C dX0_grow_50 rfl ?_
    refine zr_aload_n C dX0_grow_52 rfl ?_
    refine zf_X0_15 C (Nat.le_of_ble_eq_true rfl) dX0_grow_53 ?_
    refine zr_iload_n C dX0_grow_56 rfl ?_
    refine zr_iald (n := 4) C dX0_grow_57 (Nat.le_of_ble_eq_true rfl) rfl ?_
    refine zk_X0_55 C F (Nat.le_trans (by decide) hh) (by simp [Value.category]) dX0_grow_58 (fun r58 m58 => ?_)
    refine zr_iast (n := 4) C dX0_grow_61 (Nat.le_of_ble_eq_true rfl) (fun _ _ => rfl) ?_
    exact zr_vret C dX0_grow_62
theorem zk_X10_294 (C : zCx E cc RX10 nL ret Z h) (F : Nat) {b0 : Int32} {b1 : Int32} {b2 : Int32} (hk : 0 < zN 25) (hh : 2 + 1 ≤ h) (hst8 : (st.map fun v => v.category).sum ≤ 8) (hd : decode cc pc = .ok (.invokevirtual 294, 3)) {g : Unit → zMem → Option (α × zMem)} (kk : ∀ (r : Unit) (σ1 : zMem), zKO E nL Z QQ (pc + 3) L (st) σ1 (g r σ1)) : zKO E nL Z QQ pc L (.int b2 :: .int b1 :: .int b0 :: .ref (zad Z 25 0) :: st) σ (zb (f_X0_grow F σ b0 b1 b2) g) :=
  zr_callVNU (As := [.int b0, .int b1, .int b2]) (ia := 3) C (fun r σ1 ho => c_X0_grow (zla E) Z F σ b0 b1 b2 r σ1 ho) wz_n784 hk rfl rfl wz_p39 wz_786 wz_787 wz_6 (by decide +kernel) rfl (by decide) hh hd hst8 kk
def f_X0_feedCows (F : Nat) (σ : zMem) (a1 : Int32) (a2 : Int32) : Option (Int32 × zMem) := zg (inb a1 4) (zg (zni 3) (zg (inb a1 4) (zg (inb a1 4) (some ((zmin a2 (((σ.1 28 0 a1.toNatClampNeg) / 3))), (zwi σ 28 0 a1.toNatClampNeg (((σ.1 28 0 a1.toNatClampNeg) - (3 * (zmin a2 (((σ.1 28 0 a1.toNatClampNeg) / 3))))))))))))
set_option maxHeartbeats 4000000 in
set_option maxRecDepth 100000 in
theorem c_X0_feedCows (l : Launch) (Z : zLay) (F : Nat) (σ : zMem) (a1 : Int32) (a2 : Int32) (r : Int32) (σ1 : zMem) (ho : f_X0_feedCows F σ a1 a2 = some (r, σ1)) : zMet l yX0_feedCows cX0_feedCows 4 (some .int) 1 Z [.ref (zad Z 25 0), .int (a1), .int (a2)] σ (zQI Z r σ1) := by
  refine zMet_of (Qc := zQI Z) (by decide) (Nat.le_of_ble_eq_true rfl) [(0, .ref (zad Z 25 0)), (1, .int (a1)), (2, .int (a2))] rfl (fun E C => ?_) ho
  have hh : 1 ≤ 1 := Nat.le_refl _
  show zKO E 4 Z (zMQ E Z (zQI Z)) 0 [(0, .ref (zad Z 25 0)), (1, .int (a1)), (2, .int (a2))] [] σ _
  unfold f_X0_feedCows
  refine zr_iload_n C dX0_feedCows_0 rfl ?_
  refine zr_aload_n C dX0_feedCows_1 rfl ?_
  refine zf_X0_18 C (Nat.le_of_ble_eq_true rfl) dX0_feedCows_2 ?_
  refine zr_iload_n C dX0_feedCows_5 rfl ?_
  refine zr_iald (n := 4) C dX0_feedCows_6 (Nat.le_of_ble_eq_true rfl) rfl ?_
  refine zr_iconst (v := 3) C dX0_feedCows_7 rfl ?_
  refine zr_idiv C dX0_feedCows_8 ?_
  refine zr_mmin C wz_795 wz_796 wz_17 wz_797 (Nat.le_trans (by decide) hh) (by simp [Value.category]) dX0_feedCows_9 ?_
  refine zr_istore_n (i := 3) (L1 := [(3, .int _), (0, .ref _), (1, .int _), (2, .int _)]) C dX0_feedCows_12 rfl (by decide) rfl ?_
  refine zr_aload_n C dX0_feedCows_13 rfl ?_
  refine zf_X0_18 C (Nat.le_of_ble_eq_true rfl) dX0_feedCows_14 ?_
  refine zr_iload_n C dX0_feedCows_17 rfl ?_
  refine zr_dup2 C dX0_feedCows_18 rfl rfl ?_
  refine zr_iald (n := 4) C dX0_feedCows_19 (Nat.le_of_ble_eq_true rfl) rfl ?_
  refine zr_iconst (v := 3) C dX0_feedCows_20 rfl ?_
  refine zr_iload_n C dX0_feedCows_21 rfl ?_
  refine zr_imul C dX0_feedCows_22 ?_
  refine zr_isub C dX0_feedCows_23 ?_
  refine zr_iast (n := 4) C dX0_feedCows_24 (Nat.le_of_ble_eq_true rfl) (fun _ _ => rfl) ?_
  refine zr_iload_n C dX0_feedCows_25 rfl ?_
  exact zr_iret C dX0_feedCows_26
theorem zk_X10_318 (C : zCx E cc RX10 nL ret Z h) (F : Nat) {b0 : Int32} {b1 : Int32} (hk : 0 < zN 25) (hh : 1 + 1 ≤ h) (hst8 : (st.map fun v => v.category).sum ≤ 8) (hd : decode cc pc = .ok (.invokevirtual 318, 3)) {g : Int32 → zMem → Option (α × zMem)} (kk : ∀ (r : Int32) (σ1 : zMem), zKO E nL Z QQ (pc + 3) L (.int r :: st) σ1 (g r σ1)) : zKO E nL Z QQ pc L (.int b1 :: .int b0 :: .ref (zad Z 25 0) :: st) σ (zb (f_X0_feedCows F σ b0 b1) g) :=
  zr_callVNI (As := [.int b0, .int b1]) (ia := 2) C (fun r σ1 ho => c_X0_feedCows (zla E) Z F σ b0 b1 r σ1 ho) wz_n802 hk rfl rfl wz_p41 wz_804 wz_805 wz_6 (by decide +kernel) rfl (by decide) hh hd hst8 kk
def f_X0_hungerWith_89 (F : Nat) (rec22 : zMem → Int32 × Int32 × Int32 × Int32 × Int32 × Int32 × Int32 → Option (Int32 × zMem)) (σ : zMem) (l1 : Int32) (l2 : Int32) (l3 : Int32) (l4 : Int32) (l5 : Int32) (l6 : Int32) (l7 : Int32) : Option (Int32 × zMem) := zg (zni 3) (rec22 σ ((l1, l2, l3, (l4 - (3 * (zmin l2 ((l4 / 3))))), l5, (l6 + (l2 - (zmin l2 ((l4 / 3))))), (l7 + 1))))
set_option maxHeartbeats 4000000 in
set_option maxRecDepth 100000 in
theorem c_X0_hungerWith_89 (F : Nat) (rec22 : zMem → Int32 × Int32 × Int32 × Int32 × Int32 × Int32 × Int32 → Option (Int32 × zMem)) {E : zEn} {h : Nat} {Z : zLay} (C : zCx E cX0_hungerWith RX0 10 (some .int) Z h) (hh : 2 ≤ h) (hrec22 : ∀ (σ : zMem) (x : Int32 × Int32 × Int32 × Int32 × Int32 × Int32 × Int32), zKO E 10 Z (zMQ E Z (zQI Z)) 22 [(0, .ref (zad Z 25 0)), (1, .int x.1), (2, .int x.2.1), (3, .int x.2.2.1), (4, .int x.2.2.2.1), (5, .int x.2.2.2.2.1), (6, .int x.2.2.2.2.2.1), (7, .int x.2.2.2.2.2.2)] [] σ (rec22 σ x)) (σ : zMem) (l1 : Int32) (l2 : Int32) (l3 : Int32) (l4 : Int32) (l5 : Int32) (l6 : Int32) (l7 : Int32) : zKO E 10 Z (zMQ E Z (zQI Z)) 89 [(0, .ref (zad Z 25 0)), (1, .int l1), (2, .int l2), (3, .int l3), (4, .int l4), (5, .int l5), (6, .int l6), (7, .int l7)] [] σ (f_X0_hungerWith_89 F rec22 σ l1 l2 l3 l4 l5 l6 l7) := by
  unfold f_X0_hungerWith_89
  refine zr_iload_n C dX0_hungerWith_89 rfl ?_
  refine zr_iload C dX0_hungerWith_90 rfl ?_
  refine zr_iconst (v := 3) C dX0_hungerWith_92 rfl ?_
  refine zr_idiv C dX0_hungerWith_93 ?_
  refine zr_mmin C wz_795 wz_796 wz_17 wz_797 (Nat.le_trans (by decide) hh) (by simp [Value.category]) dX0_hungerWith_94 ?_
  refine zr_istore (i := 9) (L1 := [(9, .int _), (0, .ref _), (1, .int _), (2, .int _), (3, .int _), (4, .int _), (5, .int _), (6, .int _), (7, .int _)]) C dX0_hungerWith_97 (by decide) rfl ?_
  refine zr_iload C dX0_hungerWith_99 rfl ?_
  refine zr_iconst (v := 3) C dX0_hungerWith_101 rfl ?_
  refine zr_iload C dX0_hungerWith_102 rfl ?_
  refine zr_imul C dX0_hungerWith_104 ?_
  refine zr_isub C dX0_hungerWith_105 ?_
  refine zr_istore (i := 4) (L1 := [(4, .int _), (9, .int _), (0, .ref _), (1, .int _), (2, .int _), (3, .int _), (5, .int _), (6, .int _), (7, .int _)]) C dX0_hungerWith_106 (by decide) rfl ?_
  refine zr_iload C dX0_hungerWith_108 rfl ?_
  refine zr_iload_n C dX0_hungerWith_110 rfl ?_
  refine zr_iload C dX0_hungerWith_111 rfl ?_
  refine zr_isub C dX0_hungerWith_113 ?_
  refine zr_iadd C dX0_hungerWith_114 ?_
  refine zr_istore (i := 6) (L1 := [(6, .int _), (4, .int _), (9, .int _), (0, .ref _), (1, .int _), (2, .int _), (3, .int _), (5, .int _), (7, .int _)]) C dX0_hungerWith_115 (by decide) rfl ?_
  refine zr_iinc (kk := 8) (v := (l7 + 1)) (L1 := [(7, .int _), (6, .int _), (4, .int _), (9, .int _), (0, .ref _), (1, .int _), (2, .int _), (3, .int _), (5, .int _)]) C dX0_hungerWith_117 rfl rfl (by decide) rfl ?_
  refine zr_goto (tgt := 22) C dX0_hungerWith_120 (by decide) ?_
  exact zr_sub [4, 5, 6, 7, 2, 8, 1, 0] rfl (hrec22 σ ((l1, l2, l3, (l4 - (3 * (zmin l2 ((l4 / 3))))), l5, (l6 + (l2 - (zmin l2 ((l4 / 3))))), (l7 + 1))))
def f_X0_hungerWith_22 (F : Nat) (rec22 : zMem → Int32 × Int32 × Int32 × Int32 × Int32 × Int32 × Int32 → Option (Int32 × zMem)) (σ : zMem) (x : Int32 × Int32 × Int32 × Int32 × Int32 × Int32 × Int32) : Option (Int32 × zMem) := if x.2.2.1 ≤ x.2.2.2.2.2.2 then (some (x.2.2.2.2.2.1, σ)) else (if 30 ≤ x.2.2.2.2.2.2 then (some (x.2.2.2.2.2.1, σ)) else (zg (inb x.2.2.2.2.2.2 30) (zg (inb x.1 4) (zg (inb x.2.2.2.2.2.2 30) (zb (f_X0_snowAfter F σ x.2.2.2.2.1 (((σ.1 30 0 x.2.2.2.2.2.2.toNatClampNeg) - (5 * (σ.1 26 0 x.1.toNatClampNeg)))) ((σ.1 31 0 x.2.2.2.2.2.2.toNatClampNeg))) fun r64 m64 => if r64 = 0 then (zg (inb x.1 4) (zb (f_X0_grassAfter F m64 x.2.2.2.1 (((σ.1 30 0 x.2.2.2.2.2.2.toNatClampNeg) - (5 * (σ.1 26 0 x.1.toNatClampNeg)))) ((m64.1 27 0 x.1.toNatClampNeg))) fun r84 m84 => f_X0_hungerWith_89 F rec22 m84 x.1 x.2.1 x.2.2.1 r84 r64 x.2.2.2.2.2.1 x.2.2.2.2.2.2)) else (f_X0_hungerWith_89 F rec22 m64 x.1 x.2.1 x.2.2.1 x.2.2.2.1 r64 x.2.2.2.2.2.1 x.2.2.2.2.2.2))))))
set_option maxHeartbeats 4000000 in
set_option maxRecDepth 100000 in
theorem c_X0_hungerWith_22 (F : Nat) {E : zEn} {h : Nat} {Z : zLay} (C : zCx E cX0_hungerWith RX0 10 (some .int) Z h) (hh : 2 ≤ h) : ∀ (n : Nat) (σ : zMem) (x : Int32 × Int32 × Int32 × Int32 × Int32 × Int32 × Int32), zKO E 10 Z (zMQ E Z (zQI Z)) 22 [(0, .ref (zad Z 25 0)), (1, .int x.1), (2, .int x.2.1), (3, .int x.2.2.1), (4, .int x.2.2.2.1), (5, .int x.2.2.2.2.1), (6, .int x.2.2.2.2.2.1), (7, .int x.2.2.2.2.2.2)] [] σ (zit (f_X0_hungerWith_22 F) n σ x) := by
  refine zr_loop (LL := fun (x : Int32 × Int32 × Int32 × Int32 × Int32 × Int32 × Int32) => [(0, .ref (zad Z 25 0)), (1, .int x.1), (2, .int x.2.1), (3, .int x.2.2.1), (4, .int x.2.2.2.1), (5, .int x.2.2.2.2.1), (6, .int x.2.2.2.2.2.1), (7, .int x.2.2.2.2.2.2)]) (ST := fun (x : Int32 × Int32 × Int32 × Int32 × Int32 × Int32 × Int32) => []) (fun rec22 hrec22 σ x => ?_)
  obtain ⟨l1, l2, l3, l4, l5, l6, l7⟩ := x
  show zKO E 10 Z (zMQ E Z (zQI Z)) 22 [(0, .ref (zad Z 25 0)), (1, .int l1), (2, .int l2), (3, .int l3), (4, .int l4), (5, .int l5), (6, .int l6), (7, .int l7)] [] σ (if l3 ≤ l7 then (some (l6, σ)) else (if 30 ≤ l7 then (some (l6, σ)) else (zg (inb l7 30) (zg (inb l1 4) (zg (inb l7 30) (zb (f_X0_snowAfter F σ l5 (((σ.1 30 0 l7.toNatClampNeg) - (5 * (σ.1 26 0 l1.toNatClampNeg)))) ((σ.1 31 0 l7.toNatClampNeg))) fun r64 m64 => if r64 = 0 then (zg (inb l1 4) (zb (f_X0_grassAfter F m64 l4 (((σ.1 30 0 l7.toNatClampNeg) - (5 * (σ.1 26 0 l1.toNatClampNeg)))) ((m64.1 27 0 l1.toNatClampNeg))) fun r84 m84 => f_X0_hungerWith_89 F rec22 m84 l1 l2 l3 r84 r64 l6 l7)) else (f_X0_hungerWith_89 F rec22 m64 l1 l2 l3 l4 r64 l6 l7)))))))
  refine zr_iload C dX0_hungerWith_22 rfl ?_
  refine zr_iload_n C dX0_hungerWith_24 rfl ?_
  refine zr_icmp_ge (tgt := 123) C dX0_hungerWith_25 (by decide) ?_ ?_
  · refine zr_iload C dX0_hungerWith_123 rfl ?_
    exact zr_iret C dX0_hungerWith_125
  · refine zr_iload C dX0_hungerWith_28 rfl ?_
    refine zr_bipush (v := 30) C dX0_hungerWith_30 rfl ?_
    refine zr_icmp_ge (tgt := 123) C dX0_hungerWith_32 (by decide) ?_ ?_
    · refine zr_iload C dX0_hungerWith_123 rfl ?_
      exact zr_iret C dX0_hungerWith_125
    · refine zr_aload_n C dX0_hungerWith_35 rfl ?_
      refine zf_X0_24 C (Nat.le_of_ble_eq_true rfl) dX0_hungerWith_36 ?_
      refine zr_iload C dX0_hungerWith_39 rfl ?_
      refine zr_iald (n := 30) C dX0_hungerWith_41 (Nat.le_of_ble_eq_true rfl) rfl ?_
      refine zr_iconst (v := 5) C dX0_hungerWith_42 rfl ?_
      refine zr_aload_n C dX0_hungerWith_43 rfl ?_
      refine zf_X0_9 C (Nat.le_of_ble_eq_true rfl) dX0_hungerWith_44 ?_
      refine zr_iload_n C dX0_hungerWith_47 rfl ?_
      refine zr_iald (n := 4) C dX0_hungerWith_48 (Nat.le_of_ble_eq_true rfl) rfl ?_
      refine zr_imul C dX0_hungerWith_49 ?_
      refine zr_isub C dX0_hungerWith_50 ?_
      refine zr_istore (i := 8) (L1 := [(8, .int _), (0, .ref _), (1, .int _), (2, .int _), (3, .int _), (4, .int _), (5, .int _), (6, .int _), (7, .int _)]) C dX0_hungerWith_51 (by decide) rfl ?_
      refine zr_iload C dX0_hungerWith_53 rfl ?_
      refine zr_iload C dX0_hungerWith_55 rfl ?_
      refine zr_aload_n C dX0_hungerWith_57 rfl ?_
      refine zf_X0_27 C (Nat.le_of_ble_eq_true rfl) dX0_hungerWith_58 ?_
      refine zr_iload C dX0_hungerWith_61 rfl ?_
      refine zr_iald (n := 30) C dX0_hungerWith_63 (Nat.le_of_ble_eq_true rfl) rfl ?_
      refine zk_X0_51 C F (Nat.le_trans (by decide) hh) (by simp [Value.category]) dX0_hungerWith_64 (fun r64 m64 => ?_)
      refine zr_istore (i := 5) (L1 := [(5, .int _), (8, .int _), (0, .ref _), (1, .int _), (2, .int _), (3, .int _), (4, .int _), (6, .int _), (7, .int _)]) C dX0_hungerWith_67 (by decide) rfl ?_
      refine zr_iload C dX0_hungerWith_69 rfl ?_
      refine zr_if_ne (tgt := 89) C dX0_hungerWith_71 (by decide) ?_ ?_
      · exact zr_sub [2, 3, 4, 5, 6, 0, 7, 8] rfl (c_X0_hungerWith_89 F rec22 C hh hrec22 m64 l1 l2 l3 l4 r64 l6 l7)
      · refine zr_iload C dX0_hungerWith_74 rfl ?_
        refine zr_iload C dX0_hungerWith_76 rfl ?_
        refine zr_aload_n C dX0_hungerWith_78 rfl ?_
        refine zf_X0_15 C (Nat.le_of_ble_eq_true rfl) dX0_hungerWith_79 ?_
        refine zr_iload_n C dX0_hungerWith_82 rfl ?_
        refine zr_iald (n := 4) C dX0_hungerWith_83 (Nat.le_of_ble_eq_true rfl) rfl ?_
        refine zk_X0_55 C F (Nat.le_trans (by decide) hh) (by simp [Value.category]) dX0_hungerWith_84 (fun r84 m84 => ?_)
        refine zr_istore (i := 4) (L1 := [(4, .int _), (5, .int _), (8, .int _), (0, .ref _), (1, .int _), (2, .int _), (3, .int _), (6, .int _), (7, .int _)]) C dX0_hungerWith_87 (by decide) rfl ?_
        exact zr_sub [3, 4, 5, 6, 0, 1, 7, 8] rfl (c_X0_hungerWith_89 F rec22 C hh hrec22 m84 l1 l2 l3 r84 r64 l6 l7)
def f_X0_hungerWith (F : Nat) (σ : zMem) (a1 : Int32) (a2 : Int32) (a3 : Int32) : Option (Int32 × zMem) := zg (inb a1 4) (zg (inb a1 4) (zit (f_X0_hungerWith_22 F) F σ ((a1, a2, a3, (σ.1 28 0 a1.toNatClampNeg), (σ.1 29 0 a1.toNatClampNeg), 0, 0))))
set_option maxHeartbeats 4000000 in
set_option maxRecDepth 100000 in
theorem c_X0_hungerWith (l : Launch) (Z : zLay) (F : Nat) (σ : zMem) (a1 : Int32) (a2 : Int32) (a3 : Int32) (r : Int32) (σ1 : zMem) (ho : f_X0_hungerWith F σ a1 a2 a3 = some (r, σ1)) : zMet l yX0_hungerWith cX0_hungerWith 10 (some .int) 2 Z [.ref (zad Z 25 0), .int (a1), .int (a2), .int (a3)] σ (zQI Z r σ1) := by
  refine zMet_of (Qc := zQI Z) (by decide) (Nat.le_of_ble_eq_true rfl) [(0, .ref (zad Z 25 0)), (1, .int (a1)), (2, .int (a2)), (3, .int (a3))] rfl (fun E C => ?_) ho
  have hh : 2 ≤ 2 := Nat.le_refl _
  show zKO E 10 Z (zMQ E Z (zQI Z)) 0 [(0, .ref (zad Z 25 0)), (1, .int (a1)), (2, .int (a2)), (3, .int (a3))] [] σ _
  unfold f_X0_hungerWith
  refine zr_aload_n C dX0_hungerWith_0 rfl ?_
  refine zf_X0_18 C (Nat.le_of_ble_eq_true rfl) dX0_hungerWith_1 ?_
  refine zr_iload_n C dX0_hungerWith_4 rfl ?_
  refine zr_iald (n := 4) C dX0_hungerWith_5 (Nat.le_of_ble_eq_true rfl) rfl ?_
  refine zr_istore (i := 4) (L1 := [(4, .int _), (0, .ref _), (1, .int _), (2, .int _), (3, .int _)]) C dX0_hungerWith_6 (by decide) rfl ?_
  refine zr_aload_n C dX0_hungerWith_8 rfl ?_
  refine zf_X0_21 C (Nat.le_of_ble_eq_true rfl) dX0_hungerWith_9 ?_
  refine zr_iload_n C dX0_hungerWith_12 rfl ?_
  refine zr_iald (n := 4) C dX0_hungerWith_13 (Nat.le_of_ble_eq_true rfl) rfl ?_
  refine zr_istore (i := 5) (L1 := [(5, .int _), (4, .int _), (0, .ref _), (1, .int _), (2, .int _), (3, .int _)]) C dX0_hungerWith_14 (by decide) rfl ?_
  refine zr_iconst (v := 0) C dX0_hungerWith_16 rfl ?_
  refine zr_istore (i := 6) (L1 := [(6, .int _), (5, .int _), (4, .int _), (0, .ref _), (1, .int _), (2, .int _), (3, .int _)]) C dX0_hungerWith_17 (by decide) rfl ?_
  refine zr_iconst (v := 0) C dX0_hungerWith_19 rfl ?_
  refine zr_istore (i := 7) (L1 := [(7, .int _), (6, .int _), (5, .int _), (4, .int _), (0, .ref _), (1, .int _), (2, .int _), (3, .int _)]) C dX0_hungerWith_20 (by decide) rfl ?_
  exact zr_sub [4, 5, 6, 7, 3, 2, 1, 0] rfl (c_X0_hungerWith_22 F C hh F σ ((a1, a2, a3, (σ.1 28 0 a1.toNatClampNeg), (σ.1 29 0 a1.toNatClampNeg), 0, 0)))
theorem zk_X10_439 (C : zCx E cc RX10 nL ret Z h) (F : Nat) {b0 : Int32} {b1 : Int32} {b2 : Int32} (hk : 0 < zN 25) (hh : 2 + 1 ≤ h) (hst8 : (st.map fun v => v.category).sum ≤ 8) (hd : decode cc pc = .ok (.invokevirtual 439, 3)) {g : Int32 → zMem → Option (α × zMem)} (kk : ∀ (r : Int32) (σ1 : zMem), zKO E nL Z QQ (pc + 3) L (.int r :: st) σ1 (g r σ1)) : zKO E nL Z QQ pc L (.int b2 :: .int b1 :: .int b0 :: .ref (zad Z 25 0) :: st) σ (zb (f_X0_hungerWith F σ b0 b1 b2) g) :=
  zr_callVNI (As := [.int b0, .int b1, .int b2]) (ia := 3) C (fun r σ1 ho => c_X0_hungerWith (zla E) Z F σ b0 b1 b2 r σ1 ho) wz_n987 hk rfl rfl wz_p68 wz_989 wz_990 wz_6 (by decide +kernel) rfl (by decide) hh hd hst8 kk
def f_X0_cowsOfSome_5 (F : Nat) (rec5 : zMem → Int32 × Int32 × Int32 × Int32 → Option (Int32 × zMem)) (σ : zMem) (x : Int32 × Int32 × Int32 × Int32) : Option (Int32 × zMem) := if x.2.1 ≤ x.2.2.2 then (some (x.2.2.1, σ)) else (if 5 ≤ x.2.2.2 then (some (x.2.2.1, σ)) else (if ((x.1 >>> (x.2.2.2 &&& 31)) &&& 1) = 1 then (zg (inb x.2.2.2 5) (rec5 σ ((x.1, x.2.1, (x.2.2.1 + (σ.1 32 0 x.2.2.2.toNatClampNeg)), (x.2.2.2 + 1))))) else (rec5 σ ((x.1, x.2.1, x.2.2.1, (x.2.2.2 + 1))))))
set_option maxHeartbeats 4000000 in
set_option maxRecDepth 100000 in
theorem c_X0_cowsOfSome_5 (F : Nat) {E : zEn} {h : Nat} {Z : zLay} (C : zCx E cX0_cowsOfSome RX0 5 (some .int) Z h) (hh : 1 ≤ h) : ∀ (n : Nat) (σ : zMem) (x : Int32 × Int32 × Int32 × Int32), zKO E 5 Z (zMQ E Z (zQI Z)) 5 [(0, .ref (zad Z 25 0)), (1, .int x.1), (2, .int x.2.1), (3, .int x.2.2.1), (4, .int x.2.2.2)] [] σ (zit (f_X0_cowsOfSome_5 F) n σ x) := by
  refine zr_loop (LL := fun (x : Int32 × Int32 × Int32 × Int32) => [(0, .ref (zad Z 25 0)), (1, .int x.1), (2, .int x.2.1), (3, .int x.2.2.1), (4, .int x.2.2.2)]) (ST := fun (x : Int32 × Int32 × Int32 × Int32) => []) (fun rec5 hrec5 σ x => ?_)
  obtain ⟨l1, l2, l3, l4⟩ := x
  show zKO E 5 Z (zMQ E Z (zQI Z)) 5 [(0, .ref (zad Z 25 0)), (1, .int l1), (2, .int l2), (3, .int l3), (4, .int l4)] [] σ (if l2 ≤ l4 then (some (l3, σ)) else (if 5 ≤ l4 then (some (l3, σ)) else (if ((l1 >>> (l4 &&& 31)) &&& 1) = 1 then (zg (inb l4 5) (rec5 σ ((l1, l2, (l3 + (σ.1 32 0 l4.toNatClampNeg)), (l4 + 1))))) else (rec5 σ ((l1, l2, l3, (l4 + 1)))))))
  refine zr_iload C dX0_cowsOfSome_5 rfl ?_
  refine zr_iload_n C dX0_cowsOfSome_7 rfl ?_
  refine zr_icmp_ge (tgt := 43) C dX0_cowsOfSome_8 (by decide) ?_ ?_
  · refine zr_iload_n C dX0_cowsOfSome_43 rfl ?_
    exact zr_iret C dX0_cowsOfSome_44
  · refine zr_iload C dX0_cowsOfSome_11 rfl ?_
    refine zr_iconst (v := 5) C dX0_cowsOfSome_13 rfl ?_
    refine zr_icmp_ge (tgt := 43) C dX0_cowsOfSome_14 (by decide) ?_ ?_
    · refine zr_iload_n C dX0_cowsOfSome_43 rfl ?_
      exact zr_iret C dX0_cowsOfSome_44
    · refine zr_iload_n C dX0_cowsOfSome_17 rfl ?_
      refine zr_iload C dX0_cowsOfSome_18 rfl ?_
      refine zr_ishr C dX0_cowsOfSome_20 ?_
      refine zr_iconst (v := 1) C dX0_cowsOfSome_21 rfl ?_
      refine zr_iand C dX0_cowsOfSome_22 ?_
      refine zr_iconst (v := 1) C dX0_cowsOfSome_23 rfl ?_
      refine zr_icmp_ne (tgt := 37) C dX0_cowsOfSome_24 (by decide) ?_ ?_
      · refine zr_iinc (kk := 4) (v := (l4 + 1)) (L1 := [(4, .int _), (0, .ref _), (1, .int _), (2, .int _), (3, .int _)]) C dX0_cowsOfSome_37 rfl rfl (by decide) rfl ?_
        refine zr_goto (tgt := 5) C dX0_cowsOfSome_40 (by decide) ?_
        exact zr_sub [1, 2, 3, 4, 0] rfl (hrec5 σ ((l1, l2, l3, (l4 + 1))))
      · refine zr_iload_n C dX0_cowsOfSome_27 rfl ?_
        refine zr_aload_n C dX0_cowsOfSome_28 rfl ?_
        refine zf_X0_30 C (Nat.le_of_ble_eq_true rfl) dX0_cowsOfSome_29 ?_
        refine zr_iload C dX0_cowsOfSome_32 rfl ?_
        refine zr_iald (n := 5) C dX0_cowsOfSome_34 (Nat.le_of_ble_eq_true rfl) rfl ?_
        refine zr_iadd C dX0_cowsOfSome_35 ?_
        refine zr_istore_n (i := 3) (L1 := [(3, .int _), (0, .ref _), (1, .int _), (2, .int _), (4, .int _)]) C dX0_cowsOfSome_36 rfl (by decide) rfl ?_
        refine zr_iinc (kk := 4) (v := (l4 + 1)) (L1 := [(4, .int _), (3, .int _), (0, .ref _), (1, .int _), (2, .int _)]) C dX0_cowsOfSome_37 rfl rfl (by decide) rfl ?_
        refine zr_goto (tgt := 5) C dX0_cowsOfSome_40 (by decide) ?_
        exact zr_sub [2, 3, 4, 1, 0] rfl (hrec5 σ ((l1, l2, (l3 + (σ.1 32 0 l4.toNatClampNeg)), (l4 + 1))))
def f_X0_cowsOfSome (F : Nat) (σ : zMem) (a1 : Int32) (a2 : Int32) : Option (Int32 × zMem) := zit (f_X0_cowsOfSome_5 F) F σ ((a1, a2, 0, 0))
set_option maxHeartbeats 4000000 in
set_option maxRecDepth 100000 in
theorem c_X0_cowsOfSome (l : Launch) (Z : zLay) (F : Nat) (σ : zMem) (a1 : Int32) (a2 : Int32) (r : Int32) (σ1 : zMem) (ho : f_X0_cowsOfSome F σ a1 a2 = some (r, σ1)) : zMet l yX0_cowsOfSome cX0_cowsOfSome 5 (some .int) 1 Z [.ref (zad Z 25 0), .int (a1), .int (a2)] σ (zQI Z r σ1) := by
  refine zMet_of (Qc := zQI Z) (by decide) (Nat.le_of_ble_eq_true rfl) [(0, .ref (zad Z 25 0)), (1, .int (a1)), (2, .int (a2))] rfl (fun E C => ?_) ho
  have hh : 1 ≤ 1 := Nat.le_refl _
  show zKO E 5 Z (zMQ E Z (zQI Z)) 0 [(0, .ref (zad Z 25 0)), (1, .int (a1)), (2, .int (a2))] [] σ _
  unfold f_X0_cowsOfSome
  refine zr_iconst (v := 0) C dX0_cowsOfSome_0 rfl ?_
  refine zr_istore_n (i := 3) (L1 := [(3, .int _), (0, .ref _), (1, .int _), (2, .int _)]) C dX0_cowsOfSome_1 rfl (by decide) rfl ?_
  refine zr_iconst (v := 0) C dX0_cowsOfSome_2 rfl ?_
  refine zr_istore (i := 4) (L1 := [(4, .int _), (3, .int _), (0, .ref _), (1, .int _), (2, .int _)]) C dX0_cowsOfSome_3 (by decide) rfl ?_
  exact zr_sub [2, 3, 4, 1, 0] rfl (c_X0_cowsOfSome_5 F C hh F σ ((a1, a2, 0, 0)))
theorem zk_X10_436 (C : zCx E cc RX10 nL ret Z h) (F : Nat) {b0 : Int32} {b1 : Int32} (hk : 0 < zN 25) (hh : 1 + 1 ≤ h) (hst8 : (st.map fun v => v.category).sum ≤ 8) (hd : decode cc pc = .ok (.invokevirtual 436, 3)) {g : Int32 → zMem → Option (α × zMem)} (kk : ∀ (r : Int32) (σ1 : zMem), zKO E nL Z QQ (pc + 3) L (.int r :: st) σ1 (g r σ1)) : zKO E nL Z QQ pc L (.int b1 :: .int b0 :: .ref (zad Z 25 0) :: st) σ (zb (f_X0_cowsOfSome F σ b0 b1) g) :=
  zr_callVNI (As := [.int b0, .int b1]) (ia := 2) C (fun r σ1 ho => c_X0_cowsOfSome (zla E) Z F σ b0 b1 r σ1 ho) wz_n983 hk rfl rfl wz_p67 wz_985 wz_986 wz_6 (by decide +kernel) rfl (by decide) hh hd hst8 kk
def f_X0_keepPlan_2 (F : Nat) (rec2 : zMem → Int32 × Int32 → Option (Unit × zMem)) (σ : zMem) (x : Int32 × Int32) : Option (Unit × zMem) := if x.1 ≤ x.2 then (some ((), σ)) else (zg (inb x.2 5) (zg (inb x.2 5) (rec2 (zwi σ 37 0 x.2.toNatClampNeg ((σ.1 35 0 x.2.toNatClampNeg))) ((x.1, (x.2 + 1))))))
set_option maxHeartbeats 4000000 in
set_option maxRecDepth 100000 in
theorem c_X0_keepPlan_2 (F : Nat) {E : zEn} {h : Nat} {Z : zLay} (C : zCx E cX0_keepPlan RX0 3 none Z h) (hh : 1 ≤ h) : ∀ (n : Nat) (σ : zMem) (x : Int32 × Int32), zKO E 3 Z (zMQ E Z (zQV Z)) 2 [(0, .ref (zad Z 25 0)), (1, .int x.1), (2, .int x.2)] [] σ (zit (f_X0_keepPlan_2 F) n σ x) := by
  refine zr_loop (LL := fun (x : Int32 × Int32) => [(0, .ref (zad Z 25 0)), (1, .int x.1), (2, .int x.2)]) (ST := fun (x : Int32 × Int32) => []) (fun rec2 hrec2 σ x => ?_)
  obtain ⟨l1, l2⟩ := x
  show zKO E 3 Z (zMQ E Z (zQV Z)) 2 [(0, .ref (zad Z 25 0)), (1, .int l1), (2, .int l2)] [] σ (if l1 ≤ l2 then (some ((), σ)) else (zg (inb l2 5) (zg (inb l2 5) (rec2 (zwi σ 37 0 l2.toNatClampNeg ((σ.1 35 0 l2.toNatClampNeg))) ((l1, (l2 + 1)))))))
  refine zr_iload_n C dX0_keepPlan_2 rfl ?_
  refine zr_iload_n C dX0_keepPlan_3 rfl ?_
  refine zr_icmp_ge (tgt := 25) C dX0_keepPlan_4 (by decide) ?_ ?_
  · exact zr_vret C dX0_keepPlan_25
  · refine zr_aload_n C dX0_keepPlan_7 rfl ?_
    refine zf_X0_44 C (Nat.le_of_ble_eq_true rfl) dX0_keepPlan_8 ?_
    refine zr_iload_n C dX0_keepPlan_11 rfl ?_
    refine zr_aload_n C dX0_keepPlan_12 rfl ?_
    refine zf_X0_38 C (Nat.le_of_ble_eq_true rfl) dX0_keepPlan_13 ?_
    refine zr_iload_n C dX0_keepPlan_16 rfl ?_
    refine zr_iald (n := 5) C dX0_keepPlan_17 (Nat.le_of_ble_eq_true rfl) rfl ?_
    refine zr_iast (n := 5) C dX0_keepPlan_18 (Nat.le_of_ble_eq_true rfl) (fun _ _ => rfl) ?_
    refine zr_iinc (kk := 2) (v := (l2 + 1)) (L1 := [(2, .int _), (0, .ref _), (1, .int _)]) C dX0_keepPlan_19 rfl rfl (by decide) rfl ?_
    refine zr_goto (tgt := 2) C dX0_keepPlan_22 (by decide) ?_
    exact zr_sub [1, 2, 0] rfl (hrec2 (zwi σ 37 0 l2.toNatClampNeg ((σ.1 35 0 l2.toNatClampNeg))) ((l1, (l2 + 1))))
def f_X0_keepPlan (F : Nat) (σ : zMem) (a1 : Int32) : Option (Unit × zMem) := zit (f_X0_keepPlan_2 F) F σ ((a1, 0))
set_option maxHeartbeats 4000000 in
set_option maxRecDepth 100000 in
theorem c_X0_keepPlan (l : Launch) (Z : zLay) (F : Nat) (σ : zMem) (a1 : Int32) (r : Unit) (σ1 : zMem) (ho : f_X0_keepPlan F σ a1 = some (r, σ1)) : zMet l yX0_keepPlan cX0_keepPlan 3 none 1 Z [.ref (zad Z 25 0), .int (a1)] σ (zQV Z r σ1) := by
  refine zMet_of (Qc := zQV Z) (by decide) (Nat.le_of_ble_eq_true rfl) [(0, .ref (zad Z 25 0)), (1, .int (a1))] rfl (fun E C => ?_) ho
  have hh : 1 ≤ 1 := Nat.le_refl _
  show zKO E 3 Z (zMQ E Z (zQV Z)) 0 [(0, .ref (zad Z 25 0)), (1, .int (a1))] [] σ _
  unfold f_X0_keepPlan
  refine zr_iconst (v := 0) C dX0_keepPlan_0 rfl ?_
  refine zr_istore_n (i := 2) (L1 := [(2, .int _), (0, .ref _), (1, .int _)]) C dX0_keepPlan_1 rfl (by decide) rfl ?_
  exact zr_sub [1, 2, 0] rfl (c_X0_keepPlan_2 F C hh F σ ((a1, 0)))
theorem zk_X0_79 (C : zCx E cc RX0 nL ret Z h) (F : Nat) {b0 : Int32} (hk : 0 < zN 25) (hh : 1 + 1 ≤ h) (hst8 : (st.map fun v => v.category).sum ≤ 8) (hd : decode cc pc = .ok (.invokevirtual 79, 3)) {g : Unit → zMem → Option (α × zMem)} (kk : ∀ (r : Unit) (σ1 : zMem), zKO E nL Z QQ (pc + 3) L (st) σ1 (g r σ1)) : zKO E nL Z QQ pc L (.int b0 :: .ref (zad Z 25 0) :: st) σ (zb (f_X0_keepPlan F σ b0) g) :=
  zr_callVU (As := [.int b0]) (ia := 1) C (fun r σ1 ho => c_X0_keepPlan (zla E) Z F σ b0 r σ1 ho) wz_999 hk rfl rfl wz_p71 wz_1001 wz_1002 wz_6 (by decide +kernel) rfl (by decide) hh hd hst8 kk
def f_X0_beginPlans_31 (F : Nat) (rec31 : zMem → Int32 × Int32 × Int32 → Option (Int32 × zMem)) (σ : zMem) (x : Int32 × Int32 × Int32) : Option (Int32 × zMem) := if (σ.1 25 0 4) ≤ x.2.2 then (zg (inb 0 4) (zb (f_X0_keepPlan F (zwi σ 36 0 0 (((1 <<< (x.1 &&& 31)) - 1))) x.1) fun r65 m65 => some (x.2.1, m65))) else (zg (inb x.2.2 4) (rec31 (zwi σ 36 0 x.2.2.toNatClampNeg 0) ((x.1, x.2.1, (x.2.2 + 1)))))
set_option maxHeartbeats 4000000 in
set_option maxRecDepth 100000 in
theorem c_X0_beginPlans_31 (F : Nat) {E : zEn} {h : Nat} {Z : zLay} (C : zCx E cX0_beginPlans RX0 4 (some .int) Z h) (hh : 2 ≤ h) : ∀ (n : Nat) (σ : zMem) (x : Int32 × Int32 × Int32), zKO E 4 Z (zMQ E Z (zQI Z)) 31 [(0, .ref (zad Z 25 0)), (1, .int x.1), (2, .int x.2.1), (3, .int x.2.2)] [] σ (zit (f_X0_beginPlans_31 F) n σ x) := by
  refine zr_loop (LL := fun (x : Int32 × Int32 × Int32) => [(0, .ref (zad Z 25 0)), (1, .int x.1), (2, .int x.2.1), (3, .int x.2.2)]) (ST := fun (x : Int32 × Int32 × Int32) => []) (fun rec31 hrec31 σ x => ?_)
  obtain ⟨l1, l2, l3⟩ := x
  show zKO E 4 Z (zMQ E Z (zQI Z)) 31 [(0, .ref (zad Z 25 0)), (1, .int l1), (2, .int l2), (3, .int l3)] [] σ (if (σ.1 25 0 4) ≤ l3 then (zg (inb 0 4) (zb (f_X0_keepPlan F (zwi σ 36 0 0 (((1 <<< (l1 &&& 31)) - 1))) l1) fun r65 m65 => some (l2, m65))) else (zg (inb l3 4) (rec31 (zwi σ 36 0 l3.toNatClampNeg 0) ((l1, l2, (l3 + 1))))))
  refine zr_iload_n C dX0_beginPlans_31 rfl ?_
  refine zr_aload_n C dX0_beginPlans_32 rfl ?_
  refine zf_X0_47 C (Nat.le_of_ble_eq_true rfl) dX0_beginPlans_33 ?_
  refine zr_icmp_ge (tgt := 52) C dX0_beginPlans_36 (by decide) ?_ ?_
  · refine zr_aload_n C dX0_beginPlans_52 rfl ?_
    refine zf_X0_41 C (Nat.le_of_ble_eq_true rfl) dX0_beginPlans_53 ?_
    refine zr_iconst (v := 0) C dX0_beginPlans_56 rfl ?_
    refine zr_iconst (v := 1) C dX0_beginPlans_57 rfl ?_
    refine zr_iload_n C dX0_beginPlans_58 rfl ?_
    refine zr_ishl C dX0_beginPlans_59 ?_
    refine zr_iconst (v := 1) C dX0_beginPlans_60 rfl ?_
    refine zr_isub C dX0_beginPlans_61 ?_
    refine zr_iast (n := 4) C dX0_beginPlans_62 (Nat.le_of_ble_eq_true rfl) (fun _ _ => rfl) ?_
    refine zr_aload_n C dX0_beginPlans_63 rfl ?_
    refine zr_iload_n C dX0_beginPlans_64 rfl ?_
    refine zk_X0_79 C F (Nat.le_of_ble_eq_true rfl) (Nat.le_trans (by decide) hh) (by simp [Value.category]) dX0_beginPlans_65 (fun r65 m65 => ?_)
    refine zr_iload_n C dX0_beginPlans_68 rfl ?_
    exact zr_iret C dX0_beginPlans_69
  · refine zr_aload_n C dX0_beginPlans_39 rfl ?_
    refine zf_X0_41 C (Nat.le_of_ble_eq_true rfl) dX0_beginPlans_40 ?_
    refine zr_iload_n C dX0_beginPlans_43 rfl ?_
    refine zr_iconst (v := 0) C dX0_beginPlans_44 rfl ?_
    refine zr_iast (n := 4) C dX0_beginPlans_45 (Nat.le_of_ble_eq_true rfl) (fun _ _ => rfl) ?_
    refine zr_iinc (kk := 3) (v := (l3 + 1)) (L1 := [(3, .int _), (0, .ref _), (1, .int _), (2, .int _)]) C dX0_beginPlans_46 rfl rfl (by decide) rfl ?_
    refine zr_goto (tgt := 31) C dX0_beginPlans_49 (by decide) ?_
    exact zr_sub [1, 2, 3, 0] rfl (hrec31 (zwi σ 36 0 l3.toNatClampNeg 0) ((l1, l2, (l3 + 1))))
def f_X0_beginPlans_4 (F : Nat) (rec4 : zMem → Int32 × Int32 × Int32 → Option (Int32 × zMem)) (σ : zMem) (x : Int32 × Int32 × Int32) : Option (Int32 × zMem) := if x.1 ≤ x.2.2 then (zit (f_X0_beginPlans_31 F) F σ ((x.1, x.2.1, 0))) else (zg (inb x.2.2 5) (rec4 (zwi σ 35 0 x.2.2.toNatClampNeg 0) ((x.1, (x.2.1 * (σ.1 25 0 4)), (x.2.2 + 1)))))
set_option maxHeartbeats 4000000 in
set_option maxRecDepth 100000 in
theorem c_X0_beginPlans_4 (F : Nat) {E : zEn} {h : Nat} {Z : zLay} (C : zCx E cX0_beginPlans RX0 4 (some .int) Z h) (hh : 2 ≤ h) : ∀ (n : Nat) (σ : zMem) (x : Int32 × Int32 × Int32), zKO E 4 Z (zMQ E Z (zQI Z)) 4 [(0, .ref (zad Z 25 0)), (1, .int x.1), (2, .int x.2.1), (3, .int x.2.2)] [] σ (zit (f_X0_beginPlans_4 F) n σ x) := by
  refine zr_loop (LL := fun (x : Int32 × Int32 × Int32) => [(0, .ref (zad Z 25 0)), (1, .int x.1), (2, .int x.2.1), (3, .int x.2.2)]) (ST := fun (x : Int32 × Int32 × Int32) => []) (fun rec4 hrec4 σ x => ?_)
  obtain ⟨l1, l2, l3⟩ := x
  show zKO E 4 Z (zMQ E Z (zQI Z)) 4 [(0, .ref (zad Z 25 0)), (1, .int l1), (2, .int l2), (3, .int l3)] [] σ (if l1 ≤ l3 then (zit (f_X0_beginPlans_31 F) F σ ((l1, l2, 0))) else (zg (inb l3 5) (rec4 (zwi σ 35 0 l3.toNatClampNeg 0) ((l1, (l2 * (σ.1 25 0 4)), (l3 + 1))))))
  refine zr_iload_n C dX0_beginPlans_4 rfl ?_
  refine zr_iload_n C dX0_beginPlans_5 rfl ?_
  refine zr_icmp_ge (tgt := 29) C dX0_beginPlans_6 (by decide) ?_ ?_
  · refine zr_iconst (v := 0) C dX0_beginPlans_29 rfl ?_
    refine zr_istore_n (i := 3) (L1 := [(3, .int _), (0, .ref _), (1, .int _), (2, .int _)]) C dX0_beginPlans_30 rfl (by decide) rfl ?_
    exact zr_sub [1, 2, 3, 0] rfl (c_X0_beginPlans_31 F C hh F σ ((l1, l2, 0)))
  · refine zr_iload_n C dX0_beginPlans_9 rfl ?_
    refine zr_aload_n C dX0_beginPlans_10 rfl ?_
    refine zf_X0_47 C (Nat.le_of_ble_eq_true rfl) dX0_beginPlans_11 ?_
    refine zr_imul C dX0_beginPlans_14 ?_
    refine zr_istore_n (i := 2) (L1 := [(2, .int _), (0, .ref _), (1, .int _), (3, .int _)]) C dX0_beginPlans_15 rfl (by decide) rfl ?_
    refine zr_aload_n C dX0_beginPlans_16 rfl ?_
    refine zf_X0_38 C (Nat.le_of_ble_eq_true rfl) dX0_beginPlans_17 ?_
    refine zr_iload_n C dX0_beginPlans_20 rfl ?_
    refine zr_iconst (v := 0) C dX0_beginPlans_21 rfl ?_
    refine zr_iast (n := 5) C dX0_beginPlans_22 (Nat.le_of_ble_eq_true rfl) (fun _ _ => rfl) ?_
    refine zr_iinc (kk := 3) (v := (l3 + 1)) (L1 := [(3, .int _), (2, .int _), (0, .ref _), (1, .int _)]) C dX0_beginPlans_23 rfl rfl (by decide) rfl ?_
    refine zr_goto (tgt := 4) C dX0_beginPlans_26 (by decide) ?_
    exact zr_sub [2, 3, 1, 0] rfl (hrec4 (zwi σ 35 0 l3.toNatClampNeg 0) ((l1, (l2 * (σ.1 25 0 4)), (l3 + 1))))
def f_X0_beginPlans (F : Nat) (σ : zMem) (a1 : Int32) : Option (Int32 × zMem) := zit (f_X0_beginPlans_4 F) F σ ((a1, 1, 0))
set_option maxHeartbeats 4000000 in
set_option maxRecDepth 100000 in
theorem c_X0_beginPlans (l : Launch) (Z : zLay) (F : Nat) (σ : zMem) (a1 : Int32) (r : Int32) (σ1 : zMem) (ho : f_X0_beginPlans F σ a1 = some (r, σ1)) : zMet l yX0_beginPlans cX0_beginPlans 4 (some .int) 2 Z [.ref (zad Z 25 0), .int (a1)] σ (zQI Z r σ1) := by
  refine zMet_of (Qc := zQI Z) (by decide) (Nat.le_of_ble_eq_true rfl) [(0, .ref (zad Z 25 0)), (1, .int (a1))] rfl (fun E C => ?_) ho
  have hh : 2 ≤ 2 := Nat.le_refl _
  show zKO E 4 Z (zMQ E Z (zQI Z)) 0 [(0, .ref (zad Z 25 0)), (1, .int (a1))] [] σ _
  unfold f_X0_beginPlans
  refine zr_iconst (v := 1) C dX0_beginPlans_0 rfl ?_
  refine zr_istore_n (i := 2) (L1 := [(2, .int _), (0, .ref _), (1, .int _)]) C dX0_beginPlans_1 rfl (by decide) rfl ?_
  refine zr_iconst (v := 0) C dX0_beginPlans_2 rfl ?_
  refine zr_istore_n (i := 3) (L1 := [(3, .int _), (2, .int _), (0, .ref _), (1, .int _)]) C dX0_beginPlans_3 rfl (by decide) rfl ?_
  exact zr_sub [2, 3, 1, 0] rfl (c_X0_beginPlans_4 F C hh F σ ((a1, 1, 0)))
theorem zk_X0_67 (C : zCx E cc RX0 nL ret Z h) (F : Nat) {b0 : Int32} (hk : 0 < zN 25) (hh : 2 + 1 ≤ h) (hst8 : (st.map fun v => v.category).sum ≤ 8) (hd : decode cc pc = .ok (.invokevirtual 67, 3)) {g : Int32 → zMem → Option (α × zMem)} (kk : ∀ (r : Int32) (σ1 : zMem), zKO E nL Z QQ (pc + 3) L (.int r :: st) σ1 (g r σ1)) : zKO E nL Z QQ pc L (.int b0 :: .ref (zad Z 25 0) :: st) σ (zb (f_X0_beginPlans F σ b0) g) :=
  zr_callVI (As := [.int b0]) (ia := 1) C (fun r σ1 ho => c_X0_beginPlans (zla E) Z F σ b0 r σ1 ho) wz_995 hk rfl rfl wz_p70 wz_997 wz_998 wz_6 (by decide +kernel) rfl (by decide) hh hd hst8 kk
def f_X0_hungerNow_4 (F : Nat) (rec4 : zMem → Int32 × Int32 → Option (Int32 × zMem)) (σ : zMem) (x : Int32 × Int32) : Option (Int32 × zMem) := if (σ.1 25 0 4) ≤ x.2 then (some (x.1, σ)) else (zg (inb x.2 4) (zg (inb x.2 4) (zg (inb ((σ.1 36 0 x.2.toNatClampNeg)) 32) (rec4 σ (((x.1 + (σ.1 34 x.2.toNatClampNeg ((σ.1 36 0 x.2.toNatClampNeg)).toNatClampNeg)), (x.2 + 1)))))))
set_option maxHeartbeats 4000000 in
set_option maxRecDepth 100000 in
theorem c_X0_hungerNow_4 (F : Nat) {E : zEn} {h : Nat} {Z : zLay} (C : zCx E cX0_hungerNow RX0 3 (some .int) Z h) (hh : 1 ≤ h) : ∀ (n : Nat) (σ : zMem) (x : Int32 × Int32), zKO E 3 Z (zMQ E Z (zQI Z)) 4 [(0, .ref (zad Z 25 0)), (1, .int x.1), (2, .int x.2)] [] σ (zit (f_X0_hungerNow_4 F) n σ x) := by
  refine zr_loop (LL := fun (x : Int32 × Int32) => [(0, .ref (zad Z 25 0)), (1, .int x.1), (2, .int x.2)]) (ST := fun (x : Int32 × Int32) => []) (fun rec4 hrec4 σ x => ?_)
  obtain ⟨l1, l2⟩ := x
  show zKO E 3 Z (zMQ E Z (zQI Z)) 4 [(0, .ref (zad Z 25 0)), (1, .int l1), (2, .int l2)] [] σ (if (σ.1 25 0 4) ≤ l2 then (some (l1, σ)) else (zg (inb l2 4) (zg (inb l2 4) (zg (inb ((σ.1 36 0 l2.toNatClampNeg)) 32) (rec4 σ (((l1 + (σ.1 34 l2.toNatClampNeg ((σ.1 36 0 l2.toNatClampNeg)).toNatClampNeg)), (l2 + 1))))))))
  refine zr_iload_n C dX0_hungerNow_4 rfl ?_
  refine zr_aload_n C dX0_hungerNow_5 rfl ?_
  refine zf_X0_47 C (Nat.le_of_ble_eq_true rfl) dX0_hungerNow_6 ?_
  refine zr_icmp_ge (tgt := 34) C dX0_hungerNow_9 (by decide) ?_ ?_
  · refine zr_iload_n C dX0_hungerNow_34 rfl ?_
    exact zr_iret C dX0_hungerNow_35
  · refine zr_iload_n C dX0_hungerNow_12 rfl ?_
    refine zr_aload_n C dX0_hungerNow_13 rfl ?_
    refine zf_X0_35 C (Nat.le_of_ble_eq_true rfl) dX0_hungerNow_14 ?_
    refine zr_iload_n C dX0_hungerNow_17 rfl ?_
    refine zr_aald (n := 4) (k1 := 34) C dX0_hungerNow_18 (Nat.le_of_ble_eq_true rfl) rfl rfl rfl (fun hb18 => ?_)
    refine zr_aload_n C dX0_hungerNow_19 rfl ?_
    refine zf_X0_41 C (Nat.le_of_ble_eq_true rfl) dX0_hungerNow_20 ?_
    refine zr_iload_n C dX0_hungerNow_23 rfl ?_
    refine zr_iald (n := 4) C dX0_hungerNow_24 (Nat.le_of_ble_eq_true rfl) rfl ?_
    refine zr_iald (n := 32) C dX0_hungerNow_25 hb18 rfl ?_
    refine zr_iadd C dX0_hungerNow_26 ?_
    refine zr_istore_n (i := 1) (L1 := [(1, .int _), (0, .ref _), (2, .int _)]) C dX0_hungerNow_27 rfl (by decide) rfl ?_
    refine zr_iinc (kk := 2) (v := (l2 + 1)) (L1 := [(2, .int _), (1, .int _), (0, .ref _)]) C dX0_hungerNow_28 rfl rfl (by decide) rfl ?_
    refine zr_goto (tgt := 4) C dX0_hungerNow_31 (by decide) ?_
    exact zr_sub [2, 1, 0] rfl (hrec4 σ (((l1 + (σ.1 34 l2.toNatClampNeg ((σ.1 36 0 l2.toNatClampNeg)).toNatClampNeg)), (l2 + 1))))
def f_X0_hungerNow (F : Nat) (σ : zMem) : Option (Int32 × zMem) := zit (f_X0_hungerNow_4 F) F σ ((0, 0))
set_option maxHeartbeats 4000000 in
set_option maxRecDepth 100000 in
theorem c_X0_hungerNow (l : Launch) (Z : zLay) (F : Nat) (σ : zMem) (r : Int32) (σ1 : zMem) (ho : f_X0_hungerNow F σ = some (r, σ1)) : zMet l yX0_hungerNow cX0_hungerNow 3 (some .int) 1 Z [.ref (zad Z 25 0)] σ (zQI Z r σ1) := by
  refine zMet_of (Qc := zQI Z) (by decide) (Nat.le_of_ble_eq_true rfl) [(0, .ref (zad Z 25 0))] rfl (fun E C => ?_) ho
  have hh : 1 ≤ 1 := Nat.le_refl _
  show zKO E 3 Z (zMQ E Z (zQI Z)) 0 [(0, .ref (zad Z 25 0))] [] σ _
  unfold f_X0_hungerNow
  refine zr_iconst (v := 0) C dX0_hungerNow_0 rfl ?_
  refine zr_istore_n (i := 1) (L1 := [(1, .int _), (0, .ref _)]) C dX0_hungerNow_1 rfl (by decide) rfl ?_
  refine zr_iconst (v := 0) C dX0_hungerNow_2 rfl ?_
  refine zr_istore_n (i := 2) (L1 := [(2, .int _), (1, .int _), (0, .ref _)]) C dX0_hungerNow_3 rfl (by decide) rfl ?_
  exact zr_sub [2, 1, 0] rfl (c_X0_hungerNow_4 F C hh F σ ((0, 0)))
theorem zk_X0_71 (C : zCx E cc RX0 nL ret Z h) (F : Nat)  (hk : 0 < zN 25) (hh : 1 + 1 ≤ h) (hst8 : (st.map fun v => v.category).sum ≤ 8) (hd : decode cc pc = .ok (.invokevirtual 71, 3)) {g : Int32 → zMem → Option (α × zMem)} (kk : ∀ (r : Int32) (σ1 : zMem), zKO E nL Z QQ (pc + 3) L (.int r :: st) σ1 (g r σ1)) : zKO E nL Z QQ pc L (.ref (zad Z 25 0) :: st) σ (zb (f_X0_hungerNow F σ) g) :=
  zr_callVI (As := []) (ia := 0) C (fun r σ1 ho => c_X0_hungerNow (zla E) Z F σ r σ1 ho) wz_1003 hk rfl rfl wz_p72 wz_1005 wz_1006 wz_6 (by decide +kernel) rfl (by decide) hh hd hst8 kk
def f_X0_turnPlan_73 (F : Nat) (rec6 : zMem → Int32 × Int32 → Option (Unit × zMem)) (σ : zMem) (l2 : Int32) (l3 : Int32) (s0 : Int32) (s1 : Int32) : Option (Unit × zMem) := zg (inb s1 5) (zg (inb l3 5) (zg (inb (((zwi σ 35 0 s1.toNatClampNeg s0).1 35 0 l3.toNatClampNeg)) 4) (zg (inb (((zwi σ 35 0 s1.toNatClampNeg s0).1 35 0 l3.toNatClampNeg)) 4) (rec6 (zwi (zwi σ 35 0 s1.toNatClampNeg s0) 36 0 (((zwi σ 35 0 s1.toNatClampNeg s0).1 35 0 l3.toNatClampNeg)).toNatClampNeg ((((zwi σ 35 0 s1.toNatClampNeg s0).1 36 0 (((zwi σ 35 0 s1.toNatClampNeg s0).1 35 0 l3.toNatClampNeg)).toNatClampNeg) ^^^ (1 <<< (l3 &&& 31))))) ((l2, (l3 + (-1))))))))
set_option maxHeartbeats 4000000 in
set_option maxRecDepth 100000 in
theorem c_X0_turnPlan_73 (F : Nat) (rec6 : zMem → Int32 × Int32 → Option (Unit × zMem)) {E : zEn} {h : Nat} {Z : zLay} (C : zCx E cX0_turnPlan RX0 4 none Z h) (hh : 1 ≤ h) (hrec6 : ∀ (σ : zMem) (x : Int32 × Int32), zKO E 4 Z (zMQ E Z (zQV Z)) 6 [(0, .ref (zad Z 25 0)), (2, .int x.1), (3, .int x.2)] [] σ (rec6 σ x)) (σ : zMem) (l2 : Int32) (l3 : Int32) (s0 : Int32) (s1 : Int32) : zKO E 4 Z (zMQ E Z (zQV Z)) 73 [(0, .ref (zad Z 25 0)), (2, .int l2), (3, .int l3)] [.int s0, .int s1, .ref (zad Z 35 0)] σ (f_X0_turnPlan_73 F rec6 σ l2 l3 s0 s1) := by
  unfold f_X0_turnPlan_73
  refine zr_iast (n := 5) C dX0_turnPlan_73 (Nat.le_of_ble_eq_true rfl) (fun _ _ => rfl) ?_
  refine zr_aload_n C dX0_turnPlan_74 rfl ?_
  refine zf_X0_41 C (Nat.le_of_ble_eq_true rfl) dX0_turnPlan_75 ?_
  refine zr_aload_n C dX0_turnPlan_78 rfl ?_
  refine zf_X0_38 C (Nat.le_of_ble_eq_true rfl) dX0_turnPlan_79 ?_
  refine zr_iload_n C dX0_turnPlan_82 rfl ?_
  refine zr_iald (n := 5) C dX0_turnPlan_83 (Nat.le_of_ble_eq_true rfl) rfl ?_
  refine zr_dup2 C dX0_turnPlan_84 rfl rfl ?_
  refine zr_iald (n := 4) C dX0_turnPlan_85 (Nat.le_of_ble_eq_true rfl) rfl ?_
  refine zr_iconst (v := 1) C dX0_turnPlan_86 rfl ?_
  refine zr_iload_n C dX0_turnPlan_87 rfl ?_
  refine zr_ishl C dX0_turnPlan_88 ?_
  refine zr_ixor C dX0_turnPlan_89 ?_
  refine zr_iast (n := 4) C dX0_turnPlan_90 (Nat.le_of_ble_eq_true rfl) (fun _ _ => rfl) ?_
  refine zr_iinc (kk := 2) (v := (l3 + (-1))) (L1 := [(3, .int _), (0, .ref _), (2, .int _)]) C dX0_turnPlan_91 rfl rfl (by decide) rfl ?_
  refine zr_goto (tgt := 6) C dX0_turnPlan_94 (by decide) ?_
  exact zr_sub [1, 2, 0] rfl (hrec6 (zwi (zwi σ 35 0 s1.toNatClampNeg s0) 36 0 (((zwi σ 35 0 s1.toNatClampNeg s0).1 35 0 l3.toNatClampNeg)).toNatClampNeg ((((zwi σ 35 0 s1.toNatClampNeg s0).1 36 0 (((zwi σ 35 0 s1.toNatClampNeg s0).1 35 0 l3.toNatClampNeg)).toNatClampNeg) ^^^ (1 <<< (l3 &&& 31))))) ((l2, (l3 + (-1)))))
def f_X0_turnPlan_51 (F : Nat) (rec6 : zMem → Int32 × Int32 → Option (Unit × zMem)) (σ : zMem) (l3 : Int32) (s0 : Int32) : Option (Unit × zMem) := if s0 = 0 then (f_X0_turnPlan_73 F rec6 σ s0 l3 0 l3) else (zg (inb l3 5) (f_X0_turnPlan_73 F rec6 σ s0 l3 (((σ.1 35 0 l3.toNatClampNeg) + 1)) l3))
set_option maxHeartbeats 4000000 in
set_option maxRecDepth 100000 in
theorem c_X0_turnPlan_51 (F : Nat) (rec6 : zMem → Int32 × Int32 → Option (Unit × zMem)) {E : zEn} {h : Nat} {Z : zLay} (C : zCx E cX0_turnPlan RX0 4 none Z h) (hh : 1 ≤ h) (hrec6 : ∀ (σ : zMem) (x : Int32 × Int32), zKO E 4 Z (zMQ E Z (zQV Z)) 6 [(0, .ref (zad Z 25 0)), (2, .int x.1), (3, .int x.2)] [] σ (rec6 σ x)) (σ : zMem) (l3 : Int32) (s0 : Int32) : zKO E 4 Z (zMQ E Z (zQV Z)) 51 [(0, .ref (zad Z 25 0)), (3, .int l3)] [.int s0] σ (f_X0_turnPlan_51 F rec6 σ l3 s0) := by
  unfold f_X0_turnPlan_51
  refine zr_istore_n (i := 2) (L1 := [(2, .int _), (0, .ref _), (3, .int _)]) C dX0_turnPlan_51 rfl (by decide) rfl ?_
  refine zr_aload_n C dX0_turnPlan_52 rfl ?_
  refine zf_X0_38 C (Nat.le_of_ble_eq_true rfl) dX0_turnPlan_53 ?_
  refine zr_iload_n C dX0_turnPlan_56 rfl ?_
  refine zr_iload_n C dX0_turnPlan_57 rfl ?_
  refine zr_if_eq (tgt := 72) C dX0_turnPlan_58 (by decide) ?_ ?_
  · refine zr_iconst (v := 0) C dX0_turnPlan_72 rfl ?_
    exact zr_sub [1, 0, 2] rfl (c_X0_turnPlan_73 F rec6 C hh hrec6 σ s0 l3 0 l3)
  · refine zr_aload_n C dX0_turnPlan_61 rfl ?_
    refine zf_X0_38 C (Nat.le_of_ble_eq_true rfl) dX0_turnPlan_62 ?_
    refine zr_iload_n C dX0_turnPlan_65 rfl ?_
    refine zr_iald (n := 5) C dX0_turnPlan_66 (Nat.le_of_ble_eq_true rfl) rfl ?_
    refine zr_iconst (v := 1) C dX0_turnPlan_67 rfl ?_
    refine zr_iadd C dX0_turnPlan_68 ?_
    refine zr_goto (tgt := 73) C dX0_turnPlan_69 (by decide) ?_
    exact zr_sub [1, 0, 2] rfl (c_X0_turnPlan_73 F rec6 C hh hrec6 σ s0 l3 (((σ.1 35 0 l3.toNatClampNeg) + 1)) l3)
def f_X0_turnPlan_6 (F : Nat) (rec6 : zMem → Int32 × Int32 → Option (Unit × zMem)) (σ : zMem) (x : Int32 × Int32) : Option (Unit × zMem) := if x.2 < 0 then (some ((), σ)) else (if x.1 = 0 then (zg (inb x.2 5) (zg (inb ((σ.1 35 0 x.2.toNatClampNeg)) 4) (zg (inb ((σ.1 35 0 x.2.toNatClampNeg)) 4) (zg (inb x.2 5) (if ((zwi σ 36 0 ((σ.1 35 0 x.2.toNatClampNeg)).toNatClampNeg (((σ.1 36 0 ((σ.1 35 0 x.2.toNatClampNeg)).toNatClampNeg) ^^^ (1 <<< (x.2 &&& 31))))).1 25 0 4) ≤ (((zwi σ 36 0 ((σ.1 35 0 x.2.toNatClampNeg)).toNatClampNeg (((σ.1 36 0 ((σ.1 35 0 x.2.toNatClampNeg)).toNatClampNeg) ^^^ (1 <<< (x.2 &&& 31))))).1 35 0 x.2.toNatClampNeg) + 1) then (f_X0_turnPlan_51 F rec6 (zwi σ 36 0 ((σ.1 35 0 x.2.toNatClampNeg)).toNatClampNeg (((σ.1 36 0 ((σ.1 35 0 x.2.toNatClampNeg)).toNatClampNeg) ^^^ (1 <<< (x.2 &&& 31))))) x.2 0) else (f_X0_turnPlan_51 F rec6 (zwi σ 36 0 ((σ.1 35 0 x.2.toNatClampNeg)).toNatClampNeg (((σ.1 36 0 ((σ.1 35 0 x.2.toNatClampNeg)).toNatClampNeg) ^^^ (1 <<< (x.2 &&& 31))))) x.2 1)))))) else (some ((), σ)))
set_option maxHeartbeats 4000000 in
set_option maxRecDepth 100000 in
theorem c_X0_turnPlan_6 (F : Nat) {E : zEn} {h : Nat} {Z : zLay} (C : zCx E cX0_turnPlan RX0 4 none Z h) (hh : 1 ≤ h) : ∀ (n : Nat) (σ : zMem) (x : Int32 × Int32), zKO E 4 Z (zMQ E Z (zQV Z)) 6 [(0, .ref (zad Z 25 0)), (2, .int x.1), (3, .int x.2)] [] σ (zit (f_X0_turnPlan_6 F) n σ x) := by
  refine zr_loop (LL := fun (x : Int32 × Int32) => [(0, .ref (zad Z 25 0)), (2, .int x.1), (3, .int x.2)]) (ST := fun (x : Int32 × Int32) => []) (fun rec6 hrec6 σ x => ?_)
  obtain ⟨l2, l3⟩ := x
  show zKO E 4 Z (zMQ E Z (zQV Z)) 6 [(0, .ref (zad Z 25 0)), (2, .int l2), (3, .int l3)] [] σ (if l3 < 0 then (some ((), σ)) else (if l2 = 0 then (zg (inb l3 5) (zg (inb ((σ.1 35 0 l3.toNatClampNeg)) 4) (zg (inb ((σ.1 35 0 l3.toNatClampNeg)) 4) (zg (inb l3 5) (if ((zwi σ 36 0 ((σ.1 35 0 l3.toNatClampNeg)).toNatClampNeg (((σ.1 36 0 ((σ.1 35 0 l3.toNatClampNeg)).toNatClampNeg) ^^^ (1 <<< (l3 &&& 31))))).1 25 0 4) ≤ (((zwi σ 36 0 ((σ.1 35 0 l3.toNatClampNeg)).toNatClampNeg (((σ.1 36 0 ((σ.1 35 0 l3.toNatClampNeg)).toNatClampNeg) ^^^ (1 <<< (l3 &&& 31))))).1 35 0 l3.toNatClampNeg) + 1) then (f_X0_turnPlan_51 F rec6 (zwi σ 36 0 ((σ.1 35 0 l3.toNatClampNeg)).toNatClampNeg (((σ.1 36 0 ((σ.1 35 0 l3.toNatClampNeg)).toNatClampNeg) ^^^ (1 <<< (l3 &&& 31))))) l3 0) else (f_X0_turnPlan_51 F rec6 (zwi σ 36 0 ((σ.1 35 0 l3.toNatClampNeg)).toNatClampNeg (((σ.1 36 0 ((σ.1 35 0 l3.toNatClampNeg)).toNatClampNeg) ^^^ (1 <<< (l3 &&& 31))))) l3 1)))))) else (some ((), σ))))
  refine zr_iload_n C dX0_turnPlan_6 rfl ?_
  refine zr_if_lt (tgt := 97) C dX0_turnPlan_7 (by decide) ?_ ?_
  · exact zr_vret C dX0_turnPlan_97
  · refine zr_iload_n C dX0_turnPlan_10 rfl ?_
    refine zr_if_ne (tgt := 97) C dX0_turnPlan_11 (by decide) ?_ ?_
    · exact zr_vret C dX0_turnPlan_97
    · refine zr_aload_n C dX0_turnPlan_14 rfl ?_
      refine zf_X0_41 C (Nat.le_of_ble_eq_true rfl) dX0_turnPlan_15 ?_
      refine zr_aload_n C dX0_turnPlan_18 rfl ?_
      refine zf_X0_38 C (Nat.le_of_ble_eq_true rfl) dX0_turnPlan_19 ?_
      refine zr_iload_n C dX0_turnPlan_22 rfl ?_
      refine zr_iald (n := 5) C dX0_turnPlan_23 (Nat.le_of_ble_eq_true rfl) rfl ?_
      refine zr_dup2 C dX0_turnPlan_24 rfl rfl ?_
      refine zr_iald (n := 4) C dX0_turnPlan_25 (Nat.le_of_ble_eq_true rfl) rfl ?_
      refine zr_iconst (v := 1) C dX0_turnPlan_26 rfl ?_
      refine zr_iload_n C dX0_turnPlan_27 rfl ?_
      refine zr_ishl C dX0_turnPlan_28 ?_
      refine zr_ixor C dX0_turnPlan_29 ?_
      refine zr_iast (n := 4) C dX0_turnPlan_30 (Nat.le_of_ble_eq_true rfl) (fun _ _ => rfl) ?_
      refine zr_aload_n C dX0_turnPlan_31 rfl ?_
      refine zf_X0_38 C (Nat.le_of_ble_eq_true rfl) dX0_turnPlan_32 ?_
      refine zr_iload_n C dX0_turnPlan_35 rfl ?_
      refine zr_iald (n := 5) C dX0_turnPlan_36 (Nat.le_of_ble_eq_true rfl) rfl ?_
      refine zr_iconst (v := 1) C dX0_turnPlan_37 rfl ?_
      refine zr_iadd C dX0_turnPlan_38 ?_
      refine zr_aload_n C dX0_turnPlan_39 rfl ?_
      refine zf_X0_47 C (Nat.le_of_ble_eq_true rfl) dX0_turnPlan_40 ?_
      refine zr_icmp_ge (tgt := 50) C dX0_turnPlan_43 (by decide) ?_ ?_
      · refine zr_iconst (v := 0) C dX0_turnPlan_50 rfl ?_
        exact zr_sub [0, 2] rfl (c_X0_turnPlan_51 F rec6 C hh hrec6 (zwi σ 36 0 ((σ.1 35 0 l3.toNatClampNeg)).toNatClampNeg (((σ.1 36 0 ((σ.1 35 0 l3.toNatClampNeg)).toNatClampNeg) ^^^ (1 <<< (l3 &&& 31))))) l3 0)
      · refine zr_iconst (v := 1) C dX0_turnPlan_46 rfl ?_
        refine zr_goto (tgt := 51) C dX0_turnPlan_47 (by decide) ?_
        exact zr_sub [0, 2] rfl (c_X0_turnPlan_51 F rec6 C hh hrec6 (zwi σ 36 0 ((σ.1 35 0 l3.toNatClampNeg)).toNatClampNeg (((σ.1 36 0 ((σ.1 35 0 l3.toNatClampNeg)).toNatClampNeg) ^^^ (1 <<< (l3 &&& 31))))) l3 1)
def f_X0_turnPlan (F : Nat) (σ : zMem) (a1 : Int32) : Option (Unit × zMem) := zit (f_X0_turnPlan_6 F) F σ ((0, (a1 - 1)))
set_option maxHeartbeats 4000000 in
set_option maxRecDepth 100000 in
theorem c_X0_turnPlan (l : Launch) (Z : zLay) (F : Nat) (σ : zMem) (a1 : Int32) (r : Unit) (σ1 : zMem) (ho : f_X0_turnPlan F σ a1 = some (r, σ1)) : zMet l yX0_turnPlan cX0_turnPlan 4 none 1 Z [.ref (zad Z 25 0), .int (a1)] σ (zQV Z r σ1) := by
  refine zMet_of (Qc := zQV Z) (by decide) (Nat.le_of_ble_eq_true rfl) [(0, .ref (zad Z 25 0)), (1, .int (a1))] rfl (fun E C => ?_) ho
  have hh : 1 ≤ 1 := Nat.le_refl _
  show zKO E 4 Z (zMQ E Z (zQV Z)) 0 [(0, .ref (zad Z 25 0)), (1, .int (a1))] [] σ _
  unfold f_X0_turnPlan
  refine zr_iconst (v := 0) C dX0_turnPlan_0 rfl ?_
  refine zr_istore_n (i := 2) (L1 := [(2, .int _), (0, .ref _), (1, .int _)]) C dX0_turnPlan_1 rfl (by decide) rfl ?_
  refine zr_iload_n C dX0_turnPlan_2 rfl ?_
  refine zr_iconst (v := 1) C dX0_turnPlan_3 rfl ?_
  refine zr_isub C dX0_turnPlan_4 ?_
  refine zr_istore_n (i := 3) (L1 := [(3, .int _), (2, .int _), (0, .ref _), (1, .int _)]) C dX0_turnPlan_5 rfl (by decide) rfl ?_
  exact zr_sub [2, 1, 0] rfl (c_X0_turnPlan_6 F C hh F σ ((0, (a1 - 1))))
theorem zk_X0_75 (C : zCx E cc RX0 nL ret Z h) (F : Nat) {b0 : Int32} (hk : 0 < zN 25) (hh : 1 + 1 ≤ h) (hst8 : (st.map fun v => v.category).sum ≤ 8) (hd : decode cc pc = .ok (.invokevirtual 75, 3)) {g : Unit → zMem → Option (α × zMem)} (kk : ∀ (r : Unit) (σ1 : zMem), zKO E nL Z QQ (pc + 3) L (st) σ1 (g r σ1)) : zKO E nL Z QQ pc L (.int b0 :: .ref (zad Z 25 0) :: st) σ (zb (f_X0_turnPlan F σ b0) g) :=
  zr_callVU (As := [.int b0]) (ia := 1) C (fun r σ1 ho => c_X0_turnPlan (zla E) Z F σ b0 r σ1 ho) wz_1007 hk rfl rfl wz_p73 wz_1009 wz_1010 wz_6 (by decide +kernel) rfl (by decide) hh hd hst8 kk
def f_X0_bestPlan_14 (F : Nat) (rec14 : zMem → Int32 × Int32 × Int32 × Int32 → Option (Int32 × zMem)) (σ : zMem) (x : Int32 × Int32 × Int32 × Int32) : Option (Int32 × zMem) := if x.2.1 ≤ x.2.2.2 then (some (x.2.2.1, σ)) else (zb (f_X0_turnPlan F σ x.1) fun r22 m22 => zb (f_X0_hungerNow F m22) fun r26 m26 => if x.2.2.1 ≤ r26 then (rec14 m26 ((x.1, x.2.1, x.2.2.1, (x.2.2.2 + 1)))) else (zb (f_X0_keepPlan F m26 x.1) fun r42 m42 => rec14 m42 ((x.1, x.2.1, r26, (x.2.2.2 + 1)))))
set_option maxHeartbeats 4000000 in
set_option maxRecDepth 100000 in
theorem c_X0_bestPlan_14 (F : Nat) {E : zEn} {h : Nat} {Z : zLay} (C : zCx E cX0_bestPlan RX0 6 (some .int) Z h) (hh : 3 ≤ h) : ∀ (n : Nat) (σ : zMem) (x : Int32 × Int32 × Int32 × Int32), zKO E 6 Z (zMQ E Z (zQI Z)) 14 [(0, .ref (zad Z 25 0)), (1, .int x.1), (2, .int x.2.1), (3, .int x.2.2.1), (4, .int x.2.2.2)] [] σ (zit (f_X0_bestPlan_14 F) n σ x) := by
  refine zr_loop (LL := fun (x : Int32 × Int32 × Int32 × Int32) => [(0, .ref (zad Z 25 0)), (1, .int x.1), (2, .int x.2.1), (3, .int x.2.2.1), (4, .int x.2.2.2)]) (ST := fun (x : Int32 × Int32 × Int32 × Int32) => []) (fun rec14 hrec14 σ x => ?_)
  obtain ⟨l1, l2, l3, l4⟩ := x
  show zKO E 6 Z (zMQ E Z (zQI Z)) 14 [(0, .ref (zad Z 25 0)), (1, .int l1), (2, .int l2), (3, .int l3), (4, .int l4)] [] σ (if l2 ≤ l4 then (some (l3, σ)) else (zb (f_X0_turnPlan F σ l1) fun r22 m22 => zb (f_X0_hungerNow F m22) fun r26 m26 => if l3 ≤ r26 then (rec14 m26 ((l1, l2, l3, (l4 + 1)))) else (zb (f_X0_keepPlan F m26 l1) fun r42 m42 => rec14 m42 ((l1, l2, r26, (l4 + 1))))))
  refine zr_iload C dX0_bestPlan_14 rfl ?_
  refine zr_iload_n C dX0_bestPlan_16 rfl ?_
  refine zr_icmp_ge (tgt := 51) C dX0_bestPlan_17 (by decide) ?_ ?_
  · refine zr_iload_n C dX0_bestPlan_51 rfl ?_
    exact zr_iret C dX0_bestPlan_52
  · refine zr_aload_n C dX0_bestPlan_20 rfl ?_
    refine zr_iload_n C dX0_bestPlan_21 rfl ?_
    refine zk_X0_75 C F (Nat.le_of_ble_eq_true rfl) (Nat.le_trans (by decide) hh) (by simp [Value.category]) dX0_bestPlan_22 (fun r22 m22 => ?_)
    refine zr_aload_n C dX0_bestPlan_25 rfl ?_
    refine zk_X0_71 C F (Nat.le_of_ble_eq_true rfl) (Nat.le_trans (by decide) hh) (by simp [Value.category]) dX0_bestPlan_26 (fun r26 m26 => ?_)
    refine zr_istore (i := 5) (L1 := [(5, .int _), (0, .ref _), (1, .int _), (2, .int _), (3, .int _), (4, .int _)]) C dX0_bestPlan_29 (by decide) rfl ?_
    refine zr_iload C dX0_bestPlan_31 rfl ?_
    refine zr_iload_n C dX0_bestPlan_33 rfl ?_
    refine zr_icmp_ge (tgt := 45) C dX0_bestPlan_34 (by decide) ?_ ?_
    · refine zr_iinc (kk := 5) (v := (l4 + 1)) (L1 := [(4, .int _), (5, .int _), (0, .ref _), (1, .int _), (2, .int _), (3, .int _)]) C dX0_bestPlan_45 rfl rfl (by decide) rfl ?_
      refine zr_goto (tgt := 14) C dX0_bestPlan_48 (by decide) ?_
      exact zr_sub [2, 3, 4, 5, 0] rfl (hrec14 m26 ((l1, l2, l3, (l4 + 1))))
    · refine zr_iload C dX0_bestPlan_37 rfl ?_
      refine zr_istore_n (i := 3) (L1 := [(3, .int _), (5, .int _), (0, .ref _), (1, .int _), (2, .int _), (4, .int _)]) C dX0_bestPlan_39 rfl (by decide) rfl ?_
      refine zr_aload_n C dX0_bestPlan_40 rfl ?_
      refine zr_iload_n C dX0_bestPlan_41 rfl ?_
      refine zk_X0_79 C F (Nat.le_of_ble_eq_true rfl) (Nat.le_trans (by decide) hh) (by simp [Value.category]) dX0_bestPlan_42 (fun r42 m42 => ?_)
      refine zr_iinc (kk := 5) (v := (l4 + 1)) (L1 := [(4, .int _), (3, .int _), (5, .int _), (0, .ref _), (1, .int _), (2, .int _)]) C dX0_bestPlan_45 rfl rfl (by decide) rfl ?_
      refine zr_goto (tgt := 14) C dX0_bestPlan_48 (by decide) ?_
      exact zr_sub [3, 4, 5, 1, 0] rfl (hrec14 m42 ((l1, l2, r26, (l4 + 1))))
def f_X0_bestPlan (F : Nat) (σ : zMem) (a1 : Int32) : Option (Int32 × zMem) := zb (f_X0_beginPlans F σ a1) fun r2 m2 => zb (f_X0_hungerNow F m2) fun r7 m7 => zit (f_X0_bestPlan_14 F) F m7 ((a1, r2, r7, 1))
set_option maxHeartbeats 4000000 in
set_option maxRecDepth 100000 in
theorem c_X0_bestPlan (l : Launch) (Z : zLay) (F : Nat) (σ : zMem) (a1 : Int32) (r : Int32) (σ1 : zMem) (ho : f_X0_bestPlan F σ a1 = some (r, σ1)) : zMet l yX0_bestPlan cX0_bestPlan 6 (some .int) 3 Z [.ref (zad Z 25 0), .int (a1)] σ (zQI Z r σ1) := by
  refine zMet_of (Qc := zQI Z) (by decide) (Nat.le_of_ble_eq_true rfl) [(0, .ref (zad Z 25 0)), (1, .int (a1))] rfl (fun E C => ?_) ho
  have hh : 3 ≤ 3 := Nat.le_refl _
  show zKO E 6 Z (zMQ E Z (zQI Z)) 0 [(0, .ref (zad Z 25 0)), (1, .int (a1))] [] σ _
  unfold f_X0_bestPlan
  refine zr_aload_n C dX0_bestPlan_0 rfl ?_
  refine zr_iload_n C dX0_bestPlan_1 rfl ?_
  refine zk_X0_67 C F (Nat.le_of_ble_eq_true rfl) (Nat.le_trans (by decide) hh) (by simp [Value.category]) dX0_bestPlan_2 (fun r2 m2 => ?_)
  refine zr_istore_n (i := 2) (L1 := [(2, .int _), (0, .ref _), (1, .int _)]) C dX0_bestPlan_5 rfl (by decide) rfl ?_
  refine zr_aload_n C dX0_bestPlan_6 rfl ?_
  refine zk_X0_71 C F (Nat.le_of_ble_eq_true rfl) (Nat.le_trans (by decide) hh) (by simp [Value.category]) dX0_bestPlan_7 (fun r7 m7 => ?_)
  refine zr_istore_n (i := 3) (L1 := [(3, .int _), (2, .int _), (0, .ref _), (1, .int _)]) C dX0_bestPlan_10 rfl (by decide) rfl ?_
  refine zr_iconst (v := 1) C dX0_bestPlan_11 rfl ?_
  refine zr_istore (i := 4) (L1 := [(4, .int _), (3, .int _), (2, .int _), (0, .ref _), (1, .int _)]) C dX0_bestPlan_12 (by decide) rfl ?_
  exact zr_sub [3, 4, 2, 1, 0] rfl (c_X0_bestPlan_14 F C hh F m7 ((a1, r2, r7, 1)))
theorem zk_X10_418 (C : zCx E cc RX10 nL ret Z h) (F : Nat) {b0 : Int32} (hk : 0 < zN 25) (hh : 3 + 1 ≤ h) (hst8 : (st.map fun v => v.category).sum ≤ 8) (hd : decode cc pc = .ok (.invokevirtual 418, 3)) {g : Int32 → zMem → Option (α × zMem)} (kk : ∀ (r : Int32) (σ1 : zMem), zKO E nL Z QQ (pc + 3) L (.int r :: st) σ1 (g r σ1)) : zKO E nL Z QQ pc L (.int b0 :: .ref (zad Z 25 0) :: st) σ (zb (f_X0_bestPlan F σ b0) g) :=
  zr_callVNI (As := [.int b0]) (ia := 1) C (fun r σ1 ho => c_X0_bestPlan (zla E) Z F σ b0 r σ1 ho) wz_n991 hk rfl rfl wz_p69 wz_993 wz_994 wz_6 (by decide +kernel) rfl (by decide) hh hd hst8 kk
def f_X1_comesTo_5 (F : Nat) (rec5 : zMem → Int32 × Int32 × Int32 → Option (Int32 × zMem)) (σ : zMem) (x : Int32 × Int32 × Int32) : Option (Int32 × zMem) := if (σ.1 43 0 2) ≤ x.2.2 then (some (0, σ)) else (zg (inb x.2.2 10) (zg (zni 100) (zg (inb x.2.2 10) (if (σ.1 44 0 x.2.2.toNatClampNeg) = x.1 then (some (((x.2.1 * (100 - (σ.1 45 0 x.2.2.toNatClampNeg))) / 100), σ)) else (rec5 σ ((x.1, ((x.2.1 * (100 - (σ.1 45 0 x.2.2.toNatClampNeg))) / 100), (x.2.2 + 1))))))))
set_option maxHeartbeats 4000000 in
set_option maxRecDepth 100000 in
theorem c_X1_comesTo_5 (F : Nat) {E : zEn} {h : Nat} {Z : zLay} (C : zCx E cX1_comesTo RX1 5 (some .int) Z h) (hh : 1 ≤ h) : ∀ (n : Nat) (σ : zMem) (x : Int32 × Int32 × Int32), zKO E 5 Z (zMQ E Z (zQI Z)) 5 [(0, .ref (zad Z 43 0)), (1, .int x.1), (3, .int x.2.1), (4, .int x.2.2)] [] σ (zit (f_X1_comesTo_5 F) n σ x) := by
  refine zr_loop (LL := fun (x : Int32 × Int32 × Int32) => [(0, .ref (zad Z 43 0)), (1, .int x.1), (3, .int x.2.1), (4, .int x.2.2)]) (ST := fun (x : Int32 × Int32 × Int32) => []) (fun rec5 hrec5 σ x => ?_)
  obtain ⟨l1, l3, l4⟩ := x
  show zKO E 5 Z (zMQ E Z (zQI Z)) 5 [(0, .ref (zad Z 43 0)), (1, .int l1), (3, .int l3), (4, .int l4)] [] σ (if (σ.1 43 0 2) ≤ l4 then (some (0, σ)) else (zg (inb l4 10) (zg (zni 100) (zg (inb l4 10) (if (σ.1 44 0 l4.toNatClampNeg) = l1 then (some (((l3 * (100 - (σ.1 45 0 l4.toNatClampNeg))) / 100), σ)) else (rec5 σ ((l1, ((l3 * (100 - (σ.1 45 0 l4.toNatClampNeg))) / 100), (l4 + 1)))))))))
  refine zr_iload C dX1_comesTo_5 rfl ?_
  refine zr_aload_n C dX1_comesTo_7 rfl ?_
  refine zf_X1_18 C (Nat.le_of_ble_eq_true rfl) dX1_comesTo_8 ?_
  refine zr_icmp_ge (tgt := 49) C dX1_comesTo_11 (by decide) ?_ ?_
  · refine zr_iconst (v := 0) C dX1_comesTo_49 rfl ?_
    exact zr_iret C dX1_comesTo_50
  · refine zr_iload_n C dX1_comesTo_14 rfl ?_
    refine zr_bipush (v := 100) C dX1_comesTo_15 rfl ?_
    refine zr_aload_n C dX1_comesTo_17 rfl ?_
    refine zf_X1_15 C (Nat.le_of_ble_eq_true rfl) dX1_comesTo_18 ?_
    refine zr_iload C dX1_comesTo_21 rfl ?_
    refine zr_iald (n := 10) C dX1_comesTo_23 (Nat.le_of_ble_eq_true rfl) rfl ?_
    refine zr_isub C dX1_comesTo_24 ?_
    refine zr_imul C dX1_comesTo_25 ?_
    refine zr_bipush (v := 100) C dX1_comesTo_26 rfl ?_
    refine zr_idiv C dX1_comesTo_28 ?_
    refine zr_istore_n (i := 3) (L1 := [(3, .int _), (0, .ref _), (1, .int _), (4, .int _)]) C dX1_comesTo_29 rfl (by decide) rfl ?_
    refine zr_aload_n C dX1_comesTo_30 rfl ?_
    refine zf_X1_9 C (Nat.le_of_ble_eq_true rfl) dX1_comesTo_31 ?_
    refine zr_iload C dX1_comesTo_34 rfl ?_
    refine zr_iald (n := 10) C dX1_comesTo_36 (Nat.le_of_ble_eq_true rfl) rfl ?_
    refine zr_iload_n C dX1_comesTo_37 rfl ?_
    refine zr_icmp_ne (tgt := 43) C dX1_comesTo_38 (by decide) ?_ ?_
    · refine zr_iinc (kk := 3) (v := (l4 + 1)) (L1 := [(4, .int _), (3, .int _), (0, .ref _), (1, .int _)]) C dX1_comesTo_43 rfl rfl (by decide) rfl ?_
      refine zr_goto (tgt := 5) C dX1_comesTo_46 (by decide) ?_
      exact zr_sub [2, 3, 1, 0] rfl (hrec5 σ ((l1, ((l3 * (100 - (σ.1 45 0 l4.toNatClampNeg))) / 100), (l4 + 1))))
    · refine zr_iload_n C dX1_comesTo_41 rfl ?_
      exact zr_iret C dX1_comesTo_42
def f_X1_comesTo (F : Nat) (σ : zMem) (a1 : Int32) (a2 : Int32) : Option (Int32 × zMem) := zit (f_X1_comesTo_5 F) F σ ((a1, a2, 0))
set_option maxHeartbeats 4000000 in
set_option maxRecDepth 100000 in
theorem c_X1_comesTo (l : Launch) (Z : zLay) (F : Nat) (σ : zMem) (a1 : Int32) (a2 : Int32) (r : Int32) (σ1 : zMem) (ho : f_X1_comesTo F σ a1 a2 = some (r, σ1)) : zMet l yX1_comesTo cX1_comesTo 5 (some .int) 1 Z [.ref (zad Z 43 0), .int (a1), .int (a2)] σ (zQI Z r σ1) := by
  refine zMet_of (Qc := zQI Z) (by decide) (Nat.le_of_ble_eq_true rfl) [(0, .ref (zad Z 43 0)), (1, .int (a1)), (2, .int (a2))] rfl (fun E C => ?_) ho
  have hh : 1 ≤ 1 := Nat.le_refl _
  show zKO E 5 Z (zMQ E Z (zQI Z)) 0 [(0, .ref (zad Z 43 0)), (1, .int (a1)), (2, .int (a2))] [] σ _
  unfold f_X1_comesTo
  refine zr_iload_n C dX1_comesTo_0 rfl ?_
  refine zr_istore_n (i := 3) (L1 := [(3, .int _), (0, .ref _), (1, .int _), (2, .int _)]) C dX1_comesTo_1 rfl (by decide) rfl ?_
  refine zr_iconst (v := 0) C dX1_comesTo_2 rfl ?_
  refine zr_istore (i := 4) (L1 := [(4, .int _), (3, .int _), (0, .ref _), (1, .int _), (2, .int _)]) C dX1_comesTo_3 (by decide) rfl ?_
  exact zr_sub [2, 3, 1, 0] rfl (c_X1_comesTo_5 F C hh F σ ((a1, a2, 0)))
theorem zk_X10_399 (C : zCx E cc RX10 nL ret Z h) (F : Nat) {b0 : Int32} {b1 : Int32} (hk : 0 < zN 43) (hh : 1 + 1 ≤ h) (hst8 : (st.map fun v => v.category).sum ≤ 8) (hd : decode cc pc = .ok (.invokevirtual 399, 3)) {g : Int32 → zMem → Option (α × zMem)} (kk : ∀ (r : Int32) (σ1 : zMem), zKO E nL Z QQ (pc + 3) L (.int r :: st) σ1 (g r σ1)) : zKO E nL Z QQ pc L (.int b1 :: .int b0 :: .ref (zad Z 43 0) :: st) σ (zb (f_X1_comesTo F σ b0 b1) g) :=
  zr_callVNI (As := [.int b0, .int b1]) (ia := 2) C (fun r σ1 ho => c_X1_comesTo (zla E) Z F σ b0 b1 r σ1 ho) wz_n948 hk rfl rfl wz_p63 wz_950 wz_951 wz_9 (by decide +kernel) rfl (by decide) hh hd hst8 kk
def f_X2_fits (F : Nat) (σ : zMem) (a0 : Int32) (a1 : Int32) : Option (Int32 × zMem) := zg (inb a0 4) (if a1 < (([1, 1, 0, 0] : List Int32).getD a0.toNatClampNeg 0) then (some (0, σ)) else (zg (inb a0 4) (if (([9, 20, 99, 99999] : List Int32).getD a0.toNatClampNeg 0) < a1 then (some (0, σ)) else (some (1, σ)))))
set_option maxHeartbeats 4000000 in
set_option maxRecDepth 100000 in
theorem c_X2_fits (l : Launch) (Z : zLay) (F : Nat) (σ : zMem) (a0 : Int32) (a1 : Int32) (r : Int32) (σ1 : zMem) (ho : f_X2_fits F σ a0 a1 = some (r, σ1)) : zMet l yX2_fits cX2_fits 2 (some .boolean) 1 Z [.int (a0), .int (a1)] σ (zQI Z r σ1) := by
  refine zMet_of (Qc := zQI Z) (by decide) (Nat.le_of_ble_eq_true rfl) [(0, .int (a0)), (1, .int (a1))] rfl (fun E C => ?_) ho
  have hh : 1 ≤ 1 := Nat.le_refl _
  show zKO E 2 Z (zMQ E Z (zQI Z)) 0 [(0, .int (a0)), (1, .int (a1))] [] σ _
  unfold f_X2_fits
  refine zr_iload_n C dX2_fits_0 rfl ?_
  refine zr_gets C ("AlpCommune$House", "LEAST", 150, [1, 1, 0, 0]) (by decide +kernel) wz_434 dX2_fits_1 ?_
  refine zr_iload_n C dX2_fits_4 rfl ?_
  refine zr_ialdS C ("AlpCommune$House", "LEAST", 150, [1, 1, 0, 0]) (by decide +kernel) dX2_fits_5 ?_
  refine zr_icmp_lt (tgt := 22) C dX2_fits_6 (by decide) ?_ ?_
  · refine zr_iconst (v := 0) C dX2_fits_22 rfl ?_
    exact zr_zret C dX2_fits_23 rfl
  · refine zr_iload_n C dX2_fits_9 rfl ?_
    refine zr_gets C ("AlpCommune$House", "MOST", 151, [9, 20, 99, 99999]) (by decide +kernel) wz_436 dX2_fits_10 ?_
    refine zr_iload_n C dX2_fits_13 rfl ?_
    refine zr_ialdS C ("AlpCommune$House", "MOST", 151, [9, 20, 99, 99999]) (by decide +kernel) dX2_fits_14 ?_
    refine zr_icmp_gt (tgt := 22) C dX2_fits_15 (by decide) ?_ ?_
    · refine zr_iconst (v := 0) C dX2_fits_22 rfl ?_
      exact zr_zret C dX2_fits_23 rfl
    · refine zr_iconst (v := 1) C dX2_fits_18 rfl ?_
      refine zr_goto (tgt := 23) C dX2_fits_19 (by decide) ?_
      exact zr_zret C dX2_fits_23 rfl
theorem zk_X10_81 (C : zCx E cc RX10 nL ret Z h) (F : Nat) {b0 : Int32} {b1 : Int32} (hh : 1 + 1 ≤ h) (hst8 : (st.map fun v => v.category).sum ≤ 8) (hd : decode cc pc = .ok (.invokestatic 81, 3)) {g : Int32 → zMem → Option (α × zMem)} (kk : ∀ (r : Int32) (σ1 : zMem), zKO E nL Z QQ (pc + 3) L (.int r :: st) σ1 (g r σ1)) : zKO E nL Z QQ pc L (.int b1 :: .int b0 :: st) σ (zb (f_X2_fits F σ b0 b1) g) :=
  zr_callSNI (As := [.int b0, .int b1]) (ia := 2) C (fun r σ1 ho => c_X2_fits (zla E) Z F σ b0 b1 r σ1 ho) wz_n431 wz_432 wz_433 wz_10 (by decide +kernel) rfl (by decide) hh hd hst8 kk
def f_X2_allUp_4 (F : Nat) (rec4 : zMem → Nat × Int32 × Int32 → Option (Int32 × zMem)) (σ : zMem) (x : Nat × Int32 × Int32) : Option (Int32 × zMem) := zg (decide (x.1 < 10)) (if 4 ≤ x.2.2 then (some (x.2.1, σ)) else (zg (inb x.2.2 4) (rec4 σ ((x.1, (x.2.1 + (σ.1 4 x.1 x.2.2.toNatClampNeg)), (x.2.2 + 1))))))
set_option maxHeartbeats 4000000 in
set_option maxRecDepth 100000 in
theorem c_X2_allUp_4 (F : Nat) {E : zEn} {h : Nat} {Z : zLay} (C : zCx E cX2_allUp RX2 3 (some .int) Z h) (hh : 1 ≤ h) : ∀ (n : Nat) (σ : zMem) (x : Nat × Int32 × Int32), zKO E 3 Z (zMQ E Z (zQI Z)) 4 [(0, .ref (zad Z 2 x.1)), (1, .int x.2.1), (2, .int x.2.2)] [] σ (zit (f_X2_allUp_4 F) n σ x) := by
  refine zr_loop (LL := fun (x : Nat × Int32 × Int32) => [(0, .ref (zad Z 2 x.1)), (1, .int x.2.1), (2, .int x.2.2)]) (ST := fun (x : Nat × Int32 × Int32) => []) (fun rec4 hrec4 σ x => ?_)
  obtain ⟨l0, l1, l2⟩ := x
  show zKO E 3 Z (zMQ E Z (zQI Z)) 4 [(0, .ref (zad Z 2 l0)), (1, .int l1), (2, .int l2)] [] σ (zg (decide (l0 < 10)) (if 4 ≤ l2 then (some (l1, σ)) else (zg (inb l2 4) (rec4 σ ((l0, (l1 + (σ.1 4 l0 l2.toNatClampNeg)), (l2 + 1)))))))
  refine zr_g (fun hl0 => ?_)
  refine zr_iload_n C dX2_allUp_4 rfl ?_
  refine zr_iconst (v := 4) C dX2_allUp_5 rfl ?_
  refine zr_icmp_ge (tgt := 24) C dX2_allUp_6 (by decide) ?_ ?_
  · refine zr_iload_n C dX2_allUp_24 rfl ?_
    exact zr_iret C dX2_allUp_25
  · refine zr_iload_n C dX2_allUp_9 rfl ?_
    refine zr_aload_n C dX2_allUp_10 rfl ?_
    refine zf_X2_15 C (of_decide_eq_true hl0) dX2_allUp_11 ?_
    refine zr_iload_n C dX2_allUp_14 rfl ?_
    refine zr_iald (n := 4) C dX2_allUp_15 (of_decide_eq_true hl0) rfl ?_
    refine zr_iadd C dX2_allUp_16 ?_
    refine zr_istore_n (i := 1) (L1 := [(1, .int _), (0, .ref _), (2, .int _)]) C dX2_allUp_17 rfl (by decide) rfl ?_
    refine zr_iinc (kk := 2) (v := (l2 + 1)) (L1 := [(2, .int _), (1, .int _), (0, .ref _)]) C dX2_allUp_18 rfl rfl (by decide) rfl ?_
    refine zr_goto (tgt := 4) C dX2_allUp_21 (by decide) ?_
    exact zr_sub [2, 1, 0] rfl (hrec4 σ ((l0, (l1 + (σ.1 4 l0 l2.toNatClampNeg)), (l2 + 1))))
def f_X2_allUp (F : Nat) (σ : zMem) (t0 : Nat) : Option (Int32 × zMem) := zg (decide (t0 < 10)) (zit (f_X2_allUp_4 F) F σ ((t0, 0, 0)))
set_option maxHeartbeats 4000000 in
set_option maxRecDepth 100000 in
theorem c_X2_allUp (l : Launch) (Z : zLay) (F : Nat) (σ : zMem) (t0 : Nat) (r : Int32) (σ1 : zMem) (ho : f_X2_allUp F σ t0 = some (r, σ1)) : zMet l yX2_allUp cX2_allUp 3 (some .int) 1 Z [.ref (zad Z 2 t0)] σ (zQI Z r σ1) := by
  refine zMet_of (Qc := zQI Z) (by decide) (Nat.le_of_ble_eq_true rfl) [(0, .ref (zad Z 2 t0))] rfl (fun E C => ?_) ho
  have hh : 1 ≤ 1 := Nat.le_refl _
  show zKO E 3 Z (zMQ E Z (zQI Z)) 0 [(0, .ref (zad Z 2 t0))] [] σ _
  unfold f_X2_allUp
  refine zr_g (fun ht0 => ?_)
  refine zr_iconst (v := 0) C dX2_allUp_0 rfl ?_
  refine zr_istore_n (i := 1) (L1 := [(1, .int _), (0, .ref _)]) C dX2_allUp_1 rfl (by decide) rfl ?_
  refine zr_iconst (v := 0) C dX2_allUp_2 rfl ?_
  refine zr_istore_n (i := 2) (L1 := [(2, .int _), (1, .int _), (0, .ref _)]) C dX2_allUp_3 rfl (by decide) rfl ?_
  exact zr_sub [2, 1, 0] rfl (c_X2_allUp_4 F C hh F σ ((t0, 0, 0)))
theorem zk_X2_24 (C : zCx E cc RX2 nL ret Z h) (F : Nat) {i0 : Nat} (hk : i0 < zN 2) (hh : 1 + 1 ≤ h) (hst8 : (st.map fun v => v.category).sum ≤ 8) (hd : decode cc pc = .ok (.invokevirtual 24, 3)) {g : Int32 → zMem → Option (α × zMem)} (kk : ∀ (r : Int32) (σ1 : zMem), zKO E nL Z QQ (pc + 3) L (.int r :: st) σ1 (g r σ1)) : zKO E nL Z QQ pc L (.ref (zad Z 2 i0) :: st) σ (zb (f_X2_allUp F σ i0) g) :=
  zr_callVI (As := []) (ia := 0) C (fun r σ1 ho => c_X2_allUp (zla E) Z F σ i0 r σ1 ho) wz_458 hk rfl rfl wz_p1 wz_448 wz_449 wz_10 (by decide +kernel) rfl (by decide) hh hd hst8 kk
theorem zk_X10_95 (C : zCx E cc RX10 nL ret Z h) (F : Nat) {i0 : Nat} (hk : i0 < zN 2) (hh : 1 + 1 ≤ h) (hst8 : (st.map fun v => v.category).sum ≤ 8) (hd : decode cc pc = .ok (.invokevirtual 95, 3)) {g : Int32 → zMem → Option (α × zMem)} (kk : ∀ (r : Int32) (σ1 : zMem), zKO E nL Z QQ (pc + 3) L (.int r :: st) σ1 (g r σ1)) : zKO E nL Z QQ pc L (.ref (zad Z 2 i0) :: st) σ (zb (f_X2_allUp F σ i0) g) :=
  zr_callVNI (As := []) (ia := 0) C (fun r σ1 ho => c_X2_allUp (zla E) Z F σ i0 r σ1 ho) wz_n446 hk rfl rfl wz_p1 wz_448 wz_449 wz_10 (by decide +kernel) rfl (by decide) hh hd hst8 kk
def f_X2_atHome (F : Nat) (σ : zMem) (t0 : Nat) : Option (Int32 × zMem) := zg (decide (t0 < 10)) (zg (inb 2 4) (zb (f_X2_allUp F σ t0) fun r7 m7 => some (((σ.1 3 t0 2) - r7), m7)))
set_option maxHeartbeats 4000000 in
set_option maxRecDepth 100000 in
theorem c_X2_atHome (l : Launch) (Z : zLay) (F : Nat) (σ : zMem) (t0 : Nat) (r : Int32) (σ1 : zMem) (ho : f_X2_atHome F σ t0 = some (r, σ1)) : zMet l yX2_atHome cX2_atHome 1 (some .int) 2 Z [.ref (zad Z 2 t0)] σ (zQI Z r σ1) := by
  refine zMet_of (Qc := zQI Z) (by decide) (Nat.le_of_ble_eq_true rfl) [(0, .ref (zad Z 2 t0))] rfl (fun E C => ?_) ho
  have hh : 2 ≤ 2 := Nat.le_refl _
  show zKO E 1 Z (zMQ E Z (zQI Z)) 0 [(0, .ref (zad Z 2 t0))] [] σ _
  unfold f_X2_atHome
  refine zr_g (fun ht0 => ?_)
  refine zr_aload_n C dX2_atHome_0 rfl ?_
  refine zf_X2_9 C (of_decide_eq_true ht0) dX2_atHome_1 ?_
  refine zr_iconst (v := 2) C dX2_atHome_4 rfl ?_
  refine zr_iald (n := 4) C dX2_atHome_5 (of_decide_eq_true ht0) rfl ?_
  refine zr_aload_n C dX2_atHome_6 rfl ?_
  refine zk_X2_24 C F (of_decide_eq_true ht0) (Nat.le_trans (by decide) hh) (by simp [Value.category]) dX2_atHome_7 (fun r7 m7 => ?_)
  refine zr_isub C dX2_atHome_10 ?_
  exact zr_iret C dX2_atHome_11
theorem zk_X2_28 (C : zCx E cc RX2 nL ret Z h) (F : Nat) {i0 : Nat} (hk : i0 < zN 2) (hh : 2 + 1 ≤ h) (hst8 : (st.map fun v => v.category).sum ≤ 8) (hd : decode cc pc = .ok (.invokevirtual 28, 3)) {g : Int32 → zMem → Option (α × zMem)} (kk : ∀ (r : Int32) (σ1 : zMem), zKO E nL Z QQ (pc + 3) L (.int r :: st) σ1 (g r σ1)) : zKO E nL Z QQ pc L (.ref (zad Z 2 i0) :: st) σ (zb (f_X2_atHome F σ i0) g) :=
  zr_callVI (As := []) (ia := 0) C (fun r σ1 ho => c_X2_atHome (zla E) Z F σ i0 r σ1 ho) wz_810 hk rfl rfl wz_p2 wz_456 wz_457 wz_10 (by decide +kernel) rfl (by decide) hh hd hst8 kk
theorem zk_X10_102 (C : zCx E cc RX10 nL ret Z h) (F : Nat) {i0 : Nat} (hk : i0 < zN 2) (hh : 2 + 1 ≤ h) (hst8 : (st.map fun v => v.category).sum ≤ 8) (hd : decode cc pc = .ok (.invokevirtual 102, 3)) {g : Int32 → zMem → Option (α × zMem)} (kk : ∀ (r : Int32) (σ1 : zMem), zKO E nL Z QQ (pc + 3) L (.int r :: st) σ1 (g r σ1)) : zKO E nL Z QQ pc L (.ref (zad Z 2 i0) :: st) σ (zb (f_X2_atHome F σ i0) g) :=
  zr_callVNI (As := []) (ia := 0) C (fun r σ1 ho => c_X2_atHome (zla E) Z F σ i0 r σ1 ho) wz_n454 hk rfl rfl wz_p2 wz_456 wz_457 wz_10 (by decide +kernel) rfl (by decide) hh hd hst8 kk
def f_X2_winterAtHome (F : Nat) (σ : zMem) (t0 : Nat) : Option (Unit × zMem) := zg (decide (t0 < 10)) (zb (f_X2_atHome F σ t0) fun r1 m1 => zg (inb 3 4) (zg (inb 3 4) (zg (inb 3 4) (zb (f_X2_atHome F (zwi m1 3 t0 3 (((m1.1 3 t0 3) - (zmin r1 ((m1.1 3 t0 3)))))) t0) fun r30 m30 => some ((), (zwi m30 2 t0 3 ((((zwi m1 3 t0 3 (((m1.1 3 t0 3) - (zmin r1 ((m1.1 3 t0 3)))))).1 2 t0 3) + (r30 - (zmin r1 ((m1.1 3 t0 3))))))))))))
set_option maxHeartbeats 4000000 in
set_option maxRecDepth 100000 in
theorem c_X2_winterAtHome (l : Launch) (Z : zLay) (F : Nat) (σ : zMem) (t0 : Nat) (r : Unit) (σ1 : zMem) (ho : f_X2_winterAtHome F σ t0 = some (r, σ1)) : zMet l yX2_winterAtHome cX2_winterAtHome 2 none 3 Z [.ref (zad Z 2 t0)] σ (zQV Z r σ1) := by
  refine zMet_of (Qc := zQV Z) (by decide) (Nat.le_of_ble_eq_true rfl) [(0, .ref (zad Z 2 t0))] rfl (fun E C => ?_) ho
  have hh : 3 ≤ 3 := Nat.le_refl _
  show zKO E 2 Z (zMQ E Z (zQV Z)) 0 [(0, .ref (zad Z 2 t0))] [] σ _
  unfold f_X2_winterAtHome
  refine zr_g (fun ht0 => ?_)
  refine zr_aload_n C dX2_winterAtHome_0 rfl ?_
  refine zk_X2_28 C F (of_decide_eq_true ht0) (Nat.le_trans (by decide) hh) (by simp [Value.category]) dX2_winterAtHome_1 (fun r1 m1 => ?_)
  refine zr_aload_n C dX2_winterAtHome_4 rfl ?_
  refine zf_X2_9 C (of_decide_eq_true ht0) dX2_winterAtHome_5 ?_
  refine zr_iconst (v := 3) C dX2_winterAtHome_8 rfl ?_
  refine zr_iald (n := 4) C dX2_winterAtHome_9 (of_decide_eq_true ht0) rfl ?_
  refine zr_mmin C wz_811 wz_796 wz_17 wz_797 (Nat.le_trans (by decide) hh) (by simp [Value.category]) dX2_winterAtHome_10 ?_
  refine zr_istore_n (i := 1) (L1 := [(1, .int _), (0, .ref _)]) C dX2_winterAtHome_13 rfl (by decide) rfl ?_
  refine zr_aload_n C dX2_winterAtHome_14 rfl ?_
  refine zf_X2_9 C (of_decide_eq_true ht0) dX2_winterAtHome_15 ?_
  refine zr_iconst (v := 3) C dX2_winterAtHome_18 rfl ?_
  refine zr_dup2 C dX2_winterAtHome_19 rfl rfl ?_
  refine zr_iald (n := 4) C dX2_winterAtHome_20 (of_decide_eq_true ht0) rfl ?_
  refine zr_iload_n C dX2_winterAtHome_21 rfl ?_
  refine zr_isub C dX2_winterAtHome_22 ?_
  refine zr_iast (n := 4) C dX2_winterAtHome_23 (of_decide_eq_true ht0) (fun _ _ => rfl) ?_
  refine zr_aload_n C dX2_winterAtHome_24 rfl ?_
  refine zr_dup C dX2_winterAtHome_25 rfl ?_
  refine zf_X2_37 C (of_decide_eq_true ht0) dX2_winterAtHome_26 ?_
  refine zr_aload_n C dX2_winterAtHome_29 rfl ?_
  refine zk_X2_28 C F (of_decide_eq_true ht0) (Nat.le_trans (by decide) hh) (by simp [Value.category]) dX2_winterAtHome_30 (fun r30 m30 => ?_)
  refine zr_iload_n C dX2_winterAtHome_33 rfl ?_
  refine zr_isub C dX2_winterAtHome_34 ?_
  refine zr_iadd C dX2_winterAtHome_35 ?_
  refine zp_X2_37 C (of_decide_eq_true ht0) dX2_winterAtHome_36 ?_
  exact zr_vret C dX2_winterAtHome_39
theorem zk_X10_301 (C : zCx E cc RX10 nL ret Z h) (F : Nat) {i0 : Nat} (hk : i0 < zN 2) (hh : 3 + 1 ≤ h) (hst8 : (st.map fun v => v.category).sum ≤ 8) (hd : decode cc pc = .ok (.invokevirtual 301, 3)) {g : Unit → zMem → Option (α × zMem)} (kk : ∀ (r : Unit) (σ1 : zMem), zKO E nL Z QQ (pc + 3) L (st) σ1 (g r σ1)) : zKO E nL Z QQ pc L (.ref (zad Z 2 i0) :: st) σ (zb (f_X2_winterAtHome F σ i0) g) :=
  zr_callVNU (As := []) (ia := 0) C (fun r σ1 ho => c_X2_winterAtHome (zla E) Z F σ i0 r σ1 ho) wz_n806 hk rfl rfl wz_p42 wz_808 wz_809 wz_10 (by decide +kernel) rfl (by decide) hh hd hst8 kk
def f_X2_oweMore (F : Nat) (σ : zMem) (t0 : Nat) (a1 : Int64) : Option (Int32 × zMem) := zg (decide (t0 < 10)) (some ((((zminl a1 ((((99999999 - (σ.1 2 t0 2))).toInt64)))).toInt32), (zwi σ 2 t0 2 (((σ.1 2 t0 2) + (((zminl a1 ((((99999999 - (σ.1 2 t0 2))).toInt64)))).toInt32))))))
set_option maxHeartbeats 4000000 in
set_option maxRecDepth 100000 in
theorem c_X2_oweMore (l : Launch) (Z : zLay) (F : Nat) (σ : zMem) (t0 : Nat) (a1 : Int64) (r : Int32) (σ1 : zMem) (ho : f_X2_oweMore F σ t0 a1 = some (r, σ1)) : zMet l yX2_oweMore cX2_oweMore 4 (some .int) 1 Z [.ref (zad Z 2 t0), .long (a1)] σ (zQI Z r σ1) := by
  refine zMet_of (Qc := zQI Z) (by decide) (Nat.le_of_ble_eq_true rfl) [(0, .ref (zad Z 2 t0)), (1, .long (a1))] rfl (fun E C => ?_) ho
  have hh : 1 ≤ 1 := Nat.le_refl _
  show zKO E 4 Z (zMQ E Z (zQI Z)) 0 [(0, .ref (zad Z 2 t0)), (1, .long (a1))] [] σ _
  unfold f_X2_oweMore
  refine zr_g (fun ht0 => ?_)
  refine zr_lload_n C dX2_oweMore_0 rfl ?_
  refine zr_ldc (v := 99999999) C dX2_oweMore_1 wz_816 ?_
  refine zr_aload_n C dX2_oweMore_3 rfl ?_
  refine zf_X2_42 C (of_decide_eq_true ht0) dX2_oweMore_4 ?_
  refine zr_isub C dX2_oweMore_7 ?_
  refine zr_i2l C dX2_oweMore_8 ?_
  refine zr_mminl C wz_817 wz_818 wz_17 wz_819 (Nat.le_trans (by decide) hh) (by simp [Value.category]) dX2_oweMore_9 ?_
  refine zr_l2i C dX2_oweMore_12 ?_
  refine zr_istore_n (i := 3) (L1 := [(3, .int _), (0, .ref _), (1, .long _)]) C dX2_oweMore_13 rfl (by decide) rfl ?_
  refine zr_aload_n C dX2_oweMore_14 rfl ?_
  refine zr_dup C dX2_oweMore_15 rfl ?_
  refine zf_X2_42 C (of_decide_eq_true ht0) dX2_oweMore_16 ?_
  refine zr_iload_n C dX2_oweMore_19 rfl ?_
  refine zr_iadd C dX2_oweMore_20 ?_
  refine zp_X2_42 C (of_decide_eq_true ht0) dX2_oweMore_21 ?_
  refine zr_iload_n C dX2_oweMore_24 rfl ?_
  exact zr_iret C dX2_oweMore_25
theorem zk_X10_304 (C : zCx E cc RX10 nL ret Z h) (F : Nat) {i0 : Nat} {b0 : Int64} (hk : i0 < zN 2) (hh : 1 + 1 ≤ h) (hst8 : (st.map fun v => v.category).sum ≤ 8) (hd : decode cc pc = .ok (.invokevirtual 304, 3)) {g : Int32 → zMem → Option (α × zMem)} (kk : ∀ (r : Int32) (σ1 : zMem), zKO E nL Z QQ (pc + 3) L (.int r :: st) σ1 (g r σ1)) : zKO E nL Z QQ pc L (.long b0 :: .ref (zad Z 2 i0) :: st) σ (zb (f_X2_oweMore F σ i0 b0) g) :=
  zr_callVNI (As := [.long b0]) (ia := 1) C (fun r σ1 ho => c_X2_oweMore (zla E) Z F σ i0 b0 r σ1 ho) wz_n812 hk rfl rfl wz_p43 wz_814 wz_815 wz_10 (by decide +kernel) rfl (by decide) hh hd hst8 kk
def f_X2_takeWheels (F : Nat) (σ : zMem) (t0 : Nat) (a1 : Int32) : Option (Unit × zMem) := zg (decide (t0 < 10)) (some ((), (zwi (zwi (zwi σ 2 t0 8 (((σ.1 2 t0 8) + a1))) 2 t0 7 ((((zwi σ 2 t0 8 (((σ.1 2 t0 8) + a1))).1 2 t0 7) + a1))) 2 t0 9 ((((zwi (zwi σ 2 t0 8 (((σ.1 2 t0 8) + a1))) 2 t0 7 ((((zwi σ 2 t0 8 (((σ.1 2 t0 8) + a1))).1 2 t0 7) + a1))).1 2 t0 9) - (a1 * 10000))))))
set_option maxHeartbeats 4000000 in
set_option maxRecDepth 100000 in
theorem c_X2_takeWheels (l : Launch) (Z : zLay) (F : Nat) (σ : zMem) (t0 : Nat) (a1 : Int32) (r : Unit) (σ1 : zMem) (ho : f_X2_takeWheels F σ t0 a1 = some (r, σ1)) : zMet l yX2_takeWheels cX2_takeWheels 2 none 1 Z [.ref (zad Z 2 t0), .int (a1)] σ (zQV Z r σ1) := by
  refine zMet_of (Qc := zQV Z) (by decide) (Nat.le_of_ble_eq_true rfl) [(0, .ref (zad Z 2 t0)), (1, .int (a1))] rfl (fun E C => ?_) ho
  have hh : 1 ≤ 1 := Nat.le_refl _
  show zKO E 2 Z (zMQ E Z (zQV Z)) 0 [(0, .ref (zad Z 2 t0)), (1, .int (a1))] [] σ _
  unfold f_X2_takeWheels
  refine zr_g (fun ht0 => ?_)
  refine zr_aload_n C dX2_takeWheels_0 rfl ?_
  refine zr_dup C dX2_takeWheels_1 rfl ?_
  refine zf_X2_56 C (of_decide_eq_true ht0) dX2_takeWheels_2 ?_
  refine zr_iload_n C dX2_takeWheels_5 rfl ?_
  refine zr_iadd C dX2_takeWheels_6 ?_
  refine zp_X2_56 C (of_decide_eq_true ht0) dX2_takeWheels_7 ?_
  refine zr_aload_n C dX2_takeWheels_10 rfl ?_
  refine zr_dup C dX2_takeWheels_11 rfl ?_
  refine zf_X2_63 C (of_decide_eq_true ht0) dX2_takeWheels_12 ?_
  refine zr_iload_n C dX2_takeWheels_15 rfl ?_
  refine zr_iadd C dX2_takeWheels_16 ?_
  refine zp_X2_63 C (of_decide_eq_true ht0) dX2_takeWheels_17 ?_
  refine zr_aload_n C dX2_takeWheels_20 rfl ?_
  refine zr_dup C dX2_takeWheels_21 rfl ?_
  refine zf_X2_48 C (of_decide_eq_true ht0) dX2_takeWheels_22 ?_
  refine zr_iload_n C dX2_takeWheels_25 rfl ?_
  refine zr_sipush (v := 10000) C dX2_takeWheels_26 rfl ?_
  refine zr_imul C dX2_takeWheels_29 ?_
  refine zr_isub C dX2_takeWheels_30 ?_
  refine zp_X2_48 C (of_decide_eq_true ht0) dX2_takeWheels_31 ?_
  exact zr_vret C dX2_takeWheels_34
theorem zk_X2_59 (C : zCx E cc RX2 nL ret Z h) (F : Nat) {i0 : Nat} {b0 : Int32} (hk : i0 < zN 2) (hh : 1 + 1 ≤ h) (hst8 : (st.map fun v => v.category).sum ≤ 8) (hd : decode cc pc = .ok (.invokevirtual 59, 3)) {g : Unit → zMem → Option (α × zMem)} (kk : ∀ (r : Unit) (σ1 : zMem), zKO E nL Z QQ (pc + 3) L (st) σ1 (g r σ1)) : zKO E nL Z QQ pc L (.int b0 :: .ref (zad Z 2 i0) :: st) σ (zb (f_X2_takeWheels F σ i0 b0) g) :=
  zr_callVU (As := [.int b0]) (ia := 1) C (fun r σ1 ho => c_X2_takeWheels (zla E) Z F σ i0 b0 r σ1 ho) wz_900 hk rfl rfl wz_p57 wz_902 wz_903 wz_10 (by decide +kernel) rfl (by decide) hh hd hst8 kk
theorem zk_X10_362 (C : zCx E cc RX10 nL ret Z h) (F : Nat) {i0 : Nat} {b0 : Int32} (hk : i0 < zN 2) (hh : 1 + 1 ≤ h) (hst8 : (st.map fun v => v.category).sum ≤ 8) (hd : decode cc pc = .ok (.invokevirtual 362, 3)) {g : Unit → zMem → Option (α × zMem)} (kk : ∀ (r : Unit) (σ1 : zMem), zKO E nL Z QQ (pc + 3) L (st) σ1 (g r σ1)) : zKO E nL Z QQ pc L (.int b0 :: .ref (zad Z 2 i0) :: st) σ (zb (f_X2_takeWheels F σ i0 b0) g) :=
  zr_callVNU (As := [.int b0]) (ia := 1) C (fun r σ1 ho => c_X2_takeWheels (zla E) Z F σ i0 b0 r σ1 ho) wz_n908 hk rfl rfl wz_p57 wz_902 wz_903 wz_10 (by decide +kernel) rfl (by decide) hh hd hst8 kk
def f_X2_partWheels (F : Nat) (σ : zMem) (t0 : Nat) (a1 : Int32) (a2 : Int32) : Option (Int32 × zMem) := zg (decide (t0 < 10)) (zg (znl ((a2.toInt64))) (if ((zwi (zwi σ 2 t0 9 (((σ.1 2 t0 9) + ((((((a1.toInt64) * (((σ.1 2 t0 5)).toInt64)) * 10000) / (a2.toInt64))).toInt32)))) 2 t0 8 0).1 2 t0 9) ≤ 0 then (some (((zwi (zwi σ 2 t0 9 (((σ.1 2 t0 9) + ((((((a1.toInt64) * (((σ.1 2 t0 5)).toInt64)) * 10000) / (a2.toInt64))).toInt32)))) 2 t0 8 0).1 2 t0 8), (zwi (zwi σ 2 t0 9 (((σ.1 2 t0 9) + ((((((a1.toInt64) * (((σ.1 2 t0 5)).toInt64)) * 10000) / (a2.toInt64))).toInt32)))) 2 t0 8 0))) else (zg (zni 10000) (zb (f_X2_takeWheels F (zwi (zwi σ 2 t0 9 (((σ.1 2 t0 9) + ((((((a1.toInt64) * (((σ.1 2 t0 5)).toInt64)) * 10000) / (a2.toInt64))).toInt32)))) 2 t0 8 0) t0 ((((zwi (zwi σ 2 t0 9 (((σ.1 2 t0 9) + ((((((a1.toInt64) * (((σ.1 2 t0 5)).toInt64)) * 10000) / (a2.toInt64))).toInt32)))) 2 t0 8 0).1 2 t0 9) / 10000))) fun r46 m46 => some ((m46.1 2 t0 8), m46)))))
set_option maxHeartbeats 4000000 in
set_option maxRecDepth 100000 in
theorem c_X2_partWheels (l : Launch) (Z : zLay) (F : Nat) (σ : zMem) (t0 : Nat) (a1 : Int32) (a2 : Int32) (r : Int32) (σ1 : zMem) (ho : f_X2_partWheels F σ t0 a1 a2 = some (r, σ1)) : zMet l yX2_partWheels cX2_partWheels 3 (some .int) 2 Z [.ref (zad Z 2 t0), .int (a1), .int (a2)] σ (zQI Z r σ1) := by
  refine zMet_of (Qc := zQI Z) (by decide) (Nat.le_of_ble_eq_true rfl) [(0, .ref (zad Z 2 t0)), (1, .int (a1)), (2, .int (a2))] rfl (fun E C => ?_) ho
  have hh : 2 ≤ 2 := Nat.le_refl _
  show zKO E 3 Z (zMQ E Z (zQI Z)) 0 [(0, .ref (zad Z 2 t0)), (1, .int (a1)), (2, .int (a2))] [] σ _
  unfold f_X2_partWheels
  refine zr_g (fun ht0 => ?_)
  refine zr_aload_n C dX2_partWheels_0 rfl ?_
  refine zr_dup C dX2_partWheels_1 rfl ?_
  refine zf_X2_48 C (of_decide_eq_true ht0) dX2_partWheels_2 ?_
  refine zr_iload_n C dX2_partWheels_5 rfl ?_
  refine zr_i2l C dX2_partWheels_6 ?_
  refine zr_aload_n C dX2_partWheels_7 rfl ?_
  refine zf_X2_51 C (of_decide_eq_true ht0) dX2_partWheels_8 ?_
  refine zr_i2l C dX2_partWheels_11 ?_
  refine zr_lmul C dX2_partWheels_12 ?_
  refine zr_ldc2 (v := 10000) C dX2_partWheels_13 wz_899 ?_
  refine zr_lmul C dX2_partWheels_16 ?_
  refine zr_iload_n C dX2_partWheels_17 rfl ?_
  refine zr_i2l C dX2_partWheels_18 ?_
  refine zr_ldiv C dX2_partWheels_19 ?_
  refine zr_l2i C dX2_partWheels_20 ?_
  refine zr_iadd C dX2_partWheels_21 ?_
  refine zp_X2_48 C (of_decide_eq_true ht0) dX2_partWheels_22 ?_
  refine zr_aload_n C dX2_partWheels_25 rfl ?_
  refine zr_iconst (v := 0) C dX2_partWheels_26 rfl ?_
  refine zp_X2_56 C (of_decide_eq_true ht0) dX2_partWheels_27 ?_
  refine zr_aload_n C dX2_partWheels_30 rfl ?_
  refine zf_X2_48 C (of_decide_eq_true ht0) dX2_partWheels_31 ?_
  refine zr_if_le (tgt := 49) C dX2_partWheels_34 (by decide) ?_ ?_
  · refine zr_aload_n C dX2_partWheels_49 rfl ?_
    refine zf_X2_56 C (of_decide_eq_true ht0) dX2_partWheels_50 ?_
    exact zr_iret C dX2_partWheels_53
  · refine zr_aload_n C dX2_partWheels_37 rfl ?_
    refine zr_aload_n C dX2_partWheels_38 rfl ?_
    refine zf_X2_48 C (of_decide_eq_true ht0) dX2_partWheels_39 ?_
    refine zr_sipush (v := 10000) C dX2_partWheels_42 rfl ?_
    refine zr_idiv C dX2_partWheels_45 ?_
    refine zk_X2_59 C F (of_decide_eq_true ht0) (Nat.le_trans (by decide) hh) (by simp [Value.category]) dX2_partWheels_46 (fun r46 m46 => ?_)
    refine zr_aload_n C dX2_partWheels_49 rfl ?_
    refine zf_X2_56 C (of_decide_eq_true ht0) dX2_partWheels_50 ?_
    exact zr_iret C dX2_partWheels_53
theorem zk_X10_356 (C : zCx E cc RX10 nL ret Z h) (F : Nat) {i0 : Nat} {b0 : Int32} {b1 : Int32} (hk : i0 < zN 2) (hh : 2 + 1 ≤ h) (hst8 : (st.map fun v => v.category).sum ≤ 8) (hd : decode cc pc = .ok (.invokevirtual 356, 3)) {g : Int32 → zMem → Option (α × zMem)} (kk : ∀ (r : Int32) (σ1 : zMem), zKO E nL Z QQ (pc + 3) L (.int r :: st) σ1 (g r σ1)) : zKO E nL Z QQ pc L (.int b1 :: .int b0 :: .ref (zad Z 2 i0) :: st) σ (zb (f_X2_partWheels F σ i0 b0 b1) g) :=
  zr_callVNI (As := [.int b0, .int b1]) (ia := 2) C (fun r σ1 ho => c_X2_partWheels (zla E) Z F σ i0 b0 b1 r σ1 ho) wz_n895 hk rfl rfl wz_p56 wz_897 wz_898 wz_10 (by decide +kernel) rfl (by decide) hh hd hst8 kk
def f_X3_has (F : Nat) (σ : zMem) (a1 : Int32) : Option (Int32 × zMem) := if a1 < 0 then (some (0, σ)) else (if (σ.1 5 0 5) ≤ a1 then (some (0, σ)) else (some (1, σ)))
set_option maxHeartbeats 4000000 in
set_option maxRecDepth 100000 in
theorem c_X3_has (l : Launch) (Z : zLay) (F : Nat) (σ : zMem) (a1 : Int32) (r : Int32) (σ1 : zMem) (ho : f_X3_has F σ a1 = some (r, σ1)) : zMet l yX3_has cX3_has 2 (some .boolean) 1 Z [.ref (zad Z 5 0), .int (a1)] σ (zQI Z r σ1) := by
  refine zMet_of (Qc := zQI Z) (by decide) (Nat.le_of_ble_eq_true rfl) [(0, .ref (zad Z 5 0)), (1, .int (a1))] rfl (fun E C => ?_) ho
  have hh : 1 ≤ 1 := Nat.le_refl _
  show zKO E 2 Z (zMQ E Z (zQI Z)) 0 [(0, .ref (zad Z 5 0)), (1, .int (a1))] [] σ _
  unfold f_X3_has
  refine zr_iload_n C dX3_has_0 rfl ?_
  refine zr_if_lt (tgt := 16) C dX3_has_1 (by decide) ?_ ?_
  · refine zr_iconst (v := 0) C dX3_has_16 rfl ?_
    exact zr_zret C dX3_has_17 rfl
  · refine zr_iload_n C dX3_has_4 rfl ?_
    refine zr_aload_n C dX3_has_5 rfl ?_
    refine zf_X3_27 C (Nat.le_of_ble_eq_true rfl) dX3_has_6 ?_
    refine zr_icmp_ge (tgt := 16) C dX3_has_9 (by decide) ?_ ?_
    · refine zr_iconst (v := 0) C dX3_has_16 rfl ?_
      exact zr_zret C dX3_has_17 rfl
    · refine zr_iconst (v := 1) C dX3_has_12 rfl ?_
      refine zr_goto (tgt := 17) C dX3_has_13 (by decide) ?_
      exact zr_zret C dX3_has_17 rfl
theorem zk_X10_133 (C : zCx E cc RX10 nL ret Z h) (F : Nat) {b0 : Int32} (hk : 0 < zN 5) (hh : 1 + 1 ≤ h) (hst8 : (st.map fun v => v.category).sum ≤ 8) (hd : decode cc pc = .ok (.invokevirtual 133, 3)) {g : Int32 → zMem → Option (α × zMem)} (kk : ∀ (r : Int32) (σ1 : zMem), zKO E nL Z QQ (pc + 3) L (.int r :: st) σ1 (g r σ1)) : zKO E nL Z QQ pc L (.int b0 :: .ref (zad Z 5 0) :: st) σ (zb (f_X3_has F σ b0) g) :=
  zr_callVNI (As := [.int b0]) (ia := 1) C (fun r σ1 ho => c_X3_has (zla E) Z F σ b0 r σ1 ho) wz_n475 hk rfl rfl wz_p4 wz_477 wz_478 wz_2 (by decide +kernel) rfl (by decide) hh hd hst8 kk
def f_X3_enter (F : Nat) (σ : zMem) (a1 : Int32) (a2 : Int32) (a3 : Int32) : Option (Int32 × zMem) := zg (inb ((σ.1 5 0 5)) 50) (zg (inb (((zwi σ 6 0 ((σ.1 5 0 5)).toNatClampNeg a1).1 5 0 5)) 50) (zg (inb (((zwi (zwi σ 6 0 ((σ.1 5 0 5)).toNatClampNeg a1) 7 0 (((zwi σ 6 0 ((σ.1 5 0 5)).toNatClampNeg a1).1 5 0 5)).toNatClampNeg a2).1 5 0 5)) 50) (some (((zwi (zwi (zwi σ 6 0 ((σ.1 5 0 5)).toNatClampNeg a1) 7 0 (((zwi σ 6 0 ((σ.1 5 0 5)).toNatClampNeg a1).1 5 0 5)).toNatClampNeg a2) 8 0 (((zwi (zwi σ 6 0 ((σ.1 5 0 5)).toNatClampNeg a1) 7 0 (((zwi σ 6 0 ((σ.1 5 0 5)).toNatClampNeg a1).1 5 0 5)).toNatClampNeg a2).1 5 0 5)).toNatClampNeg a3).1 5 0 5), (zwi (zwi (zwi (zwi σ 6 0 ((σ.1 5 0 5)).toNatClampNeg a1) 7 0 (((zwi σ 6 0 ((σ.1 5 0 5)).toNatClampNeg a1).1 5 0 5)).toNatClampNeg a2) 8 0 (((zwi (zwi σ 6 0 ((σ.1 5 0 5)).toNatClampNeg a1) 7 0 (((zwi σ 6 0 ((σ.1 5 0 5)).toNatClampNeg a1).1 5 0 5)).toNatClampNeg a2).1 5 0 5)).toNatClampNeg a3) 5 0 5 ((((zwi (zwi (zwi σ 6 0 ((σ.1 5 0 5)).toNatClampNeg a1) 7 0 (((zwi σ 6 0 ((σ.1 5 0 5)).toNatClampNeg a1).1 5 0 5)).toNatClampNeg a2) 8 0 (((zwi (zwi σ 6 0 ((σ.1 5 0 5)).toNatClampNeg a1) 7 0 (((zwi σ 6 0 ((σ.1 5 0 5)).toNatClampNeg a1).1 5 0 5)).toNatClampNeg a2).1 5 0 5)).toNatClampNeg a3).1 5 0 5) + 1)))))))
set_option maxHeartbeats 4000000 in
set_option maxRecDepth 100000 in
theorem c_X3_enter (l : Launch) (Z : zLay) (F : Nat) (σ : zMem) (a1 : Int32) (a2 : Int32) (a3 : Int32) (r : Int32) (σ1 : zMem) (ho : f_X3_enter F σ a1 a2 a3 = some (r, σ1)) : zMet l yX3_enter cX3_enter 4 (some .int) 1 Z [.ref (zad Z 5 0), .int (a1), .int (a2), .int (a3)] σ (zQI Z r σ1) := by
  refine zMet_of (Qc := zQI Z) (by decide) (Nat.le_of_ble_eq_true rfl) [(0, .ref (zad Z 5 0)), (1, .int (a1)), (2, .int (a2)), (3, .int (a3))] rfl (fun E C => ?_) ho
  have hh : 1 ≤ 1 := Nat.le_refl _
  show zKO E 4 Z (zMQ E Z (zQI Z)) 0 [(0, .ref (zad Z 5 0)), (1, .int (a1)), (2, .int (a2)), (3, .int (a3))] [] σ _
  unfold f_X3_enter
  refine zr_aload_n C dX3_enter_0 rfl ?_
  refine zf_X3_9 C (Nat.le_of_ble_eq_true rfl) dX3_enter_1 ?_
  refine zr_aload_n C dX3_enter_4 rfl ?_
  refine zf_X3_27 C (Nat.le_of_ble_eq_true rfl) dX3_enter_5 ?_
  refine zr_iload_n C dX3_enter_8 rfl ?_
  refine zr_iast (n := 50) C dX3_enter_9 (Nat.le_of_ble_eq_true rfl) (fun _ _ => rfl) ?_
  refine zr_aload_n C dX3_enter_10 rfl ?_
  refine zf_X3_15 C (Nat.le_of_ble_eq_true rfl) dX3_enter_11 ?_
  refine zr_aload_n C dX3_enter_14 rfl ?_
  refine zf_X3_27 C (Nat.le_of_ble_eq_true rfl) dX3_enter_15 ?_
  refine zr_iload_n C dX3_enter_18 rfl ?_
  refine zr_iast (n := 50) C dX3_enter_19 (Nat.le_of_ble_eq_true rfl) (fun _ _ => rfl) ?_
  refine zr_aload_n C dX3_enter_20 rfl ?_
  refine zf_X3_18 C (Nat.le_of_ble_eq_true rfl) dX3_enter_21 ?_
  refine zr_aload_n C dX3_enter_24 rfl ?_
  refine zf_X3_27 C (Nat.le_of_ble_eq_true rfl) dX3_enter_25 ?_
  refine zr_iload_n C dX3_enter_28 rfl ?_
  refine zr_iast (n := 50) C dX3_enter_29 (Nat.le_of_ble_eq_true rfl) (fun _ _ => rfl) ?_
  refine zr_aload_n C dX3_enter_30 rfl ?_
  refine zr_dup C dX3_enter_31 rfl ?_
  refine zf_X3_27 C (Nat.le_of_ble_eq_true rfl) dX3_enter_32 ?_
  refine zr_dup_x1 C dX3_enter_35 rfl rfl ?_
  refine zr_iconst (v := 1) C dX3_enter_36 rfl ?_
  refine zr_iadd C dX3_enter_37 ?_
  refine zp_X3_27 C (Nat.le_of_ble_eq_true rfl) dX3_enter_38 ?_
  exact zr_iret C dX3_enter_41
theorem zk_X10_129 (C : zCx E cc RX10 nL ret Z h) (F : Nat) {b0 : Int32} {b1 : Int32} {b2 : Int32} (hk : 0 < zN 5) (hh : 1 + 1 ≤ h) (hst8 : (st.map fun v => v.category).sum ≤ 8) (hd : decode cc pc = .ok (.invokevirtual 129, 3)) {g : Int32 → zMem → Option (α × zMem)} (kk : ∀ (r : Int32) (σ1 : zMem), zKO E nL Z QQ (pc + 3) L (.int r :: st) σ1 (g r σ1)) : zKO E nL Z QQ pc L (.int b2 :: .int b1 :: .int b0 :: .ref (zad Z 5 0) :: st) σ (zb (f_X3_enter F σ b0 b1 b2) g) :=
  zr_callVNI (As := [.int b0, .int b1, .int b2]) (ia := 3) C (fun r σ1 ho => c_X3_enter (zla E) Z F σ b0 b1 b2 r σ1 ho) wz_n467 hk rfl rfl wz_p3 wz_469 wz_470 wz_2 (by decide +kernel) rfl (by decide) hh hd hst8 kk
def f_X3_commonOf (F : Nat) (σ : zMem) (a1 : Int32) : Option (Int32 × zMem) := zg (inb a1 50) (zg (inb ((σ.1 6 0 a1.toNatClampNeg)) 6) (some ((([-1, 0, 1, 2, 0, -1] : List Int32).getD ((σ.1 6 0 a1.toNatClampNeg)).toNatClampNeg 0), σ)))
set_option maxHeartbeats 4000000 in
set_option maxRecDepth 100000 in
theorem c_X3_commonOf (l : Launch) (Z : zLay) (F : Nat) (σ : zMem) (a1 : Int32) (r : Int32) (σ1 : zMem) (ho : f_X3_commonOf F σ a1 = some (r, σ1)) : zMet l yX3_commonOf cX3_commonOf 2 (some .int) 1 Z [.ref (zad Z 5 0), .int (a1)] σ (zQI Z r σ1) := by
  refine zMet_of (Qc := zQI Z) (by decide) (Nat.le_of_ble_eq_true rfl) [(0, .ref (zad Z 5 0)), (1, .int (a1))] rfl (fun E C => ?_) ho
  have hh : 1 ≤ 1 := Nat.le_refl _
  show zKO E 2 Z (zMQ E Z (zQI Z)) 0 [(0, .ref (zad Z 5 0)), (1, .int (a1))] [] σ _
  unfold f_X3_commonOf
  refine zr_gets C ("AlpCommune$Rights", "COMMON_OF", 152, [-1, 0, 1, 2, 0, -1]) (by decide +kernel) wz_483 dX3_commonOf_0 ?_
  refine zr_aload_n C dX3_commonOf_3 rfl ?_
  refine zf_X3_9 C (Nat.le_of_ble_eq_true rfl) dX3_commonOf_4 ?_
  refine zr_iload_n C dX3_commonOf_7 rfl ?_
  refine zr_iald (n := 50) C dX3_commonOf_8 (Nat.le_of_ble_eq_true rfl) rfl ?_
  refine zr_ialdS C ("AlpCommune$Rights", "COMMON_OF", 152, [-1, 0, 1, 2, 0, -1]) (by decide +kernel) dX3_commonOf_9 ?_
  exact zr_iret C dX3_commonOf_10
theorem zk_X3_38 (C : zCx E cc RX3 nL ret Z h) (F : Nat) {b0 : Int32} (hk : 0 < zN 5) (hh : 1 + 1 ≤ h) (hst8 : (st.map fun v => v.category).sum ≤ 8) (hd : decode cc pc = .ok (.invokevirtual 38, 3)) {g : Int32 → zMem → Option (α × zMem)} (kk : ∀ (r : Int32) (σ1 : zMem), zKO E nL Z QQ (pc + 3) L (.int r :: st) σ1 (g r σ1)) : zKO E nL Z QQ pc L (.int b0 :: .ref (zad Z 5 0) :: st) σ (zb (f_X3_commonOf F σ b0) g) :=
  zr_callVI (As := [.int b0]) (ia := 1) C (fun r σ1 ho => c_X3_commonOf (zla E) Z F σ b0 r σ1 ho) wz_497 hk rfl rfl wz_p5 wz_481 wz_482 wz_2 (by decide +kernel) rfl (by decide) hh hd hst8 kk
theorem zk_X10_138 (C : zCx E cc RX10 nL ret Z h) (F : Nat) {b0 : Int32} (hk : 0 < zN 5) (hh : 1 + 1 ≤ h) (hst8 : (st.map fun v => v.category).sum ≤ 8) (hd : decode cc pc = .ok (.invokevirtual 138, 3)) {g : Int32 → zMem → Option (α × zMem)} (kk : ∀ (r : Int32) (σ1 : zMem), zKO E nL Z QQ (pc + 3) L (.int r :: st) σ1 (g r σ1)) : zKO E nL Z QQ pc L (.int b0 :: .ref (zad Z 5 0) :: st) σ (zb (f_X3_commonOf F σ b0) g) :=
  zr_callVNI (As := [.int b0]) (ia := 1) C (fun r σ1 ho => c_X3_commonOf (zla E) Z F σ b0 r σ1 ho) wz_n479 hk rfl rfl wz_p5 wz_481 wz_482 wz_2 (by decide +kernel) rfl (by decide) hh hd hst8 kk
def f_X3_isLent (F : Nat) (σ : zMem) (a1 : Int32) (a2 : Int32) : Option (Int32 × zMem) := zg (inb a1 50) (if (σ.1 10 0 a1.toNatClampNeg) ≤ a2 then (some (0, σ)) else (some (1, σ)))
set_option maxHeartbeats 4000000 in
set_option maxRecDepth 100000 in
theorem c_X3_isLent (l : Launch) (Z : zLay) (F : Nat) (σ : zMem) (a1 : Int32) (a2 : Int32) (r : Int32) (σ1 : zMem) (ho : f_X3_isLent F σ a1 a2 = some (r, σ1)) : zMet l yX3_isLent cX3_isLent 3 (some .boolean) 1 Z [.ref (zad Z 5 0), .int (a1), .int (a2)] σ (zQI Z r σ1) := by
  refine zMet_of (Qc := zQI Z) (by decide) (Nat.le_of_ble_eq_true rfl) [(0, .ref (zad Z 5 0)), (1, .int (a1)), (2, .int (a2))] rfl (fun E C => ?_) ho
  have hh : 1 ≤ 1 := Nat.le_refl _
  show zKO E 3 Z (zMQ E Z (zQI Z)) 0 [(0, .ref (zad Z 5 0)), (1, .int (a1)), (2, .int (a2))] [] σ _
  unfold f_X3_isLent
  refine zr_iload_n C dX3_isLent_0 rfl ?_
  refine zr_aload_n C dX3_isLent_1 rfl ?_
  refine zf_X3_24 C (Nat.le_of_ble_eq_true rfl) dX3_isLent_2 ?_
  refine zr_iload_n C dX3_isLent_5 rfl ?_
  refine zr_iald (n := 50) C dX3_isLent_6 (Nat.le_of_ble_eq_true rfl) rfl ?_
  refine zr_icmp_ge (tgt := 14) C dX3_isLent_7 (by decide) ?_ ?_
  · refine zr_iconst (v := 0) C dX3_isLent_14 rfl ?_
    exact zr_zret C dX3_isLent_15 rfl
  · refine zr_iconst (v := 1) C dX3_isLent_10 rfl ?_
    refine zr_goto (tgt := 15) C dX3_isLent_11 (by decide) ?_
    exact zr_zret C dX3_isLent_15 rfl
theorem zk_X3_34 (C : zCx E cc RX3 nL ret Z h) (F : Nat) {b0 : Int32} {b1 : Int32} (hk : 0 < zN 5) (hh : 1 + 1 ≤ h) (hst8 : (st.map fun v => v.category).sum ≤ 8) (hd : decode cc pc = .ok (.invokevirtual 34, 3)) {g : Int32 → zMem → Option (α × zMem)} (kk : ∀ (r : Int32) (σ1 : zMem), zKO E nL Z QQ (pc + 3) L (.int r :: st) σ1 (g r σ1)) : zKO E nL Z QQ pc L (.int b1 :: .int b0 :: .ref (zad Z 5 0) :: st) σ (zb (f_X3_isLent F σ b0 b1) g) :=
  zr_callVI (As := [.int b0, .int b1]) (ia := 2) C (fun r σ1 ho => c_X3_isLent (zla E) Z F σ b0 b1 r σ1 ho) wz_498 hk rfl rfl wz_p6 wz_487 wz_488 wz_2 (by decide +kernel) rfl (by decide) hh hd hst8 kk
theorem zk_X10_145 (C : zCx E cc RX10 nL ret Z h) (F : Nat) {b0 : Int32} {b1 : Int32} (hk : 0 < zN 5) (hh : 1 + 1 ≤ h) (hst8 : (st.map fun v => v.category).sum ≤ 8) (hd : decode cc pc = .ok (.invokevirtual 145, 3)) {g : Int32 → zMem → Option (α × zMem)} (kk : ∀ (r : Int32) (σ1 : zMem), zKO E nL Z QQ (pc + 3) L (.int r :: st) σ1 (g r σ1)) : zKO E nL Z QQ pc L (.int b1 :: .int b0 :: .ref (zad Z 5 0) :: st) σ (zb (f_X3_isLent F σ b0 b1) g) :=
  zr_callVNI (As := [.int b0, .int b1]) (ia := 2) C (fun r σ1 ho => c_X3_isLent (zla E) Z F σ b0 b1 r σ1 ho) wz_n485 hk rfl rfl wz_p6 wz_487 wz_488 wz_2 (by decide +kernel) rfl (by decide) hh hd hst8 kk
def f_X3_holder (F : Nat) (σ : zMem) (a1 : Int32) (a2 : Int32) : Option (Int32 × zMem) := zb (f_X3_isLent F σ a1 a2) fun r3 m3 => if r3 = 0 then (zg (inb a1 50) (some ((m3.1 7 0 a1.toNatClampNeg), m3))) else (zg (inb a1 50) (some ((m3.1 9 0 a1.toNatClampNeg), m3)))
set_option maxHeartbeats 4000000 in
set_option maxRecDepth 100000 in
theorem c_X3_holder (l : Launch) (Z : zLay) (F : Nat) (σ : zMem) (a1 : Int32) (a2 : Int32) (r : Int32) (σ1 : zMem) (ho : f_X3_holder F σ a1 a2 = some (r, σ1)) : zMet l yX3_holder cX3_holder 3 (some .int) 2 Z [.ref (zad Z 5 0), .int (a1), .int (a2)] σ (zQI Z r σ1) := by
  refine zMet_of (Qc := zQI Z) (by decide) (Nat.le_of_ble_eq_true rfl) [(0, .ref (zad Z 5 0)), (1, .int (a1)), (2, .int (a2))] rfl (fun E C => ?_) ho
  have hh : 2 ≤ 2 := Nat.le_refl _
  show zKO E 3 Z (zMQ E Z (zQI Z)) 0 [(0, .ref (zad Z 5 0)), (1, .int (a1)), (2, .int (a2))] [] σ _
  unfold f_X3_holder
  refine zr_aload_n C dX3_holder_0 rfl ?_
  refine zr_iload_n C dX3_holder_1 rfl ?_
  refine zr_iload_n C dX3_holder_2 rfl ?_
  refine zk_X3_34 C F (Nat.le_of_ble_eq_true rfl) (Nat.le_trans (by decide) hh) (by simp [Value.category]) dX3_holder_3 (fun r3 m3 => ?_)
  refine zr_if_eq (tgt := 18) C dX3_holder_6 (by decide) ?_ ?_
  · refine zr_aload_n C dX3_holder_18 rfl ?_
    refine zf_X3_15 C (Nat.le_of_ble_eq_true rfl) dX3_holder_19 ?_
    refine zr_iload_n C dX3_holder_22 rfl ?_
    refine zr_iald (n := 50) C dX3_holder_23 (Nat.le_of_ble_eq_true rfl) rfl ?_
    exact zr_iret C dX3_holder_24
  · refine zr_aload_n C dX3_holder_9 rfl ?_
    refine zf_X3_21 C (Nat.le_of_ble_eq_true rfl) dX3_holder_10 ?_
    refine zr_iload_n C dX3_holder_13 rfl ?_
    refine zr_iald (n := 50) C dX3_holder_14 (Nat.le_of_ble_eq_true rfl) rfl ?_
    refine zr_goto (tgt := 24) C dX3_holder_15 (by decide) ?_
    exact zr_iret C dX3_holder_24
theorem zk_X3_42 (C : zCx E cc RX3 nL ret Z h) (F : Nat) {b0 : Int32} {b1 : Int32} (hk : 0 < zN 5) (hh : 2 + 1 ≤ h) (hst8 : (st.map fun v => v.category).sum ≤ 8) (hd : decode cc pc = .ok (.invokevirtual 42, 3)) {g : Int32 → zMem → Option (α × zMem)} (kk : ∀ (r : Int32) (σ1 : zMem), zKO E nL Z QQ (pc + 3) L (.int r :: st) σ1 (g r σ1)) : zKO E nL Z QQ pc L (.int b1 :: .int b0 :: .ref (zad Z 5 0) :: st) σ (zb (f_X3_holder F σ b0 b1) g) :=
  zr_callVI (As := [.int b0, .int b1]) (ia := 2) C (fun r σ1 ho => c_X3_holder (zla E) Z F σ b0 b1 r σ1 ho) wz_527 hk rfl rfl wz_p8 wz_513 wz_514 wz_2 (by decide +kernel) rfl (by decide) hh hd hst8 kk
theorem zk_X10_164 (C : zCx E cc RX10 nL ret Z h) (F : Nat) {b0 : Int32} {b1 : Int32} (hk : 0 < zN 5) (hh : 2 + 1 ≤ h) (hst8 : (st.map fun v => v.category).sum ≤ 8) (hd : decode cc pc = .ok (.invokevirtual 164, 3)) {g : Int32 → zMem → Option (α × zMem)} (kk : ∀ (r : Int32) (σ1 : zMem), zKO E nL Z QQ (pc + 3) L (.int r :: st) σ1 (g r σ1)) : zKO E nL Z QQ pc L (.int b1 :: .int b0 :: .ref (zad Z 5 0) :: st) σ (zb (f_X3_holder F σ b0 b1) g) :=
  zr_callVNI (As := [.int b0, .int b1]) (ia := 2) C (fun r σ1 ho => c_X3_holder (zla E) Z F σ b0 b1 r σ1 ho) wz_n511 hk rfl rfl wz_p8 wz_513 wz_514 wz_2 (by decide +kernel) rfl (by decide) hh hd hst8 kk
def f_X3_joinable (F : Nat) (σ : zMem) (a1 : Int32) (a2 : Int32) (a3 : Int32) : Option (Int32 × zMem) := zb (f_X3_commonOf F σ a1) fun r2 m2 => if r2 < 0 then (some (0, m2)) else (zb (f_X3_commonOf F m2 a1) fun r10 m10 => zb (f_X3_commonOf F m10 a2) fun r15 m15 => if r10 = r15 then (zg (inb a1 50) (zg (inb a2 50) (if (m15.1 7 0 a1.toNatClampNeg) = (m15.1 7 0 a2.toNatClampNeg) then (zb (f_X3_isLent F m15 a1 a3) fun r41 m41 => if r41 = 0 then (zb (f_X3_isLent F m41 a2 a3) fun r50 m50 => if r50 = 0 then (zg (inb a1 50) (if (m50.1 8 0 a1.toNatClampNeg) ≤ 0 then (some (0, m50)) else (zg (inb a2 50) (if (m50.1 8 0 a2.toNatClampNeg) ≤ 0 then (some (0, m50)) else (some (1, m50)))))) else (some (0, m50))) else (some (0, m41))) else (some (0, m15))))) else (some (0, m15)))
set_option maxHeartbeats 4000000 in
set_option maxRecDepth 100000 in
theorem c_X3_joinable (l : Launch) (Z : zLay) (F : Nat) (σ : zMem) (a1 : Int32) (a2 : Int32) (a3 : Int32) (r : Int32) (σ1 : zMem) (ho : f_X3_joinable F σ a1 a2 a3 = some (r, σ1)) : zMet l yX3_joinable cX3_joinable 4 (some .boolean) 2 Z [.ref (zad Z 5 0), .int (a1), .int (a2), .int (a3)] σ (zQI Z r σ1) := by
  refine zMet_of (Qc := zQI Z) (by decide) (Nat.le_of_ble_eq_true rfl) [(0, .ref (zad Z 5 0)), (1, .int (a1)), (2, .int (a2)), (3, .int (a3))] rfl (fun E C => ?_) ho
  have hh : 2 ≤ 2 := Nat.le_refl _
  show zKO E 4 Z (zMQ E Z (zQI Z)) 0 [(0, .ref (zad Z 5 0)), (1, .int (a1)), (2, .int (a2)), (3, .int (a3))] [] σ _
  unfold f_X3_joinable
  refine zr_aload_n C dX3_joinable_0 rfl ?_
  refine zr_iload_n C dX3_joinable_1 rfl ?_
  refine zk_X3_38 C F (Nat.le_of_ble_eq_true rfl) (Nat.le_trans (by decide) hh) (by simp [Value.category]) dX3_joinable_2 (fun r2 m2 => ?_)
  refine zr_if_lt (tgt := 36) C dX3_joinable_5 (by decide) ?_ ?_
  · refine zr_iconst (v := 0) C dX3_joinable_36 rfl ?_
    exact zr_zret C dX3_joinable_37 rfl
  · refine zr_aload_n C dX3_joinable_8 rfl ?_
    refine zr_iload_n C dX3_joinable_9 rfl ?_
    refine zk_X3_38 C F (Nat.le_of_ble_eq_true rfl) (Nat.le_trans (by decide) hh) (by simp [Value.category]) dX3_joinable_10 (fun r10 m10 => ?_)
    refine zr_aload_n C dX3_joinable_13 rfl ?_
    refine zr_iload_n C dX3_joinable_14 rfl ?_
    refine zk_X3_38 C F (Nat.le_of_ble_eq_true rfl) (Nat.le_trans (by decide) hh) (by simp [Value.category]) dX3_joinable_15 (fun r15 m15 => ?_)
    refine zr_icmp_ne (tgt := 36) C dX3_joinable_18 (by decide) ?_ ?_
    · refine zr_iconst (v := 0) C dX3_joinable_36 rfl ?_
      exact zr_zret C dX3_joinable_37 rfl
    · refine zr_aload_n C dX3_joinable_21 rfl ?_
      refine zf_X3_15 C (Nat.le_of_ble_eq_true rfl) dX3_joinable_22 ?_
      refine zr_iload_n C dX3_joinable_25 rfl ?_
      refine zr_iald (n := 50) C dX3_joinable_26 (Nat.le_of_ble_eq_true rfl) rfl ?_
      refine zr_aload_n C dX3_joinable_27 rfl ?_
      refine zf_X3_15 C (Nat.le_of_ble_eq_true rfl) dX3_joinable_28 ?_
      refine zr_iload_n C dX3_joinable_31 rfl ?_
      refine zr_iald (n := 50) C dX3_joinable_32 (Nat.le_of_ble_eq_true rfl) rfl ?_
      refine zr_icmp_eq (tgt := 38) C dX3_joinable_33 (by decide) ?_ ?_
      · refine zr_aload_n C dX3_joinable_38 rfl ?_
        refine zr_iload_n C dX3_joinable_39 rfl ?_
        refine zr_iload_n C dX3_joinable_40 rfl ?_
        refine zk_X3_34 C F (Nat.le_of_ble_eq_true rfl) (Nat.le_trans (by decide) hh) (by simp [Value.category]) dX3_joinable_41 (fun r41 m41 => ?_)
        refine zr_if_ne (tgt := 56) C dX3_joinable_44 (by decide) ?_ ?_
        · refine zr_iconst (v := 0) C dX3_joinable_56 rfl ?_
          exact zr_zret C dX3_joinable_57 rfl
        · refine zr_aload_n C dX3_joinable_47 rfl ?_
          refine zr_iload_n C dX3_joinable_48 rfl ?_
          refine zr_iload_n C dX3_joinable_49 rfl ?_
          refine zk_X3_34 C F (Nat.le_of_ble_eq_true rfl) (Nat.le_trans (by decide) hh) (by simp [Value.category]) dX3_joinable_50 (fun r50 m50 => ?_)
          refine zr_if_eq (tgt := 58) C dX3_joinable_53 (by decide) ?_ ?_
          · refine zr_aload_n C dX3_joinable_58 rfl ?_
            refine zf_X3_18 C (Nat.le_of_ble_eq_true rfl) dX3_joinable_59 ?_
            refine zr_iload_n C dX3_joinable_62 rfl ?_
            refine zr_iald (n := 50) C dX3_joinable_63 (Nat.le_of_ble_eq_true rfl) rfl ?_
            refine zr_if_le (tgt := 80) C dX3_joinable_64 (by decide) ?_ ?_
            · refine zr_iconst (v := 0) C dX3_joinable_80 rfl ?_
              exact zr_zret C dX3_joinable_81 rfl
            · refine zr_aload_n C dX3_joinable_67 rfl ?_
              refine zf_X3_18 C (Nat.le_of_ble_eq_true rfl) dX3_joinable_68 ?_
              refine zr_iload_n C dX3_joinable_71 rfl ?_
              refine zr_iald (n := 50) C dX3_joinable_72 (Nat.le_of_ble_eq_true rfl) rfl ?_
              refine zr_if_le (tgt := 80) C dX3_joinable_73 (by decide) ?_ ?_
              · refine zr_iconst (v := 0) C dX3_joinable_80 rfl ?_
                exact zr_zret C dX3_joinable_81 rfl
              · refine zr_iconst (v := 1) C dX3_joinable_76 rfl ?_
                refine zr_goto (tgt := 81) C dX3_joinable_77 (by decide) ?_
                exact zr_zret C dX3_joinable_81 rfl
          · refine zr_iconst (v := 0) C dX3_joinable_56 rfl ?_
            exact zr_zret C dX3_joinable_57 rfl
      · refine zr_iconst (v := 0) C dX3_joinable_36 rfl ?_
        exact zr_zret C dX3_joinable_37 rfl
theorem zk_X10_154 (C : zCx E cc RX10 nL ret Z h) (F : Nat) {b0 : Int32} {b1 : Int32} {b2 : Int32} (hk : 0 < zN 5) (hh : 2 + 1 ≤ h) (hst8 : (st.map fun v => v.category).sum ≤ 8) (hd : decode cc pc = .ok (.invokevirtual 154, 3)) {g : Int32 → zMem → Option (α × zMem)} (kk : ∀ (r : Int32) (σ1 : zMem), zKO E nL Z QQ (pc + 3) L (.int r :: st) σ1 (g r σ1)) : zKO E nL Z QQ pc L (.int b2 :: .int b1 :: .int b0 :: .ref (zad Z 5 0) :: st) σ (zb (f_X3_joinable F σ b0 b1 b2) g) :=
  zr_callVNI (As := [.int b0, .int b1, .int b2]) (ia := 3) C (fun r σ1 ho => c_X3_joinable (zla E) Z F σ b0 b1 b2 r σ1 ho) wz_n493 hk rfl rfl wz_p7 wz_495 wz_496 wz_2 (by decide +kernel) rfl (by decide) hh hd hst8 kk
def f_X3_whole_4 (F : Nat) (rec4 : zMem → Int32 × Int32 × Int32 → Option (Int32 × zMem)) (σ : zMem) (x : Int32 × Int32 × Int32) : Option (Int32 × zMem) := if (σ.1 5 0 5) ≤ x.2.2 then (some (x.2.1, σ)) else (zb (f_X3_commonOf F σ x.2.2) fun r14 m14 => if r14 = x.1 then (zg (inb x.2.2 50) (rec4 m14 ((x.1, (x.2.1 + (m14.1 8 0 x.2.2.toNatClampNeg)), (x.2.2 + 1))))) else (rec4 m14 ((x.1, x.2.1, (x.2.2 + 1)))))
set_option maxHeartbeats 4000000 in
set_option maxRecDepth 100000 in
theorem c_X3_whole_4 (F : Nat) {E : zEn} {h : Nat} {Z : zLay} (C : zCx E cX3_whole RX3 4 (some .int) Z h) (hh : 2 ≤ h) : ∀ (n : Nat) (σ : zMem) (x : Int32 × Int32 × Int32), zKO E 4 Z (zMQ E Z (zQI Z)) 4 [(0, .ref (zad Z 5 0)), (1, .int x.1), (2, .int x.2.1), (3, .int x.2.2)] [] σ (zit (f_X3_whole_4 F) n σ x) := by
  refine zr_loop (LL := fun (x : Int32 × Int32 × Int32) => [(0, .ref (zad Z 5 0)), (1, .int x.1), (2, .int x.2.1), (3, .int x.2.2)]) (ST := fun (x : Int32 × Int32 × Int32) => []) (fun rec4 hrec4 σ x => ?_)
  obtain ⟨l1, l2, l3⟩ := x
  show zKO E 4 Z (zMQ E Z (zQI Z)) 4 [(0, .ref (zad Z 5 0)), (1, .int l1), (2, .int l2), (3, .int l3)] [] σ (if (σ.1 5 0 5) ≤ l3 then (some (l2, σ)) else (zb (f_X3_commonOf F σ l3) fun r14 m14 => if r14 = l1 then (zg (inb l3 50) (rec4 m14 ((l1, (l2 + (m14.1 8 0 l3.toNatClampNeg)), (l3 + 1))))) else (rec4 m14 ((l1, l2, (l3 + 1))))))
  refine zr_iload_n C dX3_whole_4 rfl ?_
  refine zr_aload_n C dX3_whole_5 rfl ?_
  refine zf_X3_27 C (Nat.le_of_ble_eq_true rfl) dX3_whole_6 ?_
  refine zr_icmp_ge (tgt := 36) C dX3_whole_9 (by decide) ?_ ?_
  · refine zr_iload_n C dX3_whole_36 rfl ?_
    exact zr_iret C dX3_whole_37
  · refine zr_aload_n C dX3_whole_12 rfl ?_
    refine zr_iload_n C dX3_whole_13 rfl ?_
    refine zk_X3_38 C F (Nat.le_of_ble_eq_true rfl) (Nat.le_trans (by decide) hh) (by simp [Value.category]) dX3_whole_14 (fun r14 m14 => ?_)
    refine zr_iload_n C dX3_whole_17 rfl ?_
    refine zr_icmp_ne (tgt := 30) C dX3_whole_18 (by decide) ?_ ?_
    · refine zr_iinc (kk := 3) (v := (l3 + 1)) (L1 := [(3, .int _), (0, .ref _), (1, .int _), (2, .int _)]) C dX3_whole_30 rfl rfl (by decide) rfl ?_
      refine zr_goto (tgt := 4) C dX3_whole_33 (by decide) ?_
      exact zr_sub [1, 2, 3, 0] rfl (hrec4 m14 ((l1, l2, (l3 + 1))))
    · refine zr_iload_n C dX3_whole_21 rfl ?_
      refine zr_aload_n C dX3_whole_22 rfl ?_
      refine zf_X3_18 C (Nat.le_of_ble_eq_true rfl) dX3_whole_23 ?_
      refine zr_iload_n C dX3_whole_26 rfl ?_
      refine zr_iald (n := 50) C dX3_whole_27 (Nat.le_of_ble_eq_true rfl) rfl ?_
      refine zr_iadd C dX3_whole_28 ?_
      refine zr_istore_n (i := 2) (L1 := [(2, .int _), (0, .ref _), (1, .int _), (3, .int _)]) C dX3_whole_29 rfl (by decide) rfl ?_
      refine zr_iinc (kk := 3) (v := (l3 + 1)) (L1 := [(3, .int _), (2, .int _), (0, .ref _), (1, .int _)]) C dX3_whole_30 rfl rfl (by decide) rfl ?_
      refine zr_goto (tgt := 4) C dX3_whole_33 (by decide) ?_
      exact zr_sub [2, 3, 1, 0] rfl (hrec4 m14 ((l1, (l2 + (m14.1 8 0 l3.toNatClampNeg)), (l3 + 1))))
def f_X3_whole (F : Nat) (σ : zMem) (a1 : Int32) : Option (Int32 × zMem) := zit (f_X3_whole_4 F) F σ ((a1, 0, 0))
set_option maxHeartbeats 4000000 in
set_option maxRecDepth 100000 in
theorem c_X3_whole (l : Launch) (Z : zLay) (F : Nat) (σ : zMem) (a1 : Int32) (r : Int32) (σ1 : zMem) (ho : f_X3_whole F σ a1 = some (r, σ1)) : zMet l yX3_whole cX3_whole 4 (some .int) 2 Z [.ref (zad Z 5 0), .int (a1)] σ (zQI Z r σ1) := by
  refine zMet_of (Qc := zQI Z) (by decide) (Nat.le_of_ble_eq_true rfl) [(0, .ref (zad Z 5 0)), (1, .int (a1))] rfl (fun E C => ?_) ho
  have hh : 2 ≤ 2 := Nat.le_refl _
  show zKO E 4 Z (zMQ E Z (zQI Z)) 0 [(0, .ref (zad Z 5 0)), (1, .int (a1))] [] σ _
  unfold f_X3_whole
  refine zr_iconst (v := 0) C dX3_whole_0 rfl ?_
  refine zr_istore_n (i := 2) (L1 := [(2, .int _), (0, .ref _), (1, .int _)]) C dX3_whole_1 rfl (by decide) rfl ?_
  refine zr_iconst (v := 0) C dX3_whole_2 rfl ?_
  refine zr_istore_n (i := 3) (L1 := [(3, .int _), (2, .int _), (0, .ref _), (1, .int _)]) C dX3_whole_3 rfl (by decide) rfl ?_
  exact zr_sub [2, 3, 1, 0] rfl (c_X3_whole_4 F C hh F σ ((a1, 0, 0)))
theorem zk_X3_46 (C : zCx E cc RX3 nL ret Z h) (F : Nat) {b0 : Int32} (hk : 0 < zN 5) (hh : 2 + 1 ≤ h) (hst8 : (st.map fun v => v.category).sum ≤ 8) (hd : decode cc pc = .ok (.invokevirtual 46, 3)) {g : Int32 → zMem → Option (α × zMem)} (kk : ∀ (r : Int32) (σ1 : zMem), zKO E nL Z QQ (pc + 3) L (.int r :: st) σ1 (g r σ1)) : zKO E nL Z QQ pc L (.int b0 :: .ref (zad Z 5 0) :: st) σ (zb (f_X3_whole F σ b0) g) :=
  zr_callVI (As := [.int b0]) (ia := 1) C (fun r σ1 ho => c_X3_whole (zla E) Z F σ b0 r σ1 ho) wz_943 hk rfl rfl wz_p9 wz_521 wz_522 wz_2 (by decide +kernel) rfl (by decide) hh hd hst8 kk
theorem zk_X10_168 (C : zCx E cc RX10 nL ret Z h) (F : Nat) {b0 : Int32} (hk : 0 < zN 5) (hh : 2 + 1 ≤ h) (hst8 : (st.map fun v => v.category).sum ≤ 8) (hd : decode cc pc = .ok (.invokevirtual 168, 3)) {g : Int32 → zMem → Option (α × zMem)} (kk : ∀ (r : Int32) (σ1 : zMem), zKO E nL Z QQ (pc + 3) L (.int r :: st) σ1 (g r σ1)) : zKO E nL Z QQ pc L (.int b0 :: .ref (zad Z 5 0) :: st) σ (zb (f_X3_whole F σ b0) g) :=
  zr_callVNI (As := [.int b0]) (ia := 1) C (fun r σ1 ho => c_X3_whole (zla E) Z F σ b0 r σ1 ho) wz_n519 hk rfl rfl wz_p9 wz_521 wz_522 wz_2 (by decide +kernel) rfl (by decide) hh hd hst8 kk
end ZM
