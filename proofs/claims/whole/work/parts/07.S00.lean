section ZM
variable {E : zEn} {cc : ByteArray} {own : String} {nL h : Nat} {ret : Option FieldType} {Z : zLay} {α : Type} {QQ : α → zMem → State → Prop} {pc : Nat} {L : List (Nat × Value)} {st : List Value} {σ : zMem} {o o1 o2 : Option (α × zMem)}
def f_X3_has (F : Nat) (σ : zMem) (a1 : Int32) : Option (Int32 × zMem) := if a1 < 0 then (some (0, σ)) else (if (σ.1 5 0 5) ≤ a1 then (some (0, σ)) else (some (1, σ)))
set_option maxHeartbeats 4000000 in
set_option maxRecDepth 100000 in
theorem c_X3_has (l : Launch) (Z : zLay) (F : Nat) (σ : zMem) (a1 : Int32) (r : Int32) (σ1 : zMem) (ho : f_X3_has F σ a1 = some (r, σ1)) : zMet l yX3_has cX3_has 2 (some .boolean) 1 Z [.ref (zad Z 5 0), .int (a1)] σ (zQI Z r σ1) := by
  refine zMet_of (Qc := zQI Z) (by decide) (Nat.le_of_ble_eq_true rfl) [(0, .ref (zad Z 5 0)), (1, .int (a1))] rfl (fun E C => ?_) ho
  have hh : 1 ≤ 1 := Nat.le_refl _
  show zKO E 2 Z (zMQ E Z (zQI Z)) 0 [(0, .ref (zad Z 5 0)), (1, .int (a1))] [] σ _
  unfold f_X3_has
  refine zr_iload_n C dX3_has_0 rfl ?_
  refine zr_if_lt (tgt := 16) C dX3_has_1 (by decide) ?_ ?_
  · refine zr_iconst (v := 0) C dX3_has_16 rfl ?_
    exact zr_zret C dX3_has_17 rfl
  · refine zr_iload_n C dX3_has_4 rfl ?_
    refine zr_aload_n C dX3_has_5 rfl ?_
    refine zf_X3_27 C (Nat.le_of_ble_eq_true rfl) dX3_has_6 ?_
    refine zr_icmp_ge (tgt := 16) C dX3_has_9 (by decide) ?_ ?_
    · refine zr_iconst (v := 0) C dX3_has_16 rfl ?_
      exact zr_zret C dX3_has_17 rfl
    · refine zr_iconst (v := 1) C dX3_has_12 rfl ?_
      refine zr_goto (tgt := 17) C dX3_has_13 (by decide) ?_
      exact zr_zret C dX3_has_17 rfl
def f_X3_enter (F : Nat) (σ : zMem) (a1 : Int32) (a2 : Int32) (a3 : Int32) : Option (Int32 × zMem) := zg (inb ((σ.1 5 0 5)) 50) (zg (inb (((zwi σ 6 0 ((σ.1 5 0 5)).toNatClampNeg a1).1 5 0 5)) 50) (zg (inb (((zwi (zwi σ 6 0 ((σ.1 5 0 5)).toNatClampNeg a1) 7 0 (((zwi σ 6 0 ((σ.1 5 0 5)).toNatClampNeg a1).1 5 0 5)).toNatClampNeg a2).1 5 0 5)) 50) (some (((zwi (zwi (zwi σ 6 0 ((σ.1 5 0 5)).toNatClampNeg a1) 7 0 (((zwi σ 6 0 ((σ.1 5 0 5)).toNatClampNeg a1).1 5 0 5)).toNatClampNeg a2) 8 0 (((zwi (zwi σ 6 0 ((σ.1 5 0 5)).toNatClampNeg a1) 7 0 (((zwi σ 6 0 ((σ.1 5 0 5)).toNatClampNeg a1).1 5 0 5)).toNatClampNeg a2).1 5 0 5)).toNatClampNeg a3).1 5 0 5), (zwi (zwi (zwi (zwi σ 6 0 ((σ.1 5 0 5)).toNatClampNeg a1) 7 0 (((zwi σ 6 0 ((σ.1 5 0 5)).toNatClampNeg a1).1 5 0 5)).toNatClampNeg a2) 8 0 (((zwi (zwi σ 6 0 ((σ.1 5 0 5)).toNatClampNeg a1) 7 0 (((zwi σ 6 0 ((σ.1 5 0 5)).toNatClampNeg a1).1 5 0 5)).toNatClampNeg a2).1 5 0 5)).toNatClampNeg a3) 5 0 5 ((((zwi (zwi (zwi σ 6 0 ((σ.1 5 0 5)).toNatClampNeg a1) 7 0 (((zwi σ 6 0 ((σ.1 5 0 5)).toNatClampNeg a1).1 5 0 5)).toNatClampNeg a2) 8 0 (((zwi (zwi σ 6 0 ((σ.1 5 0 5)).toNatClampNeg a1) 7 0 (((zwi σ 6 0 ((σ.1 5 0 5)).toNatClampNeg a1).1 5 0 5)).toNatClampNeg a2).1 5 0 5)).toNatClampNeg a3).1 5 0 5) + 1)))))))
set_option maxHeartbeats 4000000 in
set_option maxRecDepth 100000 in
theorem c_X3_enter (l : Launch) (Z : zLay) (F : Nat) (σ : zMem) (a1 : Int32) (a2 : Int32) (a3 : Int32) (r : Int32) (σ1 : zMem) (ho : f_X3_enter F σ a1 a2 a3 = some (r, σ1)) : zMet l yX3_enter cX3_enter 4 (some .int) 1 Z [.ref (zad Z 5 0), .int (a1), .int (a2), .int (a3)] σ (zQI Z r σ1) := by
  refine zMet_of (Qc := zQI Z) (by decide) (Nat.le_of_ble_eq_true rfl) [(0, .ref (zad Z 5 0)), (1, .int (a1)), (2, .int (a2)), (3, .int (a3))] rfl (fun E C => ?_) ho
  have hh : 1 ≤ 1 := Nat.le_refl _
  show zKO E 4 Z (zMQ E Z (zQI Z)) 0 [(0, .ref (zad Z 5 0)), (1, .int (a1)), (2, .int (a2)), (3, .int (a3))] [] σ _
  unfold f_X3_enter
  refine zr_aload_n C dX3_enter_0 rfl ?_
  refine zf_X3_9 C (Nat.le_of_ble_eq_true rfl) dX3_enter_1 ?_
  refine zr_aload_n C dX3_enter_4 rfl ?_
  refine zf_X3_27 C (Nat.le_of_ble_eq_true rfl) dX3_enter_5 ?_
  refine zr_iload_n C dX3_enter_8 rfl ?_
  refine zr_iast (n := 50) C dX3_enter_9 (Nat.le_of_ble_eq_true rfl) (fun _ _ => rfl) ?_
  refine zr_aload_n C dX3_enter_10 rfl ?_
  refine zf_X3_15 C (Nat.le_of_ble_eq_true rfl) dX3_enter_11 ?_
  refine zr_aload_n C dX3_enter_14 rfl ?_
  refine zf_X3_27 C (Nat.le_of_ble_eq_true rfl) dX3_enter_15 ?_
  refine zr_iload_n C dX3_enter_18 rfl ?_
  refine zr_iast (n := 50) C dX3_enter_19 (Nat.le_of_ble_eq_true rfl) (fun _ _ => rfl) ?_
  refine zr_aload_n C dX3_enter_20 rfl ?_
  refine zf_X3_18 C (Nat.le_of_ble_eq_true rfl) dX3_enter_21 ?_
  refine zr_aload_n C dX3_enter_24 rfl ?_
  refine zf_X3_27 C (Nat.le_of_ble_eq_true rfl) dX3_enter_25 ?_
  refine zr_iload_n C dX3_enter_28 rfl ?_
  refine zr_iast (n := 50) C dX3_enter_29 (Nat.le_of_ble_eq_true rfl) (fun _ _ => rfl) ?_
  refine zr_aload_n C dX3_enter_30 rfl ?_
  refine zr_dup C dX3_enter_31 rfl ?_
  refine zf_X3_27 C (Nat.le_of_ble_eq_true rfl) dX3_enter_32 ?_
  refine zr_dup_x1 C dX3_enter_35 rfl rfl ?_
  refine zr_iconst (v := 1) C dX3_enter_36 rfl ?_
  refine zr_iadd C dX3_enter_37 ?_
  refine zp_X3_27 C (Nat.le_of_ble_eq_true rfl) dX3_enter_38 ?_
  exact zr_iret C dX3_enter_41
def f_X3_commonOf (F : Nat) (σ : zMem) (a1 : Int32) : Option (Int32 × zMem) := zg (inb a1 50) (zg (inb ((σ.1 6 0 a1.toNatClampNeg)) 6) (some ((([-1, 0, 1, 2, 0, -1] : List Int32).getD ((σ.1 6 0 a1.toNatClampNeg)).toNatClampNeg 0), σ)))
set_option maxHeartbeats 4000000 in
set_option maxRecDepth 100000 in
theorem c_X3_commonOf (l : Launch) (Z : zLay) (F : Nat) (σ : zMem) (a1 : Int32) (r : Int32) (σ1 : zMem) (ho : f_X3_commonOf F σ a1 = some (r, σ1)) : zMet l yX3_commonOf cX3_commonOf 2 (some .int) 1 Z [.ref (zad Z 5 0), .int (a1)] σ (zQI Z r σ1) := by
  refine zMet_of (Qc := zQI Z) (by decide) (Nat.le_of_ble_eq_true rfl) [(0, .ref (zad Z 5 0)), (1, .int (a1))] rfl (fun E C => ?_) ho
  have hh : 1 ≤ 1 := Nat.le_refl _
  show zKO E 2 Z (zMQ E Z (zQI Z)) 0 [(0, .ref (zad Z 5 0)), (1, .int (a1))] [] σ _
  unfold f_X3_commonOf
  refine zr_gets C ("AlpCommune$Rights", "COMMON_OF", 152, [-1, 0, 1, 2, 0, -1]) (by decide +kernel) wz_483 dX3_commonOf_0 ?_
  refine zr_aload_n C dX3_commonOf_3 rfl ?_
  refine zf_X3_9 C (Nat.le_of_ble_eq_true rfl) dX3_commonOf_4 ?_
  refine zr_iload_n C dX3_commonOf_7 rfl ?_
  refine zr_iald (n := 50) C dX3_commonOf_8 (Nat.le_of_ble_eq_true rfl) rfl ?_
  refine zr_ialdS C ("AlpCommune$Rights", "COMMON_OF", 152, [-1, 0, 1, 2, 0, -1]) (by decide +kernel) dX3_commonOf_9 ?_
  exact zr_iret C dX3_commonOf_10
theorem zk_X3_38 (C : zCx E cc RX3 nL ret Z h) (F : Nat) {b0 : Int32} (hk : 0 < zN 5) (hh : 1 + 1 ≤ h) (hst8 : (st.map fun v => v.category).sum ≤ 8) (hd : decode cc pc = .ok (.invokevirtual 38, 3)) {g : Int32 → zMem → Option (α × zMem)} (kk : ∀ (r : Int32) (σ1 : zMem), zKO E nL Z QQ (pc + 3) L (.int r :: st) σ1 (g r σ1)) : zKO E nL Z QQ pc L (.int b0 :: .ref (zad Z 5 0) :: st) σ (zb (f_X3_commonOf F σ b0) g) :=
  zr_callVI (As := [.int b0]) (ia := 1) C (fun r σ1 ho => c_X3_commonOf (zla E) Z F σ b0 r σ1 ho) wz_497 hk rfl rfl wz_p5 wz_481 wz_482 wz_2 (by decide +kernel) rfl (by decide) hh hd hst8 kk
def f_X3_isLent (F : Nat) (σ : zMem) (a1 : Int32) (a2 : Int32) : Option (Int32 × zMem) := zg (inb a1 50) (if (σ.1 10 0 a1.toNatClampNeg) ≤ a2 then (some (0, σ)) else (some (1, σ)))
set_option maxHeartbeats 4000000 in
set_option maxRecDepth 100000 in
theorem c_X3_isLent (l : Launch) (Z : zLay) (F : Nat) (σ : zMem) (a1 : Int32) (a2 : Int32) (r : Int32) (σ1 : zMem) (ho : f_X3_isLent F σ a1 a2 = some (r, σ1)) : zMet l yX3_isLent cX3_isLent 3 (some .boolean) 1 Z [.ref (zad Z 5 0), .int (a1), .int (a2)] σ (zQI Z r σ1) := by
  refine zMet_of (Qc := zQI Z) (by decide) (Nat.le_of_ble_eq_true rfl) [(0, .ref (zad Z 5 0)), (1, .int (a1)), (2, .int (a2))] rfl (fun E C => ?_) ho
  have hh : 1 ≤ 1 := Nat.le_refl _
  show zKO E 3 Z (zMQ E Z (zQI Z)) 0 [(0, .ref (zad Z 5 0)), (1, .int (a1)), (2, .int (a2))] [] σ _
  unfold f_X3_isLent
  refine zr_iload_n C dX3_isLent_0 rfl ?_
  refine zr_aload_n C dX3_isLent_1 rfl ?_
  refine zf_X3_24 C (Nat.le_of_ble_eq_true rfl) dX3_isLent_2 ?_
  refine zr_iload_n C dX3_isLent_5 rfl ?_
  refine zr_iald (n := 50) C dX3_isLent_6 (Nat.le_of_ble_eq_true rfl) rfl ?_
  refine zr_icmp_ge (tgt := 14) C dX3_isLent_7 (by decide) ?_ ?_
  · refine zr_iconst (v := 0) C dX3_isLent_14 rfl ?_
    exact zr_zret C dX3_isLent_15 rfl
  · refine zr_iconst (v := 1) C dX3_isLent_10 rfl ?_
    refine zr_goto (tgt := 15) C dX3_isLent_11 (by decide) ?_
    exact zr_zret C dX3_isLent_15 rfl
theorem zk_X3_34 (C : zCx E cc RX3 nL ret Z h) (F : Nat) {b0 : Int32} {b1 : Int32} (hk : 0 < zN 5) (hh : 1 + 1 ≤ h) (hst8 : (st.map fun v => v.category).sum ≤ 8) (hd : decode cc pc = .ok (.invokevirtual 34, 3)) {g : Int32 → zMem → Option (α × zMem)} (kk : ∀ (r : Int32) (σ1 : zMem), zKO E nL Z QQ (pc + 3) L (.int r :: st) σ1 (g r σ1)) : zKO E nL Z QQ pc L (.int b1 :: .int b0 :: .ref (zad Z 5 0) :: st) σ (zb (f_X3_isLent F σ b0 b1) g) :=
  zr_callVI (As := [.int b0, .int b1]) (ia := 2) C (fun r σ1 ho => c_X3_isLent (zla E) Z F σ b0 b1 r σ1 ho) wz_498 hk rfl rfl wz_p6 wz_487 wz_488 wz_2 (by decide +kernel) rfl (by decide) hh hd hst8 kk
def f_X3_holder (F : Nat) (σ : zMem) (a1 : Int32) (a2 : Int32) : Option (Int32 × zMem) := zb (f_X3_isLent F σ a1 a2) fun r3 m3 => if r3 = 0 then (zg (inb a1 50) (some ((m3.1 7 0 a1.toNatClampNeg), m3))) else (zg (inb a1 50) (some ((m3.1 9 0 a1.toNatClampNeg), m3)))
set_option maxHeartbeats 4000000 in
set_option maxRecDepth 100000 in
theorem c_X3_holder (l : Launch) (Z : zLay) (F : Nat) (σ : zMem) (a1 : Int32) (a2 : Int32) (r : Int32) (σ1 : zMem) (ho : f_X3_holder F σ a1 a2 = some (r, σ1)) : zMet l yX3_holder cX3_holder 3 (some .int) 2 Z [.ref (zad Z 5 0), .int (a1), .int (a2)] σ (zQI Z r σ1) := by
  refine zMet_of (Qc := zQI Z) (by decide) (Nat.le_of_ble_eq_true rfl) [(0, .ref (zad Z 5 0)), (1, .int (a1)), (2, .int (a2))] rfl (fun E C => ?_) ho
  have hh : 2 ≤ 2 := Nat.le_refl _
  show zKO E 3 Z (zMQ E Z (zQI Z)) 0 [(0, .ref (zad Z 5 0)), (1, .int (a1)), (2, .int (a2))] [] σ _
  unfold f_X3_holder
  refine zr_aload_n C dX3_holder_0 rfl ?_
  refine zr_iload_n C dX3_holder_1 rfl ?_
  refine zr_iload_n C dX3_holder_2 rfl ?_
  refine zk_X3_34 C F (Nat.le_of_ble_eq_true rfl) (Nat.le_trans (by decide) hh) (by simp [Value.category]) dX3_holder_3 (fun r3 m3 => ?_)
  refine zr_if_eq (tgt := 18) C dX3_holder_6 (by decide) ?_ ?_
  · refine zr_aload_n C dX3_holder_18 rfl ?_
    refine zf_X3_15 C (Nat.le_of_ble_eq_true rfl) dX3_holder_19 ?_
    refine zr_iload_n C dX3_holder_22 rfl ?_
    refine zr_iald (n := 50) C dX3_holder_23 (Nat.le_of_ble_eq_true rfl) rfl ?_
    exact zr_iret C dX3_holder_24
  · refine zr_aload_n C dX3_holder_9 rfl ?_
    refine zf_X3_21 C (Nat.le_of_ble_eq_true rfl) dX3_holder_10 ?_
    refine zr_iload_n C dX3_holder_13 rfl ?_
    refine zr_iald (n := 50) C dX3_holder_14 (Nat.le_of_ble_eq_true rfl) rfl ?_
    refine zr_goto (tgt := 24) C dX3_holder_15 (by decide) ?_
    exact zr_iret C dX3_holder_24
theorem zk_X3_42 (C : zCx E cc RX3 nL ret Z h) (F : Nat) {b0 : Int32} {b1 : Int32} (hk : 0 < zN 5) (hh : 2 + 1 ≤ h) (hst8 : (st.map fun v => v.category).sum ≤ 8) (hd : decode cc pc = .ok (.invokevirtual 42, 3)) {g : Int32 → zMem → Option (α × zMem)} (kk : ∀ (r : Int32) (σ1 : zMem), zKO E nL Z QQ (pc + 3) L (.int r :: st) σ1 (g r σ1)) : zKO E nL Z QQ pc L (.int b1 :: .int b0 :: .ref (zad Z 5 0) :: st) σ (zb (f_X3_holder F σ b0 b1) g) :=
  zr_callVI (As := [.int b0, .int b1]) (ia := 2) C (fun r σ1 ho => c_X3_holder (zla E) Z F σ b0 b1 r σ1 ho) wz_527 hk rfl rfl wz_p8 wz_513 wz_514 wz_2 (by decide +kernel) rfl (by decide) hh hd hst8 kk
def f_X3_joinable (F : Nat) (σ : zMem) (a1 : Int32) (a2 : Int32) (a3 : Int32) : Option (Int32 × zMem) := zb (f_X3_commonOf F σ a1) fun r2 m2 => if r2 < 0 then (some (0, m2)) else (zb (f_X3_commonOf F m2 a1) fun r10 m10 => zb (f_X3_commonOf F m10 a2) fun r15 m15 => if r10 = r15 then (zg (inb a1 50) (zg (inb a2 50) (if (m15.1 7 0 a1.toNatClampNeg) = (m15.1 7 0 a2.toNatClampNeg) then (zb (f_X3_isLent F m15 a1 a3) fun r41 m41 => if r41 = 0 then (zb (f_X3_isLent F m41 a2 a3) fun r50 m50 => if r50 = 0 then (zg (inb a1 50) (if (m50.1 8 0 a1.toNatClampNeg) ≤ 0 then (some (0, m50)) else (zg (inb a2 50) (if (m50.1 8 0 a2.toNatClampNeg) ≤ 0 then (some (0, m50)) else (some (1, m50)))))) else (some (0, m50))) else (some (0, m41))) else (some (0, m15))))) else (some (0, m15)))
set_option maxHeartbeats 4000000 in
set_option maxRecDepth 100000 in
theorem c_X3_joinable (l : Launch) (Z : zLay) (F : Nat) (σ : zMem) (a1 : Int32) (a2 : Int32) (a3 : Int32) (r : Int32) (σ1 : zMem) (ho : f_X3_joinable F σ a1 a2 a3 = some (r, σ1)) : zMet l yX3_joinable cX3_joinable 4 (some .boolean) 2 Z [.ref (zad Z 5 0), .int (a1), .int (a2), .int (a3)] σ (zQI Z r σ1) := by
  refine zMet_of (Qc := zQI Z) (by decide) (Nat.le_of_ble_eq_true rfl) [(0, .ref (zad Z 5 0)), (1, .int (a1)), (2, .int (a2)), (3, .int (a3))] rfl (fun E C => ?_) ho
  have hh : 2 ≤ 2 := Nat.le_refl _
  show zKO E 4 Z (zMQ E Z (zQI Z)) 0 [(0, .ref (zad Z 5 0)), (1, .int (a1)), (2, .int (a2)), (3, .int (a3))] [] σ _
  unfold f_X3_joinable
  refine zr_aload_n C dX3_joinable_0 rfl ?_
  refine zr_iload_n C dX3_joinable_1 rfl ?_
  refine zk_X3_38 C F (Nat.le_of_ble_eq_true rfl) (Nat.le_trans (by decide) hh) (by simp [Value.category]) dX3_joinable_2 (fun r2 m2 => ?_)
  refine zr_if_lt (tgt := 36) C dX3_joinable_5 (by decide) ?_ ?_
  · refine zr_iconst (v := 0) C dX3_joinable_36 rfl ?_
    exact zr_zret C dX3_joinable_37 rfl
  · refine zr_aload_n C dX3_joinable_8 rfl ?_
    refine zr_iload_n C dX3_joinable_9 rfl ?_
    refine zk_X3_38 C F (Nat.le_of_ble_eq_true rfl) (Nat.le_trans (by decide) hh) (by simp [Value.category]) dX3_joinable_10 (fun r10 m10 => ?_)
    refine zr_aload_n C dX3_joinable_13 rfl ?_
    refine zr_iload_n C dX3_joinable_14 rfl ?_
    refine zk_X3_38 C F (Nat.le_of_ble_eq_true rfl) (Nat.le_trans (by decide) hh) (by simp [Value.category]) dX3_joinable_15 (fun r15 m15 => ?_)
    refine zr_icmp_ne (tgt := 36) C dX3_joinable_18 (by decide) ?_ ?_
    · refine zr_iconst (v := 0) C dX3_joinable_36 rfl ?_
      exact zr_zret C dX3_joinable_37 rfl
    · refine zr_aload_n C dX3_joinable_21 rfl ?_
      refine zf_X3_15 C (Nat.le_of_ble_eq_true rfl) dX3_joinable_22 ?_
      refine zr_iload_n C dX3_joinable_25 rfl ?_
      refine zr_iald (n := 50) C dX3_joinable_26 (Nat.le_of_ble_eq_true rfl) rfl ?_
      refine zr_aload_n C dX3_joinable_27 rfl ?_
      refine zf_X3_15 C (Nat.le_of_ble_eq_true rfl) dX3_joinable_28 ?_
      refine zr_iload_n C dX3_joinable_31 rfl ?_
      refine zr_iald (n := 50) C dX3_joinable_32 (Nat.le_of_ble_eq_true rfl) rfl ?_
      refine zr_icmp_eq (tgt := 38) C dX3_joinable_33 (by decide) ?_ ?_
      · refine zr_aload_n C dX3_joinable_38 rfl ?_
        refine zr_iload_n C dX3_joinable_39 rfl ?_
        refine zr_iload_n C dX3_joinable_40 rfl ?_
        refine zk_X3_34 C F (Nat.le_of_ble_eq_true rfl) (Nat.le_trans (by decide) hh) (by simp [Value.category]) dX3_joinable_41 (fun r41 m41 => ?_)
        refine zr_if_ne (tgt := 56) C dX3_joinable_44 (by decide) ?_ ?_
        · refine zr_iconst (v := 0) C dX3_joinable_56 rfl ?_
          exact zr_zret C dX3_joinable_57 rfl
        · refine zr_aload_n C dX3_joinable_47 rfl ?_
          refine zr_iload_n C dX3_joinable_48 rfl ?_
          refine zr_iload_n C dX3_joinable_49 rfl ?_
          refine zk_X3_34 C F (Nat.le_of_ble_eq_true rfl) (Nat.le_trans (by decide) hh) (by simp [Value.category]) dX3_joinable_50 (fun r50 m50 => ?_)
          refine zr_if_eq (tgt := 58) C dX3_joinable_53 (by decide) ?_ ?_
          · refine zr_aload_n C dX3_joinable_58 rfl ?_
            refine zf_X3_18 C (Nat.le_of_ble_eq_true rfl) dX3_joinable_59 ?_
            refine zr_iload_n C dX3_joinable_62 rfl ?_
            refine zr_iald (n := 50) C dX3_joinable_63 (Nat.le_of_ble_eq_true rfl) rfl ?_
            refine zr_if_le (tgt := 80) C dX3_joinable_64 (by decide) ?_ ?_
            · refine zr_iconst (v := 0) C dX3_joinable_80 rfl ?_
              exact zr_zret C dX3_joinable_81 rfl
            · refine zr_aload_n C dX3_joinable_67 rfl ?_
              refine zf_X3_18 C (Nat.le_of_ble_eq_true rfl) dX3_joinable_68 ?_
              refine zr_iload_n C dX3_joinable_71 rfl ?_
              refine zr_iald (n := 50) C dX3_joinable_72 (Nat.le_of_ble_eq_true rfl) rfl ?_
              refine zr_if_le (tgt := 80) C dX3_joinable_73 (by decide) ?_ ?_
              · refine zr_iconst (v := 0) C dX3_joinable_80 rfl ?_
                exact zr_zret C dX3_joinable_81 rfl
              · refine zr_iconst (v := 1) C dX3_joinable_76 rfl ?_
                refine zr_goto (tgt := 81) C dX3_joinable_77 (by decide) ?_
                exact zr_zret C dX3_joinable_81 rfl
          · refine zr_iconst (v := 0) C dX3_joinable_56 rfl ?_
            exact zr_zret C dX3_joinable_57 rfl
      · refine zr_iconst (v := 0) C dX3_joinable_36 rfl ?_
        exact zr_zret C dX3_joinable_37 rfl
def f_X3_whole_4 (F : Nat) (rec4 : zMem → Int32 × Int32 × Int32 → Option (Int32 × zMem)) (σ : zMem) (x : Int32 × Int32 × Int32) : Option (Int32 × zMem) := if (σ.1 5 0 5) ≤ x.2.2 then (some (x.2.1, σ)) else (zb (f_X3_commonOf F σ x.2.2) fun r14 m14 => if r14 = x.1 then (zg (inb x.2.2 50) (rec4 m14 ((x.1, (x.2.1 + (m14.1 8 0 x.2.2.toNatClampNeg)), (x.2.2 + 1))))) else (rec4 m14 ((x.1, x.2.1, (x.2.2 + 1)))))
set_option maxHeartbeats 4000000 in
set_option maxRecDepth 100000 in
theorem c_X3_whole_4 (F : Nat) {E : zEn} {h : Nat} {Z : zLay} (C : zCx E cX3_whole RX3 4 (some .int) Z h) (hh : 2 ≤ h) : ∀ (n : Nat) (σ : zMem) (x : Int32 × Int32 × Int32), zKO E 4 Z (zMQ E Z (zQI Z)) 4 [(0, .ref (zad Z 5 0)), (1, .int x.1), (2, .int x.2.1), (3, .int x.2.2)] [] σ (zit (f_X3_whole_4 F) n σ x) := by
  refine zr_loop (LL := fun (x : Int32 × Int32 × Int32) => [(0, .ref (zad Z 5 0)), (1, .int x.1), (2, .int x.2.1), (3, .int x.2.2)]) (ST := fun (x : Int32 × Int32 × Int32) => []) (fun rec4 hrec4 σ x => ?_)
  obtain ⟨l1, l2, l3⟩ := x
  show zKO E 4 Z (zMQ E Z (zQI Z)) 4 [(0, .ref (zad Z 5 0)), (1, .int l1), (2, .int l2), (3, .int l3)] [] σ (if (σ.1 5 0 5) ≤ l3 then (some (l2, σ)) else (zb (f_X3_commonOf F σ l3) fun r14 m14 => if r14 = l1 then (zg (inb l3 50) (rec4 m14 ((l1, (l2 + (m14.1 8 0 l3.toNatClampNeg)), (l3 + 1))))) else (rec4 m14 ((l1, l2, (l3 + 1))))))
  refine zr_iload_n C dX3_whole_4 rfl ?_
  refine zr_aload_n C dX3_whole_5 rfl ?_
  refine zf_X3_27 C (Nat.le_of_ble_eq_true rfl) dX3_whole_6 ?_
  refine zr_icmp_ge (tgt := 36) C dX3_whole_9 (by decide) ?_ ?_
  · refine zr_iload_n C dX3_whole_36 rfl ?_
    exact zr_iret C dX3_whole_37
  · refine zr_aload_n C dX3_whole_12 rfl ?_
    refine zr_iload_n C dX3_whole_13 rfl ?_
    refine zk_X3_38 C F (Nat.le_of_ble_eq_true rfl) (Nat.le_trans (by decide) hh) (by simp [Value.category]) dX3_whole_14 (fun r14 m14 => ?_)
    refine zr_iload_n C dX3_whole_17 rfl ?_
    refine zr_icmp_ne (tgt := 30) C dX3_whole_18 (by decide) ?_ ?_
    · refine zr_iinc (kk := 3) (v := (l3 + 1)) (L1 := [(3, .int _), (0, .ref _), (1, .int _), (2, .int _)]) C dX3_whole_30 rfl rfl (by decide) rfl ?_
      refine zr_goto (tgt := 4) C dX3_whole_33 (by decide) ?_
      exact zr_sub [1, 2, 3, 0] rfl (hrec4 m14 ((l1, l2, (l3 + 1))))
    · refine zr_iload_n C dX3_whole_21 rfl ?_
      refine zr_aload_n C dX3_whole_22 rfl ?_
      refine zf_X3_18 C (Nat.le_of_ble_eq_true rfl) dX3_whole_23 ?_
      refine zr_iload_n C dX3_whole_26 rfl ?_
      refine zr_iald (n := 50) C dX3_whole_27 (Nat.le_of_ble_eq_true rfl) rfl ?_
      refine zr_iadd C dX3_whole_28 ?_
      refine zr_istore_n (i := 2) (L1 := [(2, .int _), (0, .ref _), (1, .int _), (3, .int _)]) C dX3_whole_29 rfl (by decide) rfl ?_
      refine zr_iinc (kk := 3) (v := (l3 + 1)) (L1 := [(3, .int _), (2, .int _), (0, .ref _), (1, .int _)]) C dX3_whole_30 rfl rfl (by decide) rfl ?_
      refine zr_goto (tgt := 4) C dX3_whole_33 (by decide) ?_
      exact zr_sub [2, 3, 1, 0] rfl (hrec4 m14 ((l1, (l2 + (m14.1 8 0 l3.toNatClampNeg)), (l3 + 1))))
def f_X3_whole (F : Nat) (σ : zMem) (a1 : Int32) : Option (Int32 × zMem) := zit (f_X3_whole_4 F) F σ ((a1, 0, 0))
set_option maxHeartbeats 4000000 in
set_option maxRecDepth 100000 in
theorem c_X3_whole (l : Launch) (Z : zLay) (F : Nat) (σ : zMem) (a1 : Int32) (r : Int32) (σ1 : zMem) (ho : f_X3_whole F σ a1 = some (r, σ1)) : zMet l yX3_whole cX3_whole 4 (some .int) 2 Z [.ref (zad Z 5 0), .int (a1)] σ (zQI Z r σ1) := by
  refine zMet_of (Qc := zQI Z) (by decide) (Nat.le_of_ble_eq_true rfl) [(0, .ref (zad Z 5 0)), (1, .int (a1))] rfl (fun E C => ?_) ho
  have hh : 2 ≤ 2 := Nat.le_refl _
  show zKO E 4 Z (zMQ E Z (zQI Z)) 0 [(0, .ref (zad Z 5 0)), (1, .int (a1))] [] σ _
  unfold f_X3_whole
  refine zr_iconst (v := 0) C dX3_whole_0 rfl ?_
  refine zr_istore_n (i := 2) (L1 := [(2, .int _), (0, .ref _), (1, .int _)]) C dX3_whole_1 rfl (by decide) rfl ?_
  refine zr_iconst (v := 0) C dX3_whole_2 rfl ?_
  refine zr_istore_n (i := 3) (L1 := [(3, .int _), (2, .int _), (0, .ref _), (1, .int _)]) C dX3_whole_3 rfl (by decide) rfl ?_
  exact zr_sub [2, 3, 1, 0] rfl (c_X3_whole_4 F C hh F σ ((a1, 0, 0)))
theorem zk_X3_46 (C : zCx E cc RX3 nL ret Z h) (F : Nat) {b0 : Int32} (hk : 0 < zN 5) (hh : 2 + 1 ≤ h) (hst8 : (st.map fun v => v.category).sum ≤ 8) (hd : decode cc pc = .ok (.invokevirtual 46, 3)) {g : Int32 → zMem → Option (α × zMem)} (kk : ∀ (r : Int32) (σ1 : zMem), zKO E nL Z QQ (pc + 3) L (.int r :: st) σ1 (g r σ1)) : zKO E nL Z QQ pc L (.int b0 :: .ref (zad Z 5 0) :: st) σ (zb (f_X3_whole F σ b0) g) :=
  zr_callVI (As := [.int b0]) (ia := 1) C (fun r σ1 ho => c_X3_whole (zla E) Z F σ b0 r σ1 ho) wz_953 hk rfl rfl wz_p9 wz_521 wz_522 wz_2 (by decide +kernel) rfl (by decide) hh hd hst8 kk
def f_X3_held_6 (F : Nat) (rec6 : zMem → Int32 × Int32 × Int32 × Int32 × Int32 → Option (Int32 × zMem)) (σ : zMem) (x : Int32 × Int32 × Int32 × Int32 × Int32) : Option (Int32 × zMem) := if (σ.1 5 0 5) ≤ x.2.2.2.2 then (some (x.2.2.2.1, σ)) else (zb (f_X3_commonOf F σ x.2.2.2.2) fun r18 m18 => if r18 = x.2.1 then (zb (f_X3_holder F m18 x.2.2.2.2 x.2.2.1) fun r29 m29 => if r29 = x.1 then (zg (inb x.2.2.2.2 50) (rec6 m29 ((x.1, x.2.1, x.2.2.1, (x.2.2.2.1 + (m29.1 8 0 x.2.2.2.2.toNatClampNeg)), (x.2.2.2.2 + 1))))) else (rec6 m29 ((x.1, x.2.1, x.2.2.1, x.2.2.2.1, (x.2.2.2.2 + 1))))) else (rec6 m18 ((x.1, x.2.1, x.2.2.1, x.2.2.2.1, (x.2.2.2.2 + 1)))))
set_option maxHeartbeats 4000000 in
set_option maxRecDepth 100000 in
theorem c_X3_held_6 (F : Nat) {E : zEn} {h : Nat} {Z : zLay} (C : zCx E cX3_held RX3 6 (some .int) Z h) (hh : 3 ≤ h) : ∀ (n : Nat) (σ : zMem) (x : Int32 × Int32 × Int32 × Int32 × Int32), zKO E 6 Z (zMQ E Z (zQI Z)) 6 [(0, .ref (zad Z 5 0)), (1, .int x.1), (2, .int x.2.1), (3, .int x.2.2.1), (4, .int x.2.2.2.1), (5, .int x.2.2.2.2)] [] σ (zit (f_X3_held_6 F) n σ x) := by
  refine zr_loop (LL := fun (x : Int32 × Int32 × Int32 × Int32 × Int32) => [(0, .ref (zad Z 5 0)), (1, .int x.1), (2, .int x.2.1), (3, .int x.2.2.1), (4, .int x.2.2.2.1), (5, .int x.2.2.2.2)]) (ST := fun (x : Int32 × Int32 × Int32 × Int32 × Int32) => []) (fun rec6 hrec6 σ x => ?_)
  obtain ⟨l1, l2, l3, l4, l5⟩ := x
  show zKO E 6 Z (zMQ E Z (zQI Z)) 6 [(0, .ref (zad Z 5 0)), (1, .int l1), (2, .int l2), (3, .int l3), (4, .int l4), (5, .int l5)] [] σ (if (σ.1 5 0 5) ≤ l5 then (some (l4, σ)) else (zb (f_X3_commonOf F σ l5) fun r18 m18 => if r18 = l2 then (zb (f_X3_holder F m18 l5 l3) fun r29 m29 => if r29 = l1 then (zg (inb l5 50) (rec6 m29 ((l1, l2, l3, (l4 + (m29.1 8 0 l5.toNatClampNeg)), (l5 + 1))))) else (rec6 m29 ((l1, l2, l3, l4, (l5 + 1))))) else (rec6 m18 ((l1, l2, l3, l4, (l5 + 1))))))
  refine zr_iload C dX3_held_6 rfl ?_
  refine zr_aload_n C dX3_held_8 rfl ?_
  refine zf_X3_27 C (Nat.le_of_ble_eq_true rfl) dX3_held_9 ?_
  refine zr_icmp_ge (tgt := 54) C dX3_held_12 (by decide) ?_ ?_
  · refine zr_iload C dX3_held_54 rfl ?_
    exact zr_iret C dX3_held_56
  · refine zr_aload_n C dX3_held_15 rfl ?_
    refine zr_iload C dX3_held_16 rfl ?_
    refine zk_X3_38 C F (Nat.le_of_ble_eq_true rfl) (Nat.le_trans (by decide) hh) (by simp [Value.category]) dX3_held_18 (fun r18 m18 => ?_)
    refine zr_iload_n C dX3_held_21 rfl ?_
    refine zr_icmp_ne (tgt := 48) C dX3_held_22 (by decide) ?_ ?_
    · refine zr_iinc (kk := 5) (v := (l5 + 1)) (L1 := [(5, .int _), (0, .ref _), (1, .int _), (2, .int _), (3, .int _), (4, .int _)]) C dX3_held_48 rfl rfl (by decide) rfl ?_
      refine zr_goto (tgt := 6) C dX3_held_51 (by decide) ?_
      exact zr_sub [1, 2, 3, 4, 5, 0] rfl (hrec6 m18 ((l1, l2, l3, l4, (l5 + 1))))
    · refine zr_aload_n C dX3_held_25 rfl ?_
      refine zr_iload C dX3_held_26 rfl ?_
      refine zr_iload_n C dX3_held_28 rfl ?_
      refine zk_X3_42 C F (Nat.le_of_ble_eq_true rfl) (Nat.le_trans (by decide) hh) (by simp [Value.category]) dX3_held_29 (fun r29 m29 => ?_)
      refine zr_iload_n C dX3_held_32 rfl ?_
      refine zr_icmp_ne (tgt := 48) C dX3_held_33 (by decide) ?_ ?_
      · refine zr_iinc (kk := 5) (v := (l5 + 1)) (L1 := [(5, .int _), (0, .ref _), (1, .int _), (2, .int _), (3, .int _), (4, .int _)]) C dX3_held_48 rfl rfl (by decide) rfl ?_
        refine zr_goto (tgt := 6) C dX3_held_51 (by decide) ?_
        exact zr_sub [1, 2, 3, 4, 5, 0] rfl (hrec6 m29 ((l1, l2, l3, l4, (l5 + 1))))
      · refine zr_iload C dX3_held_36 rfl ?_
        refine zr_aload_n C dX3_held_38 rfl ?_
        refine zf_X3_18 C (Nat.le_of_ble_eq_true rfl) dX3_held_39 ?_
        refine zr_iload C dX3_held_42 rfl ?_
        refine zr_iald (n := 50) C dX3_held_44 (Nat.le_of_ble_eq_true rfl) rfl ?_
        refine zr_iadd C dX3_held_45 ?_
        refine zr_istore (i := 4) (L1 := [(4, .int _), (0, .ref _), (1, .int _), (2, .int _), (3, .int _), (5, .int _)]) C dX3_held_46 (by decide) rfl ?_
        refine zr_iinc (kk := 5) (v := (l5 + 1)) (L1 := [(5, .int _), (4, .int _), (0, .ref _), (1, .int _), (2, .int _), (3, .int _)]) C dX3_held_48 rfl rfl (by decide) rfl ?_
        refine zr_goto (tgt := 6) C dX3_held_51 (by decide) ?_
        exact zr_sub [2, 3, 4, 5, 1, 0] rfl (hrec6 m29 ((l1, l2, l3, (l4 + (m29.1 8 0 l5.toNatClampNeg)), (l5 + 1))))
def f_X3_held (F : Nat) (σ : zMem) (a1 : Int32) (a2 : Int32) (a3 : Int32) : Option (Int32 × zMem) := zit (f_X3_held_6 F) F σ ((a1, a2, a3, 0, 0))
set_option maxHeartbeats 4000000 in
set_option maxRecDepth 100000 in
theorem c_X3_held (l : Launch) (Z : zLay) (F : Nat) (σ : zMem) (a1 : Int32) (a2 : Int32) (a3 : Int32) (r : Int32) (σ1 : zMem) (ho : f_X3_held F σ a1 a2 a3 = some (r, σ1)) : zMet l yX3_held cX3_held 6 (some .int) 3 Z [.ref (zad Z 5 0), .int (a1), .int (a2), .int (a3)] σ (zQI Z r σ1) := by
  refine zMet_of (Qc := zQI Z) (by decide) (Nat.le_of_ble_eq_true rfl) [(0, .ref (zad Z 5 0)), (1, .int (a1)), (2, .int (a2)), (3, .int (a3))] rfl (fun E C => ?_) ho
  have hh : 3 ≤ 3 := Nat.le_refl _
  show zKO E 6 Z (zMQ E Z (zQI Z)) 0 [(0, .ref (zad Z 5 0)), (1, .int (a1)), (2, .int (a2)), (3, .int (a3))] [] σ _
  unfold f_X3_held
  refine zr_iconst (v := 0) C dX3_held_0 rfl ?_
  refine zr_istore (i := 4) (L1 := [(4, .int _), (0, .ref _), (1, .int _), (2, .int _), (3, .int _)]) C dX3_held_1 (by decide) rfl ?_
  refine zr_iconst (v := 0) C dX3_held_3 rfl ?_
  refine zr_istore (i := 5) (L1 := [(5, .int _), (4, .int _), (0, .ref _), (1, .int _), (2, .int _), (3, .int _)]) C dX3_held_4 (by decide) rfl ?_
  exact zr_sub [2, 3, 4, 5, 1, 0] rfl (c_X3_held_6 F C hh F σ ((a1, a2, a3, 0, 0)))
def f_X3_atHour_19 (F : Nat) (rec19 : zMem → Int32 × Int32 → Option (Int32 × zMem)) (σ : zMem) (x : Int32 × Int32) : Option (Int32 × zMem) := if (σ.1 5 0 5) ≤ x.2 then (some ((-1), σ)) else (zb (f_X3_commonOf F σ x.2) fun r31 m31 => if r31 = 2 then (zg (inb x.2 50) (if (m31.1 8 0 x.2.toNatClampNeg) ≤ x.1 then (zg (inb x.2 50) (rec19 m31 (((x.1 - (m31.1 8 0 x.2.toNatClampNeg)), (x.2 + 1))))) else (some (x.2, m31)))) else (rec19 m31 ((x.1, (x.2 + 1)))))
set_option maxHeartbeats 4000000 in
set_option maxRecDepth 100000 in
theorem c_X3_atHour_19 (F : Nat) {E : zEn} {h : Nat} {Z : zLay} (C : zCx E cX3_atHour RX3 5 (some .int) Z h) (hh : 3 ≤ h) : ∀ (n : Nat) (σ : zMem) (x : Int32 × Int32), zKO E 5 Z (zMQ E Z (zQI Z)) 19 [(0, .ref (zad Z 5 0)), (3, .int x.1), (4, .int x.2)] [] σ (zit (f_X3_atHour_19 F) n σ x) := by
  refine zr_loop (LL := fun (x : Int32 × Int32) => [(0, .ref (zad Z 5 0)), (3, .int x.1), (4, .int x.2)]) (ST := fun (x : Int32 × Int32) => []) (fun rec19 hrec19 σ x => ?_)
  obtain ⟨l3, l4⟩ := x
  show zKO E 5 Z (zMQ E Z (zQI Z)) 19 [(0, .ref (zad Z 5 0)), (3, .int l3), (4, .int l4)] [] σ (if (σ.1 5 0 5) ≤ l4 then (some ((-1), σ)) else (zb (f_X3_commonOf F σ l4) fun r31 m31 => if r31 = 2 then (zg (inb l4 50) (if (m31.1 8 0 l4.toNatClampNeg) ≤ l3 then (zg (inb l4 50) (rec19 m31 (((l3 - (m31.1 8 0 l4.toNatClampNeg)), (l4 + 1))))) else (some (l4, m31)))) else (rec19 m31 ((l3, (l4 + 1))))))
  refine zr_iload C dX3_atHour_19 rfl ?_
  refine zr_aload_n C dX3_atHour_21 rfl ?_
  refine zf_X3_27 C (Nat.le_of_ble_eq_true rfl) dX3_atHour_22 ?_
  refine zr_icmp_ge (tgt := 68) C dX3_atHour_25 (by decide) ?_ ?_
  · refine zr_iconst (v := -1) C dX3_atHour_68 rfl ?_
    exact zr_iret C dX3_atHour_69
  · refine zr_aload_n C dX3_atHour_28 rfl ?_
    refine zr_iload C dX3_atHour_29 rfl ?_
    refine zk_X3_38 C F (Nat.le_of_ble_eq_true rfl) (Nat.le_trans (by decide) hh) (by simp [Value.category]) dX3_atHour_31 (fun r31 m31 => ?_)
    refine zr_iconst (v := 2) C dX3_atHour_34 rfl ?_
    refine zr_icmp_ne (tgt := 62) C dX3_atHour_35 (by decide) ?_ ?_
    · refine zr_iinc (kk := 2) (v := (l4 + 1)) (L1 := [(4, .int _), (0, .ref _), (3, .int _)]) C dX3_atHour_62 rfl rfl (by decide) rfl ?_
      refine zr_goto (tgt := 19) C dX3_atHour_65 (by decide) ?_
      exact zr_sub [1, 2, 0] rfl (hrec19 m31 ((l3, (l4 + 1))))
    · refine zr_iload_n C dX3_atHour_38 rfl ?_
      refine zr_aload_n C dX3_atHour_39 rfl ?_
      refine zf_X3_18 C (Nat.le_of_ble_eq_true rfl) dX3_atHour_40 ?_
      refine zr_iload C dX3_atHour_43 rfl ?_
      refine zr_iald (n := 50) C dX3_atHour_45 (Nat.le_of_ble_eq_true rfl) rfl ?_
      refine zr_icmp_ge (tgt := 52) C dX3_atHour_46 (by decide) ?_ ?_
      · refine zr_iload_n C dX3_atHour_52 rfl ?_
        refine zr_aload_n C dX3_atHour_53 rfl ?_
        refine zf_X3_18 C (Nat.le_of_ble_eq_true rfl) dX3_atHour_54 ?_
        refine zr_iload C dX3_atHour_57 rfl ?_
        refine zr_iald (n := 50) C dX3_atHour_59 (Nat.le_of_ble_eq_true rfl) rfl ?_
        refine zr_isub C dX3_atHour_60 ?_
        refine zr_istore_n (i := 3) (L1 := [(3, .int _), (0, .ref _), (4, .int _)]) C dX3_atHour_61 rfl (by decide) rfl ?_
        refine zr_iinc (kk := 2) (v := (l4 + 1)) (L1 := [(4, .int _), (3, .int _), (0, .ref _)]) C dX3_atHour_62 rfl rfl (by decide) rfl ?_
        refine zr_goto (tgt := 19) C dX3_atHour_65 (by decide) ?_
        exact zr_sub [2, 1, 0] rfl (hrec19 m31 (((l3 - (m31.1 8 0 l4.toNatClampNeg)), (l4 + 1))))
      · refine zr_iload C dX3_atHour_49 rfl ?_
        exact zr_iret C dX3_atHour_51
def f_X3_atHour (F : Nat) (σ : zMem) (a1 : Int32) : Option (Int32 × zMem) := zb (f_X3_whole F σ 2) fun r2 m2 => if 0 < r2 then (zg (zni r2) (zit (f_X3_atHour_19 F) F m2 (((zrem a1 r2), 0)))) else (some ((-1), m2))
set_option maxHeartbeats 4000000 in
set_option maxRecDepth 100000 in
theorem c_X3_atHour (l : Launch) (Z : zLay) (F : Nat) (σ : zMem) (a1 : Int32) (r : Int32) (σ1 : zMem) (ho : f_X3_atHour F σ a1 = some (r, σ1)) : zMet l yX3_atHour cX3_atHour 5 (some .int) 3 Z [.ref (zad Z 5 0), .int (a1)] σ (zQI Z r σ1) := by
  refine zMet_of (Qc := zQI Z) (by decide) (Nat.le_of_ble_eq_true rfl) [(0, .ref (zad Z 5 0)), (1, .int (a1))] rfl (fun E C => ?_) ho
  have hh : 3 ≤ 3 := Nat.le_refl _
  show zKO E 5 Z (zMQ E Z (zQI Z)) 0 [(0, .ref (zad Z 5 0)), (1, .int (a1))] [] σ _
  unfold f_X3_atHour
  refine zr_aload_n C dX3_atHour_0 rfl ?_
  refine zr_iconst (v := 2) C dX3_atHour_1 rfl ?_
  refine zk_X3_46 C F (Nat.le_of_ble_eq_true rfl) (Nat.le_trans (by decide) hh) (by simp [Value.category]) dX3_atHour_2 (fun r2 m2 => ?_)
  refine zr_istore_n (i := 2) (L1 := [(2, .int _), (0, .ref _), (1, .int _)]) C dX3_atHour_5 rfl (by decide) rfl ?_
  refine zr_iload_n C dX3_atHour_6 rfl ?_
  refine zr_if_gt (tgt := 12) C dX3_atHour_7 (by decide) ?_ ?_
  · refine zr_iload_n C dX3_atHour_12 rfl ?_
    refine zr_iload_n C dX3_atHour_13 rfl ?_
    refine zr_irem C dX3_atHour_14 ?_
    refine zr_istore_n (i := 3) (L1 := [(3, .int _), (2, .int _), (0, .ref _), (1, .int _)]) C dX3_atHour_15 rfl (by decide) rfl ?_
    refine zr_iconst (v := 0) C dX3_atHour_16 rfl ?_
    refine zr_istore (i := 4) (L1 := [(4, .int _), (3, .int _), (2, .int _), (0, .ref _), (1, .int _)]) C dX3_atHour_17 (by decide) rfl ?_
    exact zr_sub [3, 1, 0] rfl (c_X3_atHour_19 F C hh F m2 (((zrem a1 r2), 0)))
  · refine zr_iconst (v := -1) C dX3_atHour_10 rfl ?_
    exact zr_iret C dX3_atHour_11
def f_X3_isUnder_4 (F : Nat) (rec4 : zMem → Int32 × Int32 × Int32 → Option (Int32 × zMem)) (σ : zMem) (x : Int32 × Int32 × Int32) : Option (Int32 × zMem) := if 6 ≤ x.2.2 then (some (0, σ)) else (if x.2.1 < 0 then (some (0, σ)) else (if x.2.1 = x.1 then (some (1, σ)) else (zg (inb x.2.1 6) (rec4 σ ((x.1, (([-1, 0, 0, 0, 1, 0] : List Int32).getD x.2.1.toNatClampNeg 0), (x.2.2 + 1)))))))
set_option maxHeartbeats 4000000 in
set_option maxRecDepth 100000 in
theorem c_X3_isUnder_4 (F : Nat) {E : zEn} {h : Nat} {Z : zLay} (C : zCx E cX3_isUnder RX3 4 (some .boolean) Z h) (hh : 1 ≤ h) : ∀ (n : Nat) (σ : zMem) (x : Int32 × Int32 × Int32), zKO E 4 Z (zMQ E Z (zQI Z)) 4 [(1, .int x.1), (2, .int x.2.1), (3, .int x.2.2)] [] σ (zit (f_X3_isUnder_4 F) n σ x) := by
  refine zr_loop (LL := fun (x : Int32 × Int32 × Int32) => [(1, .int x.1), (2, .int x.2.1), (3, .int x.2.2)]) (ST := fun (x : Int32 × Int32 × Int32) => []) (fun rec4 hrec4 σ x => ?_)
  obtain ⟨l1, l2, l3⟩ := x
  show zKO E 4 Z (zMQ E Z (zQI Z)) 4 [(1, .int l1), (2, .int l2), (3, .int l3)] [] σ (if 6 ≤ l3 then (some (0, σ)) else (if l2 < 0 then (some (0, σ)) else (if l2 = l1 then (some (1, σ)) else (zg (inb l2 6) (rec4 σ ((l1, (([-1, 0, 0, 0, 1, 0] : List Int32).getD l2.toNatClampNeg 0), (l3 + 1))))))))
  refine zr_iload_n C dX3_isUnder_4 rfl ?_
  refine zr_bipush (v := 6) C dX3_isUnder_5 rfl ?_
  refine zr_icmp_ge (tgt := 33) C dX3_isUnder_7 (by decide) ?_ ?_
  · refine zr_iconst (v := 0) C dX3_isUnder_33 rfl ?_
    exact zr_zret C dX3_isUnder_34 rfl
  · refine zr_iload_n C dX3_isUnder_10 rfl ?_
    refine zr_if_lt (tgt := 33) C dX3_isUnder_11 (by decide) ?_ ?_
    · refine zr_iconst (v := 0) C dX3_isUnder_33 rfl ?_
      exact zr_zret C dX3_isUnder_34 rfl
    · refine zr_iload_n C dX3_isUnder_14 rfl ?_
      refine zr_iload_n C dX3_isUnder_15 rfl ?_
      refine zr_icmp_ne (tgt := 21) C dX3_isUnder_16 (by decide) ?_ ?_
      · refine zr_gets C ("AlpCommune$Rights", "KIND_ABOVE", 153, [-1, 0, 0, 0, 1, 0]) (by decide +kernel) wz_1052 dX3_isUnder_21 ?_
        refine zr_iload_n C dX3_isUnder_24 rfl ?_
        refine zr_ialdS C ("AlpCommune$Rights", "KIND_ABOVE", 153, [-1, 0, 0, 0, 1, 0]) (by decide +kernel) dX3_isUnder_25 ?_
        refine zr_istore_n (i := 2) (L1 := [(2, .int _), (1, .int _), (3, .int _)]) C dX3_isUnder_26 rfl (by decide) rfl ?_
        refine zr_iinc (kk := 2) (v := (l3 + 1)) (L1 := [(3, .int _), (2, .int _), (1, .int _)]) C dX3_isUnder_27 rfl rfl (by decide) rfl ?_
        refine zr_goto (tgt := 4) C dX3_isUnder_30 (by decide) ?_
        exact zr_sub [2, 1, 0] rfl (hrec4 σ ((l1, (([-1, 0, 0, 0, 1, 0] : List Int32).getD l2.toNatClampNeg 0), (l3 + 1))))
      · refine zr_iconst (v := 1) C dX3_isUnder_19 rfl ?_
        exact zr_zret C dX3_isUnder_20 rfl
def f_X3_isUnder (F : Nat) (σ : zMem) (a0 : Int32) (a1 : Int32) : Option (Int32 × zMem) := zit (f_X3_isUnder_4 F) F σ ((a1, a0, 0))
set_option maxHeartbeats 4000000 in
set_option maxRecDepth 100000 in
theorem c_X3_isUnder (l : Launch) (Z : zLay) (F : Nat) (σ : zMem) (a0 : Int32) (a1 : Int32) (r : Int32) (σ1 : zMem) (ho : f_X3_isUnder F σ a0 a1 = some (r, σ1)) : zMet l yX3_isUnder cX3_isUnder 4 (some .boolean) 1 Z [.int (a0), .int (a1)] σ (zQI Z r σ1) := by
  refine zMet_of (Qc := zQI Z) (by decide) (Nat.le_of_ble_eq_true rfl) [(0, .int (a0)), (1, .int (a1))] rfl (fun E C => ?_) ho
  have hh : 1 ≤ 1 := Nat.le_refl _
  show zKO E 4 Z (zMQ E Z (zQI Z)) 0 [(0, .int (a0)), (1, .int (a1))] [] σ _
  unfold f_X3_isUnder
  refine zr_iload_n C dX3_isUnder_0 rfl ?_
  refine zr_istore_n (i := 2) (L1 := [(2, .int _), (0, .int _), (1, .int _)]) C dX3_isUnder_1 rfl (by decide) rfl ?_
  refine zr_iconst (v := 0) C dX3_isUnder_2 rfl ?_
  refine zr_istore_n (i := 3) (L1 := [(3, .int _), (2, .int _), (0, .int _), (1, .int _)]) C dX3_isUnder_3 rfl (by decide) rfl ?_
  exact zr_sub [3, 1, 0] rfl (c_X3_isUnder_4 F C hh F σ ((a1, a0, 0)))
end ZM
