section ZM
variable {E : zEn} {cc : ByteArray} {own : String} {nL h : Nat} {ret : Option FieldType} {Z : zLay} {α : Type} {QQ : α → zMem → State → Prop} {pc : Nat} {L : List (Nat × Value)} {st : List Value} {σ : zMem} {o o1 o2 : Option (α × zMem)}
def f_X9_has (F : Nat) (σ : zMem) (a1 : Int32) : Option (Int32 × zMem) := if a1 < 0 then (some (0, σ)) else (if (σ.1 11 0 1) ≤ a1 then (some (0, σ)) else (some (1, σ)))
set_option maxHeartbeats 4000000 in
set_option maxRecDepth 100000 in
theorem c_X9_has (l : Launch) (Z : zLay) (F : Nat) (σ : zMem) (a1 : Int32) (r : Int32) (σ1 : zMem) (ho : f_X9_has F σ a1 = some (r, σ1)) : zMet l yX9_has cX9_has 2 (some .boolean) 1 Z [.ref (zad Z 11 0), .int (a1)] σ (zQI Z r σ1) := by
  refine zMet_of (Qc := zQI Z) (by decide) (Nat.le_of_ble_eq_true rfl) [(0, .ref (zad Z 11 0)), (1, .int (a1))] rfl (fun E C => ?_) ho
  have hh : 1 ≤ 1 := Nat.le_refl _
  show zKO E 2 Z (zMQ E Z (zQI Z)) 0 [(0, .ref (zad Z 11 0)), (1, .int (a1))] [] σ _
  unfold f_X9_has
  refine zr_iload_n C dX9_has_0 rfl ?_
  refine zr_if_lt (tgt := 16) C dX9_has_1 (by decide) ?_ ?_
  · refine zr_iconst (v := 0) C dX9_has_16 rfl ?_
    exact zr_zret C dX9_has_17 rfl
  · refine zr_iload_n C dX9_has_4 rfl ?_
    refine zr_aload_n C dX9_has_5 rfl ?_
    refine zf_X9_22 C (Nat.le_of_ble_eq_true rfl) dX9_has_6 ?_
    refine zr_icmp_ge (tgt := 16) C dX9_has_9 (by decide) ?_ ?_
    · refine zr_iconst (v := 0) C dX9_has_16 rfl ?_
      exact zr_zret C dX9_has_17 rfl
    · refine zr_iconst (v := 1) C dX9_has_12 rfl ?_
      refine zr_goto (tgt := 17) C dX9_has_13 (by decide) ?_
      exact zr_zret C dX9_has_17 rfl
theorem zk_X10_198 (C : zCx E cc RX10 nL ret Z h) (F : Nat) {b0 : Int32} (hk : 0 < zN 11) (hh : 1 + 1 ≤ h) (hst8 : (st.map fun v => v.category).sum ≤ 8) (hd : decode cc pc = .ok (.invokevirtual 198, 3)) {g : Int32 → zMem → Option (α × zMem)} (kk : ∀ (r : Int32) (σ1 : zMem), zKO E nL Z QQ (pc + 3) L (.int r :: st) σ1 (g r σ1)) : zKO E nL Z QQ pc L (.int b0 :: .ref (zad Z 11 0) :: st) σ (zb (f_X9_has F σ b0) g) :=
  zr_callVNI (As := [.int b0]) (ia := 1) C (fun r σ1 ho => c_X9_has (zla E) Z F σ b0 r σ1 ho) wz_n647 hk rfl rfl wz_p22 wz_649 wz_650 wz_3 (by decide +kernel) rfl (by decide) hh hd hst8 kk
def f_X9_append (F : Nat) (σ : zMem) (a1 : Int32) : Option (Unit × zMem) := if 100 ≤ (σ.1 11 0 3) then (some ((), σ)) else (zg (inb ((σ.1 11 0 3)) 100) (some ((), (zwi (zwi σ 11 0 3 (((σ.1 11 0 3) + 1))) 19 0 ((σ.1 11 0 3)).toNatClampNeg a1.toInt8.toInt32))))
set_option maxHeartbeats 4000000 in
set_option maxRecDepth 100000 in
theorem c_X9_append (l : Launch) (Z : zLay) (F : Nat) (σ : zMem) (a1 : Int32) (r : Unit) (σ1 : zMem) (ho : f_X9_append F σ a1 = some (r, σ1)) : zMet l yX9_append cX9_append 2 none 1 Z [.ref (zad Z 11 0), .int (a1)] σ (zQV Z r σ1) := by
  refine zMet_of (Qc := zQV Z) (by decide) (Nat.le_of_ble_eq_true rfl) [(0, .ref (zad Z 11 0)), (1, .int (a1))] rfl (fun E C => ?_) ho
  have hh : 1 ≤ 1 := Nat.le_refl _
  show zKO E 2 Z (zMQ E Z (zQV Z)) 0 [(0, .ref (zad Z 11 0)), (1, .int (a1))] [] σ _
  unfold f_X9_append
  refine zr_aload_n C dX9_append_0 rfl ?_
  refine zf_X9_26 C (Nat.le_of_ble_eq_true rfl) dX9_append_1 ?_
  refine zr_bipush (v := 100) C dX9_append_4 rfl ?_
  refine zr_icmp_ge (tgt := 26) C dX9_append_6 (by decide) ?_ ?_
  · exact zr_vret C dX9_append_26
  · refine zr_aload_n C dX9_append_9 rfl ?_
    refine zf_X9_17 C (Nat.le_of_ble_eq_true rfl) dX9_append_10 ?_
    refine zr_aload_n C dX9_append_13 rfl ?_
    refine zr_dup C dX9_append_14 rfl ?_
    refine zf_X9_26 C (Nat.le_of_ble_eq_true rfl) dX9_append_15 ?_
    refine zr_dup_x1 C dX9_append_18 rfl rfl ?_
    refine zr_iconst (v := 1) C dX9_append_19 rfl ?_
    refine zr_iadd C dX9_append_20 ?_
    refine zp_X9_26 C (Nat.le_of_ble_eq_true rfl) dX9_append_21 ?_
    refine zr_iload_n C dX9_append_24 rfl ?_
    refine zr_bast (n := 100) C dX9_append_25 (Nat.le_of_ble_eq_true rfl) (fun _ _ => rfl) ?_
    exact zr_vret C dX9_append_26
theorem zk_X10_177 (C : zCx E cc RX10 nL ret Z h) (F : Nat) {b0 : Int32} (hk : 0 < zN 11) (hh : 1 + 1 ≤ h) (hst8 : (st.map fun v => v.category).sum ≤ 8) (hd : decode cc pc = .ok (.invokevirtual 177, 3)) {g : Unit → zMem → Option (α × zMem)} (kk : ∀ (r : Unit) (σ1 : zMem), zKO E nL Z QQ (pc + 3) L (st) σ1 (g r σ1)) : zKO E nL Z QQ pc L (.int b0 :: .ref (zad Z 11 0) :: st) σ (zb (f_X9_append F σ b0) g) :=
  zr_callVNU (As := [.int b0]) (ia := 1) C (fun r σ1 ho => c_X9_append (zla E) Z F σ b0 r σ1 ho) wz_n532 hk rfl rfl wz_p11 wz_534 wz_535 wz_3 (by decide +kernel) rfl (by decide) hh hd hst8 kk
def f_X9_enter (F : Nat) (σ : zMem) (a1 : Int32) : Option (Int32 × zMem) := zg (inb ((σ.1 11 0 1)) 40) (some (((zwi σ 13 (((σ.1 11 0 1)).toNatClampNeg) 2 a1).1 11 0 1), (zwi (zwi σ 13 (((σ.1 11 0 1)).toNatClampNeg) 2 a1) 11 0 1 ((((zwi σ 13 (((σ.1 11 0 1)).toNatClampNeg) 2 a1).1 11 0 1) + 1)))))
set_option maxHeartbeats 4000000 in
set_option maxRecDepth 100000 in
theorem c_X9_enter (l : Launch) (Z : zLay) (F : Nat) (σ : zMem) (a1 : Int32) (r : Int32) (σ1 : zMem) (ho : f_X9_enter F σ a1 = some (r, σ1)) : zMet l yX9_enter cX9_enter 2 (some .int) 1 Z [.ref (zad Z 11 0), .int (a1)] σ (zQI Z r σ1) := by
  refine zMet_of (Qc := zQI Z) (by decide) (Nat.le_of_ble_eq_true rfl) [(0, .ref (zad Z 11 0)), (1, .int (a1))] rfl (fun E C => ?_) ho
  have hh : 1 ≤ 1 := Nat.le_refl _
  show zKO E 2 Z (zMQ E Z (zQI Z)) 0 [(0, .ref (zad Z 11 0)), (1, .int (a1))] [] σ _
  unfold f_X9_enter
  refine zr_aload_n C dX9_enter_0 rfl ?_
  refine zf_X9_11 C (Nat.le_of_ble_eq_true rfl) dX9_enter_1 ?_
  refine zr_aload_n C dX9_enter_4 rfl ?_
  refine zf_X9_22 C (Nat.le_of_ble_eq_true rfl) dX9_enter_5 ?_
  refine zr_aald (n := 40) (k1 := 13) C dX9_enter_8 (Nat.le_of_ble_eq_true rfl) rfl rfl rfl (fun hb8 => ?_)
  refine zr_iload_n C dX9_enter_9 rfl ?_
  refine zp_X9_29 C hb8 dX9_enter_10 ?_
  refine zr_aload_n C dX9_enter_13 rfl ?_
  refine zr_dup C dX9_enter_14 rfl ?_
  refine zf_X9_22 C (Nat.le_of_ble_eq_true rfl) dX9_enter_15 ?_
  refine zr_dup_x1 C dX9_enter_18 rfl rfl ?_
  refine zr_iconst (v := 1) C dX9_enter_19 rfl ?_
  refine zr_iadd C dX9_enter_20 ?_
  refine zp_X9_22 C (Nat.le_of_ble_eq_true rfl) dX9_enter_21 ?_
  exact zr_iret C dX9_enter_24
theorem zk_X10_191 (C : zCx E cc RX10 nL ret Z h) (F : Nat) {b0 : Int32} (hk : 0 < zN 11) (hh : 1 + 1 ≤ h) (hst8 : (st.map fun v => v.category).sum ≤ 8) (hd : decode cc pc = .ok (.invokevirtual 191, 3)) {g : Int32 → zMem → Option (α × zMem)} (kk : ∀ (r : Int32) (σ1 : zMem), zKO E nL Z QQ (pc + 3) L (.int r :: st) σ1 (g r σ1)) : zKO E nL Z QQ pc L (.int b0 :: .ref (zad Z 11 0) :: st) σ (zb (f_X9_enter F σ b0) g) :=
  zr_callVNI (As := [.int b0]) (ia := 1) C (fun r σ1 ho => c_X9_enter (zla E) Z F σ b0 r σ1 ho) wz_n639 hk rfl rfl wz_p21 wz_641 wz_642 wz_3 (by decide +kernel) rfl (by decide) hh hd hst8 kk
def f_X9_worth (F : Nat) (σ : zMem) (a1 : Int32) (a2 : Int32) : Option (Int32 × zMem) := if 0 ≤ a1 then (zg (inb a1 40) (some ((σ.1 13 a1.toNatClampNeg 1), σ))) else (zg (inb a2 8) (some ((([30, 4, 150, 270, 2, 5, 3, 1] : List Int32).getD a2.toNatClampNeg 0), σ)))
set_option maxHeartbeats 4000000 in
set_option maxRecDepth 100000 in
theorem c_X9_worth (l : Launch) (Z : zLay) (F : Nat) (σ : zMem) (a1 : Int32) (a2 : Int32) (r : Int32) (σ1 : zMem) (ho : f_X9_worth F σ a1 a2 = some (r, σ1)) : zMet l yX9_worth cX9_worth 3 (some .int) 1 Z [.ref (zad Z 11 0), .int (a1), .int (a2)] σ (zQI Z r σ1) := by
  refine zMet_of (Qc := zQI Z) (by decide) (Nat.le_of_ble_eq_true rfl) [(0, .ref (zad Z 11 0)), (1, .int (a1)), (2, .int (a2))] rfl (fun E C => ?_) ho
  have hh : 1 ≤ 1 := Nat.le_refl _
  show zKO E 3 Z (zMQ E Z (zQI Z)) 0 [(0, .ref (zad Z 11 0)), (1, .int (a1)), (2, .int (a2))] [] σ _
  unfold f_X9_worth
  refine zr_iload_n C dX9_worth_0 rfl ?_
  refine zr_if_ge (tgt := 12) C dX9_worth_1 (by decide) ?_ ?_
  · refine zr_aload_n C dX9_worth_12 rfl ?_
    refine zf_X9_11 C (Nat.le_of_ble_eq_true rfl) dX9_worth_13 ?_
    refine zr_iload_n C dX9_worth_16 rfl ?_
    refine zr_aald (n := 40) (k1 := 13) C dX9_worth_17 (Nat.le_of_ble_eq_true rfl) rfl rfl rfl (fun hb17 => ?_)
    refine zf_X9_36 C hb17 dX9_worth_18 ?_
    exact zr_iret C dX9_worth_21
  · refine zr_gets C ("AlpCommune$Words", "WORTH_AT_FIRST", 154, [30, 4, 150, 270, 2, 5, 3, 1]) (by decide +kernel) wz_681 dX9_worth_4 ?_
    refine zr_iload_n C dX9_worth_7 rfl ?_
    refine zr_ialdS C ("AlpCommune$Words", "WORTH_AT_FIRST", 154, [30, 4, 150, 270, 2, 5, 3, 1]) (by decide +kernel) dX9_worth_8 ?_
    refine zr_goto (tgt := 21) C dX9_worth_9 (by decide) ?_
    exact zr_iret C dX9_worth_21
theorem zk_X10_223 (C : zCx E cc RX10 nL ret Z h) (F : Nat) {b0 : Int32} {b1 : Int32} (hk : 0 < zN 11) (hh : 1 + 1 ≤ h) (hst8 : (st.map fun v => v.category).sum ≤ 8) (hd : decode cc pc = .ok (.invokevirtual 223, 3)) {g : Int32 → zMem → Option (α × zMem)} (kk : ∀ (r : Int32) (σ1 : zMem), zKO E nL Z QQ (pc + 3) L (.int r :: st) σ1 (g r σ1)) : zKO E nL Z QQ pc L (.int b1 :: .int b0 :: .ref (zad Z 11 0) :: st) σ (zb (f_X9_worth F σ b0 b1) g) :=
  zr_callVNI (As := [.int b0, .int b1]) (ia := 2) C (fun r σ1 ho => c_X9_worth (zla E) Z F σ b0 b1 r σ1 ho) wz_n677 hk rfl rfl wz_p27 wz_679 wz_680 wz_3 (by decide +kernel) rfl (by decide) hh hd hst8 kk
def f_X9_latest_8 (F : Nat) (rec8 : zMem → Nat × Int32 × Int32 × Int32 × Int32 → Option (Int32 × zMem)) (σ : zMem) (x : Nat × Int32 × Int32 × Int32 × Int32) : Option (Int32 × zMem) := zg (decide (x.1 < 10)) (if x.2.2.2.2 < 0 then (some ((-1), σ)) else (zg (inb x.2.2.2.2 40) (zb (f_X8_stands F σ x.2.2.2.2.toNatClampNeg x.2.1 x.2.2.1 x.2.2.2.1) fun r24 m24 => if r24 = 0 then (rec8 m24 ((x.1, x.2.1, x.2.2.1, x.2.2.2.1, (x.2.2.2.2 + (-1))))) else (zg (inb x.2.2.2.2 40) (zb (f_X8_holdsFor F m24 x.2.2.2.2.toNatClampNeg x.1 x.2.2.1) fun r39 m39 => if r39 = 0 then (rec8 m39 ((x.1, x.2.1, x.2.2.1, x.2.2.2.1, (x.2.2.2.2 + (-1))))) else (some (x.2.2.2.2, m39)))))))
set_option maxHeartbeats 4000000 in
set_option maxRecDepth 100000 in
theorem c_X9_latest_8 (F : Nat) {E : zEn} {h : Nat} {Z : zLay} (C : zCx E cX9_latest RX9 6 (some .int) Z h) (hh : 3 ≤ h) : ∀ (n : Nat) (σ : zMem) (x : Nat × Int32 × Int32 × Int32 × Int32), zKO E 6 Z (zMQ E Z (zQI Z)) 8 [(0, .ref (zad Z 11 0)), (1, .ref (zad Z 2 x.1)), (2, .int x.2.1), (3, .int x.2.2.1), (4, .int x.2.2.2.1), (5, .int x.2.2.2.2)] [] σ (zit (f_X9_latest_8 F) n σ x) := by
  refine zr_loop (LL := fun (x : Nat × Int32 × Int32 × Int32 × Int32) => [(0, .ref (zad Z 11 0)), (1, .ref (zad Z 2 x.1)), (2, .int x.2.1), (3, .int x.2.2.1), (4, .int x.2.2.2.1), (5, .int x.2.2.2.2)]) (ST := fun (x : Nat × Int32 × Int32 × Int32 × Int32) => []) (fun rec8 hrec8 σ x => ?_)
  obtain ⟨l1, l2, l3, l4, l5⟩ := x
  show zKO E 6 Z (zMQ E Z (zQI Z)) 8 [(0, .ref (zad Z 11 0)), (1, .ref (zad Z 2 l1)), (2, .int l2), (3, .int l3), (4, .int l4), (5, .int l5)] [] σ (zg (decide (l1 < 10)) (if l5 < 0 then (some ((-1), σ)) else (zg (inb l5 40) (zb (f_X8_stands F σ l5.toNatClampNeg l2 l3 l4) fun r24 m24 => if r24 = 0 then (rec8 m24 ((l1, l2, l3, l4, (l5 + (-1))))) else (zg (inb l5 40) (zb (f_X8_holdsFor F m24 l5.toNatClampNeg l1 l3) fun r39 m39 => if r39 = 0 then (rec8 m39 ((l1, l2, l3, l4, (l5 + (-1))))) else (some (l5, m39))))))))
  refine zr_g (fun hl1 => ?_)
  refine zr_iload C dX9_latest_8 rfl ?_
  refine zr_if_lt (tgt := 54) C dX9_latest_10 (by decide) ?_ ?_
  · refine zr_iconst (v := -1) C dX9_latest_54 rfl ?_
    exact zr_iret C dX9_latest_55
  · refine zr_aload_n C dX9_latest_13 rfl ?_
    refine zf_X9_11 C (Nat.le_of_ble_eq_true rfl) dX9_latest_14 ?_
    refine zr_iload C dX9_latest_17 rfl ?_
    refine zr_aald (n := 40) (k1 := 13) C dX9_latest_19 (Nat.le_of_ble_eq_true rfl) rfl rfl rfl (fun hb19 => ?_)
    refine zr_iload_n C dX9_latest_20 rfl ?_
    refine zr_iload_n C dX9_latest_21 rfl ?_
    refine zr_iload C dX9_latest_22 rfl ?_
    refine zk_X9_39 C F hb19 (Nat.le_trans (by decide) hh) (by simp [Value.category]) dX9_latest_24 (fun r24 m24 => ?_)
    refine zr_if_eq (tgt := 48) C dX9_latest_27 (by decide) ?_ ?_
    · refine zr_iinc (kk := 5) (v := (l5 + (-1))) (L1 := [(5, .int _), (0, .ref _), (1, .ref _), (2, .int _), (3, .int _), (4, .int _)]) C dX9_latest_48 rfl rfl (by decide) rfl ?_
      refine zr_goto (tgt := 8) C dX9_latest_51 (by decide) ?_
      exact zr_sub [1, 2, 3, 4, 5, 0] rfl (hrec8 m24 ((l1, l2, l3, l4, (l5 + (-1)))))
    · refine zr_aload_n C dX9_latest_30 rfl ?_
      refine zf_X9_11 C (Nat.le_of_ble_eq_true rfl) dX9_latest_31 ?_
      refine zr_iload C dX9_latest_34 rfl ?_
      refine zr_aald (n := 40) (k1 := 13) C dX9_latest_36 (Nat.le_of_ble_eq_true rfl) rfl rfl rfl (fun hb36 => ?_)
      refine zr_aload_n C dX9_latest_37 rfl ?_
      refine zr_iload_n C dX9_latest_38 rfl ?_
      refine zk_X9_43 C F hb36 (Nat.le_trans (by decide) hh) (by simp [Value.category]) dX9_latest_39 (fun r39 m39 => ?_)
      refine zr_if_eq (tgt := 48) C dX9_latest_42 (by decide) ?_ ?_
      · refine zr_iinc (kk := 5) (v := (l5 + (-1))) (L1 := [(5, .int _), (0, .ref _), (1, .ref _), (2, .int _), (3, .int _), (4, .int _)]) C dX9_latest_48 rfl rfl (by decide) rfl ?_
        refine zr_goto (tgt := 8) C dX9_latest_51 (by decide) ?_
        exact zr_sub [1, 2, 3, 4, 5, 0] rfl (hrec8 m39 ((l1, l2, l3, l4, (l5 + (-1)))))
      · refine zr_iload C dX9_latest_45 rfl ?_
        exact zr_iret C dX9_latest_47
def f_X9_latest (F : Nat) (σ : zMem) (a1 : Nat) (a2 : Int32) (a3 : Int32) (a4 : Int32) : Option (Int32 × zMem) := zg (decide (a1 < 10)) (zit (f_X9_latest_8 F) F σ ((a1, a2, a3, a4, ((σ.1 11 0 1) - 1))))
set_option maxHeartbeats 4000000 in
set_option maxRecDepth 100000 in
theorem c_X9_latest (l : Launch) (Z : zLay) (F : Nat) (σ : zMem) (a1 : Nat) (a2 : Int32) (a3 : Int32) (a4 : Int32) (r : Int32) (σ1 : zMem) (ho : f_X9_latest F σ a1 a2 a3 a4 = some (r, σ1)) : zMet l yX9_latest cX9_latest 6 (some .int) 3 Z [.ref (zad Z 11 0), .ref (zad Z 2 a1), .int (a2), .int (a3), .int (a4)] σ (zQI Z r σ1) := by
  refine zMet_of (Qc := zQI Z) (by decide) (Nat.le_of_ble_eq_true rfl) [(0, .ref (zad Z 11 0)), (1, .ref (zad Z 2 a1)), (2, .int (a2)), (3, .int (a3)), (4, .int (a4))] rfl (fun E C => ?_) ho
  have hh : 3 ≤ 3 := Nat.le_refl _
  show zKO E 6 Z (zMQ E Z (zQI Z)) 0 [(0, .ref (zad Z 11 0)), (1, .ref (zad Z 2 a1)), (2, .int (a2)), (3, .int (a3)), (4, .int (a4))] [] σ _
  unfold f_X9_latest
  refine zr_g (fun ha1 => ?_)
  refine zr_aload_n C dX9_latest_0 rfl ?_
  refine zf_X9_22 C (Nat.le_of_ble_eq_true rfl) dX9_latest_1 ?_
  refine zr_iconst (v := 1) C dX9_latest_4 rfl ?_
  refine zr_isub C dX9_latest_5 ?_
  refine zr_istore (i := 5) (L1 := [(5, .int _), (0, .ref _), (1, .ref _), (2, .int _), (3, .int _), (4, .int _)]) C dX9_latest_6 (by decide) rfl ?_
  exact zr_sub [1, 2, 3, 4, 5, 0] rfl (c_X9_latest_8 F C hh F σ ((a1, a2, a3, a4, ((σ.1 11 0 1) - 1))))
theorem zk_X10_219 (C : zCx E cc RX10 nL ret Z h) (F : Nat) {b0 : Nat} {b1 : Int32} {b2 : Int32} {b3 : Int32} (hk : 0 < zN 11) (hh : 3 + 1 ≤ h) (hst8 : (st.map fun v => v.category).sum ≤ 8) (hd : decode cc pc = .ok (.invokevirtual 219, 3)) {g : Int32 → zMem → Option (α × zMem)} (kk : ∀ (r : Int32) (σ1 : zMem), zKO E nL Z QQ (pc + 3) L (.int r :: st) σ1 (g r σ1)) : zKO E nL Z QQ pc L (.int b3 :: .int b2 :: .int b1 :: .ref (zad Z 2 b0) :: .ref (zad Z 11 0) :: st) σ (zb (f_X9_latest F σ b0 b1 b2 b3) g) :=
  zr_callVNI (As := [.ref (zad Z 2 b0), .int b1, .int b2, .int b3]) (ia := 4) C (fun r σ1 ho => c_X9_latest (zla E) Z F σ b0 b1 b2 b3 r σ1 ho) wz_n659 hk rfl rfl wz_p24 wz_661 wz_662 wz_3 (by decide +kernel) rfl (by decide) hh hd hst8 kk
def f_X9_readName_114 (F : Nat) (rec13 : zMem → Nat × Int32 × Int32 × Int32 × Int32 × Int32 → Option (Int32 × zMem)) (σ : zMem) (l1 : Nat) (l2 : Int32) (l3 : Int32) (l4 : Int32) (l5 : Int32) (l6 : Int32) : Option (Int32 × zMem) := zg (decide (l1 < 28)) (rec13 σ ((l1, l2, l3, (zmax l4 l3), l5, (l6 + 1))))
set_option maxHeartbeats 4000000 in
set_option maxRecDepth 100000 in
theorem c_X9_readName_114 (F : Nat) (rec13 : zMem → Nat × Int32 × Int32 × Int32 × Int32 × Int32 → Option (Int32 × zMem)) {E : zEn} {h : Nat} {Z : zLay} (C : zCx E cX9_readName RX9 8 (some .int) Z h) (hh : 5 ≤ h) (hrec13 : ∀ (σ : zMem) (x : Nat × Int32 × Int32 × Int32 × Int32 × Int32), zKO E 8 Z (zMQ E Z (zQI Z)) 13 [(0, .ref (zad Z 11 0)), (1, .ref (zad Z 180 x.1)), (2, .int x.2.1), (3, .int x.2.2.1), (4, .int x.2.2.2.1), (5, .int x.2.2.2.2.1), (6, .int x.2.2.2.2.2)] [] σ (rec13 σ x)) (σ : zMem) (l1 : Nat) (l2 : Int32) (l3 : Int32) (l4 : Int32) (l5 : Int32) (l6 : Int32) : zKO E 8 Z (zMQ E Z (zQI Z)) 114 [(0, .ref (zad Z 11 0)), (1, .ref (zad Z 180 l1)), (2, .int l2), (3, .int l3), (4, .int l4), (5, .int l5), (6, .int l6)] [] σ (f_X9_readName_114 F rec13 σ l1 l2 l3 l4 l5 l6) := by
  unfold f_X9_readName_114
  refine zr_g (fun hl1 => ?_)
  refine zr_iload C dX9_readName_114 rfl ?_
  refine zr_iload_n C dX9_readName_116 rfl ?_
  refine zr_mmax C wz_605 wz_606 wz_17 wz_607 (Nat.le_trans (by decide) hh) (by simp [Value.category]) dX9_readName_117 ?_
  refine zr_istore (i := 4) (L1 := [(4, .int _), (0, .ref _), (1, .ref _), (2, .int _), (3, .int _), (5, .int _), (6, .int _)]) C dX9_readName_120 (by decide) rfl ?_
  refine zr_iinc (kk := 6) (v := (l6 + 1)) (L1 := [(6, .int _), (4, .int _), (0, .ref _), (1, .ref _), (2, .int _), (3, .int _), (5, .int _)]) C dX9_readName_122 rfl rfl (by decide) rfl ?_
  refine zr_goto (tgt := 13) C dX9_readName_125 (by decide) ?_
  exact zr_sub [2, 3, 4, 5, 1, 6, 0] rfl (hrec13 σ ((l1, l2, l3, (zmax l4 l3), l5, (l6 + 1))))
def f_X9_readName_104 (F : Nat) (rec13 : zMem → Nat × Int32 × Int32 × Int32 × Int32 × Int32 → Option (Int32 × zMem)) (σ : zMem) (l1 : Nat) (l2 : Int32) (l3 : Int32) (l4 : Int32) (l6 : Int32) (s0 : Int32) : Option (Int32 × zMem) := zg (decide (l1 < 28)) (if s0 = 0 then (f_X9_readName_114 F rec13 σ l1 l2 l3 l4 s0 l6) else (f_X9_readName_114 F rec13 σ l1 l2 ((l3 + 1)) l4 s0 l6))
set_option maxHeartbeats 4000000 in
set_option maxRecDepth 100000 in
theorem c_X9_readName_104 (F : Nat) (rec13 : zMem → Nat × Int32 × Int32 × Int32 × Int32 × Int32 → Option (Int32 × zMem)) {E : zEn} {h : Nat} {Z : zLay} (C : zCx E cX9_readName RX9 8 (some .int) Z h) (hh : 5 ≤ h) (hrec13 : ∀ (σ : zMem) (x : Nat × Int32 × Int32 × Int32 × Int32 × Int32), zKO E 8 Z (zMQ E Z (zQI Z)) 13 [(0, .ref (zad Z 11 0)), (1, .ref (zad Z 180 x.1)), (2, .int x.2.1), (3, .int x.2.2.1), (4, .int x.2.2.2.1), (5, .int x.2.2.2.2.1), (6, .int x.2.2.2.2.2)] [] σ (rec13 σ x)) (σ : zMem) (l1 : Nat) (l2 : Int32) (l3 : Int32) (l4 : Int32) (l6 : Int32) (s0 : Int32) : zKO E 8 Z (zMQ E Z (zQI Z)) 104 [(0, .ref (zad Z 11 0)), (1, .ref (zad Z 180 l1)), (2, .int l2), (3, .int l3), (4, .int l4), (6, .int l6)] [.int s0] σ (f_X9_readName_104 F rec13 σ l1 l2 l3 l4 l6 s0) := by
  unfold f_X9_readName_104
  refine zr_g (fun hl1 => ?_)
  refine zr_istore (i := 5) (L1 := [(5, .int _), (0, .ref _), (1, .ref _), (2, .int _), (3, .int _), (4, .int _), (6, .int _)]) C dX9_readName_104 (by decide) rfl ?_
  refine zr_iload C dX9_readName_106 rfl ?_
  refine zr_if_eq (tgt := 114) C dX9_readName_108 (by decide) ?_ ?_
  · exact zr_sub [1, 2, 3, 4, 5, 0, 6] rfl (c_X9_readName_114 F rec13 C hh hrec13 σ l1 l2 l3 l4 s0 l6)
  · refine zr_iinc (kk := 4) (v := (l3 + 1)) (L1 := [(3, .int _), (5, .int _), (0, .ref _), (1, .ref _), (2, .int _), (4, .int _), (6, .int _)]) C dX9_readName_111 rfl rfl (by decide) rfl ?_
    exact zr_sub [2, 3, 4, 0, 5, 1, 6] rfl (c_X9_readName_114 F rec13 C hh hrec13 σ l1 l2 ((l3 + 1)) l4 s0 l6)
def f_X9_readName_13 (F : Nat) (rec13 : zMem → Nat × Int32 × Int32 × Int32 × Int32 × Int32 → Option (Int32 × zMem)) (σ : zMem) (x : Nat × Int32 × Int32 × Int32 × Int32 × Int32) : Option (Int32 × zMem) := zg (decide (x.1 < 28)) (zb (f_J0_length_8abf5 F σ x.1) fun r16 m16 => if r16 ≤ x.2.2.2.2.2 then (some ((-1), (zwi m16 11 0 4 (((m16.1 11 0 4) + x.2.2.2.1))))) else (zb (f_J0_charAt_5068e F m16 x.1 x.2.2.2.2.2) fun r25 m25 => if r25 = 32 then (if x.2.2.2.2.1 = 0 then (rec13 m25 ((x.1, (x.2.1 + 1), 0, x.2.2.2.1, 1, (x.2.2.2.2.2 + 1)))) else (some (x.2.1, (zwi m25 11 0 4 (((m25.1 11 0 4) + x.2.2.1)))))) else (if x.2.2.2.2.1 = 0 then (rec13 m25 ((x.1, x.2.1, x.2.2.1, x.2.2.2.1, x.2.2.2.2.1, (x.2.2.2.2.2 + 1)))) else (if (m25.1 11 0 3) ≤ ((m25.1 11 0 4) + x.2.2.1) then (f_X9_readName_104 F rec13 m25 x.1 x.2.1 x.2.2.1 x.2.2.2.1 x.2.2.2.2.2 0) else (zg (inb (((m25.1 11 0 4) + x.2.2.1)) 100) (if (m25.1 19 0 (((m25.1 11 0 4) + x.2.2.1)).toNatClampNeg) = r25 then (f_X9_readName_104 F rec13 m25 x.1 x.2.1 x.2.2.1 x.2.2.2.1 x.2.2.2.2.2 1) else (f_X9_readName_104 F rec13 m25 x.1 x.2.1 x.2.2.1 x.2.2.2.1 x.2.2.2.2.2 0)))))))
set_option maxHeartbeats 4000000 in
set_option maxRecDepth 100000 in
theorem c_X9_readName_13 (F : Nat) {E : zEn} {h : Nat} {Z : zLay} (C : zCx E cX9_readName RX9 8 (some .int) Z h) (hh : 5 ≤ h) : ∀ (n : Nat) (σ : zMem) (x : Nat × Int32 × Int32 × Int32 × Int32 × Int32), zKO E 8 Z (zMQ E Z (zQI Z)) 13 [(0, .ref (zad Z 11 0)), (1, .ref (zad Z 180 x.1)), (2, .int x.2.1), (3, .int x.2.2.1), (4, .int x.2.2.2.1), (5, .int x.2.2.2.2.1), (6, .int x.2.2.2.2.2)] [] σ (zit (f_X9_readName_13 F) n σ x) := by
  refine zr_loop (LL := fun (x : Nat × Int32 × Int32 × Int32 × Int32 × Int32) => [(0, .ref (zad Z 11 0)), (1, .ref (zad Z 180 x.1)), (2, .int x.2.1), (3, .int x.2.2.1), (4, .int x.2.2.2.1), (5, .int x.2.2.2.2.1), (6, .int x.2.2.2.2.2)]) (ST := fun (x : Nat × Int32 × Int32 × Int32 × Int32 × Int32) => []) (fun rec13 hrec13 σ x => ?_)
  obtain ⟨l1, l2, l3, l4, l5, l6⟩ := x
  show zKO E 8 Z (zMQ E Z (zQI Z)) 13 [(0, .ref (zad Z 11 0)), (1, .ref (zad Z 180 l1)), (2, .int l2), (3, .int l3), (4, .int l4), (5, .int l5), (6, .int l6)] [] σ (zg (decide (l1 < 28)) (zb (f_J0_length_8abf5 F σ l1) fun r16 m16 => if r16 ≤ l6 then (some ((-1), (zwi m16 11 0 4 (((m16.1 11 0 4) + l4))))) else (zb (f_J0_charAt_5068e F m16 l1 l6) fun r25 m25 => if r25 = 32 then (if l5 = 0 then (rec13 m25 ((l1, (l2 + 1), 0, l4, 1, (l6 + 1)))) else (some (l2, (zwi m25 11 0 4 (((m25.1 11 0 4) + l3)))))) else (if l5 = 0 then (rec13 m25 ((l1, l2, l3, l4, l5, (l6 + 1)))) else (if (m25.1 11 0 3) ≤ ((m25.1 11 0 4) + l3) then (f_X9_readName_104 F rec13 m25 l1 l2 l3 l4 l6 0) else (zg (inb (((m25.1 11 0 4) + l3)) 100) (if (m25.1 19 0 (((m25.1 11 0 4) + l3)).toNatClampNeg) = r25 then (f_X9_readName_104 F rec13 m25 l1 l2 l3 l4 l6 1) else (f_X9_readName_104 F rec13 m25 l1 l2 l3 l4 l6 0))))))))
  refine zr_g (fun hl1 => ?_)
  refine zr_iload C dX9_readName_13 rfl ?_
  refine zr_aload_n C dX9_readName_15 rfl ?_
  refine zk_X9_117 C F (of_decide_eq_true hl1) (Nat.le_trans (by decide) hh) (by simp [Value.category]) dX9_readName_16 (fun r16 m16 => ?_)
  refine zr_icmp_ge (tgt := 128) C dX9_readName_19 (by decide) ?_ ?_
  · refine zr_aload_n C dX9_readName_128 rfl ?_
    refine zr_dup C dX9_readName_129 rfl ?_
    refine zf_X9_47 C (Nat.le_of_ble_eq_true rfl) dX9_readName_130 ?_
    refine zr_iload C dX9_readName_133 rfl ?_
    refine zr_iadd C dX9_readName_135 ?_
    refine zp_X9_47 C (Nat.le_of_ble_eq_true rfl) dX9_readName_136 ?_
    refine zr_iconst (v := -1) C dX9_readName_139 rfl ?_
    exact zr_iret C dX9_readName_140
  · refine zr_aload_n C dX9_readName_22 rfl ?_
    refine zr_iload C dX9_readName_23 rfl ?_
    refine zk_X9_121 C F (of_decide_eq_true hl1) (Nat.le_trans (by decide) hh) (by simp [Value.category]) dX9_readName_25 (fun r25 m25 => ?_)
    refine zr_istore (i := 7) (L1 := [(7, .int _), (0, .ref _), (1, .ref _), (2, .int _), (3, .int _), (4, .int _), (5, .int _), (6, .int _)]) C dX9_readName_28 (by decide) rfl ?_
    refine zr_iload C dX9_readName_30 rfl ?_
    refine zr_bipush (v := 32) C dX9_readName_32 rfl ?_
    refine zr_icmp_ne (tgt := 65) C dX9_readName_34 (by decide) ?_ ?_
    · refine zr_iload C dX9_readName_65 rfl ?_
      refine zr_if_eq (tgt := 122) C dX9_readName_67 (by decide) ?_ ?_
      · refine zr_iinc (kk := 7) (v := (l6 + 1)) (L1 := [(6, .int _), (7, .int _), (0, .ref _), (1, .ref _), (2, .int _), (3, .int _), (4, .int _), (5, .int _)]) C dX9_readName_122 rfl rfl (by decide) rfl ?_
        refine zr_goto (tgt := 13) C dX9_readName_125 (by decide) ?_
        exact zr_sub [2, 3, 4, 5, 6, 7, 0] rfl (hrec13 m25 ((l1, l2, l3, l4, l5, (l6 + 1))))
      · refine zr_aload_n C dX9_readName_70 rfl ?_
        refine zf_X9_47 C (Nat.le_of_ble_eq_true rfl) dX9_readName_71 ?_
        refine zr_iload_n C dX9_readName_74 rfl ?_
        refine zr_iadd C dX9_readName_75 ?_
        refine zr_aload_n C dX9_readName_76 rfl ?_
        refine zf_X9_26 C (Nat.le_of_ble_eq_true rfl) dX9_readName_77 ?_
        refine zr_icmp_ge (tgt := 103) C dX9_readName_80 (by decide) ?_ ?_
        · refine zr_iconst (v := 0) C dX9_readName_103 rfl ?_
          exact zr_sub [1, 2, 3, 4, 5, 7] rfl (c_X9_readName_104 F rec13 C hh hrec13 m25 l1 l2 l3 l4 l6 0)
        · refine zr_aload_n C dX9_readName_83 rfl ?_
          refine zf_X9_17 C (Nat.le_of_ble_eq_true rfl) dX9_readName_84 ?_
          refine zr_aload_n C dX9_readName_87 rfl ?_
          refine zf_X9_47 C (Nat.le_of_ble_eq_true rfl) dX9_readName_88 ?_
          refine zr_iload_n C dX9_readName_91 rfl ?_
          refine zr_iadd C dX9_readName_92 ?_
          refine zr_bald (n := 100) C dX9_readName_93 (Nat.le_of_ble_eq_true rfl) rfl ?_
          refine zr_iload C dX9_readName_94 rfl ?_
          refine zr_icmp_ne (tgt := 103) C dX9_readName_96 (by decide) ?_ ?_
          · refine zr_iconst (v := 0) C dX9_readName_103 rfl ?_
            exact zr_sub [1, 2, 3, 4, 5, 7] rfl (c_X9_readName_104 F rec13 C hh hrec13 m25 l1 l2 l3 l4 l6 0)
          · refine zr_iconst (v := 1) C dX9_readName_99 rfl ?_
            refine zr_goto (tgt := 104) C dX9_readName_100 (by decide) ?_
            exact zr_sub [1, 2, 3, 4, 5, 7] rfl (c_X9_readName_104 F rec13 C hh hrec13 m25 l1 l2 l3 l4 l6 1)
    · refine zr_iload C dX9_readName_37 rfl ?_
      refine zr_if_eq (tgt := 54) C dX9_readName_39 (by decide) ?_ ?_
      · refine zr_iinc (kk := 3) (v := (l2 + 1)) (L1 := [(2, .int _), (7, .int _), (0, .ref _), (1, .ref _), (3, .int _), (4, .int _), (5, .int _), (6, .int _)]) C dX9_readName_54 rfl rfl (by decide) rfl ?_
        refine zr_iconst (v := 0) C dX9_readName_57 rfl ?_
        refine zr_istore_n (i := 3) (L1 := [(3, .int _), (2, .int _), (7, .int _), (0, .ref _), (1, .ref _), (4, .int _), (5, .int _), (6, .int _)]) C dX9_readName_58 rfl (by decide) rfl ?_
        refine zr_iconst (v := 1) C dX9_readName_59 rfl ?_
        refine zr_istore (i := 5) (L1 := [(5, .int _), (3, .int _), (2, .int _), (7, .int _), (0, .ref _), (1, .ref _), (4, .int _), (6, .int _)]) C dX9_readName_60 (by decide) rfl ?_
        refine zr_goto (tgt := 122) C dX9_readName_62 (by decide) ?_
        refine zr_iinc (kk := 7) (v := (l6 + 1)) (L1 := [(6, .int _), (5, .int _), (3, .int _), (2, .int _), (7, .int _), (0, .ref _), (1, .ref _), (4, .int _)]) C dX9_readName_122 rfl rfl (by decide) rfl ?_
        refine zr_goto (tgt := 13) C dX9_readName_125 (by decide) ?_
        exact zr_sub [5, 6, 3, 2, 7, 1, 0] rfl (hrec13 m25 ((l1, (l2 + 1), 0, l4, 1, (l6 + 1))))
      · refine zr_aload_n C dX9_readName_42 rfl ?_
        refine zr_dup C dX9_readName_43 rfl ?_
        refine zf_X9_47 C (Nat.le_of_ble_eq_true rfl) dX9_readName_44 ?_
        refine zr_iload_n C dX9_readName_47 rfl ?_
        refine zr_iadd C dX9_readName_48 ?_
        refine zp_X9_47 C (Nat.le_of_ble_eq_true rfl) dX9_readName_49 ?_
        refine zr_iload_n C dX9_readName_52 rfl ?_
        exact zr_iret C dX9_readName_53
def f_X9_readName (F : Nat) (σ : zMem) (a1 : Nat) : Option (Int32 × zMem) := zg (decide (a1 < 28)) (zit (f_X9_readName_13 F) F σ ((a1, 0, 0, 0, 1, 0)))
set_option maxHeartbeats 4000000 in
set_option maxRecDepth 100000 in
theorem c_X9_readName (l : Launch) (Z : zLay) (F : Nat) (σ : zMem) (a1 : Nat) (r : Int32) (σ1 : zMem) (ho : f_X9_readName F σ a1 = some (r, σ1)) : zMet l yX9_readName cX9_readName 8 (some .int) 5 Z [.ref (zad Z 11 0), .ref (zad Z 180 a1)] σ (zQI Z r σ1) := by
  refine zMet_of (Qc := zQI Z) (by decide) (Nat.le_of_ble_eq_true rfl) [(0, .ref (zad Z 11 0)), (1, .ref (zad Z 180 a1))] rfl (fun E C => ?_) ho
  have hh : 5 ≤ 5 := Nat.le_refl _
  show zKO E 8 Z (zMQ E Z (zQI Z)) 0 [(0, .ref (zad Z 11 0)), (1, .ref (zad Z 180 a1))] [] σ _
  unfold f_X9_readName
  refine zr_g (fun ha1 => ?_)
  refine zr_iconst (v := 0) C dX9_readName_0 rfl ?_
  refine zr_istore_n (i := 2) (L1 := [(2, .int _), (0, .ref _), (1, .ref _)]) C dX9_readName_1 rfl (by decide) rfl ?_
  refine zr_iconst (v := 0) C dX9_readName_2 rfl ?_
  refine zr_istore_n (i := 3) (L1 := [(3, .int _), (2, .int _), (0, .ref _), (1, .ref _)]) C dX9_readName_3 rfl (by decide) rfl ?_
  refine zr_iconst (v := 0) C dX9_readName_4 rfl ?_
  refine zr_istore (i := 4) (L1 := [(4, .int _), (3, .int _), (2, .int _), (0, .ref _), (1, .ref _)]) C dX9_readName_5 (by decide) rfl ?_
  refine zr_iconst (v := 1) C dX9_readName_7 rfl ?_
  refine zr_istore (i := 5) (L1 := [(5, .int _), (4, .int _), (3, .int _), (2, .int _), (0, .ref _), (1, .ref _)]) C dX9_readName_8 (by decide) rfl ?_
  refine zr_iconst (v := 0) C dX9_readName_10 rfl ?_
  refine zr_istore (i := 6) (L1 := [(6, .int _), (5, .int _), (4, .int _), (3, .int _), (2, .int _), (0, .ref _), (1, .ref _)]) C dX9_readName_11 (by decide) rfl ?_
  exact zr_sub [5, 6, 4, 3, 2, 1, 0] rfl (c_X9_readName_13 F C hh F σ ((a1, 0, 0, 0, 1, 0)))
theorem zk_X9_63 (C : zCx E cc RX9 nL ret Z h) (F : Nat) {b0 : Nat} (hk : 0 < zN 11) (hh : 5 + 1 ≤ h) (hst8 : (st.map fun v => v.category).sum ≤ 8) (hd : decode cc pc = .ok (.invokevirtual 63, 3)) {g : Int32 → zMem → Option (α × zMem)} (kk : ∀ (r : Int32) (σ1 : zMem), zKO E nL Z QQ (pc + 3) L (.int r :: st) σ1 (g r σ1)) : zKO E nL Z QQ pc L (.ref (zad Z 180 b0) :: .ref (zad Z 11 0) :: st) σ (zb (f_X9_readName F σ b0) g) :=
  zr_callVI (As := [.ref (zad Z 180 b0)]) (ia := 1) C (fun r σ1 ho => c_X9_readName (zla E) Z F σ b0 r σ1 ho) wz_553 hk rfl rfl wz_p15 wz_555 wz_556 wz_3 (by decide +kernel) rfl (by decide) hh hd hst8 kk
def f_X9_readBlank (F : Nat) (σ : zMem) : Option (Int32 × zMem) := if (σ.1 11 0 3) ≤ (σ.1 11 0 4) then (some (0, σ)) else (zg (inb ((σ.1 11 0 4)) 100) (if (σ.1 19 0 ((σ.1 11 0 4)).toNatClampNeg) = 32 then (some (1, (zwi σ 11 0 4 (((σ.1 11 0 4) + 1))))) else (some (0, σ))))
set_option maxHeartbeats 4000000 in
set_option maxRecDepth 100000 in
theorem c_X9_readBlank (l : Launch) (Z : zLay) (F : Nat) (σ : zMem) (r : Int32) (σ1 : zMem) (ho : f_X9_readBlank F σ = some (r, σ1)) : zMet l yX9_readBlank cX9_readBlank 1 (some .boolean) 1 Z [.ref (zad Z 11 0)] σ (zQI Z r σ1) := by
  refine zMet_of (Qc := zQI Z) (by decide) (Nat.le_of_ble_eq_true rfl) [(0, .ref (zad Z 11 0))] rfl (fun E C => ?_) ho
  have hh : 1 ≤ 1 := Nat.le_refl _
  show zKO E 1 Z (zMQ E Z (zQI Z)) 0 [(0, .ref (zad Z 11 0))] [] σ _
  unfold f_X9_readBlank
  refine zr_aload_n C dX9_readBlank_0 rfl ?_
  refine zf_X9_47 C (Nat.le_of_ble_eq_true rfl) dX9_readBlank_1 ?_
  refine zr_aload_n C dX9_readBlank_4 rfl ?_
  refine zf_X9_26 C (Nat.le_of_ble_eq_true rfl) dX9_readBlank_5 ?_
  refine zr_icmp_ge (tgt := 25) C dX9_readBlank_8 (by decide) ?_ ?_
  · refine zr_iconst (v := 0) C dX9_readBlank_25 rfl ?_
    exact zr_zret C dX9_readBlank_26 rfl
  · refine zr_aload_n C dX9_readBlank_11 rfl ?_
    refine zf_X9_17 C (Nat.le_of_ble_eq_true rfl) dX9_readBlank_12 ?_
    refine zr_aload_n C dX9_readBlank_15 rfl ?_
    refine zf_X9_47 C (Nat.le_of_ble_eq_true rfl) dX9_readBlank_16 ?_
    refine zr_bald (n := 100) C dX9_readBlank_19 (Nat.le_of_ble_eq_true rfl) rfl ?_
    refine zr_bipush (v := 32) C dX9_readBlank_20 rfl ?_
    refine zr_icmp_eq (tgt := 27) C dX9_readBlank_22 (by decide) ?_ ?_
    · refine zr_aload_n C dX9_readBlank_27 rfl ?_
      refine zr_dup C dX9_readBlank_28 rfl ?_
      refine zf_X9_47 C (Nat.le_of_ble_eq_true rfl) dX9_readBlank_29 ?_
      refine zr_iconst (v := 1) C dX9_readBlank_32 rfl ?_
      refine zr_iadd C dX9_readBlank_33 ?_
      refine zp_X9_47 C (Nat.le_of_ble_eq_true rfl) dX9_readBlank_34 ?_
      refine zr_iconst (v := 1) C dX9_readBlank_37 rfl ?_
      exact zr_zret C dX9_readBlank_38 rfl
    · refine zr_iconst (v := 0) C dX9_readBlank_25 rfl ?_
      exact zr_zret C dX9_readBlank_26 rfl
theorem zk_X9_70 (C : zCx E cc RX9 nL ret Z h) (F : Nat)  (hk : 0 < zN 11) (hh : 1 + 1 ≤ h) (hst8 : (st.map fun v => v.category).sum ≤ 8) (hd : decode cc pc = .ok (.invokevirtual 70, 3)) {g : Int32 → zMem → Option (α × zMem)} (kk : ∀ (r : Int32) (σ1 : zMem), zKO E nL Z QQ (pc + 3) L (.int r :: st) σ1 (g r σ1)) : zKO E nL Z QQ pc L (.ref (zad Z 11 0) :: st) σ (zb (f_X9_readBlank F σ) g) :=
  zr_callVI (As := []) (ia := 0) C (fun r σ1 ho => c_X9_readBlank (zla E) Z F σ r σ1 ho) wz_608 hk rfl rfl wz_p16 wz_610 wz_611 wz_3 (by decide +kernel) rfl (by decide) hh hd hst8 kk
def f_X9_readNumber_4 (F : Nat) (rec4 : zMem → Int32 × Int32 → Option (Int32 × zMem)) (σ : zMem) (x : Int32 × Int32) : Option (Int32 × zMem) := if 5 ≤ x.2 then (some (x.1, σ)) else (if (σ.1 11 0 3) ≤ (σ.1 11 0 4) then (some (x.1, σ)) else (zg (inb ((σ.1 11 0 4)) 100) (if ((σ.1 19 0 ((σ.1 11 0 4)).toNatClampNeg) - 48) < 0 then (some (x.1, σ)) else (if ((σ.1 19 0 ((σ.1 11 0 4)).toNatClampNeg) - 48) ≤ 9 then (rec4 (zwi σ 11 0 4 (((σ.1 11 0 4) + 1))) (((((zmax x.1 0) * 10) + ((σ.1 19 0 ((σ.1 11 0 4)).toNatClampNeg) - 48)), (x.2 + 1)))) else (some (x.1, σ))))))
set_option maxHeartbeats 4000000 in
set_option maxRecDepth 100000 in
theorem c_X9_readNumber_4 (F : Nat) {E : zEn} {h : Nat} {Z : zLay} (C : zCx E cX9_readNumber RX9 4 (some .int) Z h) (hh : 1 ≤ h) : ∀ (n : Nat) (σ : zMem) (x : Int32 × Int32), zKO E 4 Z (zMQ E Z (zQI Z)) 4 [(0, .ref (zad Z 11 0)), (1, .int x.1), (2, .int x.2)] [] σ (zit (f_X9_readNumber_4 F) n σ x) := by
  refine zr_loop (LL := fun (x : Int32 × Int32) => [(0, .ref (zad Z 11 0)), (1, .int x.1), (2, .int x.2)]) (ST := fun (x : Int32 × Int32) => []) (fun rec4 hrec4 σ x => ?_)
  obtain ⟨l1, l2⟩ := x
  show zKO E 4 Z (zMQ E Z (zQI Z)) 4 [(0, .ref (zad Z 11 0)), (1, .int l1), (2, .int l2)] [] σ (if 5 ≤ l2 then (some (l1, σ)) else (if (σ.1 11 0 3) ≤ (σ.1 11 0 4) then (some (l1, σ)) else (zg (inb ((σ.1 11 0 4)) 100) (if ((σ.1 19 0 ((σ.1 11 0 4)).toNatClampNeg) - 48) < 0 then (some (l1, σ)) else (if ((σ.1 19 0 ((σ.1 11 0 4)).toNatClampNeg) - 48) ≤ 9 then (rec4 (zwi σ 11 0 4 (((σ.1 11 0 4) + 1))) (((((zmax l1 0) * 10) + ((σ.1 19 0 ((σ.1 11 0 4)).toNatClampNeg) - 48)), (l2 + 1)))) else (some (l1, σ)))))))
  refine zr_iload_n C dX9_readNumber_4 rfl ?_
  refine zr_iconst (v := 5) C dX9_readNumber_5 rfl ?_
  refine zr_icmp_ge (tgt := 72) C dX9_readNumber_6 (by decide) ?_ ?_
  · refine zr_iload_n C dX9_readNumber_72 rfl ?_
    exact zr_iret C dX9_readNumber_73
  · refine zr_aload_n C dX9_readNumber_9 rfl ?_
    refine zf_X9_47 C (Nat.le_of_ble_eq_true rfl) dX9_readNumber_10 ?_
    refine zr_aload_n C dX9_readNumber_13 rfl ?_
    refine zf_X9_26 C (Nat.le_of_ble_eq_true rfl) dX9_readNumber_14 ?_
    refine zr_icmp_ge (tgt := 72) C dX9_readNumber_17 (by decide) ?_ ?_
    · refine zr_iload_n C dX9_readNumber_72 rfl ?_
      exact zr_iret C dX9_readNumber_73
    · refine zr_aload_n C dX9_readNumber_20 rfl ?_
      refine zf_X9_17 C (Nat.le_of_ble_eq_true rfl) dX9_readNumber_21 ?_
      refine zr_aload_n C dX9_readNumber_24 rfl ?_
      refine zf_X9_47 C (Nat.le_of_ble_eq_true rfl) dX9_readNumber_25 ?_
      refine zr_bald (n := 100) C dX9_readNumber_28 (Nat.le_of_ble_eq_true rfl) rfl ?_
      refine zr_bipush (v := 48) C dX9_readNumber_29 rfl ?_
      refine zr_isub C dX9_readNumber_31 ?_
      refine zr_istore_n (i := 3) (L1 := [(3, .int _), (0, .ref _), (1, .int _), (2, .int _)]) C dX9_readNumber_32 rfl (by decide) rfl ?_
      refine zr_iload_n C dX9_readNumber_33 rfl ?_
      refine zr_if_lt (tgt := 43) C dX9_readNumber_34 (by decide) ?_ ?_
      · refine zr_iload_n C dX9_readNumber_43 rfl ?_
        exact zr_iret C dX9_readNumber_44
      · refine zr_iload_n C dX9_readNumber_37 rfl ?_
        refine zr_bipush (v := 9) C dX9_readNumber_38 rfl ?_
        refine zr_icmp_le (tgt := 45) C dX9_readNumber_40 (by decide) ?_ ?_
        · refine zr_iload_n C dX9_readNumber_45 rfl ?_
          refine zr_iconst (v := 0) C dX9_readNumber_46 rfl ?_
          refine zr_mmax C wz_605 wz_606 wz_17 wz_607 (Nat.le_trans (by decide) hh) (by simp [Value.category]) dX9_readNumber_47 ?_
          refine zr_bipush (v := 10) C dX9_readNumber_50 rfl ?_
          refine zr_imul C dX9_readNumber_52 ?_
          refine zr_iload_n C dX9_readNumber_53 rfl ?_
          refine zr_iadd C dX9_readNumber_54 ?_
          refine zr_istore_n (i := 1) (L1 := [(1, .int _), (3, .int _), (0, .ref _), (2, .int _)]) C dX9_readNumber_55 rfl (by decide) rfl ?_
          refine zr_aload_n C dX9_readNumber_56 rfl ?_
          refine zr_dup C dX9_readNumber_57 rfl ?_
          refine zf_X9_47 C (Nat.le_of_ble_eq_true rfl) dX9_readNumber_58 ?_
          refine zr_iconst (v := 1) C dX9_readNumber_61 rfl ?_
          refine zr_iadd C dX9_readNumber_62 ?_
          refine zp_X9_47 C (Nat.le_of_ble_eq_true rfl) dX9_readNumber_63 ?_
          refine zr_iinc (kk := 3) (v := (l2 + 1)) (L1 := [(2, .int _), (1, .int _), (3, .int _), (0, .ref _)]) C dX9_readNumber_66 rfl rfl (by decide) rfl ?_
          refine zr_goto (tgt := 4) C dX9_readNumber_69 (by decide) ?_
          exact zr_sub [3, 1, 0] rfl (hrec4 (zwi σ 11 0 4 (((σ.1 11 0 4) + 1))) (((((zmax l1 0) * 10) + ((σ.1 19 0 ((σ.1 11 0 4)).toNatClampNeg) - 48)), (l2 + 1))))
        · refine zr_iload_n C dX9_readNumber_43 rfl ?_
          exact zr_iret C dX9_readNumber_44
def f_X9_readNumber (F : Nat) (σ : zMem) : Option (Int32 × zMem) := zit (f_X9_readNumber_4 F) F σ (((-1), 0))
set_option maxHeartbeats 4000000 in
set_option maxRecDepth 100000 in
theorem c_X9_readNumber (l : Launch) (Z : zLay) (F : Nat) (σ : zMem) (r : Int32) (σ1 : zMem) (ho : f_X9_readNumber F σ = some (r, σ1)) : zMet l yX9_readNumber cX9_readNumber 4 (some .int) 1 Z [.ref (zad Z 11 0)] σ (zQI Z r σ1) := by
  refine zMet_of (Qc := zQI Z) (by decide) (Nat.le_of_ble_eq_true rfl) [(0, .ref (zad Z 11 0))] rfl (fun E C => ?_) ho
  have hh : 1 ≤ 1 := Nat.le_refl _
  show zKO E 4 Z (zMQ E Z (zQI Z)) 0 [(0, .ref (zad Z 11 0))] [] σ _
  unfold f_X9_readNumber
  refine zr_iconst (v := -1) C dX9_readNumber_0 rfl ?_
  refine zr_istore_n (i := 1) (L1 := [(1, .int _), (0, .ref _)]) C dX9_readNumber_1 rfl (by decide) rfl ?_
  refine zr_iconst (v := 0) C dX9_readNumber_2 rfl ?_
  refine zr_istore_n (i := 2) (L1 := [(2, .int _), (1, .int _), (0, .ref _)]) C dX9_readNumber_3 rfl (by decide) rfl ?_
  exact zr_sub [2, 1, 0] rfl (c_X9_readNumber_4 F C hh F σ (((-1), 0)))
theorem zk_X9_74 (C : zCx E cc RX9 nL ret Z h) (F : Nat)  (hk : 0 < zN 11) (hh : 1 + 1 ≤ h) (hst8 : (st.map fun v => v.category).sum ≤ 8) (hd : decode cc pc = .ok (.invokevirtual 74, 3)) {g : Int32 → zMem → Option (α × zMem)} (kk : ∀ (r : Int32) (σ1 : zMem), zKO E nL Z QQ (pc + 3) L (.int r :: st) σ1 (g r σ1)) : zKO E nL Z QQ pc L (.ref (zad Z 11 0) :: st) σ (zb (f_X9_readNumber F σ) g) :=
  zr_callVI (As := []) (ia := 0) C (fun r σ1 ho => c_X9_readNumber (zla E) Z F σ r σ1 ho) wz_612 hk rfl rfl wz_p17 wz_614 wz_615 wz_3 (by decide +kernel) rfl (by decide) hh hd hst8 kk
def f_X9_readTest_48 (F : Nat) (σ : zMem) (l1 : Nat) (l2 : Int32) (l3 : Int32) : Option (Int32 × zMem) := zg (decide (l1 < 40)) (if 0 ≤ l3 then (zg (inb l2 4) (zb (f_X9_readName F (zwi σ 14 l1 l2.toNatClampNeg l3) 4) fun r69 m69 => zg (inb l2 4) (zg (inb l2 4) (if 0 ≤ ((zwi m69 15 l1 l2.toNatClampNeg r69).1 15 l1 l2.toNatClampNeg) then (zb (f_X9_readNumber F (zwi m69 15 l1 l2.toNatClampNeg r69)) fun r90 m90 => zg (inb l2 4) (zg (inb l2 4) (if ((zwi m90 16 l1 l2.toNatClampNeg r90).1 16 l1 l2.toNatClampNeg) < 0 then (some (0, (zwi m90 16 l1 l2.toNatClampNeg r90))) else (some (1, (zwi m90 16 l1 l2.toNatClampNeg r90)))))) else (some (0, (zwi m69 15 l1 l2.toNatClampNeg r69))))))) else (some (0, σ)))
set_option maxHeartbeats 4000000 in
set_option maxRecDepth 100000 in
theorem c_X9_readTest_48 (F : Nat) {E : zEn} {h : Nat} {Z : zLay} (C : zCx E cX9_readTest RX9 4 (some .boolean) Z h) (hh : 6 ≤ h) (σ : zMem) (l1 : Nat) (l2 : Int32) (l3 : Int32) : zKO E 4 Z (zMQ E Z (zQI Z)) 48 [(0, .ref (zad Z 11 0)), (1, .ref (zad Z 13 l1)), (2, .int l2), (3, .int l3)] [] σ (f_X9_readTest_48 F σ l1 l2 l3) := by
  unfold f_X9_readTest_48
  refine zr_g (fun hl1 => ?_)
  refine zr_iload_n C dX9_readTest_48 rfl ?_
  refine zr_if_ge (tgt := 54) C dX9_readTest_49 (by decide) ?_ ?_
  · refine zr_aload_n C dX9_readTest_54 rfl ?_
    refine zf_X9_100 C (of_decide_eq_true hl1) dX9_readTest_55 ?_
    refine zr_iload_n C dX9_readTest_58 rfl ?_
    refine zr_iload_n C dX9_readTest_59 rfl ?_
    refine zr_iast (n := 4) C dX9_readTest_60 (of_decide_eq_true hl1) (fun _ _ => rfl) ?_
    refine zr_aload_n C dX9_readTest_61 rfl ?_
    refine zf_X9_103 C (of_decide_eq_true hl1) dX9_readTest_62 ?_
    refine zr_iload_n C dX9_readTest_65 rfl ?_
    refine zr_aload_n C dX9_readTest_66 rfl ?_
    refine zr_lds (own := RX9) (tx := "< = > ") (j := 4) C (by decide +kernel) dX9_readTest_67 ?_
    refine zk_X9_63 C F (Nat.le_of_ble_eq_true rfl) (Nat.le_trans (by decide) hh) (by simp [Value.category]) dX9_readTest_69 (fun r69 m69 => ?_)
    refine zr_iast (n := 4) C dX9_readTest_72 (of_decide_eq_true hl1) (fun _ _ => rfl) ?_
    refine zr_aload_n C dX9_readTest_73 rfl ?_
    refine zf_X9_103 C (of_decide_eq_true hl1) dX9_readTest_74 ?_
    refine zr_iload_n C dX9_readTest_77 rfl ?_
    refine zr_iald (n := 4) C dX9_readTest_78 (of_decide_eq_true hl1) rfl ?_
    refine zr_if_ge (tgt := 84) C dX9_readTest_79 (by decide) ?_ ?_
    · refine zr_aload_n C dX9_readTest_84 rfl ?_
      refine zf_X9_108 C (of_decide_eq_true hl1) dX9_readTest_85 ?_
      refine zr_iload_n C dX9_readTest_88 rfl ?_
      refine zr_aload_n C dX9_readTest_89 rfl ?_
      refine zk_X9_74 C F (Nat.le_of_ble_eq_true rfl) (Nat.le_trans (by decide) hh) (by simp [Value.category]) dX9_readTest_90 (fun r90 m90 => ?_)
      refine zr_iast (n := 4) C dX9_readTest_93 (of_decide_eq_true hl1) (fun _ _ => rfl) ?_
      refine zr_aload_n C dX9_readTest_94 rfl ?_
      refine zf_X9_108 C (of_decide_eq_true hl1) dX9_readTest_95 ?_
      refine zr_iload_n C dX9_readTest_98 rfl ?_
      refine zr_iald (n := 4) C dX9_readTest_99 (of_decide_eq_true hl1) rfl ?_
      refine zr_if_lt (tgt := 107) C dX9_readTest_100 (by decide) ?_ ?_
      · refine zr_iconst (v := 0) C dX9_readTest_107 rfl ?_
        exact zr_zret C dX9_readTest_108 rfl
      · refine zr_iconst (v := 1) C dX9_readTest_103 rfl ?_
        refine zr_goto (tgt := 108) C dX9_readTest_104 (by decide) ?_
        exact zr_zret C dX9_readTest_108 rfl
    · refine zr_iconst (v := 0) C dX9_readTest_82 rfl ?_
      exact zr_zret C dX9_readTest_83 rfl
  · refine zr_iconst (v := 0) C dX9_readTest_52 rfl ?_
    exact zr_zret C dX9_readTest_53 rfl
def f_X9_readTest_23 (F : Nat) (σ : zMem) (l1 : Nat) (l2 : Int32) (l3 : Int32) (s0 : Int32) (s1 : Int32) (s2 : Nat) : Option (Int32 × zMem) := zg (decide (l1 < 40)) (zg (decide (s2 < 40)) (zg (zbo s0 && inb s1 4) (if l3 = 6 then (zb (f_X9_readBlank F (zwi σ 17 s2 s1.toNatClampNeg s0)) fun r31 m31 => if r31 = 0 then (f_X9_readTest_48 F m31 l1 l2 ((-1))) else (zb (f_X9_readName F m31 3) fun r40 m40 => f_X9_readTest_48 F m40 l1 l2 r40)) else (f_X9_readTest_48 F (zwi σ 17 s2 s1.toNatClampNeg s0) l1 l2 l3))))
set_option maxHeartbeats 4000000 in
set_option maxRecDepth 100000 in
theorem c_X9_readTest_23 (F : Nat) {E : zEn} {h : Nat} {Z : zLay} (C : zCx E cX9_readTest RX9 4 (some .boolean) Z h) (hh : 6 ≤ h) (σ : zMem) (l1 : Nat) (l2 : Int32) (l3 : Int32) (s0 : Int32) (s1 : Int32) (s2 : Nat) : zKO E 4 Z (zMQ E Z (zQI Z)) 23 [(0, .ref (zad Z 11 0)), (1, .ref (zad Z 13 l1)), (2, .int l2), (3, .int l3)] [.int s0, .int s1, .ref (zad Z 17 s2)] σ (f_X9_readTest_23 F σ l1 l2 l3 s0 s1 s2) := by
  unfold f_X9_readTest_23
  refine zr_g (fun hl1 => ?_)
  refine zr_g (fun hs2 => ?_)
  refine zr_zast (n := 4) C dX9_readTest_23 (of_decide_eq_true hs2) (fun _ _ => rfl) ?_
  refine zr_iload_n C dX9_readTest_24 rfl ?_
  refine zr_bipush (v := 6) C dX9_readTest_25 rfl ?_
  refine zr_icmp_ne (tgt := 48) C dX9_readTest_27 (by decide) ?_ ?_
  · exact zr_sub [0, 1, 2, 3] rfl (c_X9_readTest_48 F C hh (zwi σ 17 s2 s1.toNatClampNeg s0) l1 l2 l3)
  · refine zr_aload_n C dX9_readTest_30 rfl ?_
    refine zk_X9_70 C F (Nat.le_of_ble_eq_true rfl) (Nat.le_trans (by decide) hh) (by simp [Value.category]) dX9_readTest_31 (fun r31 m31 => ?_)
    refine zr_if_eq (tgt := 46) C dX9_readTest_34 (by decide) ?_ ?_
    · refine zr_iconst (v := -1) C dX9_readTest_46 rfl ?_
      refine zr_istore_n (i := 3) (L1 := [(3, .int _), (0, .ref _), (1, .ref _), (2, .int _)]) C dX9_readTest_47 rfl (by decide) rfl ?_
      exact zr_sub [1, 2, 3, 0] rfl (c_X9_readTest_48 F C hh m31 l1 l2 ((-1)))
    · refine zr_aload_n C dX9_readTest_37 rfl ?_
      refine zr_lds (own := RX9) (tx := "cows hay heads hearths year season ") (j := 3) C (by decide +kernel) dX9_readTest_38 ?_
      refine zk_X9_63 C F (Nat.le_of_ble_eq_true rfl) (Nat.le_trans (by decide) hh) (by simp [Value.category]) dX9_readTest_40 (fun r40 m40 => ?_)
      refine zr_goto (tgt := 47) C dX9_readTest_43 (by decide) ?_
      refine zr_istore_n (i := 3) (L1 := [(3, .int _), (0, .ref _), (1, .ref _), (2, .int _)]) C dX9_readTest_47 rfl (by decide) rfl ?_
      exact zr_sub [1, 2, 3, 0] rfl (c_X9_readTest_48 F C hh m40 l1 l2 r40)
def f_X9_readTest (F : Nat) (σ : zMem) (a1 : Nat) (a2 : Int32) : Option (Int32 × zMem) := zg (decide (a1 < 40)) (zb (f_X9_readName F σ 2) fun r3 m3 => if r3 = 6 then (f_X9_readTest_23 F m3 a1 a2 r3 1 a2 a1) else (f_X9_readTest_23 F m3 a1 a2 r3 0 a2 a1))
set_option maxHeartbeats 4000000 in
set_option maxRecDepth 100000 in
theorem c_X9_readTest (l : Launch) (Z : zLay) (F : Nat) (σ : zMem) (a1 : Nat) (a2 : Int32) (r : Int32) (σ1 : zMem) (ho : f_X9_readTest F σ a1 a2 = some (r, σ1)) : zMet l yX9_readTest cX9_readTest 4 (some .boolean) 6 Z [.ref (zad Z 11 0), .ref (zad Z 13 a1), .int (a2)] σ (zQI Z r σ1) := by
  refine zMet_of (Qc := zQI Z) (by decide) (Nat.le_of_ble_eq_true rfl) [(0, .ref (zad Z 11 0)), (1, .ref (zad Z 13 a1)), (2, .int (a2))] rfl (fun E C => ?_) ho
  have hh : 6 ≤ 6 := Nat.le_refl _
  show zKO E 4 Z (zMQ E Z (zQI Z)) 0 [(0, .ref (zad Z 11 0)), (1, .ref (zad Z 13 a1)), (2, .int (a2))] [] σ _
  unfold f_X9_readTest
  refine zr_g (fun ha1 => ?_)
  refine zr_aload_n C dX9_readTest_0 rfl ?_
  refine zr_lds (own := RX9) (tx := "cows hay heads hearths year season not ") (j := 2) C (by decide +kernel) dX9_readTest_1 ?_
  refine zk_X9_63 C F (Nat.le_of_ble_eq_true rfl) (Nat.le_trans (by decide) hh) (by simp [Value.category]) dX9_readTest_3 (fun r3 m3 => ?_)
  refine zr_istore_n (i := 3) (L1 := [(3, .int _), (0, .ref _), (1, .ref _), (2, .int _)]) C dX9_readTest_6 rfl (by decide) rfl ?_
  refine zr_aload_n C dX9_readTest_7 rfl ?_
  refine zf_X9_95 C (of_decide_eq_true ha1) dX9_readTest_8 ?_
  refine zr_iload_n C dX9_readTest_11 rfl ?_
  refine zr_iload_n C dX9_readTest_12 rfl ?_
  refine zr_bipush (v := 6) C dX9_readTest_13 rfl ?_
  refine zr_icmp_ne (tgt := 22) C dX9_readTest_15 (by decide) ?_ ?_
  · refine zr_iconst (v := 0) C dX9_readTest_22 rfl ?_
    exact zr_sub [1, 2, 3, 0] rfl (c_X9_readTest_23 F C hh m3 a1 a2 r3 0 a2 a1)
  · refine zr_iconst (v := 1) C dX9_readTest_18 rfl ?_
    refine zr_goto (tgt := 23) C dX9_readTest_19 (by decide) ?_
    exact zr_sub [1, 2, 3, 0] rfl (c_X9_readTest_23 F C hh m3 a1 a2 r3 1 a2 a1)
theorem zk_X9_87 (C : zCx E cc RX9 nL ret Z h) (F : Nat) {b0 : Nat} {b1 : Int32} (hk : 0 < zN 11) (hh : 6 + 1 ≤ h) (hst8 : (st.map fun v => v.category).sum ≤ 8) (hd : decode cc pc = .ok (.invokevirtual 87, 3)) {g : Int32 → zMem → Option (α × zMem)} (kk : ∀ (r : Int32) (σ1 : zMem), zKO E nL Z QQ (pc + 3) L (.int r :: st) σ1 (g r σ1)) : zKO E nL Z QQ pc L (.int b1 :: .ref (zad Z 13 b0) :: .ref (zad Z 11 0) :: st) σ (zb (f_X9_readTest F σ b0 b1) g) :=
  zr_callVI (As := [.ref (zad Z 13 b0), .int b1]) (ia := 2) C (fun r σ1 ho => c_X9_readTest (zla E) Z F σ b0 b1 r σ1 ho) wz_621 hk rfl rfl wz_p19 wz_623 wz_624 wz_3 (by decide +kernel) rfl (by decide) hh hd hst8 kk
def f_X9_readTests_4 (F : Nat) (rec4 : zMem → Nat × Int32 × Int32 → Option (Int32 × zMem)) (σ : zMem) (x : Nat × Int32 × Int32) : Option (Int32 × zMem) := zg (decide (x.1 < 40)) (if 4 ≤ x.2.2 then (some (0, σ)) else (zg (zbo x.2.1 && inb x.2.2 4) (zb (f_X9_readTest F (zwi σ 18 x.1 x.2.2.toNatClampNeg x.2.1) x.1 x.2.2) fun r19 m19 => if r19 = 0 then (some (0, m19)) else (if ((zwi m19 13 x.1 6 ((x.2.2 + 1))).1 11 0 4) = ((zwi m19 13 x.1 6 ((x.2.2 + 1))).1 11 0 3) then (some (1, (zwi m19 13 x.1 6 ((x.2.2 + 1))))) else (if x.2.2 = 3 then (some (0, (zwi m19 13 x.1 6 ((x.2.2 + 1))))) else (zb (f_X9_readBlank F (zwi m19 13 x.1 6 ((x.2.2 + 1)))) fun r53 m53 => if r53 = 0 then (some (0, m53)) else (zb (f_X9_readName F m53 5) fun r64 m64 => if r64 < 0 then (some (0, m64)) else (zb (f_X9_readBlank F m64) fun r75 m75 => if r75 = 0 then (some (0, m75)) else (if r64 = 1 then (rec4 m75 ((x.1, 1, (x.2.2 + 1)))) else (rec4 m75 ((x.1, 0, (x.2.2 + 1)))))))))))))
set_option maxHeartbeats 4000000 in
set_option maxRecDepth 100000 in
theorem c_X9_readTests_4 (F : Nat) {E : zEn} {h : Nat} {Z : zLay} (C : zCx E cX9_readTests RX9 5 (some .boolean) Z h) (hh : 7 ≤ h) : ∀ (n : Nat) (σ : zMem) (x : Nat × Int32 × Int32), zKO E 5 Z (zMQ E Z (zQI Z)) 4 [(0, .ref (zad Z 11 0)), (1, .ref (zad Z 13 x.1)), (2, .int x.2.1), (3, .int x.2.2)] [] σ (zit (f_X9_readTests_4 F) n σ x) := by
  refine zr_loop (LL := fun (x : Nat × Int32 × Int32) => [(0, .ref (zad Z 11 0)), (1, .ref (zad Z 13 x.1)), (2, .int x.2.1), (3, .int x.2.2)]) (ST := fun (x : Nat × Int32 × Int32) => []) (fun rec4 hrec4 σ x => ?_)
  obtain ⟨l1, l2, l3⟩ := x
  show zKO E 5 Z (zMQ E Z (zQI Z)) 4 [(0, .ref (zad Z 11 0)), (1, .ref (zad Z 13 l1)), (2, .int l2), (3, .int l3)] [] σ (zg (decide (l1 < 40)) (if 4 ≤ l3 then (some (0, σ)) else (zg (zbo l2 && inb l3 4) (zb (f_X9_readTest F (zwi σ 18 l1 l3.toNatClampNeg l2) l1 l3) fun r19 m19 => if r19 = 0 then (some (0, m19)) else (if ((zwi m19 13 l1 6 ((l3 + 1))).1 11 0 4) = ((zwi m19 13 l1 6 ((l3 + 1))).1 11 0 3) then (some (1, (zwi m19 13 l1 6 ((l3 + 1))))) else (if l3 = 3 then (some (0, (zwi m19 13 l1 6 ((l3 + 1))))) else (zb (f_X9_readBlank F (zwi m19 13 l1 6 ((l3 + 1)))) fun r53 m53 => if r53 = 0 then (some (0, m53)) else (zb (f_X9_readName F m53 5) fun r64 m64 => if r64 < 0 then (some (0, m64)) else (zb (f_X9_readBlank F m64) fun r75 m75 => if r75 = 0 then (some (0, m75)) else (if r64 = 1 then (rec4 m75 ((l1, 1, (l3 + 1)))) else (rec4 m75 ((l1, 0, (l3 + 1))))))))))))))
  refine zr_g (fun hl1 => ?_)
  refine zr_iload_n C dX9_readTests_4 rfl ?_
  refine zr_iconst (v := 4) C dX9_readTests_5 rfl ?_
  refine zr_icmp_ge (tgt := 101) C dX9_readTests_6 (by decide) ?_ ?_
  · refine zr_iconst (v := 0) C dX9_readTests_101 rfl ?_
    exact zr_zret C dX9_readTests_102 rfl
  · refine zr_aload_n C dX9_readTests_9 rfl ?_
    refine zf_X9_83 C (of_decide_eq_true hl1) dX9_readTests_10 ?_
    refine zr_iload_n C dX9_readTests_13 rfl ?_
    refine zr_iload_n C dX9_readTests_14 rfl ?_
    refine zr_zast (n := 4) C dX9_readTests_15 (of_decide_eq_true hl1) (fun _ _ => rfl) ?_
    refine zr_aload_n C dX9_readTests_16 rfl ?_
    refine zr_aload_n C dX9_readTests_17 rfl ?_
    refine zr_iload_n C dX9_readTests_18 rfl ?_
    refine zk_X9_87 C F (Nat.le_of_ble_eq_true rfl) (Nat.le_trans (by decide) hh) (by simp [Value.category]) dX9_readTests_19 (fun r19 m19 => ?_)
    refine zr_if_ne (tgt := 27) C dX9_readTests_22 (by decide) ?_ ?_
    · refine zr_aload_n C dX9_readTests_27 rfl ?_
      refine zr_iload_n C dX9_readTests_28 rfl ?_
      refine zr_iconst (v := 1) C dX9_readTests_29 rfl ?_
      refine zr_iadd C dX9_readTests_30 ?_
      refine zp_X9_54 C (of_decide_eq_true hl1) dX9_readTests_31 ?_
      refine zr_aload_n C dX9_readTests_34 rfl ?_
      refine zf_X9_47 C (Nat.le_of_ble_eq_true rfl) dX9_readTests_35 ?_
      refine zr_aload_n C dX9_readTests_38 rfl ?_
      refine zf_X9_26 C (Nat.le_of_ble_eq_true rfl) dX9_readTests_39 ?_
      refine zr_icmp_ne (tgt := 47) C dX9_readTests_42 (by decide) ?_ ?_
      · refine zr_iload_n C dX9_readTests_47 rfl ?_
        refine zr_iconst (v := 3) C dX9_readTests_48 rfl ?_
        refine zr_icmp_eq (tgt := 59) C dX9_readTests_49 (by decide) ?_ ?_
        · refine zr_iconst (v := 0) C dX9_readTests_59 rfl ?_
          exact zr_zret C dX9_readTests_60 rfl
        · refine zr_aload_n C dX9_readTests_52 rfl ?_
          refine zk_X9_70 C F (Nat.le_of_ble_eq_true rfl) (Nat.le_trans (by decide) hh) (by simp [Value.category]) dX9_readTests_53 (fun r53 m53 => ?_)
          refine zr_if_ne (tgt := 61) C dX9_readTests_56 (by decide) ?_ ?_
          · refine zr_aload_n C dX9_readTests_61 rfl ?_
            refine zr_lds (own := RX9) (tx := "and or ") (j := 5) C (by decide +kernel) dX9_readTests_62 ?_
            refine zk_X9_63 C F (Nat.le_of_ble_eq_true rfl) (Nat.le_trans (by decide) hh) (by simp [Value.category]) dX9_readTests_64 (fun r64 m64 => ?_)
            refine zr_istore (i := 4) (L1 := [(4, .int _), (0, .ref _), (1, .ref _), (2, .int _), (3, .int _)]) C dX9_readTests_67 (by decide) rfl ?_
            refine zr_iload C dX9_readTests_69 rfl ?_
            refine zr_if_lt (tgt := 81) C dX9_readTests_71 (by decide) ?_ ?_
            · refine zr_iconst (v := 0) C dX9_readTests_81 rfl ?_
              exact zr_zret C dX9_readTests_82 rfl
            · refine zr_aload_n C dX9_readTests_74 rfl ?_
              refine zk_X9_70 C F (Nat.le_of_ble_eq_true rfl) (Nat.le_trans (by decide) hh) (by simp [Value.category]) dX9_readTests_75 (fun r75 m75 => ?_)
              refine zr_if_ne (tgt := 83) C dX9_readTests_78 (by decide) ?_ ?_
              · refine zr_iload C dX9_readTests_83 rfl ?_
                refine zr_iconst (v := 1) C dX9_readTests_85 rfl ?_
                refine zr_icmp_ne (tgt := 93) C dX9_readTests_86 (by decide) ?_ ?_
                · refine zr_iconst (v := 0) C dX9_readTests_93 rfl ?_
                  refine zr_istore_n (i := 2) (L1 := [(2, .int _), (4, .int _), (0, .ref _), (1, .ref _), (3, .int _)]) C dX9_readTests_94 rfl (by decide) rfl ?_
                  refine zr_iinc (kk := 4) (v := (l3 + 1)) (L1 := [(3, .int _), (2, .int _), (4, .int _), (0, .ref _), (1, .ref _)]) C dX9_readTests_95 rfl rfl (by decide) rfl ?_
                  refine zr_goto (tgt := 4) C dX9_readTests_98 (by decide) ?_
                  exact zr_sub [3, 4, 1, 0] rfl (hrec4 m75 ((l1, 0, (l3 + 1))))
                · refine zr_iconst (v := 1) C dX9_readTests_89 rfl ?_
                  refine zr_goto (tgt := 94) C dX9_readTests_90 (by decide) ?_
                  refine zr_istore_n (i := 2) (L1 := [(2, .int _), (4, .int _), (0, .ref _), (1, .ref _), (3, .int _)]) C dX9_readTests_94 rfl (by decide) rfl ?_
                  refine zr_iinc (kk := 4) (v := (l3 + 1)) (L1 := [(3, .int _), (2, .int _), (4, .int _), (0, .ref _), (1, .ref _)]) C dX9_readTests_95 rfl rfl (by decide) rfl ?_
                  refine zr_goto (tgt := 4) C dX9_readTests_98 (by decide) ?_
                  exact zr_sub [3, 4, 1, 0] rfl (hrec4 m75 ((l1, 1, (l3 + 1))))
              · refine zr_iconst (v := 0) C dX9_readTests_81 rfl ?_
                exact zr_zret C dX9_readTests_82 rfl
          · refine zr_iconst (v := 0) C dX9_readTests_59 rfl ?_
            exact zr_zret C dX9_readTests_60 rfl
      · refine zr_iconst (v := 1) C dX9_readTests_45 rfl ?_
        exact zr_zret C dX9_readTests_46 rfl
    · refine zr_iconst (v := 0) C dX9_readTests_25 rfl ?_
      exact zr_zret C dX9_readTests_26 rfl
def f_X9_readTests (F : Nat) (σ : zMem) (a1 : Nat) : Option (Int32 × zMem) := zg (decide (a1 < 40)) (zit (f_X9_readTests_4 F) F σ ((a1, 0, 0)))
set_option maxHeartbeats 4000000 in
set_option maxRecDepth 100000 in
theorem c_X9_readTests (l : Launch) (Z : zLay) (F : Nat) (σ : zMem) (a1 : Nat) (r : Int32) (σ1 : zMem) (ho : f_X9_readTests F σ a1 = some (r, σ1)) : zMet l yX9_readTests cX9_readTests 5 (some .boolean) 7 Z [.ref (zad Z 11 0), .ref (zad Z 13 a1)] σ (zQI Z r σ1) := by
  refine zMet_of (Qc := zQI Z) (by decide) (Nat.le_of_ble_eq_true rfl) [(0, .ref (zad Z 11 0)), (1, .ref (zad Z 13 a1))] rfl (fun E C => ?_) ho
  have hh : 7 ≤ 7 := Nat.le_refl _
  show zKO E 5 Z (zMQ E Z (zQI Z)) 0 [(0, .ref (zad Z 11 0)), (1, .ref (zad Z 13 a1))] [] σ _
  unfold f_X9_readTests
  refine zr_g (fun ha1 => ?_)
  refine zr_iconst (v := 0) C dX9_readTests_0 rfl ?_
  refine zr_istore_n (i := 2) (L1 := [(2, .int _), (0, .ref _), (1, .ref _)]) C dX9_readTests_1 rfl (by decide) rfl ?_
  refine zr_iconst (v := 0) C dX9_readTests_2 rfl ?_
  refine zr_istore_n (i := 3) (L1 := [(3, .int _), (2, .int _), (0, .ref _), (1, .ref _)]) C dX9_readTests_3 rfl (by decide) rfl ?_
  exact zr_sub [2, 3, 1, 0] rfl (c_X9_readTests_4 F C hh F σ ((a1, 0, 0)))
theorem zk_X9_80 (C : zCx E cc RX9 nL ret Z h) (F : Nat) {b0 : Nat} (hk : 0 < zN 11) (hh : 7 + 1 ≤ h) (hst8 : (st.map fun v => v.category).sum ≤ 8) (hd : decode cc pc = .ok (.invokevirtual 80, 3)) {g : Int32 → zMem → Option (α × zMem)} (kk : ∀ (r : Int32) (σ1 : zMem), zKO E nL Z QQ (pc + 3) L (.int r :: st) σ1 (g r σ1)) : zKO E nL Z QQ pc L (.ref (zad Z 13 b0) :: .ref (zad Z 11 0) :: st) σ (zb (f_X9_readTests F σ b0) g) :=
  zr_callVI (As := [.ref (zad Z 13 b0)]) (ia := 1) C (fun r σ1 ho => c_X9_readTests (zla E) Z F σ b0 r σ1 ho) wz_617 hk rfl rfl wz_p18 wz_619 wz_620 wz_3 (by decide +kernel) rfl (by decide) hh hd hst8 kk
def f_X9_readWord_106 (F : Nat) (σ : zMem) (l1 : Nat) (s0 : Int32) (s1 : Nat) : Option (Int32 × zMem) := zg (decide (l1 < 40)) (zg (decide (s1 < 40)) (zg (zbo s0) (zb (f_X9_readTests F (zwi σ 13 s1 5 s0) l1) fun r111 m111 => zg (zbo r111) (some (r111, m111)))))
set_option maxHeartbeats 4000000 in
set_option maxRecDepth 100000 in
theorem c_X9_readWord_106 (F : Nat) {E : zEn} {h : Nat} {Z : zLay} (C : zCx E cX9_readWord RX9 3 (some .boolean) Z h) (hh : 8 ≤ h) (σ : zMem) (l1 : Nat) (s0 : Int32) (s1 : Nat) : zKO E 3 Z (zMQ E Z (zQI Z)) 106 [(0, .ref (zad Z 11 0)), (1, .ref (zad Z 13 l1))] [.int s0, .ref (zad Z 13 s1)] σ (f_X9_readWord_106 F σ l1 s0 s1) := by
  unfold f_X9_readWord_106
  refine zr_g (fun hl1 => ?_)
  refine zr_g (fun hs1 => ?_)
  refine zp_X9_57 C (of_decide_eq_true hs1) dX9_readWord_106 ?_
  refine zr_aload_n C dX9_readWord_109 rfl ?_
  refine zr_aload_n C dX9_readWord_110 rfl ?_
  refine zk_X9_80 C F (Nat.le_of_ble_eq_true rfl) (Nat.le_trans (by decide) hh) (by simp [Value.category]) dX9_readWord_111 (fun r111 m111 => ?_)
  exact zr_zretg C dX9_readWord_114
def f_X9_readWord (F : Nat) (σ : zMem) (a1 : Nat) : Option (Int32 × zMem) := zg (decide (a1 < 40)) (zg (zbo 0) (zb (f_X9_readName F (zwi (zwi σ 13 a1 6 0) 13 a1 5 0) 0) fun r14 m14 => if ((zwi m14 13 a1 0 r14).1 13 a1 0) < 0 then (some (0, (zwi m14 13 a1 0 r14))) else (zb (f_X9_readBlank F (zwi m14 13 a1 0 r14)) fun r28 m28 => if r28 = 0 then (some (0, m28)) else (zb (f_X9_readNumber F m28) fun r38 m38 => if 0 ≤ ((zwi m38 13 a1 1 r38).1 13 a1 1) then (if ((zwi m38 13 a1 1 r38).1 11 0 4) = ((zwi m38 13 a1 1 r38).1 11 0 3) then (some (1, (zwi m38 13 a1 1 r38))) else (zb (f_X9_readBlank F (zwi m38 13 a1 1 r38)) fun r67 m67 => if r67 = 0 then (some (0, m67)) else (zb (f_X9_readName F m67 1) fun r78 m78 => if r78 < 0 then (some (0, m78)) else (zb (f_X9_readBlank F m78) fun r87 m87 => if r87 = 0 then (some (0, m87)) else (if r78 = 1 then (f_X9_readWord_106 F m87 a1 1 a1) else (f_X9_readWord_106 F m87 a1 0 a1)))))) else (some (0, (zwi m38 13 a1 1 r38)))))))
set_option maxHeartbeats 4000000 in
set_option maxRecDepth 100000 in
theorem c_X9_readWord (l : Launch) (Z : zLay) (F : Nat) (σ : zMem) (a1 : Nat) (r : Int32) (σ1 : zMem) (ho : f_X9_readWord F σ a1 = some (r, σ1)) : zMet l yX9_readWord cX9_readWord 3 (some .boolean) 8 Z [.ref (zad Z 11 0), .ref (zad Z 13 a1)] σ (zQI Z r σ1) := by
  refine zMet_of (Qc := zQI Z) (by decide) (Nat.le_of_ble_eq_true rfl) [(0, .ref (zad Z 11 0)), (1, .ref (zad Z 13 a1))] rfl (fun E C => ?_) ho
  have hh : 8 ≤ 8 := Nat.le_refl _
  show zKO E 3 Z (zMQ E Z (zQI Z)) 0 [(0, .ref (zad Z 11 0)), (1, .ref (zad Z 13 a1))] [] σ _
  unfold f_X9_readWord
  refine zr_g (fun ha1 => ?_)
  refine zr_aload_n C dX9_readWord_0 rfl ?_
  refine zr_iconst (v := 0) C dX9_readWord_1 rfl ?_
  refine zp_X9_54 C (of_decide_eq_true ha1) dX9_readWord_2 ?_
  refine zr_aload_n C dX9_readWord_5 rfl ?_
  refine zr_iconst (v := 0) C dX9_readWord_6 rfl ?_
  refine zp_X9_57 C (of_decide_eq_true ha1) dX9_readWord_7 ?_
  refine zr_aload_n C dX9_readWord_10 rfl ?_
  refine zr_aload_n C dX9_readWord_11 rfl ?_
  refine zr_lds (own := RX9) (tx := "rate feet from till heads fine lot watch ") (j := 0) C (by decide +kernel) dX9_readWord_12 ?_
  refine zk_X9_63 C F (Nat.le_of_ble_eq_true rfl) (Nat.le_trans (by decide) hh) (by simp [Value.category]) dX9_readWord_14 (fun r14 m14 => ?_)
  refine zp_X9_67 C (of_decide_eq_true ha1) dX9_readWord_17 ?_
  refine zr_aload_n C dX9_readWord_20 rfl ?_
  refine zf_X9_67 C (of_decide_eq_true ha1) dX9_readWord_21 ?_
  refine zr_if_lt (tgt := 34) C dX9_readWord_24 (by decide) ?_ ?_
  · refine zr_iconst (v := 0) C dX9_readWord_34 rfl ?_
    exact zr_zret C dX9_readWord_35 rfl
  · refine zr_aload_n C dX9_readWord_27 rfl ?_
    refine zk_X9_70 C F (Nat.le_of_ble_eq_true rfl) (Nat.le_trans (by decide) hh) (by simp [Value.category]) dX9_readWord_28 (fun r28 m28 => ?_)
    refine zr_if_ne (tgt := 36) C dX9_readWord_31 (by decide) ?_ ?_
    · refine zr_aload_n C dX9_readWord_36 rfl ?_
      refine zr_aload_n C dX9_readWord_37 rfl ?_
      refine zk_X9_74 C F (Nat.le_of_ble_eq_true rfl) (Nat.le_trans (by decide) hh) (by simp [Value.category]) dX9_readWord_38 (fun r38 m38 => ?_)
      refine zp_X9_36 C (of_decide_eq_true ha1) dX9_readWord_41 ?_
      refine zr_aload_n C dX9_readWord_44 rfl ?_
      refine zf_X9_36 C (of_decide_eq_true ha1) dX9_readWord_45 ?_
      refine zr_if_ge (tgt := 53) C dX9_readWord_48 (by decide) ?_ ?_
      · refine zr_aload_n C dX9_readWord_53 rfl ?_
        refine zf_X9_47 C (Nat.le_of_ble_eq_true rfl) dX9_readWord_54 ?_
        refine zr_aload_n C dX9_readWord_57 rfl ?_
        refine zf_X9_26 C (Nat.le_of_ble_eq_true rfl) dX9_readWord_58 ?_
        refine zr_icmp_ne (tgt := 66) C dX9_readWord_61 (by decide) ?_ ?_
        · refine zr_aload_n C dX9_readWord_66 rfl ?_
          refine zk_X9_70 C F (Nat.le_of_ble_eq_true rfl) (Nat.le_trans (by decide) hh) (by simp [Value.category]) dX9_readWord_67 (fun r67 m67 => ?_)
          refine zr_if_ne (tgt := 75) C dX9_readWord_70 (by decide) ?_ ?_
          · refine zr_aload_n C dX9_readWord_75 rfl ?_
            refine zr_lds (own := RX9) (tx := "if unless ") (j := 1) C (by decide +kernel) dX9_readWord_76 ?_
            refine zk_X9_63 C F (Nat.le_of_ble_eq_true rfl) (Nat.le_trans (by decide) hh) (by simp [Value.category]) dX9_readWord_78 (fun r78 m78 => ?_)
            refine zr_istore_n (i := 2) (L1 := [(2, .int _), (0, .ref _), (1, .ref _)]) C dX9_readWord_81 rfl (by decide) rfl ?_
            refine zr_iload_n C dX9_readWord_82 rfl ?_
            refine zr_if_lt (tgt := 93) C dX9_readWord_83 (by decide) ?_ ?_
            · refine zr_iconst (v := 0) C dX9_readWord_93 rfl ?_
              exact zr_zret C dX9_readWord_94 rfl
            · refine zr_aload_n C dX9_readWord_86 rfl ?_
              refine zk_X9_70 C F (Nat.le_of_ble_eq_true rfl) (Nat.le_trans (by decide) hh) (by simp [Value.category]) dX9_readWord_87 (fun r87 m87 => ?_)
              refine zr_if_ne (tgt := 95) C dX9_readWord_90 (by decide) ?_ ?_
              · refine zr_aload_n C dX9_readWord_95 rfl ?_
                refine zr_iload_n C dX9_readWord_96 rfl ?_
                refine zr_iconst (v := 1) C dX9_readWord_97 rfl ?_
                refine zr_icmp_ne (tgt := 105) C dX9_readWord_98 (by decide) ?_ ?_
                · refine zr_iconst (v := 0) C dX9_readWord_105 rfl ?_
                  exact zr_sub [1, 2] rfl (c_X9_readWord_106 F C hh m87 a1 0 a1)
                · refine zr_iconst (v := 1) C dX9_readWord_101 rfl ?_
                  refine zr_goto (tgt := 106) C dX9_readWord_102 (by decide) ?_
                  exact zr_sub [1, 2] rfl (c_X9_readWord_106 F C hh m87 a1 1 a1)
              · refine zr_iconst (v := 0) C dX9_readWord_93 rfl ?_
                exact zr_zret C dX9_readWord_94 rfl
          · refine zr_iconst (v := 0) C dX9_readWord_73 rfl ?_
            exact zr_zret C dX9_readWord_74 rfl
        · refine zr_iconst (v := 1) C dX9_readWord_64 rfl ?_
          exact zr_zret C dX9_readWord_65 rfl
      · refine zr_iconst (v := 0) C dX9_readWord_51 rfl ?_
        exact zr_zret C dX9_readWord_52 rfl
    · refine zr_iconst (v := 0) C dX9_readWord_34 rfl ?_
      exact zr_zret C dX9_readWord_35 rfl
theorem zk_X9_50 (C : zCx E cc RX9 nL ret Z h) (F : Nat) {b0 : Nat} (hk : 0 < zN 11) (hh : 8 + 1 ≤ h) (hst8 : (st.map fun v => v.category).sum ≤ 8) (hd : decode cc pc = .ok (.invokevirtual 50, 3)) {g : Int32 → zMem → Option (α × zMem)} (kk : ∀ (r : Int32) (σ1 : zMem), zKO E nL Z QQ (pc + 3) L (.int r :: st) σ1 (g r σ1)) : zKO E nL Z QQ pc L (.ref (zad Z 13 b0) :: .ref (zad Z 11 0) :: st) σ (zb (f_X9_readWord F σ b0) g) :=
  zr_callVI (As := [.ref (zad Z 13 b0)]) (ia := 1) C (fun r σ1 ho => c_X9_readWord (zla E) Z F σ b0 r σ1 ho) wz_548 hk rfl rfl wz_p14 wz_550 wz_551 wz_3 (by decide +kernel) rfl (by decide) hh hd hst8 kk
def f_X9_read (F : Nat) (σ : zMem) : Option (Int32 × zMem) := if (σ.1 11 0 1) < 40 then (zg (inb (((zwi σ 11 0 4 0).1 11 0 1)) 40) (zb (f_X9_readWord F (zwi σ 11 0 4 0) ((((zwi σ 11 0 4 0).1 11 0 1)).toNatClampNeg)) fun r26 m26 => if r26 = 0 then (some ((m26.1 11 0 4), m26)) else (some ((-1), m26)))) else (some (0, σ))
set_option maxHeartbeats 4000000 in
set_option maxRecDepth 100000 in
theorem c_X9_read (l : Launch) (Z : zLay) (F : Nat) (σ : zMem) (r : Int32) (σ1 : zMem) (ho : f_X9_read F σ = some (r, σ1)) : zMet l yX9_read cX9_read 1 (some .int) 9 Z [.ref (zad Z 11 0)] σ (zQI Z r σ1) := by
  refine zMet_of (Qc := zQI Z) (by decide) (Nat.le_of_ble_eq_true rfl) [(0, .ref (zad Z 11 0))] rfl (fun E C => ?_) ho
  have hh : 9 ≤ 9 := Nat.le_refl _
  show zKO E 1 Z (zMQ E Z (zQI Z)) 0 [(0, .ref (zad Z 11 0))] [] σ _
  unfold f_X9_read
  refine zr_aload_n C dX9_read_0 rfl ?_
  refine zf_X9_22 C (Nat.le_of_ble_eq_true rfl) dX9_read_1 ?_
  refine zr_bipush (v := 40) C dX9_read_4 rfl ?_
  refine zr_icmp_lt (tgt := 11) C dX9_read_6 (by decide) ?_ ?_
  · refine zr_aload_n C dX9_read_11 rfl ?_
    refine zr_iconst (v := 0) C dX9_read_12 rfl ?_
    refine zp_X9_47 C (Nat.le_of_ble_eq_true rfl) dX9_read_13 ?_
    refine zr_aload_n C dX9_read_16 rfl ?_
    refine zr_aload_n C dX9_read_17 rfl ?_
    refine zf_X9_11 C (Nat.le_of_ble_eq_true rfl) dX9_read_18 ?_
    refine zr_aload_n C dX9_read_21 rfl ?_
    refine zf_X9_22 C (Nat.le_of_ble_eq_true rfl) dX9_read_22 ?_
    refine zr_aald (n := 40) (k1 := 13) C dX9_read_25 (Nat.le_of_ble_eq_true rfl) rfl rfl rfl (fun hb25 => ?_)
    refine zk_X9_50 C F (Nat.le_of_ble_eq_true rfl) (Nat.le_trans (by decide) hh) (by simp [Value.category]) dX9_read_26 (fun r26 m26 => ?_)
    refine zr_if_eq (tgt := 36) C dX9_read_29 (by decide) ?_ ?_
    · refine zr_aload_n C dX9_read_36 rfl ?_
      refine zf_X9_47 C (Nat.le_of_ble_eq_true rfl) dX9_read_37 ?_
      exact zr_iret C dX9_read_40
    · refine zr_iconst (v := -1) C dX9_read_32 rfl ?_
      refine zr_goto (tgt := 40) C dX9_read_33 (by decide) ?_
      exact zr_iret C dX9_read_40
  · refine zr_iconst (v := 0) C dX9_read_9 rfl ?_
    exact zr_iret C dX9_read_10
theorem zk_X10_185 (C : zCx E cc RX10 nL ret Z h) (F : Nat)  (hk : 0 < zN 11) (hh : 9 + 1 ≤ h) (hst8 : (st.map fun v => v.category).sum ≤ 8) (hd : decode cc pc = .ok (.invokevirtual 185, 3)) {g : Int32 → zMem → Option (α × zMem)} (kk : ∀ (r : Int32) (σ1 : zMem), zKO E nL Z QQ (pc + 3) L (.int r :: st) σ1 (g r σ1)) : zKO E nL Z QQ pc L (.ref (zad Z 11 0) :: st) σ (zb (f_X9_read F σ) g) :=
  zr_callVNI (As := []) (ia := 0) C (fun r σ1 ho => c_X9_read (zla E) Z F σ r σ1 ho) wz_n544 hk rfl rfl wz_p13 wz_546 wz_547 wz_3 (by decide +kernel) rfl (by decide) hh hd hst8 kk
def f_J6_bitCount_0f7a4 (F : Nat) (σ : zMem) (a0 : Int32) : Option (Int32 × zMem) := some (((((((((a0 - ((zush a0 1) &&& 1431655765)) &&& 858993459) + ((zush ((a0 - ((zush a0 1) &&& 1431655765))) 2) &&& 858993459)) + (zush ((((a0 - ((zush a0 1) &&& 1431655765)) &&& 858993459) + ((zush ((a0 - ((zush a0 1) &&& 1431655765))) 2) &&& 858993459))) 4)) &&& 252645135) + (zush ((((((a0 - ((zush a0 1) &&& 1431655765)) &&& 858993459) + ((zush ((a0 - ((zush a0 1) &&& 1431655765))) 2) &&& 858993459)) + (zush ((((a0 - ((zush a0 1) &&& 1431655765)) &&& 858993459) + ((zush ((a0 - ((zush a0 1) &&& 1431655765))) 2) &&& 858993459))) 4)) &&& 252645135)) 8)) + (zush (((((((a0 - ((zush a0 1) &&& 1431655765)) &&& 858993459) + ((zush ((a0 - ((zush a0 1) &&& 1431655765))) 2) &&& 858993459)) + (zush ((((a0 - ((zush a0 1) &&& 1431655765)) &&& 858993459) + ((zush ((a0 - ((zush a0 1) &&& 1431655765))) 2) &&& 858993459))) 4)) &&& 252645135) + (zush ((((((a0 - ((zush a0 1) &&& 1431655765)) &&& 858993459) + ((zush ((a0 - ((zush a0 1) &&& 1431655765))) 2) &&& 858993459)) + (zush ((((a0 - ((zush a0 1) &&& 1431655765)) &&& 858993459) + ((zush ((a0 - ((zush a0 1) &&& 1431655765))) 2) &&& 858993459))) 4)) &&& 252645135)) 8))) 16)) &&& 63), σ)
set_option maxHeartbeats 4000000 in
set_option maxRecDepth 100000 in
theorem c_J6_bitCount_0f7a4 (l : Launch) (Z : zLay) (F : Nat) (σ : zMem) (a0 : Int32) (r : Int32) (σ1 : zMem) (ho : f_J6_bitCount_0f7a4 F σ a0 = some (r, σ1)) : zMet l yJ6_bitCount_0f7a4 cJ6_bitCount_0f7a4 1 (some .int) 1 Z [.int (a0)] σ (zQI Z r σ1) := by
  refine zMet_of (Qc := zQI Z) (by decide) (Nat.le_of_ble_eq_true rfl) [(0, .int (a0))] rfl (fun E C => ?_) ho
  have hh : 1 ≤ 1 := Nat.le_refl _
  show zKO E 1 Z (zMQ E Z (zQI Z)) 0 [(0, .int (a0))] [] σ _
  unfold f_J6_bitCount_0f7a4
  refine zr_iload_n C dJ6_bitCount_0f7a4_0 rfl ?_
  refine zr_iload_n C dJ6_bitCount_0f7a4_1 rfl ?_
  refine zr_iconst (v := 1) C dJ6_bitCount_0f7a4_2 rfl ?_
  refine zr_iushr C dJ6_bitCount_0f7a4_3 ?_
  refine zr_ldc_w (v := 1431655765) C dJ6_bitCount_0f7a4_4 wz_636 ?_
  refine zr_iand C dJ6_bitCount_0f7a4_7 ?_
  refine zr_isub C dJ6_bitCount_0f7a4_8 ?_
  refine zr_istore_n (i := 0) (L1 := [(0, .int _)]) C dJ6_bitCount_0f7a4_9 rfl (by decide) rfl ?_
  refine zr_iload_n C dJ6_bitCount_0f7a4_10 rfl ?_
  refine zr_ldc_w (v := 858993459) C dJ6_bitCount_0f7a4_11 wz_637 ?_
  refine zr_iand C dJ6_bitCount_0f7a4_14 ?_
  refine zr_iload_n C dJ6_bitCount_0f7a4_15 rfl ?_
  refine zr_iconst (v := 2) C dJ6_bitCount_0f7a4_16 rfl ?_
  refine zr_iushr C dJ6_bitCount_0f7a4_17 ?_
  refine zr_ldc_w (v := 858993459) C dJ6_bitCount_0f7a4_18 wz_637 ?_
  refine zr_iand C dJ6_bitCount_0f7a4_21 ?_
  refine zr_iadd C dJ6_bitCount_0f7a4_22 ?_
  refine zr_istore_n (i := 0) (L1 := [(0, .int _)]) C dJ6_bitCount_0f7a4_23 rfl (by decide) rfl ?_
  refine zr_iload_n C dJ6_bitCount_0f7a4_24 rfl ?_
  refine zr_iload_n C dJ6_bitCount_0f7a4_25 rfl ?_
  refine zr_iconst (v := 4) C dJ6_bitCount_0f7a4_26 rfl ?_
  refine zr_iushr C dJ6_bitCount_0f7a4_27 ?_
  refine zr_iadd C dJ6_bitCount_0f7a4_28 ?_
  refine zr_ldc_w (v := 252645135) C dJ6_bitCount_0f7a4_29 wz_638 ?_
  refine zr_iand C dJ6_bitCount_0f7a4_32 ?_
  refine zr_istore_n (i := 0) (L1 := [(0, .int _)]) C dJ6_bitCount_0f7a4_33 rfl (by decide) rfl ?_
  refine zr_iload_n C dJ6_bitCount_0f7a4_34 rfl ?_
  refine zr_iload_n C dJ6_bitCount_0f7a4_35 rfl ?_
  refine zr_bipush (v := 8) C dJ6_bitCount_0f7a4_36 rfl ?_
  refine zr_iushr C dJ6_bitCount_0f7a4_38 ?_
  refine zr_iadd C dJ6_bitCount_0f7a4_39 ?_
  refine zr_istore_n (i := 0) (L1 := [(0, .int _)]) C dJ6_bitCount_0f7a4_40 rfl (by decide) rfl ?_
  refine zr_iload_n C dJ6_bitCount_0f7a4_41 rfl ?_
  refine zr_iload_n C dJ6_bitCount_0f7a4_42 rfl ?_
  refine zr_bipush (v := 16) C dJ6_bitCount_0f7a4_43 rfl ?_
  refine zr_iushr C dJ6_bitCount_0f7a4_45 ?_
  refine zr_iadd C dJ6_bitCount_0f7a4_46 ?_
  refine zr_istore_n (i := 0) (L1 := [(0, .int _)]) C dJ6_bitCount_0f7a4_47 rfl (by decide) rfl ?_
  refine zr_iload_n C dJ6_bitCount_0f7a4_48 rfl ?_
  refine zr_bipush (v := 63) C dJ6_bitCount_0f7a4_49 rfl ?_
  refine zr_iand C dJ6_bitCount_0f7a4_51 ?_
  exact zr_iret C dJ6_bitCount_0f7a4_52
theorem zk_X10_193 (C : zCx E cc RX10 nL ret Z h) (F : Nat) {b0 : Int32} (hh : 1 + 1 ≤ h) (hst8 : (st.map fun v => v.category).sum ≤ 8) (hd : decode cc pc = .ok (.invokestatic 193, 3)) {g : Int32 → zMem → Option (α × zMem)} (kk : ∀ (r : Int32) (σ1 : zMem), zKO E nL Z QQ (pc + 3) L (.int r :: st) σ1 (g r σ1)) : zKO E nL Z QQ pc L (.int b0 :: st) σ (zb (f_J6_bitCount_0f7a4 F σ b0) g) :=
  zr_callSI (As := [.int b0]) (ia := 1) C (fun r σ1 ho => c_J6_bitCount_0f7a4 (zla E) Z F σ b0 r σ1 ho) wz_633 wz_634 wz_635 wz_18 (by decide +kernel) rfl (by decide) hh hd hst8 kk
theorem zk_X11_317 (C : zCx E cc RX11 nL ret Z h) (F : Nat) {b0 : Int32} (hh : 1 + 1 ≤ h) (hst8 : (st.map fun v => v.category).sum ≤ 8) (hd : decode cc pc = .ok (.invokestatic 317, 3)) {g : Int32 → zMem → Option (α × zMem)} (kk : ∀ (r : Int32) (σ1 : zMem), zKO E nL Z QQ (pc + 3) L (.int r :: st) σ1 (g r σ1)) : zKO E nL Z QQ pc L (.int b0 :: st) σ (zb (f_J6_bitCount_0f7a4 F σ b0) g) :=
  zr_callSI (As := [.int b0]) (ia := 1) C (fun r σ1 ho => c_J6_bitCount_0f7a4 (zla E) Z F σ b0 r σ1 ho) wz_1444 wz_634 wz_635 wz_18 (by decide +kernel) rfl (by decide) hh hd hst8 kk
end ZM
