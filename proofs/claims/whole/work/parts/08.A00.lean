section ZM
variable {E : zEn} {cc : ByteArray} {own : String} {nL h : Nat} {ret : Option FieldType} {Z : zLay} {α : Type} {QQ : α → zMem → State → Prop} {pc : Nat} {L : List (Nat × Value)} {st : List Value} {σ : zMem} {o o1 o2 : Option (α × zMem)}
def f_X10_house (F : Nat) (σ : zMem) (a1 : Int32) (a2 : Int32) (a3 : Int32) (a4 : Int32) : Option (Int32 × zMem) := zb (f_X2_fits F σ 0 a1) fun r2 m2 => if r2 = 0 then (some ((-2), m2)) else (zb (f_X2_fits F m2 1 a2) fun r10 m10 => if r10 = 0 then (some ((-2), m10)) else (zb (f_X2_fits F m10 2 a3) fun r21 m21 => if r21 = 0 then (some ((-2), m21)) else (zb (f_X2_fits F m21 3 a4) fun r30 m30 => if r30 = 0 then (some ((-2), m30)) else (if (m30.1 0 0 1) < 10 then (zg (inb ((m30.1 0 0 1)) 10) (zg (inb 0 4) (zg (inb 1 4) (zg (inb 2 4) (zg (inb 3 4) (some (((zwi (zwi (zwi (zwi m30 3 (((m30.1 0 0 1)).toNatClampNeg) 0 a1) 3 (((m30.1 0 0 1)).toNatClampNeg) 1 a2) 3 (((m30.1 0 0 1)).toNatClampNeg) 2 a3) 3 (((m30.1 0 0 1)).toNatClampNeg) 3 a4).1 0 0 1), (zwi (zwi (zwi (zwi (zwi m30 3 (((m30.1 0 0 1)).toNatClampNeg) 0 a1) 3 (((m30.1 0 0 1)).toNatClampNeg) 1 a2) 3 (((m30.1 0 0 1)).toNatClampNeg) 2 a3) 3 (((m30.1 0 0 1)).toNatClampNeg) 3 a4) 0 0 1 ((((zwi (zwi (zwi (zwi m30 3 (((m30.1 0 0 1)).toNatClampNeg) 0 a1) 3 (((m30.1 0 0 1)).toNatClampNeg) 1 a2) 3 (((m30.1 0 0 1)).toNatClampNeg) 2 a3) 3 (((m30.1 0 0 1)).toNatClampNeg) 3 a4).1 0 0 1) + 1)))))))))) else (some ((-4), m30))))))
set_option maxHeartbeats 4000000 in
set_option maxRecDepth 100000 in
theorem c_X10_house (l : Launch) (Z : zLay) (F : Nat) (σ : zMem) (a1 : Int32) (a2 : Int32) (a3 : Int32) (a4 : Int32) (r : Int32) (σ1 : zMem) (ho : f_X10_house F σ a1 a2 a3 a4 = some (r, σ1)) : zMet l yX10_house cX10_house 6 (some .int) 2 Z [.ref (zad Z 0 0), .int (a1), .int (a2), .int (a3), .int (a4)] σ (zQI Z r σ1) := by
  refine zMet_of (Qc := zQI Z) (by decide) (Nat.le_of_ble_eq_true rfl) [(0, .ref (zad Z 0 0)), (1, .int (a1)), (2, .int (a2)), (3, .int (a3)), (4, .int (a4))] rfl (fun E C => ?_) ho
  have hh : 2 ≤ 2 := Nat.le_refl _
  show zKO E 6 Z (zMQ E Z (zQI Z)) 0 [(0, .ref (zad Z 0 0)), (1, .int (a1)), (2, .int (a2)), (3, .int (a3)), (4, .int (a4))] [] σ _
  unfold f_X10_house
  refine zr_iconst (v := 0) C dX10_house_0 rfl ?_
  refine zr_iload_n C dX10_house_1 rfl ?_
  refine zk_X10_81 C F (Nat.le_trans (by decide) hh) (by simp [Value.category]) dX10_house_2 (fun r2 m2 => ?_)
  refine zr_if_eq (tgt := 16) C dX10_house_5 (by decide) ?_ ?_
  · refine zr_bipush (v := -2) C dX10_house_16 rfl ?_
    exact zr_iret C dX10_house_18
  · refine zr_iconst (v := 1) C dX10_house_8 rfl ?_
    refine zr_iload_n C dX10_house_9 rfl ?_
    refine zk_X10_81 C F (Nat.le_trans (by decide) hh) (by simp [Value.category]) dX10_house_10 (fun r10 m10 => ?_)
    refine zr_if_ne (tgt := 19) C dX10_house_13 (by decide) ?_ ?_
    · refine zr_iconst (v := 2) C dX10_house_19 rfl ?_
      refine zr_iload_n C dX10_house_20 rfl ?_
      refine zk_X10_81 C F (Nat.le_trans (by decide) hh) (by simp [Value.category]) dX10_house_21 (fun r21 m21 => ?_)
      refine zr_if_eq (tgt := 36) C dX10_house_24 (by decide) ?_ ?_
      · refine zr_bipush (v := -2) C dX10_house_36 rfl ?_
        exact zr_iret C dX10_house_38
      · refine zr_iconst (v := 3) C dX10_house_27 rfl ?_
        refine zr_iload C dX10_house_28 rfl ?_
        refine zk_X10_81 C F (Nat.le_trans (by decide) hh) (by simp [Value.category]) dX10_house_30 (fun r30 m30 => ?_)
        refine zr_if_ne (tgt := 39) C dX10_house_33 (by decide) ?_ ?_
        · refine zr_aload_n C dX10_house_39 rfl ?_
          refine zf_X10_85 C (Nat.le_of_ble_eq_true rfl) dX10_house_40 ?_
          refine zr_bipush (v := 10) C dX10_house_43 rfl ?_
          refine zr_icmp_lt (tgt := 51) C dX10_house_45 (by decide) ?_ ?_
          · refine zr_aload_n C dX10_house_51 rfl ?_
            refine zf_X10_11 C (Nat.le_of_ble_eq_true rfl) dX10_house_52 ?_
            refine zr_aload_n C dX10_house_55 rfl ?_
            refine zf_X10_85 C (Nat.le_of_ble_eq_true rfl) dX10_house_56 ?_
            refine zr_aald (n := 10) (k1 := 2) C dX10_house_59 (Nat.le_of_ble_eq_true rfl) rfl rfl rfl (fun hb59 => ?_)
            refine zr_astore (i := 5) (L1 := [(5, .ref _), (0, .ref _), (1, .int _), (2, .int _), (3, .int _), (4, .int _)]) C dX10_house_60 (by decide) rfl ?_
            refine zr_aload C dX10_house_62 rfl ?_
            refine zf_X10_88 C hb59 dX10_house_64 ?_
            refine zr_iconst (v := 0) C dX10_house_67 rfl ?_
            refine zr_iload_n C dX10_house_68 rfl ?_
            refine zr_iast (n := 4) C dX10_house_69 hb59 (fun _ _ => rfl) ?_
            refine zr_aload C dX10_house_70 rfl ?_
            refine zf_X10_88 C hb59 dX10_house_72 ?_
            refine zr_iconst (v := 1) C dX10_house_75 rfl ?_
            refine zr_iload_n C dX10_house_76 rfl ?_
            refine zr_iast (n := 4) C dX10_house_77 hb59 (fun _ _ => rfl) ?_
            refine zr_aload C dX10_house_78 rfl ?_
            refine zf_X10_88 C hb59 dX10_house_80 ?_
            refine zr_iconst (v := 2) C dX10_house_83 rfl ?_
            refine zr_iload_n C dX10_house_84 rfl ?_
            refine zr_iast (n := 4) C dX10_house_85 hb59 (fun _ _ => rfl) ?_
            refine zr_aload C dX10_house_86 rfl ?_
            refine zf_X10_88 C hb59 dX10_house_88 ?_
            refine zr_iconst (v := 3) C dX10_house_91 rfl ?_
            refine zr_iload C dX10_house_92 rfl ?_
            refine zr_iast (n := 4) C dX10_house_94 hb59 (fun _ _ => rfl) ?_
            refine zr_aload_n C dX10_house_95 rfl ?_
            refine zr_dup C dX10_house_96 rfl ?_
            refine zf_X10_85 C (Nat.le_of_ble_eq_true rfl) dX10_house_97 ?_
            refine zr_dup_x1 C dX10_house_100 rfl rfl ?_
            refine zr_iconst (v := 1) C dX10_house_101 rfl ?_
            refine zr_iadd C dX10_house_102 ?_
            refine zp_X10_85 C (Nat.le_of_ble_eq_true rfl) dX10_house_103 ?_
            exact zr_iret C dX10_house_106
          · refine zr_bipush (v := -4) C dX10_house_48 rfl ?_
            exact zr_iret C dX10_house_50
        · refine zr_bipush (v := -2) C dX10_house_36 rfl ?_
          exact zr_iret C dX10_house_38
    · refine zr_bipush (v := -2) C dX10_house_16 rfl ?_
      exact zr_iret C dX10_house_18
def f_X10_isHouse (F : Nat) (σ : zMem) (a1 : Int32) : Option (Int32 × zMem) := if a1 < 0 then (some (0, σ)) else (if (σ.1 0 0 1) ≤ a1 then (some (0, σ)) else (some (1, σ)))
set_option maxHeartbeats 4000000 in
set_option maxRecDepth 100000 in
theorem c_X10_isHouse (l : Launch) (Z : zLay) (F : Nat) (σ : zMem) (a1 : Int32) (r : Int32) (σ1 : zMem) (ho : f_X10_isHouse F σ a1 = some (r, σ1)) : zMet l yX10_isHouse cX10_isHouse 2 (some .boolean) 1 Z [.ref (zad Z 0 0), .int (a1)] σ (zQI Z r σ1) := by
  refine zMet_of (Qc := zQI Z) (by decide) (Nat.le_of_ble_eq_true rfl) [(0, .ref (zad Z 0 0)), (1, .int (a1))] rfl (fun E C => ?_) ho
  have hh : 1 ≤ 1 := Nat.le_refl _
  show zKO E 2 Z (zMQ E Z (zQI Z)) 0 [(0, .ref (zad Z 0 0)), (1, .int (a1))] [] σ _
  unfold f_X10_isHouse
  refine zr_iload_n C dX10_isHouse_0 rfl ?_
  refine zr_if_lt (tgt := 16) C dX10_isHouse_1 (by decide) ?_ ?_
  · refine zr_iconst (v := 0) C dX10_isHouse_16 rfl ?_
    exact zr_zret C dX10_isHouse_17 rfl
  · refine zr_iload_n C dX10_isHouse_4 rfl ?_
    refine zr_aload_n C dX10_isHouse_5 rfl ?_
    refine zf_X10_85 C (Nat.le_of_ble_eq_true rfl) dX10_isHouse_6 ?_
    refine zr_icmp_ge (tgt := 16) C dX10_isHouse_9 (by decide) ?_ ?_
    · refine zr_iconst (v := 0) C dX10_isHouse_16 rfl ?_
      exact zr_zret C dX10_isHouse_17 rfl
    · refine zr_iconst (v := 1) C dX10_isHouse_12 rfl ?_
      refine zr_goto (tgt := 17) C dX10_isHouse_13 (by decide) ?_
      exact zr_zret C dX10_isHouse_17 rfl
theorem zk_X10_91 (C : zCx E cc RX10 nL ret Z h) (F : Nat) {b0 : Int32} (hk : 0 < zN 0) (hh : 1 + 1 ≤ h) (hst8 : (st.map fun v => v.category).sum ≤ 8) (hd : decode cc pc = .ok (.invokevirtual 91, 3)) {g : Int32 → zMem → Option (α × zMem)} (kk : ∀ (r : Int32) (σ1 : zMem), zKO E nL Z QQ (pc + 3) L (.int r :: st) σ1 (g r σ1)) : zKO E nL Z QQ pc L (.int b0 :: .ref (zad Z 0 0) :: st) σ (zb (f_X10_isHouse F σ b0) g) :=
  zr_callVI (As := [.int b0]) (ia := 1) C (fun r σ1 ho => c_X10_isHouse (zla E) Z F σ b0 r σ1 ho) wz_442 hk rfl rfl wz_p0 wz_444 wz_445 wz_1 (by decide +kernel) rfl (by decide) hh hd hst8 kk
def f_X10_change_52 (F : Nat) (σ : zMem) (l2 : Int32) (l3 : Int32) (l4 : Nat) : Option (Int32 × zMem) := zg (decide (l4 < 10)) (zg (inb l2 4) (zg (inb l2 4) (some ((σ.1 3 l4 l2.toNatClampNeg), (zwi σ 3 l4 l2.toNatClampNeg l3)))))
set_option maxHeartbeats 4000000 in
set_option maxRecDepth 100000 in
theorem c_X10_change_52 (F : Nat) {E : zEn} {h : Nat} {Z : zLay} (C : zCx E cX10_change RX10 6 (some .int) Z h) (hh : 2 ≤ h) (σ : zMem) (l2 : Int32) (l3 : Int32) (l4 : Nat) : zKO E 6 Z (zMQ E Z (zQI Z)) 52 [(2, .int l2), (3, .int l3), (4, .ref (zad Z 2 l4))] [] σ (f_X10_change_52 F σ l2 l3 l4) := by
  unfold f_X10_change_52
  refine zr_g (fun hl4 => ?_)
  refine zr_aload C dX10_change_52 rfl ?_
  refine zf_X10_88 C (of_decide_eq_true hl4) dX10_change_54 ?_
  refine zr_iload_n C dX10_change_57 rfl ?_
  refine zr_iald (n := 4) C dX10_change_58 (of_decide_eq_true hl4) rfl ?_
  refine zr_istore (i := 5) (L1 := [(5, .int _), (2, .int _), (3, .int _), (4, .ref _)]) C dX10_change_59 (by decide) rfl ?_
  refine zr_aload C dX10_change_61 rfl ?_
  refine zf_X10_88 C (of_decide_eq_true hl4) dX10_change_63 ?_
  refine zr_iload_n C dX10_change_66 rfl ?_
  refine zr_iload_n C dX10_change_67 rfl ?_
  refine zr_iast (n := 4) C dX10_change_68 (of_decide_eq_true hl4) (fun _ _ => rfl) ?_
  refine zr_iload C dX10_change_69 rfl ?_
  exact zr_iret C dX10_change_71
def f_X10_change (F : Nat) (σ : zMem) (a1 : Int32) (a2 : Int32) (a3 : Int32) : Option (Int32 × zMem) := zb (f_X10_isHouse F σ a1) fun r2 m2 => if r2 = 0 then (some ((-1), m2)) else (if a2 < 0 then (some ((-1), m2)) else (if a2 < 4 then (zg (inb a1 10) (zb (f_X2_fits F m2 a2 a3) fun r29 m29 => if r29 = 0 then (some ((-2), m29)) else (if a2 = 2 then (zb (f_X2_allUp F m29 a1.toNatClampNeg) fun r43 m43 => if r43 ≤ a3 then (f_X10_change_52 F m43 a2 a3 a1.toNatClampNeg) else (some ((-2), m43))) else (f_X10_change_52 F m29 a2 a3 a1.toNatClampNeg)))) else (some ((-1), m2))))
set_option maxHeartbeats 4000000 in
set_option maxRecDepth 100000 in
theorem c_X10_change (l : Launch) (Z : zLay) (F : Nat) (σ : zMem) (a1 : Int32) (a2 : Int32) (a3 : Int32) (r : Int32) (σ1 : zMem) (ho : f_X10_change F σ a1 a2 a3 = some (r, σ1)) : zMet l yX10_change cX10_change 6 (some .int) 2 Z [.ref (zad Z 0 0), .int (a1), .int (a2), .int (a3)] σ (zQI Z r σ1) := by
  refine zMet_of (Qc := zQI Z) (by decide) (Nat.le_of_ble_eq_true rfl) [(0, .ref (zad Z 0 0)), (1, .int (a1)), (2, .int (a2)), (3, .int (a3))] rfl (fun E C => ?_) ho
  have hh : 2 ≤ 2 := Nat.le_refl _
  show zKO E 6 Z (zMQ E Z (zQI Z)) 0 [(0, .ref (zad Z 0 0)), (1, .int (a1)), (2, .int (a2)), (3, .int (a3))] [] σ _
  unfold f_X10_change
  refine zr_aload_n C dX10_change_0 rfl ?_
  refine zr_iload_n C dX10_change_1 rfl ?_
  refine zk_X10_91 C F (Nat.le_of_ble_eq_true rfl) (Nat.le_trans (by decide) hh) (by simp [Value.category]) dX10_change_2 (fun r2 m2 => ?_)
  refine zr_if_eq (tgt := 17) C dX10_change_5 (by decide) ?_ ?_
  · refine zr_iconst (v := -1) C dX10_change_17 rfl ?_
    exact zr_iret C dX10_change_18
  · refine zr_iload_n C dX10_change_8 rfl ?_
    refine zr_if_lt (tgt := 17) C dX10_change_9 (by decide) ?_ ?_
    · refine zr_iconst (v := -1) C dX10_change_17 rfl ?_
      exact zr_iret C dX10_change_18
    · refine zr_iload_n C dX10_change_12 rfl ?_
      refine zr_iconst (v := 4) C dX10_change_13 rfl ?_
      refine zr_icmp_lt (tgt := 19) C dX10_change_14 (by decide) ?_ ?_
      · refine zr_aload_n C dX10_change_19 rfl ?_
        refine zf_X10_11 C (Nat.le_of_ble_eq_true rfl) dX10_change_20 ?_
        refine zr_iload_n C dX10_change_23 rfl ?_
        refine zr_aald (n := 10) (k1 := 2) C dX10_change_24 (Nat.le_of_ble_eq_true rfl) rfl rfl rfl (fun hb24 => ?_)
        refine zr_astore (i := 4) (L1 := [(4, .ref _), (0, .ref _), (1, .int _), (2, .int _), (3, .int _)]) C dX10_change_25 (by decide) rfl ?_
        refine zr_iload_n C dX10_change_27 rfl ?_
        refine zr_iload_n C dX10_change_28 rfl ?_
        refine zk_X10_81 C F (Nat.le_trans (by decide) hh) (by simp [Value.category]) dX10_change_29 (fun r29 m29 => ?_)
        refine zr_if_eq (tgt := 49) C dX10_change_32 (by decide) ?_ ?_
        · refine zr_bipush (v := -2) C dX10_change_49 rfl ?_
          exact zr_iret C dX10_change_51
        · refine zr_iload_n C dX10_change_35 rfl ?_
          refine zr_iconst (v := 2) C dX10_change_36 rfl ?_
          refine zr_icmp_ne (tgt := 52) C dX10_change_37 (by decide) ?_ ?_
          · exact zr_sub [3, 4, 0] rfl (c_X10_change_52 F C hh m29 a2 a3 a1.toNatClampNeg)
          · refine zr_iload_n C dX10_change_40 rfl ?_
            refine zr_aload C dX10_change_41 rfl ?_
            refine zk_X10_95 C F hb24 (Nat.le_trans (by decide) hh) (by simp [Value.category]) dX10_change_43 (fun r43 m43 => ?_)
            refine zr_icmp_ge (tgt := 52) C dX10_change_46 (by decide) ?_ ?_
            · exact zr_sub [3, 4, 0] rfl (c_X10_change_52 F C hh m43 a2 a3 a1.toNatClampNeg)
            · refine zr_bipush (v := -2) C dX10_change_49 rfl ?_
              exact zr_iret C dX10_change_51
      · refine zr_iconst (v := -1) C dX10_change_17 rfl ?_
        exact zr_iret C dX10_change_18
def f_X10_told (F : Nat) (σ : zMem) (a1 : Int32) (a2 : Int32) : Option (Int32 × zMem) := zb (f_X10_isHouse F σ a1) fun r2 m2 => if r2 = 0 then (some ((-5), m2)) else (zg (inb a1 10) (if a2.toInt < 0 ∨ 12 < a2.toInt then (some ((-5), m2)) else (if a2 = 0 then (zg (inb 0 4) (some ((m2.1 3 a1.toNatClampNeg 0), m2))) else (if a2 = 1 then (zg (inb 1 4) (some ((m2.1 3 a1.toNatClampNeg 1), m2))) else (if a2 = 2 then (zg (inb 2 4) (some ((m2.1 3 a1.toNatClampNeg 2), m2))) else (if a2 = 3 then (zg (inb 3 4) (some ((m2.1 3 a1.toNatClampNeg 3), m2))) else (if a2 = 4 then (some ((m2.1 2 a1.toNatClampNeg 2), m2)) else (if a2 = 5 then (zb (f_X2_atHome F m2 a1.toNatClampNeg) fun r118 m118 => some (r118, m118)) else (if a2 = 6 then (some ((m2.1 2 a1.toNatClampNeg 3), m2)) else (if a2 = 7 then (some ((m2.1 2 a1.toNatClampNeg 4), m2)) else (if a2 = 8 then (some ((m2.1 2 a1.toNatClampNeg 5), m2)) else (if a2 = 9 then (some ((m2.1 2 a1.toNatClampNeg 6), m2)) else (if a2 = 10 then (some ((m2.1 2 a1.toNatClampNeg 7), m2)) else (if a2 = 11 then (some ((m2.1 2 a1.toNatClampNeg 10), m2)) else (if a2 = 12 then (some ((m2.1 2 a1.toNatClampNeg 11), m2)) else none)))))))))))))))
set_option maxHeartbeats 4000000 in
set_option maxRecDepth 100000 in
theorem c_X10_told (l : Launch) (Z : zLay) (F : Nat) (σ : zMem) (a1 : Int32) (a2 : Int32) (r : Int32) (σ1 : zMem) (ho : f_X10_told F σ a1 a2 = some (r, σ1)) : zMet l yX10_told cX10_told 4 (some .int) 3 Z [.ref (zad Z 0 0), .int (a1), .int (a2)] σ (zQI Z r σ1) := by
  refine zMet_of (Qc := zQI Z) (by decide) (Nat.le_of_ble_eq_true rfl) [(0, .ref (zad Z 0 0)), (1, .int (a1)), (2, .int (a2))] rfl (fun E C => ?_) ho
  have hh : 3 ≤ 3 := Nat.le_refl _
  show zKO E 4 Z (zMQ E Z (zQI Z)) 0 [(0, .ref (zad Z 0 0)), (1, .int (a1)), (2, .int (a2))] [] σ _
  unfold f_X10_told
  refine zr_aload_n C dX10_told_0 rfl ?_
  refine zr_iload_n C dX10_told_1 rfl ?_
  refine zk_X10_91 C F (Nat.le_of_ble_eq_true rfl) (Nat.le_trans (by decide) hh) (by simp [Value.category]) dX10_told_2 (fun r2 m2 => ?_)
  refine zr_if_ne (tgt := 11) C dX10_told_5 (by decide) ?_ ?_
  · refine zr_aload_n C dX10_told_11 rfl ?_
    refine zf_X10_11 C (Nat.le_of_ble_eq_true rfl) dX10_told_12 ?_
    refine zr_iload_n C dX10_told_15 rfl ?_
    refine zr_aald (n := 10) (k1 := 2) C dX10_told_16 (Nat.le_of_ble_eq_true rfl) rfl rfl rfl (fun hb16 => ?_)
    refine zr_astore_n (i := 3) (L1 := [(3, .ref _), (0, .ref _), (1, .int _), (2, .int _)]) C dX10_told_17 rfl (by decide) rfl ?_
    refine zr_iload_n C dX10_told_18 rfl ?_
    refine zr_if (fun hx => ?_) (fun _ => ?_)
    · refine zr_tabOut (tgt := 157) C dX10_told_19 hx (by decide) ?_
      refine zr_bipush (v := -5) C dX10_told_157 rfl ?_
      exact zr_iret C dX10_told_159
    · refine zr_if (fun hx => ?_) (fun _ => ?_)
      · refine zr_tabIn (tgt := 84) C dX10_told_19 (by rw [hx]; decide) (by rw [hx]; decide) (off := 65) (by rw [hx]; decide) (by decide) ?_
        refine zr_aload_n C dX10_told_84 rfl ?_
        refine zf_X10_88 C hb16 dX10_told_85 ?_
        refine zr_iconst (v := 0) C dX10_told_88 rfl ?_
        refine zr_iald (n := 4) C dX10_told_89 hb16 rfl ?_
        exact zr_iret C dX10_told_90
      · refine zr_if (fun hx => ?_) (fun _ => ?_)
        · refine zr_tabIn (tgt := 91) C dX10_told_19 (by rw [hx]; decide) (by rw [hx]; decide) (off := 72) (by rw [hx]; decide) (by decide) ?_
          refine zr_aload_n C dX10_told_91 rfl ?_
          refine zf_X10_88 C hb16 dX10_told_92 ?_
          refine zr_iconst (v := 1) C dX10_told_95 rfl ?_
          refine zr_iald (n := 4) C dX10_told_96 hb16 rfl ?_
          exact zr_iret C dX10_told_97
        · refine zr_if (fun hx => ?_) (fun _ => ?_)
          · refine zr_tabIn (tgt := 98) C dX10_told_19 (by rw [hx]; decide) (by rw [hx]; decide) (off := 79) (by rw [hx]; decide) (by decide) ?_
            refine zr_aload_n C dX10_told_98 rfl ?_
            refine zf_X10_88 C hb16 dX10_told_99 ?_
            refine zr_iconst (v := 2) C dX10_told_102 rfl ?_
            refine zr_iald (n := 4) C dX10_told_103 hb16 rfl ?_
            exact zr_iret C dX10_told_104
          · refine zr_if (fun hx => ?_) (fun _ => ?_)
            · refine zr_tabIn (tgt := 105) C dX10_told_19 (by rw [hx]; decide) (by rw [hx]; decide) (off := 86) (by rw [hx]; decide) (by decide) ?_
              refine zr_aload_n C dX10_told_105 rfl ?_
              refine zf_X10_88 C hb16 dX10_told_106 ?_
              refine zr_iconst (v := 3) C dX10_told_109 rfl ?_
              refine zr_iald (n := 4) C dX10_told_110 hb16 rfl ?_
              exact zr_iret C dX10_told_111
            · refine zr_if (fun hx => ?_) (fun _ => ?_)
              · refine zr_tabIn (tgt := 112) C dX10_told_19 (by rw [hx]; decide) (by rw [hx]; decide) (off := 93) (by rw [hx]; decide) (by decide) ?_
                refine zr_aload_n C dX10_told_112 rfl ?_
                refine zf_X10_99 C hb16 dX10_told_113 ?_
                exact zr_iret C dX10_told_116
              · refine zr_if (fun hx => ?_) (fun _ => ?_)
                · refine zr_tabIn (tgt := 117) C dX10_told_19 (by rw [hx]; decide) (by rw [hx]; decide) (off := 98) (by rw [hx]; decide) (by decide) ?_
                  refine zr_aload_n C dX10_told_117 rfl ?_
                  refine zk_X10_102 C F hb16 (Nat.le_trans (by decide) hh) (by simp [Value.category]) dX10_told_118 (fun r118 m118 => ?_)
                  exact zr_iret C dX10_told_121
                · refine zr_if (fun hx => ?_) (fun _ => ?_)
                  · refine zr_tabIn (tgt := 122) C dX10_told_19 (by rw [hx]; decide) (by rw [hx]; decide) (off := 103) (by rw [hx]; decide) (by decide) ?_
                    refine zr_aload_n C dX10_told_122 rfl ?_
                    refine zf_X10_105 C hb16 dX10_told_123 ?_
                    exact zr_iret C dX10_told_126
                  · refine zr_if (fun hx => ?_) (fun _ => ?_)
                    · refine zr_tabIn (tgt := 127) C dX10_told_19 (by rw [hx]; decide) (by rw [hx]; decide) (off := 108) (by rw [hx]; decide) (by decide) ?_
                      refine zr_aload_n C dX10_told_127 rfl ?_
                      refine zf_X10_108 C hb16 dX10_told_128 ?_
                      exact zr_iret C dX10_told_131
                    · refine zr_if (fun hx => ?_) (fun _ => ?_)
                      · refine zr_tabIn (tgt := 132) C dX10_told_19 (by rw [hx]; decide) (by rw [hx]; decide) (off := 113) (by rw [hx]; decide) (by decide) ?_
                        refine zr_aload_n C dX10_told_132 rfl ?_
                        refine zf_X10_111 C hb16 dX10_told_133 ?_
                        exact zr_iret C dX10_told_136
                      · refine zr_if (fun hx => ?_) (fun _ => ?_)
                        · refine zr_tabIn (tgt := 137) C dX10_told_19 (by rw [hx]; decide) (by rw [hx]; decide) (off := 118) (by rw [hx]; decide) (by decide) ?_
                          refine zr_aload_n C dX10_told_137 rfl ?_
                          refine zf_X10_114 C hb16 dX10_told_138 ?_
                          exact zr_iret C dX10_told_141
                        · refine zr_if (fun hx => ?_) (fun _ => ?_)
                          · refine zr_tabIn (tgt := 142) C dX10_told_19 (by rw [hx]; decide) (by rw [hx]; decide) (off := 123) (by rw [hx]; decide) (by decide) ?_
                            refine zr_aload_n C dX10_told_142 rfl ?_
                            refine zf_X10_117 C hb16 dX10_told_143 ?_
                            exact zr_iret C dX10_told_146
                          · refine zr_if (fun hx => ?_) (fun _ => ?_)
                            · refine zr_tabIn (tgt := 147) C dX10_told_19 (by rw [hx]; decide) (by rw [hx]; decide) (off := 128) (by rw [hx]; decide) (by decide) ?_
                              refine zr_aload_n C dX10_told_147 rfl ?_
                              refine zf_X10_120 C hb16 dX10_told_148 ?_
                              exact zr_iret C dX10_told_151
                            · refine zr_if (fun hx => ?_) (fun _ => ?_)
                              · refine zr_tabIn (tgt := 152) C dX10_told_19 (by rw [hx]; decide) (by rw [hx]; decide) (off := 133) (by rw [hx]; decide) (by decide) ?_
                                refine zr_aload_n C dX10_told_152 rfl ?_
                                refine zf_X10_123 C hb16 dX10_told_153 ?_
                                exact zr_iret C dX10_told_156
                              · exact zr_none
  · refine zr_bipush (v := -5) C dX10_told_8 rfl ?_
    exact zr_iret C dX10_told_10
def f_X10_counts_4 (F : Nat) (rec4 : zMem → Int32 × Int32 → Option (Int32 × zMem)) (σ : zMem) (x : Int32 × Int32) : Option (Int32 × zMem) := if (σ.1 0 0 1) ≤ x.2 then (some (x.1, σ)) else (zg (inb x.2 10) (zg (inb x.2 10) (zg (inb 3 4) (zg (inb x.2 10) (rec4 (zwi σ 2 x.2.toNatClampNeg 6 ((σ.1 3 x.2.toNatClampNeg 3))) (((x.1 + ((zwi σ 2 x.2.toNatClampNeg 6 ((σ.1 3 x.2.toNatClampNeg 3))).1 2 x.2.toNatClampNeg 6)), (x.2 + 1))))))))
set_option maxHeartbeats 4000000 in
set_option maxRecDepth 100000 in
theorem c_X10_counts_4 (F : Nat) {E : zEn} {h : Nat} {Z : zLay} (C : zCx E cX10_counts RX10 3 (some .int) Z h) (hh : 1 ≤ h) : ∀ (n : Nat) (σ : zMem) (x : Int32 × Int32), zKO E 3 Z (zMQ E Z (zQI Z)) 4 [(0, .ref (zad Z 0 0)), (1, .int x.1), (2, .int x.2)] [] σ (zit (f_X10_counts_4 F) n σ x) := by
  refine zr_loop (LL := fun (x : Int32 × Int32) => [(0, .ref (zad Z 0 0)), (1, .int x.1), (2, .int x.2)]) (ST := fun (x : Int32 × Int32) => []) (fun rec4 hrec4 σ x => ?_)
  obtain ⟨l1, l2⟩ := x
  show zKO E 3 Z (zMQ E Z (zQI Z)) 4 [(0, .ref (zad Z 0 0)), (1, .int l1), (2, .int l2)] [] σ (if (σ.1 0 0 1) ≤ l2 then (some (l1, σ)) else (zg (inb l2 10) (zg (inb l2 10) (zg (inb 3 4) (zg (inb l2 10) (rec4 (zwi σ 2 l2.toNatClampNeg 6 ((σ.1 3 l2.toNatClampNeg 3))) (((l1 + ((zwi σ 2 l2.toNatClampNeg 6 ((σ.1 3 l2.toNatClampNeg 3))).1 2 l2.toNatClampNeg 6)), (l2 + 1)))))))))
  refine zr_iload_n C dX10_counts_4 rfl ?_
  refine zr_aload_n C dX10_counts_5 rfl ?_
  refine zf_X10_85 C (Nat.le_of_ble_eq_true rfl) dX10_counts_6 ?_
  refine zr_icmp_ge (tgt := 50) C dX10_counts_9 (by decide) ?_ ?_
  · refine zr_iload_n C dX10_counts_50 rfl ?_
    exact zr_iret C dX10_counts_51
  · refine zr_aload_n C dX10_counts_12 rfl ?_
    refine zf_X10_11 C (Nat.le_of_ble_eq_true rfl) dX10_counts_13 ?_
    refine zr_iload_n C dX10_counts_16 rfl ?_
    refine zr_aald (n := 10) (k1 := 2) C dX10_counts_17 (Nat.le_of_ble_eq_true rfl) rfl rfl rfl (fun hb17 => ?_)
    refine zr_aload_n C dX10_counts_18 rfl ?_
    refine zf_X10_11 C (Nat.le_of_ble_eq_true rfl) dX10_counts_19 ?_
    refine zr_iload_n C dX10_counts_22 rfl ?_
    refine zr_aald (n := 10) (k1 := 2) C dX10_counts_23 (Nat.le_of_ble_eq_true rfl) rfl rfl rfl (fun hb23 => ?_)
    refine zf_X10_88 C hb23 dX10_counts_24 ?_
    refine zr_iconst (v := 3) C dX10_counts_27 rfl ?_
    refine zr_iald (n := 4) C dX10_counts_28 hb23 rfl ?_
    refine zp_X10_114 C hb17 dX10_counts_29 ?_
    refine zr_iload_n C dX10_counts_32 rfl ?_
    refine zr_aload_n C dX10_counts_33 rfl ?_
    refine zf_X10_11 C (Nat.le_of_ble_eq_true rfl) dX10_counts_34 ?_
    refine zr_iload_n C dX10_counts_37 rfl ?_
    refine zr_aald (n := 10) (k1 := 2) C dX10_counts_38 (Nat.le_of_ble_eq_true rfl) rfl rfl rfl (fun hb38 => ?_)
    refine zf_X10_114 C hb38 dX10_counts_39 ?_
    refine zr_iadd C dX10_counts_42 ?_
    refine zr_istore_n (i := 1) (L1 := [(1, .int _), (0, .ref _), (2, .int _)]) C dX10_counts_43 rfl (by decide) rfl ?_
    refine zr_iinc (kk := 2) (v := (l2 + 1)) (L1 := [(2, .int _), (1, .int _), (0, .ref _)]) C dX10_counts_44 rfl rfl (by decide) rfl ?_
    refine zr_goto (tgt := 4) C dX10_counts_47 (by decide) ?_
    exact zr_sub [2, 1, 0] rfl (hrec4 (zwi σ 2 l2.toNatClampNeg 6 ((σ.1 3 l2.toNatClampNeg 3))) (((l1 + ((zwi σ 2 l2.toNatClampNeg 6 ((σ.1 3 l2.toNatClampNeg 3))).1 2 l2.toNatClampNeg 6)), (l2 + 1))))
def f_X10_counts (F : Nat) (σ : zMem) : Option (Int32 × zMem) := zit (f_X10_counts_4 F) F σ ((0, 0))
set_option maxHeartbeats 4000000 in
set_option maxRecDepth 100000 in
theorem c_X10_counts (l : Launch) (Z : zLay) (F : Nat) (σ : zMem) (r : Int32) (σ1 : zMem) (ho : f_X10_counts F σ = some (r, σ1)) : zMet l yX10_counts cX10_counts 3 (some .int) 1 Z [.ref (zad Z 0 0)] σ (zQI Z r σ1) := by
  refine zMet_of (Qc := zQI Z) (by decide) (Nat.le_of_ble_eq_true rfl) [(0, .ref (zad Z 0 0))] rfl (fun E C => ?_) ho
  have hh : 1 ≤ 1 := Nat.le_refl _
  show zKO E 3 Z (zMQ E Z (zQI Z)) 0 [(0, .ref (zad Z 0 0))] [] σ _
  unfold f_X10_counts
  refine zr_iconst (v := 0) C dX10_counts_0 rfl ?_
  refine zr_istore_n (i := 1) (L1 := [(1, .int _), (0, .ref _)]) C dX10_counts_1 rfl (by decide) rfl ?_
  refine zr_iconst (v := 0) C dX10_counts_2 rfl ?_
  refine zr_istore_n (i := 2) (L1 := [(2, .int _), (1, .int _), (0, .ref _)]) C dX10_counts_3 rfl (by decide) rfl ?_
  exact zr_sub [2, 1, 0] rfl (c_X10_counts_4 F C hh F σ ((0, 0)))
def f_X10_right (F : Nat) (σ : zMem) (a1 : Int32) (a2 : Int32) (a3 : Int32) : Option (Int32 × zMem) := zb (f_X10_isHouse F σ a1) fun r2 m2 => if r2 = 0 then (some ((-1), m2)) else (if a2 < 0 then (some ((-2), m2)) else (if 6 ≤ a2 then (some ((-2), m2)) else (if a2 = 4 then (some ((-2), m2)) else (if a3 < 1 then (some ((-2), m2)) else (if a3 ≤ 999 then (if (m2.1 5 0 5) < 50 then (zb (f_X3_enter F m2 a2 a1 a3) fun r62 m62 => some (r62, m62)) else (some ((-4), m2))) else (some ((-2), m2)))))))
set_option maxHeartbeats 4000000 in
set_option maxRecDepth 100000 in
theorem c_X10_right (l : Launch) (Z : zLay) (F : Nat) (σ : zMem) (a1 : Int32) (a2 : Int32) (a3 : Int32) (r : Int32) (σ1 : zMem) (ho : f_X10_right F σ a1 a2 a3 = some (r, σ1)) : zMet l yX10_right cX10_right 4 (some .int) 2 Z [.ref (zad Z 0 0), .int (a1), .int (a2), .int (a3)] σ (zQI Z r σ1) := by
  refine zMet_of (Qc := zQI Z) (by decide) (Nat.le_of_ble_eq_true rfl) [(0, .ref (zad Z 0 0)), (1, .int (a1)), (2, .int (a2)), (3, .int (a3))] rfl (fun E C => ?_) ho
  have hh : 2 ≤ 2 := Nat.le_refl _
  show zKO E 4 Z (zMQ E Z (zQI Z)) 0 [(0, .ref (zad Z 0 0)), (1, .int (a1)), (2, .int (a2)), (3, .int (a3))] [] σ _
  unfold f_X10_right
  refine zr_aload_n C dX10_right_0 rfl ?_
  refine zr_iload_n C dX10_right_1 rfl ?_
  refine zk_X10_91 C F (Nat.le_of_ble_eq_true rfl) (Nat.le_trans (by decide) hh) (by simp [Value.category]) dX10_right_2 (fun r2 m2 => ?_)
  refine zr_if_ne (tgt := 10) C dX10_right_5 (by decide) ?_ ?_
  · refine zr_iload_n C dX10_right_10 rfl ?_
    refine zr_if_lt (tgt := 37) C dX10_right_11 (by decide) ?_ ?_
    · refine zr_bipush (v := -2) C dX10_right_37 rfl ?_
      exact zr_iret C dX10_right_39
    · refine zr_iload_n C dX10_right_14 rfl ?_
      refine zr_bipush (v := 6) C dX10_right_15 rfl ?_
      refine zr_icmp_ge (tgt := 37) C dX10_right_17 (by decide) ?_ ?_
      · refine zr_bipush (v := -2) C dX10_right_37 rfl ?_
        exact zr_iret C dX10_right_39
      · refine zr_iload_n C dX10_right_20 rfl ?_
        refine zr_iconst (v := 4) C dX10_right_21 rfl ?_
        refine zr_icmp_eq (tgt := 37) C dX10_right_22 (by decide) ?_ ?_
        · refine zr_bipush (v := -2) C dX10_right_37 rfl ?_
          exact zr_iret C dX10_right_39
        · refine zr_iload_n C dX10_right_25 rfl ?_
          refine zr_iconst (v := 1) C dX10_right_26 rfl ?_
          refine zr_icmp_lt (tgt := 37) C dX10_right_27 (by decide) ?_ ?_
          · refine zr_bipush (v := -2) C dX10_right_37 rfl ?_
            exact zr_iret C dX10_right_39
          · refine zr_iload_n C dX10_right_30 rfl ?_
            refine zr_sipush (v := 999) C dX10_right_31 rfl ?_
            refine zr_icmp_le (tgt := 40) C dX10_right_34 (by decide) ?_ ?_
            · refine zr_aload_n C dX10_right_40 rfl ?_
              refine zf_X10_18 C (Nat.le_of_ble_eq_true rfl) dX10_right_41 ?_
              refine zf_X10_126 C (Nat.le_of_ble_eq_true rfl) dX10_right_44 ?_
              refine zr_bipush (v := 50) C dX10_right_47 rfl ?_
              refine zr_icmp_lt (tgt := 55) C dX10_right_49 (by decide) ?_ ?_
              · refine zr_aload_n C dX10_right_55 rfl ?_
                refine zf_X10_18 C (Nat.le_of_ble_eq_true rfl) dX10_right_56 ?_
                refine zr_iload_n C dX10_right_59 rfl ?_
                refine zr_iload_n C dX10_right_60 rfl ?_
                refine zr_iload_n C dX10_right_61 rfl ?_
                refine zk_X10_129 C F (Nat.le_of_ble_eq_true rfl) (Nat.le_trans (by decide) hh) (by simp [Value.category]) dX10_right_62 (fun r62 m62 => ?_)
                exact zr_iret C dX10_right_65
              · refine zr_bipush (v := -4) C dX10_right_52 rfl ?_
                exact zr_iret C dX10_right_54
            · refine zr_bipush (v := -2) C dX10_right_37 rfl ?_
              exact zr_iret C dX10_right_39
  · refine zr_iconst (v := -1) C dX10_right_8 rfl ?_
    exact zr_iret C dX10_right_9
def f_X10_split_117 (F : Nat) (σ : zMem) (l1 : Int32) (l2 : Int32) (s0 : Int32) : Option (Int32 × zMem) := zg (inb l1 50) (zb (f_X3_enter F σ s0 ((σ.1 7 0 l1.toNatClampNeg)) l2) fun r133 m133 => some (r133, m133))
set_option maxHeartbeats 4000000 in
set_option maxRecDepth 100000 in
theorem c_X10_split_117 (F : Nat) {E : zEn} {h : Nat} {Z : zLay} (C : zCx E cX10_split RX10 4 (some .int) Z h) (hh : 2 ≤ h) (σ : zMem) (l1 : Int32) (l2 : Int32) (s0 : Int32) : zKO E 4 Z (zMQ E Z (zQI Z)) 117 [(0, .ref (zad Z 0 0)), (1, .int l1), (2, .int l2)] [.int s0] σ (f_X10_split_117 F σ l1 l2 s0) := by
  unfold f_X10_split_117
  refine zr_istore_n (i := 3) (L1 := [(3, .int _), (0, .ref _), (1, .int _), (2, .int _)]) C dX10_split_117 rfl (by decide) rfl ?_
  refine zr_aload_n C dX10_split_118 rfl ?_
  refine zf_X10_18 C (Nat.le_of_ble_eq_true rfl) dX10_split_119 ?_
  refine zr_iload_n C dX10_split_122 rfl ?_
  refine zr_aload_n C dX10_split_123 rfl ?_
  refine zf_X10_18 C (Nat.le_of_ble_eq_true rfl) dX10_split_124 ?_
  refine zf_X10_151 C (Nat.le_of_ble_eq_true rfl) dX10_split_127 ?_
  refine zr_iload_n C dX10_split_130 rfl ?_
  refine zr_iald (n := 50) C dX10_split_131 (Nat.le_of_ble_eq_true rfl) rfl ?_
  refine zr_iload_n C dX10_split_132 rfl ?_
  refine zk_X10_129 C F (Nat.le_of_ble_eq_true rfl) (Nat.le_trans (by decide) hh) (by simp [Value.category]) dX10_split_133 (fun r133 m133 => ?_)
  exact zr_iret C dX10_split_136
def f_X10_split (F : Nat) (σ : zMem) (a1 : Int32) (a2 : Int32) : Option (Int32 × zMem) := zb (f_X3_has F σ a1) fun r5 m5 => if r5 = 0 then (some ((-1), m5)) else (if a2 < 1 then (some ((-2), m5)) else (zg (inb a1 50) (if a2 < (m5.1 8 0 a1.toNatClampNeg) then (zb (f_X3_commonOf F m5 a1) fun r39 m39 => if r39 < 0 then (some ((-3), m39)) else (zb (f_X3_isLent F m39 a1 ((m39.1 0 0 11))) fun r54 m54 => if r54 = 0 then (if (m54.1 5 0 5) < 50 then (zg (inb a1 50) (zg (inb a1 50) (zg (inb a1 50) (if ((zwi m54 8 0 a1.toNatClampNeg (((m54.1 8 0 a1.toNatClampNeg) - a2))).1 6 0 a1.toNatClampNeg) = 1 then (f_X10_split_117 F (zwi m54 8 0 a1.toNatClampNeg (((m54.1 8 0 a1.toNatClampNeg) - a2))) a1 a2 4) else (zg (inb a1 50) (f_X10_split_117 F (zwi m54 8 0 a1.toNatClampNeg (((m54.1 8 0 a1.toNatClampNeg) - a2))) a1 a2 (((zwi m54 8 0 a1.toNatClampNeg (((m54.1 8 0 a1.toNatClampNeg) - a2))).1 6 0 a1.toNatClampNeg)))))))) else (some ((-4), m54))) else (some ((-3), m54)))) else (some ((-2), m5)))))
set_option maxHeartbeats 4000000 in
set_option maxRecDepth 100000 in
theorem c_X10_split (l : Launch) (Z : zLay) (F : Nat) (σ : zMem) (a1 : Int32) (a2 : Int32) (r : Int32) (σ1 : zMem) (ho : f_X10_split F σ a1 a2 = some (r, σ1)) : zMet l yX10_split cX10_split 4 (some .int) 2 Z [.ref (zad Z 0 0), .int (a1), .int (a2)] σ (zQI Z r σ1) := by
  refine zMet_of (Qc := zQI Z) (by decide) (Nat.le_of_ble_eq_true rfl) [(0, .ref (zad Z 0 0)), (1, .int (a1)), (2, .int (a2))] rfl (fun E C => ?_) ho
  have hh : 2 ≤ 2 := Nat.le_refl _
  show zKO E 4 Z (zMQ E Z (zQI Z)) 0 [(0, .ref (zad Z 0 0)), (1, .int (a1)), (2, .int (a2))] [] σ _
  unfold f_X10_split
  refine zr_aload_n C dX10_split_0 rfl ?_
  refine zf_X10_18 C (Nat.le_of_ble_eq_true rfl) dX10_split_1 ?_
  refine zr_iload_n C dX10_split_4 rfl ?_
  refine zk_X10_133 C F (Nat.le_of_ble_eq_true rfl) (Nat.le_trans (by decide) hh) (by simp [Value.category]) dX10_split_5 (fun r5 m5 => ?_)
  refine zr_if_ne (tgt := 13) C dX10_split_8 (by decide) ?_ ?_
  · refine zr_iload_n C dX10_split_13 rfl ?_
    refine zr_iconst (v := 1) C dX10_split_14 rfl ?_
    refine zr_icmp_lt (tgt := 31) C dX10_split_15 (by decide) ?_ ?_
    · refine zr_bipush (v := -2) C dX10_split_31 rfl ?_
      exact zr_iret C dX10_split_33
    · refine zr_iload_n C dX10_split_18 rfl ?_
      refine zr_aload_n C dX10_split_19 rfl ?_
      refine zf_X10_18 C (Nat.le_of_ble_eq_true rfl) dX10_split_20 ?_
      refine zf_X10_135 C (Nat.le_of_ble_eq_true rfl) dX10_split_23 ?_
      refine zr_iload_n C dX10_split_26 rfl ?_
      refine zr_iald (n := 50) C dX10_split_27 (Nat.le_of_ble_eq_true rfl) rfl ?_
      refine zr_icmp_lt (tgt := 34) C dX10_split_28 (by decide) ?_ ?_
      · refine zr_aload_n C dX10_split_34 rfl ?_
        refine zf_X10_18 C (Nat.le_of_ble_eq_true rfl) dX10_split_35 ?_
        refine zr_iload_n C dX10_split_38 rfl ?_
        refine zk_X10_138 C F (Nat.le_of_ble_eq_true rfl) (Nat.le_trans (by decide) hh) (by simp [Value.category]) dX10_split_39 (fun r39 m39 => ?_)
        refine zr_if_lt (tgt := 60) C dX10_split_42 (by decide) ?_ ?_
        · refine zr_bipush (v := -3) C dX10_split_60 rfl ?_
          exact zr_iret C dX10_split_62
        · refine zr_aload_n C dX10_split_45 rfl ?_
          refine zf_X10_18 C (Nat.le_of_ble_eq_true rfl) dX10_split_46 ?_
          refine zr_iload_n C dX10_split_49 rfl ?_
          refine zr_aload_n C dX10_split_50 rfl ?_
          refine zf_X10_142 C (Nat.le_of_ble_eq_true rfl) dX10_split_51 ?_
          refine zk_X10_145 C F (Nat.le_of_ble_eq_true rfl) (Nat.le_trans (by decide) hh) (by simp [Value.category]) dX10_split_54 (fun r54 m54 => ?_)
          refine zr_if_eq (tgt := 63) C dX10_split_57 (by decide) ?_ ?_
          · refine zr_aload_n C dX10_split_63 rfl ?_
            refine zf_X10_18 C (Nat.le_of_ble_eq_true rfl) dX10_split_64 ?_
            refine zf_X10_126 C (Nat.le_of_ble_eq_true rfl) dX10_split_67 ?_
            refine zr_bipush (v := 50) C dX10_split_70 rfl ?_
            refine zr_icmp_lt (tgt := 78) C dX10_split_72 (by decide) ?_ ?_
            · refine zr_aload_n C dX10_split_78 rfl ?_
              refine zf_X10_18 C (Nat.le_of_ble_eq_true rfl) dX10_split_79 ?_
              refine zf_X10_135 C (Nat.le_of_ble_eq_true rfl) dX10_split_82 ?_
              refine zr_iload_n C dX10_split_85 rfl ?_
              refine zr_dup2 C dX10_split_86 rfl rfl ?_
              refine zr_iald (n := 50) C dX10_split_87 (Nat.le_of_ble_eq_true rfl) rfl ?_
              refine zr_iload_n C dX10_split_88 rfl ?_
              refine zr_isub C dX10_split_89 ?_
              refine zr_iast (n := 50) C dX10_split_90 (Nat.le_of_ble_eq_true rfl) (fun _ _ => rfl) ?_
              refine zr_aload_n C dX10_split_91 rfl ?_
              refine zf_X10_18 C (Nat.le_of_ble_eq_true rfl) dX10_split_92 ?_
              refine zf_X10_148 C (Nat.le_of_ble_eq_true rfl) dX10_split_95 ?_
              refine zr_iload_n C dX10_split_98 rfl ?_
              refine zr_iald (n := 50) C dX10_split_99 (Nat.le_of_ble_eq_true rfl) rfl ?_
              refine zr_iconst (v := 1) C dX10_split_100 rfl ?_
              refine zr_icmp_ne (tgt := 108) C dX10_split_101 (by decide) ?_ ?_
              · refine zr_aload_n C dX10_split_108 rfl ?_
                refine zf_X10_18 C (Nat.le_of_ble_eq_true rfl) dX10_split_109 ?_
                refine zf_X10_148 C (Nat.le_of_ble_eq_true rfl) dX10_split_112 ?_
                refine zr_iload_n C dX10_split_115 rfl ?_
                refine zr_iald (n := 50) C dX10_split_116 (Nat.le_of_ble_eq_true rfl) rfl ?_
                exact zr_sub [0, 1, 2] rfl (c_X10_split_117 F C hh (zwi m54 8 0 a1.toNatClampNeg (((m54.1 8 0 a1.toNatClampNeg) - a2))) a1 a2 (((zwi m54 8 0 a1.toNatClampNeg (((m54.1 8 0 a1.toNatClampNeg) - a2))).1 6 0 a1.toNatClampNeg)))
              · refine zr_iconst (v := 4) C dX10_split_104 rfl ?_
                refine zr_goto (tgt := 117) C dX10_split_105 (by decide) ?_
                exact zr_sub [0, 1, 2] rfl (c_X10_split_117 F C hh (zwi m54 8 0 a1.toNatClampNeg (((m54.1 8 0 a1.toNatClampNeg) - a2))) a1 a2 4)
            · refine zr_bipush (v := -4) C dX10_split_75 rfl ?_
              exact zr_iret C dX10_split_77
          · refine zr_bipush (v := -3) C dX10_split_60 rfl ?_
            exact zr_iret C dX10_split_62
      · refine zr_bipush (v := -2) C dX10_split_31 rfl ?_
        exact zr_iret C dX10_split_33
  · refine zr_iconst (v := -1) C dX10_split_11 rfl ?_
    exact zr_iret C dX10_split_12
def f_X10_join (F : Nat) (σ : zMem) (a1 : Int32) (a2 : Int32) : Option (Int32 × zMem) := zb (f_X3_has F σ a1) fun r5 m5 => if r5 = 0 then (some ((-1), m5)) else (zb (f_X3_has F m5 a2) fun r16 m16 => if r16 = 0 then (some ((-1), m16)) else (if a1 = a2 then (some ((-2), m16)) else (zb (f_X3_joinable F m16 a1 a2 ((m16.1 0 0 11))) fun r42 m42 => if r42 = 0 then (some ((-3), m42)) else (zg (inb a2 50) (zg (inb a1 50) (zg (inb a2 50) (zg (inb a1 50) (zg (inb a2 50) (some (((zwi (zwi m42 8 0 a2.toNatClampNeg (((m42.1 8 0 a2.toNatClampNeg) + (m42.1 8 0 a1.toNatClampNeg)))) 8 0 a1.toNatClampNeg 0).1 8 0 a2.toNatClampNeg), (zwi (zwi m42 8 0 a2.toNatClampNeg (((m42.1 8 0 a2.toNatClampNeg) + (m42.1 8 0 a1.toNatClampNeg)))) 8 0 a1.toNatClampNeg 0)))))))))))
set_option maxHeartbeats 4000000 in
set_option maxRecDepth 100000 in
theorem c_X10_join (l : Launch) (Z : zLay) (F : Nat) (σ : zMem) (a1 : Int32) (a2 : Int32) (r : Int32) (σ1 : zMem) (ho : f_X10_join F σ a1 a2 = some (r, σ1)) : zMet l yX10_join cX10_join 3 (some .int) 3 Z [.ref (zad Z 0 0), .int (a1), .int (a2)] σ (zQI Z r σ1) := by
  refine zMet_of (Qc := zQI Z) (by decide) (Nat.le_of_ble_eq_true rfl) [(0, .ref (zad Z 0 0)), (1, .int (a1)), (2, .int (a2))] rfl (fun E C => ?_) ho
  have hh : 3 ≤ 3 := Nat.le_refl _
  show zKO E 3 Z (zMQ E Z (zQI Z)) 0 [(0, .ref (zad Z 0 0)), (1, .int (a1)), (2, .int (a2))] [] σ _
  unfold f_X10_join
  refine zr_aload_n C dX10_join_0 rfl ?_
  refine zf_X10_18 C (Nat.le_of_ble_eq_true rfl) dX10_join_1 ?_
  refine zr_iload_n C dX10_join_4 rfl ?_
  refine zk_X10_133 C F (Nat.le_of_ble_eq_true rfl) (Nat.le_trans (by decide) hh) (by simp [Value.category]) dX10_join_5 (fun r5 m5 => ?_)
  refine zr_if_eq (tgt := 22) C dX10_join_8 (by decide) ?_ ?_
  · refine zr_iconst (v := -1) C dX10_join_22 rfl ?_
    exact zr_iret C dX10_join_23
  · refine zr_aload_n C dX10_join_11 rfl ?_
    refine zf_X10_18 C (Nat.le_of_ble_eq_true rfl) dX10_join_12 ?_
    refine zr_iload_n C dX10_join_15 rfl ?_
    refine zk_X10_133 C F (Nat.le_of_ble_eq_true rfl) (Nat.le_trans (by decide) hh) (by simp [Value.category]) dX10_join_16 (fun r16 m16 => ?_)
    refine zr_if_ne (tgt := 24) C dX10_join_19 (by decide) ?_ ?_
    · refine zr_iload_n C dX10_join_24 rfl ?_
      refine zr_iload_n C dX10_join_25 rfl ?_
      refine zr_icmp_ne (tgt := 32) C dX10_join_26 (by decide) ?_ ?_
      · refine zr_aload_n C dX10_join_32 rfl ?_
        refine zf_X10_18 C (Nat.le_of_ble_eq_true rfl) dX10_join_33 ?_
        refine zr_iload_n C dX10_join_36 rfl ?_
        refine zr_iload_n C dX10_join_37 rfl ?_
        refine zr_aload_n C dX10_join_38 rfl ?_
        refine zf_X10_142 C (Nat.le_of_ble_eq_true rfl) dX10_join_39 ?_
        refine zk_X10_154 C F (Nat.le_of_ble_eq_true rfl) (Nat.le_trans (by decide) hh) (by simp [Value.category]) dX10_join_42 (fun r42 m42 => ?_)
        refine zr_if_ne (tgt := 51) C dX10_join_45 (by decide) ?_ ?_
        · refine zr_aload_n C dX10_join_51 rfl ?_
          refine zf_X10_18 C (Nat.le_of_ble_eq_true rfl) dX10_join_52 ?_
          refine zf_X10_135 C (Nat.le_of_ble_eq_true rfl) dX10_join_55 ?_
          refine zr_iload_n C dX10_join_58 rfl ?_
          refine zr_dup2 C dX10_join_59 rfl rfl ?_
          refine zr_iald (n := 50) C dX10_join_60 (Nat.le_of_ble_eq_true rfl) rfl ?_
          refine zr_aload_n C dX10_join_61 rfl ?_
          refine zf_X10_18 C (Nat.le_of_ble_eq_true rfl) dX10_join_62 ?_
          refine zf_X10_135 C (Nat.le_of_ble_eq_true rfl) dX10_join_65 ?_
          refine zr_iload_n C dX10_join_68 rfl ?_
          refine zr_iald (n := 50) C dX10_join_69 (Nat.le_of_ble_eq_true rfl) rfl ?_
          refine zr_iadd C dX10_join_70 ?_
          refine zr_iast (n := 50) C dX10_join_71 (Nat.le_of_ble_eq_true rfl) (fun _ _ => rfl) ?_
          refine zr_aload_n C dX10_join_72 rfl ?_
          refine zf_X10_18 C (Nat.le_of_ble_eq_true rfl) dX10_join_73 ?_
          refine zf_X10_135 C (Nat.le_of_ble_eq_true rfl) dX10_join_76 ?_
          refine zr_iload_n C dX10_join_79 rfl ?_
          refine zr_iconst (v := 0) C dX10_join_80 rfl ?_
          refine zr_iast (n := 50) C dX10_join_81 (Nat.le_of_ble_eq_true rfl) (fun _ _ => rfl) ?_
          refine zr_aload_n C dX10_join_82 rfl ?_
          refine zf_X10_18 C (Nat.le_of_ble_eq_true rfl) dX10_join_83 ?_
          refine zf_X10_135 C (Nat.le_of_ble_eq_true rfl) dX10_join_86 ?_
          refine zr_iload_n C dX10_join_89 rfl ?_
          refine zr_iald (n := 50) C dX10_join_90 (Nat.le_of_ble_eq_true rfl) rfl ?_
          exact zr_iret C dX10_join_91
        · refine zr_bipush (v := -3) C dX10_join_48 rfl ?_
          exact zr_iret C dX10_join_50
      · refine zr_bipush (v := -2) C dX10_join_29 rfl ?_
        exact zr_iret C dX10_join_31
    · refine zr_iconst (v := -1) C dX10_join_22 rfl ?_
      exact zr_iret C dX10_join_23
def f_X10_lend (F : Nat) (σ : zMem) (a1 : Int32) (a2 : Int32) (a3 : Int32) : Option (Int32 × zMem) := zb (f_X3_has F σ a1) fun r5 m5 => if r5 = 0 then (some ((-1), m5)) else (zb (f_X10_isHouse F m5 a2) fun r13 m13 => if r13 = 0 then (some ((-1), m13)) else (if a3 ≤ (m13.1 0 0 11) then (some ((-2), m13)) else (if a3 ≤ 7199 then (zb (f_X3_isLent F m13 a1 ((m13.1 0 0 11))) fun r48 m48 => if r48 = 0 then (zg (inb a1 50) (if (m48.1 7 0 a1.toNatClampNeg) = a2 then (some ((-3), m48)) else (zg (inb a1 50) (if (m48.1 6 0 a1.toNatClampNeg) = 5 then (some ((-3), m48)) else (zg (inb a1 50) (zg (inb a1 50) (some (1, (zwi (zwi m48 9 0 a1.toNatClampNeg a2) 10 0 a1.toNatClampNeg a3))))))))) else (some ((-3), m48))) else (some ((-2), m13)))))
set_option maxHeartbeats 4000000 in
set_option maxRecDepth 100000 in
theorem c_X10_lend (l : Launch) (Z : zLay) (F : Nat) (σ : zMem) (a1 : Int32) (a2 : Int32) (a3 : Int32) (r : Int32) (σ1 : zMem) (ho : f_X10_lend F σ a1 a2 a3 = some (r, σ1)) : zMet l yX10_lend cX10_lend 4 (some .int) 2 Z [.ref (zad Z 0 0), .int (a1), .int (a2), .int (a3)] σ (zQI Z r σ1) := by
  refine zMet_of (Qc := zQI Z) (by decide) (Nat.le_of_ble_eq_true rfl) [(0, .ref (zad Z 0 0)), (1, .int (a1)), (2, .int (a2)), (3, .int (a3))] rfl (fun E C => ?_) ho
  have hh : 2 ≤ 2 := Nat.le_refl _
  show zKO E 4 Z (zMQ E Z (zQI Z)) 0 [(0, .ref (zad Z 0 0)), (1, .int (a1)), (2, .int (a2)), (3, .int (a3))] [] σ _
  unfold f_X10_lend
  refine zr_aload_n C dX10_lend_0 rfl ?_
  refine zf_X10_18 C (Nat.le_of_ble_eq_true rfl) dX10_lend_1 ?_
  refine zr_iload_n C dX10_lend_4 rfl ?_
  refine zk_X10_133 C F (Nat.le_of_ble_eq_true rfl) (Nat.le_trans (by decide) hh) (by simp [Value.category]) dX10_lend_5 (fun r5 m5 => ?_)
  refine zr_if_eq (tgt := 19) C dX10_lend_8 (by decide) ?_ ?_
  · refine zr_iconst (v := -1) C dX10_lend_19 rfl ?_
    exact zr_iret C dX10_lend_20
  · refine zr_aload_n C dX10_lend_11 rfl ?_
    refine zr_iload_n C dX10_lend_12 rfl ?_
    refine zk_X10_91 C F (Nat.le_of_ble_eq_true rfl) (Nat.le_trans (by decide) hh) (by simp [Value.category]) dX10_lend_13 (fun r13 m13 => ?_)
    refine zr_if_ne (tgt := 21) C dX10_lend_16 (by decide) ?_ ?_
    · refine zr_iload_n C dX10_lend_21 rfl ?_
      refine zr_aload_n C dX10_lend_22 rfl ?_
      refine zf_X10_142 C (Nat.le_of_ble_eq_true rfl) dX10_lend_23 ?_
      refine zr_icmp_le (tgt := 36) C dX10_lend_26 (by decide) ?_ ?_
      · refine zr_bipush (v := -2) C dX10_lend_36 rfl ?_
        exact zr_iret C dX10_lend_38
      · refine zr_iload_n C dX10_lend_29 rfl ?_
        refine zr_sipush (v := 7199) C dX10_lend_30 rfl ?_
        refine zr_icmp_le (tgt := 39) C dX10_lend_33 (by decide) ?_ ?_
        · refine zr_aload_n C dX10_lend_39 rfl ?_
          refine zf_X10_18 C (Nat.le_of_ble_eq_true rfl) dX10_lend_40 ?_
          refine zr_iload_n C dX10_lend_43 rfl ?_
          refine zr_aload_n C dX10_lend_44 rfl ?_
          refine zf_X10_142 C (Nat.le_of_ble_eq_true rfl) dX10_lend_45 ?_
          refine zk_X10_145 C F (Nat.le_of_ble_eq_true rfl) (Nat.le_trans (by decide) hh) (by simp [Value.category]) dX10_lend_48 (fun r48 m48 => ?_)
          refine zr_if_ne (tgt := 80) C dX10_lend_51 (by decide) ?_ ?_
          · refine zr_bipush (v := -3) C dX10_lend_80 rfl ?_
            exact zr_iret C dX10_lend_82
          · refine zr_aload_n C dX10_lend_54 rfl ?_
            refine zf_X10_18 C (Nat.le_of_ble_eq_true rfl) dX10_lend_55 ?_
            refine zf_X10_151 C (Nat.le_of_ble_eq_true rfl) dX10_lend_58 ?_
            refine zr_iload_n C dX10_lend_61 rfl ?_
            refine zr_iald (n := 50) C dX10_lend_62 (Nat.le_of_ble_eq_true rfl) rfl ?_
            refine zr_iload_n C dX10_lend_63 rfl ?_
            refine zr_icmp_eq (tgt := 80) C dX10_lend_64 (by decide) ?_ ?_
            · refine zr_bipush (v := -3) C dX10_lend_80 rfl ?_
              exact zr_iret C dX10_lend_82
            · refine zr_aload_n C dX10_lend_67 rfl ?_
              refine zf_X10_18 C (Nat.le_of_ble_eq_true rfl) dX10_lend_68 ?_
              refine zf_X10_148 C (Nat.le_of_ble_eq_true rfl) dX10_lend_71 ?_
              refine zr_iload_n C dX10_lend_74 rfl ?_
              refine zr_iald (n := 50) C dX10_lend_75 (Nat.le_of_ble_eq_true rfl) rfl ?_
              refine zr_iconst (v := 5) C dX10_lend_76 rfl ?_
              refine zr_icmp_ne (tgt := 83) C dX10_lend_77 (by decide) ?_ ?_
              · refine zr_aload_n C dX10_lend_83 rfl ?_
                refine zf_X10_18 C (Nat.le_of_ble_eq_true rfl) dX10_lend_84 ?_
                refine zf_X10_158 C (Nat.le_of_ble_eq_true rfl) dX10_lend_87 ?_
                refine zr_iload_n C dX10_lend_90 rfl ?_
                refine zr_iload_n C dX10_lend_91 rfl ?_
                refine zr_iast (n := 50) C dX10_lend_92 (Nat.le_of_ble_eq_true rfl) (fun _ _ => rfl) ?_
                refine zr_aload_n C dX10_lend_93 rfl ?_
                refine zf_X10_18 C (Nat.le_of_ble_eq_true rfl) dX10_lend_94 ?_
                refine zf_X10_161 C (Nat.le_of_ble_eq_true rfl) dX10_lend_97 ?_
                refine zr_iload_n C dX10_lend_100 rfl ?_
                refine zr_iload_n C dX10_lend_101 rfl ?_
                refine zr_iast (n := 50) C dX10_lend_102 (Nat.le_of_ble_eq_true rfl) (fun _ _ => rfl) ?_
                refine zr_iconst (v := 1) C dX10_lend_103 rfl ?_
                exact zr_iret C dX10_lend_104
              · refine zr_bipush (v := -3) C dX10_lend_80 rfl ?_
                exact zr_iret C dX10_lend_82
        · refine zr_bipush (v := -2) C dX10_lend_36 rfl ?_
          exact zr_iret C dX10_lend_38
    · refine zr_iconst (v := -1) C dX10_lend_19 rfl ?_
      exact zr_iret C dX10_lend_20
def f_X10_leave (F : Nat) (σ : zMem) (a1 : Int32) (a2 : Int32) : Option (Int32 × zMem) := zb (f_X3_has F σ a1) fun r5 m5 => if r5 = 0 then (some ((-1), m5)) else (zb (f_X10_isHouse F m5 a2) fun r13 m13 => if r13 = 0 then (some ((-1), m13)) else (zg (inb a1 50) (if (m13.1 6 0 a1.toNatClampNeg) = 5 then (some ((-3), m13)) else (zg (inb a1 50) (zg (inb a1 50) (some ((m13.1 7 0 a1.toNatClampNeg), (zwi m13 7 0 a1.toNatClampNeg a2))))))))
set_option maxHeartbeats 4000000 in
set_option maxRecDepth 100000 in
theorem c_X10_leave (l : Launch) (Z : zLay) (F : Nat) (σ : zMem) (a1 : Int32) (a2 : Int32) (r : Int32) (σ1 : zMem) (ho : f_X10_leave F σ a1 a2 = some (r, σ1)) : zMet l yX10_leave cX10_leave 4 (some .int) 2 Z [.ref (zad Z 0 0), .int (a1), .int (a2)] σ (zQI Z r σ1) := by
  refine zMet_of (Qc := zQI Z) (by decide) (Nat.le_of_ble_eq_true rfl) [(0, .ref (zad Z 0 0)), (1, .int (a1)), (2, .int (a2))] rfl (fun E C => ?_) ho
  have hh : 2 ≤ 2 := Nat.le_refl _
  show zKO E 4 Z (zMQ E Z (zQI Z)) 0 [(0, .ref (zad Z 0 0)), (1, .int (a1)), (2, .int (a2))] [] σ _
  unfold f_X10_leave
  refine zr_aload_n C dX10_leave_0 rfl ?_
  refine zf_X10_18 C (Nat.le_of_ble_eq_true rfl) dX10_leave_1 ?_
  refine zr_iload_n C dX10_leave_4 rfl ?_
  refine zk_X10_133 C F (Nat.le_of_ble_eq_true rfl) (Nat.le_trans (by decide) hh) (by simp [Value.category]) dX10_leave_5 (fun r5 m5 => ?_)
  refine zr_if_eq (tgt := 19) C dX10_leave_8 (by decide) ?_ ?_
  · refine zr_iconst (v := -1) C dX10_leave_19 rfl ?_
    exact zr_iret C dX10_leave_20
  · refine zr_aload_n C dX10_leave_11 rfl ?_
    refine zr_iload_n C dX10_leave_12 rfl ?_
    refine zk_X10_91 C F (Nat.le_of_ble_eq_true rfl) (Nat.le_trans (by decide) hh) (by simp [Value.category]) dX10_leave_13 (fun r13 m13 => ?_)
    refine zr_if_ne (tgt := 21) C dX10_leave_16 (by decide) ?_ ?_
    · refine zr_aload_n C dX10_leave_21 rfl ?_
      refine zf_X10_18 C (Nat.le_of_ble_eq_true rfl) dX10_leave_22 ?_
      refine zf_X10_148 C (Nat.le_of_ble_eq_true rfl) dX10_leave_25 ?_
      refine zr_iload_n C dX10_leave_28 rfl ?_
      refine zr_iald (n := 50) C dX10_leave_29 (Nat.le_of_ble_eq_true rfl) rfl ?_
      refine zr_iconst (v := 5) C dX10_leave_30 rfl ?_
      refine zr_icmp_ne (tgt := 37) C dX10_leave_31 (by decide) ?_ ?_
      · refine zr_aload_n C dX10_leave_37 rfl ?_
        refine zf_X10_18 C (Nat.le_of_ble_eq_true rfl) dX10_leave_38 ?_
        refine zf_X10_151 C (Nat.le_of_ble_eq_true rfl) dX10_leave_41 ?_
        refine zr_iload_n C dX10_leave_44 rfl ?_
        refine zr_iald (n := 50) C dX10_leave_45 (Nat.le_of_ble_eq_true rfl) rfl ?_
        refine zr_istore_n (i := 3) (L1 := [(3, .int _), (0, .ref _), (1, .int _), (2, .int _)]) C dX10_leave_46 rfl (by decide) rfl ?_
        refine zr_aload_n C dX10_leave_47 rfl ?_
        refine zf_X10_18 C (Nat.le_of_ble_eq_true rfl) dX10_leave_48 ?_
        refine zf_X10_151 C (Nat.le_of_ble_eq_true rfl) dX10_leave_51 ?_
        refine zr_iload_n C dX10_leave_54 rfl ?_
        refine zr_iload_n C dX10_leave_55 rfl ?_
        refine zr_iast (n := 50) C dX10_leave_56 (Nat.le_of_ble_eq_true rfl) (fun _ _ => rfl) ?_
        refine zr_iload_n C dX10_leave_57 rfl ?_
        exact zr_iret C dX10_leave_58
      · refine zr_bipush (v := -3) C dX10_leave_34 rfl ?_
        exact zr_iret C dX10_leave_36
    · refine zr_iconst (v := -1) C dX10_leave_19 rfl ?_
      exact zr_iret C dX10_leave_20
def f_X10_rightOf (F : Nat) (σ : zMem) (a1 : Int32) (a2 : Int32) : Option (Int32 × zMem) := zb (f_X3_has F σ a1) fun r5 m5 => if r5 = 0 then (some ((-5), m5)) else (if a2.toInt < 0 ∨ 5 < a2.toInt then (some ((-5), m5)) else (if a2 = 0 then (zg (inb a1 50) (some ((m5.1 6 0 a1.toNatClampNeg), m5))) else (if a2 = 1 then (zg (inb a1 50) (some ((m5.1 7 0 a1.toNatClampNeg), m5))) else (if a2 = 2 then (zg (inb a1 50) (some ((m5.1 8 0 a1.toNatClampNeg), m5))) else (if a2 = 3 then (zb (f_X3_holder F m5 a1 ((m5.1 0 0 11))) fun r91 m91 => some (r91, m91)) else (if a2 = 4 then (zb (f_X3_commonOf F m5 a1) fun r100 m100 => some (r100, m100)) else (if a2 = 5 then (zb (f_X3_isLent F m5 a1 ((m5.1 0 0 11))) fun r113 m113 => if r113 = 0 then (some ((-1), m113)) else (zg (inb a1 50) (some ((m113.1 10 0 a1.toNatClampNeg), m113)))) else none)))))))
set_option maxHeartbeats 4000000 in
set_option maxRecDepth 100000 in
theorem c_X10_rightOf (l : Launch) (Z : zLay) (F : Nat) (σ : zMem) (a1 : Int32) (a2 : Int32) (r : Int32) (σ1 : zMem) (ho : f_X10_rightOf F σ a1 a2 = some (r, σ1)) : zMet l yX10_rightOf cX10_rightOf 3 (some .int) 3 Z [.ref (zad Z 0 0), .int (a1), .int (a2)] σ (zQI Z r σ1) := by
  refine zMet_of (Qc := zQI Z) (by decide) (Nat.le_of_ble_eq_true rfl) [(0, .ref (zad Z 0 0)), (1, .int (a1)), (2, .int (a2))] rfl (fun E C => ?_) ho
  have hh : 3 ≤ 3 := Nat.le_refl _
  show zKO E 3 Z (zMQ E Z (zQI Z)) 0 [(0, .ref (zad Z 0 0)), (1, .int (a1)), (2, .int (a2))] [] σ _
  unfold f_X10_rightOf
  refine zr_aload_n C dX10_rightOf_0 rfl ?_
  refine zf_X10_18 C (Nat.le_of_ble_eq_true rfl) dX10_rightOf_1 ?_
  refine zr_iload_n C dX10_rightOf_4 rfl ?_
  refine zk_X10_133 C F (Nat.le_of_ble_eq_true rfl) (Nat.le_trans (by decide) hh) (by simp [Value.category]) dX10_rightOf_5 (fun r5 m5 => ?_)
  refine zr_if_ne (tgt := 14) C dX10_rightOf_8 (by decide) ?_ ?_
  · refine zr_iload_n C dX10_rightOf_14 rfl ?_
    refine zr_if (fun hx => ?_) (fun _ => ?_)
    · refine zr_tabOut (tgt := 133) C dX10_rightOf_15 hx (by decide) ?_
      refine zr_bipush (v := -5) C dX10_rightOf_133 rfl ?_
      exact zr_iret C dX10_rightOf_135
    · refine zr_if (fun hx => ?_) (fun _ => ?_)
      · refine zr_tabIn (tgt := 52) C dX10_rightOf_15 (by rw [hx]; decide) (by rw [hx]; decide) (off := 37) (by rw [hx]; decide) (by decide) ?_
        refine zr_aload_n C dX10_rightOf_52 rfl ?_
        refine zf_X10_18 C (Nat.le_of_ble_eq_true rfl) dX10_rightOf_53 ?_
        refine zf_X10_148 C (Nat.le_of_ble_eq_true rfl) dX10_rightOf_56 ?_
        refine zr_iload_n C dX10_rightOf_59 rfl ?_
        refine zr_iald (n := 50) C dX10_rightOf_60 (Nat.le_of_ble_eq_true rfl) rfl ?_
        exact zr_iret C dX10_rightOf_61
      · refine zr_if (fun hx => ?_) (fun _ => ?_)
        · refine zr_tabIn (tgt := 62) C dX10_rightOf_15 (by rw [hx]; decide) (by rw [hx]; decide) (off := 47) (by rw [hx]; decide) (by decide) ?_
          refine zr_aload_n C dX10_rightOf_62 rfl ?_
          refine zf_X10_18 C (Nat.le_of_ble_eq_true rfl) dX10_rightOf_63 ?_
          refine zf_X10_151 C (Nat.le_of_ble_eq_true rfl) dX10_rightOf_66 ?_
          refine zr_iload_n C dX10_rightOf_69 rfl ?_
          refine zr_iald (n := 50) C dX10_rightOf_70 (Nat.le_of_ble_eq_true rfl) rfl ?_
          exact zr_iret C dX10_rightOf_71
        · refine zr_if (fun hx => ?_) (fun _ => ?_)
          · refine zr_tabIn (tgt := 72) C dX10_rightOf_15 (by rw [hx]; decide) (by rw [hx]; decide) (off := 57) (by rw [hx]; decide) (by decide) ?_
            refine zr_aload_n C dX10_rightOf_72 rfl ?_
            refine zf_X10_18 C (Nat.le_of_ble_eq_true rfl) dX10_rightOf_73 ?_
            refine zf_X10_135 C (Nat.le_of_ble_eq_true rfl) dX10_rightOf_76 ?_
            refine zr_iload_n C dX10_rightOf_79 rfl ?_
            refine zr_iald (n := 50) C dX10_rightOf_80 (Nat.le_of_ble_eq_true rfl) rfl ?_
            exact zr_iret C dX10_rightOf_81
          · refine zr_if (fun hx => ?_) (fun _ => ?_)
            · refine zr_tabIn (tgt := 82) C dX10_rightOf_15 (by rw [hx]; decide) (by rw [hx]; decide) (off := 67) (by rw [hx]; decide) (by decide) ?_
              refine zr_aload_n C dX10_rightOf_82 rfl ?_
              refine zf_X10_18 C (Nat.le_of_ble_eq_true rfl) dX10_rightOf_83 ?_
              refine zr_iload_n C dX10_rightOf_86 rfl ?_
              refine zr_aload_n C dX10_rightOf_87 rfl ?_
              refine zf_X10_142 C (Nat.le_of_ble_eq_true rfl) dX10_rightOf_88 ?_
              refine zk_X10_164 C F (Nat.le_of_ble_eq_true rfl) (Nat.le_trans (by decide) hh) (by simp [Value.category]) dX10_rightOf_91 (fun r91 m91 => ?_)
              exact zr_iret C dX10_rightOf_94
            · refine zr_if (fun hx => ?_) (fun _ => ?_)
              · refine zr_tabIn (tgt := 95) C dX10_rightOf_15 (by rw [hx]; decide) (by rw [hx]; decide) (off := 80) (by rw [hx]; decide) (by decide) ?_
                refine zr_aload_n C dX10_rightOf_95 rfl ?_
                refine zf_X10_18 C (Nat.le_of_ble_eq_true rfl) dX10_rightOf_96 ?_
                refine zr_iload_n C dX10_rightOf_99 rfl ?_
                refine zk_X10_138 C F (Nat.le_of_ble_eq_true rfl) (Nat.le_trans (by decide) hh) (by simp [Value.category]) dX10_rightOf_100 (fun r100 m100 => ?_)
                exact zr_iret C dX10_rightOf_103
              · refine zr_if (fun hx => ?_) (fun _ => ?_)
                · refine zr_tabIn (tgt := 104) C dX10_rightOf_15 (by rw [hx]; decide) (by rw [hx]; decide) (off := 89) (by rw [hx]; decide) (by decide) ?_
                  refine zr_aload_n C dX10_rightOf_104 rfl ?_
                  refine zf_X10_18 C (Nat.le_of_ble_eq_true rfl) dX10_rightOf_105 ?_
                  refine zr_iload_n C dX10_rightOf_108 rfl ?_
                  refine zr_aload_n C dX10_rightOf_109 rfl ?_
                  refine zf_X10_142 C (Nat.le_of_ble_eq_true rfl) dX10_rightOf_110 ?_
                  refine zk_X10_145 C F (Nat.le_of_ble_eq_true rfl) (Nat.le_trans (by decide) hh) (by simp [Value.category]) dX10_rightOf_113 (fun r113 m113 => ?_)
                  refine zr_if_eq (tgt := 131) C dX10_rightOf_116 (by decide) ?_ ?_
                  · refine zr_iconst (v := -1) C dX10_rightOf_131 rfl ?_
                    exact zr_iret C dX10_rightOf_132
                  · refine zr_aload_n C dX10_rightOf_119 rfl ?_
                    refine zf_X10_18 C (Nat.le_of_ble_eq_true rfl) dX10_rightOf_120 ?_
                    refine zf_X10_161 C (Nat.le_of_ble_eq_true rfl) dX10_rightOf_123 ?_
                    refine zr_iload_n C dX10_rightOf_126 rfl ?_
                    refine zr_iald (n := 50) C dX10_rightOf_127 (Nat.le_of_ble_eq_true rfl) rfl ?_
                    refine zr_goto (tgt := 132) C dX10_rightOf_128 (by decide) ?_
                    exact zr_iret C dX10_rightOf_132
                · exact zr_none
  · refine zr_bipush (v := -5) C dX10_rightOf_11 rfl ?_
    exact zr_iret C dX10_rightOf_13
def f_X10_parts (F : Nat) (σ : zMem) (a1 : Int32) (a2 : Int32) : Option (Int32 × zMem) := if a2 < 0 then (some ((-1), σ)) else (if a2 < 3 then (if a1 = (-1) then (zb (f_X3_whole F σ a2) fun r21 m21 => some (r21, m21)) else (zb (f_X10_isHouse F σ a1) fun r27 m27 => if r27 = 0 then (some ((-1), m27)) else (zb (f_X3_held F m27 a1 a2 ((m27.1 0 0 11))) fun r45 m45 => some (r45, m45)))) else (some ((-1), σ)))
set_option maxHeartbeats 4000000 in
set_option maxRecDepth 100000 in
theorem c_X10_parts (l : Launch) (Z : zLay) (F : Nat) (σ : zMem) (a1 : Int32) (a2 : Int32) (r : Int32) (σ1 : zMem) (ho : f_X10_parts F σ a1 a2 = some (r, σ1)) : zMet l yX10_parts cX10_parts 3 (some .int) 4 Z [.ref (zad Z 0 0), .int (a1), .int (a2)] σ (zQI Z r σ1) := by
  refine zMet_of (Qc := zQI Z) (by decide) (Nat.le_of_ble_eq_true rfl) [(0, .ref (zad Z 0 0)), (1, .int (a1)), (2, .int (a2))] rfl (fun E C => ?_) ho
  have hh : 4 ≤ 4 := Nat.le_refl _
  show zKO E 3 Z (zMQ E Z (zQI Z)) 0 [(0, .ref (zad Z 0 0)), (1, .int (a1)), (2, .int (a2))] [] σ _
  unfold f_X10_parts
  refine zr_iload_n C dX10_parts_0 rfl ?_
  refine zr_if_lt (tgt := 9) C dX10_parts_1 (by decide) ?_ ?_
  · refine zr_iconst (v := -1) C dX10_parts_9 rfl ?_
    exact zr_iret C dX10_parts_10
  · refine zr_iload_n C dX10_parts_4 rfl ?_
    refine zr_iconst (v := 3) C dX10_parts_5 rfl ?_
    refine zr_icmp_lt (tgt := 11) C dX10_parts_6 (by decide) ?_ ?_
    · refine zr_iload_n C dX10_parts_11 rfl ?_
      refine zr_iconst (v := -1) C dX10_parts_12 rfl ?_
      refine zr_icmp_ne (tgt := 25) C dX10_parts_13 (by decide) ?_ ?_
      · refine zr_aload_n C dX10_parts_25 rfl ?_
        refine zr_iload_n C dX10_parts_26 rfl ?_
        refine zk_X10_91 C F (Nat.le_of_ble_eq_true rfl) (Nat.le_trans (by decide) hh) (by simp [Value.category]) dX10_parts_27 (fun r27 m27 => ?_)
        refine zr_if_ne (tgt := 35) C dX10_parts_30 (by decide) ?_ ?_
        · refine zr_aload_n C dX10_parts_35 rfl ?_
          refine zf_X10_18 C (Nat.le_of_ble_eq_true rfl) dX10_parts_36 ?_
          refine zr_iload_n C dX10_parts_39 rfl ?_
          refine zr_iload_n C dX10_parts_40 rfl ?_
          refine zr_aload_n C dX10_parts_41 rfl ?_
          refine zf_X10_142 C (Nat.le_of_ble_eq_true rfl) dX10_parts_42 ?_
          refine zk_X10_171 C F (Nat.le_of_ble_eq_true rfl) (Nat.le_trans (by decide) hh) (by simp [Value.category]) dX10_parts_45 (fun r45 m45 => ?_)
          exact zr_iret C dX10_parts_48
        · refine zr_iconst (v := -1) C dX10_parts_33 rfl ?_
          exact zr_iret C dX10_parts_34
      · refine zr_aload_n C dX10_parts_16 rfl ?_
        refine zf_X10_18 C (Nat.le_of_ble_eq_true rfl) dX10_parts_17 ?_
        refine zr_iload_n C dX10_parts_20 rfl ?_
        refine zk_X10_168 C F (Nat.le_of_ble_eq_true rfl) (Nat.le_trans (by decide) hh) (by simp [Value.category]) dX10_parts_21 (fun r21 m21 => ?_)
        exact zr_iret C dX10_parts_24
    · refine zr_iconst (v := -1) C dX10_parts_9 rfl ?_
      exact zr_iret C dX10_parts_10
def f_X10_areHouses (F : Nat) (σ : zMem) (a1 : Int32) : Option (Int32 × zMem) := if (zush a1 ((σ.1 0 0 1))) = 0 then (some (1, σ)) else (some (0, σ))
set_option maxHeartbeats 4000000 in
set_option maxRecDepth 100000 in
theorem c_X10_areHouses (l : Launch) (Z : zLay) (F : Nat) (σ : zMem) (a1 : Int32) (r : Int32) (σ1 : zMem) (ho : f_X10_areHouses F σ a1 = some (r, σ1)) : zMet l yX10_areHouses cX10_areHouses 2 (some .boolean) 1 Z [.ref (zad Z 0 0), .int (a1)] σ (zQI Z r σ1) := by
  refine zMet_of (Qc := zQI Z) (by decide) (Nat.le_of_ble_eq_true rfl) [(0, .ref (zad Z 0 0)), (1, .int (a1))] rfl (fun E C => ?_) ho
  have hh : 1 ≤ 1 := Nat.le_refl _
  show zKO E 2 Z (zMQ E Z (zQI Z)) 0 [(0, .ref (zad Z 0 0)), (1, .int (a1))] [] σ _
  unfold f_X10_areHouses
  refine zr_iload_n C dX10_areHouses_0 rfl ?_
  refine zr_aload_n C dX10_areHouses_1 rfl ?_
  refine zf_X10_85 C (Nat.le_of_ble_eq_true rfl) dX10_areHouses_2 ?_
  refine zr_iushr C dX10_areHouses_5 ?_
  refine zr_if_ne (tgt := 13) C dX10_areHouses_6 (by decide) ?_ ?_
  · refine zr_iconst (v := 0) C dX10_areHouses_13 rfl ?_
    exact zr_zret C dX10_areHouses_14 rfl
  · refine zr_iconst (v := 1) C dX10_areHouses_9 rfl ?_
    refine zr_goto (tgt := 14) C dX10_areHouses_10 (by decide) ?_
    exact zr_zret C dX10_areHouses_14 rfl
theorem zk_X10_181 (C : zCx E cc RX10 nL ret Z h) (F : Nat) {b0 : Int32} (hk : 0 < zN 0) (hh : 1 + 1 ≤ h) (hst8 : (st.map fun v => v.category).sum ≤ 8) (hd : decode cc pc = .ok (.invokevirtual 181, 3)) {g : Int32 → zMem → Option (α × zMem)} (kk : ∀ (r : Int32) (σ1 : zMem), zKO E nL Z QQ (pc + 3) L (.int r :: st) σ1 (g r σ1)) : zKO E nL Z QQ pc L (.int b0 :: .ref (zad Z 0 0) :: st) σ (zb (f_X10_areHouses F σ b0) g) :=
  zr_callVI (As := [.int b0]) (ia := 1) C (fun r σ1 ho => c_X10_areHouses (zla E) Z F σ b0 r σ1 ho) wz_540 hk rfl rfl wz_p12 wz_542 wz_543 wz_1 (by decide +kernel) rfl (by decide) hh hd hst8 kk
def f_X10_feed_33 (F : Nat) (rec33 : zMem → Int32 × Int32 → Option (Int32 × zMem)) (σ : zMem) (x : Int32 × Int32) : Option (Int32 × zMem) := if x.2 < 0 then (some ((σ.1 11 0 3), σ)) else (zb (f_X9_append F σ ((((x.1 >>> ((8 * x.2) &&& 31))).toInt8.toInt32))) fun r48 m48 => rec33 m48 ((x.1, (x.2 + (-1)))))
set_option maxHeartbeats 4000000 in
set_option maxRecDepth 100000 in
theorem c_X10_feed_33 (F : Nat) {E : zEn} {h : Nat} {Z : zLay} (C : zCx E cX10_feed RX10 4 (some .int) Z h) (hh : 2 ≤ h) : ∀ (n : Nat) (σ : zMem) (x : Int32 × Int32), zKO E 4 Z (zMQ E Z (zQI Z)) 33 [(0, .ref (zad Z 0 0)), (1, .int x.1), (3, .int x.2)] [] σ (zit (f_X10_feed_33 F) n σ x) := by
  refine zr_loop (LL := fun (x : Int32 × Int32) => [(0, .ref (zad Z 0 0)), (1, .int x.1), (3, .int x.2)]) (ST := fun (x : Int32 × Int32) => []) (fun rec33 hrec33 σ x => ?_)
  obtain ⟨l1, l3⟩ := x
  show zKO E 4 Z (zMQ E Z (zQI Z)) 33 [(0, .ref (zad Z 0 0)), (1, .int l1), (3, .int l3)] [] σ (if l3 < 0 then (some ((σ.1 11 0 3), σ)) else (zb (f_X9_append F σ ((((l1 >>> ((8 * l3) &&& 31))).toInt8.toInt32))) fun r48 m48 => rec33 m48 ((l1, (l3 + (-1))))))
  refine zr_iload_n C dX10_feed_33 rfl ?_
  refine zr_if_lt (tgt := 57) C dX10_feed_34 (by decide) ?_ ?_
  · refine zr_aload_n C dX10_feed_57 rfl ?_
    refine zf_X10_25 C (Nat.le_of_ble_eq_true rfl) dX10_feed_58 ?_
    refine zf_X10_174 C (Nat.le_of_ble_eq_true rfl) dX10_feed_61 ?_
    exact zr_iret C dX10_feed_64
  · refine zr_aload_n C dX10_feed_37 rfl ?_
    refine zf_X10_25 C (Nat.le_of_ble_eq_true rfl) dX10_feed_38 ?_
    refine zr_iload_n C dX10_feed_41 rfl ?_
    refine zr_bipush (v := 8) C dX10_feed_42 rfl ?_
    refine zr_iload_n C dX10_feed_44 rfl ?_
    refine zr_imul C dX10_feed_45 ?_
    refine zr_ishr C dX10_feed_46 ?_
    refine zr_i2b C dX10_feed_47 ?_
    refine zk_X10_177 C F (Nat.le_of_ble_eq_true rfl) (Nat.le_trans (by decide) hh) (by simp [Value.category]) dX10_feed_48 (fun r48 m48 => ?_)
    refine zr_iinc (kk := 2) (v := (l3 + (-1))) (L1 := [(3, .int _), (0, .ref _), (1, .int _)]) C dX10_feed_51 rfl rfl (by decide) rfl ?_
    refine zr_goto (tgt := 33) C dX10_feed_54 (by decide) ?_
    exact zr_sub [1, 2, 0] rfl (hrec33 m48 ((l1, (l3 + (-1)))))
def f_X10_feed (F : Nat) (σ : zMem) (a1 : Int32) (a2 : Int32) : Option (Int32 × zMem) := if a2 < 0 then (some ((-2), σ)) else (if a2 ≤ 4 then (if ((σ.1 11 0 3) + a2) ≤ 100 then (zit (f_X10_feed_33 F) F σ ((a1, (a2 - 1)))) else (some ((-4), σ))) else (some ((-2), σ)))
set_option maxHeartbeats 4000000 in
set_option maxRecDepth 100000 in
theorem c_X10_feed (l : Launch) (Z : zLay) (F : Nat) (σ : zMem) (a1 : Int32) (a2 : Int32) (r : Int32) (σ1 : zMem) (ho : f_X10_feed F σ a1 a2 = some (r, σ1)) : zMet l yX10_feed cX10_feed 4 (some .int) 2 Z [.ref (zad Z 0 0), .int (a1), .int (a2)] σ (zQI Z r σ1) := by
  refine zMet_of (Qc := zQI Z) (by decide) (Nat.le_of_ble_eq_true rfl) [(0, .ref (zad Z 0 0)), (1, .int (a1)), (2, .int (a2))] rfl (fun E C => ?_) ho
  have hh : 2 ≤ 2 := Nat.le_refl _
  show zKO E 4 Z (zMQ E Z (zQI Z)) 0 [(0, .ref (zad Z 0 0)), (1, .int (a1)), (2, .int (a2))] [] σ _
  unfold f_X10_feed
  refine zr_iload_n C dX10_feed_0 rfl ?_
  refine zr_if_lt (tgt := 9) C dX10_feed_1 (by decide) ?_ ?_
  · refine zr_bipush (v := -2) C dX10_feed_9 rfl ?_
    exact zr_iret C dX10_feed_11
  · refine zr_iload_n C dX10_feed_4 rfl ?_
    refine zr_iconst (v := 4) C dX10_feed_5 rfl ?_
    refine zr_icmp_le (tgt := 12) C dX10_feed_6 (by decide) ?_ ?_
    · refine zr_aload_n C dX10_feed_12 rfl ?_
      refine zf_X10_25 C (Nat.le_of_ble_eq_true rfl) dX10_feed_13 ?_
      refine zf_X10_174 C (Nat.le_of_ble_eq_true rfl) dX10_feed_16 ?_
      refine zr_iload_n C dX10_feed_19 rfl ?_
      refine zr_iadd C dX10_feed_20 ?_
      refine zr_bipush (v := 100) C dX10_feed_21 rfl ?_
      refine zr_icmp_le (tgt := 29) C dX10_feed_23 (by decide) ?_ ?_
      · refine zr_iload_n C dX10_feed_29 rfl ?_
        refine zr_iconst (v := 1) C dX10_feed_30 rfl ?_
        refine zr_isub C dX10_feed_31 ?_
        refine zr_istore_n (i := 3) (L1 := [(3, .int _), (0, .ref _), (1, .int _), (2, .int _)]) C dX10_feed_32 rfl (by decide) rfl ?_
        exact zr_sub [1, 2, 0] rfl (c_X10_feed_33 F C hh F σ ((a1, (a2 - 1))))
      · refine zr_bipush (v := -4) C dX10_feed_26 rfl ?_
        exact zr_iret C dX10_feed_28
    · refine zr_bipush (v := -2) C dX10_feed_9 rfl ?_
      exact zr_iret C dX10_feed_11
def f_X10_passes (F : Nat) (σ : zMem) (a1 : Int32) (a2 : Int32) : Option (Int32 × zMem) := zb (f_J6_bitCount_0f7a4 F σ a1) fun r1 m1 => zb (f_J6_bitCount_0f7a4 F m1 a2) fun r6 m6 => if r1 ≤ r6 then (some (0, m6)) else (if (2 * (r1 + r6)) < (m6.1 0 0 1) then (some (0, m6)) else (if (a1 &&& a2) = 0 then (some (1, m6)) else (some (0, m6))))
set_option maxHeartbeats 4000000 in
set_option maxRecDepth 100000 in
theorem c_X10_passes (l : Launch) (Z : zLay) (F : Nat) (σ : zMem) (a1 : Int32) (a2 : Int32) (r : Int32) (σ1 : zMem) (ho : f_X10_passes F σ a1 a2 = some (r, σ1)) : zMet l yX10_passes cX10_passes 5 (some .boolean) 2 Z [.ref (zad Z 0 0), .int (a1), .int (a2)] σ (zQI Z r σ1) := by
  refine zMet_of (Qc := zQI Z) (by decide) (Nat.le_of_ble_eq_true rfl) [(0, .ref (zad Z 0 0)), (1, .int (a1)), (2, .int (a2))] rfl (fun E C => ?_) ho
  have hh : 2 ≤ 2 := Nat.le_refl _
  show zKO E 5 Z (zMQ E Z (zQI Z)) 0 [(0, .ref (zad Z 0 0)), (1, .int (a1)), (2, .int (a2))] [] σ _
  unfold f_X10_passes
  refine zr_iload_n C dX10_passes_0 rfl ?_
  refine zk_X10_193 C F (Nat.le_trans (by decide) hh) (by simp [Value.category]) dX10_passes_1 (fun r1 m1 => ?_)
  refine zr_istore_n (i := 3) (L1 := [(3, .int _), (0, .ref _), (1, .int _), (2, .int _)]) C dX10_passes_4 rfl (by decide) rfl ?_
  refine zr_iload_n C dX10_passes_5 rfl ?_
  refine zk_X10_193 C F (Nat.le_trans (by decide) hh) (by simp [Value.category]) dX10_passes_6 (fun r6 m6 => ?_)
  refine zr_istore (i := 4) (L1 := [(4, .int _), (3, .int _), (0, .ref _), (1, .int _), (2, .int _)]) C dX10_passes_9 (by decide) rfl ?_
  refine zr_iload_n C dX10_passes_11 rfl ?_
  refine zr_iload C dX10_passes_12 rfl ?_
  refine zr_icmp_le (tgt := 40) C dX10_passes_14 (by decide) ?_ ?_
  · refine zr_iconst (v := 0) C dX10_passes_40 rfl ?_
    exact zr_zret C dX10_passes_41 rfl
  · refine zr_iconst (v := 2) C dX10_passes_17 rfl ?_
    refine zr_iload_n C dX10_passes_18 rfl ?_
    refine zr_iload C dX10_passes_19 rfl ?_
    refine zr_iadd C dX10_passes_21 ?_
    refine zr_imul C dX10_passes_22 ?_
    refine zr_aload_n C dX10_passes_23 rfl ?_
    refine zf_X10_85 C (Nat.le_of_ble_eq_true rfl) dX10_passes_24 ?_
    refine zr_icmp_lt (tgt := 40) C dX10_passes_27 (by decide) ?_ ?_
    · refine zr_iconst (v := 0) C dX10_passes_40 rfl ?_
      exact zr_zret C dX10_passes_41 rfl
    · refine zr_iload_n C dX10_passes_30 rfl ?_
      refine zr_iload_n C dX10_passes_31 rfl ?_
      refine zr_iand C dX10_passes_32 ?_
      refine zr_if_ne (tgt := 40) C dX10_passes_33 (by decide) ?_ ?_
      · refine zr_iconst (v := 0) C dX10_passes_40 rfl ?_
        exact zr_zret C dX10_passes_41 rfl
      · refine zr_iconst (v := 1) C dX10_passes_36 rfl ?_
        refine zr_goto (tgt := 41) C dX10_passes_37 (by decide) ?_
        exact zr_zret C dX10_passes_41 rfl
theorem zk_X10_188 (C : zCx E cc RX10 nL ret Z h) (F : Nat) {b0 : Int32} {b1 : Int32} (hk : 0 < zN 0) (hh : 2 + 1 ≤ h) (hst8 : (st.map fun v => v.category).sum ≤ 8) (hd : decode cc pc = .ok (.invokevirtual 188, 3)) {g : Int32 → zMem → Option (α × zMem)} (kk : ∀ (r : Int32) (σ1 : zMem), zKO E nL Z QQ (pc + 3) L (.int r :: st) σ1 (g r σ1)) : zKO E nL Z QQ pc L (.int b1 :: .int b0 :: .ref (zad Z 0 0) :: st) σ (zb (f_X10_passes F σ b0 b1) g) :=
  zr_callVI (As := [.int b0, .int b1]) (ia := 2) C (fun r σ1 ho => c_X10_passes (zla E) Z F σ b0 b1 r σ1 ho) wz_629 hk rfl rfl wz_p20 wz_631 wz_632 wz_1 (by decide +kernel) rfl (by decide) hh hd hst8 kk
def f_X10_vote (F : Nat) (σ : zMem) (a1 : Int32) (a2 : Int32) : Option (Int32 × zMem) := zb (f_X10_areHouses F σ a1) fun r2 m2 => if r2 = 0 then (some ((-2), m2)) else (zb (f_X10_areHouses F m2 a2) fun r10 m10 => if r10 = 0 then (some ((-2), m10)) else (if (m10.1 11 0 1) < 40 then (zb (f_X9_read F m10) fun r38 m38 => if r38 < 0 then (zb (f_X10_passes F (zwi m38 11 0 3 0) a1 a2) fun r62 m62 => if r62 = 0 then (some ((-3), m62)) else (zb (f_X9_enter F m62 ((m62.1 0 0 11))) fun r79 m79 => some (r79, m79))) else (some (((-10) - r38), (zwi m38 11 0 3 0)))) else (some ((-4), m10))))
set_option maxHeartbeats 4000000 in
set_option maxRecDepth 100000 in
theorem c_X10_vote (l : Launch) (Z : zLay) (F : Nat) (σ : zMem) (a1 : Int32) (a2 : Int32) (r : Int32) (σ1 : zMem) (ho : f_X10_vote F σ a1 a2 = some (r, σ1)) : zMet l yX10_vote cX10_vote 4 (some .int) 10 Z [.ref (zad Z 0 0), .int (a1), .int (a2)] σ (zQI Z r σ1) := by
  refine zMet_of (Qc := zQI Z) (by decide) (Nat.le_of_ble_eq_true rfl) [(0, .ref (zad Z 0 0)), (1, .int (a1)), (2, .int (a2))] rfl (fun E C => ?_) ho
  have hh : 10 ≤ 10 := Nat.le_refl _
  show zKO E 4 Z (zMQ E Z (zQI Z)) 0 [(0, .ref (zad Z 0 0)), (1, .int (a1)), (2, .int (a2))] [] σ _
  unfold f_X10_vote
  refine zr_aload_n C dX10_vote_0 rfl ?_
  refine zr_iload_n C dX10_vote_1 rfl ?_
  refine zk_X10_181 C F (Nat.le_of_ble_eq_true rfl) (Nat.le_trans (by decide) hh) (by simp [Value.category]) dX10_vote_2 (fun r2 m2 => ?_)
  refine zr_if_eq (tgt := 16) C dX10_vote_5 (by decide) ?_ ?_
  · refine zr_bipush (v := -2) C dX10_vote_16 rfl ?_
    exact zr_iret C dX10_vote_18
  · refine zr_aload_n C dX10_vote_8 rfl ?_
    refine zr_iload_n C dX10_vote_9 rfl ?_
    refine zk_X10_181 C F (Nat.le_of_ble_eq_true rfl) (Nat.le_trans (by decide) hh) (by simp [Value.category]) dX10_vote_10 (fun r10 m10 => ?_)
    refine zr_if_ne (tgt := 19) C dX10_vote_13 (by decide) ?_ ?_
    · refine zr_aload_n C dX10_vote_19 rfl ?_
      refine zf_X10_25 C (Nat.le_of_ble_eq_true rfl) dX10_vote_20 ?_
      refine zf_X10_184 C (Nat.le_of_ble_eq_true rfl) dX10_vote_23 ?_
      refine zr_bipush (v := 40) C dX10_vote_26 rfl ?_
      refine zr_icmp_lt (tgt := 34) C dX10_vote_28 (by decide) ?_ ?_
      · refine zr_aload_n C dX10_vote_34 rfl ?_
        refine zf_X10_25 C (Nat.le_of_ble_eq_true rfl) dX10_vote_35 ?_
        refine zk_X10_185 C F (Nat.le_of_ble_eq_true rfl) (Nat.le_trans (by decide) hh) (by simp [Value.category]) dX10_vote_38 (fun r38 m38 => ?_)
        refine zr_istore_n (i := 3) (L1 := [(3, .int _), (0, .ref _), (1, .int _), (2, .int _)]) C dX10_vote_41 rfl (by decide) rfl ?_
        refine zr_aload_n C dX10_vote_42 rfl ?_
        refine zf_X10_25 C (Nat.le_of_ble_eq_true rfl) dX10_vote_43 ?_
        refine zr_iconst (v := 0) C dX10_vote_46 rfl ?_
        refine zp_X10_174 C (Nat.le_of_ble_eq_true rfl) dX10_vote_47 ?_
        refine zr_iload_n C dX10_vote_50 rfl ?_
        refine zr_if_lt (tgt := 59) C dX10_vote_51 (by decide) ?_ ?_
        · refine zr_aload_n C dX10_vote_59 rfl ?_
          refine zr_iload_n C dX10_vote_60 rfl ?_
          refine zr_iload_n C dX10_vote_61 rfl ?_
          refine zk_X10_188 C F (Nat.le_of_ble_eq_true rfl) (Nat.le_trans (by decide) hh) (by simp [Value.category]) dX10_vote_62 (fun r62 m62 => ?_)
          refine zr_if_ne (tgt := 71) C dX10_vote_65 (by decide) ?_ ?_
          · refine zr_aload_n C dX10_vote_71 rfl ?_
            refine zf_X10_25 C (Nat.le_of_ble_eq_true rfl) dX10_vote_72 ?_
            refine zr_aload_n C dX10_vote_75 rfl ?_
            refine zf_X10_142 C (Nat.le_of_ble_eq_true rfl) dX10_vote_76 ?_
            refine zk_X10_191 C F (Nat.le_of_ble_eq_true rfl) (Nat.le_trans (by decide) hh) (by simp [Value.category]) dX10_vote_79 (fun r79 m79 => ?_)
            exact zr_iret C dX10_vote_82
          · refine zr_bipush (v := -3) C dX10_vote_68 rfl ?_
            exact zr_iret C dX10_vote_70
        · refine zr_bipush (v := -10) C dX10_vote_54 rfl ?_
          refine zr_iload_n C dX10_vote_56 rfl ?_
          refine zr_isub C dX10_vote_57 ?_
          exact zr_iret C dX10_vote_58
      · refine zr_bipush (v := -4) C dX10_vote_31 rfl ?_
        exact zr_iret C dX10_vote_33
    · refine zr_bipush (v := -2) C dX10_vote_16 rfl ?_
      exact zr_iret C dX10_vote_18
def f_X10_voids_64 (F : Nat) (rec64 : zMem → Int32 × Int32 × Int32 → Option (Int32 × zMem)) (σ : zMem) (x : Int32 × Int32 × Int32) : Option (Int32 × zMem) := if (σ.1 0 0 10) ≤ x.2.2 then (some (x.2.1, σ)) else (if 200 ≤ x.2.2 then (some (x.2.1, σ)) else (zg (inb 4 6) (zg (inb x.2.2 200) (if (σ.1 50 4 x.2.2.toNatClampNeg) = x.1 then (rec64 σ ((x.1, (x.2.1 + 1), (x.2.2 + 1)))) else (zg (inb 5 6) (zg (inb x.2.2 200) (if (σ.1 50 5 x.2.2.toNatClampNeg) = x.1 then (rec64 σ ((x.1, (x.2.1 + 1), (x.2.2 + 1)))) else (rec64 σ ((x.1, x.2.1, (x.2.2 + 1)))))))))))
set_option maxHeartbeats 4000000 in
set_option maxRecDepth 100000 in
theorem c_X10_voids_64 (F : Nat) {E : zEn} {h : Nat} {Z : zLay} (C : zCx E cX10_voids RX10 4 (some .int) Z h) (hh : 2 ≤ h) : ∀ (n : Nat) (σ : zMem) (x : Int32 × Int32 × Int32), zKO E 4 Z (zMQ E Z (zQI Z)) 64 [(0, .ref (zad Z 0 0)), (1, .int x.1), (2, .int x.2.1), (3, .int x.2.2)] [] σ (zit (f_X10_voids_64 F) n σ x) := by
  refine zr_loop (LL := fun (x : Int32 × Int32 × Int32) => [(0, .ref (zad Z 0 0)), (1, .int x.1), (2, .int x.2.1), (3, .int x.2.2)]) (ST := fun (x : Int32 × Int32 × Int32) => []) (fun rec64 hrec64 σ x => ?_)
  obtain ⟨l1, l2, l3⟩ := x
  show zKO E 4 Z (zMQ E Z (zQI Z)) 64 [(0, .ref (zad Z 0 0)), (1, .int l1), (2, .int l2), (3, .int l3)] [] σ (if (σ.1 0 0 10) ≤ l3 then (some (l2, σ)) else (if 200 ≤ l3 then (some (l2, σ)) else (zg (inb 4 6) (zg (inb l3 200) (if (σ.1 50 4 l3.toNatClampNeg) = l1 then (rec64 σ ((l1, (l2 + 1), (l3 + 1)))) else (zg (inb 5 6) (zg (inb l3 200) (if (σ.1 50 5 l3.toNatClampNeg) = l1 then (rec64 σ ((l1, (l2 + 1), (l3 + 1)))) else (rec64 σ ((l1, l2, (l3 + 1))))))))))))
  refine zr_iload_n C dX10_voids_64 rfl ?_
  refine zr_aload_n C dX10_voids_65 rfl ?_
  refine zf_X10_212 C (Nat.le_of_ble_eq_true rfl) dX10_voids_66 ?_
  refine zr_icmp_ge (tgt := 112) C dX10_voids_69 (by decide) ?_ ?_
  · refine zr_iload_n C dX10_voids_112 rfl ?_
    exact zr_iret C dX10_voids_113
  · refine zr_iload_n C dX10_voids_72 rfl ?_
    refine zr_sipush (v := 200) C dX10_voids_73 rfl ?_
    refine zr_icmp_ge (tgt := 112) C dX10_voids_76 (by decide) ?_ ?_
    · refine zr_iload_n C dX10_voids_112 rfl ?_
      exact zr_iret C dX10_voids_113
    · refine zr_aload_n C dX10_voids_79 rfl ?_
      refine zf_X10_65 C (Nat.le_of_ble_eq_true rfl) dX10_voids_80 ?_
      refine zr_iconst (v := 4) C dX10_voids_83 rfl ?_
      refine zr_aald (n := 6) (k1 := 50) C dX10_voids_84 (Nat.le_of_ble_eq_true rfl) rfl rfl rfl (fun hb84 => ?_)
      refine zr_iload_n C dX10_voids_85 rfl ?_
      refine zr_iald (n := 200) C dX10_voids_86 hb84 rfl ?_
      refine zr_iload_n C dX10_voids_87 rfl ?_
      refine zr_icmp_eq (tgt := 103) C dX10_voids_88 (by decide) ?_ ?_
      · refine zr_iinc (kk := 2) (v := (l2 + 1)) (L1 := [(2, .int _), (0, .ref _), (1, .int _), (3, .int _)]) C dX10_voids_103 rfl rfl (by decide) rfl ?_
        refine zr_iinc (kk := 3) (v := (l3 + 1)) (L1 := [(3, .int _), (2, .int _), (0, .ref _), (1, .int _)]) C dX10_voids_106 rfl rfl (by decide) rfl ?_
        refine zr_goto (tgt := 64) C dX10_voids_109 (by decide) ?_
        exact zr_sub [2, 3, 1, 0] rfl (hrec64 σ ((l1, (l2 + 1), (l3 + 1))))
      · refine zr_aload_n C dX10_voids_91 rfl ?_
        refine zf_X10_65 C (Nat.le_of_ble_eq_true rfl) dX10_voids_92 ?_
        refine zr_iconst (v := 5) C dX10_voids_95 rfl ?_
        refine zr_aald (n := 6) (k1 := 50) C dX10_voids_96 (Nat.le_of_ble_eq_true rfl) rfl rfl rfl (fun hb96 => ?_)
        refine zr_iload_n C dX10_voids_97 rfl ?_
        refine zr_iald (n := 200) C dX10_voids_98 hb96 rfl ?_
        refine zr_iload_n C dX10_voids_99 rfl ?_
        refine zr_icmp_ne (tgt := 106) C dX10_voids_100 (by decide) ?_ ?_
        · refine zr_iinc (kk := 3) (v := (l3 + 1)) (L1 := [(3, .int _), (0, .ref _), (1, .int _), (2, .int _)]) C dX10_voids_106 rfl rfl (by decide) rfl ?_
          refine zr_goto (tgt := 64) C dX10_voids_109 (by decide) ?_
          exact zr_sub [1, 2, 3, 0] rfl (hrec64 σ ((l1, l2, (l3 + 1))))
        · refine zr_iinc (kk := 2) (v := (l2 + 1)) (L1 := [(2, .int _), (0, .ref _), (1, .int _), (3, .int _)]) C dX10_voids_103 rfl rfl (by decide) rfl ?_
          refine zr_iinc (kk := 3) (v := (l3 + 1)) (L1 := [(3, .int _), (2, .int _), (0, .ref _), (1, .int _)]) C dX10_voids_106 rfl rfl (by decide) rfl ?_
          refine zr_goto (tgt := 64) C dX10_voids_109 (by decide) ?_
          exact zr_sub [2, 3, 1, 0] rfl (hrec64 σ ((l1, (l2 + 1), (l3 + 1))))
def f_X10_voids (F : Nat) (σ : zMem) (a1 : Int32) : Option (Int32 × zMem) := zb (f_X9_has F σ a1) fun r5 m5 => if r5 = 0 then (some ((-1), m5)) else (zg (inb a1 40) (if (m5.1 13 a1.toNatClampNeg 4) = 0 then (zg (inb a1 40) (zg (zbo 1) (zg (inb a1 40) (zit (f_X10_voids_64 F) F (zwi (zwi m5 13 a1.toNatClampNeg 4 1) 13 a1.toNatClampNeg 3 (((zwi m5 13 a1.toNatClampNeg 4 1).1 0 0 11))) ((a1, 0, 0)))))) else (some ((-3), m5))))
set_option maxHeartbeats 4000000 in
set_option maxRecDepth 100000 in
theorem c_X10_voids (l : Launch) (Z : zLay) (F : Nat) (σ : zMem) (a1 : Int32) (r : Int32) (σ1 : zMem) (ho : f_X10_voids F σ a1 = some (r, σ1)) : zMet l yX10_voids cX10_voids 4 (some .int) 2 Z [.ref (zad Z 0 0), .int (a1)] σ (zQI Z r σ1) := by
  refine zMet_of (Qc := zQI Z) (by decide) (Nat.le_of_ble_eq_true rfl) [(0, .ref (zad Z 0 0)), (1, .int (a1))] rfl (fun E C => ?_) ho
  have hh : 2 ≤ 2 := Nat.le_refl _
  show zKO E 4 Z (zMQ E Z (zQI Z)) 0 [(0, .ref (zad Z 0 0)), (1, .int (a1))] [] σ _
  unfold f_X10_voids
  refine zr_aload_n C dX10_voids_0 rfl ?_
  refine zf_X10_25 C (Nat.le_of_ble_eq_true rfl) dX10_voids_1 ?_
  refine zr_iload_n C dX10_voids_4 rfl ?_
  refine zk_X10_198 C F (Nat.le_of_ble_eq_true rfl) (Nat.le_trans (by decide) hh) (by simp [Value.category]) dX10_voids_5 (fun r5 m5 => ?_)
  refine zr_if_ne (tgt := 13) C dX10_voids_8 (by decide) ?_ ?_
  · refine zr_aload_n C dX10_voids_13 rfl ?_
    refine zf_X10_25 C (Nat.le_of_ble_eq_true rfl) dX10_voids_14 ?_
    refine zf_X10_199 C (Nat.le_of_ble_eq_true rfl) dX10_voids_17 ?_
    refine zr_iload_n C dX10_voids_20 rfl ?_
    refine zr_aald (n := 40) (k1 := 13) C dX10_voids_21 (Nat.le_of_ble_eq_true rfl) rfl rfl rfl (fun hb21 => ?_)
    refine zf_X10_203 C hb21 dX10_voids_22 ?_
    refine zr_if_eq (tgt := 31) C dX10_voids_25 (by decide) ?_ ?_
    · refine zr_aload_n C dX10_voids_31 rfl ?_
      refine zf_X10_25 C (Nat.le_of_ble_eq_true rfl) dX10_voids_32 ?_
      refine zf_X10_199 C (Nat.le_of_ble_eq_true rfl) dX10_voids_35 ?_
      refine zr_iload_n C dX10_voids_38 rfl ?_
      refine zr_aald (n := 40) (k1 := 13) C dX10_voids_39 (Nat.le_of_ble_eq_true rfl) rfl rfl rfl (fun hb39 => ?_)
      refine zr_iconst (v := 1) C dX10_voids_40 rfl ?_
      refine zp_X10_203 C hb39 dX10_voids_41 ?_
      refine zr_aload_n C dX10_voids_44 rfl ?_
      refine zf_X10_25 C (Nat.le_of_ble_eq_true rfl) dX10_voids_45 ?_
      refine zf_X10_199 C (Nat.le_of_ble_eq_true rfl) dX10_voids_48 ?_
      refine zr_iload_n C dX10_voids_51 rfl ?_
      refine zr_aald (n := 40) (k1 := 13) C dX10_voids_52 (Nat.le_of_ble_eq_true rfl) rfl rfl rfl (fun hb52 => ?_)
      refine zr_aload_n C dX10_voids_53 rfl ?_
      refine zf_X10_142 C (Nat.le_of_ble_eq_true rfl) dX10_voids_54 ?_
      refine zp_X10_209 C hb52 dX10_voids_57 ?_
      refine zr_iconst (v := 0) C dX10_voids_60 rfl ?_
      refine zr_istore_n (i := 2) (L1 := [(2, .int _), (0, .ref _), (1, .int _)]) C dX10_voids_61 rfl (by decide) rfl ?_
      refine zr_iconst (v := 0) C dX10_voids_62 rfl ?_
      refine zr_istore_n (i := 3) (L1 := [(3, .int _), (2, .int _), (0, .ref _), (1, .int _)]) C dX10_voids_63 rfl (by decide) rfl ?_
      exact zr_sub [2, 3, 1, 0] rfl (c_X10_voids_64 F C hh F (zwi (zwi m5 13 a1.toNatClampNeg 4 1) 13 a1.toNatClampNeg 3 (((zwi m5 13 a1.toNatClampNeg 4 1).1 0 0 11))) ((a1, 0, 0)))
    · refine zr_bipush (v := -3) C dX10_voids_28 rfl ?_
      exact zr_iret C dX10_voids_30
  · refine zr_iconst (v := -1) C dX10_voids_11 rfl ?_
    exact zr_iret C dX10_voids_12
def f_X10_canAsk (F : Nat) (σ : zMem) (a1 : Int32) (a2 : Int32) (a3 : Int32) (a4 : Int32) : Option (Int32 × zMem) := zb (f_X10_isHouse F σ a1) fun r2 m2 => if r2 = 0 then (some (0, m2)) else (if a2 < 0 then (some (0, m2)) else (if 8 ≤ a2 then (some (0, m2)) else (if a3 < 0 then (some (0, m2)) else (if a4 < 0 then (some (0, m2)) else (some (1, m2))))))
set_option maxHeartbeats 4000000 in
set_option maxRecDepth 100000 in
theorem c_X10_canAsk (l : Launch) (Z : zLay) (F : Nat) (σ : zMem) (a1 : Int32) (a2 : Int32) (a3 : Int32) (a4 : Int32) (r : Int32) (σ1 : zMem) (ho : f_X10_canAsk F σ a1 a2 a3 a4 = some (r, σ1)) : zMet l yX10_canAsk cX10_canAsk 5 (some .boolean) 2 Z [.ref (zad Z 0 0), .int (a1), .int (a2), .int (a3), .int (a4)] σ (zQI Z r σ1) := by
  refine zMet_of (Qc := zQI Z) (by decide) (Nat.le_of_ble_eq_true rfl) [(0, .ref (zad Z 0 0)), (1, .int (a1)), (2, .int (a2)), (3, .int (a3)), (4, .int (a4))] rfl (fun E C => ?_) ho
  have hh : 2 ≤ 2 := Nat.le_refl _
  show zKO E 5 Z (zMQ E Z (zQI Z)) 0 [(0, .ref (zad Z 0 0)), (1, .int (a1)), (2, .int (a2)), (3, .int (a3)), (4, .int (a4))] [] σ _
  unfold f_X10_canAsk
  refine zr_aload_n C dX10_canAsk_0 rfl ?_
  refine zr_iload_n C dX10_canAsk_1 rfl ?_
  refine zk_X10_91 C F (Nat.le_of_ble_eq_true rfl) (Nat.le_trans (by decide) hh) (by simp [Value.category]) dX10_canAsk_2 (fun r2 m2 => ?_)
  refine zr_if_eq (tgt := 31) C dX10_canAsk_5 (by decide) ?_ ?_
  · refine zr_iconst (v := 0) C dX10_canAsk_31 rfl ?_
    exact zr_zret C dX10_canAsk_32 rfl
  · refine zr_iload_n C dX10_canAsk_8 rfl ?_
    refine zr_if_lt (tgt := 31) C dX10_canAsk_9 (by decide) ?_ ?_
    · refine zr_iconst (v := 0) C dX10_canAsk_31 rfl ?_
      exact zr_zret C dX10_canAsk_32 rfl
    · refine zr_iload_n C dX10_canAsk_12 rfl ?_
      refine zr_bipush (v := 8) C dX10_canAsk_13 rfl ?_
      refine zr_icmp_ge (tgt := 31) C dX10_canAsk_15 (by decide) ?_ ?_
      · refine zr_iconst (v := 0) C dX10_canAsk_31 rfl ?_
        exact zr_zret C dX10_canAsk_32 rfl
      · refine zr_iload_n C dX10_canAsk_18 rfl ?_
        refine zr_if_lt (tgt := 31) C dX10_canAsk_19 (by decide) ?_ ?_
        · refine zr_iconst (v := 0) C dX10_canAsk_31 rfl ?_
          exact zr_zret C dX10_canAsk_32 rfl
        · refine zr_iload C dX10_canAsk_22 rfl ?_
          refine zr_if_lt (tgt := 31) C dX10_canAsk_24 (by decide) ?_ ?_
          · refine zr_iconst (v := 0) C dX10_canAsk_31 rfl ?_
            exact zr_zret C dX10_canAsk_32 rfl
          · refine zr_iconst (v := 1) C dX10_canAsk_27 rfl ?_
            refine zr_goto (tgt := 32) C dX10_canAsk_28 (by decide) ?_
            exact zr_zret C dX10_canAsk_32 rfl
theorem zk_X10_215 (C : zCx E cc RX10 nL ret Z h) (F : Nat) {b0 : Int32} {b1 : Int32} {b2 : Int32} {b3 : Int32} (hk : 0 < zN 0) (hh : 2 + 1 ≤ h) (hst8 : (st.map fun v => v.category).sum ≤ 8) (hd : decode cc pc = .ok (.invokevirtual 215, 3)) {g : Int32 → zMem → Option (α × zMem)} (kk : ∀ (r : Int32) (σ1 : zMem), zKO E nL Z QQ (pc + 3) L (.int r :: st) σ1 (g r σ1)) : zKO E nL Z QQ pc L (.int b3 :: .int b2 :: .int b1 :: .int b0 :: .ref (zad Z 0 0) :: st) σ (zb (f_X10_canAsk F σ b0 b1 b2 b3) g) :=
  zr_callVI (As := [.int b0, .int b1, .int b2, .int b3]) (ia := 4) C (fun r σ1 ho => c_X10_canAsk (zla E) Z F σ b0 b1 b2 b3 r σ1 ho) wz_655 hk rfl rfl wz_p23 wz_657 wz_658 wz_1 (by decide +kernel) rfl (by decide) hh hd hst8 kk
def f_X10_value (F : Nat) (σ : zMem) (a1 : Int32) (a2 : Int32) (a3 : Int32) (a4 : Int32) : Option (Int32 × zMem) := zb (f_X10_canAsk F σ a1 a2 a3 a4) fun r6 m6 => if r6 = 0 then (some ((-5), m6)) else (zg (inb a1 10) (zb (f_X9_latest F m6 a1.toNatClampNeg a2 a3 a4) fun r33 m33 => zb (f_X9_worth F m33 r33 a2) fun r37 m37 => some (r37, m37)))
set_option maxHeartbeats 4000000 in
set_option maxRecDepth 100000 in
theorem c_X10_value (l : Launch) (Z : zLay) (F : Nat) (σ : zMem) (a1 : Int32) (a2 : Int32) (a3 : Int32) (a4 : Int32) (r : Int32) (σ1 : zMem) (ho : f_X10_value F σ a1 a2 a3 a4 = some (r, σ1)) : zMet l yX10_value cX10_value 5 (some .int) 4 Z [.ref (zad Z 0 0), .int (a1), .int (a2), .int (a3), .int (a4)] σ (zQI Z r σ1) := by
  refine zMet_of (Qc := zQI Z) (by decide) (Nat.le_of_ble_eq_true rfl) [(0, .ref (zad Z 0 0)), (1, .int (a1)), (2, .int (a2)), (3, .int (a3)), (4, .int (a4))] rfl (fun E C => ?_) ho
  have hh : 4 ≤ 4 := Nat.le_refl _
  show zKO E 5 Z (zMQ E Z (zQI Z)) 0 [(0, .ref (zad Z 0 0)), (1, .int (a1)), (2, .int (a2)), (3, .int (a3)), (4, .int (a4))] [] σ _
  unfold f_X10_value
  refine zr_aload_n C dX10_value_0 rfl ?_
  refine zr_iload_n C dX10_value_1 rfl ?_
  refine zr_iload_n C dX10_value_2 rfl ?_
  refine zr_iload_n C dX10_value_3 rfl ?_
  refine zr_iload C dX10_value_4 rfl ?_
  refine zk_X10_215 C F (Nat.le_of_ble_eq_true rfl) (Nat.le_trans (by decide) hh) (by simp [Value.category]) dX10_value_6 (fun r6 m6 => ?_)
  refine zr_if_ne (tgt := 15) C dX10_value_9 (by decide) ?_ ?_
  · refine zr_aload_n C dX10_value_15 rfl ?_
    refine zf_X10_25 C (Nat.le_of_ble_eq_true rfl) dX10_value_16 ?_
    refine zr_aload_n C dX10_value_19 rfl ?_
    refine zf_X10_25 C (Nat.le_of_ble_eq_true rfl) dX10_value_20 ?_
    refine zr_aload_n C dX10_value_23 rfl ?_
    refine zf_X10_11 C (Nat.le_of_ble_eq_true rfl) dX10_value_24 ?_
    refine zr_iload_n C dX10_value_27 rfl ?_
    refine zr_aald (n := 10) (k1 := 2) C dX10_value_28 (Nat.le_of_ble_eq_true rfl) rfl rfl rfl (fun hb28 => ?_)
    refine zr_iload_n C dX10_value_29 rfl ?_
    refine zr_iload_n C dX10_value_30 rfl ?_
    refine zr_iload C dX10_value_31 rfl ?_
    refine zk_X10_219 C F (Nat.le_of_ble_eq_true rfl) (Nat.le_trans (by decide) hh) (by simp [Value.category]) dX10_value_33 (fun r33 m33 => ?_)
    refine zr_iload_n C dX10_value_36 rfl ?_
    refine zk_X10_223 C F (Nat.le_of_ble_eq_true rfl) (Nat.le_trans (by decide) hh) (by simp [Value.category]) dX10_value_37 (fun r37 m37 => ?_)
    exact zr_iret C dX10_value_40
  · refine zr_bipush (v := -5) C dX10_value_12 rfl ?_
    exact zr_iret C dX10_value_14
def f_X10_why (F : Nat) (σ : zMem) (a1 : Int32) (a2 : Int32) (a3 : Int32) (a4 : Int32) : Option (Int32 × zMem) := zb (f_X10_canAsk F σ a1 a2 a3 a4) fun r6 m6 => if r6 = 0 then (some ((-5), m6)) else (zg (inb a1 10) (zb (f_X9_latest F m6 a1.toNatClampNeg a2 a3 a4) fun r29 m29 => some (r29, m29)))
set_option maxHeartbeats 4000000 in
set_option maxRecDepth 100000 in
theorem c_X10_why (l : Launch) (Z : zLay) (F : Nat) (σ : zMem) (a1 : Int32) (a2 : Int32) (a3 : Int32) (a4 : Int32) (r : Int32) (σ1 : zMem) (ho : f_X10_why F σ a1 a2 a3 a4 = some (r, σ1)) : zMet l yX10_why cX10_why 5 (some .int) 4 Z [.ref (zad Z 0 0), .int (a1), .int (a2), .int (a3), .int (a4)] σ (zQI Z r σ1) := by
  refine zMet_of (Qc := zQI Z) (by decide) (Nat.le_of_ble_eq_true rfl) [(0, .ref (zad Z 0 0)), (1, .int (a1)), (2, .int (a2)), (3, .int (a3)), (4, .int (a4))] rfl (fun E C => ?_) ho
  have hh : 4 ≤ 4 := Nat.le_refl _
  show zKO E 5 Z (zMQ E Z (zQI Z)) 0 [(0, .ref (zad Z 0 0)), (1, .int (a1)), (2, .int (a2)), (3, .int (a3)), (4, .int (a4))] [] σ _
  unfold f_X10_why
  refine zr_aload_n C dX10_why_0 rfl ?_
  refine zr_iload_n C dX10_why_1 rfl ?_
  refine zr_iload_n C dX10_why_2 rfl ?_
  refine zr_iload_n C dX10_why_3 rfl ?_
  refine zr_iload C dX10_why_4 rfl ?_
  refine zk_X10_215 C F (Nat.le_of_ble_eq_true rfl) (Nat.le_trans (by decide) hh) (by simp [Value.category]) dX10_why_6 (fun r6 m6 => ?_)
  refine zr_if_ne (tgt := 15) C dX10_why_9 (by decide) ?_ ?_
  · refine zr_aload_n C dX10_why_15 rfl ?_
    refine zf_X10_25 C (Nat.le_of_ble_eq_true rfl) dX10_why_16 ?_
    refine zr_aload_n C dX10_why_19 rfl ?_
    refine zf_X10_11 C (Nat.le_of_ble_eq_true rfl) dX10_why_20 ?_
    refine zr_iload_n C dX10_why_23 rfl ?_
    refine zr_aald (n := 10) (k1 := 2) C dX10_why_24 (Nat.le_of_ble_eq_true rfl) rfl rfl rfl (fun hb24 => ?_)
    refine zr_iload_n C dX10_why_25 rfl ?_
    refine zr_iload_n C dX10_why_26 rfl ?_
    refine zr_iload C dX10_why_27 rfl ?_
    refine zk_X10_219 C F (Nat.le_of_ble_eq_true rfl) (Nat.le_trans (by decide) hh) (by simp [Value.category]) dX10_why_29 (fun r29 m29 => ?_)
    exact zr_iret C dX10_why_32
  · refine zr_bipush (v := -5) C dX10_why_12 rfl ?_
    exact zr_iret C dX10_why_14
def f_X10_weather (F : Nat) (σ : zMem) (a1 : Int32) (a2 : Int32) (a3 : Int32) : Option (Int32 × zMem) := zb (f_X5_has F σ a1 a2) fun r2 m2 => if r2 = 0 then (some ((-1), m2)) else (zb (f_X5_fits F m2 a2 ((a3.toInt64))) fun r13 m13 => if r13 = 0 then (some ((-2), m13)) else (zb (f_X5_tell F m13 a1 a2 a3) fun r29 m29 => some (1, m29)))
set_option maxHeartbeats 4000000 in
set_option maxRecDepth 100000 in
theorem c_X10_weather (l : Launch) (Z : zLay) (F : Nat) (σ : zMem) (a1 : Int32) (a2 : Int32) (a3 : Int32) (r : Int32) (σ1 : zMem) (ho : f_X10_weather F σ a1 a2 a3 = some (r, σ1)) : zMet l yX10_weather cX10_weather 4 (some .int) 2 Z [.ref (zad Z 0 0), .int (a1), .int (a2), .int (a3)] σ (zQI Z r σ1) := by
  refine zMet_of (Qc := zQI Z) (by decide) (Nat.le_of_ble_eq_true rfl) [(0, .ref (zad Z 0 0)), (1, .int (a1)), (2, .int (a2)), (3, .int (a3))] rfl (fun E C => ?_) ho
  have hh : 2 ≤ 2 := Nat.le_refl _
  show zKO E 4 Z (zMQ E Z (zQI Z)) 0 [(0, .ref (zad Z 0 0)), (1, .int (a1)), (2, .int (a2)), (3, .int (a3))] [] σ _
  unfold f_X10_weather
  refine zr_iload_n C dX10_weather_0 rfl ?_
  refine zr_iload_n C dX10_weather_1 rfl ?_
  refine zk_X10_226 C F (Nat.le_trans (by decide) hh) (by simp [Value.category]) dX10_weather_2 (fun r2 m2 => ?_)
  refine zr_if_ne (tgt := 10) C dX10_weather_5 (by decide) ?_ ?_
  · refine zr_iload_n C dX10_weather_10 rfl ?_
    refine zr_iload_n C dX10_weather_11 rfl ?_
    refine zr_i2l C dX10_weather_12 ?_
    refine zk_X10_228 C F (Nat.le_trans (by decide) hh) (by simp [Value.category]) dX10_weather_13 (fun r13 m13 => ?_)
    refine zr_if_ne (tgt := 22) C dX10_weather_16 (by decide) ?_ ?_
    · refine zr_aload_n C dX10_weather_22 rfl ?_
      refine zf_X10_32 C (Nat.le_of_ble_eq_true rfl) dX10_weather_23 ?_
      refine zr_iload_n C dX10_weather_26 rfl ?_
      refine zr_iload_n C dX10_weather_27 rfl ?_
      refine zr_iload_n C dX10_weather_28 rfl ?_
      refine zk_X10_231 C F (Nat.le_of_ble_eq_true rfl) (Nat.le_trans (by decide) hh) (by simp [Value.category]) dX10_weather_29 (fun r29 m29 => ?_)
      refine zr_iconst (v := 1) C dX10_weather_32 rfl ?_
      exact zr_iret C dX10_weather_33
    · refine zr_bipush (v := -2) C dX10_weather_19 rfl ?_
      exact zr_iret C dX10_weather_21
  · refine zr_iconst (v := -1) C dX10_weather_8 rfl ?_
    exact zr_iret C dX10_weather_9
def f_X10_isSheet (F : Nat) (σ : zMem) (a0 : Int32) : Option (Int32 × zMem) := if a0 < 0 then (some (0, σ)) else (if 3 ≤ a0 then (some (0, σ)) else (some (1, σ)))
set_option maxHeartbeats 4000000 in
set_option maxRecDepth 100000 in
theorem c_X10_isSheet (l : Launch) (Z : zLay) (F : Nat) (σ : zMem) (a0 : Int32) (r : Int32) (σ1 : zMem) (ho : f_X10_isSheet F σ a0 = some (r, σ1)) : zMet l yX10_isSheet cX10_isSheet 1 (some .boolean) 1 Z [.int (a0)] σ (zQI Z r σ1) := by
  refine zMet_of (Qc := zQI Z) (by decide) (Nat.le_of_ble_eq_true rfl) [(0, .int (a0))] rfl (fun E C => ?_) ho
  have hh : 1 ≤ 1 := Nat.le_refl _
  show zKO E 1 Z (zMQ E Z (zQI Z)) 0 [(0, .int (a0))] [] σ _
  unfold f_X10_isSheet
  refine zr_iload_n C dX10_isSheet_0 rfl ?_
  refine zr_if_lt (tgt := 13) C dX10_isSheet_1 (by decide) ?_ ?_
  · refine zr_iconst (v := 0) C dX10_isSheet_13 rfl ?_
    exact zr_zret C dX10_isSheet_14 rfl
  · refine zr_iload_n C dX10_isSheet_4 rfl ?_
    refine zr_iconst (v := 3) C dX10_isSheet_5 rfl ?_
    refine zr_icmp_ge (tgt := 13) C dX10_isSheet_6 (by decide) ?_ ?_
    · refine zr_iconst (v := 0) C dX10_isSheet_13 rfl ?_
      exact zr_zret C dX10_isSheet_14 rfl
    · refine zr_iconst (v := 1) C dX10_isSheet_9 rfl ?_
      refine zr_goto (tgt := 14) C dX10_isSheet_10 (by decide) ?_
      exact zr_zret C dX10_isSheet_14 rfl
theorem zk_X10_235 (C : zCx E cc RX10 nL ret Z h) (F : Nat) {b0 : Int32} (hh : 1 + 1 ≤ h) (hst8 : (st.map fun v => v.category).sum ≤ 8) (hd : decode cc pc = .ok (.invokestatic 235, 3)) {g : Int32 → zMem → Option (α × zMem)} (kk : ∀ (r : Int32) (σ1 : zMem), zKO E nL Z QQ (pc + 3) L (.int r :: st) σ1 (g r σ1)) : zKO E nL Z QQ pc L (.int b0 :: st) σ (zb (f_X10_isSheet F σ b0) g) :=
  zr_callSI (As := [.int b0]) (ia := 1) C (fun r σ1 ho => c_X10_isSheet (zla E) Z F σ b0 r σ1 ho) wz_709 wz_710 wz_711 wz_1 (by decide +kernel) rfl (by decide) hh hd hst8 kk
def f_X10_sky_104 (F : Nat) (rec104 : zMem → Int32 × Int32 × Int32 × Int32 × Nat × Int32 × Int32 → Option (Int32 × zMem)) (σ : zMem) (x : Int32 × Int32 × Int32 × Int32 × Nat × Int32 × Int32) : Option (Int32 × zMem) := zg (decide (x.2.2.2.2.1 < 3)) (if x.2.2.2.1 ≤ x.2.2.2.2.2.2 then (some (x.2.2.2.2.2.1, σ)) else (zg (inb ((x.2.2.1 + x.2.2.2.2.2.2)) 60) (if (lg_cmp ((σ.2 48 x.2.2.2.2.1 ((x.2.2.1 + x.2.2.2.2.2.2)).toNatClampNeg)) ((-9000000000))) = 0 then (rec104 σ ((x.1, x.2.1, x.2.2.1, x.2.2.2.1, x.2.2.2.2.1, x.2.2.2.2.2.1, (x.2.2.2.2.2.2 + 1)))) else (zg (znl 4) (zb (f_X5_fits F σ x.2.1 (((σ.2 48 x.2.2.2.2.1 ((x.2.2.1 + x.2.2.2.2.2.2)).toNatClampNeg) / 4))) fun r140 m140 => if r140 = 0 then (rec104 m140 ((x.1, x.2.1, x.2.2.1, x.2.2.2.1, x.2.2.2.2.1, x.2.2.2.2.2.1, (x.2.2.2.2.2.2 + 1)))) else (zg (znl 4) (zb (f_X5_tell F m140 ((x.1 + x.2.2.2.2.2.2)) x.2.1 (((((σ.2 48 x.2.2.2.2.1 ((x.2.2.1 + x.2.2.2.2.2.2)).toNatClampNeg) / 4)).toInt32))) fun r162 m162 => rec104 m162 ((x.1, x.2.1, x.2.2.1, x.2.2.2.1, x.2.2.2.2.1, (x.2.2.2.2.2.1 + 1), (x.2.2.2.2.2.2 + 1))))))))))
set_option maxHeartbeats 4000000 in
set_option maxRecDepth 100000 in
theorem c_X10_sky_104 (F : Nat) {E : zEn} {h : Nat} {Z : zLay} (C : zCx E cX10_sky RX10 11 (some .int) Z h) (hh : 2 ≤ h) : ∀ (n : Nat) (σ : zMem) (x : Int32 × Int32 × Int32 × Int32 × Nat × Int32 × Int32), zKO E 11 Z (zMQ E Z (zQI Z)) 104 [(0, .ref (zad Z 0 0)), (1, .int x.1), (2, .int x.2.1), (4, .int x.2.2.1), (5, .int x.2.2.2.1), (6, .ref (zad Z 47 x.2.2.2.2.1)), (7, .int x.2.2.2.2.2.1), (8, .int x.2.2.2.2.2.2)] [] σ (zit (f_X10_sky_104 F) n σ x) := by
  refine zr_loop (LL := fun (x : Int32 × Int32 × Int32 × Int32 × Nat × Int32 × Int32) => [(0, .ref (zad Z 0 0)), (1, .int x.1), (2, .int x.2.1), (4, .int x.2.2.1), (5, .int x.2.2.2.1), (6, .ref (zad Z 47 x.2.2.2.2.1)), (7, .int x.2.2.2.2.2.1), (8, .int x.2.2.2.2.2.2)]) (ST := fun (x : Int32 × Int32 × Int32 × Int32 × Nat × Int32 × Int32) => []) (fun rec104 hrec104 σ x => ?_)
  obtain ⟨l1, l2, l4, l5, l6, l7, l8⟩ := x
  show zKO E 11 Z (zMQ E Z (zQI Z)) 104 [(0, .ref (zad Z 0 0)), (1, .int l1), (2, .int l2), (4, .int l4), (5, .int l5), (6, .ref (zad Z 47 l6)), (7, .int l7), (8, .int l8)] [] σ (zg (decide (l6 < 3)) (if l5 ≤ l8 then (some (l7, σ)) else (zg (inb ((l4 + l8)) 60) (if (lg_cmp ((σ.2 48 l6 ((l4 + l8)).toNatClampNeg)) ((-9000000000))) = 0 then (rec104 σ ((l1, l2, l4, l5, l6, l7, (l8 + 1)))) else (zg (znl 4) (zb (f_X5_fits F σ l2 (((σ.2 48 l6 ((l4 + l8)).toNatClampNeg) / 4))) fun r140 m140 => if r140 = 0 then (rec104 m140 ((l1, l2, l4, l5, l6, l7, (l8 + 1)))) else (zg (znl 4) (zb (f_X5_tell F m140 ((l1 + l8)) l2 (((((σ.2 48 l6 ((l4 + l8)).toNatClampNeg) / 4)).toInt32))) fun r162 m162 => rec104 m162 ((l1, l2, l4, l5, l6, (l7 + 1), (l8 + 1)))))))))))
  refine zr_g (fun hl6 => ?_)
  refine zr_iload C dX10_sky_104 rfl ?_
  refine zr_iload C dX10_sky_106 rfl ?_
  refine zr_icmp_ge (tgt := 174) C dX10_sky_108 (by decide) ?_ ?_
  · refine zr_iload C dX10_sky_174 rfl ?_
    exact zr_iret C dX10_sky_176
  · refine zr_aload C dX10_sky_111 rfl ?_
    refine zf_X10_244 C (of_decide_eq_true hl6) dX10_sky_113 ?_
    refine zr_iload C dX10_sky_116 rfl ?_
    refine zr_iload C dX10_sky_118 rfl ?_
    refine zr_iadd C dX10_sky_120 ?_
    refine zr_lald (n := 60) C dX10_sky_121 (of_decide_eq_true hl6) rfl ?_
    refine zr_lstore (i := 9) (L1 := [(9, .long _), (0, .ref _), (1, .int _), (2, .int _), (4, .int _), (5, .int _), (6, .ref _), (7, .int _), (8, .int _)]) C dX10_sky_122 (by decide) rfl ?_
    refine zr_lload C dX10_sky_124 rfl ?_
    refine zr_ldc2 (v := -9000000000) C dX10_sky_126 wz_716 ?_
    refine zr_lcmp C dX10_sky_129 ?_
    refine zr_if_eq (tgt := 168) C dX10_sky_130 (by decide) ?_ ?_
    · refine zr_iinc (kk := 8) (v := (l8 + 1)) (L1 := [(8, .int _), (9, .long _), (0, .ref _), (1, .int _), (2, .int _), (4, .int _), (5, .int _), (6, .ref _), (7, .int _)]) C dX10_sky_168 rfl rfl (by decide) rfl ?_
      refine zr_goto (tgt := 104) C dX10_sky_171 (by decide) ?_
      exact zr_sub [2, 3, 4, 5, 6, 7, 8, 0] rfl (hrec104 σ ((l1, l2, l4, l5, l6, l7, (l8 + 1))))
    · refine zr_iload_n C dX10_sky_133 rfl ?_
      refine zr_lload C dX10_sky_134 rfl ?_
      refine zr_ldc2 (v := 4) C dX10_sky_136 wz_717 ?_
      refine zr_ldiv C dX10_sky_139 ?_
      refine zk_X10_228 C F (Nat.le_trans (by decide) hh) (by simp [Value.category]) dX10_sky_140 (fun r140 m140 => ?_)
      refine zr_if_eq (tgt := 168) C dX10_sky_143 (by decide) ?_ ?_
      · refine zr_iinc (kk := 8) (v := (l8 + 1)) (L1 := [(8, .int _), (9, .long _), (0, .ref _), (1, .int _), (2, .int _), (4, .int _), (5, .int _), (6, .ref _), (7, .int _)]) C dX10_sky_168 rfl rfl (by decide) rfl ?_
        refine zr_goto (tgt := 104) C dX10_sky_171 (by decide) ?_
        exact zr_sub [2, 3, 4, 5, 6, 7, 8, 0] rfl (hrec104 m140 ((l1, l2, l4, l5, l6, l7, (l8 + 1))))
      · refine zr_aload_n C dX10_sky_146 rfl ?_
        refine zf_X10_32 C (Nat.le_of_ble_eq_true rfl) dX10_sky_147 ?_
        refine zr_iload_n C dX10_sky_150 rfl ?_
        refine zr_iload C dX10_sky_151 rfl ?_
        refine zr_iadd C dX10_sky_153 ?_
        refine zr_iload_n C dX10_sky_154 rfl ?_
        refine zr_lload C dX10_sky_155 rfl ?_
        refine zr_ldc2 (v := 4) C dX10_sky_157 wz_717 ?_
        refine zr_ldiv C dX10_sky_160 ?_
        refine zr_l2i C dX10_sky_161 ?_
        refine zk_X10_231 C F (Nat.le_of_ble_eq_true rfl) (Nat.le_trans (by decide) hh) (by simp [Value.category]) dX10_sky_162 (fun r162 m162 => ?_)
        refine zr_iinc (kk := 7) (v := (l7 + 1)) (L1 := [(7, .int _), (9, .long _), (0, .ref _), (1, .int _), (2, .int _), (4, .int _), (5, .int _), (6, .ref _), (8, .int _)]) C dX10_sky_165 rfl rfl (by decide) rfl ?_
        refine zr_iinc (kk := 8) (v := (l8 + 1)) (L1 := [(8, .int _), (7, .int _), (9, .long _), (0, .ref _), (1, .int _), (2, .int _), (4, .int _), (5, .int _), (6, .ref _)]) C dX10_sky_168 rfl rfl (by decide) rfl ?_
        refine zr_goto (tgt := 104) C dX10_sky_171 (by decide) ?_
        exact zr_sub [3, 4, 5, 6, 7, 8, 1, 0] rfl (hrec104 m162 ((l1, l2, l4, l5, l6, (l7 + 1), (l8 + 1))))
def f_X10_sky_71 (F : Nat) (σ : zMem) (l1 : Int32) (l2 : Int32) (l4 : Int32) (l5 : Int32) (l6 : Nat) : Option (Int32 × zMem) := zg (decide (l6 < 3)) (if (σ.1 47 l6 0) = (-1) then (some ((-11), σ)) else (zb (f_X4_holds F σ l6 l4 l5) fun r89 m89 => if r89 = 0 then (some ((-12), m89)) else (zit (f_X10_sky_104 F) F m89 ((l1, l2, l4, l5, l6, 0, 0)))))
set_option maxHeartbeats 4000000 in
set_option maxRecDepth 100000 in
theorem c_X10_sky_71 (F : Nat) {E : zEn} {h : Nat} {Z : zLay} (C : zCx E cX10_sky RX10 11 (some .int) Z h) (hh : 2 ≤ h) (σ : zMem) (l1 : Int32) (l2 : Int32) (l4 : Int32) (l5 : Int32) (l6 : Nat) : zKO E 11 Z (zMQ E Z (zQI Z)) 71 [(0, .ref (zad Z 0 0)), (1, .int l1), (2, .int l2), (4, .int l4), (5, .int l5), (6, .ref (zad Z 47 l6))] [] σ (f_X10_sky_71 F σ l1 l2 l4 l5 l6) := by
  unfold f_X10_sky_71
  refine zr_g (fun hl6 => ?_)
  refine zr_aload C dX10_sky_71 rfl ?_
  refine zf_X10_238 C (of_decide_eq_true hl6) dX10_sky_73 ?_
  refine zr_iconst (v := -1) C dX10_sky_76 rfl ?_
  refine zr_icmp_ne (tgt := 83) C dX10_sky_77 (by decide) ?_ ?_
  · refine zr_aload C dX10_sky_83 rfl ?_
    refine zr_iload C dX10_sky_85 rfl ?_
    refine zr_iload C dX10_sky_87 rfl ?_
    refine zk_X10_241 C F (of_decide_eq_true hl6) (Nat.le_trans (by decide) hh) (by simp [Value.category]) dX10_sky_89 (fun r89 m89 => ?_)
    refine zr_if_ne (tgt := 98) C dX10_sky_92 (by decide) ?_ ?_
    · refine zr_iconst (v := 0) C dX10_sky_98 rfl ?_
      refine zr_istore (i := 7) (L1 := [(7, .int _), (0, .ref _), (1, .int _), (2, .int _), (4, .int _), (5, .int _), (6, .ref _)]) C dX10_sky_99 (by decide) rfl ?_
      refine zr_iconst (v := 0) C dX10_sky_101 rfl ?_
      refine zr_istore (i := 8) (L1 := [(8, .int _), (7, .int _), (0, .ref _), (1, .int _), (2, .int _), (4, .int _), (5, .int _), (6, .ref _)]) C dX10_sky_102 (by decide) rfl ?_
      exact zr_sub [2, 3, 4, 5, 6, 7, 1, 0] rfl (c_X10_sky_104 F C hh F m89 ((l1, l2, l4, l5, l6, 0, 0)))
    · refine zr_bipush (v := -12) C dX10_sky_95 rfl ?_
      exact zr_iret C dX10_sky_97
  · refine zr_bipush (v := -11) C dX10_sky_80 rfl ?_
    exact zr_iret C dX10_sky_82
def f_X10_sky (F : Nat) (σ : zMem) (a1 : Int32) (a2 : Int32) (a3 : Int32) (a4 : Int32) (a5 : Int32) : Option (Int32 × zMem) := zb (f_X5_has F σ a1 a2) fun r2 m2 => if r2 = 0 then (some ((-1), m2)) else (zb (f_X10_isSheet F m2 a3) fun r9 m9 => if r9 = 0 then (some ((-1), m9)) else (if a5 < 0 then (some ((-2), m9)) else (if a5 ≤ (7200 - a1) then (if a5 = 0 then (some (0, m9)) else (zg (inb a3 3) (if (m9.1 47 a3.toNatClampNeg 0) = (-1) then (f_X10_sky_71 F m9 a1 a2 a4 a5 a3.toNatClampNeg) else (if (m9.1 47 a3.toNatClampNeg 0) = 2 then (f_X10_sky_71 F m9 a1 a2 a4 a5 a3.toNatClampNeg) else (some ((-13), m9)))))) else (some ((-2), m9)))))
set_option maxHeartbeats 4000000 in
set_option maxRecDepth 100000 in
theorem c_X10_sky (l : Launch) (Z : zLay) (F : Nat) (σ : zMem) (a1 : Int32) (a2 : Int32) (a3 : Int32) (a4 : Int32) (a5 : Int32) (r : Int32) (σ1 : zMem) (ho : f_X10_sky F σ a1 a2 a3 a4 a5 = some (r, σ1)) : zMet l yX10_sky cX10_sky 11 (some .int) 2 Z [.ref (zad Z 0 0), .int (a1), .int (a2), .int (a3), .int (a4), .int (a5)] σ (zQI Z r σ1) := by
  refine zMet_of (Qc := zQI Z) (by decide) (Nat.le_of_ble_eq_true rfl) [(0, .ref (zad Z 0 0)), (1, .int (a1)), (2, .int (a2)), (3, .int (a3)), (4, .int (a4)), (5, .int (a5))] rfl (fun E C => ?_) ho
  have hh : 2 ≤ 2 := Nat.le_refl _
  show zKO E 11 Z (zMQ E Z (zQI Z)) 0 [(0, .ref (zad Z 0 0)), (1, .int (a1)), (2, .int (a2)), (3, .int (a3)), (4, .int (a4)), (5, .int (a5))] [] σ _
  unfold f_X10_sky
  refine zr_iload_n C dX10_sky_0 rfl ?_
  refine zr_iload_n C dX10_sky_1 rfl ?_
  refine zk_X10_226 C F (Nat.le_trans (by decide) hh) (by simp [Value.category]) dX10_sky_2 (fun r2 m2 => ?_)
  refine zr_if_eq (tgt := 15) C dX10_sky_5 (by decide) ?_ ?_
  · refine zr_iconst (v := -1) C dX10_sky_15 rfl ?_
    exact zr_iret C dX10_sky_16
  · refine zr_iload_n C dX10_sky_8 rfl ?_
    refine zk_X10_235 C F (Nat.le_trans (by decide) hh) (by simp [Value.category]) dX10_sky_9 (fun r9 m9 => ?_)
    refine zr_if_ne (tgt := 17) C dX10_sky_12 (by decide) ?_ ?_
    · refine zr_iload C dX10_sky_17 rfl ?_
      refine zr_if_lt (tgt := 32) C dX10_sky_19 (by decide) ?_ ?_
      · refine zr_bipush (v := -2) C dX10_sky_32 rfl ?_
        exact zr_iret C dX10_sky_34
      · refine zr_iload C dX10_sky_22 rfl ?_
        refine zr_sipush (v := 7200) C dX10_sky_24 rfl ?_
        refine zr_iload_n C dX10_sky_27 rfl ?_
        refine zr_isub C dX10_sky_28 ?_
        refine zr_icmp_le (tgt := 35) C dX10_sky_29 (by decide) ?_ ?_
        · refine zr_iload C dX10_sky_35 rfl ?_
          refine zr_if_ne (tgt := 42) C dX10_sky_37 (by decide) ?_ ?_
          · refine zr_aload_n C dX10_sky_42 rfl ?_
            refine zf_X10_59 C (Nat.le_of_ble_eq_true rfl) dX10_sky_43 ?_
            refine zr_iload_n C dX10_sky_46 rfl ?_
            refine zr_aald (n := 3) (k1 := 47) C dX10_sky_47 (Nat.le_of_ble_eq_true rfl) rfl rfl rfl (fun hb47 => ?_)
            refine zr_astore (i := 6) (L1 := [(6, .ref _), (0, .ref _), (1, .int _), (2, .int _), (3, .int _), (4, .int _), (5, .int _)]) C dX10_sky_48 (by decide) rfl ?_
            refine zr_aload C dX10_sky_50 rfl ?_
            refine zf_X10_238 C hb47 dX10_sky_52 ?_
            refine zr_iconst (v := -1) C dX10_sky_55 rfl ?_
            refine zr_icmp_eq (tgt := 71) C dX10_sky_56 (by decide) ?_ ?_
            · exact zr_sub [1, 2, 3, 5, 6, 0] rfl (c_X10_sky_71 F C hh m9 a1 a2 a4 a5 a3.toNatClampNeg)
            · refine zr_aload C dX10_sky_59 rfl ?_
              refine zf_X10_238 C hb47 dX10_sky_61 ?_
              refine zr_iconst (v := 2) C dX10_sky_64 rfl ?_
              refine zr_icmp_eq (tgt := 71) C dX10_sky_65 (by decide) ?_ ?_
              · exact zr_sub [1, 2, 3, 5, 6, 0] rfl (c_X10_sky_71 F C hh m9 a1 a2 a4 a5 a3.toNatClampNeg)
              · refine zr_bipush (v := -13) C dX10_sky_68 rfl ?_
                exact zr_iret C dX10_sky_70
          · refine zr_iconst (v := 0) C dX10_sky_40 rfl ?_
            exact zr_iret C dX10_sky_41
        · refine zr_bipush (v := -2) C dX10_sky_32 rfl ?_
          exact zr_iret C dX10_sky_34
    · refine zr_iconst (v := -1) C dX10_sky_15 rfl ?_
      exact zr_iret C dX10_sky_16
def f_X10_skyOf (F : Nat) (σ : zMem) (a1 : Int32) (a2 : Int32) : Option (Int32 × zMem) := zb (f_X5_has F σ a1 a2) fun r2 m2 => if r2 = 0 then (some ((-1000), m2)) else (zb (f_X5_on F m2 a1 a2) fun r18 m18 => some (r18, m18))
set_option maxHeartbeats 4000000 in
set_option maxRecDepth 100000 in
theorem c_X10_skyOf (l : Launch) (Z : zLay) (F : Nat) (σ : zMem) (a1 : Int32) (a2 : Int32) (r : Int32) (σ1 : zMem) (ho : f_X10_skyOf F σ a1 a2 = some (r, σ1)) : zMet l yX10_skyOf cX10_skyOf 3 (some .int) 2 Z [.ref (zad Z 0 0), .int (a1), .int (a2)] σ (zQI Z r σ1) := by
  refine zMet_of (Qc := zQI Z) (by decide) (Nat.le_of_ble_eq_true rfl) [(0, .ref (zad Z 0 0)), (1, .int (a1)), (2, .int (a2))] rfl (fun E C => ?_) ho
  have hh : 2 ≤ 2 := Nat.le_refl _
  show zKO E 3 Z (zMQ E Z (zQI Z)) 0 [(0, .ref (zad Z 0 0)), (1, .int (a1)), (2, .int (a2))] [] σ _
  unfold f_X10_skyOf
  refine zr_iload_n C dX10_skyOf_0 rfl ?_
  refine zr_iload_n C dX10_skyOf_1 rfl ?_
  refine zk_X10_226 C F (Nat.le_trans (by decide) hh) (by simp [Value.category]) dX10_skyOf_2 (fun r2 m2 => ?_)
  refine zr_if_ne (tgt := 12) C dX10_skyOf_5 (by decide) ?_ ?_
  · refine zr_aload_n C dX10_skyOf_12 rfl ?_
    refine zf_X10_32 C (Nat.le_of_ble_eq_true rfl) dX10_skyOf_13 ?_
    refine zr_iload_n C dX10_skyOf_16 rfl ?_
    refine zr_iload_n C dX10_skyOf_17 rfl ?_
    refine zk_X10_252 C F (Nat.le_of_ble_eq_true rfl) (Nat.le_trans (by decide) hh) (by simp [Value.category]) dX10_skyOf_18 (fun r18 m18 => ?_)
    exact zr_iret C dX10_skyOf_21
  · refine zr_sipush (v := -1000) C dX10_skyOf_8 rfl ?_
    exact zr_iret C dX10_skyOf_11
def f_X10_alp (F : Nat) (σ : zMem) (a1 : Int32) (a2 : Int32) : Option (Int32 × zMem) := if a1 < 0 then (some ((-2), σ)) else (if 3 < a1 then (some ((-2), σ)) else (if a2 < 1 then (some ((-2), σ)) else (if a2 ≤ 99 then (if (σ.1 25 0 4) < 4 then (zb (f_X0_enter F σ a1 a2) fun r43 m43 => some (r43, m43)) else (some ((-4), σ))) else (some ((-2), σ)))))
set_option maxHeartbeats 4000000 in
set_option maxRecDepth 100000 in
theorem c_X10_alp (l : Launch) (Z : zLay) (F : Nat) (σ : zMem) (a1 : Int32) (a2 : Int32) (r : Int32) (σ1 : zMem) (ho : f_X10_alp F σ a1 a2 = some (r, σ1)) : zMet l yX10_alp cX10_alp 3 (some .int) 2 Z [.ref (zad Z 0 0), .int (a1), .int (a2)] σ (zQI Z r σ1) := by
  refine zMet_of (Qc := zQI Z) (by decide) (Nat.le_of_ble_eq_true rfl) [(0, .ref (zad Z 0 0)), (1, .int (a1)), (2, .int (a2))] rfl (fun E C => ?_) ho
  have hh : 2 ≤ 2 := Nat.le_refl _
  show zKO E 3 Z (zMQ E Z (zQI Z)) 0 [(0, .ref (zad Z 0 0)), (1, .int (a1)), (2, .int (a2))] [] σ _
  unfold f_X10_alp
  refine zr_iload_n C dX10_alp_0 rfl ?_
  refine zr_if_lt (tgt := 20) C dX10_alp_1 (by decide) ?_ ?_
  · refine zr_bipush (v := -2) C dX10_alp_20 rfl ?_
    exact zr_iret C dX10_alp_22
  · refine zr_iload_n C dX10_alp_4 rfl ?_
    refine zr_iconst (v := 3) C dX10_alp_5 rfl ?_
    refine zr_icmp_gt (tgt := 20) C dX10_alp_6 (by decide) ?_ ?_
    · refine zr_bipush (v := -2) C dX10_alp_20 rfl ?_
      exact zr_iret C dX10_alp_22
    · refine zr_iload_n C dX10_alp_9 rfl ?_
      refine zr_iconst (v := 1) C dX10_alp_10 rfl ?_
      refine zr_icmp_lt (tgt := 20) C dX10_alp_11 (by decide) ?_ ?_
      · refine zr_bipush (v := -2) C dX10_alp_20 rfl ?_
        exact zr_iret C dX10_alp_22
      · refine zr_iload_n C dX10_alp_14 rfl ?_
        refine zr_bipush (v := 99) C dX10_alp_15 rfl ?_
        refine zr_icmp_le (tgt := 23) C dX10_alp_17 (by decide) ?_ ?_
        · refine zr_aload_n C dX10_alp_23 rfl ?_
          refine zf_X10_39 C (Nat.le_of_ble_eq_true rfl) dX10_alp_24 ?_
          refine zf_X10_255 C (Nat.le_of_ble_eq_true rfl) dX10_alp_27 ?_
          refine zr_iconst (v := 4) C dX10_alp_30 rfl ?_
          refine zr_icmp_lt (tgt := 37) C dX10_alp_31 (by decide) ?_ ?_
          · refine zr_aload_n C dX10_alp_37 rfl ?_
            refine zf_X10_39 C (Nat.le_of_ble_eq_true rfl) dX10_alp_38 ?_
            refine zr_iload_n C dX10_alp_41 rfl ?_
            refine zr_iload_n C dX10_alp_42 rfl ?_
            refine zk_X10_256 C F (Nat.le_of_ble_eq_true rfl) (Nat.le_trans (by decide) hh) (by simp [Value.category]) dX10_alp_43 (fun r43 m43 => ?_)
            exact zr_iret C dX10_alp_46
          · refine zr_bipush (v := -4) C dX10_alp_34 rfl ?_
            exact zr_iret C dX10_alp_36
        · refine zr_bipush (v := -2) C dX10_alp_20 rfl ?_
          exact zr_iret C dX10_alp_22
def f_X10_cowsUpOn_5 (F : Nat) (rec5 : zMem → Int32 × Int32 × Int32 × Int32 → Option (Int32 × zMem)) (σ : zMem) (x : Int32 × Int32 × Int32 × Int32) : Option (Int32 × zMem) := if (σ.1 0 0 1) ≤ x.2.2.2 then (some (x.2.2.1, σ)) else (if ((x.2.1 >>> (x.2.2.2 &&& 31)) &&& 1) = 0 then (zg (inb x.2.2.2 10) (zg (inb x.1 4) (rec5 σ ((x.1, x.2.1, (x.2.2.1 + (σ.1 4 x.2.2.2.toNatClampNeg x.1.toNatClampNeg)), (x.2.2.2 + 1)))))) else (rec5 σ ((x.1, x.2.1, x.2.2.1, (x.2.2.2 + 1)))))
set_option maxHeartbeats 4000000 in
set_option maxRecDepth 100000 in
theorem c_X10_cowsUpOn_5 (F : Nat) {E : zEn} {h : Nat} {Z : zLay} (C : zCx E cX10_cowsUpOn RX10 5 (some .int) Z h) (hh : 1 ≤ h) : ∀ (n : Nat) (σ : zMem) (x : Int32 × Int32 × Int32 × Int32), zKO E 5 Z (zMQ E Z (zQI Z)) 5 [(0, .ref (zad Z 0 0)), (1, .int x.1), (2, .int x.2.1), (3, .int x.2.2.1), (4, .int x.2.2.2)] [] σ (zit (f_X10_cowsUpOn_5 F) n σ x) := by
  refine zr_loop (LL := fun (x : Int32 × Int32 × Int32 × Int32) => [(0, .ref (zad Z 0 0)), (1, .int x.1), (2, .int x.2.1), (3, .int x.2.2.1), (4, .int x.2.2.2)]) (ST := fun (x : Int32 × Int32 × Int32 × Int32) => []) (fun rec5 hrec5 σ x => ?_)
  obtain ⟨l1, l2, l3, l4⟩ := x
  show zKO E 5 Z (zMQ E Z (zQI Z)) 5 [(0, .ref (zad Z 0 0)), (1, .int l1), (2, .int l2), (3, .int l3), (4, .int l4)] [] σ (if (σ.1 0 0 1) ≤ l4 then (some (l3, σ)) else (if ((l2 >>> (l4 &&& 31)) &&& 1) = 0 then (zg (inb l4 10) (zg (inb l1 4) (rec5 σ ((l1, l2, (l3 + (σ.1 4 l4.toNatClampNeg l1.toNatClampNeg)), (l4 + 1)))))) else (rec5 σ ((l1, l2, l3, (l4 + 1))))))
  refine zr_iload C dX10_cowsUpOn_5 rfl ?_
  refine zr_aload_n C dX10_cowsUpOn_7 rfl ?_
  refine zf_X10_85 C (Nat.le_of_ble_eq_true rfl) dX10_cowsUpOn_8 ?_
  refine zr_icmp_ge (tgt := 44) C dX10_cowsUpOn_11 (by decide) ?_ ?_
  · refine zr_iload_n C dX10_cowsUpOn_44 rfl ?_
    exact zr_iret C dX10_cowsUpOn_45
  · refine zr_iload_n C dX10_cowsUpOn_14 rfl ?_
    refine zr_iload C dX10_cowsUpOn_15 rfl ?_
    refine zr_ishr C dX10_cowsUpOn_17 ?_
    refine zr_iconst (v := 1) C dX10_cowsUpOn_18 rfl ?_
    refine zr_iand C dX10_cowsUpOn_19 ?_
    refine zr_if_ne (tgt := 38) C dX10_cowsUpOn_20 (by decide) ?_ ?_
    · refine zr_iinc (kk := 4) (v := (l4 + 1)) (L1 := [(4, .int _), (0, .ref _), (1, .int _), (2, .int _), (3, .int _)]) C dX10_cowsUpOn_38 rfl rfl (by decide) rfl ?_
      refine zr_goto (tgt := 5) C dX10_cowsUpOn_41 (by decide) ?_
      exact zr_sub [1, 2, 3, 4, 0] rfl (hrec5 σ ((l1, l2, l3, (l4 + 1))))
    · refine zr_iload_n C dX10_cowsUpOn_23 rfl ?_
      refine zr_aload_n C dX10_cowsUpOn_24 rfl ?_
      refine zf_X10_11 C (Nat.le_of_ble_eq_true rfl) dX10_cowsUpOn_25 ?_
      refine zr_iload C dX10_cowsUpOn_28 rfl ?_
      refine zr_aald (n := 10) (k1 := 2) C dX10_cowsUpOn_30 (Nat.le_of_ble_eq_true rfl) rfl rfl rfl (fun hb30 => ?_)
      refine zf_X10_274 C hb30 dX10_cowsUpOn_31 ?_
      refine zr_iload_n C dX10_cowsUpOn_34 rfl ?_
      refine zr_iald (n := 4) C dX10_cowsUpOn_35 hb30 rfl ?_
      refine zr_iadd C dX10_cowsUpOn_36 ?_
      refine zr_istore_n (i := 3) (L1 := [(3, .int _), (0, .ref _), (1, .int _), (2, .int _), (4, .int _)]) C dX10_cowsUpOn_37 rfl (by decide) rfl ?_
      refine zr_iinc (kk := 4) (v := (l4 + 1)) (L1 := [(4, .int _), (3, .int _), (0, .ref _), (1, .int _), (2, .int _)]) C dX10_cowsUpOn_38 rfl rfl (by decide) rfl ?_
      refine zr_goto (tgt := 5) C dX10_cowsUpOn_41 (by decide) ?_
      exact zr_sub [2, 3, 4, 1, 0] rfl (hrec5 σ ((l1, l2, (l3 + (σ.1 4 l4.toNatClampNeg l1.toNatClampNeg)), (l4 + 1))))
def f_X10_cowsUpOn (F : Nat) (σ : zMem) (a1 : Int32) (a2 : Int32) : Option (Int32 × zMem) := zit (f_X10_cowsUpOn_5 F) F σ ((a1, a2, 0, 0))
set_option maxHeartbeats 4000000 in
set_option maxRecDepth 100000 in
theorem c_X10_cowsUpOn (l : Launch) (Z : zLay) (F : Nat) (σ : zMem) (a1 : Int32) (a2 : Int32) (r : Int32) (σ1 : zMem) (ho : f_X10_cowsUpOn F σ a1 a2 = some (r, σ1)) : zMet l yX10_cowsUpOn cX10_cowsUpOn 5 (some .int) 1 Z [.ref (zad Z 0 0), .int (a1), .int (a2)] σ (zQI Z r σ1) := by
  refine zMet_of (Qc := zQI Z) (by decide) (Nat.le_of_ble_eq_true rfl) [(0, .ref (zad Z 0 0)), (1, .int (a1)), (2, .int (a2))] rfl (fun E C => ?_) ho
  have hh : 1 ≤ 1 := Nat.le_refl _
  show zKO E 5 Z (zMQ E Z (zQI Z)) 0 [(0, .ref (zad Z 0 0)), (1, .int (a1)), (2, .int (a2))] [] σ _
  unfold f_X10_cowsUpOn
  refine zr_iconst (v := 0) C dX10_cowsUpOn_0 rfl ?_
  refine zr_istore_n (i := 3) (L1 := [(3, .int _), (0, .ref _), (1, .int _), (2, .int _)]) C dX10_cowsUpOn_1 rfl (by decide) rfl ?_
  refine zr_iconst (v := 0) C dX10_cowsUpOn_2 rfl ?_
  refine zr_istore (i := 4) (L1 := [(4, .int _), (3, .int _), (0, .ref _), (1, .int _), (2, .int _)]) C dX10_cowsUpOn_3 (by decide) rfl ?_
  exact zr_sub [2, 3, 4, 1, 0] rfl (c_X10_cowsUpOn_5 F C hh F σ ((a1, a2, 0, 0)))
theorem zk_X10_271 (C : zCx E cc RX10 nL ret Z h) (F : Nat) {b0 : Int32} {b1 : Int32} (hk : 0 < zN 0) (hh : 1 + 1 ≤ h) (hst8 : (st.map fun v => v.category).sum ≤ 8) (hd : decode cc pc = .ok (.invokevirtual 271, 3)) {g : Int32 → zMem → Option (α × zMem)} (kk : ∀ (r : Int32) (σ1 : zMem), zKO E nL Z QQ (pc + 3) L (.int r :: st) σ1 (g r σ1)) : zKO E nL Z QQ pc L (.int b1 :: .int b0 :: .ref (zad Z 0 0) :: st) σ (zb (f_X10_cowsUpOn F σ b0 b1) g) :=
  zr_callVI (As := [.int b0, .int b1]) (ia := 2) C (fun r σ1 ho => c_X10_cowsUpOn (zla E) Z F σ b0 b1 r σ1 ho) wz_744 hk rfl rfl wz_p33 wz_746 wz_747 wz_1 (by decide +kernel) rfl (by decide) hh hd hst8 kk
def f_X10_alpOf (F : Nat) (σ : zMem) (a1 : Int32) (a2 : Int32) : Option (Int32 × zMem) := zb (f_X0_has F σ a1) fun r5 m5 => if r5 = 0 then (some ((-5), m5)) else (if a2.toInt < 0 ∨ 4 < a2.toInt then (if a2 ≤ 4 then (some ((-5), m5)) else (zb (f_X10_isHouse F m5 ((a2 - 5))) fun r104 m104 => if r104 = 0 then (some ((-5), m104)) else (zg (inb ((a2 - 5)) 10) (zg (inb a1 4) (some ((m104.1 4 (((a2 - 5)).toNatClampNeg) a1.toNatClampNeg), m104)))))) else (if a2 = 0 then (zg (inb a1 4) (some ((m5.1 26 0 a1.toNatClampNeg), m5))) else (if a2 = 1 then (zg (inb a1 4) (some ((m5.1 27 0 a1.toNatClampNeg), m5))) else (if a2 = 2 then (zg (inb a1 4) (some ((m5.1 28 0 a1.toNatClampNeg), m5))) else (if a2 = 3 then (zg (inb a1 4) (some ((m5.1 29 0 a1.toNatClampNeg), m5))) else (if a2 = 4 then (zb (f_X10_cowsUpOn F m5 a1 0) fun r91 m91 => some (r91, m91)) else none))))))
set_option maxHeartbeats 4000000 in
set_option maxRecDepth 100000 in
theorem c_X10_alpOf (l : Launch) (Z : zLay) (F : Nat) (σ : zMem) (a1 : Int32) (a2 : Int32) (r : Int32) (σ1 : zMem) (ho : f_X10_alpOf F σ a1 a2 = some (r, σ1)) : zMet l yX10_alpOf cX10_alpOf 3 (some .int) 2 Z [.ref (zad Z 0 0), .int (a1), .int (a2)] σ (zQI Z r σ1) := by
  refine zMet_of (Qc := zQI Z) (by decide) (Nat.le_of_ble_eq_true rfl) [(0, .ref (zad Z 0 0)), (1, .int (a1)), (2, .int (a2))] rfl (fun E C => ?_) ho
  have hh : 2 ≤ 2 := Nat.le_refl _
  show zKO E 3 Z (zMQ E Z (zQI Z)) 0 [(0, .ref (zad Z 0 0)), (1, .int (a1)), (2, .int (a2))] [] σ _
  unfold f_X10_alpOf
  refine zr_aload_n C dX10_alpOf_0 rfl ?_
  refine zf_X10_39 C (Nat.le_of_ble_eq_true rfl) dX10_alpOf_1 ?_
  refine zr_iload_n C dX10_alpOf_4 rfl ?_
  refine zk_X10_258 C F (Nat.le_of_ble_eq_true rfl) (Nat.le_trans (by decide) hh) (by simp [Value.category]) dX10_alpOf_5 (fun r5 m5 => ?_)
  refine zr_if_ne (tgt := 14) C dX10_alpOf_8 (by decide) ?_ ?_
  · refine zr_iload_n C dX10_alpOf_14 rfl ?_
    refine zr_if (fun hx => ?_) (fun _ => ?_)
    · refine zr_tabOut (tgt := 95) C dX10_alpOf_15 hx (by decide) ?_
      refine zr_iload_n C dX10_alpOf_95 rfl ?_
      refine zr_iconst (v := 4) C dX10_alpOf_96 rfl ?_
      refine zr_icmp_le (tgt := 126) C dX10_alpOf_97 (by decide) ?_ ?_
      · refine zr_bipush (v := -5) C dX10_alpOf_126 rfl ?_
        exact zr_iret C dX10_alpOf_128
      · refine zr_aload_n C dX10_alpOf_100 rfl ?_
        refine zr_iload_n C dX10_alpOf_101 rfl ?_
        refine zr_iconst (v := 5) C dX10_alpOf_102 rfl ?_
        refine zr_isub C dX10_alpOf_103 ?_
        refine zk_X10_91 C F (Nat.le_of_ble_eq_true rfl) (Nat.le_trans (by decide) hh) (by simp [Value.category]) dX10_alpOf_104 (fun r104 m104 => ?_)
        refine zr_if_eq (tgt := 126) C dX10_alpOf_107 (by decide) ?_ ?_
        · refine zr_bipush (v := -5) C dX10_alpOf_126 rfl ?_
          exact zr_iret C dX10_alpOf_128
        · refine zr_aload_n C dX10_alpOf_110 rfl ?_
          refine zf_X10_11 C (Nat.le_of_ble_eq_true rfl) dX10_alpOf_111 ?_
          refine zr_iload_n C dX10_alpOf_114 rfl ?_
          refine zr_iconst (v := 5) C dX10_alpOf_115 rfl ?_
          refine zr_isub C dX10_alpOf_116 ?_
          refine zr_aald (n := 10) (k1 := 2) C dX10_alpOf_117 (Nat.le_of_ble_eq_true rfl) rfl rfl rfl (fun hb117 => ?_)
          refine zf_X10_274 C hb117 dX10_alpOf_118 ?_
          refine zr_iload_n C dX10_alpOf_121 rfl ?_
          refine zr_iald (n := 4) C dX10_alpOf_122 hb117 rfl ?_
          refine zr_goto (tgt := 128) C dX10_alpOf_123 (by decide) ?_
          exact zr_iret C dX10_alpOf_128
    · refine zr_if (fun hx => ?_) (fun _ => ?_)
      · refine zr_tabIn (tgt := 48) C dX10_alpOf_15 (by rw [hx]; decide) (by rw [hx]; decide) (off := 33) (by rw [hx]; decide) (by decide) ?_
        refine zr_aload_n C dX10_alpOf_48 rfl ?_
        refine zf_X10_39 C (Nat.le_of_ble_eq_true rfl) dX10_alpOf_49 ?_
        refine zf_X10_259 C (Nat.le_of_ble_eq_true rfl) dX10_alpOf_52 ?_
        refine zr_iload_n C dX10_alpOf_55 rfl ?_
        refine zr_iald (n := 4) C dX10_alpOf_56 (Nat.le_of_ble_eq_true rfl) rfl ?_
        exact zr_iret C dX10_alpOf_57
      · refine zr_if (fun hx => ?_) (fun _ => ?_)
        · refine zr_tabIn (tgt := 58) C dX10_alpOf_15 (by rw [hx]; decide) (by rw [hx]; decide) (off := 43) (by rw [hx]; decide) (by decide) ?_
          refine zr_aload_n C dX10_alpOf_58 rfl ?_
          refine zf_X10_39 C (Nat.le_of_ble_eq_true rfl) dX10_alpOf_59 ?_
          refine zf_X10_262 C (Nat.le_of_ble_eq_true rfl) dX10_alpOf_62 ?_
          refine zr_iload_n C dX10_alpOf_65 rfl ?_
          refine zr_iald (n := 4) C dX10_alpOf_66 (Nat.le_of_ble_eq_true rfl) rfl ?_
          exact zr_iret C dX10_alpOf_67
        · refine zr_if (fun hx => ?_) (fun _ => ?_)
          · refine zr_tabIn (tgt := 68) C dX10_alpOf_15 (by rw [hx]; decide) (by rw [hx]; decide) (off := 53) (by rw [hx]; decide) (by decide) ?_
            refine zr_aload_n C dX10_alpOf_68 rfl ?_
            refine zf_X10_39 C (Nat.le_of_ble_eq_true rfl) dX10_alpOf_69 ?_
            refine zf_X10_265 C (Nat.le_of_ble_eq_true rfl) dX10_alpOf_72 ?_
            refine zr_iload_n C dX10_alpOf_75 rfl ?_
            refine zr_iald (n := 4) C dX10_alpOf_76 (Nat.le_of_ble_eq_true rfl) rfl ?_
            exact zr_iret C dX10_alpOf_77
          · refine zr_if (fun hx => ?_) (fun _ => ?_)
            · refine zr_tabIn (tgt := 78) C dX10_alpOf_15 (by rw [hx]; decide) (by rw [hx]; decide) (off := 63) (by rw [hx]; decide) (by decide) ?_
              refine zr_aload_n C dX10_alpOf_78 rfl ?_
              refine zf_X10_39 C (Nat.le_of_ble_eq_true rfl) dX10_alpOf_79 ?_
              refine zf_X10_268 C (Nat.le_of_ble_eq_true rfl) dX10_alpOf_82 ?_
              refine zr_iload_n C dX10_alpOf_85 rfl ?_
              refine zr_iald (n := 4) C dX10_alpOf_86 (Nat.le_of_ble_eq_true rfl) rfl ?_
              exact zr_iret C dX10_alpOf_87
            · refine zr_if (fun hx => ?_) (fun _ => ?_)
              · refine zr_tabIn (tgt := 88) C dX10_alpOf_15 (by rw [hx]; decide) (by rw [hx]; decide) (off := 73) (by rw [hx]; decide) (by decide) ?_
                refine zr_aload_n C dX10_alpOf_88 rfl ?_
                refine zr_iload_n C dX10_alpOf_89 rfl ?_
                refine zr_iconst (v := 0) C dX10_alpOf_90 rfl ?_
                refine zk_X10_271 C F (Nat.le_of_ble_eq_true rfl) (Nat.le_trans (by decide) hh) (by simp [Value.category]) dX10_alpOf_91 (fun r91 m91 => ?_)
                exact zr_iret C dX10_alpOf_94
              · exact zr_none
  · refine zr_bipush (v := -5) C dX10_alpOf_11 rfl ?_
    exact zr_iret C dX10_alpOf_13
end ZM
