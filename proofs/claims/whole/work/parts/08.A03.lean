section ZM
variable {E : zEn} {cc : ByteArray} {own : String} {nL h : Nat} {ret : Option FieldType} {Z : zLay} {α : Type} {QQ : α → zMem → State → Prop} {pc : Nat} {L : List (Nat × Value)} {st : List Value} {σ : zMem} {o o1 o2 : Option (α × zMem)}
def f_X10_cell (F : Nat) (σ : zMem) (a1 : Int32) (a2 : Int32) (a3 : Int32) : Option (Int32 × zMem) := zb (f_X10_isSheet F σ a1) fun r1 m1 => if r1 = 0 then (some ((-2), m1)) else (zg (inb a1 3) (if (m1.1 47 a1.toNatClampNeg 0) = (-1) then (some ((-11), m1)) else (zb (f_X4_holds F m1 a1.toNatClampNeg a2 1) fun r34 m34 => if r34 = 0 then (some ((-12), m34)) else (zb (f_X4_cut F m34 a1.toNatClampNeg a3) fun r52 m52 => zg (inb a2 60) (some (1, (zwl m52 48 a1.toNatClampNeg a2.toNatClampNeg r52)))))))
set_option maxHeartbeats 4000000 in
set_option maxRecDepth 100000 in
theorem c_X10_cell (l : Launch) (Z : zLay) (F : Nat) (σ : zMem) (a1 : Int32) (a2 : Int32) (a3 : Int32) (r : Int32) (σ1 : zMem) (ho : f_X10_cell F σ a1 a2 a3 = some (r, σ1)) : zMet l yX10_cell cX10_cell 5 (some .int) 2 Z [.ref (zad Z 0 0), .int (a1), .int (a2), .int (a3)] σ (zQI Z r σ1) := by
  refine zMet_of (Qc := zQI Z) (by decide) (Nat.le_of_ble_eq_true rfl) [(0, .ref (zad Z 0 0)), (1, .int (a1)), (2, .int (a2)), (3, .int (a3))] rfl (fun E C => ?_) ho
  have hh : 2 ≤ 2 := Nat.le_refl _
  show zKO E 5 Z (zMQ E Z (zQI Z)) 0 [(0, .ref (zad Z 0 0)), (1, .int (a1)), (2, .int (a2)), (3, .int (a3))] [] σ _
  unfold f_X10_cell
  refine zr_iload_n C dX10_cell_0 rfl ?_
  refine zk_X10_235 C F (Nat.le_trans (by decide) hh) (by simp [Value.category]) dX10_cell_1 (fun r1 m1 => ?_)
  refine zr_if_ne (tgt := 10) C dX10_cell_4 (by decide) ?_ ?_
  · refine zr_aload_n C dX10_cell_10 rfl ?_
    refine zf_X10_59 C (Nat.le_of_ble_eq_true rfl) dX10_cell_11 ?_
    refine zr_iload_n C dX10_cell_14 rfl ?_
    refine zr_aald (n := 3) (k1 := 47) C dX10_cell_15 (Nat.le_of_ble_eq_true rfl) rfl rfl rfl (fun hb15 => ?_)
    refine zr_astore (i := 4) (L1 := [(4, .ref _), (0, .ref _), (1, .int _), (2, .int _), (3, .int _)]) C dX10_cell_16 (by decide) rfl ?_
    refine zr_aload C dX10_cell_18 rfl ?_
    refine zf_X10_238 C hb15 dX10_cell_20 ?_
    refine zr_iconst (v := -1) C dX10_cell_23 rfl ?_
    refine zr_icmp_ne (tgt := 30) C dX10_cell_24 (by decide) ?_ ?_
    · refine zr_aload C dX10_cell_30 rfl ?_
      refine zr_iload_n C dX10_cell_32 rfl ?_
      refine zr_iconst (v := 1) C dX10_cell_33 rfl ?_
      refine zk_X10_241 C F hb15 (Nat.le_trans (by decide) hh) (by simp [Value.category]) dX10_cell_34 (fun r34 m34 => ?_)
      refine zr_if_ne (tgt := 43) C dX10_cell_37 (by decide) ?_ ?_
      · refine zr_aload C dX10_cell_43 rfl ?_
        refine zf_X10_244 C hb15 dX10_cell_45 ?_
        refine zr_iload_n C dX10_cell_48 rfl ?_
        refine zr_aload C dX10_cell_49 rfl ?_
        refine zr_iload_n C dX10_cell_51 rfl ?_
        refine zk_X10_475 C F hb15 (Nat.le_trans (by decide) hh) (by simp [Value.category]) dX10_cell_52 (fun r52 m52 => ?_)
        refine zr_last (n := 60) C dX10_cell_55 hb15 (fun _ _ => rfl) ?_
        refine zr_iconst (v := 1) C dX10_cell_56 rfl ?_
        exact zr_iret C dX10_cell_57
      · refine zr_bipush (v := -12) C dX10_cell_40 rfl ?_
        exact zr_iret C dX10_cell_42
    · refine zr_bipush (v := -11) C dX10_cell_27 rfl ?_
      exact zr_iret C dX10_cell_29
  · refine zr_bipush (v := -2) C dX10_cell_7 rfl ?_
    exact zr_iret C dX10_cell_9
def f_X10_lose (F : Nat) (σ : zMem) (a1 : Int32) (a2 : Int32) : Option (Int32 × zMem) := zb (f_X10_isSheet F σ a1) fun r1 m1 => if r1 = 0 then (some ((-2), m1)) else (zg (inb a1 3) (if (m1.1 47 a1.toNatClampNeg 0) = (-1) then (some ((-11), m1)) else (if (m1.1 47 a1.toNatClampNeg 0) = 2 then (zb (f_X4_holds F m1 a1.toNatClampNeg a2 1) fun r42 m42 => if r42 = 0 then (some ((-12), m42)) else (zg (inb a2 60) (some (1, (zwl m42 48 a1.toNatClampNeg a2.toNatClampNeg ((-9000000000))))))) else (some ((-13), m1)))))
set_option maxHeartbeats 4000000 in
set_option maxRecDepth 100000 in
theorem c_X10_lose (l : Launch) (Z : zLay) (F : Nat) (σ : zMem) (a1 : Int32) (a2 : Int32) (r : Int32) (σ1 : zMem) (ho : f_X10_lose F σ a1 a2 = some (r, σ1)) : zMet l yX10_lose cX10_lose 4 (some .int) 2 Z [.ref (zad Z 0 0), .int (a1), .int (a2)] σ (zQI Z r σ1) := by
  refine zMet_of (Qc := zQI Z) (by decide) (Nat.le_of_ble_eq_true rfl) [(0, .ref (zad Z 0 0)), (1, .int (a1)), (2, .int (a2))] rfl (fun E C => ?_) ho
  have hh : 2 ≤ 2 := Nat.le_refl _
  show zKO E 4 Z (zMQ E Z (zQI Z)) 0 [(0, .ref (zad Z 0 0)), (1, .int (a1)), (2, .int (a2))] [] σ _
  unfold f_X10_lose
  refine zr_iload_n C dX10_lose_0 rfl ?_
  refine zk_X10_235 C F (Nat.le_trans (by decide) hh) (by simp [Value.category]) dX10_lose_1 (fun r1 m1 => ?_)
  refine zr_if_ne (tgt := 10) C dX10_lose_4 (by decide) ?_ ?_
  · refine zr_aload_n C dX10_lose_10 rfl ?_
    refine zf_X10_59 C (Nat.le_of_ble_eq_true rfl) dX10_lose_11 ?_
    refine zr_iload_n C dX10_lose_14 rfl ?_
    refine zr_aald (n := 3) (k1 := 47) C dX10_lose_15 (Nat.le_of_ble_eq_true rfl) rfl rfl rfl (fun hb15 => ?_)
    refine zr_astore_n (i := 3) (L1 := [(3, .ref _), (0, .ref _), (1, .int _), (2, .int _)]) C dX10_lose_16 rfl (by decide) rfl ?_
    refine zr_aload_n C dX10_lose_17 rfl ?_
    refine zf_X10_238 C hb15 dX10_lose_18 ?_
    refine zr_iconst (v := -1) C dX10_lose_21 rfl ?_
    refine zr_icmp_ne (tgt := 28) C dX10_lose_22 (by decide) ?_ ?_
    · refine zr_aload_n C dX10_lose_28 rfl ?_
      refine zf_X10_238 C hb15 dX10_lose_29 ?_
      refine zr_iconst (v := 2) C dX10_lose_32 rfl ?_
      refine zr_icmp_eq (tgt := 39) C dX10_lose_33 (by decide) ?_ ?_
      · refine zr_aload_n C dX10_lose_39 rfl ?_
        refine zr_iload_n C dX10_lose_40 rfl ?_
        refine zr_iconst (v := 1) C dX10_lose_41 rfl ?_
        refine zk_X10_241 C F hb15 (Nat.le_trans (by decide) hh) (by simp [Value.category]) dX10_lose_42 (fun r42 m42 => ?_)
        refine zr_if_ne (tgt := 51) C dX10_lose_45 (by decide) ?_ ?_
        · refine zr_aload_n C dX10_lose_51 rfl ?_
          refine zf_X10_244 C hb15 dX10_lose_52 ?_
          refine zr_iload_n C dX10_lose_55 rfl ?_
          refine zr_ldc2 (v := -9000000000) C dX10_lose_56 wz_716 ?_
          refine zr_last (n := 60) C dX10_lose_59 hb15 (fun _ _ => rfl) ?_
          refine zr_iconst (v := 1) C dX10_lose_60 rfl ?_
          exact zr_iret C dX10_lose_61
        · refine zr_bipush (v := -12) C dX10_lose_48 rfl ?_
          exact zr_iret C dX10_lose_50
      · refine zr_bipush (v := -13) C dX10_lose_36 rfl ?_
        exact zr_iret C dX10_lose_38
    · refine zr_bipush (v := -11) C dX10_lose_25 rfl ?_
      exact zr_iret C dX10_lose_27
  · refine zr_bipush (v := -2) C dX10_lose_7 rfl ?_
    exact zr_iret C dX10_lose_9
def f_X10_copy (F : Nat) (σ : zMem) (a1 : Int32) (a2 : Int32) (a3 : Int32) (a4 : Int32) (a5 : Int32) : Option (Int32 × zMem) := zb (f_X10_isSheet F σ a1) fun r1 m1 => if r1 = 0 then (some ((-2), m1)) else (zb (f_X10_isSheet F m1 a3) fun r8 m8 => if r8 = 0 then (some ((-2), m8)) else (zg (inb a1 3) (zg (inb a3 3) (if (m8.1 47 a1.toNatClampNeg 0) = (-1) then (some ((-11), m8)) else (if (m8.1 47 a3.toNatClampNeg 0) = (-1) then (some ((-11), m8)) else (if (m8.1 47 a1.toNatClampNeg 0) = (m8.1 47 a3.toNatClampNeg 0) then (zb (f_X4_holds F m8 a1.toNatClampNeg a2 a5) fun r75 m75 => if r75 = 0 then (some ((-12), m75)) else (zb (f_X4_holds F m75 a3.toNatClampNeg a4 a5) fun r87 m87 => if r87 = 0 then (some ((-12), m87)) else (zg (zck a2 a4 a5 60 60) (some (a5, (zcpl m87 48 a1.toNatClampNeg a2 48 a3.toNatClampNeg a4 a5)))))) else (some ((-13), m8))))))))
set_option maxHeartbeats 4000000 in
set_option maxRecDepth 100000 in
theorem c_X10_copy (l : Launch) (Z : zLay) (F : Nat) (σ : zMem) (a1 : Int32) (a2 : Int32) (a3 : Int32) (a4 : Int32) (a5 : Int32) (r : Int32) (σ1 : zMem) (ho : f_X10_copy F σ a1 a2 a3 a4 a5 = some (r, σ1)) : zMet l yX10_copy cX10_copy 8 (some .int) 2 Z [.ref (zad Z 0 0), .int (a1), .int (a2), .int (a3), .int (a4), .int (a5)] σ (zQI Z r σ1) := by
  refine zMet_of (Qc := zQI Z) (by decide) (Nat.le_of_ble_eq_true rfl) [(0, .ref (zad Z 0 0)), (1, .int (a1)), (2, .int (a2)), (3, .int (a3)), (4, .int (a4)), (5, .int (a5))] rfl (fun E C => ?_) ho
  have hh : 2 ≤ 2 := Nat.le_refl _
  show zKO E 8 Z (zMQ E Z (zQI Z)) 0 [(0, .ref (zad Z 0 0)), (1, .int (a1)), (2, .int (a2)), (3, .int (a3)), (4, .int (a4)), (5, .int (a5))] [] σ _
  unfold f_X10_copy
  refine zr_iload_n C dX10_copy_0 rfl ?_
  refine zk_X10_235 C F (Nat.le_trans (by decide) hh) (by simp [Value.category]) dX10_copy_1 (fun r1 m1 => ?_)
  refine zr_if_eq (tgt := 14) C dX10_copy_4 (by decide) ?_ ?_
  · refine zr_bipush (v := -2) C dX10_copy_14 rfl ?_
    exact zr_iret C dX10_copy_16
  · refine zr_iload_n C dX10_copy_7 rfl ?_
    refine zk_X10_235 C F (Nat.le_trans (by decide) hh) (by simp [Value.category]) dX10_copy_8 (fun r8 m8 => ?_)
    refine zr_if_ne (tgt := 17) C dX10_copy_11 (by decide) ?_ ?_
    · refine zr_aload_n C dX10_copy_17 rfl ?_
      refine zf_X10_59 C (Nat.le_of_ble_eq_true rfl) dX10_copy_18 ?_
      refine zr_iload_n C dX10_copy_21 rfl ?_
      refine zr_aald (n := 3) (k1 := 47) C dX10_copy_22 (Nat.le_of_ble_eq_true rfl) rfl rfl rfl (fun hb22 => ?_)
      refine zr_astore (i := 6) (L1 := [(6, .ref _), (0, .ref _), (1, .int _), (2, .int _), (3, .int _), (4, .int _), (5, .int _)]) C dX10_copy_23 (by decide) rfl ?_
      refine zr_aload_n C dX10_copy_25 rfl ?_
      refine zf_X10_59 C (Nat.le_of_ble_eq_true rfl) dX10_copy_26 ?_
      refine zr_iload_n C dX10_copy_29 rfl ?_
      refine zr_aald (n := 3) (k1 := 47) C dX10_copy_30 (Nat.le_of_ble_eq_true rfl) rfl rfl rfl (fun hb30 => ?_)
      refine zr_astore (i := 7) (L1 := [(7, .ref _), (6, .ref _), (0, .ref _), (1, .int _), (2, .int _), (3, .int _), (4, .int _), (5, .int _)]) C dX10_copy_31 (by decide) rfl ?_
      refine zr_aload C dX10_copy_33 rfl ?_
      refine zf_X10_238 C hb22 dX10_copy_35 ?_
      refine zr_iconst (v := -1) C dX10_copy_38 rfl ?_
      refine zr_icmp_eq (tgt := 51) C dX10_copy_39 (by decide) ?_ ?_
      · refine zr_bipush (v := -11) C dX10_copy_51 rfl ?_
        exact zr_iret C dX10_copy_53
      · refine zr_aload C dX10_copy_42 rfl ?_
        refine zf_X10_238 C hb30 dX10_copy_44 ?_
        refine zr_iconst (v := -1) C dX10_copy_47 rfl ?_
        refine zr_icmp_ne (tgt := 54) C dX10_copy_48 (by decide) ?_ ?_
        · refine zr_aload C dX10_copy_54 rfl ?_
          refine zf_X10_238 C hb22 dX10_copy_56 ?_
          refine zr_aload C dX10_copy_59 rfl ?_
          refine zf_X10_238 C hb30 dX10_copy_61 ?_
          refine zr_icmp_eq (tgt := 70) C dX10_copy_64 (by decide) ?_ ?_
          · refine zr_aload C dX10_copy_70 rfl ?_
            refine zr_iload_n C dX10_copy_72 rfl ?_
            refine zr_iload C dX10_copy_73 rfl ?_
            refine zk_X10_241 C F hb22 (Nat.le_trans (by decide) hh) (by simp [Value.category]) dX10_copy_75 (fun r75 m75 => ?_)
            refine zr_if_eq (tgt := 93) C dX10_copy_78 (by decide) ?_ ?_
            · refine zr_bipush (v := -12) C dX10_copy_93 rfl ?_
              exact zr_iret C dX10_copy_95
            · refine zr_aload C dX10_copy_81 rfl ?_
              refine zr_iload C dX10_copy_83 rfl ?_
              refine zr_iload C dX10_copy_85 rfl ?_
              refine zk_X10_241 C F hb30 (Nat.le_trans (by decide) hh) (by simp [Value.category]) dX10_copy_87 (fun r87 m87 => ?_)
              refine zr_if_ne (tgt := 96) C dX10_copy_90 (by decide) ?_ ?_
              · refine zr_aload C dX10_copy_96 rfl ?_
                refine zf_X10_244 C hb22 dX10_copy_98 ?_
                refine zr_iload_n C dX10_copy_101 rfl ?_
                refine zr_aload C dX10_copy_102 rfl ?_
                refine zf_X10_244 C hb30 dX10_copy_104 ?_
                refine zr_iload C dX10_copy_107 rfl ?_
                refine zr_iload C dX10_copy_109 rfl ?_
                refine zr_cpl (n0 := 60) (n1 := 60) C wz_1076 wz_1078 wz_1077 wz_19 hb22 hb30 (fun _ _ => rfl) (fun _ _ => rfl) (Nat.le_trans (by decide) hh) (by simp [Value.category]) dX10_copy_111 ?_
                refine zr_iload C dX10_copy_114 rfl ?_
                exact zr_iret C dX10_copy_116
              · refine zr_bipush (v := -12) C dX10_copy_93 rfl ?_
                exact zr_iret C dX10_copy_95
          · refine zr_bipush (v := -13) C dX10_copy_67 rfl ?_
            exact zr_iret C dX10_copy_69
        · refine zr_bipush (v := -11) C dX10_copy_51 rfl ?_
          exact zr_iret C dX10_copy_53
    · refine zr_bipush (v := -2) C dX10_copy_14 rfl ?_
      exact zr_iret C dX10_copy_16
end ZM
