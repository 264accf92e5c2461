section ZM
variable {E : zEn} {cc : ByteArray} {own : String} {nL h : Nat} {ret : Option FieldType} {Z : zLay} {α : Type} {QQ : α → zMem → State → Prop} {pc : Nat} {L : List (Nat × Value)} {st : List Value} {σ : zMem} {o o1 o2 : Option (α × zMem)}
def f_X10_sellLogs_4 (F : Nat) (rec4 : zMem → Int32 × Int32 → Option (Unit × zMem)) (σ : zMem) (x : Int32 × Int32) : Option (Unit × zMem) := if (σ.1 0 0 1) ≤ x.2 then (some ((), σ)) else (zg (inb x.2 10) (zg (inb x.2 10) (rec4 (zwi σ 2 x.2.toNatClampNeg 2 (((σ.1 2 x.2.toNatClampNeg 2) - (zmin x.1 ((σ.1 2 x.2.toNatClampNeg 2)))))) (((x.1 - (zmin x.1 ((σ.1 2 x.2.toNatClampNeg 2)))), (x.2 + 1))))))
set_option maxHeartbeats 4000000 in
set_option maxRecDepth 100000 in
theorem c_X10_sellLogs_4 (F : Nat) {E : zEn} {h : Nat} {Z : zLay} (C : zCx E cX10_sellLogs RX10 5 none Z h) (hh : 1 ≤ h) : ∀ (n : Nat) (σ : zMem) (x : Int32 × Int32), zKO E 5 Z (zMQ E Z (zQV Z)) 4 [(0, .ref (zad Z 0 0)), (2, .int x.1), (3, .int x.2)] [] σ (zit (f_X10_sellLogs_4 F) n σ x) := by
  refine zr_loop (LL := fun (x : Int32 × Int32) => [(0, .ref (zad Z 0 0)), (2, .int x.1), (3, .int x.2)]) (ST := fun (x : Int32 × Int32) => []) (fun rec4 hrec4 σ x => ?_)
  obtain ⟨l2, l3⟩ := x
  show zKO E 5 Z (zMQ E Z (zQV Z)) 4 [(0, .ref (zad Z 0 0)), (2, .int l2), (3, .int l3)] [] σ (if (σ.1 0 0 1) ≤ l3 then (some ((), σ)) else (zg (inb l3 10) (zg (inb l3 10) (rec4 (zwi σ 2 l3.toNatClampNeg 2 (((σ.1 2 l3.toNatClampNeg 2) - (zmin l2 ((σ.1 2 l3.toNatClampNeg 2)))))) (((l2 - (zmin l2 ((σ.1 2 l3.toNatClampNeg 2)))), (l3 + 1)))))))
  refine zr_iload_n C dX10_sellLogs_4 rfl ?_
  refine zr_aload_n C dX10_sellLogs_5 rfl ?_
  refine zf_X10_85 C (Nat.le_of_ble_eq_true rfl) dX10_sellLogs_6 ?_
  refine zr_icmp_ge (tgt := 54) C dX10_sellLogs_9 (by decide) ?_ ?_
  · exact zr_vret C dX10_sellLogs_54
  · refine zr_iload_n C dX10_sellLogs_12 rfl ?_
    refine zr_aload_n C dX10_sellLogs_13 rfl ?_
    refine zf_X10_11 C (Nat.le_of_ble_eq_true rfl) dX10_sellLogs_14 ?_
    refine zr_iload_n C dX10_sellLogs_17 rfl ?_
    refine zr_aald (n := 10) (k1 := 2) C dX10_sellLogs_18 (Nat.le_of_ble_eq_true rfl) rfl rfl rfl (fun hb18 => ?_)
    refine zf_X10_99 C hb18 dX10_sellLogs_19 ?_
    refine zr_mmin C wz_926 wz_796 wz_17 wz_797 (Nat.le_trans (by decide) hh) (by simp [Value.category]) dX10_sellLogs_22 ?_
    refine zr_istore (i := 4) (L1 := [(4, .int _), (0, .ref _), (2, .int _), (3, .int _)]) C dX10_sellLogs_25 (by decide) rfl ?_
    refine zr_aload_n C dX10_sellLogs_27 rfl ?_
    refine zf_X10_11 C (Nat.le_of_ble_eq_true rfl) dX10_sellLogs_28 ?_
    refine zr_iload_n C dX10_sellLogs_31 rfl ?_
    refine zr_aald (n := 10) (k1 := 2) C dX10_sellLogs_32 (Nat.le_of_ble_eq_true rfl) rfl rfl rfl (fun hb32 => ?_)
    refine zr_dup C dX10_sellLogs_33 rfl ?_
    refine zf_X10_99 C hb32 dX10_sellLogs_34 ?_
    refine zr_iload C dX10_sellLogs_37 rfl ?_
    refine zr_isub C dX10_sellLogs_39 ?_
    refine zp_X10_99 C hb32 dX10_sellLogs_40 ?_
    refine zr_iload_n C dX10_sellLogs_43 rfl ?_
    refine zr_iload C dX10_sellLogs_44 rfl ?_
    refine zr_isub C dX10_sellLogs_46 ?_
    refine zr_istore_n (i := 2) (L1 := [(2, .int _), (4, .int _), (0, .ref _), (3, .int _)]) C dX10_sellLogs_47 rfl (by decide) rfl ?_
    refine zr_iinc (kk := 3) (v := (l3 + 1)) (L1 := [(3, .int _), (2, .int _), (4, .int _), (0, .ref _)]) C dX10_sellLogs_48 rfl rfl (by decide) rfl ?_
    refine zr_goto (tgt := 4) C dX10_sellLogs_51 (by decide) ?_
    exact zr_sub [3, 1, 0] rfl (hrec4 (zwi σ 2 l3.toNatClampNeg 2 (((σ.1 2 l3.toNatClampNeg 2) - (zmin l2 ((σ.1 2 l3.toNatClampNeg 2)))))) (((l2 - (zmin l2 ((σ.1 2 l3.toNatClampNeg 2)))), (l3 + 1))))
def f_X10_sellLogs (F : Nat) (σ : zMem) (a1 : Int32) : Option (Unit × zMem) := zit (f_X10_sellLogs_4 F) F σ ((a1, 0))
set_option maxHeartbeats 4000000 in
set_option maxRecDepth 100000 in
theorem c_X10_sellLogs (l : Launch) (Z : zLay) (F : Nat) (σ : zMem) (a1 : Int32) (r : Unit) (σ1 : zMem) (ho : f_X10_sellLogs F σ a1 = some (r, σ1)) : zMet l yX10_sellLogs cX10_sellLogs 5 none 1 Z [.ref (zad Z 0 0), .int (a1)] σ (zQV Z r σ1) := by
  refine zMet_of (Qc := zQV Z) (by decide) (Nat.le_of_ble_eq_true rfl) [(0, .ref (zad Z 0 0)), (1, .int (a1))] rfl (fun E C => ?_) ho
  have hh : 1 ≤ 1 := Nat.le_refl _
  show zKO E 5 Z (zMQ E Z (zQV Z)) 0 [(0, .ref (zad Z 0 0)), (1, .int (a1))] [] σ _
  unfold f_X10_sellLogs
  refine zr_iload_n C dX10_sellLogs_0 rfl ?_
  refine zr_istore_n (i := 2) (L1 := [(2, .int _), (0, .ref _), (1, .int _)]) C dX10_sellLogs_1 rfl (by decide) rfl ?_
  refine zr_iconst (v := 0) C dX10_sellLogs_2 rfl ?_
  refine zr_istore_n (i := 3) (L1 := [(3, .int _), (2, .int _), (0, .ref _), (1, .int _)]) C dX10_sellLogs_3 rfl (by decide) rfl ?_
  exact zr_sub [2, 1, 0] rfl (c_X10_sellLogs_4 F C hh F σ ((a1, 0)))
theorem zk_X10_381 (C : zCx E cc RX10 nL ret Z h) (F : Nat) {b0 : Int32} (hk : 0 < zN 0) (hh : 1 + 1 ≤ h) (hst8 : (st.map fun v => v.category).sum ≤ 8) (hd : decode cc pc = .ok (.invokevirtual 381, 3)) {g : Unit → zMem → Option (α × zMem)} (kk : ∀ (r : Unit) (σ1 : zMem), zKO E nL Z QQ (pc + 3) L (st) σ1 (g r σ1)) : zKO E nL Z QQ pc L (.int b0 :: .ref (zad Z 0 0) :: st) σ (zb (f_X10_sellLogs F σ b0) g) :=
  zr_callVU (As := [.int b0]) (ia := 1) C (fun r σ1 ho => c_X10_sellLogs (zla E) Z F σ b0 r σ1 ho) wz_927 hk rfl rfl wz_p61 wz_929 wz_930 wz_1 (by decide +kernel) rfl (by decide) hh hd hst8 kk
def f_X10_fell (F : Nat) (σ : zMem) (a1 : Int32) (a2 : Int32) : Option (Int32 × zMem) := zb (f_X7_has F σ a1) fun r5 m5 => if r5 = 0 then (some ((-1), m5)) else (zb (f_X10_isHouse F m5 a2) fun r13 m13 => if r13 = 0 then (some ((-1), m13)) else (zg (inb a1 6) (zb (f_X6_risk F m13 a1.toNatClampNeg 0) fun r33 m33 => if r33 < 100 then (zg (zni 4) (zb (f_X10_handOutLogs F (zwi (zwi m33 40 a1.toNatClampNeg 0 0) 38 0 6 ((((zwi m33 40 a1.toNatClampNeg 0 0).1 38 0 6) + ((m33.1 40 a1.toNatClampNeg 0) / 4)))) (((m33.1 40 a1.toNatClampNeg 0) / 4)) a2) fun r76 m76 => zb (f_X10_sellLogs F m76 r76) fun r79 m79 => some (((m33.1 40 a1.toNatClampNeg 0) / 4), m79))) else (some ((-3), m33)))))
set_option maxHeartbeats 4000000 in
set_option maxRecDepth 100000 in
theorem c_X10_fell (l : Launch) (Z : zLay) (F : Nat) (σ : zMem) (a1 : Int32) (a2 : Int32) (r : Int32) (σ1 : zMem) (ho : f_X10_fell F σ a1 a2 = some (r, σ1)) : zMet l yX10_fell cX10_fell 5 (some .int) 6 Z [.ref (zad Z 0 0), .int (a1), .int (a2)] σ (zQI Z r σ1) := by
  refine zMet_of (Qc := zQI Z) (by decide) (Nat.le_of_ble_eq_true rfl) [(0, .ref (zad Z 0 0)), (1, .int (a1)), (2, .int (a2))] rfl (fun E C => ?_) ho
  have hh : 6 ≤ 6 := Nat.le_refl _
  show zKO E 5 Z (zMQ E Z (zQI Z)) 0 [(0, .ref (zad Z 0 0)), (1, .int (a1)), (2, .int (a2))] [] σ _
  unfold f_X10_fell
  refine zr_aload_n C dX10_fell_0 rfl ?_
  refine zf_X10_46 C (Nat.le_of_ble_eq_true rfl) dX10_fell_1 ?_
  refine zr_iload_n C dX10_fell_4 rfl ?_
  refine zk_X10_331 C F (Nat.le_of_ble_eq_true rfl) (Nat.le_trans (by decide) hh) (by simp [Value.category]) dX10_fell_5 (fun r5 m5 => ?_)
  refine zr_if_eq (tgt := 19) C dX10_fell_8 (by decide) ?_ ?_
  · refine zr_iconst (v := -1) C dX10_fell_19 rfl ?_
    exact zr_iret C dX10_fell_20
  · refine zr_aload_n C dX10_fell_11 rfl ?_
    refine zr_iload_n C dX10_fell_12 rfl ?_
    refine zk_X10_91 C F (Nat.le_of_ble_eq_true rfl) (Nat.le_trans (by decide) hh) (by simp [Value.category]) dX10_fell_13 (fun r13 m13 => ?_)
    refine zr_if_ne (tgt := 21) C dX10_fell_16 (by decide) ?_ ?_
    · refine zr_aload_n C dX10_fell_21 rfl ?_
      refine zf_X10_46 C (Nat.le_of_ble_eq_true rfl) dX10_fell_22 ?_
      refine zf_X10_322 C (Nat.le_of_ble_eq_true rfl) dX10_fell_25 ?_
      refine zr_iload_n C dX10_fell_28 rfl ?_
      refine zr_aald (n := 6) (k1 := 40) C dX10_fell_29 (Nat.le_of_ble_eq_true rfl) rfl rfl rfl (fun hb29 => ?_)
      refine zr_astore_n (i := 3) (L1 := [(3, .ref _), (0, .ref _), (1, .int _), (2, .int _)]) C dX10_fell_30 rfl (by decide) rfl ?_
      refine zr_aload_n C dX10_fell_31 rfl ?_
      refine zr_iconst (v := 0) C dX10_fell_32 rfl ?_
      refine zk_X10_341 C F hb29 (Nat.le_trans (by decide) hh) (by simp [Value.category]) dX10_fell_33 (fun r33 m33 => ?_)
      refine zr_bipush (v := 100) C dX10_fell_36 rfl ?_
      refine zr_icmp_lt (tgt := 44) C dX10_fell_38 (by decide) ?_ ?_
      · refine zr_aload_n C dX10_fell_44 rfl ?_
        refine zf_X10_326 C hb29 dX10_fell_45 ?_
        refine zr_iconst (v := 4) C dX10_fell_48 rfl ?_
        refine zr_idiv C dX10_fell_49 ?_
        refine zr_istore (i := 4) (L1 := [(4, .int _), (3, .ref _), (0, .ref _), (1, .int _), (2, .int _)]) C dX10_fell_50 (by decide) rfl ?_
        refine zr_aload_n C dX10_fell_52 rfl ?_
        refine zr_iconst (v := 0) C dX10_fell_53 rfl ?_
        refine zp_X10_326 C hb29 dX10_fell_54 ?_
        refine zr_aload_n C dX10_fell_57 rfl ?_
        refine zf_X10_46 C (Nat.le_of_ble_eq_true rfl) dX10_fell_58 ?_
        refine zr_dup C dX10_fell_61 rfl ?_
        refine zf_X10_375 C (Nat.le_of_ble_eq_true rfl) dX10_fell_62 ?_
        refine zr_iload C dX10_fell_65 rfl ?_
        refine zr_iadd C dX10_fell_67 ?_
        refine zp_X10_375 C (Nat.le_of_ble_eq_true rfl) dX10_fell_68 ?_
        refine zr_aload_n C dX10_fell_71 rfl ?_
        refine zr_aload_n C dX10_fell_72 rfl ?_
        refine zr_iload C dX10_fell_73 rfl ?_
        refine zr_iload_n C dX10_fell_75 rfl ?_
        refine zk_X10_378 C F (Nat.le_of_ble_eq_true rfl) (Nat.le_trans (by decide) hh) (by simp [Value.category]) dX10_fell_76 (fun r76 m76 => ?_)
        refine zk_X10_381 C F (Nat.le_of_ble_eq_true rfl) (Nat.le_trans (by decide) hh) (by simp [Value.category]) dX10_fell_79 (fun r79 m79 => ?_)
        refine zr_iload C dX10_fell_82 rfl ?_
        exact zr_iret C dX10_fell_84
      · refine zr_bipush (v := -3) C dX10_fell_41 rfl ?_
        exact zr_iret C dX10_fell_43
    · refine zr_iconst (v := -1) C dX10_fell_19 rfl ?_
      exact zr_iret C dX10_fell_20
def f_X10_channel (F : Nat) (σ : zMem) (a1 : Int32) (a2 : Int32) (a3 : Int32) : Option (Int32 × zMem) := if a1 < 0 then (some ((-1), σ)) else (if (σ.1 43 0 2) < a1 then (some ((-1), σ)) else (zb (f_X10_isHouse F σ a2) fun r17 m17 => if r17 = 0 then (some ((-1), m17)) else (if a3 < 0 then (some ((-2), m17)) else (if a3 ≤ 100 then (if a1 < 10 then (zg (inb a1 10) (zg (inb a1 10) (if a1 = ((zwi (zwi m17 44 0 a1.toNatClampNeg a2) 45 0 a1.toNatClampNeg a3).1 43 0 2) then (some (((zwi (zwi (zwi m17 44 0 a1.toNatClampNeg a2) 45 0 a1.toNatClampNeg a3) 43 0 2 ((((zwi (zwi m17 44 0 a1.toNatClampNeg a2) 45 0 a1.toNatClampNeg a3).1 43 0 2) + 1))).1 43 0 2), (zwi (zwi (zwi m17 44 0 a1.toNatClampNeg a2) 45 0 a1.toNatClampNeg a3) 43 0 2 ((((zwi (zwi m17 44 0 a1.toNatClampNeg a2) 45 0 a1.toNatClampNeg a3).1 43 0 2) + 1))))) else (some (((zwi (zwi m17 44 0 a1.toNatClampNeg a2) 45 0 a1.toNatClampNeg a3).1 43 0 2), (zwi (zwi m17 44 0 a1.toNatClampNeg a2) 45 0 a1.toNatClampNeg a3)))))) else (some ((-4), m17))) else (some ((-2), m17))))))
set_option maxHeartbeats 4000000 in
set_option maxRecDepth 100000 in
theorem c_X10_channel (l : Launch) (Z : zLay) (F : Nat) (σ : zMem) (a1 : Int32) (a2 : Int32) (a3 : Int32) (r : Int32) (σ1 : zMem) (ho : f_X10_channel F σ a1 a2 a3 = some (r, σ1)) : zMet l yX10_channel cX10_channel 4 (some .int) 2 Z [.ref (zad Z 0 0), .int (a1), .int (a2), .int (a3)] σ (zQI Z r σ1) := by
  refine zMet_of (Qc := zQI Z) (by decide) (Nat.le_of_ble_eq_true rfl) [(0, .ref (zad Z 0 0)), (1, .int (a1)), (2, .int (a2)), (3, .int (a3))] rfl (fun E C => ?_) ho
  have hh : 2 ≤ 2 := Nat.le_refl _
  show zKO E 4 Z (zMQ E Z (zQI Z)) 0 [(0, .ref (zad Z 0 0)), (1, .int (a1)), (2, .int (a2)), (3, .int (a3))] [] σ _
  unfold f_X10_channel
  refine zr_iload_n C dX10_channel_0 rfl ?_
  refine zr_if_lt (tgt := 23) C dX10_channel_1 (by decide) ?_ ?_
  · refine zr_iconst (v := -1) C dX10_channel_23 rfl ?_
    exact zr_iret C dX10_channel_24
  · refine zr_iload_n C dX10_channel_4 rfl ?_
    refine zr_aload_n C dX10_channel_5 rfl ?_
    refine zf_X10_53 C (Nat.le_of_ble_eq_true rfl) dX10_channel_6 ?_
    refine zf_X10_389 C (Nat.le_of_ble_eq_true rfl) dX10_channel_9 ?_
    refine zr_icmp_gt (tgt := 23) C dX10_channel_12 (by decide) ?_ ?_
    · refine zr_iconst (v := -1) C dX10_channel_23 rfl ?_
      exact zr_iret C dX10_channel_24
    · refine zr_aload_n C dX10_channel_15 rfl ?_
      refine zr_iload_n C dX10_channel_16 rfl ?_
      refine zk_X10_91 C F (Nat.le_of_ble_eq_true rfl) (Nat.le_trans (by decide) hh) (by simp [Value.category]) dX10_channel_17 (fun r17 m17 => ?_)
      refine zr_if_ne (tgt := 25) C dX10_channel_20 (by decide) ?_ ?_
      · refine zr_iload_n C dX10_channel_25 rfl ?_
        refine zr_if_lt (tgt := 35) C dX10_channel_26 (by decide) ?_ ?_
        · refine zr_bipush (v := -2) C dX10_channel_35 rfl ?_
          exact zr_iret C dX10_channel_37
        · refine zr_iload_n C dX10_channel_29 rfl ?_
          refine zr_bipush (v := 100) C dX10_channel_30 rfl ?_
          refine zr_icmp_le (tgt := 38) C dX10_channel_32 (by decide) ?_ ?_
          · refine zr_iload_n C dX10_channel_38 rfl ?_
            refine zr_bipush (v := 10) C dX10_channel_39 rfl ?_
            refine zr_icmp_lt (tgt := 47) C dX10_channel_41 (by decide) ?_ ?_
            · refine zr_aload_n C dX10_channel_47 rfl ?_
              refine zf_X10_53 C (Nat.le_of_ble_eq_true rfl) dX10_channel_48 ?_
              refine zf_X10_390 C (Nat.le_of_ble_eq_true rfl) dX10_channel_51 ?_
              refine zr_iload_n C dX10_channel_54 rfl ?_
              refine zr_iload_n C dX10_channel_55 rfl ?_
              refine zr_iast (n := 10) C dX10_channel_56 (Nat.le_of_ble_eq_true rfl) (fun _ _ => rfl) ?_
              refine zr_aload_n C dX10_channel_57 rfl ?_
              refine zf_X10_53 C (Nat.le_of_ble_eq_true rfl) dX10_channel_58 ?_
              refine zf_X10_393 C (Nat.le_of_ble_eq_true rfl) dX10_channel_61 ?_
              refine zr_iload_n C dX10_channel_64 rfl ?_
              refine zr_iload_n C dX10_channel_65 rfl ?_
              refine zr_iast (n := 10) C dX10_channel_66 (Nat.le_of_ble_eq_true rfl) (fun _ _ => rfl) ?_
              refine zr_iload_n C dX10_channel_67 rfl ?_
              refine zr_aload_n C dX10_channel_68 rfl ?_
              refine zf_X10_53 C (Nat.le_of_ble_eq_true rfl) dX10_channel_69 ?_
              refine zf_X10_389 C (Nat.le_of_ble_eq_true rfl) dX10_channel_72 ?_
              refine zr_icmp_ne (tgt := 91) C dX10_channel_75 (by decide) ?_ ?_
              · refine zr_aload_n C dX10_channel_91 rfl ?_
                refine zf_X10_53 C (Nat.le_of_ble_eq_true rfl) dX10_channel_92 ?_
                refine zf_X10_389 C (Nat.le_of_ble_eq_true rfl) dX10_channel_95 ?_
                exact zr_iret C dX10_channel_98
              · refine zr_aload_n C dX10_channel_78 rfl ?_
                refine zf_X10_53 C (Nat.le_of_ble_eq_true rfl) dX10_channel_79 ?_
                refine zr_dup C dX10_channel_82 rfl ?_
                refine zf_X10_389 C (Nat.le_of_ble_eq_true rfl) dX10_channel_83 ?_
                refine zr_iconst (v := 1) C dX10_channel_86 rfl ?_
                refine zr_iadd C dX10_channel_87 ?_
                refine zp_X10_389 C (Nat.le_of_ble_eq_true rfl) dX10_channel_88 ?_
                refine zr_aload_n C dX10_channel_91 rfl ?_
                refine zf_X10_53 C (Nat.le_of_ble_eq_true rfl) dX10_channel_92 ?_
                refine zf_X10_389 C (Nat.le_of_ble_eq_true rfl) dX10_channel_95 ?_
                exact zr_iret C dX10_channel_98
            · refine zr_bipush (v := -4) C dX10_channel_44 rfl ?_
              exact zr_iret C dX10_channel_46
          · refine zr_bipush (v := -2) C dX10_channel_35 rfl ?_
            exact zr_iret C dX10_channel_37
      · refine zr_iconst (v := -1) C dX10_channel_23 rfl ?_
        exact zr_iret C dX10_channel_24
def f_X10_hour (F : Nat) (σ : zMem) (a1 : Int32) : Option (Int32 × zMem) := zb (f_X3_whole F σ 2) fun r5 m5 => if r5 = 0 then (some ((-1), m5)) else (if 0 ≤ a1 then (zb (f_X3_atHour F m5 a1) fun r25 m25 => some (r25, m25)) else (some ((-2), m5)))
set_option maxHeartbeats 4000000 in
set_option maxRecDepth 100000 in
theorem c_X10_hour (l : Launch) (Z : zLay) (F : Nat) (σ : zMem) (a1 : Int32) (r : Int32) (σ1 : zMem) (ho : f_X10_hour F σ a1 = some (r, σ1)) : zMet l yX10_hour cX10_hour 2 (some .int) 4 Z [.ref (zad Z 0 0), .int (a1)] σ (zQI Z r σ1) := by
  refine zMet_of (Qc := zQI Z) (by decide) (Nat.le_of_ble_eq_true rfl) [(0, .ref (zad Z 0 0)), (1, .int (a1))] rfl (fun E C => ?_) ho
  have hh : 4 ≤ 4 := Nat.le_refl _
  show zKO E 2 Z (zMQ E Z (zQI Z)) 0 [(0, .ref (zad Z 0 0)), (1, .int (a1))] [] σ _
  unfold f_X10_hour
  refine zr_aload_n C dX10_hour_0 rfl ?_
  refine zf_X10_18 C (Nat.le_of_ble_eq_true rfl) dX10_hour_1 ?_
  refine zr_iconst (v := 2) C dX10_hour_4 rfl ?_
  refine zk_X10_168 C F (Nat.le_of_ble_eq_true rfl) (Nat.le_trans (by decide) hh) (by simp [Value.category]) dX10_hour_5 (fun r5 m5 => ?_)
  refine zr_if_ne (tgt := 13) C dX10_hour_8 (by decide) ?_ ?_
  · refine zr_iload_n C dX10_hour_13 rfl ?_
    refine zr_if_ge (tgt := 20) C dX10_hour_14 (by decide) ?_ ?_
    · refine zr_aload_n C dX10_hour_20 rfl ?_
      refine zf_X10_18 C (Nat.le_of_ble_eq_true rfl) dX10_hour_21 ?_
      refine zr_iload_n C dX10_hour_24 rfl ?_
      refine zk_X10_396 C F (Nat.le_of_ble_eq_true rfl) (Nat.le_trans (by decide) hh) (by simp [Value.category]) dX10_hour_25 (fun r25 m25 => ?_)
      exact zr_iret C dX10_hour_28
    · refine zr_bipush (v := -2) C dX10_hour_17 rfl ?_
      exact zr_iret C dX10_hour_19
  · refine zr_iconst (v := -1) C dX10_hour_11 rfl ?_
    exact zr_iret C dX10_hour_12
def f_X10_gets (F : Nat) (σ : zMem) (a1 : Int32) (a2 : Int32) (a3 : Int32) : Option (Int32 × zMem) := zb (f_X10_isHouse F σ a1) fun r2 m2 => if r2 = 0 then (some ((-5), m2)) else (if a2 < 0 then (some ((-5), m2)) else (if a3 < 0 then (some ((-5), m2)) else (if a3 ≤ 10000 then (zb (f_X3_atHour F m2 a2) fun r31 m31 => if r31 < 0 then (some (0, m31)) else (zb (f_X3_holder F m31 r31 ((m31.1 0 0 11))) fun r51 m51 => if r51 = a1 then (zb (f_X1_comesTo F m51 a1 a3) fun r66 m66 => some (r66, m66)) else (some (0, m51)))) else (some ((-5), m2)))))
set_option maxHeartbeats 4000000 in
set_option maxRecDepth 100000 in
theorem c_X10_gets (l : Launch) (Z : zLay) (F : Nat) (σ : zMem) (a1 : Int32) (a2 : Int32) (a3 : Int32) (r : Int32) (σ1 : zMem) (ho : f_X10_gets F σ a1 a2 a3 = some (r, σ1)) : zMet l yX10_gets cX10_gets 5 (some .int) 4 Z [.ref (zad Z 0 0), .int (a1), .int (a2), .int (a3)] σ (zQI Z r σ1) := by
  refine zMet_of (Qc := zQI Z) (by decide) (Nat.le_of_ble_eq_true rfl) [(0, .ref (zad Z 0 0)), (1, .int (a1)), (2, .int (a2)), (3, .int (a3))] rfl (fun E C => ?_) ho
  have hh : 4 ≤ 4 := Nat.le_refl _
  show zKO E 5 Z (zMQ E Z (zQI Z)) 0 [(0, .ref (zad Z 0 0)), (1, .int (a1)), (2, .int (a2)), (3, .int (a3))] [] σ _
  unfold f_X10_gets
  refine zr_aload_n C dX10_gets_0 rfl ?_
  refine zr_iload_n C dX10_gets_1 rfl ?_
  refine zk_X10_91 C F (Nat.le_of_ble_eq_true rfl) (Nat.le_trans (by decide) hh) (by simp [Value.category]) dX10_gets_2 (fun r2 m2 => ?_)
  refine zr_if_eq (tgt := 23) C dX10_gets_5 (by decide) ?_ ?_
  · refine zr_bipush (v := -5) C dX10_gets_23 rfl ?_
    exact zr_iret C dX10_gets_25
  · refine zr_iload_n C dX10_gets_8 rfl ?_
    refine zr_if_lt (tgt := 23) C dX10_gets_9 (by decide) ?_ ?_
    · refine zr_bipush (v := -5) C dX10_gets_23 rfl ?_
      exact zr_iret C dX10_gets_25
    · refine zr_iload_n C dX10_gets_12 rfl ?_
      refine zr_if_lt (tgt := 23) C dX10_gets_13 (by decide) ?_ ?_
      · refine zr_bipush (v := -5) C dX10_gets_23 rfl ?_
        exact zr_iret C dX10_gets_25
      · refine zr_iload_n C dX10_gets_16 rfl ?_
        refine zr_sipush (v := 10000) C dX10_gets_17 rfl ?_
        refine zr_icmp_le (tgt := 26) C dX10_gets_20 (by decide) ?_ ?_
        · refine zr_aload_n C dX10_gets_26 rfl ?_
          refine zf_X10_18 C (Nat.le_of_ble_eq_true rfl) dX10_gets_27 ?_
          refine zr_iload_n C dX10_gets_30 rfl ?_
          refine zk_X10_396 C F (Nat.le_of_ble_eq_true rfl) (Nat.le_trans (by decide) hh) (by simp [Value.category]) dX10_gets_31 (fun r31 m31 => ?_)
          refine zr_istore (i := 4) (L1 := [(4, .int _), (0, .ref _), (1, .int _), (2, .int _), (3, .int _)]) C dX10_gets_34 (by decide) rfl ?_
          refine zr_iload C dX10_gets_36 rfl ?_
          refine zr_if_lt (tgt := 58) C dX10_gets_38 (by decide) ?_ ?_
          · refine zr_iconst (v := 0) C dX10_gets_58 rfl ?_
            exact zr_iret C dX10_gets_59
          · refine zr_aload_n C dX10_gets_41 rfl ?_
            refine zf_X10_18 C (Nat.le_of_ble_eq_true rfl) dX10_gets_42 ?_
            refine zr_iload C dX10_gets_45 rfl ?_
            refine zr_aload_n C dX10_gets_47 rfl ?_
            refine zf_X10_142 C (Nat.le_of_ble_eq_true rfl) dX10_gets_48 ?_
            refine zk_X10_164 C F (Nat.le_of_ble_eq_true rfl) (Nat.le_trans (by decide) hh) (by simp [Value.category]) dX10_gets_51 (fun r51 m51 => ?_)
            refine zr_iload_n C dX10_gets_54 rfl ?_
            refine zr_icmp_eq (tgt := 60) C dX10_gets_55 (by decide) ?_ ?_
            · refine zr_aload_n C dX10_gets_60 rfl ?_
              refine zf_X10_53 C (Nat.le_of_ble_eq_true rfl) dX10_gets_61 ?_
              refine zr_iload_n C dX10_gets_64 rfl ?_
              refine zr_iload_n C dX10_gets_65 rfl ?_
              refine zk_X10_399 C F (Nat.le_of_ble_eq_true rfl) (Nat.le_trans (by decide) hh) (by simp [Value.category]) dX10_gets_66 (fun r66 m66 => ?_)
              exact zr_iret C dX10_gets_69
            · refine zr_iconst (v := 0) C dX10_gets_58 rfl ?_
              exact zr_iret C dX10_gets_59
        · refine zr_bipush (v := -5) C dX10_gets_23 rfl ?_
          exact zr_iret C dX10_gets_25
def f_X10_takesTurn (F : Nat) (σ : zMem) (a0 : Int32) (a1 : Nat) : Option (Int32 × zMem) := zg (decide (a1 < 10)) (if a0 = 0 then (zg (inb 2 4) (if (σ.1 3 a1 2) ≤ 0 then (some (0, σ)) else (some (1, σ)))) else (if a0 = 2 then (zg (inb 1 4) (if (σ.1 3 a1 1) < 3 then (some (0, σ)) else (some (1, σ)))) else (some (1, σ))))
set_option maxHeartbeats 4000000 in
set_option maxRecDepth 100000 in
theorem c_X10_takesTurn (l : Launch) (Z : zLay) (F : Nat) (σ : zMem) (a0 : Int32) (a1 : Nat) (r : Int32) (σ1 : zMem) (ho : f_X10_takesTurn F σ a0 a1 = some (r, σ1)) : zMet l yX10_takesTurn cX10_takesTurn 2 (some .boolean) 1 Z [.int (a0), .ref (zad Z 2 a1)] σ (zQI Z r σ1) := by
  refine zMet_of (Qc := zQI Z) (by decide) (Nat.le_of_ble_eq_true rfl) [(0, .int (a0)), (1, .ref (zad Z 2 a1))] rfl (fun E C => ?_) ho
  have hh : 1 ≤ 1 := Nat.le_refl _
  show zKO E 2 Z (zMQ E Z (zQI Z)) 0 [(0, .int (a0)), (1, .ref (zad Z 2 a1))] [] σ _
  unfold f_X10_takesTurn
  refine zr_g (fun ha1 => ?_)
  refine zr_iload_n C dX10_takesTurn_0 rfl ?_
  refine zr_if_ne (tgt := 19) C dX10_takesTurn_1 (by decide) ?_ ?_
  · refine zr_iload_n C dX10_takesTurn_19 rfl ?_
    refine zr_iconst (v := 2) C dX10_takesTurn_20 rfl ?_
    refine zr_icmp_ne (tgt := 40) C dX10_takesTurn_21 (by decide) ?_ ?_
    · refine zr_iconst (v := 1) C dX10_takesTurn_40 rfl ?_
      exact zr_zret C dX10_takesTurn_41 rfl
    · refine zr_aload_n C dX10_takesTurn_24 rfl ?_
      refine zf_X10_88 C (of_decide_eq_true ha1) dX10_takesTurn_25 ?_
      refine zr_iconst (v := 1) C dX10_takesTurn_28 rfl ?_
      refine zr_iald (n := 4) C dX10_takesTurn_29 (of_decide_eq_true ha1) rfl ?_
      refine zr_iconst (v := 3) C dX10_takesTurn_30 rfl ?_
      refine zr_icmp_lt (tgt := 38) C dX10_takesTurn_31 (by decide) ?_ ?_
      · refine zr_iconst (v := 0) C dX10_takesTurn_38 rfl ?_
        exact zr_zret C dX10_takesTurn_39 rfl
      · refine zr_iconst (v := 1) C dX10_takesTurn_34 rfl ?_
        refine zr_goto (tgt := 39) C dX10_takesTurn_35 (by decide) ?_
        exact zr_zret C dX10_takesTurn_39 rfl
  · refine zr_aload_n C dX10_takesTurn_4 rfl ?_
    refine zf_X10_88 C (of_decide_eq_true ha1) dX10_takesTurn_5 ?_
    refine zr_iconst (v := 2) C dX10_takesTurn_8 rfl ?_
    refine zr_iald (n := 4) C dX10_takesTurn_9 (of_decide_eq_true ha1) rfl ?_
    refine zr_if_le (tgt := 17) C dX10_takesTurn_10 (by decide) ?_ ?_
    · refine zr_iconst (v := 0) C dX10_takesTurn_17 rfl ?_
      exact zr_zret C dX10_takesTurn_18 rfl
    · refine zr_iconst (v := 1) C dX10_takesTurn_13 rfl ?_
      refine zr_goto (tgt := 18) C dX10_takesTurn_14 (by decide) ?_
      exact zr_zret C dX10_takesTurn_18 rfl
theorem zk_X10_408 (C : zCx E cc RX10 nL ret Z h) (F : Nat) {b0 : Int32} {b1 : Nat} (hh : 1 + 1 ≤ h) (hst8 : (st.map fun v => v.category).sum ≤ 8) (hd : decode cc pc = .ok (.invokestatic 408, 3)) {g : Int32 → zMem → Option (α × zMem)} (kk : ∀ (r : Int32) (σ1 : zMem), zKO E nL Z QQ (pc + 3) L (.int r :: st) σ1 (g r σ1)) : zKO E nL Z QQ pc L (.ref (zad Z 2 b1) :: .int b0 :: st) σ (zb (f_X10_takesTurn F σ b0 b1) g) :=
  zr_callSI (As := [.int b0, .ref (zad Z 2 b1)]) (ia := 2) C (fun r σ1 ho => c_X10_takesTurn (zla E) Z F σ b0 b1 r σ1 ho) wz_960 wz_961 wz_962 wz_1 (by decide +kernel) rfl (by decide) hh hd hst8 kk
def f_X10_nextTurn_2 (F : Nat) (rec2 : zMem → Int32 × Int32 × Int32 → Option (Int32 × zMem)) (σ : zMem) (x : Int32 × Int32 × Int32) : Option (Int32 × zMem) := if (σ.1 0 0 1) < x.2.2 then (some ((-1), σ)) else (zg (zni ((σ.1 0 0 1))) (zg (inb ((zrem ((x.2.1 + x.2.2)) ((σ.1 0 0 1)))) 10) (zb (f_X10_takesTurn F σ x.1 (((zrem ((x.2.1 + x.2.2)) ((σ.1 0 0 1)))).toNatClampNeg)) fun r28 m28 => if r28 = 0 then (rec2 m28 ((x.1, x.2.1, (x.2.2 + 1)))) else (some ((zrem ((x.2.1 + x.2.2)) ((σ.1 0 0 1))), m28)))))
set_option maxHeartbeats 4000000 in
set_option maxRecDepth 100000 in
theorem c_X10_nextTurn_2 (F : Nat) {E : zEn} {h : Nat} {Z : zLay} (C : zCx E cX10_nextTurn RX10 5 (some .int) Z h) (hh : 2 ≤ h) : ∀ (n : Nat) (σ : zMem) (x : Int32 × Int32 × Int32), zKO E 5 Z (zMQ E Z (zQI Z)) 2 [(0, .ref (zad Z 0 0)), (1, .int x.1), (2, .int x.2.1), (3, .int x.2.2)] [] σ (zit (f_X10_nextTurn_2 F) n σ x) := by
  refine zr_loop (LL := fun (x : Int32 × Int32 × Int32) => [(0, .ref (zad Z 0 0)), (1, .int x.1), (2, .int x.2.1), (3, .int x.2.2)]) (ST := fun (x : Int32 × Int32 × Int32) => []) (fun rec2 hrec2 σ x => ?_)
  obtain ⟨l1, l2, l3⟩ := x
  show zKO E 5 Z (zMQ E Z (zQI Z)) 2 [(0, .ref (zad Z 0 0)), (1, .int l1), (2, .int l2), (3, .int l3)] [] σ (if (σ.1 0 0 1) < l3 then (some ((-1), σ)) else (zg (zni ((σ.1 0 0 1))) (zg (inb ((zrem ((l2 + l3)) ((σ.1 0 0 1)))) 10) (zb (f_X10_takesTurn F σ l1 (((zrem ((l2 + l3)) ((σ.1 0 0 1)))).toNatClampNeg)) fun r28 m28 => if r28 = 0 then (rec2 m28 ((l1, l2, (l3 + 1)))) else (some ((zrem ((l2 + l3)) ((σ.1 0 0 1))), m28))))))
  refine zr_iload_n C dX10_nextTurn_2 rfl ?_
  refine zr_aload_n C dX10_nextTurn_3 rfl ?_
  refine zf_X10_85 C (Nat.le_of_ble_eq_true rfl) dX10_nextTurn_4 ?_
  refine zr_icmp_gt (tgt := 43) C dX10_nextTurn_7 (by decide) ?_ ?_
  · refine zr_iconst (v := -1) C dX10_nextTurn_43 rfl ?_
    exact zr_iret C dX10_nextTurn_44
  · refine zr_iload_n C dX10_nextTurn_10 rfl ?_
    refine zr_iload_n C dX10_nextTurn_11 rfl ?_
    refine zr_iadd C dX10_nextTurn_12 ?_
    refine zr_aload_n C dX10_nextTurn_13 rfl ?_
    refine zf_X10_85 C (Nat.le_of_ble_eq_true rfl) dX10_nextTurn_14 ?_
    refine zr_irem C dX10_nextTurn_17 ?_
    refine zr_istore (i := 4) (L1 := [(4, .int _), (0, .ref _), (1, .int _), (2, .int _), (3, .int _)]) C dX10_nextTurn_18 (by decide) rfl ?_
    refine zr_iload_n C dX10_nextTurn_20 rfl ?_
    refine zr_aload_n C dX10_nextTurn_21 rfl ?_
    refine zf_X10_11 C (Nat.le_of_ble_eq_true rfl) dX10_nextTurn_22 ?_
    refine zr_iload C dX10_nextTurn_25 rfl ?_
    refine zr_aald (n := 10) (k1 := 2) C dX10_nextTurn_27 (Nat.le_of_ble_eq_true rfl) rfl rfl rfl (fun hb27 => ?_)
    refine zk_X10_408 C F (Nat.le_trans (by decide) hh) (by simp [Value.category]) dX10_nextTurn_28 (fun r28 m28 => ?_)
    refine zr_if_eq (tgt := 37) C dX10_nextTurn_31 (by decide) ?_ ?_
    · refine zr_iinc (kk := 4) (v := (l3 + 1)) (L1 := [(3, .int _), (4, .int _), (0, .ref _), (1, .int _), (2, .int _)]) C dX10_nextTurn_37 rfl rfl (by decide) rfl ?_
      refine zr_goto (tgt := 2) C dX10_nextTurn_40 (by decide) ?_
      exact zr_sub [2, 3, 4, 0] rfl (hrec2 m28 ((l1, l2, (l3 + 1))))
    · refine zr_iload C dX10_nextTurn_34 rfl ?_
      exact zr_iret C dX10_nextTurn_36
def f_X10_nextTurn (F : Nat) (σ : zMem) (a1 : Int32) (a2 : Int32) : Option (Int32 × zMem) := zit (f_X10_nextTurn_2 F) F σ ((a1, a2, 1))
set_option maxHeartbeats 4000000 in
set_option maxRecDepth 100000 in
theorem c_X10_nextTurn (l : Launch) (Z : zLay) (F : Nat) (σ : zMem) (a1 : Int32) (a2 : Int32) (r : Int32) (σ1 : zMem) (ho : f_X10_nextTurn F σ a1 a2 = some (r, σ1)) : zMet l yX10_nextTurn cX10_nextTurn 5 (some .int) 2 Z [.ref (zad Z 0 0), .int (a1), .int (a2)] σ (zQI Z r σ1) := by
  refine zMet_of (Qc := zQI Z) (by decide) (Nat.le_of_ble_eq_true rfl) [(0, .ref (zad Z 0 0)), (1, .int (a1)), (2, .int (a2))] rfl (fun E C => ?_) ho
  have hh : 2 ≤ 2 := Nat.le_refl _
  show zKO E 5 Z (zMQ E Z (zQI Z)) 0 [(0, .ref (zad Z 0 0)), (1, .int (a1)), (2, .int (a2))] [] σ _
  unfold f_X10_nextTurn
  refine zr_iconst (v := 1) C dX10_nextTurn_0 rfl ?_
  refine zr_istore_n (i := 3) (L1 := [(3, .int _), (0, .ref _), (1, .int _), (2, .int _)]) C dX10_nextTurn_1 rfl (by decide) rfl ?_
  exact zr_sub [1, 2, 3, 0] rfl (c_X10_nextTurn_2 F C hh F σ ((a1, a2, 1)))
theorem zk_X10_405 (C : zCx E cc RX10 nL ret Z h) (F : Nat) {b0 : Int32} {b1 : Int32} (hk : 0 < zN 0) (hh : 2 + 1 ≤ h) (hst8 : (st.map fun v => v.category).sum ≤ 8) (hd : decode cc pc = .ok (.invokevirtual 405, 3)) {g : Int32 → zMem → Option (α × zMem)} (kk : ∀ (r : Int32) (σ1 : zMem), zKO E nL Z QQ (pc + 3) L (.int r :: st) σ1 (g r σ1)) : zKO E nL Z QQ pc L (.int b1 :: .int b0 :: .ref (zad Z 0 0) :: st) σ (zb (f_X10_nextTurn F σ b0 b1) g) :=
  zr_callVI (As := [.int b0, .int b1]) (ia := 2) C (fun r σ1 ho => c_X10_nextTurn (zla E) Z F σ b0 b1 r σ1 ho) wz_956 hk rfl rfl wz_p64 wz_958 wz_959 wz_1 (by decide +kernel) rfl (by decide) hh hd hst8 kk
def f_X10_turn_62 (F : Nat) (σ : zMem) (l1 : Int32) (l2 : Int32) : Option (Int32 × zMem) := zb (f_X10_nextTurn F σ l1 l2) fun r65 m65 => if 0 ≤ r65 then (zg (inb l1 3) (if l1 = 1 then (some (r65, (zwi (zwi m65 51 0 l1.toNatClampNeg r65) 0 0 15 1))) else (some (r65, (zwi m65 51 0 l1.toNatClampNeg r65))))) else (some ((-1), m65))
set_option maxHeartbeats 4000000 in
set_option maxRecDepth 100000 in
theorem c_X10_turn_62 (F : Nat) {E : zEn} {h : Nat} {Z : zLay} (C : zCx E cX10_turn RX10 4 (some .int) Z h) (hh : 5 ≤ h) (σ : zMem) (l1 : Int32) (l2 : Int32) : zKO E 4 Z (zMQ E Z (zQI Z)) 62 [(0, .ref (zad Z 0 0)), (1, .int l1), (2, .int l2)] [] σ (f_X10_turn_62 F σ l1 l2) := by
  unfold f_X10_turn_62
  refine zr_aload_n C dX10_turn_62 rfl ?_
  refine zr_iload_n C dX10_turn_63 rfl ?_
  refine zr_iload_n C dX10_turn_64 rfl ?_
  refine zk_X10_405 C F (Nat.le_of_ble_eq_true rfl) (Nat.le_trans (by decide) hh) (by simp [Value.category]) dX10_turn_65 (fun r65 m65 => ?_)
  refine zr_istore_n (i := 3) (L1 := [(3, .int _), (0, .ref _), (1, .int _), (2, .int _)]) C dX10_turn_68 rfl (by decide) rfl ?_
  refine zr_iload_n C dX10_turn_69 rfl ?_
  refine zr_if_ge (tgt := 75) C dX10_turn_70 (by decide) ?_ ?_
  · refine zr_aload_n C dX10_turn_75 rfl ?_
    refine zf_X10_72 C (Nat.le_of_ble_eq_true rfl) dX10_turn_76 ?_
    refine zr_iload_n C dX10_turn_79 rfl ?_
    refine zr_iload_n C dX10_turn_80 rfl ?_
    refine zr_iast (n := 3) C dX10_turn_81 (Nat.le_of_ble_eq_true rfl) (fun _ _ => rfl) ?_
    refine zr_iload_n C dX10_turn_82 rfl ?_
    refine zr_iconst (v := 1) C dX10_turn_83 rfl ?_
    refine zr_icmp_ne (tgt := 92) C dX10_turn_84 (by decide) ?_ ?_
    · refine zr_iload_n C dX10_turn_92 rfl ?_
      exact zr_iret C dX10_turn_93
    · refine zr_aload_n C dX10_turn_87 rfl ?_
      refine zr_iconst (v := 1) C dX10_turn_88 rfl ?_
      refine zp_X10_402 C (Nat.le_of_ble_eq_true rfl) dX10_turn_89 ?_
      refine zr_iload_n C dX10_turn_92 rfl ?_
      exact zr_iret C dX10_turn_93
  · refine zr_iconst (v := -1) C dX10_turn_73 rfl ?_
    exact zr_iret C dX10_turn_74
def f_X10_turn (F : Nat) (σ : zMem) (a1 : Int32) : Option (Int32 × zMem) := if a1 < 0 then (some ((-1), σ)) else (if a1 < 3 then (zg (inb a1 3) (if a1 = 1 then (zb (f_X10_isHouse F σ ((σ.1 51 0 a1.toNatClampNeg))) fun r25 m25 => if r25 = 0 then (f_X10_turn_62 F m25 a1 ((σ.1 51 0 a1.toNatClampNeg))) else (zg (inb ((σ.1 51 0 a1.toNatClampNeg)) 10) (zb (f_X10_worthNow F m25 (((σ.1 51 0 a1.toNatClampNeg)).toNatClampNeg) 7) fun r44 m44 => if r44 ≤ (m25.1 0 0 15) then (f_X10_turn_62 F m44 a1 ((σ.1 51 0 a1.toNatClampNeg))) else (some ((σ.1 51 0 a1.toNatClampNeg), (zwi m44 0 0 15 (((m44.1 0 0 15) + 1)))))))) else (f_X10_turn_62 F σ a1 ((σ.1 51 0 a1.toNatClampNeg))))) else (some ((-1), σ)))
set_option maxHeartbeats 4000000 in
set_option maxRecDepth 100000 in
theorem c_X10_turn (l : Launch) (Z : zLay) (F : Nat) (σ : zMem) (a1 : Int32) (r : Int32) (σ1 : zMem) (ho : f_X10_turn F σ a1 = some (r, σ1)) : zMet l yX10_turn cX10_turn 4 (some .int) 5 Z [.ref (zad Z 0 0), .int (a1)] σ (zQI Z r σ1) := by
  refine zMet_of (Qc := zQI Z) (by decide) (Nat.le_of_ble_eq_true rfl) [(0, .ref (zad Z 0 0)), (1, .int (a1))] rfl (fun E C => ?_) ho
  have hh : 5 ≤ 5 := Nat.le_refl _
  show zKO E 4 Z (zMQ E Z (zQI Z)) 0 [(0, .ref (zad Z 0 0)), (1, .int (a1))] [] σ _
  unfold f_X10_turn
  refine zr_iload_n C dX10_turn_0 rfl ?_
  refine zr_if_lt (tgt := 9) C dX10_turn_1 (by decide) ?_ ?_
  · refine zr_iconst (v := -1) C dX10_turn_9 rfl ?_
    exact zr_iret C dX10_turn_10
  · refine zr_iload_n C dX10_turn_4 rfl ?_
    refine zr_iconst (v := 3) C dX10_turn_5 rfl ?_
    refine zr_icmp_lt (tgt := 11) C dX10_turn_6 (by decide) ?_ ?_
    · refine zr_aload_n C dX10_turn_11 rfl ?_
      refine zf_X10_72 C (Nat.le_of_ble_eq_true rfl) dX10_turn_12 ?_
      refine zr_iload_n C dX10_turn_15 rfl ?_
      refine zr_iald (n := 3) C dX10_turn_16 (Nat.le_of_ble_eq_true rfl) rfl ?_
      refine zr_istore_n (i := 2) (L1 := [(2, .int _), (0, .ref _), (1, .int _)]) C dX10_turn_17 rfl (by decide) rfl ?_
      refine zr_iload_n C dX10_turn_18 rfl ?_
      refine zr_iconst (v := 1) C dX10_turn_19 rfl ?_
      refine zr_icmp_ne (tgt := 62) C dX10_turn_20 (by decide) ?_ ?_
      · exact zr_sub [1, 2, 0] rfl (c_X10_turn_62 F C hh σ a1 ((σ.1 51 0 a1.toNatClampNeg)))
      · refine zr_aload_n C dX10_turn_23 rfl ?_
        refine zr_iload_n C dX10_turn_24 rfl ?_
        refine zk_X10_91 C F (Nat.le_of_ble_eq_true rfl) (Nat.le_trans (by decide) hh) (by simp [Value.category]) dX10_turn_25 (fun r25 m25 => ?_)
        refine zr_if_eq (tgt := 62) C dX10_turn_28 (by decide) ?_ ?_
        · exact zr_sub [1, 2, 0] rfl (c_X10_turn_62 F C hh m25 a1 ((σ.1 51 0 a1.toNatClampNeg)))
        · refine zr_aload_n C dX10_turn_31 rfl ?_
          refine zf_X10_402 C (Nat.le_of_ble_eq_true rfl) dX10_turn_32 ?_
          refine zr_aload_n C dX10_turn_35 rfl ?_
          refine zr_aload_n C dX10_turn_36 rfl ?_
          refine zf_X10_11 C (Nat.le_of_ble_eq_true rfl) dX10_turn_37 ?_
          refine zr_iload_n C dX10_turn_40 rfl ?_
          refine zr_aald (n := 10) (k1 := 2) C dX10_turn_41 (Nat.le_of_ble_eq_true rfl) rfl rfl rfl (fun hb41 => ?_)
          refine zr_bipush (v := 7) C dX10_turn_42 rfl ?_
          refine zk_X10_287 C F (Nat.le_of_ble_eq_true rfl) (Nat.le_trans (by decide) hh) (by simp [Value.category]) dX10_turn_44 (fun r44 m44 => ?_)
          refine zr_icmp_ge (tgt := 62) C dX10_turn_47 (by decide) ?_ ?_
          · exact zr_sub [1, 2, 0] rfl (c_X10_turn_62 F C hh m44 a1 ((σ.1 51 0 a1.toNatClampNeg)))
          · refine zr_aload_n C dX10_turn_50 rfl ?_
            refine zr_dup C dX10_turn_51 rfl ?_
            refine zf_X10_402 C (Nat.le_of_ble_eq_true rfl) dX10_turn_52 ?_
            refine zr_iconst (v := 1) C dX10_turn_55 rfl ?_
            refine zr_iadd C dX10_turn_56 ?_
            refine zp_X10_402 C (Nat.le_of_ble_eq_true rfl) dX10_turn_57 ?_
            refine zr_iload_n C dX10_turn_60 rfl ?_
            exact zr_iret C dX10_turn_61
    · refine zr_iconst (v := -1) C dX10_turn_9 rfl ?_
      exact zr_iret C dX10_turn_10
def f_X10_work (F : Nat) (σ : zMem) (a1 : Int32) (a2 : Int32) : Option (Int32 × zMem) := zb (f_X10_isHouse F σ a1) fun r2 m2 => if r2 = 0 then (some ((-1), m2)) else (if a2 < 1 then (some ((-2), m2)) else (if a2 ≤ 999 then (zg (inb a1 10) (zg (inb a1 10) (some (((zwi m2 2 a1.toNatClampNeg 11 (((m2.1 2 a1.toNatClampNeg 11) + a2))).1 2 a1.toNatClampNeg 11), (zwi m2 2 a1.toNatClampNeg 11 (((m2.1 2 a1.toNatClampNeg 11) + a2))))))) else (some ((-2), m2))))
set_option maxHeartbeats 4000000 in
set_option maxRecDepth 100000 in
theorem c_X10_work (l : Launch) (Z : zLay) (F : Nat) (σ : zMem) (a1 : Int32) (a2 : Int32) (r : Int32) (σ1 : zMem) (ho : f_X10_work F σ a1 a2 = some (r, σ1)) : zMet l yX10_work cX10_work 3 (some .int) 2 Z [.ref (zad Z 0 0), .int (a1), .int (a2)] σ (zQI Z r σ1) := by
  refine zMet_of (Qc := zQI Z) (by decide) (Nat.le_of_ble_eq_true rfl) [(0, .ref (zad Z 0 0)), (1, .int (a1)), (2, .int (a2))] rfl (fun E C => ?_) ho
  have hh : 2 ≤ 2 := Nat.le_refl _
  show zKO E 3 Z (zMQ E Z (zQI Z)) 0 [(0, .ref (zad Z 0 0)), (1, .int (a1)), (2, .int (a2))] [] σ _
  unfold f_X10_work
  refine zr_aload_n C dX10_work_0 rfl ?_
  refine zr_iload_n C dX10_work_1 rfl ?_
  refine zk_X10_91 C F (Nat.le_of_ble_eq_true rfl) (Nat.le_trans (by decide) hh) (by simp [Value.category]) dX10_work_2 (fun r2 m2 => ?_)
  refine zr_if_ne (tgt := 10) C dX10_work_5 (by decide) ?_ ?_
  · refine zr_iload_n C dX10_work_10 rfl ?_
    refine zr_iconst (v := 1) C dX10_work_11 rfl ?_
    refine zr_icmp_lt (tgt := 22) C dX10_work_12 (by decide) ?_ ?_
    · refine zr_bipush (v := -2) C dX10_work_22 rfl ?_
      exact zr_iret C dX10_work_24
    · refine zr_iload_n C dX10_work_15 rfl ?_
      refine zr_sipush (v := 999) C dX10_work_16 rfl ?_
      refine zr_icmp_le (tgt := 25) C dX10_work_19 (by decide) ?_ ?_
      · refine zr_aload_n C dX10_work_25 rfl ?_
        refine zf_X10_11 C (Nat.le_of_ble_eq_true rfl) dX10_work_26 ?_
        refine zr_iload_n C dX10_work_29 rfl ?_
        refine zr_aald (n := 10) (k1 := 2) C dX10_work_30 (Nat.le_of_ble_eq_true rfl) rfl rfl rfl (fun hb30 => ?_)
        refine zr_dup C dX10_work_31 rfl ?_
        refine zf_X10_123 C hb30 dX10_work_32 ?_
        refine zr_iload_n C dX10_work_35 rfl ?_
        refine zr_iadd C dX10_work_36 ?_
        refine zp_X10_123 C hb30 dX10_work_37 ?_
        refine zr_aload_n C dX10_work_40 rfl ?_
        refine zf_X10_11 C (Nat.le_of_ble_eq_true rfl) dX10_work_41 ?_
        refine zr_iload_n C dX10_work_44 rfl ?_
        refine zr_aald (n := 10) (k1 := 2) C dX10_work_45 (Nat.le_of_ble_eq_true rfl) rfl rfl rfl (fun hb45 => ?_)
        refine zf_X10_123 C hb45 dX10_work_46 ?_
        exact zr_iret C dX10_work_49
      · refine zr_bipush (v := -2) C dX10_work_22 rfl ?_
        exact zr_iret C dX10_work_24
  · refine zr_iconst (v := -1) C dX10_work_8 rfl ?_
    exact zr_iret C dX10_work_9
def f_X10_year_95 (F : Nat) (rec29 : zMem → Int32 × Int32 → Option (Int32 × zMem)) (σ : zMem) (l2 : Int32) (l3 : Int32) (l4 : Nat) : Option (Int32 × zMem) := zg (decide (l4 < 10)) (rec29 (zwi σ 2 l4 11 0) ((l2, (l3 + 1))))
set_option maxHeartbeats 4000000 in
set_option maxRecDepth 100000 in
theorem c_X10_year_95 (F : Nat) (rec29 : zMem → Int32 × Int32 → Option (Int32 × zMem)) {E : zEn} {h : Nat} {Z : zLay} (C : zCx E cX10_year RX10 7 (some .int) Z h) (hh : 5 ≤ h) (hrec29 : ∀ (σ : zMem) (x : Int32 × Int32), zKO E 7 Z (zMQ E Z (zQI Z)) 29 [(0, .ref (zad Z 0 0)), (2, .int x.1), (3, .int x.2)] [] σ (rec29 σ x)) (σ : zMem) (l2 : Int32) (l3 : Int32) (l4 : Nat) : zKO E 7 Z (zMQ E Z (zQI Z)) 95 [(0, .ref (zad Z 0 0)), (2, .int l2), (3, .int l3), (4, .ref (zad Z 2 l4))] [] σ (f_X10_year_95 F rec29 σ l2 l3 l4) := by
  unfold f_X10_year_95
  refine zr_g (fun hl4 => ?_)
  refine zr_aload C dX10_year_95 rfl ?_
  refine zr_iconst (v := 0) C dX10_year_97 rfl ?_
  refine zp_X10_123 C (of_decide_eq_true hl4) dX10_year_98 ?_
  refine zr_iinc (kk := 2) (v := (l3 + 1)) (L1 := [(3, .int _), (0, .ref _), (2, .int _), (4, .ref _)]) C dX10_year_101 rfl rfl (by decide) rfl ?_
  refine zr_goto (tgt := 29) C dX10_year_104 (by decide) ?_
  exact zr_sub [1, 2, 0] rfl (hrec29 (zwi σ 2 l4 11 0) ((l2, (l3 + 1))))
def f_X10_year_29 (F : Nat) (rec29 : zMem → Int32 × Int32 → Option (Int32 × zMem)) (σ : zMem) (x : Int32 × Int32) : Option (Int32 × zMem) := if (σ.1 0 0 1) ≤ x.2 then (some (x.1, σ)) else (zg (inb x.2 10) (zb (f_X10_worthNow F σ x.2.toNatClampNeg 4) fun r49 m49 => zg (inb 1 4) (if (lg_cmp (((((r49 * (m49.1 3 x.2.toNatClampNeg 1)) - (m49.1 2 x.2.toNatClampNeg 11))).toInt64)) 0) ≤ 0 then (f_X10_year_95 F rec29 m49 x.1 x.2 x.2.toNatClampNeg) else (zb (f_X10_worthNow F m49 x.2.toNatClampNeg 5) fun r85 m85 => zb (f_X2_oweMore F m85 x.2.toNatClampNeg ((((((r49 * (m49.1 3 x.2.toNatClampNeg 1)) - (m49.1 2 x.2.toNatClampNeg 11))).toInt64) * (r85.toInt64)))) fun r90 m90 => f_X10_year_95 F rec29 m90 ((x.1 + r90)) x.2 x.2.toNatClampNeg))))
set_option maxHeartbeats 4000000 in
set_option maxRecDepth 100000 in
theorem c_X10_year_29 (F : Nat) {E : zEn} {h : Nat} {Z : zLay} (C : zCx E cX10_year RX10 7 (some .int) Z h) (hh : 5 ≤ h) : ∀ (n : Nat) (σ : zMem) (x : Int32 × Int32), zKO E 7 Z (zMQ E Z (zQI Z)) 29 [(0, .ref (zad Z 0 0)), (2, .int x.1), (3, .int x.2)] [] σ (zit (f_X10_year_29 F) n σ x) := by
  refine zr_loop (LL := fun (x : Int32 × Int32) => [(0, .ref (zad Z 0 0)), (2, .int x.1), (3, .int x.2)]) (ST := fun (x : Int32 × Int32) => []) (fun rec29 hrec29 σ x => ?_)
  obtain ⟨l2, l3⟩ := x
  show zKO E 7 Z (zMQ E Z (zQI Z)) 29 [(0, .ref (zad Z 0 0)), (2, .int l2), (3, .int l3)] [] σ (if (σ.1 0 0 1) ≤ l3 then (some (l2, σ)) else (zg (inb l3 10) (zb (f_X10_worthNow F σ l3.toNatClampNeg 4) fun r49 m49 => zg (inb 1 4) (if (lg_cmp (((((r49 * (m49.1 3 l3.toNatClampNeg 1)) - (m49.1 2 l3.toNatClampNeg 11))).toInt64)) 0) ≤ 0 then (f_X10_year_95 F rec29 m49 l2 l3 l3.toNatClampNeg) else (zb (f_X10_worthNow F m49 l3.toNatClampNeg 5) fun r85 m85 => zb (f_X2_oweMore F m85 l3.toNatClampNeg ((((((r49 * (m49.1 3 l3.toNatClampNeg 1)) - (m49.1 2 l3.toNatClampNeg 11))).toInt64) * (r85.toInt64)))) fun r90 m90 => f_X10_year_95 F rec29 m90 ((l2 + r90)) l3 l3.toNatClampNeg)))))
  refine zr_iload_n C dX10_year_29 rfl ?_
  refine zr_aload_n C dX10_year_30 rfl ?_
  refine zf_X10_85 C (Nat.le_of_ble_eq_true rfl) dX10_year_31 ?_
  refine zr_icmp_ge (tgt := 107) C dX10_year_34 (by decide) ?_ ?_
  · refine zr_iload_n C dX10_year_107 rfl ?_
    exact zr_iret C dX10_year_108
  · refine zr_aload_n C dX10_year_37 rfl ?_
    refine zf_X10_11 C (Nat.le_of_ble_eq_true rfl) dX10_year_38 ?_
    refine zr_iload_n C dX10_year_41 rfl ?_
    refine zr_aald (n := 10) (k1 := 2) C dX10_year_42 (Nat.le_of_ble_eq_true rfl) rfl rfl rfl (fun hb42 => ?_)
    refine zr_astore (i := 4) (L1 := [(4, .ref _), (0, .ref _), (2, .int _), (3, .int _)]) C dX10_year_43 (by decide) rfl ?_
    refine zr_aload_n C dX10_year_45 rfl ?_
    refine zr_aload C dX10_year_46 rfl ?_
    refine zr_iconst (v := 4) C dX10_year_48 rfl ?_
    refine zk_X10_287 C F (Nat.le_of_ble_eq_true rfl) (Nat.le_trans (by decide) hh) (by simp [Value.category]) dX10_year_49 (fun r49 m49 => ?_)
    refine zr_aload C dX10_year_52 rfl ?_
    refine zf_X10_88 C hb42 dX10_year_54 ?_
    refine zr_iconst (v := 1) C dX10_year_57 rfl ?_
    refine zr_iald (n := 4) C dX10_year_58 hb42 rfl ?_
    refine zr_imul C dX10_year_59 ?_
    refine zr_aload C dX10_year_60 rfl ?_
    refine zf_X10_123 C hb42 dX10_year_62 ?_
    refine zr_isub C dX10_year_65 ?_
    refine zr_i2l C dX10_year_66 ?_
    refine zr_lstore (i := 5) (L1 := [(5, .long _), (4, .ref _), (0, .ref _), (2, .int _), (3, .int _)]) C dX10_year_67 (by decide) rfl ?_
    refine zr_lload C dX10_year_69 rfl ?_
    refine zr_lconst (v := 0) C dX10_year_71 rfl ?_
    refine zr_lcmp C dX10_year_72 ?_
    refine zr_if_le (tgt := 95) C dX10_year_73 (by decide) ?_ ?_
    · exact zr_sub [2, 3, 4, 1] rfl (c_X10_year_95 F rec29 C hh hrec29 m49 l2 l3 l3.toNatClampNeg)
    · refine zr_iload_n C dX10_year_76 rfl ?_
      refine zr_aload C dX10_year_77 rfl ?_
      refine zr_lload C dX10_year_79 rfl ?_
      refine zr_aload_n C dX10_year_81 rfl ?_
      refine zr_aload C dX10_year_82 rfl ?_
      refine zr_iconst (v := 5) C dX10_year_84 rfl ?_
      refine zk_X10_287 C F (Nat.le_of_ble_eq_true rfl) (Nat.le_trans (by decide) hh) (by simp [Value.category]) dX10_year_85 (fun r85 m85 => ?_)
      refine zr_i2l C dX10_year_88 ?_
      refine zr_lmul C dX10_year_89 ?_
      refine zk_X10_304 C F hb42 (Nat.le_trans (by decide) hh) (by simp [Value.category]) dX10_year_90 (fun r90 m90 => ?_)
      refine zr_iadd C dX10_year_93 ?_
      refine zr_istore_n (i := 2) (L1 := [(2, .int _), (5, .long _), (4, .ref _), (0, .ref _), (3, .int _)]) C dX10_year_94 rfl (by decide) rfl ?_
      exact zr_sub [3, 0, 4, 2] rfl (c_X10_year_95 F rec29 C hh hrec29 m90 ((l2 + r90)) l3 l3.toNatClampNeg)
def f_X10_year (F : Nat) (σ : zMem) : Option (Int32 × zMem) := zg (zni 360) (if ((σ.1 0 0 11) / 360) = (σ.1 0 0 13) then (some ((-3), σ)) else (zit (f_X10_year_29 F) F (zwi σ 0 0 13 (((σ.1 0 0 11) / 360))) ((0, 0))))
set_option maxHeartbeats 4000000 in
set_option maxRecDepth 100000 in
theorem c_X10_year (l : Launch) (Z : zLay) (F : Nat) (σ : zMem) (r : Int32) (σ1 : zMem) (ho : f_X10_year F σ = some (r, σ1)) : zMet l yX10_year cX10_year 7 (some .int) 5 Z [.ref (zad Z 0 0)] σ (zQI Z r σ1) := by
  refine zMet_of (Qc := zQI Z) (by decide) (Nat.le_of_ble_eq_true rfl) [(0, .ref (zad Z 0 0))] rfl (fun E C => ?_) ho
  have hh : 5 ≤ 5 := Nat.le_refl _
  show zKO E 7 Z (zMQ E Z (zQI Z)) 0 [(0, .ref (zad Z 0 0))] [] σ _
  unfold f_X10_year
  refine zr_aload_n C dX10_year_0 rfl ?_
  refine zf_X10_142 C (Nat.le_of_ble_eq_true rfl) dX10_year_1 ?_
  refine zr_sipush (v := 360) C dX10_year_4 rfl ?_
  refine zr_idiv C dX10_year_7 ?_
  refine zr_istore_n (i := 1) (L1 := [(1, .int _), (0, .ref _)]) C dX10_year_8 rfl (by decide) rfl ?_
  refine zr_iload_n C dX10_year_9 rfl ?_
  refine zr_aload_n C dX10_year_10 rfl ?_
  refine zf_X10_68 C (Nat.le_of_ble_eq_true rfl) dX10_year_11 ?_
  refine zr_icmp_ne (tgt := 20) C dX10_year_14 (by decide) ?_ ?_
  · refine zr_aload_n C dX10_year_20 rfl ?_
    refine zr_iload_n C dX10_year_21 rfl ?_
    refine zp_X10_68 C (Nat.le_of_ble_eq_true rfl) dX10_year_22 ?_
    refine zr_iconst (v := 0) C dX10_year_25 rfl ?_
    refine zr_istore_n (i := 2) (L1 := [(2, .int _), (1, .int _), (0, .ref _)]) C dX10_year_26 rfl (by decide) rfl ?_
    refine zr_iconst (v := 0) C dX10_year_27 rfl ?_
    refine zr_istore_n (i := 3) (L1 := [(3, .int _), (2, .int _), (1, .int _), (0, .ref _)]) C dX10_year_28 rfl (by decide) rfl ?_
    exact zr_sub [3, 1, 0] rfl (c_X10_year_29 F C hh F (zwi σ 0 0 13 (((σ.1 0 0 11) / 360))) ((0, 0)))
  · refine zr_bipush (v := -3) C dX10_year_17 rfl ?_
    exact zr_iret C dX10_year_19
def f_X10_listMembers_4 (F : Nat) (rec4 : zMem → Int32 × Int32 × Int32 → Option (Int32 × zMem)) (σ : zMem) (x : Int32 × Int32 × Int32) : Option (Int32 × zMem) := if (σ.1 0 0 1) ≤ x.2.2 then (some (x.2.1, σ)) else (if 5 ≤ x.2.1 then (some (x.2.1, σ)) else (if ((x.1 >>> (x.2.2 &&& 31)) &&& 1) = 1 then (zg (inb x.2.2 10) (zg (inb 2 4) (zg (inb x.2.1 5) (rec4 (zwi σ 32 0 x.2.1.toNatClampNeg ((σ.1 3 x.2.2.toNatClampNeg 2))) ((x.1, (x.2.1 + 1), (x.2.2 + 1))))))) else (rec4 σ ((x.1, x.2.1, (x.2.2 + 1))))))
set_option maxHeartbeats 4000000 in
set_option maxRecDepth 100000 in
theorem c_X10_listMembers_4 (F : Nat) {E : zEn} {h : Nat} {Z : zLay} (C : zCx E cX10_listMembers RX10 4 (some .int) Z h) (hh : 1 ≤ h) : ∀ (n : Nat) (σ : zMem) (x : Int32 × Int32 × Int32), zKO E 4 Z (zMQ E Z (zQI Z)) 4 [(0, .ref (zad Z 0 0)), (1, .int x.1), (2, .int x.2.1), (3, .int x.2.2)] [] σ (zit (f_X10_listMembers_4 F) n σ x) := by
  refine zr_loop (LL := fun (x : Int32 × Int32 × Int32) => [(0, .ref (zad Z 0 0)), (1, .int x.1), (2, .int x.2.1), (3, .int x.2.2)]) (ST := fun (x : Int32 × Int32 × Int32) => []) (fun rec4 hrec4 σ x => ?_)
  obtain ⟨l1, l2, l3⟩ := x
  show zKO E 4 Z (zMQ E Z (zQI Z)) 4 [(0, .ref (zad Z 0 0)), (1, .int l1), (2, .int l2), (3, .int l3)] [] σ (if (σ.1 0 0 1) ≤ l3 then (some (l2, σ)) else (if 5 ≤ l2 then (some (l2, σ)) else (if ((l1 >>> (l3 &&& 31)) &&& 1) = 1 then (zg (inb l3 10) (zg (inb 2 4) (zg (inb l2 5) (rec4 (zwi σ 32 0 l2.toNatClampNeg ((σ.1 3 l3.toNatClampNeg 2))) ((l1, (l2 + 1), (l3 + 1))))))) else (rec4 σ ((l1, l2, (l3 + 1)))))))
  refine zr_iload_n C dX10_listMembers_4 rfl ?_
  refine zr_aload_n C dX10_listMembers_5 rfl ?_
  refine zf_X10_85 C (Nat.le_of_ble_eq_true rfl) dX10_listMembers_6 ?_
  refine zr_icmp_ge (tgt := 55) C dX10_listMembers_9 (by decide) ?_ ?_
  · refine zr_iload_n C dX10_listMembers_55 rfl ?_
    exact zr_iret C dX10_listMembers_56
  · refine zr_iload_n C dX10_listMembers_12 rfl ?_
    refine zr_iconst (v := 5) C dX10_listMembers_13 rfl ?_
    refine zr_icmp_ge (tgt := 55) C dX10_listMembers_14 (by decide) ?_ ?_
    · refine zr_iload_n C dX10_listMembers_55 rfl ?_
      exact zr_iret C dX10_listMembers_56
    · refine zr_iload_n C dX10_listMembers_17 rfl ?_
      refine zr_iload_n C dX10_listMembers_18 rfl ?_
      refine zr_ishr C dX10_listMembers_19 ?_
      refine zr_iconst (v := 1) C dX10_listMembers_20 rfl ?_
      refine zr_iand C dX10_listMembers_21 ?_
      refine zr_iconst (v := 1) C dX10_listMembers_22 rfl ?_
      refine zr_icmp_ne (tgt := 49) C dX10_listMembers_23 (by decide) ?_ ?_
      · refine zr_iinc (kk := 3) (v := (l3 + 1)) (L1 := [(3, .int _), (0, .ref _), (1, .int _), (2, .int _)]) C dX10_listMembers_49 rfl rfl (by decide) rfl ?_
        refine zr_goto (tgt := 4) C dX10_listMembers_52 (by decide) ?_
        exact zr_sub [1, 2, 3, 0] rfl (hrec4 σ ((l1, l2, (l3 + 1))))
      · refine zr_aload_n C dX10_listMembers_26 rfl ?_
        refine zf_X10_39 C (Nat.le_of_ble_eq_true rfl) dX10_listMembers_27 ?_
        refine zf_X10_424 C (Nat.le_of_ble_eq_true rfl) dX10_listMembers_30 ?_
        refine zr_iload_n C dX10_listMembers_33 rfl ?_
        refine zr_iinc (kk := 2) (v := (l2 + 1)) (L1 := [(2, .int _), (0, .ref _), (1, .int _), (3, .int _)]) C dX10_listMembers_34 rfl rfl (by decide) rfl ?_
        refine zr_aload_n C dX10_listMembers_37 rfl ?_
        refine zf_X10_11 C (Nat.le_of_ble_eq_true rfl) dX10_listMembers_38 ?_
        refine zr_iload_n C dX10_listMembers_41 rfl ?_
        refine zr_aald (n := 10) (k1 := 2) C dX10_listMembers_42 (Nat.le_of_ble_eq_true rfl) rfl rfl rfl (fun hb42 => ?_)
        refine zf_X10_88 C hb42 dX10_listMembers_43 ?_
        refine zr_iconst (v := 2) C dX10_listMembers_46 rfl ?_
        refine zr_iald (n := 4) C dX10_listMembers_47 hb42 rfl ?_
        refine zr_iast (n := 5) C dX10_listMembers_48 (Nat.le_of_ble_eq_true rfl) (fun _ _ => rfl) ?_
        refine zr_iinc (kk := 3) (v := (l3 + 1)) (L1 := [(3, .int _), (2, .int _), (0, .ref _), (1, .int _)]) C dX10_listMembers_49 rfl rfl (by decide) rfl ?_
        refine zr_goto (tgt := 4) C dX10_listMembers_52 (by decide) ?_
        exact zr_sub [2, 3, 1, 0] rfl (hrec4 (zwi σ 32 0 l2.toNatClampNeg ((σ.1 3 l3.toNatClampNeg 2))) ((l1, (l2 + 1), (l3 + 1))))
def f_X10_listMembers (F : Nat) (σ : zMem) (a1 : Int32) : Option (Int32 × zMem) := zit (f_X10_listMembers_4 F) F σ ((a1, 0, 0))
set_option maxHeartbeats 4000000 in
set_option maxRecDepth 100000 in
theorem c_X10_listMembers (l : Launch) (Z : zLay) (F : Nat) (σ : zMem) (a1 : Int32) (r : Int32) (σ1 : zMem) (ho : f_X10_listMembers F σ a1 = some (r, σ1)) : zMet l yX10_listMembers cX10_listMembers 4 (some .int) 1 Z [.ref (zad Z 0 0), .int (a1)] σ (zQI Z r σ1) := by
  refine zMet_of (Qc := zQI Z) (by decide) (Nat.le_of_ble_eq_true rfl) [(0, .ref (zad Z 0 0)), (1, .int (a1))] rfl (fun E C => ?_) ho
  have hh : 1 ≤ 1 := Nat.le_refl _
  show zKO E 4 Z (zMQ E Z (zQI Z)) 0 [(0, .ref (zad Z 0 0)), (1, .int (a1))] [] σ _
  unfold f_X10_listMembers
  refine zr_iconst (v := 0) C dX10_listMembers_0 rfl ?_
  refine zr_istore_n (i := 2) (L1 := [(2, .int _), (0, .ref _), (1, .int _)]) C dX10_listMembers_1 rfl (by decide) rfl ?_
  refine zr_iconst (v := 0) C dX10_listMembers_2 rfl ?_
  refine zr_istore_n (i := 3) (L1 := [(3, .int _), (2, .int _), (0, .ref _), (1, .int _)]) C dX10_listMembers_3 rfl (by decide) rfl ?_
  exact zr_sub [2, 3, 1, 0] rfl (c_X10_listMembers_4 F C hh F σ ((a1, 0, 0)))
theorem zk_X10_412 (C : zCx E cc RX10 nL ret Z h) (F : Nat) {b0 : Int32} (hk : 0 < zN 0) (hh : 1 + 1 ≤ h) (hst8 : (st.map fun v => v.category).sum ≤ 8) (hd : decode cc pc = .ok (.invokevirtual 412, 3)) {g : Int32 → zMem → Option (α × zMem)} (kk : ∀ (r : Int32) (σ1 : zMem), zKO E nL Z QQ (pc + 3) L (.int r :: st) σ1 (g r σ1)) : zKO E nL Z QQ pc L (.int b0 :: .ref (zad Z 0 0) :: st) σ (zb (f_X10_listMembers F σ b0) g) :=
  zr_callVI (As := [.int b0]) (ia := 1) C (fun r σ1 ho => c_X10_listMembers (zla E) Z F σ b0 r σ1 ho) wz_975 hk rfl rfl wz_p65 wz_977 wz_978 wz_1 (by decide +kernel) rfl (by decide) hh hd hst8 kk
def f_X10_foreseeHunger_92 (F : Nat) (rec68 : zMem → Int32 × Int32 × Int32 × Int32 → Option (Unit × zMem)) (rec92 : zMem → Int32 × Int32 × Int32 × Int32 × Int32 × Int32 → Option (Unit × zMem)) (σ : zMem) (x : Int32 × Int32 × Int32 × Int32 × Int32 × Int32) : Option (Unit × zMem) := if (1 <<< (x.2.1 &&& 31)) ≤ x.2.2.2.2.2 then (rec68 σ ((x.1, x.2.1, x.2.2.1, (x.2.2.2.1 + 1)))) else (zg (inb x.2.2.2.1 4) (zb (f_X0_cowsOfSome F σ x.2.2.2.2.2 x.2.1) fun r127 m127 => zb (f_X0_hungerWith F m127 x.2.2.2.1 ((x.2.2.2.2.1 + r127)) x.2.2.1) fun r132 m132 => zg (inb x.2.2.2.2.2 32) (rec92 (zwi m132 34 x.2.2.2.1.toNatClampNeg x.2.2.2.2.2.toNatClampNeg r132) ((x.1, x.2.1, x.2.2.1, x.2.2.2.1, x.2.2.2.2.1, (x.2.2.2.2.2 + 1))))))
set_option maxHeartbeats 4000000 in
set_option maxRecDepth 100000 in
theorem c_X10_foreseeHunger_92 (F : Nat) (rec68 : zMem → Int32 × Int32 × Int32 × Int32 → Option (Unit × zMem)) {E : zEn} {h : Nat} {Z : zLay} (C : zCx E cX10_foreseeHunger RX10 7 none Z h) (hh : 3 ≤ h) (hrec68 : ∀ (σ : zMem) (x : Int32 × Int32 × Int32 × Int32), zKO E 7 Z (zMQ E Z (zQV Z)) 68 [(0, .ref (zad Z 0 0)), (1, .int x.1), (2, .int x.2.1), (3, .int x.2.2.1), (4, .int x.2.2.2)] [] σ (rec68 σ x)) : ∀ (n : Nat) (σ : zMem) (x : Int32 × Int32 × Int32 × Int32 × Int32 × Int32), zKO E 7 Z (zMQ E Z (zQV Z)) 92 [(0, .ref (zad Z 0 0)), (1, .int x.1), (2, .int x.2.1), (3, .int x.2.2.1), (4, .int x.2.2.2.1), (5, .int x.2.2.2.2.1), (6, .int x.2.2.2.2.2)] [] σ (zit (f_X10_foreseeHunger_92 F rec68) n σ x) := by
  refine zr_loop (LL := fun (x : Int32 × Int32 × Int32 × Int32 × Int32 × Int32) => [(0, .ref (zad Z 0 0)), (1, .int x.1), (2, .int x.2.1), (3, .int x.2.2.1), (4, .int x.2.2.2.1), (5, .int x.2.2.2.2.1), (6, .int x.2.2.2.2.2)]) (ST := fun (x : Int32 × Int32 × Int32 × Int32 × Int32 × Int32) => []) (fun rec92 hrec92 σ x => ?_)
  obtain ⟨l1, l2, l3, l4, l5, l6⟩ := x
  show zKO E 7 Z (zMQ E Z (zQV Z)) 92 [(0, .ref (zad Z 0 0)), (1, .int l1), (2, .int l2), (3, .int l3), (4, .int l4), (5, .int l5), (6, .int l6)] [] σ (if (1 <<< (l2 &&& 31)) ≤ l6 then (rec68 σ ((l1, l2, l3, (l4 + 1)))) else (zg (inb l4 4) (zb (f_X0_cowsOfSome F σ l6 l2) fun r127 m127 => zb (f_X0_hungerWith F m127 l4 ((l5 + r127)) l3) fun r132 m132 => zg (inb l6 32) (rec92 (zwi m132 34 l4.toNatClampNeg l6.toNatClampNeg r132) ((l1, l2, l3, l4, l5, (l6 + 1)))))))
  refine zr_iload C dX10_foreseeHunger_92 rfl ?_
  refine zr_iconst (v := 1) C dX10_foreseeHunger_94 rfl ?_
  refine zr_iload_n C dX10_foreseeHunger_95 rfl ?_
  refine zr_ishl C dX10_foreseeHunger_96 ?_
  refine zr_icmp_ge (tgt := 142) C dX10_foreseeHunger_97 (by decide) ?_ ?_
  · refine zr_iinc (kk := 4) (v := (l4 + 1)) (L1 := [(4, .int _), (0, .ref _), (1, .int _), (2, .int _), (3, .int _), (5, .int _), (6, .int _)]) C dX10_foreseeHunger_142 rfl rfl (by decide) rfl ?_
    refine zr_goto (tgt := 68) C dX10_foreseeHunger_145 (by decide) ?_
    exact zr_sub [1, 2, 3, 4, 0] rfl (hrec68 σ ((l1, l2, l3, (l4 + 1))))
  · refine zr_aload_n C dX10_foreseeHunger_100 rfl ?_
    refine zf_X10_39 C (Nat.le_of_ble_eq_true rfl) dX10_foreseeHunger_101 ?_
    refine zf_X10_433 C (Nat.le_of_ble_eq_true rfl) dX10_foreseeHunger_104 ?_
    refine zr_iload C dX10_foreseeHunger_107 rfl ?_
    refine zr_aald (n := 4) (k1 := 34) C dX10_foreseeHunger_109 (Nat.le_of_ble_eq_true rfl) rfl rfl rfl (fun hb109 => ?_)
    refine zr_iload C dX10_foreseeHunger_110 rfl ?_
    refine zr_aload_n C dX10_foreseeHunger_112 rfl ?_
    refine zf_X10_39 C (Nat.le_of_ble_eq_true rfl) dX10_foreseeHunger_113 ?_
    refine zr_iload C dX10_foreseeHunger_116 rfl ?_
    refine zr_iload C dX10_foreseeHunger_118 rfl ?_
    refine zr_aload_n C dX10_foreseeHunger_120 rfl ?_
    refine zf_X10_39 C (Nat.le_of_ble_eq_true rfl) dX10_foreseeHunger_121 ?_
    refine zr_iload C dX10_foreseeHunger_124 rfl ?_
    refine zr_iload_n C dX10_foreseeHunger_126 rfl ?_
    refine zk_X10_436 C F (Nat.le_of_ble_eq_true rfl) (Nat.le_trans (by decide) hh) (by simp [Value.category]) dX10_foreseeHunger_127 (fun r127 m127 => ?_)
    refine zr_iadd C dX10_foreseeHunger_130 ?_
    refine zr_iload_n C dX10_foreseeHunger_131 rfl ?_
    refine zk_X10_439 C F (Nat.le_of_ble_eq_true rfl) (Nat.le_trans (by decide) hh) (by simp [Value.category]) dX10_foreseeHunger_132 (fun r132 m132 => ?_)
    refine zr_iast (n := 32) C dX10_foreseeHunger_135 hb109 (fun _ _ => rfl) ?_
    refine zr_iinc (kk := 6) (v := (l6 + 1)) (L1 := [(6, .int _), (0, .ref _), (1, .int _), (2, .int _), (3, .int _), (4, .int _), (5, .int _)]) C dX10_foreseeHunger_136 rfl rfl (by decide) rfl ?_
    refine zr_goto (tgt := 92) C dX10_foreseeHunger_139 (by decide) ?_
    exact zr_sub [1, 2, 3, 4, 5, 6, 0] rfl (hrec92 (zwi m132 34 l4.toNatClampNeg l6.toNatClampNeg r132) ((l1, l2, l3, l4, l5, (l6 + 1))))
def f_X10_foreseeHunger_68 (F : Nat) (rec68 : zMem → Int32 × Int32 × Int32 × Int32 → Option (Unit × zMem)) (σ : zMem) (x : Int32 × Int32 × Int32 × Int32) : Option (Unit × zMem) := if (σ.1 25 0 4) ≤ x.2.2.2 then (some ((), σ)) else (zb (f_X10_cowsUpOn F σ x.2.2.2 x.1) fun r84 m84 => zit (f_X10_foreseeHunger_92 F rec68) F m84 ((x.1, x.2.1, x.2.2.1, x.2.2.2, r84, 0)))
set_option maxHeartbeats 4000000 in
set_option maxRecDepth 100000 in
theorem c_X10_foreseeHunger_68 (F : Nat) {E : zEn} {h : Nat} {Z : zLay} (C : zCx E cX10_foreseeHunger RX10 7 none Z h) (hh : 3 ≤ h) : ∀ (n : Nat) (σ : zMem) (x : Int32 × Int32 × Int32 × Int32), zKO E 7 Z (zMQ E Z (zQV Z)) 68 [(0, .ref (zad Z 0 0)), (1, .int x.1), (2, .int x.2.1), (3, .int x.2.2.1), (4, .int x.2.2.2)] [] σ (zit (f_X10_foreseeHunger_68 F) n σ x) := by
  refine zr_loop (LL := fun (x : Int32 × Int32 × Int32 × Int32) => [(0, .ref (zad Z 0 0)), (1, .int x.1), (2, .int x.2.1), (3, .int x.2.2.1), (4, .int x.2.2.2)]) (ST := fun (x : Int32 × Int32 × Int32 × Int32) => []) (fun rec68 hrec68 σ x => ?_)
  obtain ⟨l1, l2, l3, l4⟩ := x
  show zKO E 7 Z (zMQ E Z (zQV Z)) 68 [(0, .ref (zad Z 0 0)), (1, .int l1), (2, .int l2), (3, .int l3), (4, .int l4)] [] σ (if (σ.1 25 0 4) ≤ l4 then (some ((), σ)) else (zb (f_X10_cowsUpOn F σ l4 l1) fun r84 m84 => zit (f_X10_foreseeHunger_92 F rec68) F m84 ((l1, l2, l3, l4, r84, 0))))
  refine zr_iload C dX10_foreseeHunger_68 rfl ?_
  refine zr_aload_n C dX10_foreseeHunger_70 rfl ?_
  refine zf_X10_39 C (Nat.le_of_ble_eq_true rfl) dX10_foreseeHunger_71 ?_
  refine zf_X10_255 C (Nat.le_of_ble_eq_true rfl) dX10_foreseeHunger_74 ?_
  refine zr_icmp_ge (tgt := 148) C dX10_foreseeHunger_77 (by decide) ?_ ?_
  · exact zr_vret C dX10_foreseeHunger_148
  · refine zr_aload_n C dX10_foreseeHunger_80 rfl ?_
    refine zr_iload C dX10_foreseeHunger_81 rfl ?_
    refine zr_iload_n C dX10_foreseeHunger_83 rfl ?_
    refine zk_X10_271 C F (Nat.le_of_ble_eq_true rfl) (Nat.le_trans (by decide) hh) (by simp [Value.category]) dX10_foreseeHunger_84 (fun r84 m84 => ?_)
    refine zr_istore (i := 5) (L1 := [(5, .int _), (0, .ref _), (1, .int _), (2, .int _), (3, .int _), (4, .int _)]) C dX10_foreseeHunger_87 (by decide) rfl ?_
    refine zr_iconst (v := 0) C dX10_foreseeHunger_89 rfl ?_
    refine zr_istore (i := 6) (L1 := [(6, .int _), (5, .int _), (0, .ref _), (1, .int _), (2, .int _), (3, .int _), (4, .int _)]) C dX10_foreseeHunger_90 (by decide) rfl ?_
    exact zr_sub [2, 3, 4, 5, 6, 1, 0] rfl (c_X10_foreseeHunger_92 F rec68 C hh hrec68 F m84 ((l1, l2, l3, l4, r84, 0)))
def f_X10_foreseeHunger_3 (F : Nat) (rec3 : zMem → Int32 × Int32 × Int32 × Int32 → Option (Unit × zMem)) (σ : zMem) (x : Int32 × Int32 × Int32 × Int32) : Option (Unit × zMem) := if x.2.2.1 ≤ x.2.2.2 then (zit (f_X10_foreseeHunger_68 F) F σ ((x.1, x.2.1, x.2.2.1, 0))) else (zb (f_X5_on F σ (((σ.1 0 0 11) + x.2.2.2)) 0) fun r30 m30 => zg (inb x.2.2.2 30) (zb (f_X5_on F (zwi m30 30 0 x.2.2.2.toNatClampNeg r30) ((((zwi m30 30 0 x.2.2.2.toNatClampNeg r30).1 0 0 11) + x.2.2.2)) 1) fun r55 m55 => zg (inb x.2.2.2 30) (rec3 (zwi m55 31 0 x.2.2.2.toNatClampNeg r55) ((x.1, x.2.1, x.2.2.1, (x.2.2.2 + 1))))))
set_option maxHeartbeats 4000000 in
set_option maxRecDepth 100000 in
theorem c_X10_foreseeHunger_3 (F : Nat) {E : zEn} {h : Nat} {Z : zLay} (C : zCx E cX10_foreseeHunger RX10 7 none Z h) (hh : 3 ≤ h) : ∀ (n : Nat) (σ : zMem) (x : Int32 × Int32 × Int32 × Int32), zKO E 7 Z (zMQ E Z (zQV Z)) 3 [(0, .ref (zad Z 0 0)), (1, .int x.1), (2, .int x.2.1), (3, .int x.2.2.1), (4, .int x.2.2.2)] [] σ (zit (f_X10_foreseeHunger_3 F) n σ x) := by
  refine zr_loop (LL := fun (x : Int32 × Int32 × Int32 × Int32) => [(0, .ref (zad Z 0 0)), (1, .int x.1), (2, .int x.2.1), (3, .int x.2.2.1), (4, .int x.2.2.2)]) (ST := fun (x : Int32 × Int32 × Int32 × Int32) => []) (fun rec3 hrec3 σ x => ?_)
  obtain ⟨l1, l2, l3, l4⟩ := x
  show zKO E 7 Z (zMQ E Z (zQV Z)) 3 [(0, .ref (zad Z 0 0)), (1, .int l1), (2, .int l2), (3, .int l3), (4, .int l4)] [] σ (if l3 ≤ l4 then (zit (f_X10_foreseeHunger_68 F) F σ ((l1, l2, l3, 0))) else (zb (f_X5_on F σ (((σ.1 0 0 11) + l4)) 0) fun r30 m30 => zg (inb l4 30) (zb (f_X5_on F (zwi m30 30 0 l4.toNatClampNeg r30) ((((zwi m30 30 0 l4.toNatClampNeg r30).1 0 0 11) + l4)) 1) fun r55 m55 => zg (inb l4 30) (rec3 (zwi m55 31 0 l4.toNatClampNeg r55) ((l1, l2, l3, (l4 + 1)))))))
  refine zr_iload C dX10_foreseeHunger_3 rfl ?_
  refine zr_iload_n C dX10_foreseeHunger_5 rfl ?_
  refine zr_icmp_ge (tgt := 65) C dX10_foreseeHunger_6 (by decide) ?_ ?_
  · refine zr_iconst (v := 0) C dX10_foreseeHunger_65 rfl ?_
    refine zr_istore (i := 4) (L1 := [(4, .int _), (0, .ref _), (1, .int _), (2, .int _), (3, .int _)]) C dX10_foreseeHunger_66 (by decide) rfl ?_
    exact zr_sub [1, 2, 3, 4, 0] rfl (c_X10_foreseeHunger_68 F C hh F σ ((l1, l2, l3, 0)))
  · refine zr_aload_n C dX10_foreseeHunger_9 rfl ?_
    refine zf_X10_39 C (Nat.le_of_ble_eq_true rfl) dX10_foreseeHunger_10 ?_
    refine zf_X10_427 C (Nat.le_of_ble_eq_true rfl) dX10_foreseeHunger_13 ?_
    refine zr_iload C dX10_foreseeHunger_16 rfl ?_
    refine zr_aload_n C dX10_foreseeHunger_18 rfl ?_
    refine zf_X10_32 C (Nat.le_of_ble_eq_true rfl) dX10_foreseeHunger_19 ?_
    refine zr_aload_n C dX10_foreseeHunger_22 rfl ?_
    refine zf_X10_142 C (Nat.le_of_ble_eq_true rfl) dX10_foreseeHunger_23 ?_
    refine zr_iload C dX10_foreseeHunger_26 rfl ?_
    refine zr_iadd C dX10_foreseeHunger_28 ?_
    refine zr_iconst (v := 0) C dX10_foreseeHunger_29 rfl ?_
    refine zk_X10_252 C F (Nat.le_of_ble_eq_true rfl) (Nat.le_trans (by decide) hh) (by simp [Value.category]) dX10_foreseeHunger_30 (fun r30 m30 => ?_)
    refine zr_iast (n := 30) C dX10_foreseeHunger_33 (Nat.le_of_ble_eq_true rfl) (fun _ _ => rfl) ?_
    refine zr_aload_n C dX10_foreseeHunger_34 rfl ?_
    refine zf_X10_39 C (Nat.le_of_ble_eq_true rfl) dX10_foreseeHunger_35 ?_
    refine zf_X10_430 C (Nat.le_of_ble_eq_true rfl) dX10_foreseeHunger_38 ?_
    refine zr_iload C dX10_foreseeHunger_41 rfl ?_
    refine zr_aload_n C dX10_foreseeHunger_43 rfl ?_
    refine zf_X10_32 C (Nat.le_of_ble_eq_true rfl) dX10_foreseeHunger_44 ?_
    refine zr_aload_n C dX10_foreseeHunger_47 rfl ?_
    refine zf_X10_142 C (Nat.le_of_ble_eq_true rfl) dX10_foreseeHunger_48 ?_
    refine zr_iload C dX10_foreseeHunger_51 rfl ?_
    refine zr_iadd C dX10_foreseeHunger_53 ?_
    refine zr_iconst (v := 1) C dX10_foreseeHunger_54 rfl ?_
    refine zk_X10_252 C F (Nat.le_of_ble_eq_true rfl) (Nat.le_trans (by decide) hh) (by simp [Value.category]) dX10_foreseeHunger_55 (fun r55 m55 => ?_)
    refine zr_iast (n := 30) C dX10_foreseeHunger_58 (Nat.le_of_ble_eq_true rfl) (fun _ _ => rfl) ?_
    refine zr_iinc (kk := 4) (v := (l4 + 1)) (L1 := [(4, .int _), (0, .ref _), (1, .int _), (2, .int _), (3, .int _)]) C dX10_foreseeHunger_59 rfl rfl (by decide) rfl ?_
    refine zr_goto (tgt := 3) C dX10_foreseeHunger_62 (by decide) ?_
    exact zr_sub [1, 2, 3, 4, 0] rfl (hrec3 (zwi m55 31 0 l4.toNatClampNeg r55) ((l1, l2, l3, (l4 + 1))))
def f_X10_foreseeHunger (F : Nat) (σ : zMem) (a1 : Int32) (a2 : Int32) (a3 : Int32) : Option (Unit × zMem) := zit (f_X10_foreseeHunger_3 F) F σ ((a1, a2, a3, 0))
set_option maxHeartbeats 4000000 in
set_option maxRecDepth 100000 in
theorem c_X10_foreseeHunger (l : Launch) (Z : zLay) (F : Nat) (σ : zMem) (a1 : Int32) (a2 : Int32) (a3 : Int32) (r : Unit) (σ1 : zMem) (ho : f_X10_foreseeHunger F σ a1 a2 a3 = some (r, σ1)) : zMet l yX10_foreseeHunger cX10_foreseeHunger 7 none 3 Z [.ref (zad Z 0 0), .int (a1), .int (a2), .int (a3)] σ (zQV Z r σ1) := by
  refine zMet_of (Qc := zQV Z) (by decide) (Nat.le_of_ble_eq_true rfl) [(0, .ref (zad Z 0 0)), (1, .int (a1)), (2, .int (a2)), (3, .int (a3))] rfl (fun E C => ?_) ho
  have hh : 3 ≤ 3 := Nat.le_refl _
  show zKO E 7 Z (zMQ E Z (zQV Z)) 0 [(0, .ref (zad Z 0 0)), (1, .int (a1)), (2, .int (a2)), (3, .int (a3))] [] σ _
  unfold f_X10_foreseeHunger
  refine zr_iconst (v := 0) C dX10_foreseeHunger_0 rfl ?_
  refine zr_istore (i := 4) (L1 := [(4, .int _), (0, .ref _), (1, .int _), (2, .int _), (3, .int _)]) C dX10_foreseeHunger_1 (by decide) rfl ?_
  exact zr_sub [1, 2, 3, 4, 0] rfl (c_X10_foreseeHunger_3 F C hh F σ ((a1, a2, a3, 0)))
theorem zk_X10_415 (C : zCx E cc RX10 nL ret Z h) (F : Nat) {b0 : Int32} {b1 : Int32} {b2 : Int32} (hk : 0 < zN 0) (hh : 3 + 1 ≤ h) (hst8 : (st.map fun v => v.category).sum ≤ 8) (hd : decode cc pc = .ok (.invokevirtual 415, 3)) {g : Unit → zMem → Option (α × zMem)} (kk : ∀ (r : Unit) (σ1 : zMem), zKO E nL Z QQ (pc + 3) L (st) σ1 (g r σ1)) : zKO E nL Z QQ pc L (.int b2 :: .int b1 :: .int b0 :: .ref (zad Z 0 0) :: st) σ (zb (f_X10_foreseeHunger F σ b0 b1 b2) g) :=
  zr_callVU (As := [.int b0, .int b1, .int b2]) (ia := 3) C (fun r σ1 ho => c_X10_foreseeHunger (zla E) Z F σ b0 b1 b2 r σ1 ho) wz_979 hk rfl rfl wz_p66 wz_981 wz_982 wz_1 (by decide +kernel) rfl (by decide) hh hd hst8 kk
def f_X10_plan (F : Nat) (σ : zMem) (a1 : Int32) (a2 : Int32) (a3 : Int32) : Option (Int32 × zMem) := zb (f_X10_areHouses F σ a1) fun r2 m2 => if r2 = 0 then (some ((-1), m2)) else (if a1 = 0 then (some ((-1), m2)) else (if (m2.1 25 0 4) = 0 then (some ((-1), m2)) else (zb (f_J6_bitCount_0f7a4 F m2 a1) fun r25 m25 => if a3 < 0 then (some ((-1), m25)) else (if a3 ≤ r25 then (if a2 < 1 then (some ((-2), m25)) else (if 30 < a2 then (some ((-2), m25)) else (if 5 < r25 then (some ((-2), m25)) else (if a2 ≤ (7200 - (m25.1 0 0 11)) then (zb (f_X10_listMembers F m25 a1) fun r76 m76 => zb (f_X10_foreseeHunger F m76 a1 r76 a2) fun r86 m86 => zb (f_X0_bestPlan F m86 r76) fun r95 m95 => if a3 = 0 then (some (r95, m95)) else (zg (inb ((a3 - 1)) 5) (some ((m95.1 37 0 ((a3 - 1)).toNatClampNeg), m95)))) else (some ((-2), m25)))))) else (some ((-1), m25))))))
set_option maxHeartbeats 4000000 in
set_option maxRecDepth 100000 in
theorem c_X10_plan (l : Launch) (Z : zLay) (F : Nat) (σ : zMem) (a1 : Int32) (a2 : Int32) (a3 : Int32) (r : Int32) (σ1 : zMem) (ho : f_X10_plan F σ a1 a2 a3 = some (r, σ1)) : zMet l yX10_plan cX10_plan 7 (some .int) 4 Z [.ref (zad Z 0 0), .int (a1), .int (a2), .int (a3)] σ (zQI Z r σ1) := by
  refine zMet_of (Qc := zQI Z) (by decide) (Nat.le_of_ble_eq_true rfl) [(0, .ref (zad Z 0 0)), (1, .int (a1)), (2, .int (a2)), (3, .int (a3))] rfl (fun E C => ?_) ho
  have hh : 4 ≤ 4 := Nat.le_refl _
  show zKO E 7 Z (zMQ E Z (zQI Z)) 0 [(0, .ref (zad Z 0 0)), (1, .int (a1)), (2, .int (a2)), (3, .int (a3))] [] σ _
  unfold f_X10_plan
  refine zr_aload_n C dX10_plan_0 rfl ?_
  refine zr_iload_n C dX10_plan_1 rfl ?_
  refine zk_X10_181 C F (Nat.le_of_ble_eq_true rfl) (Nat.le_trans (by decide) hh) (by simp [Value.category]) dX10_plan_2 (fun r2 m2 => ?_)
  refine zr_if_eq (tgt := 22) C dX10_plan_5 (by decide) ?_ ?_
  · refine zr_iconst (v := -1) C dX10_plan_22 rfl ?_
    exact zr_iret C dX10_plan_23
  · refine zr_iload_n C dX10_plan_8 rfl ?_
    refine zr_if_eq (tgt := 22) C dX10_plan_9 (by decide) ?_ ?_
    · refine zr_iconst (v := -1) C dX10_plan_22 rfl ?_
      exact zr_iret C dX10_plan_23
    · refine zr_aload_n C dX10_plan_12 rfl ?_
      refine zf_X10_39 C (Nat.le_of_ble_eq_true rfl) dX10_plan_13 ?_
      refine zf_X10_255 C (Nat.le_of_ble_eq_true rfl) dX10_plan_16 ?_
      refine zr_if_ne (tgt := 24) C dX10_plan_19 (by decide) ?_ ?_
      · refine zr_iload_n C dX10_plan_24 rfl ?_
        refine zk_X10_193 C F (Nat.le_trans (by decide) hh) (by simp [Value.category]) dX10_plan_25 (fun r25 m25 => ?_)
        refine zr_istore (i := 4) (L1 := [(4, .int _), (0, .ref _), (1, .int _), (2, .int _), (3, .int _)]) C dX10_plan_28 (by decide) rfl ?_
        refine zr_iload_n C dX10_plan_30 rfl ?_
        refine zr_if_lt (tgt := 40) C dX10_plan_31 (by decide) ?_ ?_
        · refine zr_iconst (v := -1) C dX10_plan_40 rfl ?_
          exact zr_iret C dX10_plan_41
        · refine zr_iload_n C dX10_plan_34 rfl ?_
          refine zr_iload C dX10_plan_35 rfl ?_
          refine zr_icmp_le (tgt := 42) C dX10_plan_37 (by decide) ?_ ?_
          · refine zr_iload_n C dX10_plan_42 rfl ?_
            refine zr_iconst (v := 1) C dX10_plan_43 rfl ?_
            refine zr_icmp_lt (tgt := 71) C dX10_plan_44 (by decide) ?_ ?_
            · refine zr_bipush (v := -2) C dX10_plan_71 rfl ?_
              exact zr_iret C dX10_plan_73
            · refine zr_iload_n C dX10_plan_47 rfl ?_
              refine zr_bipush (v := 30) C dX10_plan_48 rfl ?_
              refine zr_icmp_gt (tgt := 71) C dX10_plan_50 (by decide) ?_ ?_
              · refine zr_bipush (v := -2) C dX10_plan_71 rfl ?_
                exact zr_iret C dX10_plan_73
              · refine zr_iload C dX10_plan_53 rfl ?_
                refine zr_iconst (v := 5) C dX10_plan_55 rfl ?_
                refine zr_icmp_gt (tgt := 71) C dX10_plan_56 (by decide) ?_ ?_
                · refine zr_bipush (v := -2) C dX10_plan_71 rfl ?_
                  exact zr_iret C dX10_plan_73
                · refine zr_iload_n C dX10_plan_59 rfl ?_
                  refine zr_sipush (v := 7200) C dX10_plan_60 rfl ?_
                  refine zr_aload_n C dX10_plan_63 rfl ?_
                  refine zf_X10_142 C (Nat.le_of_ble_eq_true rfl) dX10_plan_64 ?_
                  refine zr_isub C dX10_plan_67 ?_
                  refine zr_icmp_le (tgt := 74) C dX10_plan_68 (by decide) ?_ ?_
                  · refine zr_aload_n C dX10_plan_74 rfl ?_
                    refine zr_iload_n C dX10_plan_75 rfl ?_
                    refine zk_X10_412 C F (Nat.le_of_ble_eq_true rfl) (Nat.le_trans (by decide) hh) (by simp [Value.category]) dX10_plan_76 (fun r76 m76 => ?_)
                    refine zr_istore (i := 5) (L1 := [(5, .int _), (4, .int _), (0, .ref _), (1, .int _), (2, .int _), (3, .int _)]) C dX10_plan_79 (by decide) rfl ?_
                    refine zr_aload_n C dX10_plan_81 rfl ?_
                    refine zr_iload_n C dX10_plan_82 rfl ?_
                    refine zr_iload C dX10_plan_83 rfl ?_
                    refine zr_iload_n C dX10_plan_85 rfl ?_
                    refine zk_X10_415 C F (Nat.le_of_ble_eq_true rfl) (Nat.le_trans (by decide) hh) (by simp [Value.category]) dX10_plan_86 (fun r86 m86 => ?_)
                    refine zr_aload_n C dX10_plan_89 rfl ?_
                    refine zf_X10_39 C (Nat.le_of_ble_eq_true rfl) dX10_plan_90 ?_
                    refine zr_iload C dX10_plan_93 rfl ?_
                    refine zk_X10_418 C F (Nat.le_of_ble_eq_true rfl) (Nat.le_trans (by decide) hh) (by simp [Value.category]) dX10_plan_95 (fun r95 m95 => ?_)
                    refine zr_istore (i := 6) (L1 := [(6, .int _), (5, .int _), (4, .int _), (0, .ref _), (1, .int _), (2, .int _), (3, .int _)]) C dX10_plan_98 (by decide) rfl ?_
                    refine zr_iload_n C dX10_plan_100 rfl ?_
                    refine zr_if_ne (tgt := 109) C dX10_plan_101 (by decide) ?_ ?_
                    · refine zr_aload_n C dX10_plan_109 rfl ?_
                      refine zf_X10_39 C (Nat.le_of_ble_eq_true rfl) dX10_plan_110 ?_
                      refine zf_X10_421 C (Nat.le_of_ble_eq_true rfl) dX10_plan_113 ?_
                      refine zr_iload_n C dX10_plan_116 rfl ?_
                      refine zr_iconst (v := 1) C dX10_plan_117 rfl ?_
                      refine zr_isub C dX10_plan_118 ?_
                      refine zr_iald (n := 5) C dX10_plan_119 (Nat.le_of_ble_eq_true rfl) rfl ?_
                      exact zr_iret C dX10_plan_120
                    · refine zr_iload C dX10_plan_104 rfl ?_
                      refine zr_goto (tgt := 120) C dX10_plan_106 (by decide) ?_
                      exact zr_iret C dX10_plan_120
                  · refine zr_bipush (v := -2) C dX10_plan_71 rfl ?_
                    exact zr_iret C dX10_plan_73
          · refine zr_iconst (v := -1) C dX10_plan_40 rfl ?_
            exact zr_iret C dX10_plan_41
      · refine zr_iconst (v := -1) C dX10_plan_22 rfl ?_
        exact zr_iret C dX10_plan_23
def f_X10_enterBody_19 (F : Nat) (σ : zMem) : Option (Unit × zMem) := some ((), (zwi σ 0 0 17 (((σ.1 0 0 17) + 1))))
set_option maxHeartbeats 4000000 in
set_option maxRecDepth 100000 in
theorem c_X10_enterBody_19 (F : Nat) {E : zEn} {h : Nat} {Z : zLay} (C : zCx E cX10_enterBody RX10 2 none Z h) (hh : 1 ≤ h) (σ : zMem) : zKO E 2 Z (zMQ E Z (zQV Z)) 19 [(0, .ref (zad Z 0 0))] [] σ (f_X10_enterBody_19 F σ) := by
  unfold f_X10_enterBody_19
  refine zr_aload_n C dX10_enterBody_19 rfl ?_
  refine zr_dup C dX10_enterBody_20 rfl ?_
  refine zf_X10_442 C (Nat.le_of_ble_eq_true rfl) dX10_enterBody_21 ?_
  refine zr_iconst (v := 1) C dX10_enterBody_24 rfl ?_
  refine zr_iadd C dX10_enterBody_25 ?_
  refine zp_X10_442 C (Nat.le_of_ble_eq_true rfl) dX10_enterBody_26 ?_
  exact zr_vret C dX10_enterBody_29
def f_X10_enterBody (F : Nat) (σ : zMem) (a1 : Int32) : Option (Unit × zMem) := if 20 ≤ (σ.1 0 0 17) then (f_X10_enterBody_19 F σ) else (zg (inb ((σ.1 0 0 17)) 20) (f_X10_enterBody_19 F (zwi σ 52 0 ((σ.1 0 0 17)).toNatClampNeg a1)))
set_option maxHeartbeats 4000000 in
set_option maxRecDepth 100000 in
theorem c_X10_enterBody (l : Launch) (Z : zLay) (F : Nat) (σ : zMem) (a1 : Int32) (r : Unit) (σ1 : zMem) (ho : f_X10_enterBody F σ a1 = some (r, σ1)) : zMet l yX10_enterBody cX10_enterBody 2 none 1 Z [.ref (zad Z 0 0), .int (a1)] σ (zQV Z r σ1) := by
  refine zMet_of (Qc := zQV Z) (by decide) (Nat.le_of_ble_eq_true rfl) [(0, .ref (zad Z 0 0)), (1, .int (a1))] rfl (fun E C => ?_) ho
  have hh : 1 ≤ 1 := Nat.le_refl _
  show zKO E 2 Z (zMQ E Z (zQV Z)) 0 [(0, .ref (zad Z 0 0)), (1, .int (a1))] [] σ _
  unfold f_X10_enterBody
  refine zr_aload_n C dX10_enterBody_0 rfl ?_
  refine zf_X10_442 C (Nat.le_of_ble_eq_true rfl) dX10_enterBody_1 ?_
  refine zr_bipush (v := 20) C dX10_enterBody_4 rfl ?_
  refine zr_icmp_ge (tgt := 19) C dX10_enterBody_6 (by decide) ?_ ?_
  · exact zr_sub [0] rfl (c_X10_enterBody_19 F C hh σ)
  · refine zr_aload_n C dX10_enterBody_9 rfl ?_
    refine zf_X10_76 C (Nat.le_of_ble_eq_true rfl) dX10_enterBody_10 ?_
    refine zr_aload_n C dX10_enterBody_13 rfl ?_
    refine zf_X10_442 C (Nat.le_of_ble_eq_true rfl) dX10_enterBody_14 ?_
    refine zr_iload_n C dX10_enterBody_17 rfl ?_
    refine zr_iast (n := 20) C dX10_enterBody_18 (Nat.le_of_ble_eq_true rfl) (fun _ _ => rfl) ?_
    exact zr_sub [0] rfl (c_X10_enterBody_19 F C hh (zwi σ 52 0 ((σ.1 0 0 17)).toNatClampNeg a1))
theorem zk_X10_454 (C : zCx E cc RX10 nL ret Z h) (F : Nat) {b0 : Int32} (hk : 0 < zN 0) (hh : 1 + 1 ≤ h) (hst8 : (st.map fun v => v.category).sum ≤ 8) (hd : decode cc pc = .ok (.invokevirtual 454, 3)) {g : Unit → zMem → Option (α × zMem)} (kk : ∀ (r : Unit) (σ1 : zMem), zKO E nL Z QQ (pc + 3) L (st) σ1 (g r σ1)) : zKO E nL Z QQ pc L (.int b0 :: .ref (zad Z 0 0) :: st) σ (zb (f_X10_enterBody F σ b0) g) :=
  zr_callVU (As := [.int b0]) (ia := 1) C (fun r σ1 ho => c_X10_enterBody (zla E) Z F σ b0 r σ1 ho) wz_1019 hk rfl rfl wz_p75 wz_1021 wz_1022 wz_1 (by decide +kernel) rfl (by decide) hh hd hst8 kk
def f_X10_holdsBy_43 (F : Nat) (σ : zMem) (l1 : Int32) (l2 : Int32) (l3 : Int32) : Option (Int32 × zMem) := zb (f_X10_enterBody F σ 10) fun r46 m46 => zg (inb l1 50) (if l3 = 2 then (some (((l2 + (m46.1 8 0 l1.toNatClampNeg)) * 3), m46)) else (if l3 = 4 then (some (((l2 + (m46.1 8 0 l1.toNatClampNeg)) ^^^ 5), m46)) else (if l3 = 5 then (some (((l2 + (m46.1 8 0 l1.toNatClampNeg)) - 7), m46)) else (some ((l2 + (m46.1 8 0 l1.toNatClampNeg)), m46)))))
set_option maxHeartbeats 4000000 in
set_option maxRecDepth 100000 in
theorem c_X10_holdsBy_43 (F : Nat) {E : zEn} {h : Nat} {Z : zLay} (C : zCx E cX10_holdsBy RX10 5 (some .int) Z h) (hh : 2 ≤ h) (σ : zMem) (l1 : Int32) (l2 : Int32) (l3 : Int32) : zKO E 5 Z (zMQ E Z (zQI Z)) 43 [(0, .ref (zad Z 0 0)), (1, .int l1), (2, .int l2), (3, .int l3)] [] σ (f_X10_holdsBy_43 F σ l1 l2 l3) := by
  unfold f_X10_holdsBy_43
  refine zr_aload_n C dX10_holdsBy_43 rfl ?_
  refine zr_bipush (v := 10) C dX10_holdsBy_44 rfl ?_
  refine zk_X10_454 C F (Nat.le_of_ble_eq_true rfl) (Nat.le_trans (by decide) hh) (by simp [Value.category]) dX10_holdsBy_46 (fun r46 m46 => ?_)
  refine zr_iload_n C dX10_holdsBy_49 rfl ?_
  refine zr_aload_n C dX10_holdsBy_50 rfl ?_
  refine zf_X10_18 C (Nat.le_of_ble_eq_true rfl) dX10_holdsBy_51 ?_
  refine zf_X10_135 C (Nat.le_of_ble_eq_true rfl) dX10_holdsBy_54 ?_
  refine zr_iload_n C dX10_holdsBy_57 rfl ?_
  refine zr_iald (n := 50) C dX10_holdsBy_58 (Nat.le_of_ble_eq_true rfl) rfl ?_
  refine zr_iadd C dX10_holdsBy_59 ?_
  refine zr_istore (i := 4) (L1 := [(4, .int _), (0, .ref _), (1, .int _), (2, .int _), (3, .int _)]) C dX10_holdsBy_60 (by decide) rfl ?_
  refine zr_iload_n C dX10_holdsBy_62 rfl ?_
  refine zr_iconst (v := 2) C dX10_holdsBy_63 rfl ?_
  refine zr_icmp_ne (tgt := 72) C dX10_holdsBy_64 (by decide) ?_ ?_
  · refine zr_iload_n C dX10_holdsBy_72 rfl ?_
    refine zr_iconst (v := 4) C dX10_holdsBy_73 rfl ?_
    refine zr_icmp_ne (tgt := 82) C dX10_holdsBy_74 (by decide) ?_ ?_
    · refine zr_iload_n C dX10_holdsBy_82 rfl ?_
      refine zr_iconst (v := 5) C dX10_holdsBy_83 rfl ?_
      refine zr_icmp_ne (tgt := 95) C dX10_holdsBy_84 (by decide) ?_ ?_
      · refine zr_iload C dX10_holdsBy_95 rfl ?_
        exact zr_iret C dX10_holdsBy_97
      · refine zr_iload C dX10_holdsBy_87 rfl ?_
        refine zr_bipush (v := 7) C dX10_holdsBy_89 rfl ?_
        refine zr_isub C dX10_holdsBy_91 ?_
        refine zr_goto (tgt := 97) C dX10_holdsBy_92 (by decide) ?_
        exact zr_iret C dX10_holdsBy_97
    · refine zr_iload C dX10_holdsBy_77 rfl ?_
      refine zr_iconst (v := 5) C dX10_holdsBy_79 rfl ?_
      refine zr_ixor C dX10_holdsBy_80 ?_
      exact zr_iret C dX10_holdsBy_81
  · refine zr_iload C dX10_holdsBy_67 rfl ?_
    refine zr_iconst (v := 3) C dX10_holdsBy_69 rfl ?_
    refine zr_imul C dX10_holdsBy_70 ?_
    exact zr_iret C dX10_holdsBy_71
def f_X10_holdsBy_32 (F : Nat) (σ : zMem) (l1 : Int32) (l2 : Int32) (l3 : Int32) : Option (Int32 × zMem) := if l3 = 5 then (zb (f_X10_enterBody F σ 60) fun r40 m40 => f_X10_holdsBy_43 F m40 l1 l2 l3) else (f_X10_holdsBy_43 F σ l1 l2 l3)
set_option maxHeartbeats 4000000 in
set_option maxRecDepth 100000 in
theorem c_X10_holdsBy_32 (F : Nat) {E : zEn} {h : Nat} {Z : zLay} (C : zCx E cX10_holdsBy RX10 5 (some .int) Z h) (hh : 2 ≤ h) (σ : zMem) (l1 : Int32) (l2 : Int32) (l3 : Int32) : zKO E 5 Z (zMQ E Z (zQI Z)) 32 [(0, .ref (zad Z 0 0)), (1, .int l1), (2, .int l2), (3, .int l3)] [] σ (f_X10_holdsBy_32 F σ l1 l2 l3) := by
  unfold f_X10_holdsBy_32
  refine zr_iload_n C dX10_holdsBy_32 rfl ?_
  refine zr_iconst (v := 5) C dX10_holdsBy_33 rfl ?_
  refine zr_icmp_ne (tgt := 43) C dX10_holdsBy_34 (by decide) ?_ ?_
  · exact zr_sub [0, 1, 2, 3] rfl (c_X10_holdsBy_43 F C hh σ l1 l2 l3)
  · refine zr_aload_n C dX10_holdsBy_37 rfl ?_
    refine zr_bipush (v := 60) C dX10_holdsBy_38 rfl ?_
    refine zk_X10_454 C F (Nat.le_of_ble_eq_true rfl) (Nat.le_trans (by decide) hh) (by simp [Value.category]) dX10_holdsBy_40 (fun r40 m40 => ?_)
    exact zr_sub [0, 1, 2, 3] rfl (c_X10_holdsBy_43 F C hh m40 l1 l2 l3)
def f_X10_holdsBy_21 (F : Nat) (σ : zMem) (l1 : Int32) (l2 : Int32) (l3 : Int32) : Option (Int32 × zMem) := if l3 = 4 then (zb (f_X10_enterBody F σ 50) fun r29 m29 => f_X10_holdsBy_32 F m29 l1 l2 l3) else (f_X10_holdsBy_32 F σ l1 l2 l3)
set_option maxHeartbeats 4000000 in
set_option maxRecDepth 100000 in
theorem c_X10_holdsBy_21 (F : Nat) {E : zEn} {h : Nat} {Z : zLay} (C : zCx E cX10_holdsBy RX10 5 (some .int) Z h) (hh : 2 ≤ h) (σ : zMem) (l1 : Int32) (l2 : Int32) (l3 : Int32) : zKO E 5 Z (zMQ E Z (zQI Z)) 21 [(0, .ref (zad Z 0 0)), (1, .int l1), (2, .int l2), (3, .int l3)] [] σ (f_X10_holdsBy_21 F σ l1 l2 l3) := by
  unfold f_X10_holdsBy_21
  refine zr_iload_n C dX10_holdsBy_21 rfl ?_
  refine zr_iconst (v := 4) C dX10_holdsBy_22 rfl ?_
  refine zr_icmp_ne (tgt := 32) C dX10_holdsBy_23 (by decide) ?_ ?_
  · exact zr_sub [0, 1, 2, 3] rfl (c_X10_holdsBy_32 F C hh σ l1 l2 l3)
  · refine zr_aload_n C dX10_holdsBy_26 rfl ?_
    refine zr_bipush (v := 50) C dX10_holdsBy_27 rfl ?_
    refine zk_X10_454 C F (Nat.le_of_ble_eq_true rfl) (Nat.le_trans (by decide) hh) (by simp [Value.category]) dX10_holdsBy_29 (fun r29 m29 => ?_)
    exact zr_sub [0, 1, 2, 3] rfl (c_X10_holdsBy_32 F C hh m29 l1 l2 l3)
def f_X10_holdsBy (F : Nat) (σ : zMem) (a1 : Int32) (a2 : Int32) : Option (Int32 × zMem) := zg (inb a1 50) (if (σ.1 6 0 a1.toNatClampNeg) = 2 then (zb (f_X10_enterBody F σ 30) fun r18 m18 => f_X10_holdsBy_21 F m18 a1 a2 ((σ.1 6 0 a1.toNatClampNeg))) else (f_X10_holdsBy_21 F σ a1 a2 ((σ.1 6 0 a1.toNatClampNeg))))
set_option maxHeartbeats 4000000 in
set_option maxRecDepth 100000 in
theorem c_X10_holdsBy (l : Launch) (Z : zLay) (F : Nat) (σ : zMem) (a1 : Int32) (a2 : Int32) (r : Int32) (σ1 : zMem) (ho : f_X10_holdsBy F σ a1 a2 = some (r, σ1)) : zMet l yX10_holdsBy cX10_holdsBy 5 (some .int) 2 Z [.ref (zad Z 0 0), .int (a1), .int (a2)] σ (zQI Z r σ1) := by
  refine zMet_of (Qc := zQI Z) (by decide) (Nat.le_of_ble_eq_true rfl) [(0, .ref (zad Z 0 0)), (1, .int (a1)), (2, .int (a2))] rfl (fun E C => ?_) ho
  have hh : 2 ≤ 2 := Nat.le_refl _
  show zKO E 5 Z (zMQ E Z (zQI Z)) 0 [(0, .ref (zad Z 0 0)), (1, .int (a1)), (2, .int (a2))] [] σ _
  unfold f_X10_holdsBy
  refine zr_aload_n C dX10_holdsBy_0 rfl ?_
  refine zf_X10_18 C (Nat.le_of_ble_eq_true rfl) dX10_holdsBy_1 ?_
  refine zf_X10_148 C (Nat.le_of_ble_eq_true rfl) dX10_holdsBy_4 ?_
  refine zr_iload_n C dX10_holdsBy_7 rfl ?_
  refine zr_iald (n := 50) C dX10_holdsBy_8 (Nat.le_of_ble_eq_true rfl) rfl ?_
  refine zr_istore_n (i := 3) (L1 := [(3, .int _), (0, .ref _), (1, .int _), (2, .int _)]) C dX10_holdsBy_9 rfl (by decide) rfl ?_
  refine zr_iload_n C dX10_holdsBy_10 rfl ?_
  refine zr_iconst (v := 2) C dX10_holdsBy_11 rfl ?_
  refine zr_icmp_ne (tgt := 21) C dX10_holdsBy_12 (by decide) ?_ ?_
  · exact zr_sub [1, 2, 3, 0] rfl (c_X10_holdsBy_21 F C hh σ a1 a2 ((σ.1 6 0 a1.toNatClampNeg)))
  · refine zr_aload_n C dX10_holdsBy_15 rfl ?_
    refine zr_bipush (v := 30) C dX10_holdsBy_16 rfl ?_
    refine zk_X10_454 C F (Nat.le_of_ble_eq_true rfl) (Nat.le_trans (by decide) hh) (by simp [Value.category]) dX10_holdsBy_18 (fun r18 m18 => ?_)
    exact zr_sub [1, 2, 3, 0] rfl (c_X10_holdsBy_21 F C hh m18 a1 a2 ((σ.1 6 0 a1.toNatClampNeg)))
theorem zk_X10_445 (C : zCx E cc RX10 nL ret Z h) (F : Nat) {b0 : Int32} {b1 : Int32} (hk : 0 < zN 0) (hh : 2 + 1 ≤ h) (hst8 : (st.map fun v => v.category).sum ≤ 8) (hd : decode cc pc = .ok (.invokevirtual 445, 3)) {g : Int32 → zMem → Option (α × zMem)} (kk : ∀ (r : Int32) (σ1 : zMem), zKO E nL Z QQ (pc + 3) L (.int r :: st) σ1 (g r σ1)) : zKO E nL Z QQ pc L (.int b1 :: .int b0 :: .ref (zad Z 0 0) :: st) σ (zb (f_X10_holdsBy F σ b0 b1) g) :=
  zr_callVI (As := [.int b0, .int b1]) (ia := 2) C (fun r σ1 ho => c_X10_holdsBy (zla E) Z F σ b0 b1 r σ1 ho) wz_1015 hk rfl rfl wz_p74 wz_1017 wz_1018 wz_1 (by decide +kernel) rfl (by decide) hh hd hst8 kk
def f_X10_owesBy_69 (F : Nat) (σ : zMem) (l1 : Int32) (l3 : Int32) (l4 : Int32) : Option (Int32 × zMem) := if l3 = 4 then (zg (inb l1 50) (some ((l4 - (σ.1 8 0 l1.toNatClampNeg)), σ))) else (some (l4, σ))
set_option maxHeartbeats 4000000 in
set_option maxRecDepth 100000 in
theorem c_X10_owesBy_69 (F : Nat) {E : zEn} {h : Nat} {Z : zLay} (C : zCx E cX10_owesBy RX10 5 (some .int) Z h) (hh : 3 ≤ h) (σ : zMem) (l1 : Int32) (l3 : Int32) (l4 : Int32) : zKO E 5 Z (zMQ E Z (zQI Z)) 69 [(0, .ref (zad Z 0 0)), (1, .int l1), (3, .int l3), (4, .int l4)] [] σ (f_X10_owesBy_69 F σ l1 l3 l4) := by
  unfold f_X10_owesBy_69
  refine zr_iload_n C dX10_owesBy_69 rfl ?_
  refine zr_iconst (v := 4) C dX10_owesBy_70 rfl ?_
  refine zr_icmp_ne (tgt := 89) C dX10_owesBy_71 (by decide) ?_ ?_
  · refine zr_iload C dX10_owesBy_89 rfl ?_
    exact zr_iret C dX10_owesBy_91
  · refine zr_iload C dX10_owesBy_74 rfl ?_
    refine zr_aload_n C dX10_owesBy_76 rfl ?_
    refine zf_X10_18 C (Nat.le_of_ble_eq_true rfl) dX10_owesBy_77 ?_
    refine zf_X10_135 C (Nat.le_of_ble_eq_true rfl) dX10_owesBy_80 ?_
    refine zr_iload_n C dX10_owesBy_83 rfl ?_
    refine zr_iald (n := 50) C dX10_owesBy_84 (Nat.le_of_ble_eq_true rfl) rfl ?_
    refine zr_isub C dX10_owesBy_85 ?_
    refine zr_goto (tgt := 91) C dX10_owesBy_86 (by decide) ?_
    exact zr_iret C dX10_owesBy_91
def f_X10_owesBy_63 (F : Nat) (σ : zMem) (l1 : Int32) (l3 : Int32) (l4 : Int32) : Option (Int32 × zMem) := f_X10_owesBy_69 F σ l1 l3 ((l4 + l1))
set_option maxHeartbeats 4000000 in
set_option maxRecDepth 100000 in
theorem c_X10_owesBy_63 (F : Nat) {E : zEn} {h : Nat} {Z : zLay} (C : zCx E cX10_owesBy RX10 5 (some .int) Z h) (hh : 3 ≤ h) (σ : zMem) (l1 : Int32) (l3 : Int32) (l4 : Int32) : zKO E 5 Z (zMQ E Z (zQI Z)) 63 [(0, .ref (zad Z 0 0)), (1, .int l1), (3, .int l3), (4, .int l4)] [] σ (f_X10_owesBy_63 F σ l1 l3 l4) := by
  unfold f_X10_owesBy_63
  refine zr_iload C dX10_owesBy_63 rfl ?_
  refine zr_iload_n C dX10_owesBy_65 rfl ?_
  refine zr_iadd C dX10_owesBy_66 ?_
  refine zr_istore (i := 4) (L1 := [(4, .int _), (0, .ref _), (1, .int _), (3, .int _)]) C dX10_owesBy_67 (by decide) rfl ?_
  exact zr_sub [1, 2, 3, 0] rfl (c_X10_owesBy_69 F C hh σ l1 l3 ((l4 + l1)))
def f_X10_owesBy_37 (F : Nat) (σ : zMem) (l1 : Int32) (l2 : Int32) (l3 : Int32) : Option (Int32 × zMem) := zb (f_X10_enterBody F σ 11) fun r40 m40 => zb (f_X10_holdsBy F m40 l1 l2) fun r46 m46 => if l3 = 4 then (f_X10_owesBy_63 F m46 l1 l3 ((r46 * 2))) else (if l3 = 1 then (f_X10_owesBy_63 F m46 l1 l3 ((r46 * 2))) else (f_X10_owesBy_69 F m46 l1 l3 ((r46 * 2))))
set_option maxHeartbeats 4000000 in
set_option maxRecDepth 100000 in
theorem c_X10_owesBy_37 (F : Nat) {E : zEn} {h : Nat} {Z : zLay} (C : zCx E cX10_owesBy RX10 5 (some .int) Z h) (hh : 3 ≤ h) (σ : zMem) (l1 : Int32) (l2 : Int32) (l3 : Int32) : zKO E 5 Z (zMQ E Z (zQI Z)) 37 [(0, .ref (zad Z 0 0)), (1, .int l1), (2, .int l2), (3, .int l3)] [] σ (f_X10_owesBy_37 F σ l1 l2 l3) := by
  unfold f_X10_owesBy_37
  refine zr_aload_n C dX10_owesBy_37 rfl ?_
  refine zr_bipush (v := 11) C dX10_owesBy_38 rfl ?_
  refine zk_X10_454 C F (Nat.le_of_ble_eq_true rfl) (Nat.le_trans (by decide) hh) (by simp [Value.category]) dX10_owesBy_40 (fun r40 m40 => ?_)
  refine zr_aload_n C dX10_owesBy_43 rfl ?_
  refine zr_iload_n C dX10_owesBy_44 rfl ?_
  refine zr_iload_n C dX10_owesBy_45 rfl ?_
  refine zk_X10_445 C F (Nat.le_of_ble_eq_true rfl) (Nat.le_trans (by decide) hh) (by simp [Value.category]) dX10_owesBy_46 (fun r46 m46 => ?_)
  refine zr_iconst (v := 2) C dX10_owesBy_49 rfl ?_
  refine zr_imul C dX10_owesBy_50 ?_
  refine zr_istore (i := 4) (L1 := [(4, .int _), (0, .ref _), (1, .int _), (2, .int _), (3, .int _)]) C dX10_owesBy_51 (by decide) rfl ?_
  refine zr_iload_n C dX10_owesBy_53 rfl ?_
  refine zr_iconst (v := 4) C dX10_owesBy_54 rfl ?_
  refine zr_icmp_eq (tgt := 63) C dX10_owesBy_55 (by decide) ?_ ?_
  · exact zr_sub [1, 2, 4, 0] rfl (c_X10_owesBy_63 F C hh m46 l1 l3 ((r46 * 2)))
  · refine zr_iload_n C dX10_owesBy_58 rfl ?_
    refine zr_iconst (v := 1) C dX10_owesBy_59 rfl ?_
    refine zr_icmp_ne (tgt := 69) C dX10_owesBy_60 (by decide) ?_ ?_
    · exact zr_sub [1, 2, 4, 0] rfl (c_X10_owesBy_69 F C hh m46 l1 l3 ((r46 * 2)))
    · exact zr_sub [1, 2, 4, 0] rfl (c_X10_owesBy_63 F C hh m46 l1 l3 ((r46 * 2)))
def f_X10_owesBy_31 (F : Nat) (σ : zMem) (l1 : Int32) (l2 : Int32) (l3 : Int32) : Option (Int32 × zMem) := zb (f_X10_enterBody F σ 20) fun r34 m34 => f_X10_owesBy_37 F m34 l1 l2 l3
set_option maxHeartbeats 4000000 in
set_option maxRecDepth 100000 in
theorem c_X10_owesBy_31 (F : Nat) {E : zEn} {h : Nat} {Z : zLay} (C : zCx E cX10_owesBy RX10 5 (some .int) Z h) (hh : 3 ≤ h) (σ : zMem) (l1 : Int32) (l2 : Int32) (l3 : Int32) : zKO E 5 Z (zMQ E Z (zQI Z)) 31 [(0, .ref (zad Z 0 0)), (1, .int l1), (2, .int l2), (3, .int l3)] [] σ (f_X10_owesBy_31 F σ l1 l2 l3) := by
  unfold f_X10_owesBy_31
  refine zr_aload_n C dX10_owesBy_31 rfl ?_
  refine zr_bipush (v := 20) C dX10_owesBy_32 rfl ?_
  refine zk_X10_454 C F (Nat.le_of_ble_eq_true rfl) (Nat.le_trans (by decide) hh) (by simp [Value.category]) dX10_owesBy_34 (fun r34 m34 => ?_)
  exact zr_sub [0, 1, 2, 3] rfl (c_X10_owesBy_37 F C hh m34 l1 l2 l3)
def f_X10_owesBy_21 (F : Nat) (σ : zMem) (l1 : Int32) (l2 : Int32) (l3 : Int32) : Option (Int32 × zMem) := if l3 = 4 then (f_X10_owesBy_31 F σ l1 l2 l3) else (if l3 = 1 then (f_X10_owesBy_31 F σ l1 l2 l3) else (f_X10_owesBy_37 F σ l1 l2 l3))
set_option maxHeartbeats 4000000 in
set_option maxRecDepth 100000 in
theorem c_X10_owesBy_21 (F : Nat) {E : zEn} {h : Nat} {Z : zLay} (C : zCx E cX10_owesBy RX10 5 (some .int) Z h) (hh : 3 ≤ h) (σ : zMem) (l1 : Int32) (l2 : Int32) (l3 : Int32) : zKO E 5 Z (zMQ E Z (zQI Z)) 21 [(0, .ref (zad Z 0 0)), (1, .int l1), (2, .int l2), (3, .int l3)] [] σ (f_X10_owesBy_21 F σ l1 l2 l3) := by
  unfold f_X10_owesBy_21
  refine zr_iload_n C dX10_owesBy_21 rfl ?_
  refine zr_iconst (v := 4) C dX10_owesBy_22 rfl ?_
  refine zr_icmp_eq (tgt := 31) C dX10_owesBy_23 (by decide) ?_ ?_
  · exact zr_sub [0, 1, 2, 3] rfl (c_X10_owesBy_31 F C hh σ l1 l2 l3)
  · refine zr_iload_n C dX10_owesBy_26 rfl ?_
    refine zr_iconst (v := 1) C dX10_owesBy_27 rfl ?_
    refine zr_icmp_ne (tgt := 37) C dX10_owesBy_28 (by decide) ?_ ?_
    · exact zr_sub [0, 1, 2, 3] rfl (c_X10_owesBy_37 F C hh σ l1 l2 l3)
    · exact zr_sub [0, 1, 2, 3] rfl (c_X10_owesBy_31 F C hh σ l1 l2 l3)
def f_X10_owesBy (F : Nat) (σ : zMem) (a1 : Int32) (a2 : Int32) : Option (Int32 × zMem) := zg (inb a1 50) (if (σ.1 6 0 a1.toNatClampNeg) = 4 then (zb (f_X10_enterBody F σ 51) fun r18 m18 => f_X10_owesBy_21 F m18 a1 a2 ((σ.1 6 0 a1.toNatClampNeg))) else (f_X10_owesBy_21 F σ a1 a2 ((σ.1 6 0 a1.toNatClampNeg))))
set_option maxHeartbeats 4000000 in
set_option maxRecDepth 100000 in
theorem c_X10_owesBy (l : Launch) (Z : zLay) (F : Nat) (σ : zMem) (a1 : Int32) (a2 : Int32) (r : Int32) (σ1 : zMem) (ho : f_X10_owesBy F σ a1 a2 = some (r, σ1)) : zMet l yX10_owesBy cX10_owesBy 5 (some .int) 3 Z [.ref (zad Z 0 0), .int (a1), .int (a2)] σ (zQI Z r σ1) := by
  refine zMet_of (Qc := zQI Z) (by decide) (Nat.le_of_ble_eq_true rfl) [(0, .ref (zad Z 0 0)), (1, .int (a1)), (2, .int (a2))] rfl (fun E C => ?_) ho
  have hh : 3 ≤ 3 := Nat.le_refl _
  show zKO E 5 Z (zMQ E Z (zQI Z)) 0 [(0, .ref (zad Z 0 0)), (1, .int (a1)), (2, .int (a2))] [] σ _
  unfold f_X10_owesBy
  refine zr_aload_n C dX10_owesBy_0 rfl ?_
  refine zf_X10_18 C (Nat.le_of_ble_eq_true rfl) dX10_owesBy_1 ?_
  refine zf_X10_148 C (Nat.le_of_ble_eq_true rfl) dX10_owesBy_4 ?_
  refine zr_iload_n C dX10_owesBy_7 rfl ?_
  refine zr_iald (n := 50) C dX10_owesBy_8 (Nat.le_of_ble_eq_true rfl) rfl ?_
  refine zr_istore_n (i := 3) (L1 := [(3, .int _), (0, .ref _), (1, .int _), (2, .int _)]) C dX10_owesBy_9 rfl (by decide) rfl ?_
  refine zr_iload_n C dX10_owesBy_10 rfl ?_
  refine zr_iconst (v := 4) C dX10_owesBy_11 rfl ?_
  refine zr_icmp_ne (tgt := 21) C dX10_owesBy_12 (by decide) ?_ ?_
  · exact zr_sub [1, 2, 3, 0] rfl (c_X10_owesBy_21 F C hh σ a1 a2 ((σ.1 6 0 a1.toNatClampNeg)))
  · refine zr_aload_n C dX10_owesBy_15 rfl ?_
    refine zr_bipush (v := 51) C dX10_owesBy_16 rfl ?_
    refine zk_X10_454 C F (Nat.le_of_ble_eq_true rfl) (Nat.le_trans (by decide) hh) (by simp [Value.category]) dX10_owesBy_18 (fun r18 m18 => ?_)
    exact zr_sub [1, 2, 3, 0] rfl (c_X10_owesBy_21 F C hh m18 a1 a2 ((σ.1 6 0 a1.toNatClampNeg)))
theorem zk_X10_448 (C : zCx E cc RX10 nL ret Z h) (F : Nat) {b0 : Int32} {b1 : Int32} (hk : 0 < zN 0) (hh : 3 + 1 ≤ h) (hst8 : (st.map fun v => v.category).sum ≤ 8) (hd : decode cc pc = .ok (.invokevirtual 448, 3)) {g : Int32 → zMem → Option (α × zMem)} (kk : ∀ (r : Int32) (σ1 : zMem), zKO E nL Z QQ (pc + 3) L (.int r :: st) σ1 (g r σ1)) : zKO E nL Z QQ pc L (.int b1 :: .int b0 :: .ref (zad Z 0 0) :: st) σ (zb (f_X10_owesBy F σ b0 b1) g) :=
  zr_callVI (As := [.int b0, .int b1]) (ia := 2) C (fun r σ1 ho => c_X10_owesBy (zla E) Z F σ b0 b1 r σ1 ho) wz_1023 hk rfl rfl wz_p76 wz_1025 wz_1026 wz_1 (by decide +kernel) rfl (by decide) hh hd hst8 kk
def f_X10_passesBy_25 (F : Nat) (σ : zMem) (l1 : Int32) (l3 : Int32) : Option (Int32 × zMem) := zb (f_X10_enterBody F σ 12) fun r28 m28 => zb (f_X10_owesBy F m28 l1 l3) fun r34 m34 => zb (f_X10_holdsBy F m34 l1 ((l3 - l1))) fun r46 m46 => some ((r34 ^^^ r46), m46)
set_option maxHeartbeats 4000000 in
set_option maxRecDepth 100000 in
theorem c_X10_passesBy_25 (F : Nat) {E : zEn} {h : Nat} {Z : zLay} (C : zCx E cX10_passesBy RX10 5 (some .int) Z h) (hh : 4 ≤ h) (σ : zMem) (l1 : Int32) (l3 : Int32) : zKO E 5 Z (zMQ E Z (zQI Z)) 25 [(0, .ref (zad Z 0 0)), (1, .int l1), (3, .int l3)] [] σ (f_X10_passesBy_25 F σ l1 l3) := by
  unfold f_X10_passesBy_25
  refine zr_aload_n C dX10_passesBy_25 rfl ?_
  refine zr_bipush (v := 12) C dX10_passesBy_26 rfl ?_
  refine zk_X10_454 C F (Nat.le_of_ble_eq_true rfl) (Nat.le_trans (by decide) hh) (by simp [Value.category]) dX10_passesBy_28 (fun r28 m28 => ?_)
  refine zr_aload_n C dX10_passesBy_31 rfl ?_
  refine zr_iload_n C dX10_passesBy_32 rfl ?_
  refine zr_iload_n C dX10_passesBy_33 rfl ?_
  refine zk_X10_448 C F (Nat.le_of_ble_eq_true rfl) (Nat.le_trans (by decide) hh) (by simp [Value.category]) dX10_passesBy_34 (fun r34 m34 => ?_)
  refine zr_istore (i := 4) (L1 := [(4, .int _), (0, .ref _), (1, .int _), (3, .int _)]) C dX10_passesBy_37 (by decide) rfl ?_
  refine zr_iload C dX10_passesBy_39 rfl ?_
  refine zr_aload_n C dX10_passesBy_41 rfl ?_
  refine zr_iload_n C dX10_passesBy_42 rfl ?_
  refine zr_iload_n C dX10_passesBy_43 rfl ?_
  refine zr_iload_n C dX10_passesBy_44 rfl ?_
  refine zr_isub C dX10_passesBy_45 ?_
  refine zk_X10_445 C F (Nat.le_of_ble_eq_true rfl) (Nat.le_trans (by decide) hh) (by simp [Value.category]) dX10_passesBy_46 (fun r46 m46 => ?_)
  refine zr_ixor C dX10_passesBy_49 ?_
  exact zr_iret C dX10_passesBy_50
def f_X10_passesBy (F : Nat) (σ : zMem) (a1 : Int32) (a2 : Int32) : Option (Int32 × zMem) := zg (inb a1 50) (if (σ.1 6 0 a1.toNatClampNeg) = 3 then (zb (f_X10_enterBody F σ 40) fun r18 m18 => f_X10_passesBy_25 F m18 a1 ((a2 + 1))) else (f_X10_passesBy_25 F σ a1 a2))
set_option maxHeartbeats 4000000 in
set_option maxRecDepth 100000 in
theorem c_X10_passesBy (l : Launch) (Z : zLay) (F : Nat) (σ : zMem) (a1 : Int32) (a2 : Int32) (r : Int32) (σ1 : zMem) (ho : f_X10_passesBy F σ a1 a2 = some (r, σ1)) : zMet l yX10_passesBy cX10_passesBy 5 (some .int) 4 Z [.ref (zad Z 0 0), .int (a1), .int (a2)] σ (zQI Z r σ1) := by
  refine zMet_of (Qc := zQI Z) (by decide) (Nat.le_of_ble_eq_true rfl) [(0, .ref (zad Z 0 0)), (1, .int (a1)), (2, .int (a2))] rfl (fun E C => ?_) ho
  have hh : 4 ≤ 4 := Nat.le_refl _
  show zKO E 5 Z (zMQ E Z (zQI Z)) 0 [(0, .ref (zad Z 0 0)), (1, .int (a1)), (2, .int (a2))] [] σ _
  unfold f_X10_passesBy
  refine zr_iload_n C dX10_passesBy_0 rfl ?_
  refine zr_istore_n (i := 3) (L1 := [(3, .int _), (0, .ref _), (1, .int _), (2, .int _)]) C dX10_passesBy_1 rfl (by decide) rfl ?_
  refine zr_aload_n C dX10_passesBy_2 rfl ?_
  refine zf_X10_18 C (Nat.le_of_ble_eq_true rfl) dX10_passesBy_3 ?_
  refine zf_X10_148 C (Nat.le_of_ble_eq_true rfl) dX10_passesBy_6 ?_
  refine zr_iload_n C dX10_passesBy_9 rfl ?_
  refine zr_iald (n := 50) C dX10_passesBy_10 (Nat.le_of_ble_eq_true rfl) rfl ?_
  refine zr_iconst (v := 3) C dX10_passesBy_11 rfl ?_
  refine zr_icmp_ne (tgt := 25) C dX10_passesBy_12 (by decide) ?_ ?_
  · exact zr_sub [1, 2, 0] rfl (c_X10_passesBy_25 F C hh σ a1 a2)
  · refine zr_aload_n C dX10_passesBy_15 rfl ?_
    refine zr_bipush (v := 40) C dX10_passesBy_16 rfl ?_
    refine zk_X10_454 C F (Nat.le_of_ble_eq_true rfl) (Nat.le_trans (by decide) hh) (by simp [Value.category]) dX10_passesBy_18 (fun r18 m18 => ?_)
    refine zr_iload_n C dX10_passesBy_21 rfl ?_
    refine zr_iconst (v := 1) C dX10_passesBy_22 rfl ?_
    refine zr_iadd C dX10_passesBy_23 ?_
    refine zr_istore_n (i := 3) (L1 := [(3, .int _), (0, .ref _), (1, .int _), (2, .int _)]) C dX10_passesBy_24 rfl (by decide) rfl ?_
    exact zr_sub [1, 2, 0] rfl (c_X10_passesBy_25 F C hh m18 a1 ((a2 + 1)))
theorem zk_X10_451 (C : zCx E cc RX10 nL ret Z h) (F : Nat) {b0 : Int32} {b1 : Int32} (hk : 0 < zN 0) (hh : 4 + 1 ≤ h) (hst8 : (st.map fun v => v.category).sum ≤ 8) (hd : decode cc pc = .ok (.invokevirtual 451, 3)) {g : Int32 → zMem → Option (α × zMem)} (kk : ∀ (r : Int32) (σ1 : zMem), zKO E nL Z QQ (pc + 3) L (.int r :: st) σ1 (g r σ1)) : zKO E nL Z QQ pc L (.int b1 :: .int b0 :: .ref (zad Z 0 0) :: st) σ (zb (f_X10_passesBy F σ b0 b1) g) :=
  zr_callVI (As := [.int b0, .int b1]) (ia := 2) C (fun r σ1 ho => c_X10_passesBy (zla E) Z F σ b0 b1 r σ1 ho) wz_1027 hk rfl rfl wz_p77 wz_1029 wz_1030 wz_1 (by decide +kernel) rfl (by decide) hh hd hst8 kk
def f_X10_act (F : Nat) (σ : zMem) (a1 : Int32) (a2 : Int32) (a3 : Int32) : Option (Int32 × zMem) := zb (f_X3_has F (zwi σ 0 0 17 0) a1) fun r10 m10 => if r10 = 0 then (some (0, m10)) else (if a2.toInt < 0 ∨ 2 < a2.toInt then (some (0, m10)) else (if a2 = 0 then (zb (f_X10_holdsBy F m10 a1 a3) fun r47 m47 => some (r47, m47)) else (if a2 = 1 then (zb (f_X10_owesBy F m10 a1 a3) fun r54 m54 => some (r54, m54)) else (if a2 = 2 then (zb (f_X10_passesBy F m10 a1 a3) fun r61 m61 => some (r61, m61)) else none))))
set_option maxHeartbeats 4000000 in
set_option maxRecDepth 100000 in
theorem c_X10_act (l : Launch) (Z : zLay) (F : Nat) (σ : zMem) (a1 : Int32) (a2 : Int32) (a3 : Int32) (r : Int32) (σ1 : zMem) (ho : f_X10_act F σ a1 a2 a3 = some (r, σ1)) : zMet l yX10_act cX10_act 4 (some .int) 5 Z [.ref (zad Z 0 0), .int (a1), .int (a2), .int (a3)] σ (zQI Z r σ1) := by
  refine zMet_of (Qc := zQI Z) (by decide) (Nat.le_of_ble_eq_true rfl) [(0, .ref (zad Z 0 0)), (1, .int (a1)), (2, .int (a2)), (3, .int (a3))] rfl (fun E C => ?_) ho
  have hh : 5 ≤ 5 := Nat.le_refl _
  show zKO E 4 Z (zMQ E Z (zQI Z)) 0 [(0, .ref (zad Z 0 0)), (1, .int (a1)), (2, .int (a2)), (3, .int (a3))] [] σ _
  unfold f_X10_act
  refine zr_aload_n C dX10_act_0 rfl ?_
  refine zr_iconst (v := 0) C dX10_act_1 rfl ?_
  refine zp_X10_442 C (Nat.le_of_ble_eq_true rfl) dX10_act_2 ?_
  refine zr_aload_n C dX10_act_5 rfl ?_
  refine zf_X10_18 C (Nat.le_of_ble_eq_true rfl) dX10_act_6 ?_
  refine zr_iload_n C dX10_act_9 rfl ?_
  refine zk_X10_133 C F (Nat.le_of_ble_eq_true rfl) (Nat.le_trans (by decide) hh) (by simp [Value.category]) dX10_act_10 (fun r10 m10 => ?_)
  refine zr_if_ne (tgt := 18) C dX10_act_13 (by decide) ?_ ?_
  · refine zr_iload_n C dX10_act_18 rfl ?_
    refine zr_if (fun hx => ?_) (fun _ => ?_)
    · refine zr_tabOut (tgt := 65) C dX10_act_19 hx (by decide) ?_
      refine zr_iconst (v := 0) C dX10_act_65 rfl ?_
      exact zr_iret C dX10_act_66
    · refine zr_if (fun hx => ?_) (fun _ => ?_)
      · refine zr_tabIn (tgt := 44) C dX10_act_19 (by rw [hx]; decide) (by rw [hx]; decide) (off := 25) (by rw [hx]; decide) (by decide) ?_
        refine zr_aload_n C dX10_act_44 rfl ?_
        refine zr_iload_n C dX10_act_45 rfl ?_
        refine zr_iload_n C dX10_act_46 rfl ?_
        refine zk_X10_445 C F (Nat.le_of_ble_eq_true rfl) (Nat.le_trans (by decide) hh) (by simp [Value.category]) dX10_act_47 (fun r47 m47 => ?_)
        exact zr_iret C dX10_act_50
      · refine zr_if (fun hx => ?_) (fun _ => ?_)
        · refine zr_tabIn (tgt := 51) C dX10_act_19 (by rw [hx]; decide) (by rw [hx]; decide) (off := 32) (by rw [hx]; decide) (by decide) ?_
          refine zr_aload_n C dX10_act_51 rfl ?_
          refine zr_iload_n C dX10_act_52 rfl ?_
          refine zr_iload_n C dX10_act_53 rfl ?_
          refine zk_X10_448 C F (Nat.le_of_ble_eq_true rfl) (Nat.le_trans (by decide) hh) (by simp [Value.category]) dX10_act_54 (fun r54 m54 => ?_)
          exact zr_iret C dX10_act_57
        · refine zr_if (fun hx => ?_) (fun _ => ?_)
          · refine zr_tabIn (tgt := 58) C dX10_act_19 (by rw [hx]; decide) (by rw [hx]; decide) (off := 39) (by rw [hx]; decide) (by decide) ?_
            refine zr_aload_n C dX10_act_58 rfl ?_
            refine zr_iload_n C dX10_act_59 rfl ?_
            refine zr_iload_n C dX10_act_60 rfl ?_
            refine zk_X10_451 C F (Nat.le_of_ble_eq_true rfl) (Nat.le_trans (by decide) hh) (by simp [Value.category]) dX10_act_61 (fun r61 m61 => ?_)
            exact zr_iret C dX10_act_64
          · exact zr_none
  · refine zr_iconst (v := 0) C dX10_act_16 rfl ?_
    exact zr_iret C dX10_act_17
def f_X10_trace (F : Nat) (σ : zMem) (a1 : Int32) : Option (Int32 × zMem) := if a1 < 0 then (some ((-1), σ)) else (if (σ.1 0 0 17) ≤ a1 then (some ((-1), σ)) else (if a1 < 20 then (zg (inb a1 20) (some ((σ.1 52 0 a1.toNatClampNeg), σ))) else (some ((-1), σ))))
set_option maxHeartbeats 4000000 in
set_option maxRecDepth 100000 in
theorem c_X10_trace (l : Launch) (Z : zLay) (F : Nat) (σ : zMem) (a1 : Int32) (r : Int32) (σ1 : zMem) (ho : f_X10_trace F σ a1 = some (r, σ1)) : zMet l yX10_trace cX10_trace 2 (some .int) 1 Z [.ref (zad Z 0 0), .int (a1)] σ (zQI Z r σ1) := by
  refine zMet_of (Qc := zQI Z) (by decide) (Nat.le_of_ble_eq_true rfl) [(0, .ref (zad Z 0 0)), (1, .int (a1))] rfl (fun E C => ?_) ho
  have hh : 1 ≤ 1 := Nat.le_refl _
  show zKO E 2 Z (zMQ E Z (zQI Z)) 0 [(0, .ref (zad Z 0 0)), (1, .int (a1))] [] σ _
  unfold f_X10_trace
  refine zr_iload_n C dX10_trace_0 rfl ?_
  refine zr_if_lt (tgt := 18) C dX10_trace_1 (by decide) ?_ ?_
  · refine zr_iconst (v := -1) C dX10_trace_18 rfl ?_
    exact zr_iret C dX10_trace_19
  · refine zr_iload_n C dX10_trace_4 rfl ?_
    refine zr_aload_n C dX10_trace_5 rfl ?_
    refine zf_X10_442 C (Nat.le_of_ble_eq_true rfl) dX10_trace_6 ?_
    refine zr_icmp_ge (tgt := 18) C dX10_trace_9 (by decide) ?_ ?_
    · refine zr_iconst (v := -1) C dX10_trace_18 rfl ?_
      exact zr_iret C dX10_trace_19
    · refine zr_iload_n C dX10_trace_12 rfl ?_
      refine zr_bipush (v := 20) C dX10_trace_13 rfl ?_
      refine zr_icmp_lt (tgt := 20) C dX10_trace_15 (by decide) ?_ ?_
      · refine zr_aload_n C dX10_trace_20 rfl ?_
        refine zf_X10_76 C (Nat.le_of_ble_eq_true rfl) dX10_trace_21 ?_
        refine zr_iload_n C dX10_trace_24 rfl ?_
        refine zr_iald (n := 20) C dX10_trace_25 (Nat.le_of_ble_eq_true rfl) rfl ?_
        exact zr_iret C dX10_trace_26
      · refine zr_iconst (v := -1) C dX10_trace_18 rfl ?_
        exact zr_iret C dX10_trace_19
def f_X10_taken (F : Nat) (σ : zMem) (a1 : Int32) (a2 : Int32) : Option (Int32 × zMem) := if a2 < 0 then (some ((-2), σ)) else (if a2 < 6 then (zb (f_X3_has F σ a1) fun r18 m18 => if r18 = 0 then (some ((-11), m18)) else (zg (inb a1 50) (zb (f_X3_isUnder F m18 ((m18.1 6 0 a1.toNatClampNeg)) a2) fun r39 m39 => if r39 = 0 then (some ((-13), m39)) else (some ((m18.1 6 0 a1.toNatClampNeg), m39))))) else (some ((-2), σ)))
set_option maxHeartbeats 4000000 in
set_option maxRecDepth 100000 in
theorem c_X10_taken (l : Launch) (Z : zLay) (F : Nat) (σ : zMem) (a1 : Int32) (a2 : Int32) (r : Int32) (σ1 : zMem) (ho : f_X10_taken F σ a1 a2 = some (r, σ1)) : zMet l yX10_taken cX10_taken 4 (some .int) 2 Z [.ref (zad Z 0 0), .int (a1), .int (a2)] σ (zQI Z r σ1) := by
  refine zMet_of (Qc := zQI Z) (by decide) (Nat.le_of_ble_eq_true rfl) [(0, .ref (zad Z 0 0)), (1, .int (a1)), (2, .int (a2))] rfl (fun E C => ?_) ho
  have hh : 2 ≤ 2 := Nat.le_refl _
  show zKO E 4 Z (zMQ E Z (zQI Z)) 0 [(0, .ref (zad Z 0 0)), (1, .int (a1)), (2, .int (a2))] [] σ _
  unfold f_X10_taken
  refine zr_iload_n C dX10_taken_0 rfl ?_
  refine zr_if_lt (tgt := 10) C dX10_taken_1 (by decide) ?_ ?_
  · refine zr_bipush (v := -2) C dX10_taken_10 rfl ?_
    exact zr_iret C dX10_taken_12
  · refine zr_iload_n C dX10_taken_4 rfl ?_
    refine zr_bipush (v := 6) C dX10_taken_5 rfl ?_
    refine zr_icmp_lt (tgt := 13) C dX10_taken_7 (by decide) ?_ ?_
    · refine zr_aload_n C dX10_taken_13 rfl ?_
      refine zf_X10_18 C (Nat.le_of_ble_eq_true rfl) dX10_taken_14 ?_
      refine zr_iload_n C dX10_taken_17 rfl ?_
      refine zk_X10_133 C F (Nat.le_of_ble_eq_true rfl) (Nat.le_trans (by decide) hh) (by simp [Value.category]) dX10_taken_18 (fun r18 m18 => ?_)
      refine zr_if_ne (tgt := 27) C dX10_taken_21 (by decide) ?_ ?_
      · refine zr_aload_n C dX10_taken_27 rfl ?_
        refine zf_X10_18 C (Nat.le_of_ble_eq_true rfl) dX10_taken_28 ?_
        refine zf_X10_148 C (Nat.le_of_ble_eq_true rfl) dX10_taken_31 ?_
        refine zr_iload_n C dX10_taken_34 rfl ?_
        refine zr_iald (n := 50) C dX10_taken_35 (Nat.le_of_ble_eq_true rfl) rfl ?_
        refine zr_istore_n (i := 3) (L1 := [(3, .int _), (0, .ref _), (1, .int _), (2, .int _)]) C dX10_taken_36 rfl (by decide) rfl ?_
        refine zr_iload_n C dX10_taken_37 rfl ?_
        refine zr_iload_n C dX10_taken_38 rfl ?_
        refine zk_X10_457 C F (Nat.le_trans (by decide) hh) (by simp [Value.category]) dX10_taken_39 (fun r39 m39 => ?_)
        refine zr_if_eq (tgt := 49) C dX10_taken_42 (by decide) ?_ ?_
        · refine zr_bipush (v := -13) C dX10_taken_49 rfl ?_
          exact zr_iret C dX10_taken_51
        · refine zr_iload_n C dX10_taken_45 rfl ?_
          refine zr_goto (tgt := 51) C dX10_taken_46 (by decide) ?_
          exact zr_iret C dX10_taken_51
      · refine zr_bipush (v := -11) C dX10_taken_24 rfl ?_
        exact zr_iret C dX10_taken_26
    · refine zr_bipush (v := -2) C dX10_taken_10 rfl ?_
      exact zr_iret C dX10_taken_12
def f_X10_wheelsGiven_4 (F : Nat) (rec4 : zMem → Int32 × Int32 → Option (Int32 × zMem)) (σ : zMem) (x : Int32 × Int32) : Option (Int32 × zMem) := if (σ.1 0 0 1) ≤ x.2 then (some (x.1, σ)) else (zg (inb x.2 10) (rec4 σ (((x.1 + (σ.1 2 x.2.toNatClampNeg 7)), (x.2 + 1)))))
set_option maxHeartbeats 4000000 in
set_option maxRecDepth 100000 in
theorem c_X10_wheelsGiven_4 (F : Nat) {E : zEn} {h : Nat} {Z : zLay} (C : zCx E cX10_wheelsGiven RX10 3 (some .int) Z h) (hh : 1 ≤ h) : ∀ (n : Nat) (σ : zMem) (x : Int32 × Int32), zKO E 3 Z (zMQ E Z (zQI Z)) 4 [(0, .ref (zad Z 0 0)), (1, .int x.1), (2, .int x.2)] [] σ (zit (f_X10_wheelsGiven_4 F) n σ x) := by
  refine zr_loop (LL := fun (x : Int32 × Int32) => [(0, .ref (zad Z 0 0)), (1, .int x.1), (2, .int x.2)]) (ST := fun (x : Int32 × Int32) => []) (fun rec4 hrec4 σ x => ?_)
  obtain ⟨l1, l2⟩ := x
  show zKO E 3 Z (zMQ E Z (zQI Z)) 4 [(0, .ref (zad Z 0 0)), (1, .int l1), (2, .int l2)] [] σ (if (σ.1 0 0 1) ≤ l2 then (some (l1, σ)) else (zg (inb l2 10) (rec4 σ (((l1 + (σ.1 2 l2.toNatClampNeg 7)), (l2 + 1))))))
  refine zr_iload_n C dX10_wheelsGiven_4 rfl ?_
  refine zr_aload_n C dX10_wheelsGiven_5 rfl ?_
  refine zf_X10_85 C (Nat.le_of_ble_eq_true rfl) dX10_wheelsGiven_6 ?_
  refine zr_icmp_ge (tgt := 30) C dX10_wheelsGiven_9 (by decide) ?_ ?_
  · refine zr_iload_n C dX10_wheelsGiven_30 rfl ?_
    exact zr_iret C dX10_wheelsGiven_31
  · refine zr_iload_n C dX10_wheelsGiven_12 rfl ?_
    refine zr_aload_n C dX10_wheelsGiven_13 rfl ?_
    refine zf_X10_11 C (Nat.le_of_ble_eq_true rfl) dX10_wheelsGiven_14 ?_
    refine zr_iload_n C dX10_wheelsGiven_17 rfl ?_
    refine zr_aald (n := 10) (k1 := 2) C dX10_wheelsGiven_18 (Nat.le_of_ble_eq_true rfl) rfl rfl rfl (fun hb18 => ?_)
    refine zf_X10_117 C hb18 dX10_wheelsGiven_19 ?_
    refine zr_iadd C dX10_wheelsGiven_22 ?_
    refine zr_istore_n (i := 1) (L1 := [(1, .int _), (0, .ref _), (2, .int _)]) C dX10_wheelsGiven_23 rfl (by decide) rfl ?_
    refine zr_iinc (kk := 2) (v := (l2 + 1)) (L1 := [(2, .int _), (1, .int _), (0, .ref _)]) C dX10_wheelsGiven_24 rfl rfl (by decide) rfl ?_
    refine zr_goto (tgt := 4) C dX10_wheelsGiven_27 (by decide) ?_
    exact zr_sub [2, 1, 0] rfl (hrec4 σ (((l1 + (σ.1 2 l2.toNatClampNeg 7)), (l2 + 1))))
def f_X10_wheelsGiven (F : Nat) (σ : zMem) : Option (Int32 × zMem) := zit (f_X10_wheelsGiven_4 F) F σ ((0, 0))
set_option maxHeartbeats 4000000 in
set_option maxRecDepth 100000 in
theorem c_X10_wheelsGiven (l : Launch) (Z : zLay) (F : Nat) (σ : zMem) (r : Int32) (σ1 : zMem) (ho : f_X10_wheelsGiven F σ = some (r, σ1)) : zMet l yX10_wheelsGiven cX10_wheelsGiven 3 (some .int) 1 Z [.ref (zad Z 0 0)] σ (zQI Z r σ1) := by
  refine zMet_of (Qc := zQI Z) (by decide) (Nat.le_of_ble_eq_true rfl) [(0, .ref (zad Z 0 0))] rfl (fun E C => ?_) ho
  have hh : 1 ≤ 1 := Nat.le_refl _
  show zKO E 3 Z (zMQ E Z (zQI Z)) 0 [(0, .ref (zad Z 0 0))] [] σ _
  unfold f_X10_wheelsGiven
  refine zr_iconst (v := 0) C dX10_wheelsGiven_0 rfl ?_
  refine zr_istore_n (i := 1) (L1 := [(1, .int _), (0, .ref _)]) C dX10_wheelsGiven_1 rfl (by decide) rfl ?_
  refine zr_iconst (v := 0) C dX10_wheelsGiven_2 rfl ?_
  refine zr_istore_n (i := 2) (L1 := [(2, .int _), (1, .int _), (0, .ref _)]) C dX10_wheelsGiven_3 rfl (by decide) rfl ?_
  exact zr_sub [2, 1, 0] rfl (c_X10_wheelsGiven_4 F C hh F σ ((0, 0)))
theorem zk_X10_469 (C : zCx E cc RX10 nL ret Z h) (F : Nat)  (hk : 0 < zN 0) (hh : 1 + 1 ≤ h) (hst8 : (st.map fun v => v.category).sum ≤ 8) (hd : decode cc pc = .ok (.invokevirtual 469, 3)) {g : Int32 → zMem → Option (α × zMem)} (kk : ∀ (r : Int32) (σ1 : zMem), zKO E nL Z QQ (pc + 3) L (.int r :: st) σ1 (g r σ1)) : zKO E nL Z QQ pc L (.ref (zad Z 0 0) :: st) σ (zb (f_X10_wheelsGiven F σ) g) :=
  zr_callVI (As := []) (ia := 0) C (fun r σ1 ho => c_X10_wheelsGiven (zla E) Z F σ r σ1 ho) wz_1048 hk rfl rfl wz_p78 wz_1050 wz_1051 wz_1 (by decide +kernel) rfl (by decide) hh hd hst8 kk
def f_X10_count (F : Nat) (σ : zMem) (a1 : Int32) : Option (Int32 × zMem) := if a1.toInt < 0 ∨ 14 < a1.toInt then (some ((-2), σ)) else (if a1 = 0 then (some ((σ.1 0 0 1), σ)) else (if a1 = 1 then (some ((σ.1 5 0 5), σ)) else (if a1 = 2 then (some ((σ.1 11 0 1), σ)) else (if a1 = 3 then (some ((σ.1 0 0 11), σ)) else (if a1 = 4 then (some ((σ.1 25 0 4), σ)) else (if a1 = 5 then (some ((σ.1 38 0 1), σ)) else (if a1 = 6 then (some ((σ.1 0 0 10), σ)) else (if a1 = 7 then (some ((σ.1 38 0 3), σ)) else (if a1 = 8 then (some ((σ.1 38 0 4), σ)) else (if a1 = 9 then (some ((σ.1 38 0 5), σ)) else (if a1 = 10 then (zb (f_X10_wheelsGiven F σ) fun r148 m148 => some (r148, m148)) else (if a1 = 11 then (some ((σ.1 38 0 6), σ)) else (if a1 = 12 then (some ((σ.1 11 0 3), σ)) else (if a1 = 13 then (if (σ.1 38 0 2) = 0 then (some (0, σ)) else (some (1, σ))) else (if a1 = 14 then (some ((σ.1 0 0 17), σ)) else none)))))))))))))))
set_option maxHeartbeats 4000000 in
set_option maxRecDepth 100000 in
theorem c_X10_count (l : Launch) (Z : zLay) (F : Nat) (σ : zMem) (a1 : Int32) (r : Int32) (σ1 : zMem) (ho : f_X10_count F σ a1 = some (r, σ1)) : zMet l yX10_count cX10_count 2 (some .int) 2 Z [.ref (zad Z 0 0), .int (a1)] σ (zQI Z r σ1) := by
  refine zMet_of (Qc := zQI Z) (by decide) (Nat.le_of_ble_eq_true rfl) [(0, .ref (zad Z 0 0)), (1, .int (a1))] rfl (fun E C => ?_) ho
  have hh : 2 ≤ 2 := Nat.le_refl _
  show zKO E 2 Z (zMQ E Z (zQI Z)) 0 [(0, .ref (zad Z 0 0)), (1, .int (a1))] [] σ _
  unfold f_X10_count
  refine zr_iload_n C dX10_count_0 rfl ?_
  refine zr_if (fun hx => ?_) (fun _ => ?_)
  · refine zr_tabOut (tgt := 189) C dX10_count_1 hx (by decide) ?_
    refine zr_bipush (v := -2) C dX10_count_189 rfl ?_
    exact zr_iret C dX10_count_191
  · refine zr_if (fun hx => ?_) (fun _ => ?_)
    · refine zr_tabIn (tgt := 76) C dX10_count_1 (by rw [hx]; decide) (by rw [hx]; decide) (off := 75) (by rw [hx]; decide) (by decide) ?_
      refine zr_aload_n C dX10_count_76 rfl ?_
      refine zf_X10_85 C (Nat.le_of_ble_eq_true rfl) dX10_count_77 ?_
      exact zr_iret C dX10_count_80
    · refine zr_if (fun hx => ?_) (fun _ => ?_)
      · refine zr_tabIn (tgt := 81) C dX10_count_1 (by rw [hx]; decide) (by rw [hx]; decide) (off := 80) (by rw [hx]; decide) (by decide) ?_
        refine zr_aload_n C dX10_count_81 rfl ?_
        refine zf_X10_18 C (Nat.le_of_ble_eq_true rfl) dX10_count_82 ?_
        refine zf_X10_126 C (Nat.le_of_ble_eq_true rfl) dX10_count_85 ?_
        exact zr_iret C dX10_count_88
      · refine zr_if (fun hx => ?_) (fun _ => ?_)
        · refine zr_tabIn (tgt := 89) C dX10_count_1 (by rw [hx]; decide) (by rw [hx]; decide) (off := 88) (by rw [hx]; decide) (by decide) ?_
          refine zr_aload_n C dX10_count_89 rfl ?_
          refine zf_X10_25 C (Nat.le_of_ble_eq_true rfl) dX10_count_90 ?_
          refine zf_X10_184 C (Nat.le_of_ble_eq_true rfl) dX10_count_93 ?_
          exact zr_iret C dX10_count_96
        · refine zr_if (fun hx => ?_) (fun _ => ?_)
          · refine zr_tabIn (tgt := 97) C dX10_count_1 (by rw [hx]; decide) (by rw [hx]; decide) (off := 96) (by rw [hx]; decide) (by decide) ?_
            refine zr_aload_n C dX10_count_97 rfl ?_
            refine zf_X10_142 C (Nat.le_of_ble_eq_true rfl) dX10_count_98 ?_
            exact zr_iret C dX10_count_101
          · refine zr_if (fun hx => ?_) (fun _ => ?_)
            · refine zr_tabIn (tgt := 102) C dX10_count_1 (by rw [hx]; decide) (by rw [hx]; decide) (off := 101) (by rw [hx]; decide) (by decide) ?_
              refine zr_aload_n C dX10_count_102 rfl ?_
              refine zf_X10_39 C (Nat.le_of_ble_eq_true rfl) dX10_count_103 ?_
              refine zf_X10_255 C (Nat.le_of_ble_eq_true rfl) dX10_count_106 ?_
              exact zr_iret C dX10_count_109
            · refine zr_if (fun hx => ?_) (fun _ => ?_)
              · refine zr_tabIn (tgt := 110) C dX10_count_1 (by rw [hx]; decide) (by rw [hx]; decide) (off := 109) (by rw [hx]; decide) (by decide) ?_
                refine zr_aload_n C dX10_count_110 rfl ?_
                refine zf_X10_46 C (Nat.le_of_ble_eq_true rfl) dX10_count_111 ?_
                refine zf_X10_321 C (Nat.le_of_ble_eq_true rfl) dX10_count_114 ?_
                exact zr_iret C dX10_count_117
              · refine zr_if (fun hx => ?_) (fun _ => ?_)
                · refine zr_tabIn (tgt := 118) C dX10_count_1 (by rw [hx]; decide) (by rw [hx]; decide) (off := 117) (by rw [hx]; decide) (by decide) ?_
                  refine zr_aload_n C dX10_count_118 rfl ?_
                  refine zf_X10_212 C (Nat.le_of_ble_eq_true rfl) dX10_count_119 ?_
                  exact zr_iret C dX10_count_122
                · refine zr_if (fun hx => ?_) (fun _ => ?_)
                  · refine zr_tabIn (tgt := 123) C dX10_count_1 (by rw [hx]; decide) (by rw [hx]; decide) (off := 122) (by rw [hx]; decide) (by decide) ?_
                    refine zr_aload_n C dX10_count_123 rfl ?_
                    refine zf_X10_46 C (Nat.le_of_ble_eq_true rfl) dX10_count_124 ?_
                    refine zf_X10_460 C (Nat.le_of_ble_eq_true rfl) dX10_count_127 ?_
                    exact zr_iret C dX10_count_130
                  · refine zr_if (fun hx => ?_) (fun _ => ?_)
                    · refine zr_tabIn (tgt := 131) C dX10_count_1 (by rw [hx]; decide) (by rw [hx]; decide) (off := 130) (by rw [hx]; decide) (by decide) ?_
                      refine zr_aload_n C dX10_count_131 rfl ?_
                      refine zf_X10_46 C (Nat.le_of_ble_eq_true rfl) dX10_count_132 ?_
                      refine zf_X10_463 C (Nat.le_of_ble_eq_true rfl) dX10_count_135 ?_
                      exact zr_iret C dX10_count_138
                    · refine zr_if (fun hx => ?_) (fun _ => ?_)
                      · refine zr_tabIn (tgt := 139) C dX10_count_1 (by rw [hx]; decide) (by rw [hx]; decide) (off := 138) (by rw [hx]; decide) (by decide) ?_
                        refine zr_aload_n C dX10_count_139 rfl ?_
                        refine zf_X10_46 C (Nat.le_of_ble_eq_true rfl) dX10_count_140 ?_
                        refine zf_X10_466 C (Nat.le_of_ble_eq_true rfl) dX10_count_143 ?_
                        exact zr_iret C dX10_count_146
                      · refine zr_if (fun hx => ?_) (fun _ => ?_)
                        · refine zr_tabIn (tgt := 147) C dX10_count_1 (by rw [hx]; decide) (by rw [hx]; decide) (off := 146) (by rw [hx]; decide) (by decide) ?_
                          refine zr_aload_n C dX10_count_147 rfl ?_
                          refine zk_X10_469 C F (Nat.le_of_ble_eq_true rfl) (Nat.le_trans (by decide) hh) (by simp [Value.category]) dX10_count_148 (fun r148 m148 => ?_)
                          exact zr_iret C dX10_count_151
                        · refine zr_if (fun hx => ?_) (fun _ => ?_)
                          · refine zr_tabIn (tgt := 152) C dX10_count_1 (by rw [hx]; decide) (by rw [hx]; decide) (off := 151) (by rw [hx]; decide) (by decide) ?_
                            refine zr_aload_n C dX10_count_152 rfl ?_
                            refine zf_X10_46 C (Nat.le_of_ble_eq_true rfl) dX10_count_153 ?_
                            refine zf_X10_375 C (Nat.le_of_ble_eq_true rfl) dX10_count_156 ?_
                            exact zr_iret C dX10_count_159
                          · refine zr_if (fun hx => ?_) (fun _ => ?_)
                            · refine zr_tabIn (tgt := 160) C dX10_count_1 (by rw [hx]; decide) (by rw [hx]; decide) (off := 159) (by rw [hx]; decide) (by decide) ?_
                              refine zr_aload_n C dX10_count_160 rfl ?_
                              refine zf_X10_25 C (Nat.le_of_ble_eq_true rfl) dX10_count_161 ?_
                              refine zf_X10_174 C (Nat.le_of_ble_eq_true rfl) dX10_count_164 ?_
                              exact zr_iret C dX10_count_167
                            · refine zr_if (fun hx => ?_) (fun _ => ?_)
                              · refine zr_tabIn (tgt := 168) C dX10_count_1 (by rw [hx]; decide) (by rw [hx]; decide) (off := 167) (by rw [hx]; decide) (by decide) ?_
                                refine zr_aload_n C dX10_count_168 rfl ?_
                                refine zf_X10_46 C (Nat.le_of_ble_eq_true rfl) dX10_count_169 ?_
                                refine zf_X10_353 C (Nat.le_of_ble_eq_true rfl) dX10_count_172 ?_
                                refine zr_if_eq (tgt := 182) C dX10_count_175 (by decide) ?_ ?_
                                · refine zr_iconst (v := 0) C dX10_count_182 rfl ?_
                                  exact zr_iret C dX10_count_183
                                · refine zr_iconst (v := 1) C dX10_count_178 rfl ?_
                                  refine zr_goto (tgt := 183) C dX10_count_179 (by decide) ?_
                                  exact zr_iret C dX10_count_183
                              · refine zr_if (fun hx => ?_) (fun _ => ?_)
                                · refine zr_tabIn (tgt := 184) C dX10_count_1 (by rw [hx]; decide) (by rw [hx]; decide) (off := 183) (by rw [hx]; decide) (by decide) ?_
                                  refine zr_aload_n C dX10_count_184 rfl ?_
                                  refine zf_X10_442 C (Nat.le_of_ble_eq_true rfl) dX10_count_185 ?_
                                  exact zr_iret C dX10_count_188
                                · exact zr_none
def f_X10_sheet (F : Nat) (σ : zMem) (a1 : Int32) (a2 : Int32) (a3 : Int32) : Option (Int32 × zMem) := zb (f_X10_isSheet F σ a1) fun r1 m1 => if r1 = 0 then (some ((-2), m1)) else (if a2 < (-1) then (some ((-2), m1)) else (if a2 ≤ 2 then (if a2 = (-1) then (zg (inb a1 3) (zb (f_X4_becomeRow F m1 a1.toNatClampNeg ((-1)) 0) fun r33 m33 => some (1, m33))) else (if a3 ≤ 60 then (if 0 ≤ a3 then (zg (inb a1 3) (zb (f_X4_becomeRow F m1 a1.toNatClampNeg a2 a3) fun r62 m62 => some (1, m62))) else (some ((-14), m1))) else (some ((-2), m1)))) else (some ((-2), m1))))
set_option maxHeartbeats 4000000 in
set_option maxRecDepth 100000 in
theorem c_X10_sheet (l : Launch) (Z : zLay) (F : Nat) (σ : zMem) (a1 : Int32) (a2 : Int32) (a3 : Int32) (r : Int32) (σ1 : zMem) (ho : f_X10_sheet F σ a1 a2 a3 = some (r, σ1)) : zMet l yX10_sheet cX10_sheet 4 (some .int) 2 Z [.ref (zad Z 0 0), .int (a1), .int (a2), .int (a3)] σ (zQI Z r σ1) := by
  refine zMet_of (Qc := zQI Z) (by decide) (Nat.le_of_ble_eq_true rfl) [(0, .ref (zad Z 0 0)), (1, .int (a1)), (2, .int (a2)), (3, .int (a3))] rfl (fun E C => ?_) ho
  have hh : 2 ≤ 2 := Nat.le_refl _
  show zKO E 4 Z (zMQ E Z (zQI Z)) 0 [(0, .ref (zad Z 0 0)), (1, .int (a1)), (2, .int (a2)), (3, .int (a3))] [] σ _
  unfold f_X10_sheet
  refine zr_iload_n C dX10_sheet_0 rfl ?_
  refine zk_X10_235 C F (Nat.le_trans (by decide) hh) (by simp [Value.category]) dX10_sheet_1 (fun r1 m1 => ?_)
  refine zr_if_eq (tgt := 17) C dX10_sheet_4 (by decide) ?_ ?_
  · refine zr_bipush (v := -2) C dX10_sheet_17 rfl ?_
    exact zr_iret C dX10_sheet_19
  · refine zr_iload_n C dX10_sheet_7 rfl ?_
    refine zr_iconst (v := -1) C dX10_sheet_8 rfl ?_
    refine zr_icmp_lt (tgt := 17) C dX10_sheet_9 (by decide) ?_ ?_
    · refine zr_bipush (v := -2) C dX10_sheet_17 rfl ?_
      exact zr_iret C dX10_sheet_19
    · refine zr_iload_n C dX10_sheet_12 rfl ?_
      refine zr_iconst (v := 2) C dX10_sheet_13 rfl ?_
      refine zr_icmp_le (tgt := 20) C dX10_sheet_14 (by decide) ?_ ?_
      · refine zr_iload_n C dX10_sheet_20 rfl ?_
        refine zr_iconst (v := -1) C dX10_sheet_21 rfl ?_
        refine zr_icmp_ne (tgt := 38) C dX10_sheet_22 (by decide) ?_ ?_
        · refine zr_iload_n C dX10_sheet_38 rfl ?_
          refine zr_bipush (v := 60) C dX10_sheet_39 rfl ?_
          refine zr_icmp_le (tgt := 47) C dX10_sheet_41 (by decide) ?_ ?_
          · refine zr_iload_n C dX10_sheet_47 rfl ?_
            refine zr_if_ge (tgt := 54) C dX10_sheet_48 (by decide) ?_ ?_
            · refine zr_aload_n C dX10_sheet_54 rfl ?_
              refine zf_X10_59 C (Nat.le_of_ble_eq_true rfl) dX10_sheet_55 ?_
              refine zr_iload_n C dX10_sheet_58 rfl ?_
              refine zr_aald (n := 3) (k1 := 47) C dX10_sheet_59 (Nat.le_of_ble_eq_true rfl) rfl rfl rfl (fun hb59 => ?_)
              refine zr_iload_n C dX10_sheet_60 rfl ?_
              refine zr_iload_n C dX10_sheet_61 rfl ?_
              refine zk_X10_472 C F hb59 (Nat.le_trans (by decide) hh) (by simp [Value.category]) dX10_sheet_62 (fun r62 m62 => ?_)
              refine zr_iconst (v := 1) C dX10_sheet_65 rfl ?_
              exact zr_iret C dX10_sheet_66
            · refine zr_bipush (v := -14) C dX10_sheet_51 rfl ?_
              exact zr_iret C dX10_sheet_53
          · refine zr_bipush (v := -2) C dX10_sheet_44 rfl ?_
            exact zr_iret C dX10_sheet_46
        · refine zr_aload_n C dX10_sheet_25 rfl ?_
          refine zf_X10_59 C (Nat.le_of_ble_eq_true rfl) dX10_sheet_26 ?_
          refine zr_iload_n C dX10_sheet_29 rfl ?_
          refine zr_aald (n := 3) (k1 := 47) C dX10_sheet_30 (Nat.le_of_ble_eq_true rfl) rfl rfl rfl (fun hb30 => ?_)
          refine zr_iconst (v := -1) C dX10_sheet_31 rfl ?_
          refine zr_iconst (v := 0) C dX10_sheet_32 rfl ?_
          refine zk_X10_472 C F hb30 (Nat.le_trans (by decide) hh) (by simp [Value.category]) dX10_sheet_33 (fun r33 m33 => ?_)
          refine zr_iconst (v := 1) C dX10_sheet_36 rfl ?_
          exact zr_iret C dX10_sheet_37
      · refine zr_bipush (v := -2) C dX10_sheet_17 rfl ?_
        exact zr_iret C dX10_sheet_19
end ZM
