section ZM
variable {E : zEn} {cc : ByteArray} {own : String} {nL h : Nat} {ret : Option FieldType} {Z : zLay} {α : Type} {QQ : α → zMem → State → Prop} {pc : Nat} {L : List (Nat × Value)} {st : List Value} {σ : zMem} {o o1 o2 : Option (α × zMem)}
def f_X11_rightAt_20 (F : Nat) (rec20 : zMem → Int32 × Int32 → Option (Int32 × zMem)) (σ : zMem) (x : Int32 × Int32) : Option (Int32 × zMem) := if (σ.1 60 0 12) ≤ x.2 then (some ((-1), σ)) else (zg (inb x.2 50) (if (σ.1 73 0 x.2.toNatClampNeg) = 3 then (zg (inb x.2 50) (if (σ.1 75 0 x.2.toNatClampNeg) ≤ x.1 then (zg (inb x.2 50) (rec20 σ (((x.1 - (σ.1 75 0 x.2.toNatClampNeg)), (x.2 + 1))))) else (some (x.2, σ)))) else (rec20 σ ((x.1, (x.2 + 1))))))
set_option maxHeartbeats 4000000 in
set_option maxRecDepth 100000 in
theorem c_X11_rightAt_20 (F : Nat) {E : zEn} {h : Nat} {Z : zLay} (C : zCx E cX11_rightAt RX11 5 (some .int) Z h) (hh : 4 ≤ h) : ∀ (n : Nat) (σ : zMem) (x : Int32 × Int32), zKO E 5 Z (zMQ E Z (zQI Z)) 20 [(0, .ref (zad Z 60 0)), (3, .int x.1), (4, .int x.2)] [] σ (zit (f_X11_rightAt_20 F) n σ x) := by
  refine zr_loop (LL := fun (x : Int32 × Int32) => [(0, .ref (zad Z 60 0)), (3, .int x.1), (4, .int x.2)]) (ST := fun (x : Int32 × Int32) => []) (fun rec20 hrec20 σ x => ?_)
  obtain ⟨l3, l4⟩ := x
  show zKO E 5 Z (zMQ E Z (zQI Z)) 20 [(0, .ref (zad Z 60 0)), (3, .int l3), (4, .int l4)] [] σ (if (σ.1 60 0 12) ≤ l4 then (some ((-1), σ)) else (zg (inb l4 50) (if (σ.1 73 0 l4.toNatClampNeg) = 3 then (zg (inb l4 50) (if (σ.1 75 0 l4.toNatClampNeg) ≤ l3 then (zg (inb l4 50) (rec20 σ (((l3 - (σ.1 75 0 l4.toNatClampNeg)), (l4 + 1))))) else (some (l4, σ)))) else (rec20 σ ((l3, (l4 + 1)))))))
  refine zr_iload C dX11_rightAt_20 rfl ?_
  refine zr_aload_n C dX11_rightAt_22 rfl ?_
  refine zf_X11_167 C (Nat.le_of_ble_eq_true rfl) dX11_rightAt_23 ?_
  refine zr_icmp_ge (tgt := 70) C dX11_rightAt_26 (by decide) ?_ ?_
  · refine zr_iconst (v := -1) C dX11_rightAt_70 rfl ?_
    exact zr_iret C dX11_rightAt_71
  · refine zr_aload_n C dX11_rightAt_29 rfl ?_
    refine zf_X11_42 C (Nat.le_of_ble_eq_true rfl) dX11_rightAt_30 ?_
    refine zr_iload C dX11_rightAt_33 rfl ?_
    refine zr_iald (n := 50) C dX11_rightAt_35 (Nat.le_of_ble_eq_true rfl) rfl ?_
    refine zr_iconst (v := 3) C dX11_rightAt_36 rfl ?_
    refine zr_icmp_ne (tgt := 64) C dX11_rightAt_37 (by decide) ?_ ?_
    · refine zr_iinc (kk := 2) (v := (l4 + 1)) (L1 := [(4, .int _), (0, .ref _), (3, .int _)]) C dX11_rightAt_64 rfl rfl (by decide) rfl ?_
      refine zr_goto (tgt := 20) C dX11_rightAt_67 (by decide) ?_
      exact zr_sub [1, 2, 0] rfl (hrec20 σ ((l3, (l4 + 1))))
    · refine zr_iload_n C dX11_rightAt_40 rfl ?_
      refine zr_aload_n C dX11_rightAt_41 rfl ?_
      refine zf_X11_48 C (Nat.le_of_ble_eq_true rfl) dX11_rightAt_42 ?_
      refine zr_iload C dX11_rightAt_45 rfl ?_
      refine zr_iald (n := 50) C dX11_rightAt_47 (Nat.le_of_ble_eq_true rfl) rfl ?_
      refine zr_icmp_ge (tgt := 54) C dX11_rightAt_48 (by decide) ?_ ?_
      · refine zr_iload_n C dX11_rightAt_54 rfl ?_
        refine zr_aload_n C dX11_rightAt_55 rfl ?_
        refine zf_X11_48 C (Nat.le_of_ble_eq_true rfl) dX11_rightAt_56 ?_
        refine zr_iload C dX11_rightAt_59 rfl ?_
        refine zr_iald (n := 50) C dX11_rightAt_61 (Nat.le_of_ble_eq_true rfl) rfl ?_
        refine zr_isub C dX11_rightAt_62 ?_
        refine zr_istore_n (i := 3) (L1 := [(3, .int _), (0, .ref _), (4, .int _)]) C dX11_rightAt_63 rfl (by decide) rfl ?_
        refine zr_iinc (kk := 2) (v := (l4 + 1)) (L1 := [(4, .int _), (3, .int _), (0, .ref _)]) C dX11_rightAt_64 rfl rfl (by decide) rfl ?_
        refine zr_goto (tgt := 20) C dX11_rightAt_67 (by decide) ?_
        exact zr_sub [2, 1, 0] rfl (hrec20 σ (((l3 - (σ.1 75 0 l4.toNatClampNeg)), (l4 + 1))))
      · refine zr_iload C dX11_rightAt_51 rfl ?_
        exact zr_iret C dX11_rightAt_53
def f_X11_rightAt (F : Nat) (σ : zMem) (a1 : Int32) : Option (Int32 × zMem) := zb (f_X11_partsOf F σ ((-1)) 2) fun r3 m3 => if r3 = 0 then (some ((-1), m3)) else (zg (zni r3) (zit (f_X11_rightAt_20 F) F m3 (((zrem a1 r3), 0))))
set_option maxHeartbeats 4000000 in
set_option maxRecDepth 100000 in
theorem c_X11_rightAt (l : Launch) (Z : zLay) (F : Nat) (σ : zMem) (a1 : Int32) (r : Int32) (σ1 : zMem) (ho : f_X11_rightAt F σ a1 = some (r, σ1)) : zMet l yX11_rightAt cX11_rightAt 5 (some .int) 4 Z [.ref (zad Z 60 0), .int (a1)] σ (zQI Z r σ1) := by
  refine zMet_of (Qc := zQI Z) (by decide) (Nat.le_of_ble_eq_true rfl) [(0, .ref (zad Z 60 0)), (1, .int (a1))] rfl (fun E C => ?_) ho
  have hh : 4 ≤ 4 := Nat.le_refl _
  show zKO E 5 Z (zMQ E Z (zQI Z)) 0 [(0, .ref (zad Z 60 0)), (1, .int (a1))] [] σ _
  unfold f_X11_rightAt
  refine zr_aload_n C dX11_rightAt_0 rfl ?_
  refine zr_iconst (v := -1) C dX11_rightAt_1 rfl ?_
  refine zr_iconst (v := 2) C dX11_rightAt_2 rfl ?_
  refine zk_X11_208 C F (Nat.le_of_ble_eq_true rfl) (Nat.le_trans (by decide) hh) (by simp [Value.category]) dX11_rightAt_3 (fun r3 m3 => ?_)
  refine zr_istore_n (i := 2) (L1 := [(2, .int _), (0, .ref _), (1, .int _)]) C dX11_rightAt_6 rfl (by decide) rfl ?_
  refine zr_iload_n C dX11_rightAt_7 rfl ?_
  refine zr_if_ne (tgt := 13) C dX11_rightAt_8 (by decide) ?_ ?_
  · refine zr_iload_n C dX11_rightAt_13 rfl ?_
    refine zr_iload_n C dX11_rightAt_14 rfl ?_
    refine zr_irem C dX11_rightAt_15 ?_
    refine zr_istore_n (i := 3) (L1 := [(3, .int _), (2, .int _), (0, .ref _), (1, .int _)]) C dX11_rightAt_16 rfl (by decide) rfl ?_
    refine zr_iconst (v := 0) C dX11_rightAt_17 rfl ?_
    refine zr_istore (i := 4) (L1 := [(4, .int _), (3, .int _), (2, .int _), (0, .ref _), (1, .int _)]) C dX11_rightAt_18 (by decide) rfl ?_
    exact zr_sub [3, 1, 0] rfl (c_X11_rightAt_20 F C hh F m3 (((zrem a1 r3), 0)))
  · refine zr_iconst (v := -1) C dX11_rightAt_11 rfl ?_
    exact zr_iret C dX11_rightAt_12
theorem zk_X11_448 (C : zCx E cc RX11 nL ret Z h) (F : Nat) {b0 : Int32} (hk : 0 < zN 60) (hh : 4 + 1 ≤ h) (hst8 : (st.map fun v => v.category).sum ≤ 8) (hd : decode cc pc = .ok (.invokevirtual 448, 3)) {g : Int32 → zMem → Option (α × zMem)} (kk : ∀ (r : Int32) (σ1 : zMem), zKO E nL Z QQ (pc + 3) L (.int r :: st) σ1 (g r σ1)) : zKO E nL Z QQ pc L (.int b0 :: .ref (zad Z 60 0) :: st) σ (zb (f_X11_rightAt F σ b0) g) :=
  zr_callVI (As := [.int b0]) (ia := 1) C (fun r σ1 ho => c_X11_rightAt (zla E) Z F σ b0 r σ1 ho) wz_1644 hk rfl rfl wz_p122 wz_1646 wz_1647 wz_12 (by decide +kernel) rfl (by decide) hh hd hst8 kk
def f_X11_hour (F : Nat) (σ : zMem) (a1 : Int32) : Option (Int32 × zMem) := zb (f_X11_partsOf F σ ((-1)) 2) fun r3 m3 => if r3 = 0 then (some ((-1), m3)) else (if 0 ≤ a1 then (zb (f_X11_rightAt F m3 a1) fun r22 m22 => some (r22, m22)) else (some ((-2), m3)))
set_option maxHeartbeats 4000000 in
set_option maxRecDepth 100000 in
theorem c_X11_hour (l : Launch) (Z : zLay) (F : Nat) (σ : zMem) (a1 : Int32) (r : Int32) (σ1 : zMem) (ho : f_X11_hour F σ a1 = some (r, σ1)) : zMet l yX11_hour cX11_hour 2 (some .int) 5 Z [.ref (zad Z 60 0), .int (a1)] σ (zQI Z r σ1) := by
  refine zMet_of (Qc := zQI Z) (by decide) (Nat.le_of_ble_eq_true rfl) [(0, .ref (zad Z 60 0)), (1, .int (a1))] rfl (fun E C => ?_) ho
  have hh : 5 ≤ 5 := Nat.le_refl _
  show zKO E 2 Z (zMQ E Z (zQI Z)) 0 [(0, .ref (zad Z 60 0)), (1, .int (a1))] [] σ _
  unfold f_X11_hour
  refine zr_aload_n C dX11_hour_0 rfl ?_
  refine zr_iconst (v := -1) C dX11_hour_1 rfl ?_
  refine zr_iconst (v := 2) C dX11_hour_2 rfl ?_
  refine zk_X11_208 C F (Nat.le_of_ble_eq_true rfl) (Nat.le_trans (by decide) hh) (by simp [Value.category]) dX11_hour_3 (fun r3 m3 => ?_)
  refine zr_if_ne (tgt := 11) C dX11_hour_6 (by decide) ?_ ?_
  · refine zr_iload_n C dX11_hour_11 rfl ?_
    refine zr_if_ge (tgt := 20) C dX11_hour_12 (by decide) ?_ ?_
    · refine zr_aload_n C dX11_hour_20 rfl ?_
      refine zr_iload_n C dX11_hour_21 rfl ?_
      refine zk_X11_448 C F (Nat.le_of_ble_eq_true rfl) (Nat.le_trans (by decide) hh) (by simp [Value.category]) dX11_hour_22 (fun r22 m22 => ?_)
      exact zr_iret C dX11_hour_25
    · refine zr_bipush (v := -2) C dX11_hour_15 rfl ?_
      refine zr_goto (tgt := 25) C dX11_hour_17 (by decide) ?_
      exact zr_iret C dX11_hour_25
  · refine zr_iconst (v := -1) C dX11_hour_9 rfl ?_
    exact zr_iret C dX11_hour_10
def f_X11_gets_56 (F : Nat) (rec56 : zMem → Int32 × Int32 × Int32 → Option (Int32 × zMem)) (σ : zMem) (x : Int32 × Int32 × Int32) : Option (Int32 × zMem) := if (σ.1 60 0 46) ≤ x.2.2 then (some (0, σ)) else (zg (inb x.2.2 10) (zg (zni 100) (zg (inb x.2.2 10) (if (σ.1 101 0 x.2.2.toNatClampNeg) = x.1 then (some (((x.2.1 * (100 - (σ.1 102 0 x.2.2.toNatClampNeg))) / 100), σ)) else (rec56 σ ((x.1, ((x.2.1 * (100 - (σ.1 102 0 x.2.2.toNatClampNeg))) / 100), (x.2.2 + 1))))))))
set_option maxHeartbeats 4000000 in
set_option maxRecDepth 100000 in
theorem c_X11_gets_56 (F : Nat) {E : zEn} {h : Nat} {Z : zLay} (C : zCx E cX11_gets RX11 7 (some .int) Z h) (hh : 5 ≤ h) : ∀ (n : Nat) (σ : zMem) (x : Int32 × Int32 × Int32), zKO E 7 Z (zMQ E Z (zQI Z)) 56 [(0, .ref (zad Z 60 0)), (1, .int x.1), (5, .int x.2.1), (6, .int x.2.2)] [] σ (zit (f_X11_gets_56 F) n σ x) := by
  refine zr_loop (LL := fun (x : Int32 × Int32 × Int32) => [(0, .ref (zad Z 60 0)), (1, .int x.1), (5, .int x.2.1), (6, .int x.2.2)]) (ST := fun (x : Int32 × Int32 × Int32) => []) (fun rec56 hrec56 σ x => ?_)
  obtain ⟨l1, l5, l6⟩ := x
  show zKO E 7 Z (zMQ E Z (zQI Z)) 56 [(0, .ref (zad Z 60 0)), (1, .int l1), (5, .int l5), (6, .int l6)] [] σ (if (σ.1 60 0 46) ≤ l6 then (some (0, σ)) else (zg (inb l6 10) (zg (zni 100) (zg (inb l6 10) (if (σ.1 101 0 l6.toNatClampNeg) = l1 then (some (((l5 * (100 - (σ.1 102 0 l6.toNatClampNeg))) / 100), σ)) else (rec56 σ ((l1, ((l5 * (100 - (σ.1 102 0 l6.toNatClampNeg))) / 100), (l6 + 1)))))))))
  refine zr_iload C dX11_gets_56 rfl ?_
  refine zr_aload_n C dX11_gets_58 rfl ?_
  refine zf_X11_445 C (Nat.le_of_ble_eq_true rfl) dX11_gets_59 ?_
  refine zr_icmp_ge (tgt := 103) C dX11_gets_62 (by decide) ?_ ?_
  · refine zr_iconst (v := 0) C dX11_gets_103 rfl ?_
    exact zr_iret C dX11_gets_104
  · refine zr_iload C dX11_gets_65 rfl ?_
    refine zr_bipush (v := 100) C dX11_gets_67 rfl ?_
    refine zr_aload_n C dX11_gets_69 rfl ?_
    refine zf_X11_115 C (Nat.le_of_ble_eq_true rfl) dX11_gets_70 ?_
    refine zr_iload C dX11_gets_73 rfl ?_
    refine zr_iald (n := 10) C dX11_gets_75 (Nat.le_of_ble_eq_true rfl) rfl ?_
    refine zr_isub C dX11_gets_76 ?_
    refine zr_imul C dX11_gets_77 ?_
    refine zr_bipush (v := 100) C dX11_gets_78 rfl ?_
    refine zr_idiv C dX11_gets_80 ?_
    refine zr_istore (i := 5) (L1 := [(5, .int _), (0, .ref _), (1, .int _), (6, .int _)]) C dX11_gets_81 (by decide) rfl ?_
    refine zr_aload_n C dX11_gets_83 rfl ?_
    refine zf_X11_112 C (Nat.le_of_ble_eq_true rfl) dX11_gets_84 ?_
    refine zr_iload C dX11_gets_87 rfl ?_
    refine zr_iald (n := 10) C dX11_gets_89 (Nat.le_of_ble_eq_true rfl) rfl ?_
    refine zr_iload_n C dX11_gets_90 rfl ?_
    refine zr_icmp_ne (tgt := 97) C dX11_gets_91 (by decide) ?_ ?_
    · refine zr_iinc (kk := 3) (v := (l6 + 1)) (L1 := [(6, .int _), (5, .int _), (0, .ref _), (1, .int _)]) C dX11_gets_97 rfl rfl (by decide) rfl ?_
      refine zr_goto (tgt := 56) C dX11_gets_100 (by decide) ?_
      exact zr_sub [2, 3, 1, 0] rfl (hrec56 σ ((l1, ((l5 * (100 - (σ.1 102 0 l6.toNatClampNeg))) / 100), (l6 + 1))))
    · refine zr_iload C dX11_gets_94 rfl ?_
      exact zr_iret C dX11_gets_96
def f_X11_gets (F : Nat) (σ : zMem) (a1 : Int32) (a2 : Int32) (a3 : Int32) : Option (Int32 × zMem) := zb (f_X11_isHouse F σ a1) fun r2 m2 => if r2 = 0 then (some ((-5), m2)) else (if a2 < 0 then (some ((-5), m2)) else (zb (f_X11_in F m2 a3 0 10000) fun r17 m17 => if r17 = 0 then (some ((-5), m17)) else (zb (f_X11_rightAt F m17 a2) fun r28 m28 => if r28 < 0 then (some (0, m28)) else (zb (f_X11_holder F m28 r28) fun r41 m41 => if r41 = a1 then (zit (f_X11_gets_56 F) F m41 ((a1, a3, 0))) else (some (0, m41))))))
set_option maxHeartbeats 4000000 in
set_option maxRecDepth 100000 in
theorem c_X11_gets (l : Launch) (Z : zLay) (F : Nat) (σ : zMem) (a1 : Int32) (a2 : Int32) (a3 : Int32) (r : Int32) (σ1 : zMem) (ho : f_X11_gets F σ a1 a2 a3 = some (r, σ1)) : zMet l yX11_gets cX11_gets 7 (some .int) 5 Z [.ref (zad Z 60 0), .int (a1), .int (a2), .int (a3)] σ (zQI Z r σ1) := by
  refine zMet_of (Qc := zQI Z) (by decide) (Nat.le_of_ble_eq_true rfl) [(0, .ref (zad Z 60 0)), (1, .int (a1)), (2, .int (a2)), (3, .int (a3))] rfl (fun E C => ?_) ho
  have hh : 5 ≤ 5 := Nat.le_refl _
  show zKO E 7 Z (zMQ E Z (zQI Z)) 0 [(0, .ref (zad Z 60 0)), (1, .int (a1)), (2, .int (a2)), (3, .int (a3))] [] σ _
  unfold f_X11_gets
  refine zr_aload_n C dX11_gets_0 rfl ?_
  refine zr_iload_n C dX11_gets_1 rfl ?_
  refine zk_X11_181 C F (Nat.le_of_ble_eq_true rfl) (Nat.le_trans (by decide) hh) (by simp [Value.category]) dX11_gets_2 (fun r2 m2 => ?_)
  refine zr_if_eq (tgt := 23) C dX11_gets_5 (by decide) ?_ ?_
  · refine zr_bipush (v := -5) C dX11_gets_23 rfl ?_
    exact zr_iret C dX11_gets_25
  · refine zr_iload_n C dX11_gets_8 rfl ?_
    refine zr_if_lt (tgt := 23) C dX11_gets_9 (by decide) ?_ ?_
    · refine zr_bipush (v := -5) C dX11_gets_23 rfl ?_
      exact zr_iret C dX11_gets_25
    · refine zr_iload_n C dX11_gets_12 rfl ?_
      refine zr_iconst (v := 0) C dX11_gets_13 rfl ?_
      refine zr_sipush (v := 10000) C dX11_gets_14 rfl ?_
      refine zk_X11_163 C F (Nat.le_trans (by decide) hh) (by simp [Value.category]) dX11_gets_17 (fun r17 m17 => ?_)
      refine zr_if_ne (tgt := 26) C dX11_gets_20 (by decide) ?_ ?_
      · refine zr_aload_n C dX11_gets_26 rfl ?_
        refine zr_iload_n C dX11_gets_27 rfl ?_
        refine zk_X11_448 C F (Nat.le_of_ble_eq_true rfl) (Nat.le_trans (by decide) hh) (by simp [Value.category]) dX11_gets_28 (fun r28 m28 => ?_)
        refine zr_istore (i := 4) (L1 := [(4, .int _), (0, .ref _), (1, .int _), (2, .int _), (3, .int _)]) C dX11_gets_31 (by decide) rfl ?_
        refine zr_iload C dX11_gets_33 rfl ?_
        refine zr_if_lt (tgt := 48) C dX11_gets_35 (by decide) ?_ ?_
        · refine zr_iconst (v := 0) C dX11_gets_48 rfl ?_
          exact zr_iret C dX11_gets_49
        · refine zr_aload_n C dX11_gets_38 rfl ?_
          refine zr_iload C dX11_gets_39 rfl ?_
          refine zk_X11_205 C F (Nat.le_of_ble_eq_true rfl) (Nat.le_trans (by decide) hh) (by simp [Value.category]) dX11_gets_41 (fun r41 m41 => ?_)
          refine zr_iload_n C dX11_gets_44 rfl ?_
          refine zr_icmp_eq (tgt := 50) C dX11_gets_45 (by decide) ?_ ?_
          · refine zr_iload_n C dX11_gets_50 rfl ?_
            refine zr_istore (i := 5) (L1 := [(5, .int _), (4, .int _), (0, .ref _), (1, .int _), (2, .int _), (3, .int _)]) C dX11_gets_51 (by decide) rfl ?_
            refine zr_iconst (v := 0) C dX11_gets_53 rfl ?_
            refine zr_istore (i := 6) (L1 := [(6, .int _), (5, .int _), (4, .int _), (0, .ref _), (1, .int _), (2, .int _), (3, .int _)]) C dX11_gets_54 (by decide) rfl ?_
            exact zr_sub [3, 4, 1, 0] rfl (c_X11_gets_56 F C hh F m41 ((a1, a3, 0)))
          · refine zr_iconst (v := 0) C dX11_gets_48 rfl ?_
            exact zr_iret C dX11_gets_49
      · refine zr_bipush (v := -5) C dX11_gets_23 rfl ?_
        exact zr_iret C dX11_gets_25
def f_X11_canHave (F : Nat) (σ : zMem) (a1 : Int32) (a2 : Int32) : Option (Int32 × zMem) := if a1 = 0 then (zg (inb a2 10) (zg (inb 2 5) (if (σ.1 62 a2.toNatClampNeg 2) ≤ 0 then (some (0, σ)) else (some (1, σ))))) else (if a1 = 2 then (zg (inb a2 10) (zg (inb 1 5) (if (σ.1 62 a2.toNatClampNeg 1) < 3 then (some (0, σ)) else (some (1, σ))))) else (some (1, σ)))
set_option maxHeartbeats 4000000 in
set_option maxRecDepth 100000 in
theorem c_X11_canHave (l : Launch) (Z : zLay) (F : Nat) (σ : zMem) (a1 : Int32) (a2 : Int32) (r : Int32) (σ1 : zMem) (ho : f_X11_canHave F σ a1 a2 = some (r, σ1)) : zMet l yX11_canHave cX11_canHave 3 (some .boolean) 1 Z [.ref (zad Z 60 0), .int (a1), .int (a2)] σ (zQI Z r σ1) := by
  refine zMet_of (Qc := zQI Z) (by decide) (Nat.le_of_ble_eq_true rfl) [(0, .ref (zad Z 60 0)), (1, .int (a1)), (2, .int (a2))] rfl (fun E C => ?_) ho
  have hh : 1 ≤ 1 := Nat.le_refl _
  show zKO E 3 Z (zMQ E Z (zQI Z)) 0 [(0, .ref (zad Z 60 0)), (1, .int (a1)), (2, .int (a2))] [] σ _
  unfold f_X11_canHave
  refine zr_iload_n C dX11_canHave_0 rfl ?_
  refine zr_if_ne (tgt := 23) C dX11_canHave_1 (by decide) ?_ ?_
  · refine zr_iload_n C dX11_canHave_23 rfl ?_
    refine zr_iconst (v := 2) C dX11_canHave_24 rfl ?_
    refine zr_icmp_ne (tgt := 40) C dX11_canHave_25 (by decide) ?_ ?_
    · refine zr_iconst (v := 1) C dX11_canHave_40 rfl ?_
      refine zr_goto (tgt := 45) C dX11_canHave_41 (by decide) ?_
      exact zr_zret C dX11_canHave_45 rfl
    · refine zr_aload_n C dX11_canHave_28 rfl ?_
      refine zf_X11_9 C (Nat.le_of_ble_eq_true rfl) dX11_canHave_29 ?_
      refine zr_iload_n C dX11_canHave_32 rfl ?_
      refine zr_aald (n := 10) (k1 := 62) C dX11_canHave_33 (Nat.le_of_ble_eq_true rfl) rfl rfl rfl (fun hb33 => ?_)
      refine zr_iconst (v := 1) C dX11_canHave_34 rfl ?_
      refine zr_iald (n := 5) C dX11_canHave_35 hb33 rfl ?_
      refine zr_iconst (v := 3) C dX11_canHave_36 rfl ?_
      refine zr_icmp_lt (tgt := 44) C dX11_canHave_37 (by decide) ?_ ?_
      · refine zr_iconst (v := 0) C dX11_canHave_44 rfl ?_
        exact zr_zret C dX11_canHave_45 rfl
      · refine zr_iconst (v := 1) C dX11_canHave_40 rfl ?_
        refine zr_goto (tgt := 45) C dX11_canHave_41 (by decide) ?_
        exact zr_zret C dX11_canHave_45 rfl
  · refine zr_aload_n C dX11_canHave_4 rfl ?_
    refine zf_X11_9 C (Nat.le_of_ble_eq_true rfl) dX11_canHave_5 ?_
    refine zr_iload_n C dX11_canHave_8 rfl ?_
    refine zr_aald (n := 10) (k1 := 62) C dX11_canHave_9 (Nat.le_of_ble_eq_true rfl) rfl rfl rfl (fun hb9 => ?_)
    refine zr_iconst (v := 2) C dX11_canHave_10 rfl ?_
    refine zr_iald (n := 5) C dX11_canHave_11 hb9 rfl ?_
    refine zr_if_le (tgt := 19) C dX11_canHave_12 (by decide) ?_ ?_
    · refine zr_iconst (v := 0) C dX11_canHave_19 rfl ?_
      refine zr_goto (tgt := 45) C dX11_canHave_20 (by decide) ?_
      exact zr_zret C dX11_canHave_45 rfl
    · refine zr_iconst (v := 1) C dX11_canHave_15 rfl ?_
      refine zr_goto (tgt := 45) C dX11_canHave_16 (by decide) ?_
      exact zr_zret C dX11_canHave_45 rfl
theorem zk_X11_454 (C : zCx E cc RX11 nL ret Z h) (F : Nat) {b0 : Int32} {b1 : Int32} (hk : 0 < zN 60) (hh : 1 + 1 ≤ h) (hst8 : (st.map fun v => v.category).sum ≤ 8) (hd : decode cc pc = .ok (.invokevirtual 454, 3)) {g : Int32 → zMem → Option (α × zMem)} (kk : ∀ (r : Int32) (σ1 : zMem), zKO E nL Z QQ (pc + 3) L (.int r :: st) σ1 (g r σ1)) : zKO E nL Z QQ pc L (.int b1 :: .int b0 :: .ref (zad Z 60 0) :: st) σ (zb (f_X11_canHave F σ b0 b1) g) :=
  zr_callVI (As := [.int b0, .int b1]) (ia := 2) C (fun r σ1 ho => c_X11_canHave (zla E) Z F σ b0 b1 r σ1 ho) wz_1656 hk rfl rfl wz_p123 wz_1658 wz_1659 wz_12 (by decide +kernel) rfl (by decide) hh hd hst8 kk
def f_X11_turn_109 (F : Nat) (σ : zMem) (l4 : Int32) (s0 : Int32) : Option (Int32 × zMem) := some (l4, (zwi σ 60 0 50 s0))
set_option maxHeartbeats 4000000 in
set_option maxRecDepth 100000 in
theorem c_X11_turn_109 (F : Nat) {E : zEn} {h : Nat} {Z : zLay} (C : zCx E cX11_turn RX11 5 (some .int) Z h) (hh : 7 ≤ h) (σ : zMem) (l4 : Int32) (s0 : Int32) : zKO E 5 Z (zMQ E Z (zQI Z)) 109 [(4, .int l4)] [.int s0, .ref (zad Z 60 0)] σ (f_X11_turn_109 F σ l4 s0) := by
  unfold f_X11_turn_109
  refine zp_X11_451 C (Nat.le_of_ble_eq_true rfl) dX11_turn_109 ?_
  refine zr_iload C dX11_turn_112 rfl ?_
  exact zr_iret C dX11_turn_114
def f_X11_turn_59 (F : Nat) (rec59 : zMem → Int32 × Int32 × Int32 → Option (Int32 × zMem)) (σ : zMem) (x : Int32 × Int32 × Int32) : Option (Int32 × zMem) := if (σ.1 60 0 1) < x.2.2 then (some ((-1), σ)) else (zg (zni ((σ.1 60 0 1))) (zb (f_X11_canHave F σ x.1 ((zrem ((x.2.1 + x.2.2)) ((σ.1 60 0 1))))) fun r81 m81 => if r81 = 0 then (rec59 m81 ((x.1, x.2.1, (x.2.2 + 1)))) else (zg (inb x.1 3) (if x.1 = 1 then (f_X11_turn_109 F (zwi m81 103 0 x.1.toNatClampNeg ((zrem ((x.2.1 + x.2.2)) ((σ.1 60 0 1))))) ((zrem ((x.2.1 + x.2.2)) ((σ.1 60 0 1)))) 1) else (f_X11_turn_109 F (zwi m81 103 0 x.1.toNatClampNeg ((zrem ((x.2.1 + x.2.2)) ((σ.1 60 0 1))))) ((zrem ((x.2.1 + x.2.2)) ((σ.1 60 0 1)))) (((zwi m81 103 0 x.1.toNatClampNeg ((zrem ((x.2.1 + x.2.2)) ((σ.1 60 0 1))))).1 60 0 50)))))))
set_option maxHeartbeats 4000000 in
set_option maxRecDepth 100000 in
theorem c_X11_turn_59 (F : Nat) {E : zEn} {h : Nat} {Z : zLay} (C : zCx E cX11_turn RX11 5 (some .int) Z h) (hh : 7 ≤ h) : ∀ (n : Nat) (σ : zMem) (x : Int32 × Int32 × Int32), zKO E 5 Z (zMQ E Z (zQI Z)) 59 [(0, .ref (zad Z 60 0)), (1, .int x.1), (2, .int x.2.1), (3, .int x.2.2)] [] σ (zit (f_X11_turn_59 F) n σ x) := by
  refine zr_loop (LL := fun (x : Int32 × Int32 × Int32) => [(0, .ref (zad Z 60 0)), (1, .int x.1), (2, .int x.2.1), (3, .int x.2.2)]) (ST := fun (x : Int32 × Int32 × Int32) => []) (fun rec59 hrec59 σ x => ?_)
  obtain ⟨l1, l2, l3⟩ := x
  show zKO E 5 Z (zMQ E Z (zQI Z)) 59 [(0, .ref (zad Z 60 0)), (1, .int l1), (2, .int l2), (3, .int l3)] [] σ (if (σ.1 60 0 1) < l3 then (some ((-1), σ)) else (zg (zni ((σ.1 60 0 1))) (zb (f_X11_canHave F σ l1 ((zrem ((l2 + l3)) ((σ.1 60 0 1))))) fun r81 m81 => if r81 = 0 then (rec59 m81 ((l1, l2, (l3 + 1)))) else (zg (inb l1 3) (if l1 = 1 then (f_X11_turn_109 F (zwi m81 103 0 l1.toNatClampNeg ((zrem ((l2 + l3)) ((σ.1 60 0 1))))) ((zrem ((l2 + l3)) ((σ.1 60 0 1)))) 1) else (f_X11_turn_109 F (zwi m81 103 0 l1.toNatClampNeg ((zrem ((l2 + l3)) ((σ.1 60 0 1))))) ((zrem ((l2 + l3)) ((σ.1 60 0 1)))) (((zwi m81 103 0 l1.toNatClampNeg ((zrem ((l2 + l3)) ((σ.1 60 0 1))))).1 60 0 50))))))))
  refine zr_iload_n C dX11_turn_59 rfl ?_
  refine zr_aload_n C dX11_turn_60 rfl ?_
  refine zf_X11_160 C (Nat.le_of_ble_eq_true rfl) dX11_turn_61 ?_
  refine zr_icmp_gt (tgt := 121) C dX11_turn_64 (by decide) ?_ ?_
  · refine zr_iconst (v := -1) C dX11_turn_121 rfl ?_
    exact zr_iret C dX11_turn_122
  · refine zr_iload_n C dX11_turn_67 rfl ?_
    refine zr_iload_n C dX11_turn_68 rfl ?_
    refine zr_iadd C dX11_turn_69 ?_
    refine zr_aload_n C dX11_turn_70 rfl ?_
    refine zf_X11_160 C (Nat.le_of_ble_eq_true rfl) dX11_turn_71 ?_
    refine zr_irem C dX11_turn_74 ?_
    refine zr_istore (i := 4) (L1 := [(4, .int _), (0, .ref _), (1, .int _), (2, .int _), (3, .int _)]) C dX11_turn_75 (by decide) rfl ?_
    refine zr_aload_n C dX11_turn_77 rfl ?_
    refine zr_iload_n C dX11_turn_78 rfl ?_
    refine zr_iload C dX11_turn_79 rfl ?_
    refine zk_X11_454 C F (Nat.le_of_ble_eq_true rfl) (Nat.le_trans (by decide) hh) (by simp [Value.category]) dX11_turn_81 (fun r81 m81 => ?_)
    refine zr_if_eq (tgt := 115) C dX11_turn_84 (by decide) ?_ ?_
    · refine zr_iinc (kk := 4) (v := (l3 + 1)) (L1 := [(3, .int _), (4, .int _), (0, .ref _), (1, .int _), (2, .int _)]) C dX11_turn_115 rfl rfl (by decide) rfl ?_
      refine zr_goto (tgt := 59) C dX11_turn_118 (by decide) ?_
      exact zr_sub [2, 3, 4, 0] rfl (hrec59 m81 ((l1, l2, (l3 + 1))))
    · refine zr_aload_n C dX11_turn_87 rfl ?_
      refine zf_X11_118 C (Nat.le_of_ble_eq_true rfl) dX11_turn_88 ?_
      refine zr_iload_n C dX11_turn_91 rfl ?_
      refine zr_iload C dX11_turn_92 rfl ?_
      refine zr_iast (n := 3) C dX11_turn_94 (Nat.le_of_ble_eq_true rfl) (fun _ _ => rfl) ?_
      refine zr_aload_n C dX11_turn_95 rfl ?_
      refine zr_iload_n C dX11_turn_96 rfl ?_
      refine zr_iconst (v := 1) C dX11_turn_97 rfl ?_
      refine zr_icmp_ne (tgt := 105) C dX11_turn_98 (by decide) ?_ ?_
      · refine zr_aload_n C dX11_turn_105 rfl ?_
        refine zf_X11_451 C (Nat.le_of_ble_eq_true rfl) dX11_turn_106 ?_
        exact zr_sub [0] rfl (c_X11_turn_109 F C hh (zwi m81 103 0 l1.toNatClampNeg ((zrem ((l2 + l3)) ((σ.1 60 0 1))))) ((zrem ((l2 + l3)) ((σ.1 60 0 1)))) (((zwi m81 103 0 l1.toNatClampNeg ((zrem ((l2 + l3)) ((σ.1 60 0 1))))).1 60 0 50)))
      · refine zr_iconst (v := 1) C dX11_turn_101 rfl ?_
        refine zr_goto (tgt := 109) C dX11_turn_102 (by decide) ?_
        exact zr_sub [0] rfl (c_X11_turn_109 F C hh (zwi m81 103 0 l1.toNatClampNeg ((zrem ((l2 + l3)) ((σ.1 60 0 1))))) ((zrem ((l2 + l3)) ((σ.1 60 0 1)))) 1)
def f_X11_turn (F : Nat) (σ : zMem) (a1 : Int32) : Option (Int32 × zMem) := zb (f_X11_in F σ a1 0 2) fun r3 m3 => if r3 = 0 then (some ((-1), m3)) else (zg (inb a1 3) (if a1 = 1 then (if (m3.1 103 0 a1.toNatClampNeg) < 0 then (zit (f_X11_turn_59 F) F m3 ((a1, (m3.1 103 0 a1.toNatClampNeg), 1))) else (zb (f_X11_now F m3 ((m3.1 103 0 a1.toNatClampNeg)) 7) fun r36 m36 => if (zmax 1 r36) ≤ (m3.1 60 0 50) then (zit (f_X11_turn_59 F) F m36 ((a1, (m3.1 103 0 a1.toNatClampNeg), 1))) else (some ((m3.1 103 0 a1.toNatClampNeg), (zwi m36 60 0 50 (((m36.1 60 0 50) + 1))))))) else (zit (f_X11_turn_59 F) F m3 ((a1, (m3.1 103 0 a1.toNatClampNeg), 1)))))
set_option maxHeartbeats 4000000 in
set_option maxRecDepth 100000 in
theorem c_X11_turn (l : Launch) (Z : zLay) (F : Nat) (σ : zMem) (a1 : Int32) (r : Int32) (σ1 : zMem) (ho : f_X11_turn F σ a1 = some (r, σ1)) : zMet l yX11_turn cX11_turn 5 (some .int) 7 Z [.ref (zad Z 60 0), .int (a1)] σ (zQI Z r σ1) := by
  refine zMet_of (Qc := zQI Z) (by decide) (Nat.le_of_ble_eq_true rfl) [(0, .ref (zad Z 60 0)), (1, .int (a1))] rfl (fun E C => ?_) ho
  have hh : 7 ≤ 7 := Nat.le_refl _
  show zKO E 5 Z (zMQ E Z (zQI Z)) 0 [(0, .ref (zad Z 60 0)), (1, .int (a1))] [] σ _
  unfold f_X11_turn
  refine zr_iload_n C dX11_turn_0 rfl ?_
  refine zr_iconst (v := 0) C dX11_turn_1 rfl ?_
  refine zr_iconst (v := 2) C dX11_turn_2 rfl ?_
  refine zk_X11_163 C F (Nat.le_trans (by decide) hh) (by simp [Value.category]) dX11_turn_3 (fun r3 m3 => ?_)
  refine zr_if_ne (tgt := 11) C dX11_turn_6 (by decide) ?_ ?_
  · refine zr_aload_n C dX11_turn_11 rfl ?_
    refine zf_X11_118 C (Nat.le_of_ble_eq_true rfl) dX11_turn_12 ?_
    refine zr_iload_n C dX11_turn_15 rfl ?_
    refine zr_iald (n := 3) C dX11_turn_16 (Nat.le_of_ble_eq_true rfl) rfl ?_
    refine zr_istore_n (i := 2) (L1 := [(2, .int _), (0, .ref _), (1, .int _)]) C dX11_turn_17 rfl (by decide) rfl ?_
    refine zr_iload_n C dX11_turn_18 rfl ?_
    refine zr_iconst (v := 1) C dX11_turn_19 rfl ?_
    refine zr_icmp_ne (tgt := 57) C dX11_turn_20 (by decide) ?_ ?_
    · refine zr_iconst (v := 1) C dX11_turn_57 rfl ?_
      refine zr_istore_n (i := 3) (L1 := [(3, .int _), (2, .int _), (0, .ref _), (1, .int _)]) C dX11_turn_58 rfl (by decide) rfl ?_
      exact zr_sub [2, 3, 1, 0] rfl (c_X11_turn_59 F C hh F m3 ((a1, (m3.1 103 0 a1.toNatClampNeg), 1)))
    · refine zr_iload_n C dX11_turn_23 rfl ?_
      refine zr_if_lt (tgt := 57) C dX11_turn_24 (by decide) ?_ ?_
      · refine zr_iconst (v := 1) C dX11_turn_57 rfl ?_
        refine zr_istore_n (i := 3) (L1 := [(3, .int _), (2, .int _), (0, .ref _), (1, .int _)]) C dX11_turn_58 rfl (by decide) rfl ?_
        exact zr_sub [2, 3, 1, 0] rfl (c_X11_turn_59 F C hh F m3 ((a1, (m3.1 103 0 a1.toNatClampNeg), 1)))
      · refine zr_aload_n C dX11_turn_27 rfl ?_
        refine zf_X11_451 C (Nat.le_of_ble_eq_true rfl) dX11_turn_28 ?_
        refine zr_iconst (v := 1) C dX11_turn_31 rfl ?_
        refine zr_aload_n C dX11_turn_32 rfl ?_
        refine zr_iload_n C dX11_turn_33 rfl ?_
        refine zr_bipush (v := 7) C dX11_turn_34 rfl ?_
        refine zk_X11_366 C F (Nat.le_of_ble_eq_true rfl) (Nat.le_trans (by decide) hh) (by simp [Value.category]) dX11_turn_36 (fun r36 m36 => ?_)
        refine zr_mmax C wz_1555 wz_606 wz_17 wz_607 (Nat.le_trans (by decide) hh) (by simp [Value.category]) dX11_turn_39 ?_
        refine zr_icmp_ge (tgt := 57) C dX11_turn_42 (by decide) ?_ ?_
        · refine zr_iconst (v := 1) C dX11_turn_57 rfl ?_
          refine zr_istore_n (i := 3) (L1 := [(3, .int _), (2, .int _), (0, .ref _), (1, .int _)]) C dX11_turn_58 rfl (by decide) rfl ?_
          exact zr_sub [2, 3, 1, 0] rfl (c_X11_turn_59 F C hh F m36 ((a1, (m3.1 103 0 a1.toNatClampNeg), 1)))
        · refine zr_aload_n C dX11_turn_45 rfl ?_
          refine zr_dup C dX11_turn_46 rfl ?_
          refine zf_X11_451 C (Nat.le_of_ble_eq_true rfl) dX11_turn_47 ?_
          refine zr_iconst (v := 1) C dX11_turn_50 rfl ?_
          refine zr_iadd C dX11_turn_51 ?_
          refine zp_X11_451 C (Nat.le_of_ble_eq_true rfl) dX11_turn_52 ?_
          refine zr_iload_n C dX11_turn_55 rfl ?_
          exact zr_iret C dX11_turn_56
  · refine zr_iconst (v := -1) C dX11_turn_9 rfl ?_
    exact zr_iret C dX11_turn_10
def f_X11_work (F : Nat) (σ : zMem) (a1 : Int32) (a2 : Int32) : Option (Int32 × zMem) := zb (f_X11_isHouse F σ a1) fun r2 m2 => if r2 = 0 then (some ((-1), m2)) else (zb (f_X11_in F m2 a2 1 999) fun r15 m15 => if r15 = 0 then (some ((-2), m15)) else (zg (inb a1 10) (zg (inb a1 10) (zg (inb a1 10) (some (((zwi m15 70 0 a1.toNatClampNeg (((m15.1 70 0 a1.toNatClampNeg) + a2))).1 70 0 a1.toNatClampNeg), (zwi m15 70 0 a1.toNatClampNeg (((m15.1 70 0 a1.toNatClampNeg) + a2)))))))))
set_option maxHeartbeats 4000000 in
set_option maxRecDepth 100000 in
theorem c_X11_work (l : Launch) (Z : zLay) (F : Nat) (σ : zMem) (a1 : Int32) (a2 : Int32) (r : Int32) (σ1 : zMem) (ho : f_X11_work F σ a1 a2 = some (r, σ1)) : zMet l yX11_work cX11_work 3 (some .int) 3 Z [.ref (zad Z 60 0), .int (a1), .int (a2)] σ (zQI Z r σ1) := by
  refine zMet_of (Qc := zQI Z) (by decide) (Nat.le_of_ble_eq_true rfl) [(0, .ref (zad Z 60 0)), (1, .int (a1)), (2, .int (a2))] rfl (fun E C => ?_) ho
  have hh : 3 ≤ 3 := Nat.le_refl _
  show zKO E 3 Z (zMQ E Z (zQI Z)) 0 [(0, .ref (zad Z 60 0)), (1, .int (a1)), (2, .int (a2))] [] σ _
  unfold f_X11_work
  refine zr_aload_n C dX11_work_0 rfl ?_
  refine zr_iload_n C dX11_work_1 rfl ?_
  refine zk_X11_181 C F (Nat.le_of_ble_eq_true rfl) (Nat.le_trans (by decide) hh) (by simp [Value.category]) dX11_work_2 (fun r2 m2 => ?_)
  refine zr_if_ne (tgt := 10) C dX11_work_5 (by decide) ?_ ?_
  · refine zr_iload_n C dX11_work_10 rfl ?_
    refine zr_iconst (v := 1) C dX11_work_11 rfl ?_
    refine zr_sipush (v := 999) C dX11_work_12 rfl ?_
    refine zk_X11_163 C F (Nat.le_trans (by decide) hh) (by simp [Value.category]) dX11_work_15 (fun r15 m15 => ?_)
    refine zr_if_ne (tgt := 24) C dX11_work_18 (by decide) ?_ ?_
    · refine zr_aload_n C dX11_work_24 rfl ?_
      refine zf_X11_36 C (Nat.le_of_ble_eq_true rfl) dX11_work_25 ?_
      refine zr_iload_n C dX11_work_28 rfl ?_
      refine zr_dup2 C dX11_work_29 rfl rfl ?_
      refine zr_iald (n := 10) C dX11_work_30 (Nat.le_of_ble_eq_true rfl) rfl ?_
      refine zr_iload_n C dX11_work_31 rfl ?_
      refine zr_iadd C dX11_work_32 ?_
      refine zr_iast (n := 10) C dX11_work_33 (Nat.le_of_ble_eq_true rfl) (fun _ _ => rfl) ?_
      refine zr_aload_n C dX11_work_34 rfl ?_
      refine zf_X11_36 C (Nat.le_of_ble_eq_true rfl) dX11_work_35 ?_
      refine zr_iload_n C dX11_work_38 rfl ?_
      refine zr_iald (n := 10) C dX11_work_39 (Nat.le_of_ble_eq_true rfl) rfl ?_
      exact zr_iret C dX11_work_40
    · refine zr_bipush (v := -2) C dX11_work_21 rfl ?_
      exact zr_iret C dX11_work_23
  · refine zr_iconst (v := -1) C dX11_work_8 rfl ?_
    exact zr_iret C dX11_work_9
def f_X11_year_34 (F : Nat) (rec34 : zMem → Int32 × Int32 → Option (Int32 × zMem)) (σ : zMem) (x : Int32 × Int32) : Option (Int32 × zMem) := if (σ.1 60 0 1) ≤ x.2 then (some (x.1, σ)) else (zb (f_X11_now F σ x.2 4) fun r46 m46 => zg (inb x.2 10) (zg (inb 1 5) (zg (inb x.2 10) (zb (f_X11_now F m46 x.2 5) fun r77 m77 => zb (f_X11_owes F m77 x.2 (((((zmax 0 (((r46 * (m46.1 62 x.2.toNatClampNeg 1)) - (m46.1 70 0 x.2.toNatClampNeg))))).toInt64) * (r77.toInt64)))) fun r82 m82 => zg (inb x.2 10) (rec34 (zwi m82 70 0 x.2.toNatClampNeg 0) (((x.1 + r82), (x.2 + 1))))))))
set_option maxHeartbeats 4000000 in
set_option maxRecDepth 100000 in
theorem c_X11_year_34 (F : Nat) {E : zEn} {h : Nat} {Z : zLay} (C : zCx E cX11_year RX11 4 (some .int) Z h) (hh : 7 ≤ h) : ∀ (n : Nat) (σ : zMem) (x : Int32 × Int32), zKO E 4 Z (zMQ E Z (zQI Z)) 34 [(0, .ref (zad Z 60 0)), (1, .int x.1), (2, .int x.2)] [] σ (zit (f_X11_year_34 F) n σ x) := by
  refine zr_loop (LL := fun (x : Int32 × Int32) => [(0, .ref (zad Z 60 0)), (1, .int x.1), (2, .int x.2)]) (ST := fun (x : Int32 × Int32) => []) (fun rec34 hrec34 σ x => ?_)
  obtain ⟨l1, l2⟩ := x
  show zKO E 4 Z (zMQ E Z (zQI Z)) 34 [(0, .ref (zad Z 60 0)), (1, .int l1), (2, .int l2)] [] σ (if (σ.1 60 0 1) ≤ l2 then (some (l1, σ)) else (zb (f_X11_now F σ l2 4) fun r46 m46 => zg (inb l2 10) (zg (inb 1 5) (zg (inb l2 10) (zb (f_X11_now F m46 l2 5) fun r77 m77 => zb (f_X11_owes F m77 l2 (((((zmax 0 (((r46 * (m46.1 62 l2.toNatClampNeg 1)) - (m46.1 70 0 l2.toNatClampNeg))))).toInt64) * (r77.toInt64)))) fun r82 m82 => zg (inb l2 10) (rec34 (zwi m82 70 0 l2.toNatClampNeg 0) (((l1 + r82), (l2 + 1)))))))))
  refine zr_iload_n C dX11_year_34 rfl ?_
  refine zr_aload_n C dX11_year_35 rfl ?_
  refine zf_X11_160 C (Nat.le_of_ble_eq_true rfl) dX11_year_36 ?_
  refine zr_icmp_ge (tgt := 100) C dX11_year_39 (by decide) ?_ ?_
  · refine zr_iload_n C dX11_year_100 rfl ?_
    exact zr_iret C dX11_year_101
  · refine zr_iconst (v := 0) C dX11_year_42 rfl ?_
    refine zr_aload_n C dX11_year_43 rfl ?_
    refine zr_iload_n C dX11_year_44 rfl ?_
    refine zr_iconst (v := 4) C dX11_year_45 rfl ?_
    refine zk_X11_366 C F (Nat.le_of_ble_eq_true rfl) (Nat.le_trans (by decide) hh) (by simp [Value.category]) dX11_year_46 (fun r46 m46 => ?_)
    refine zr_aload_n C dX11_year_49 rfl ?_
    refine zf_X11_9 C (Nat.le_of_ble_eq_true rfl) dX11_year_50 ?_
    refine zr_iload_n C dX11_year_53 rfl ?_
    refine zr_aald (n := 10) (k1 := 62) C dX11_year_54 (Nat.le_of_ble_eq_true rfl) rfl rfl rfl (fun hb54 => ?_)
    refine zr_iconst (v := 1) C dX11_year_55 rfl ?_
    refine zr_iald (n := 5) C dX11_year_56 hb54 rfl ?_
    refine zr_imul C dX11_year_57 ?_
    refine zr_aload_n C dX11_year_58 rfl ?_
    refine zf_X11_36 C (Nat.le_of_ble_eq_true rfl) dX11_year_59 ?_
    refine zr_iload_n C dX11_year_62 rfl ?_
    refine zr_iald (n := 10) C dX11_year_63 (Nat.le_of_ble_eq_true rfl) rfl ?_
    refine zr_isub C dX11_year_64 ?_
    refine zr_mmax C wz_1555 wz_606 wz_17 wz_607 (Nat.le_trans (by decide) hh) (by simp [Value.category]) dX11_year_65 ?_
    refine zr_istore_n (i := 3) (L1 := [(3, .int _), (0, .ref _), (1, .int _), (2, .int _)]) C dX11_year_68 rfl (by decide) rfl ?_
    refine zr_iload_n C dX11_year_69 rfl ?_
    refine zr_aload_n C dX11_year_70 rfl ?_
    refine zr_iload_n C dX11_year_71 rfl ?_
    refine zr_iload_n C dX11_year_72 rfl ?_
    refine zr_i2l C dX11_year_73 ?_
    refine zr_aload_n C dX11_year_74 rfl ?_
    refine zr_iload_n C dX11_year_75 rfl ?_
    refine zr_iconst (v := 5) C dX11_year_76 rfl ?_
    refine zk_X11_366 C F (Nat.le_of_ble_eq_true rfl) (Nat.le_trans (by decide) hh) (by simp [Value.category]) dX11_year_77 (fun r77 m77 => ?_)
    refine zr_i2l C dX11_year_80 ?_
    refine zr_lmul C dX11_year_81 ?_
    refine zk_X11_381 C F (Nat.le_of_ble_eq_true rfl) (Nat.le_trans (by decide) hh) (by simp [Value.category]) dX11_year_82 (fun r82 m82 => ?_)
    refine zr_iadd C dX11_year_85 ?_
    refine zr_istore_n (i := 1) (L1 := [(1, .int _), (3, .int _), (0, .ref _), (2, .int _)]) C dX11_year_86 rfl (by decide) rfl ?_
    refine zr_aload_n C dX11_year_87 rfl ?_
    refine zf_X11_36 C (Nat.le_of_ble_eq_true rfl) dX11_year_88 ?_
    refine zr_iload_n C dX11_year_91 rfl ?_
    refine zr_iconst (v := 0) C dX11_year_92 rfl ?_
    refine zr_iast (n := 10) C dX11_year_93 (Nat.le_of_ble_eq_true rfl) (fun _ _ => rfl) ?_
    refine zr_iinc (kk := 3) (v := (l2 + 1)) (L1 := [(2, .int _), (1, .int _), (3, .int _), (0, .ref _)]) C dX11_year_94 rfl rfl (by decide) rfl ?_
    refine zr_goto (tgt := 34) C dX11_year_97 (by decide) ?_
    exact zr_sub [3, 1, 0] rfl (hrec34 (zwi m82 70 0 l2.toNatClampNeg 0) (((l1 + r82), (l2 + 1))))
def f_X11_year (F : Nat) (σ : zMem) : Option (Int32 × zMem) := zg (zni 360) (if (σ.1 60 0 51) = ((σ.1 60 0 0) / 360) then (some ((-3), σ)) else (zg (zni 360) (zit (f_X11_year_34 F) F (zwi σ 60 0 51 (((σ.1 60 0 0) / 360))) ((0, 0)))))
set_option maxHeartbeats 4000000 in
set_option maxRecDepth 100000 in
theorem c_X11_year (l : Launch) (Z : zLay) (F : Nat) (σ : zMem) (r : Int32) (σ1 : zMem) (ho : f_X11_year F σ = some (r, σ1)) : zMet l yX11_year cX11_year 4 (some .int) 7 Z [.ref (zad Z 60 0)] σ (zQI Z r σ1) := by
  refine zMet_of (Qc := zQI Z) (by decide) (Nat.le_of_ble_eq_true rfl) [(0, .ref (zad Z 60 0))] rfl (fun E C => ?_) ho
  have hh : 7 ≤ 7 := Nat.le_refl _
  show zKO E 4 Z (zMQ E Z (zQI Z)) 0 [(0, .ref (zad Z 60 0))] [] σ _
  unfold f_X11_year
  refine zr_aload_n C dX11_year_0 rfl ?_
  refine zf_X11_121 C (Nat.le_of_ble_eq_true rfl) dX11_year_1 ?_
  refine zr_aload_n C dX11_year_4 rfl ?_
  refine zf_X11_193 C (Nat.le_of_ble_eq_true rfl) dX11_year_5 ?_
  refine zr_sipush (v := 360) C dX11_year_8 rfl ?_
  refine zr_idiv C dX11_year_11 ?_
  refine zr_icmp_ne (tgt := 18) C dX11_year_12 (by decide) ?_ ?_
  · refine zr_aload_n C dX11_year_18 rfl ?_
    refine zr_aload_n C dX11_year_19 rfl ?_
    refine zf_X11_193 C (Nat.le_of_ble_eq_true rfl) dX11_year_20 ?_
    refine zr_sipush (v := 360) C dX11_year_23 rfl ?_
    refine zr_idiv C dX11_year_26 ?_
    refine zp_X11_121 C (Nat.le_of_ble_eq_true rfl) dX11_year_27 ?_
    refine zr_iconst (v := 0) C dX11_year_30 rfl ?_
    refine zr_istore_n (i := 1) (L1 := [(1, .int _), (0, .ref _)]) C dX11_year_31 rfl (by decide) rfl ?_
    refine zr_iconst (v := 0) C dX11_year_32 rfl ?_
    refine zr_istore_n (i := 2) (L1 := [(2, .int _), (1, .int _), (0, .ref _)]) C dX11_year_33 rfl (by decide) rfl ?_
    exact zr_sub [2, 1, 0] rfl (c_X11_year_34 F C hh F (zwi σ 60 0 51 (((σ.1 60 0 0) / 360))) ((0, 0)))
  · refine zr_bipush (v := -3) C dX11_year_15 rfl ?_
    exact zr_iret C dX11_year_17
def f_X11_tried_145 (F : Nat) (rec80 : zMem → Int32 × Int32 × Nat × Nat × Nat × Int32 × Int32 → Option (Int32 × zMem)) (rec102 : zMem → Int32 × Int32 × Nat × Nat × Nat × Int32 × Int32 × Int32 → Option (Int32 × zMem)) (σ : zMem) (l1 : Int32) (l2 : Int32) (l3k : Nat) (l4k : Nat) (l5k : Nat) (l6 : Int32) (l7 : Int32) (l8 : Int32) (s0 : Int32) (s1 : Int32) (s2 : Nat) : Option (Int32 × zMem) := zg (zdG l3k) (zg (zdS l4k) (zg (zdU l5k) (zg (decide (s2 < 4)) (zg (inb s1 10) (rec102 (zwi σ 116 s2 s1.toNatClampNeg s0) ((l1, l2, l3k, l4k, l5k, l6, l7, (l8 + 1))))))))
set_option maxHeartbeats 4000000 in
set_option maxRecDepth 100000 in
theorem c_X11_tried_145 (F : Nat) (rec80 : zMem → Int32 × Int32 × Nat × Nat × Nat × Int32 × Int32 → Option (Int32 × zMem)) (rec102 : zMem → Int32 × Int32 × Nat × Nat × Nat × Int32 × Int32 × Int32 → Option (Int32 × zMem)) {E : zEn} {h : Nat} {Z : zLay} (C : zCx E cX11_tried RX11 11 (some .int) Z h) (hh : 3 ≤ h) (hrec80 : ∀ (σ : zMem) (x : Int32 × Int32 × Nat × Nat × Nat × Int32 × Int32), zKO E 11 Z (zMQ E Z (zQI Z)) 80 [(0, .ref (zad Z 60 0)), (1, .int x.1), (2, .int x.2.1), (3, .ref (zad Z x.2.2.1 0)), (4, .ref (zad Z x.2.2.2.1 0)), (5, .ref (zad Z x.2.2.2.2.1 0)), (6, .int x.2.2.2.2.2.1), (7, .int x.2.2.2.2.2.2)] [] σ (rec80 σ x)) (hrec102 : ∀ (σ : zMem) (x : Int32 × Int32 × Nat × Nat × Nat × Int32 × Int32 × Int32), zKO E 11 Z (zMQ E Z (zQI Z)) 102 [(0, .ref (zad Z 60 0)), (1, .int x.1), (2, .int x.2.1), (3, .ref (zad Z x.2.2.1 0)), (4, .ref (zad Z x.2.2.2.1 0)), (5, .ref (zad Z x.2.2.2.2.1 0)), (6, .int x.2.2.2.2.2.1), (7, .int x.2.2.2.2.2.2.1), (8, .int x.2.2.2.2.2.2.2)] [] σ (rec102 σ x)) (σ : zMem) (l1 : Int32) (l2 : Int32) (l3k : Nat) (l4k : Nat) (l5k : Nat) (l6 : Int32) (l7 : Int32) (l8 : Int32) (s0 : Int32) (s1 : Int32) (s2 : Nat) : zKO E 11 Z (zMQ E Z (zQI Z)) 145 [(0, .ref (zad Z 60 0)), (1, .int l1), (2, .int l2), (3, .ref (zad Z l3k 0)), (4, .ref (zad Z l4k 0)), (5, .ref (zad Z l5k 0)), (6, .int l6), (7, .int l7), (8, .int l8)] [.int s0, .int s1, .ref (zad Z 116 s2)] σ (f_X11_tried_145 F rec80 rec102 σ l1 l2 l3k l4k l5k l6 l7 l8 s0 s1 s2) := by
  unfold f_X11_tried_145
  refine zr_g (fun hl3k => ?_)
  refine zr_g (fun hl4k => ?_)
  refine zr_g (fun hl5k => ?_)
  refine zr_g (fun hs2 => ?_)
  refine zr_iast (n := 10) C dX11_tried_145 (of_decide_eq_true hs2) (fun _ _ => rfl) ?_
  refine zr_iinc (kk := 8) (v := (l8 + 1)) (L1 := [(8, .int _), (0, .ref _), (1, .int _), (2, .int _), (3, .ref _), (4, .ref _), (5, .ref _), (6, .int _), (7, .int _)]) C dX11_tried_146 rfl rfl (by decide) rfl ?_
  refine zr_goto (tgt := 102) C dX11_tried_149 (by decide) ?_
  exact zr_sub [1, 2, 3, 4, 5, 6, 7, 8, 0] rfl (hrec102 (zwi σ 116 s2 s1.toNatClampNeg s0) ((l1, l2, l3k, l4k, l5k, l6, l7, (l8 + 1))))
def f_X11_tried_102 (F : Nat) (rec80 : zMem → Int32 × Int32 × Nat × Nat × Nat × Int32 × Int32 → Option (Int32 × zMem)) (rec102 : zMem → Int32 × Int32 × Nat × Nat × Nat × Int32 × Int32 × Int32 → Option (Int32 × zMem)) (σ : zMem) (x : Int32 × Int32 × Nat × Nat × Nat × Int32 × Int32 × Int32) : Option (Int32 × zMem) := zg (zdG x.2.2.1) (zg (zdS x.2.2.2.1) (zg (zdU x.2.2.2.2.1) (if (σ.1 60 0 25) ≤ x.2.2.2.2.2.2.2 then (rec80 σ ((x.1, x.2.1, x.2.2.1, x.2.2.2.1, x.2.2.2.2.1, (x.2.2.2.2.2.1 + 1), (x.2.2.2.2.2.2.1 + 1)))) else (zg (inb x.2.2.2.2.2.2.2 4) (zg (inb x.2.2.2.2.2.1 5) (if x.2.2.2.2.2.2.2 = (σ.1 117 0 x.2.2.2.2.2.1.toNatClampNeg) then (zg (inb x.2.2.2.2.2.2.1 10) (zg (inb 2 5) (f_X11_tried_145 F rec80 rec102 σ x.1 x.2.1 x.2.2.1 x.2.2.2.1 x.2.2.2.2.1 x.2.2.2.2.2.1 x.2.2.2.2.2.2.1 x.2.2.2.2.2.2.2 ((σ.1 62 x.2.2.2.2.2.2.1.toNatClampNeg 2)) x.2.2.2.2.2.2.1 x.2.2.2.2.2.2.2.toNatClampNeg))) else (f_X11_tried_145 F rec80 rec102 σ x.1 x.2.1 x.2.2.1 x.2.2.2.1 x.2.2.2.2.1 x.2.2.2.2.2.1 x.2.2.2.2.2.2.1 x.2.2.2.2.2.2.2 0 x.2.2.2.2.2.2.1 x.2.2.2.2.2.2.2.toNatClampNeg)))))))
set_option maxHeartbeats 4000000 in
set_option maxRecDepth 100000 in
theorem c_X11_tried_102 (F : Nat) (rec80 : zMem → Int32 × Int32 × Nat × Nat × Nat × Int32 × Int32 → Option (Int32 × zMem)) {E : zEn} {h : Nat} {Z : zLay} (C : zCx E cX11_tried RX11 11 (some .int) Z h) (hh : 3 ≤ h) (hrec80 : ∀ (σ : zMem) (x : Int32 × Int32 × Nat × Nat × Nat × Int32 × Int32), zKO E 11 Z (zMQ E Z (zQI Z)) 80 [(0, .ref (zad Z 60 0)), (1, .int x.1), (2, .int x.2.1), (3, .ref (zad Z x.2.2.1 0)), (4, .ref (zad Z x.2.2.2.1 0)), (5, .ref (zad Z x.2.2.2.2.1 0)), (6, .int x.2.2.2.2.2.1), (7, .int x.2.2.2.2.2.2)] [] σ (rec80 σ x)) : ∀ (n : Nat) (σ : zMem) (x : Int32 × Int32 × Nat × Nat × Nat × Int32 × Int32 × Int32), zKO E 11 Z (zMQ E Z (zQI Z)) 102 [(0, .ref (zad Z 60 0)), (1, .int x.1), (2, .int x.2.1), (3, .ref (zad Z x.2.2.1 0)), (4, .ref (zad Z x.2.2.2.1 0)), (5, .ref (zad Z x.2.2.2.2.1 0)), (6, .int x.2.2.2.2.2.1), (7, .int x.2.2.2.2.2.2.1), (8, .int x.2.2.2.2.2.2.2)] [] σ (zit (f_X11_tried_102 F rec80) n σ x) := by
  refine zr_loop (LL := fun (x : Int32 × Int32 × Nat × Nat × Nat × Int32 × Int32 × Int32) => [(0, .ref (zad Z 60 0)), (1, .int x.1), (2, .int x.2.1), (3, .ref (zad Z x.2.2.1 0)), (4, .ref (zad Z x.2.2.2.1 0)), (5, .ref (zad Z x.2.2.2.2.1 0)), (6, .int x.2.2.2.2.2.1), (7, .int x.2.2.2.2.2.2.1), (8, .int x.2.2.2.2.2.2.2)]) (ST := fun (x : Int32 × Int32 × Nat × Nat × Nat × Int32 × Int32 × Int32) => []) (fun rec102 hrec102 σ x => ?_)
  obtain ⟨l1, l2, l3k, l4k, l5k, l6, l7, l8⟩ := x
  show zKO E 11 Z (zMQ E Z (zQI Z)) 102 [(0, .ref (zad Z 60 0)), (1, .int l1), (2, .int l2), (3, .ref (zad Z l3k 0)), (4, .ref (zad Z l4k 0)), (5, .ref (zad Z l5k 0)), (6, .int l6), (7, .int l7), (8, .int l8)] [] σ (zg (zdG l3k) (zg (zdS l4k) (zg (zdU l5k) (if (σ.1 60 0 25) ≤ l8 then (rec80 σ ((l1, l2, l3k, l4k, l5k, (l6 + 1), (l7 + 1)))) else (zg (inb l8 4) (zg (inb l6 5) (if l8 = (σ.1 117 0 l6.toNatClampNeg) then (zg (inb l7 10) (zg (inb 2 5) (f_X11_tried_145 F rec80 rec102 σ l1 l2 l3k l4k l5k l6 l7 l8 ((σ.1 62 l7.toNatClampNeg 2)) l7 l8.toNatClampNeg))) else (f_X11_tried_145 F rec80 rec102 σ l1 l2 l3k l4k l5k l6 l7 l8 0 l7 l8.toNatClampNeg))))))))
  refine zr_g (fun hl3k => ?_)
  refine zr_g (fun hl4k => ?_)
  refine zr_g (fun hl5k => ?_)
  refine zr_iload C dX11_tried_102 rfl ?_
  refine zr_aload_n C dX11_tried_104 rfl ?_
  refine zf_X11_170 C (Nat.le_of_ble_eq_true rfl) dX11_tried_105 ?_
  refine zr_icmp_ge (tgt := 152) C dX11_tried_108 (by decide) ?_ ?_
  · refine zr_iinc (kk := 6) (v := (l6 + 1)) (L1 := [(6, .int _), (0, .ref _), (1, .int _), (2, .int _), (3, .ref _), (4, .ref _), (5, .ref _), (7, .int _), (8, .int _)]) C dX11_tried_152 rfl rfl (by decide) rfl ?_
    refine zr_iinc (kk := 7) (v := (l7 + 1)) (L1 := [(7, .int _), (6, .int _), (0, .ref _), (1, .int _), (2, .int _), (3, .ref _), (4, .ref _), (5, .ref _), (8, .int _)]) C dX11_tried_155 rfl rfl (by decide) rfl ?_
    refine zr_goto (tgt := 80) C dX11_tried_158 (by decide) ?_
    exact zr_sub [2, 3, 4, 5, 6, 7, 1, 0] rfl (hrec80 σ ((l1, l2, l3k, l4k, l5k, (l6 + 1), (l7 + 1))))
  · refine zr_aload_n C dX11_tried_111 rfl ?_
    refine zf_X11_151 C (Nat.le_of_ble_eq_true rfl) dX11_tried_112 ?_
    refine zr_iload C dX11_tried_115 rfl ?_
    refine zr_aald (n := 4) (k1 := 116) C dX11_tried_117 (Nat.le_of_ble_eq_true rfl) rfl rfl rfl (fun hb117 => ?_)
    refine zr_iload C dX11_tried_118 rfl ?_
    refine zr_iload C dX11_tried_120 rfl ?_
    refine zr_aload_n C dX11_tried_122 rfl ?_
    refine zf_X11_154 C (Nat.le_of_ble_eq_true rfl) dX11_tried_123 ?_
    refine zr_iload C dX11_tried_126 rfl ?_
    refine zr_iald (n := 5) C dX11_tried_128 (Nat.le_of_ble_eq_true rfl) rfl ?_
    refine zr_icmp_ne (tgt := 144) C dX11_tried_129 (by decide) ?_ ?_
    · refine zr_iconst (v := 0) C dX11_tried_144 rfl ?_
      exact zr_sub [0, 1, 2, 3, 4, 5, 6, 7, 8] rfl (c_X11_tried_145 F rec80 rec102 C hh hrec80 hrec102 σ l1 l2 l3k l4k l5k l6 l7 l8 0 l7 l8.toNatClampNeg)
    · refine zr_aload_n C dX11_tried_132 rfl ?_
      refine zf_X11_9 C (Nat.le_of_ble_eq_true rfl) dX11_tried_133 ?_
      refine zr_iload C dX11_tried_136 rfl ?_
      refine zr_aald (n := 10) (k1 := 62) C dX11_tried_138 (Nat.le_of_ble_eq_true rfl) rfl rfl rfl (fun hb138 => ?_)
      refine zr_iconst (v := 2) C dX11_tried_139 rfl ?_
      refine zr_iald (n := 5) C dX11_tried_140 hb138 rfl ?_
      refine zr_goto (tgt := 145) C dX11_tried_141 (by decide) ?_
      exact zr_sub [0, 1, 2, 3, 4, 5, 6, 7, 8] rfl (c_X11_tried_145 F rec80 rec102 C hh hrec80 hrec102 σ l1 l2 l3k l4k l5k l6 l7 l8 ((σ.1 62 l7.toNatClampNeg 2)) l7 l8.toNatClampNeg)
def f_X11_tried_246 (F : Nat) (rec194 : zMem → Int32 × Nat × Nat × Nat × Int32 × Int32 → Option (Int32 × zMem)) (rec234 : zMem → Int32 × Nat × Nat × Nat × Int32 × Int32 × Int32 → Option (Int32 × zMem)) (rec246 : zMem → Int32 × Nat × Nat × Nat × Int32 × Int32 × Int32 × Int32 → Option (Int32 × zMem)) (σ : zMem) (x : Int32 × Nat × Nat × Nat × Int32 × Int32 × Int32 × Int32) : Option (Int32 × zMem) := zg (zdG x.2.1) (zg (zdS x.2.2.1) (zg (zdU x.2.2.2.1) (if (σ.1 60 0 1) ≤ x.2.2.2.2.2.2.2 then (rec234 σ ((x.1, x.2.1, x.2.2.1, x.2.2.2.1, x.2.2.2.2.1, x.2.2.2.2.2.1, (x.2.2.2.2.2.2.1 + 1)))) else (zg (zdU ((σ.1 60 0 11).toNatClampNeg)) (zg (inb x.2.2.2.2.2.2.1 4) (zg (inb x.2.2.2.2.2.2.2 10) (zb (f_X11_feedOn F σ x.2.2.2.2.2.2.1 x.2.2.2.2.2.2.2) fun r272 m272 => rec246 m272 ((x.1, x.2.1, x.2.2.1, x.2.2.2.1, (x.2.2.2.2.1 + ((σ.1 (((σ.1 60 0 11).toNatClampNeg + 1)) x.2.2.2.2.2.2.1.toNatClampNeg x.2.2.2.2.2.2.2.toNatClampNeg) - r272)), x.2.2.2.2.2.1, x.2.2.2.2.2.2.1, (x.2.2.2.2.2.2.2 + 1))))))))))
set_option maxHeartbeats 4000000 in
set_option maxRecDepth 100000 in
theorem c_X11_tried_246 (F : Nat) (rec194 : zMem → Int32 × Nat × Nat × Nat × Int32 × Int32 → Option (Int32 × zMem)) (rec234 : zMem → Int32 × Nat × Nat × Nat × Int32 × Int32 × Int32 → Option (Int32 × zMem)) {E : zEn} {h : Nat} {Z : zLay} (C : zCx E cX11_tried RX11 11 (some .int) Z h) (hh : 3 ≤ h) (hrec194 : ∀ (σ : zMem) (x : Int32 × Nat × Nat × Nat × Int32 × Int32), zKO E 11 Z (zMQ E Z (zQI Z)) 194 [(0, .ref (zad Z 60 0)), (2, .int x.1), (3, .ref (zad Z x.2.1 0)), (4, .ref (zad Z x.2.2.1 0)), (5, .ref (zad Z x.2.2.2.1 0)), (7, .int x.2.2.2.2.1), (8, .int x.2.2.2.2.2)] [] σ (rec194 σ x)) (hrec234 : ∀ (σ : zMem) (x : Int32 × Nat × Nat × Nat × Int32 × Int32 × Int32), zKO E 11 Z (zMQ E Z (zQI Z)) 234 [(0, .ref (zad Z 60 0)), (2, .int x.1), (3, .ref (zad Z x.2.1 0)), (4, .ref (zad Z x.2.2.1 0)), (5, .ref (zad Z x.2.2.2.1 0)), (7, .int x.2.2.2.2.1), (8, .int x.2.2.2.2.2.1), (9, .int x.2.2.2.2.2.2)] [] σ (rec234 σ x)) : ∀ (n : Nat) (σ : zMem) (x : Int32 × Nat × Nat × Nat × Int32 × Int32 × Int32 × Int32), zKO E 11 Z (zMQ E Z (zQI Z)) 246 [(0, .ref (zad Z 60 0)), (2, .int x.1), (3, .ref (zad Z x.2.1 0)), (4, .ref (zad Z x.2.2.1 0)), (5, .ref (zad Z x.2.2.2.1 0)), (7, .int x.2.2.2.2.1), (8, .int x.2.2.2.2.2.1), (9, .int x.2.2.2.2.2.2.1), (10, .int x.2.2.2.2.2.2.2)] [] σ (zit (f_X11_tried_246 F rec194 rec234) n σ x) := by
  refine zr_loop (LL := fun (x : Int32 × Nat × Nat × Nat × Int32 × Int32 × Int32 × Int32) => [(0, .ref (zad Z 60 0)), (2, .int x.1), (3, .ref (zad Z x.2.1 0)), (4, .ref (zad Z x.2.2.1 0)), (5, .ref (zad Z x.2.2.2.1 0)), (7, .int x.2.2.2.2.1), (8, .int x.2.2.2.2.2.1), (9, .int x.2.2.2.2.2.2.1), (10, .int x.2.2.2.2.2.2.2)]) (ST := fun (x : Int32 × Nat × Nat × Nat × Int32 × Int32 × Int32 × Int32) => []) (fun rec246 hrec246 σ x => ?_)
  obtain ⟨l2, l3k, l4k, l5k, l7, l8, l9, l10⟩ := x
  show zKO E 11 Z (zMQ E Z (zQI Z)) 246 [(0, .ref (zad Z 60 0)), (2, .int l2), (3, .ref (zad Z l3k 0)), (4, .ref (zad Z l4k 0)), (5, .ref (zad Z l5k 0)), (7, .int l7), (8, .int l8), (9, .int l9), (10, .int l10)] [] σ (zg (zdG l3k) (zg (zdS l4k) (zg (zdU l5k) (if (σ.1 60 0 1) ≤ l10 then (rec234 σ ((l2, l3k, l4k, l5k, l7, l8, (l9 + 1)))) else (zg (zdU ((σ.1 60 0 11).toNatClampNeg)) (zg (inb l9 4) (zg (inb l10 10) (zb (f_X11_feedOn F σ l9 l10) fun r272 m272 => rec246 m272 ((l2, l3k, l4k, l5k, (l7 + ((σ.1 (((σ.1 60 0 11).toNatClampNeg + 1)) l9.toNatClampNeg l10.toNatClampNeg) - r272)), l8, l9, (l10 + 1)))))))))))
  refine zr_g (fun hl3k => ?_)
  refine zr_g (fun hl4k => ?_)
  refine zr_g (fun hl5k => ?_)
  refine zr_iload C dX11_tried_246 rfl ?_
  refine zr_aload_n C dX11_tried_248 rfl ?_
  refine zf_X11_160 C (Nat.le_of_ble_eq_true rfl) dX11_tried_249 ?_
  refine zr_icmp_ge (tgt := 285) C dX11_tried_252 (by decide) ?_ ?_
  · refine zr_iinc (kk := 7) (v := (l9 + 1)) (L1 := [(9, .int _), (0, .ref _), (2, .int _), (3, .ref _), (4, .ref _), (5, .ref _), (7, .int _), (8, .int _), (10, .int _)]) C dX11_tried_285 rfl rfl (by decide) rfl ?_
    refine zr_goto (tgt := 234) C dX11_tried_288 (by decide) ?_
    exact zr_sub [1, 2, 3, 4, 5, 6, 7, 0] rfl (hrec234 σ ((l2, l3k, l4k, l5k, l7, l8, (l9 + 1))))
  · refine zr_iload C dX11_tried_255 rfl ?_
    refine zr_aload_n C dX11_tried_257 rfl ?_
    refine zf_X11_39 C (Nat.le_of_ble_eq_true rfl) dX11_tried_258 ?_
    refine zr_g (fun hk258 => ?_)
    refine zr_iload C dX11_tried_261 rfl ?_
    refine zr_aald (n := 4) (k1 := ((σ.1 60 0 11).toNatClampNeg) + 1) C dX11_tried_263 (zN_up hk258 (by decide)) (zE_up hk258) rfl rfl (fun hb263 => ?_)
    refine zr_iload C dX11_tried_264 rfl ?_
    refine zr_iald (n := 10) C dX11_tried_266 (zN_upE (zdE_of hk258) hb263) (zE_upE (zdE_of hk258)) ?_
    refine zr_aload_n C dX11_tried_267 rfl ?_
    refine zr_iload C dX11_tried_268 rfl ?_
    refine zr_iload C dX11_tried_270 rfl ?_
    refine zk_X11_378 C F (Nat.le_of_ble_eq_true rfl) (Nat.le_trans (by decide) hh) (by simp [Value.category]) dX11_tried_272 (fun r272 m272 => ?_)
    refine zr_isub C dX11_tried_275 ?_
    refine zr_iadd C dX11_tried_276 ?_
    refine zr_istore (i := 7) (L1 := [(7, .int _), (0, .ref _), (2, .int _), (3, .ref _), (4, .ref _), (5, .ref _), (8, .int _), (9, .int _), (10, .int _)]) C dX11_tried_277 (by decide) rfl ?_
    refine zr_iinc (kk := 8) (v := (l10 + 1)) (L1 := [(10, .int _), (7, .int _), (0, .ref _), (2, .int _), (3, .ref _), (4, .ref _), (5, .ref _), (8, .int _), (9, .int _)]) C dX11_tried_279 rfl rfl (by decide) rfl ?_
    refine zr_goto (tgt := 246) C dX11_tried_282 (by decide) ?_
    exact zr_sub [2, 3, 4, 5, 6, 1, 7, 8, 0] rfl (hrec246 m272 ((l2, l3k, l4k, l5k, (l7 + ((σ.1 (((σ.1 60 0 11).toNatClampNeg + 1)) l9.toNatClampNeg l10.toNatClampNeg) - r272)), l8, l9, (l10 + 1))))
def f_X11_tried_234 (F : Nat) (rec194 : zMem → Int32 × Nat × Nat × Nat × Int32 × Int32 → Option (Int32 × zMem)) (rec234 : zMem → Int32 × Nat × Nat × Nat × Int32 × Int32 × Int32 → Option (Int32 × zMem)) (σ : zMem) (x : Int32 × Nat × Nat × Nat × Int32 × Int32 × Int32) : Option (Int32 × zMem) := zg (zdG x.2.1) (zg (zdS x.2.2.1) (zg (zdU x.2.2.2.1) (if (σ.1 60 0 25) ≤ x.2.2.2.2.2.2 then (rec194 σ ((x.1, x.2.1, x.2.2.1, x.2.2.2.1, x.2.2.2.2.1, (x.2.2.2.2.2.1 + 1)))) else (zit (f_X11_tried_246 F rec194 rec234) F σ ((x.1, x.2.1, x.2.2.1, x.2.2.2.1, x.2.2.2.2.1, x.2.2.2.2.2.1, x.2.2.2.2.2.2, 0))))))
set_option maxHeartbeats 4000000 in
set_option maxRecDepth 100000 in
theorem c_X11_tried_234 (F : Nat) (rec194 : zMem → Int32 × Nat × Nat × Nat × Int32 × Int32 → Option (Int32 × zMem)) {E : zEn} {h : Nat} {Z : zLay} (C : zCx E cX11_tried RX11 11 (some .int) Z h) (hh : 3 ≤ h) (hrec194 : ∀ (σ : zMem) (x : Int32 × Nat × Nat × Nat × Int32 × Int32), zKO E 11 Z (zMQ E Z (zQI Z)) 194 [(0, .ref (zad Z 60 0)), (2, .int x.1), (3, .ref (zad Z x.2.1 0)), (4, .ref (zad Z x.2.2.1 0)), (5, .ref (zad Z x.2.2.2.1 0)), (7, .int x.2.2.2.2.1), (8, .int x.2.2.2.2.2)] [] σ (rec194 σ x)) : ∀ (n : Nat) (σ : zMem) (x : Int32 × Nat × Nat × Nat × Int32 × Int32 × Int32), zKO E 11 Z (zMQ E Z (zQI Z)) 234 [(0, .ref (zad Z 60 0)), (2, .int x.1), (3, .ref (zad Z x.2.1 0)), (4, .ref (zad Z x.2.2.1 0)), (5, .ref (zad Z x.2.2.2.1 0)), (7, .int x.2.2.2.2.1), (8, .int x.2.2.2.2.2.1), (9, .int x.2.2.2.2.2.2)] [] σ (zit (f_X11_tried_234 F rec194) n σ x) := by
  refine zr_loop (LL := fun (x : Int32 × Nat × Nat × Nat × Int32 × Int32 × Int32) => [(0, .ref (zad Z 60 0)), (2, .int x.1), (3, .ref (zad Z x.2.1 0)), (4, .ref (zad Z x.2.2.1 0)), (5, .ref (zad Z x.2.2.2.1 0)), (7, .int x.2.2.2.2.1), (8, .int x.2.2.2.2.2.1), (9, .int x.2.2.2.2.2.2)]) (ST := fun (x : Int32 × Nat × Nat × Nat × Int32 × Int32 × Int32) => []) (fun rec234 hrec234 σ x => ?_)
  obtain ⟨l2, l3k, l4k, l5k, l7, l8, l9⟩ := x
  show zKO E 11 Z (zMQ E Z (zQI Z)) 234 [(0, .ref (zad Z 60 0)), (2, .int l2), (3, .ref (zad Z l3k 0)), (4, .ref (zad Z l4k 0)), (5, .ref (zad Z l5k 0)), (7, .int l7), (8, .int l8), (9, .int l9)] [] σ (zg (zdG l3k) (zg (zdS l4k) (zg (zdU l5k) (if (σ.1 60 0 25) ≤ l9 then (rec194 σ ((l2, l3k, l4k, l5k, l7, (l8 + 1)))) else (zit (f_X11_tried_246 F rec194 rec234) F σ ((l2, l3k, l4k, l5k, l7, l8, l9, 0)))))))
  refine zr_g (fun hl3k => ?_)
  refine zr_g (fun hl4k => ?_)
  refine zr_g (fun hl5k => ?_)
  refine zr_iload C dX11_tried_234 rfl ?_
  refine zr_aload_n C dX11_tried_236 rfl ?_
  refine zf_X11_170 C (Nat.le_of_ble_eq_true rfl) dX11_tried_237 ?_
  refine zr_icmp_ge (tgt := 291) C dX11_tried_240 (by decide) ?_ ?_
  · refine zr_iinc (kk := 6) (v := (l8 + 1)) (L1 := [(8, .int _), (0, .ref _), (2, .int _), (3, .ref _), (4, .ref _), (5, .ref _), (7, .int _), (9, .int _)]) C dX11_tried_291 rfl rfl (by decide) rfl ?_
    refine zr_goto (tgt := 194) C dX11_tried_294 (by decide) ?_
    exact zr_sub [1, 2, 3, 4, 5, 6, 0] rfl (hrec194 σ ((l2, l3k, l4k, l5k, l7, (l8 + 1))))
  · refine zr_iconst (v := 0) C dX11_tried_243 rfl ?_
    refine zr_istore (i := 10) (L1 := [(10, .int _), (0, .ref _), (2, .int _), (3, .ref _), (4, .ref _), (5, .ref _), (7, .int _), (8, .int _), (9, .int _)]) C dX11_tried_244 (by decide) rfl ?_
    exact zr_sub [1, 2, 3, 4, 5, 6, 7, 8, 0] rfl (c_X11_tried_246 F rec194 rec234 C hh hrec194 hrec234 F σ ((l2, l3k, l4k, l5k, l7, l8, l9, 0)))
def f_X11_tried_208 (F : Nat) (rec194 : zMem → Int32 × Nat × Nat × Nat × Int32 × Int32 → Option (Int32 × zMem)) (rec208 : zMem → Int32 × Nat × Nat × Nat × Int32 × Int32 × Int32 → Option (Int32 × zMem)) (σ : zMem) (x : Int32 × Nat × Nat × Nat × Int32 × Int32 × Int32) : Option (Int32 × zMem) := zg (zdG x.2.1) (zg (zdS x.2.2.1) (zg (zdU x.2.2.2.1) (if (σ.1 60 0 25) ≤ x.2.2.2.2.2.2 then (zit (f_X11_tried_234 F rec194) F σ ((x.1, x.2.1, x.2.2.1, x.2.2.2.1, x.2.2.2.2.1, x.2.2.2.2.2.1, 0))) else (zb (f_X11_grow F σ x.2.2.2.2.2.2 x.2.2.2.2.2.1) fun r222 m222 => rec208 m222 ((x.1, x.2.1, x.2.2.1, x.2.2.2.1, x.2.2.2.2.1, x.2.2.2.2.2.1, (x.2.2.2.2.2.2 + 1)))))))
set_option maxHeartbeats 4000000 in
set_option maxRecDepth 100000 in
theorem c_X11_tried_208 (F : Nat) (rec194 : zMem → Int32 × Nat × Nat × Nat × Int32 × Int32 → Option (Int32 × zMem)) {E : zEn} {h : Nat} {Z : zLay} (C : zCx E cX11_tried RX11 11 (some .int) Z h) (hh : 3 ≤ h) (hrec194 : ∀ (σ : zMem) (x : Int32 × Nat × Nat × Nat × Int32 × Int32), zKO E 11 Z (zMQ E Z (zQI Z)) 194 [(0, .ref (zad Z 60 0)), (2, .int x.1), (3, .ref (zad Z x.2.1 0)), (4, .ref (zad Z x.2.2.1 0)), (5, .ref (zad Z x.2.2.2.1 0)), (7, .int x.2.2.2.2.1), (8, .int x.2.2.2.2.2)] [] σ (rec194 σ x)) : ∀ (n : Nat) (σ : zMem) (x : Int32 × Nat × Nat × Nat × Int32 × Int32 × Int32), zKO E 11 Z (zMQ E Z (zQI Z)) 208 [(0, .ref (zad Z 60 0)), (2, .int x.1), (3, .ref (zad Z x.2.1 0)), (4, .ref (zad Z x.2.2.1 0)), (5, .ref (zad Z x.2.2.2.1 0)), (7, .int x.2.2.2.2.1), (8, .int x.2.2.2.2.2.1), (9, .int x.2.2.2.2.2.2)] [] σ (zit (f_X11_tried_208 F rec194) n σ x) := by
  refine zr_loop (LL := fun (x : Int32 × Nat × Nat × Nat × Int32 × Int32 × Int32) => [(0, .ref (zad Z 60 0)), (2, .int x.1), (3, .ref (zad Z x.2.1 0)), (4, .ref (zad Z x.2.2.1 0)), (5, .ref (zad Z x.2.2.2.1 0)), (7, .int x.2.2.2.2.1), (8, .int x.2.2.2.2.2.1), (9, .int x.2.2.2.2.2.2)]) (ST := fun (x : Int32 × Nat × Nat × Nat × Int32 × Int32 × Int32) => []) (fun rec208 hrec208 σ x => ?_)
  obtain ⟨l2, l3k, l4k, l5k, l7, l8, l9⟩ := x
  show zKO E 11 Z (zMQ E Z (zQI Z)) 208 [(0, .ref (zad Z 60 0)), (2, .int l2), (3, .ref (zad Z l3k 0)), (4, .ref (zad Z l4k 0)), (5, .ref (zad Z l5k 0)), (7, .int l7), (8, .int l8), (9, .int l9)] [] σ (zg (zdG l3k) (zg (zdS l4k) (zg (zdU l5k) (if (σ.1 60 0 25) ≤ l9 then (zit (f_X11_tried_234 F rec194) F σ ((l2, l3k, l4k, l5k, l7, l8, 0))) else (zb (f_X11_grow F σ l9 l8) fun r222 m222 => rec208 m222 ((l2, l3k, l4k, l5k, l7, l8, (l9 + 1))))))))
  refine zr_g (fun hl3k => ?_)
  refine zr_g (fun hl4k => ?_)
  refine zr_g (fun hl5k => ?_)
  refine zr_iload C dX11_tried_208 rfl ?_
  refine zr_aload_n C dX11_tried_210 rfl ?_
  refine zf_X11_170 C (Nat.le_of_ble_eq_true rfl) dX11_tried_211 ?_
  refine zr_icmp_ge (tgt := 231) C dX11_tried_214 (by decide) ?_ ?_
  · refine zr_iconst (v := 0) C dX11_tried_231 rfl ?_
    refine zr_istore (i := 9) (L1 := [(9, .int _), (0, .ref _), (2, .int _), (3, .ref _), (4, .ref _), (5, .ref _), (7, .int _), (8, .int _)]) C dX11_tried_232 (by decide) rfl ?_
    exact zr_sub [1, 2, 3, 4, 5, 6, 7, 0] rfl (c_X11_tried_234 F rec194 C hh hrec194 F σ ((l2, l3k, l4k, l5k, l7, l8, 0)))
  · refine zr_aload_n C dX11_tried_217 rfl ?_
    refine zr_iload C dX11_tried_218 rfl ?_
    refine zr_iload C dX11_tried_220 rfl ?_
    refine zk_X11_374 C F (Nat.le_of_ble_eq_true rfl) (Nat.le_trans (by decide) hh) (by simp [Value.category]) dX11_tried_222 (fun r222 m222 => ?_)
    refine zr_iinc (kk := 7) (v := (l9 + 1)) (L1 := [(9, .int _), (0, .ref _), (2, .int _), (3, .ref _), (4, .ref _), (5, .ref _), (7, .int _), (8, .int _)]) C dX11_tried_225 rfl rfl (by decide) rfl ?_
    refine zr_goto (tgt := 208) C dX11_tried_228 (by decide) ?_
    exact zr_sub [1, 2, 3, 4, 5, 6, 7, 0] rfl (hrec208 m222 ((l2, l3k, l4k, l5k, l7, l8, (l9 + 1))))
def f_X11_tried_194 (F : Nat) (rec194 : zMem → Int32 × Nat × Nat × Nat × Int32 × Int32 → Option (Int32 × zMem)) (σ : zMem) (x : Int32 × Nat × Nat × Nat × Int32 × Int32) : Option (Int32 × zMem) := zg (zdG x.2.1) (zg (zdS x.2.2.1) (zg (zdU x.2.2.2.1) (if ((σ.1 60 0 0) + x.1) ≤ x.2.2.2.2.2 then (some (x.2.2.2.2.1, (zwi (zwi (zwi σ 60 0 28 (nI x.2.1)) 60 0 29 (nI x.2.2.1)) 60 0 11 (nI x.2.2.2.1)))) else (zit (f_X11_tried_208 F rec194) F σ ((x.1, x.2.1, x.2.2.1, x.2.2.2.1, x.2.2.2.2.1, x.2.2.2.2.2, 0))))))
set_option maxHeartbeats 4000000 in
set_option maxRecDepth 100000 in
theorem c_X11_tried_194 (F : Nat) {E : zEn} {h : Nat} {Z : zLay} (C : zCx E cX11_tried RX11 11 (some .int) Z h) (hh : 3 ≤ h) : ∀ (n : Nat) (σ : zMem) (x : Int32 × Nat × Nat × Nat × Int32 × Int32), zKO E 11 Z (zMQ E Z (zQI Z)) 194 [(0, .ref (zad Z 60 0)), (2, .int x.1), (3, .ref (zad Z x.2.1 0)), (4, .ref (zad Z x.2.2.1 0)), (5, .ref (zad Z x.2.2.2.1 0)), (7, .int x.2.2.2.2.1), (8, .int x.2.2.2.2.2)] [] σ (zit (f_X11_tried_194 F) n σ x) := by
  refine zr_loop (LL := fun (x : Int32 × Nat × Nat × Nat × Int32 × Int32) => [(0, .ref (zad Z 60 0)), (2, .int x.1), (3, .ref (zad Z x.2.1 0)), (4, .ref (zad Z x.2.2.1 0)), (5, .ref (zad Z x.2.2.2.1 0)), (7, .int x.2.2.2.2.1), (8, .int x.2.2.2.2.2)]) (ST := fun (x : Int32 × Nat × Nat × Nat × Int32 × Int32) => []) (fun rec194 hrec194 σ x => ?_)
  obtain ⟨l2, l3k, l4k, l5k, l7, l8⟩ := x
  show zKO E 11 Z (zMQ E Z (zQI Z)) 194 [(0, .ref (zad Z 60 0)), (2, .int l2), (3, .ref (zad Z l3k 0)), (4, .ref (zad Z l4k 0)), (5, .ref (zad Z l5k 0)), (7, .int l7), (8, .int l8)] [] σ (zg (zdG l3k) (zg (zdS l4k) (zg (zdU l5k) (if ((σ.1 60 0 0) + l2) ≤ l8 then (some (l7, (zwi (zwi (zwi σ 60 0 28 (nI l3k)) 60 0 29 (nI l4k)) 60 0 11 (nI l5k)))) else (zit (f_X11_tried_208 F rec194) F σ ((l2, l3k, l4k, l5k, l7, l8, 0)))))))
  refine zr_g (fun hl3k => ?_)
  refine zr_g (fun hl4k => ?_)
  refine zr_g (fun hl5k => ?_)
  refine zr_iload C dX11_tried_194 rfl ?_
  refine zr_aload_n C dX11_tried_196 rfl ?_
  refine zf_X11_193 C (Nat.le_of_ble_eq_true rfl) dX11_tried_197 ?_
  refine zr_iload_n C dX11_tried_200 rfl ?_
  refine zr_iadd C dX11_tried_201 ?_
  refine zr_icmp_ge (tgt := 297) C dX11_tried_202 (by decide) ?_ ?_
  · refine zr_aload_n C dX11_tried_297 rfl ?_
    refine zr_aload_n C dX11_tried_298 rfl ?_
    refine zp_X11_80 C (Nat.le_of_ble_eq_true rfl) (zlt_grass hl3k) dX11_tried_299 ?_
    refine zr_aload_n C dX11_tried_302 rfl ?_
    refine zr_aload C dX11_tried_303 rfl ?_
    refine zp_X11_83 C (Nat.le_of_ble_eq_true rfl) (zlt_snow hl4k) dX11_tried_305 ?_
    refine zr_aload_n C dX11_tried_308 rfl ?_
    refine zr_aload C dX11_tried_309 rfl ?_
    refine zp_X11_39 C (Nat.le_of_ble_eq_true rfl) (zlt_up hl5k) dX11_tried_311 ?_
    refine zr_iload C dX11_tried_314 rfl ?_
    exact zr_iret C dX11_tried_316
  · refine zr_iconst (v := 0) C dX11_tried_205 rfl ?_
    refine zr_istore (i := 9) (L1 := [(9, .int _), (0, .ref _), (2, .int _), (3, .ref _), (4, .ref _), (5, .ref _), (7, .int _), (8, .int _)]) C dX11_tried_206 (by decide) rfl ?_
    exact zr_sub [1, 2, 3, 4, 5, 6, 7, 0] rfl (c_X11_tried_208 F rec194 C hh hrec194 F σ ((l2, l3k, l4k, l5k, l7, l8, 0)))
def f_X11_tried_80 (F : Nat) (rec80 : zMem → Int32 × Int32 × Nat × Nat × Nat × Int32 × Int32 → Option (Int32 × zMem)) (σ : zMem) (x : Int32 × Int32 × Nat × Nat × Nat × Int32 × Int32) : Option (Int32 × zMem) := zg (zdG x.2.2.1) (zg (zdS x.2.2.2.1) (zg (zdU x.2.2.2.2.1) (if (σ.1 60 0 1) ≤ x.2.2.2.2.2.2 then (zit (f_X11_tried_194 F) F (zwi (zwi (zwi σ 60 0 28 (nI 113)) 60 0 29 (nI 114)) 60 0 11 (nI 115)) ((x.2.1, x.2.2.1, x.2.2.2.1, x.2.2.2.2.1, 0, ((zwi (zwi (zwi σ 60 0 28 (nI 113)) 60 0 29 (nI 114)) 60 0 11 (nI 115)).1 60 0 0)))) else (if ((x.1 >>> (x.2.2.2.2.2.2 &&& 31)) &&& 1) = 1 then (zit (f_X11_tried_102 F rec80) F σ ((x.1, x.2.1, x.2.2.1, x.2.2.2.1, x.2.2.2.2.1, x.2.2.2.2.2.1, x.2.2.2.2.2.2, 0))) else (rec80 σ ((x.1, x.2.1, x.2.2.1, x.2.2.2.1, x.2.2.2.2.1, x.2.2.2.2.2.1, (x.2.2.2.2.2.2 + 1))))))))
set_option maxHeartbeats 4000000 in
set_option maxRecDepth 100000 in
theorem c_X11_tried_80 (F : Nat) {E : zEn} {h : Nat} {Z : zLay} (C : zCx E cX11_tried RX11 11 (some .int) Z h) (hh : 3 ≤ h) : ∀ (n : Nat) (σ : zMem) (x : Int32 × Int32 × Nat × Nat × Nat × Int32 × Int32), zKO E 11 Z (zMQ E Z (zQI Z)) 80 [(0, .ref (zad Z 60 0)), (1, .int x.1), (2, .int x.2.1), (3, .ref (zad Z x.2.2.1 0)), (4, .ref (zad Z x.2.2.2.1 0)), (5, .ref (zad Z x.2.2.2.2.1 0)), (6, .int x.2.2.2.2.2.1), (7, .int x.2.2.2.2.2.2)] [] σ (zit (f_X11_tried_80 F) n σ x) := by
  refine zr_loop (LL := fun (x : Int32 × Int32 × Nat × Nat × Nat × Int32 × Int32) => [(0, .ref (zad Z 60 0)), (1, .int x.1), (2, .int x.2.1), (3, .ref (zad Z x.2.2.1 0)), (4, .ref (zad Z x.2.2.2.1 0)), (5, .ref (zad Z x.2.2.2.2.1 0)), (6, .int x.2.2.2.2.2.1), (7, .int x.2.2.2.2.2.2)]) (ST := fun (x : Int32 × Int32 × Nat × Nat × Nat × Int32 × Int32) => []) (fun rec80 hrec80 σ x => ?_)
  obtain ⟨l1, l2, l3k, l4k, l5k, l6, l7⟩ := x
  show zKO E 11 Z (zMQ E Z (zQI Z)) 80 [(0, .ref (zad Z 60 0)), (1, .int l1), (2, .int l2), (3, .ref (zad Z l3k 0)), (4, .ref (zad Z l4k 0)), (5, .ref (zad Z l5k 0)), (6, .int l6), (7, .int l7)] [] σ (zg (zdG l3k) (zg (zdS l4k) (zg (zdU l5k) (if (σ.1 60 0 1) ≤ l7 then (zit (f_X11_tried_194 F) F (zwi (zwi (zwi σ 60 0 28 (nI 113)) 60 0 29 (nI 114)) 60 0 11 (nI 115)) ((l2, l3k, l4k, l5k, 0, ((zwi (zwi (zwi σ 60 0 28 (nI 113)) 60 0 29 (nI 114)) 60 0 11 (nI 115)).1 60 0 0)))) else (if ((l1 >>> (l7 &&& 31)) &&& 1) = 1 then (zit (f_X11_tried_102 F rec80) F σ ((l1, l2, l3k, l4k, l5k, l6, l7, 0))) else (rec80 σ ((l1, l2, l3k, l4k, l5k, l6, (l7 + 1)))))))))
  refine zr_g (fun hl3k => ?_)
  refine zr_g (fun hl4k => ?_)
  refine zr_g (fun hl5k => ?_)
  refine zr_iload C dX11_tried_80 rfl ?_
  refine zr_aload_n C dX11_tried_82 rfl ?_
  refine zf_X11_160 C (Nat.le_of_ble_eq_true rfl) dX11_tried_83 ?_
  refine zr_icmp_ge (tgt := 161) C dX11_tried_86 (by decide) ?_ ?_
  · refine zr_aload_n C dX11_tried_161 rfl ?_
    refine zr_aload_n C dX11_tried_162 rfl ?_
    refine zf_X11_145 C (Nat.le_of_ble_eq_true rfl) dX11_tried_163 ?_
    refine zp_X11_80 C (Nat.le_of_ble_eq_true rfl) (by decide) dX11_tried_166 ?_
    refine zr_aload_n C dX11_tried_169 rfl ?_
    refine zr_aload_n C dX11_tried_170 rfl ?_
    refine zf_X11_148 C (Nat.le_of_ble_eq_true rfl) dX11_tried_171 ?_
    refine zp_X11_83 C (Nat.le_of_ble_eq_true rfl) (by decide) dX11_tried_174 ?_
    refine zr_aload_n C dX11_tried_177 rfl ?_
    refine zr_aload_n C dX11_tried_178 rfl ?_
    refine zf_X11_151 C (Nat.le_of_ble_eq_true rfl) dX11_tried_179 ?_
    refine zp_X11_39 C (Nat.le_of_ble_eq_true rfl) (by decide) dX11_tried_182 ?_
    refine zr_iconst (v := 0) C dX11_tried_185 rfl ?_
    refine zr_istore (i := 7) (L1 := [(7, .int _), (0, .ref _), (1, .int _), (2, .int _), (3, .ref _), (4, .ref _), (5, .ref _), (6, .int _)]) C dX11_tried_186 (by decide) rfl ?_
    refine zr_aload_n C dX11_tried_188 rfl ?_
    refine zf_X11_193 C (Nat.le_of_ble_eq_true rfl) dX11_tried_189 ?_
    refine zr_istore (i := 8) (L1 := [(8, .int _), (7, .int _), (0, .ref _), (1, .int _), (2, .int _), (3, .ref _), (4, .ref _), (5, .ref _), (6, .int _)]) C dX11_tried_192 (by decide) rfl ?_
    exact zr_sub [2, 4, 5, 6, 7, 1, 0] rfl (c_X11_tried_194 F C hh F (zwi (zwi (zwi σ 60 0 28 (nI 113)) 60 0 29 (nI 114)) 60 0 11 (nI 115)) ((l2, l3k, l4k, l5k, 0, ((zwi (zwi (zwi σ 60 0 28 (nI 113)) 60 0 29 (nI 114)) 60 0 11 (nI 115)).1 60 0 0))))
  · refine zr_iload_n C dX11_tried_89 rfl ?_
    refine zr_iload C dX11_tried_90 rfl ?_
    refine zr_ishr C dX11_tried_92 ?_
    refine zr_iconst (v := 1) C dX11_tried_93 rfl ?_
    refine zr_iand C dX11_tried_94 ?_
    refine zr_iconst (v := 1) C dX11_tried_95 rfl ?_
    refine zr_icmp_ne (tgt := 155) C dX11_tried_96 (by decide) ?_ ?_
    · refine zr_iinc (kk := 7) (v := (l7 + 1)) (L1 := [(7, .int _), (0, .ref _), (1, .int _), (2, .int _), (3, .ref _), (4, .ref _), (5, .ref _), (6, .int _)]) C dX11_tried_155 rfl rfl (by decide) rfl ?_
      refine zr_goto (tgt := 80) C dX11_tried_158 (by decide) ?_
      exact zr_sub [1, 2, 3, 4, 5, 6, 7, 0] rfl (hrec80 σ ((l1, l2, l3k, l4k, l5k, l6, (l7 + 1))))
    · refine zr_iconst (v := 0) C dX11_tried_99 rfl ?_
      refine zr_istore (i := 8) (L1 := [(8, .int _), (0, .ref _), (1, .int _), (2, .int _), (3, .ref _), (4, .ref _), (5, .ref _), (6, .int _), (7, .int _)]) C dX11_tried_100 (by decide) rfl ?_
      exact zr_sub [1, 2, 3, 4, 5, 6, 7, 8, 0] rfl (c_X11_tried_102 F rec80 C hh hrec80 F σ ((l1, l2, l3k, l4k, l5k, l6, l7, 0)))
def f_X11_tried_43 (F : Nat) (rec43 : zMem → Int32 × Int32 × Nat × Nat × Nat × Int32 → Option (Int32 × zMem)) (σ : zMem) (x : Int32 × Int32 × Nat × Nat × Nat × Int32) : Option (Int32 × zMem) := zg (zdG x.2.2.1) (zg (zdS x.2.2.2.1) (zg (zdU x.2.2.2.2.1) (if 4 ≤ x.2.2.2.2.2 then (zit (f_X11_tried_80 F) F σ ((x.1, x.2.1, x.2.2.1, x.2.2.2.1, x.2.2.2.2.1, 0, 0))) else (zg (inb x.2.2.2.2.2 4) (zg (inb x.2.2.2.2.2 4) (zg (zck 0 0 10 10 10) (rec43 (zcpi σ ((x.2.2.2.2.1 + 1)) x.2.2.2.2.2.toNatClampNeg 0 116 x.2.2.2.2.2.toNatClampNeg 0 10) ((x.1, x.2.1, x.2.2.1, x.2.2.2.1, x.2.2.2.2.1, (x.2.2.2.2.2 + 1))))))))))
set_option maxHeartbeats 4000000 in
set_option maxRecDepth 100000 in
theorem c_X11_tried_43 (F : Nat) {E : zEn} {h : Nat} {Z : zLay} (C : zCx E cX11_tried RX11 11 (some .int) Z h) (hh : 3 ≤ h) : ∀ (n : Nat) (σ : zMem) (x : Int32 × Int32 × Nat × Nat × Nat × Int32), zKO E 11 Z (zMQ E Z (zQI Z)) 43 [(0, .ref (zad Z 60 0)), (1, .int x.1), (2, .int x.2.1), (3, .ref (zad Z x.2.2.1 0)), (4, .ref (zad Z x.2.2.2.1 0)), (5, .ref (zad Z x.2.2.2.2.1 0)), (6, .int x.2.2.2.2.2)] [] σ (zit (f_X11_tried_43 F) n σ x) := by
  refine zr_loop (LL := fun (x : Int32 × Int32 × Nat × Nat × Nat × Int32) => [(0, .ref (zad Z 60 0)), (1, .int x.1), (2, .int x.2.1), (3, .ref (zad Z x.2.2.1 0)), (4, .ref (zad Z x.2.2.2.1 0)), (5, .ref (zad Z x.2.2.2.2.1 0)), (6, .int x.2.2.2.2.2)]) (ST := fun (x : Int32 × Int32 × Nat × Nat × Nat × Int32) => []) (fun rec43 hrec43 σ x => ?_)
  obtain ⟨l1, l2, l3k, l4k, l5k, l6⟩ := x
  show zKO E 11 Z (zMQ E Z (zQI Z)) 43 [(0, .ref (zad Z 60 0)), (1, .int l1), (2, .int l2), (3, .ref (zad Z l3k 0)), (4, .ref (zad Z l4k 0)), (5, .ref (zad Z l5k 0)), (6, .int l6)] [] σ (zg (zdG l3k) (zg (zdS l4k) (zg (zdU l5k) (if 4 ≤ l6 then (zit (f_X11_tried_80 F) F σ ((l1, l2, l3k, l4k, l5k, 0, 0))) else (zg (inb l6 4) (zg (inb l6 4) (zg (zck 0 0 10 10 10) (rec43 (zcpi σ ((l5k + 1)) l6.toNatClampNeg 0 116 l6.toNatClampNeg 0 10) ((l1, l2, l3k, l4k, l5k, (l6 + 1)))))))))))
  refine zr_g (fun hl3k => ?_)
  refine zr_g (fun hl4k => ?_)
  refine zr_g (fun hl5k => ?_)
  refine zr_iload C dX11_tried_43 rfl ?_
  refine zr_iconst (v := 4) C dX11_tried_45 rfl ?_
  refine zr_icmp_ge (tgt := 74) C dX11_tried_46 (by decide) ?_ ?_
  · refine zr_iconst (v := 0) C dX11_tried_74 rfl ?_
    refine zr_istore (i := 6) (L1 := [(6, .int _), (0, .ref _), (1, .int _), (2, .int _), (3, .ref _), (4, .ref _), (5, .ref _)]) C dX11_tried_75 (by decide) rfl ?_
    refine zr_iconst (v := 0) C dX11_tried_77 rfl ?_
    refine zr_istore (i := 7) (L1 := [(7, .int _), (6, .int _), (0, .ref _), (1, .int _), (2, .int _), (3, .ref _), (4, .ref _), (5, .ref _)]) C dX11_tried_78 (by decide) rfl ?_
    exact zr_sub [2, 3, 4, 5, 6, 7, 1, 0] rfl (c_X11_tried_80 F C hh F σ ((l1, l2, l3k, l4k, l5k, 0, 0)))
  · refine zr_aload C dX11_tried_49 rfl ?_
    refine zr_iload C dX11_tried_51 rfl ?_
    refine zr_aald (n := 4) (k1 := l5k + 1) C dX11_tried_53 (zN_up hl5k (by decide)) (zE_up hl5k) rfl rfl (fun hb53 => ?_)
    refine zr_iconst (v := 0) C dX11_tried_54 rfl ?_
    refine zr_aload_n C dX11_tried_55 rfl ?_
    refine zf_X11_151 C (Nat.le_of_ble_eq_true rfl) dX11_tried_56 ?_
    refine zr_iload C dX11_tried_59 rfl ?_
    refine zr_aald (n := 4) (k1 := 116) C dX11_tried_61 (Nat.le_of_ble_eq_true rfl) rfl rfl rfl (fun hb61 => ?_)
    refine zr_iconst (v := 0) C dX11_tried_62 rfl ?_
    refine zr_bipush (v := 10) C dX11_tried_63 rfl ?_
    refine zr_cpi (n0 := 10) (n1 := 10) C wz_1441 wz_1078 wz_1077 wz_19 (zN_upE (zdE_of hl5k) hb53) hb61 (fun _ _ => zE_upE (zdE_of hl5k)) (fun _ _ => rfl) (Nat.le_trans (by decide) hh) (by simp [Value.category]) dX11_tried_65 ?_
    refine zr_iinc (kk := 6) (v := (l6 + 1)) (L1 := [(6, .int _), (0, .ref _), (1, .int _), (2, .int _), (3, .ref _), (4, .ref _), (5, .ref _)]) C dX11_tried_68 rfl rfl (by decide) rfl ?_
    refine zr_goto (tgt := 43) C dX11_tried_71 (by decide) ?_
    exact zr_sub [1, 2, 3, 4, 5, 6, 0] rfl (hrec43 (zcpi σ ((l5k + 1)) l6.toNatClampNeg 0 116 l6.toNatClampNeg 0 10) ((l1, l2, l3k, l4k, l5k, (l6 + 1))))
def f_X11_tried (F : Nat) (σ : zMem) (a1 : Int32) (a2 : Int32) : Option (Int32 × zMem) := zg (zdG ((σ.1 60 0 28).toNatClampNeg)) (zg (zdS ((σ.1 60 0 29).toNatClampNeg)) (zg (zdU ((σ.1 60 0 11).toNatClampNeg)) (zg (zck 0 0 4 4 4) (zg (zck 0 0 4 4 4) (zit (f_X11_tried_43 F) F (zcpi (zcpi σ ((σ.1 60 0 28).toNatClampNeg) 0 0 113 0 0 4) ((σ.1 60 0 29).toNatClampNeg) 0 0 114 0 0 4) ((a1, a2, (σ.1 60 0 28).toNatClampNeg, (σ.1 60 0 29).toNatClampNeg, (σ.1 60 0 11).toNatClampNeg, 0)))))))
set_option maxHeartbeats 4000000 in
set_option maxRecDepth 100000 in
theorem c_X11_tried (l : Launch) (Z : zLay) (F : Nat) (σ : zMem) (a1 : Int32) (a2 : Int32) (r : Int32) (σ1 : zMem) (ho : f_X11_tried F σ a1 a2 = some (r, σ1)) : zMet l yX11_tried cX11_tried 11 (some .int) 3 Z [.ref (zad Z 60 0), .int (a1), .int (a2)] σ (zQI Z r σ1) := by
  refine zMet_of (Qc := zQI Z) (by decide) (Nat.le_of_ble_eq_true rfl) [(0, .ref (zad Z 60 0)), (1, .int (a1)), (2, .int (a2))] rfl (fun E C => ?_) ho
  have hh : 3 ≤ 3 := Nat.le_refl _
  show zKO E 11 Z (zMQ E Z (zQI Z)) 0 [(0, .ref (zad Z 60 0)), (1, .int (a1)), (2, .int (a2))] [] σ _
  unfold f_X11_tried
  refine zr_aload_n C dX11_tried_0 rfl ?_
  refine zf_X11_80 C (Nat.le_of_ble_eq_true rfl) dX11_tried_1 ?_
  refine zr_g (fun hk1 => ?_)
  refine zr_astore_n (i := 3) (L1 := [(3, .ref _), (0, .ref _), (1, .int _), (2, .int _)]) C dX11_tried_4 rfl (by decide) rfl ?_
  refine zr_aload_n C dX11_tried_5 rfl ?_
  refine zf_X11_83 C (Nat.le_of_ble_eq_true rfl) dX11_tried_6 ?_
  refine zr_g (fun hk6 => ?_)
  refine zr_astore (i := 4) (L1 := [(4, .ref _), (3, .ref _), (0, .ref _), (1, .int _), (2, .int _)]) C dX11_tried_9 (by decide) rfl ?_
  refine zr_aload_n C dX11_tried_11 rfl ?_
  refine zf_X11_39 C (Nat.le_of_ble_eq_true rfl) dX11_tried_12 ?_
  refine zr_g (fun hk12 => ?_)
  refine zr_astore (i := 5) (L1 := [(5, .ref _), (4, .ref _), (3, .ref _), (0, .ref _), (1, .int _), (2, .int _)]) C dX11_tried_15 (by decide) rfl ?_
  refine zr_aload_n C dX11_tried_17 rfl ?_
  refine zr_iconst (v := 0) C dX11_tried_18 rfl ?_
  refine zr_aload_n C dX11_tried_19 rfl ?_
  refine zf_X11_145 C (Nat.le_of_ble_eq_true rfl) dX11_tried_20 ?_
  refine zr_iconst (v := 0) C dX11_tried_23 rfl ?_
  refine zr_iconst (v := 4) C dX11_tried_24 rfl ?_
  refine zr_cpi (n0 := 4) (n1 := 4) C wz_1441 wz_1078 wz_1077 wz_19 (zN_grass hk1 (by decide)) (Nat.le_of_ble_eq_true rfl) (fun _ _ => zE_grass hk1) (fun _ _ => rfl) (Nat.le_trans (by decide) hh) (by simp [Value.category]) dX11_tried_25 ?_
  refine zr_aload C dX11_tried_28 rfl ?_
  refine zr_iconst (v := 0) C dX11_tried_30 rfl ?_
  refine zr_aload_n C dX11_tried_31 rfl ?_
  refine zf_X11_148 C (Nat.le_of_ble_eq_true rfl) dX11_tried_32 ?_
  refine zr_iconst (v := 0) C dX11_tried_35 rfl ?_
  refine zr_iconst (v := 4) C dX11_tried_36 rfl ?_
  refine zr_cpi (n0 := 4) (n1 := 4) C wz_1441 wz_1078 wz_1077 wz_19 (zN_snow hk6 (by decide)) (Nat.le_of_ble_eq_true rfl) (fun _ _ => zE_snow hk6) (fun _ _ => rfl) (Nat.le_trans (by decide) hh) (by simp [Value.category]) dX11_tried_37 ?_
  refine zr_iconst (v := 0) C dX11_tried_40 rfl ?_
  refine zr_istore (i := 6) (L1 := [(6, .int _), (5, .ref _), (4, .ref _), (3, .ref _), (0, .ref _), (1, .int _), (2, .int _)]) C dX11_tried_41 (by decide) rfl ?_
  exact zr_sub [4, 5, 6, 3, 2, 1, 0] rfl (c_X11_tried_43 F C hh F (zcpi (zcpi σ ((σ.1 60 0 28).toNatClampNeg) 0 0 113 0 0 4) ((σ.1 60 0 29).toNatClampNeg) 0 0 114 0 0 4) ((a1, a2, (σ.1 60 0 28).toNatClampNeg, (σ.1 60 0 29).toNatClampNeg, (σ.1 60 0 11).toNatClampNeg, 0)))
theorem zk_X11_460 (C : zCx E cc RX11 nL ret Z h) (F : Nat) {b0 : Int32} {b1 : Int32} (hk : 0 < zN 60) (hh : 3 + 1 ≤ h) (hst8 : (st.map fun v => v.category).sum ≤ 8) (hd : decode cc pc = .ok (.invokevirtual 460, 3)) {g : Int32 → zMem → Option (α × zMem)} (kk : ∀ (r : Int32) (σ1 : zMem), zKO E nL Z QQ (pc + 3) L (.int r :: st) σ1 (g r σ1)) : zKO E nL Z QQ pc L (.int b1 :: .int b0 :: .ref (zad Z 60 0) :: st) σ (zb (f_X11_tried F σ b0 b1) g) :=
  zr_callVI (As := [.int b0, .int b1]) (ia := 2) C (fun r σ1 ho => c_X11_tried (zla E) Z F σ b0 b1 r σ1 ho) wz_1673 hk rfl rfl wz_p124 wz_1675 wz_1676 wz_12 (by decide +kernel) rfl (by decide) hh hd hst8 kk
def f_X11_plan_128 (F : Nat) (rec111 : zMem → Int32 × Int32 × Int32 × Int32 × Int32 × Int32 × Int32 → Option (Int32 × zMem)) (rec128 : zMem → Int32 × Int32 × Int32 × Int32 × Int32 × Int32 × Int32 × Int32 × Int32 → Option (Int32 × zMem)) (σ : zMem) (x : Int32 × Int32 × Int32 × Int32 × Int32 × Int32 × Int32 × Int32 × Int32) : Option (Int32 × zMem) := if x.2.2.2.2.2.2.2.2 < 0 then (zb (f_X11_tried F σ x.1 x.2.1) fun r165 m165 => if x.2.2.2.2.2.1 ≤ r165 then (rec111 m165 ((x.1, x.2.1, x.2.2.1, x.2.2.2.1, x.2.2.2.2.1, x.2.2.2.2.2.1, (x.2.2.2.2.2.2.1 + 1)))) else (zg (zck 0 0 5 5 5) (rec111 (zcpi m165 117 0 0 118 0 0 5) ((x.1, x.2.1, x.2.2.1, x.2.2.2.1, x.2.2.2.2.1, r165, (x.2.2.2.2.2.2.1 + 1)))))) else (zg (zni ((σ.1 60 0 25))) (zg (inb x.2.2.2.2.2.2.2.2 5) (zg (zni (((zwi σ 117 0 x.2.2.2.2.2.2.2.2.toNatClampNeg ((zrem x.2.2.2.2.2.2.2.1 ((σ.1 60 0 25))))).1 60 0 25))) (rec128 (zwi σ 117 0 x.2.2.2.2.2.2.2.2.toNatClampNeg ((zrem x.2.2.2.2.2.2.2.1 ((σ.1 60 0 25))))) ((x.1, x.2.1, x.2.2.1, x.2.2.2.1, x.2.2.2.2.1, x.2.2.2.2.2.1, x.2.2.2.2.2.2.1, (x.2.2.2.2.2.2.2.1 / ((zwi σ 117 0 x.2.2.2.2.2.2.2.2.toNatClampNeg ((zrem x.2.2.2.2.2.2.2.1 ((σ.1 60 0 25))))).1 60 0 25)), (x.2.2.2.2.2.2.2.2 + (-1))))))))
set_option maxHeartbeats 4000000 in
set_option maxRecDepth 100000 in
theorem c_X11_plan_128 (F : Nat) (rec111 : zMem → Int32 × Int32 × Int32 × Int32 × Int32 × Int32 × Int32 → Option (Int32 × zMem)) {E : zEn} {h : Nat} {Z : zLay} (C : zCx E cX11_plan RX11 10 (some .int) Z h) (hh : 4 ≤ h) (hrec111 : ∀ (σ : zMem) (x : Int32 × Int32 × Int32 × Int32 × Int32 × Int32 × Int32), zKO E 10 Z (zMQ E Z (zQI Z)) 111 [(0, .ref (zad Z 60 0)), (1, .int x.1), (2, .int x.2.1), (3, .int x.2.2.1), (4, .int x.2.2.2.1), (5, .int x.2.2.2.2.1), (6, .int x.2.2.2.2.2.1), (7, .int x.2.2.2.2.2.2)] [] σ (rec111 σ x)) : ∀ (n : Nat) (σ : zMem) (x : Int32 × Int32 × Int32 × Int32 × Int32 × Int32 × Int32 × Int32 × Int32), zKO E 10 Z (zMQ E Z (zQI Z)) 128 [(0, .ref (zad Z 60 0)), (1, .int x.1), (2, .int x.2.1), (3, .int x.2.2.1), (4, .int x.2.2.2.1), (5, .int x.2.2.2.2.1), (6, .int x.2.2.2.2.2.1), (7, .int x.2.2.2.2.2.2.1), (8, .int x.2.2.2.2.2.2.2.1), (9, .int x.2.2.2.2.2.2.2.2)] [] σ (zit (f_X11_plan_128 F rec111) n σ x) := by
  refine zr_loop (LL := fun (x : Int32 × Int32 × Int32 × Int32 × Int32 × Int32 × Int32 × Int32 × Int32) => [(0, .ref (zad Z 60 0)), (1, .int x.1), (2, .int x.2.1), (3, .int x.2.2.1), (4, .int x.2.2.2.1), (5, .int x.2.2.2.2.1), (6, .int x.2.2.2.2.2.1), (7, .int x.2.2.2.2.2.2.1), (8, .int x.2.2.2.2.2.2.2.1), (9, .int x.2.2.2.2.2.2.2.2)]) (ST := fun (x : Int32 × Int32 × Int32 × Int32 × Int32 × Int32 × Int32 × Int32 × Int32) => []) (fun rec128 hrec128 σ x => ?_)
  obtain ⟨l1, l2, l3, l4, l5, l6, l7, l8, l9⟩ := x
  show zKO E 10 Z (zMQ E Z (zQI Z)) 128 [(0, .ref (zad Z 60 0)), (1, .int l1), (2, .int l2), (3, .int l3), (4, .int l4), (5, .int l5), (6, .int l6), (7, .int l7), (8, .int l8), (9, .int l9)] [] σ (if l9 < 0 then (zb (f_X11_tried F σ l1 l2) fun r165 m165 => if l6 ≤ r165 then (rec111 m165 ((l1, l2, l3, l4, l5, l6, (l7 + 1)))) else (zg (zck 0 0 5 5 5) (rec111 (zcpi m165 117 0 0 118 0 0 5) ((l1, l2, l3, l4, l5, r165, (l7 + 1)))))) else (zg (zni ((σ.1 60 0 25))) (zg (inb l9 5) (zg (zni (((zwi σ 117 0 l9.toNatClampNeg ((zrem l8 ((σ.1 60 0 25))))).1 60 0 25))) (rec128 (zwi σ 117 0 l9.toNatClampNeg ((zrem l8 ((σ.1 60 0 25))))) ((l1, l2, l3, l4, l5, l6, l7, (l8 / ((zwi σ 117 0 l9.toNatClampNeg ((zrem l8 ((σ.1 60 0 25))))).1 60 0 25)), (l9 + (-1)))))))))
  refine zr_iload C dX11_plan_128 rfl ?_
  refine zr_if_lt (tgt := 162) C dX11_plan_130 (by decide) ?_ ?_
  · refine zr_aload_n C dX11_plan_162 rfl ?_
    refine zr_iload_n C dX11_plan_163 rfl ?_
    refine zr_iload_n C dX11_plan_164 rfl ?_
    refine zk_X11_460 C F (Nat.le_of_ble_eq_true rfl) (Nat.le_trans (by decide) hh) (by simp [Value.category]) dX11_plan_165 (fun r165 m165 => ?_)
    refine zr_istore (i := 9) (L1 := [(9, .int _), (0, .ref _), (1, .int _), (2, .int _), (3, .int _), (4, .int _), (5, .int _), (6, .int _), (7, .int _), (8, .int _)]) C dX11_plan_168 (by decide) rfl ?_
    refine zr_iload C dX11_plan_170 rfl ?_
    refine zr_iload C dX11_plan_172 rfl ?_
    refine zr_icmp_ge (tgt := 195) C dX11_plan_174 (by decide) ?_ ?_
    · refine zr_iinc (kk := 8) (v := (l7 + 1)) (L1 := [(7, .int _), (9, .int _), (0, .ref _), (1, .int _), (2, .int _), (3, .int _), (4, .int _), (5, .int _), (6, .int _), (8, .int _)]) C dX11_plan_195 rfl rfl (by decide) rfl ?_
      refine zr_goto (tgt := 111) C dX11_plan_198 (by decide) ?_
      exact zr_sub [2, 3, 4, 5, 6, 7, 8, 0] rfl (hrec111 m165 ((l1, l2, l3, l4, l5, l6, (l7 + 1))))
    · refine zr_iload C dX11_plan_177 rfl ?_
      refine zr_istore (i := 6) (L1 := [(6, .int _), (9, .int _), (0, .ref _), (1, .int _), (2, .int _), (3, .int _), (4, .int _), (5, .int _), (7, .int _), (8, .int _)]) C dX11_plan_179 (by decide) rfl ?_
      refine zr_aload_n C dX11_plan_181 rfl ?_
      refine zf_X11_154 C (Nat.le_of_ble_eq_true rfl) dX11_plan_182 ?_
      refine zr_iconst (v := 0) C dX11_plan_185 rfl ?_
      refine zr_aload_n C dX11_plan_186 rfl ?_
      refine zf_X11_157 C (Nat.le_of_ble_eq_true rfl) dX11_plan_187 ?_
      refine zr_iconst (v := 0) C dX11_plan_190 rfl ?_
      refine zr_iconst (v := 5) C dX11_plan_191 rfl ?_
      refine zr_cpi (n0 := 5) (n1 := 5) C wz_1441 wz_1078 wz_1077 wz_19 (Nat.le_of_ble_eq_true rfl) (Nat.le_of_ble_eq_true rfl) (fun _ _ => rfl) (fun _ _ => rfl) (Nat.le_trans (by decide) hh) (by simp [Value.category]) dX11_plan_192 ?_
      refine zr_iinc (kk := 8) (v := (l7 + 1)) (L1 := [(7, .int _), (6, .int _), (9, .int _), (0, .ref _), (1, .int _), (2, .int _), (3, .int _), (4, .int _), (5, .int _), (8, .int _)]) C dX11_plan_195 rfl rfl (by decide) rfl ?_
      refine zr_goto (tgt := 111) C dX11_plan_198 (by decide) ?_
      exact zr_sub [3, 4, 5, 6, 7, 8, 1, 0] rfl (hrec111 (zcpi m165 117 0 0 118 0 0 5) ((l1, l2, l3, l4, l5, r165, (l7 + 1))))
  · refine zr_aload_n C dX11_plan_133 rfl ?_
    refine zf_X11_154 C (Nat.le_of_ble_eq_true rfl) dX11_plan_134 ?_
    refine zr_iload C dX11_plan_137 rfl ?_
    refine zr_iload C dX11_plan_139 rfl ?_
    refine zr_aload_n C dX11_plan_141 rfl ?_
    refine zf_X11_170 C (Nat.le_of_ble_eq_true rfl) dX11_plan_142 ?_
    refine zr_irem C dX11_plan_145 ?_
    refine zr_iast (n := 5) C dX11_plan_146 (Nat.le_of_ble_eq_true rfl) (fun _ _ => rfl) ?_
    refine zr_iload C dX11_plan_147 rfl ?_
    refine zr_aload_n C dX11_plan_149 rfl ?_
    refine zf_X11_170 C (Nat.le_of_ble_eq_true rfl) dX11_plan_150 ?_
    refine zr_idiv C dX11_plan_153 ?_
    refine zr_istore (i := 8) (L1 := [(8, .int _), (0, .ref _), (1, .int _), (2, .int _), (3, .int _), (4, .int _), (5, .int _), (6, .int _), (7, .int _), (9, .int _)]) C dX11_plan_154 (by decide) rfl ?_
    refine zr_iinc (kk := 9) (v := (l9 + (-1))) (L1 := [(9, .int _), (8, .int _), (0, .ref _), (1, .int _), (2, .int _), (3, .int _), (4, .int _), (5, .int _), (6, .int _), (7, .int _)]) C dX11_plan_156 rfl rfl (by decide) rfl ?_
    refine zr_goto (tgt := 128) C dX11_plan_159 (by decide) ?_
    exact zr_sub [2, 3, 4, 5, 6, 7, 8, 9, 1, 0] rfl (hrec128 (zwi σ 117 0 l9.toNatClampNeg ((zrem l8 ((σ.1 60 0 25))))) ((l1, l2, l3, l4, l5, l6, l7, (l8 / ((zwi σ 117 0 l9.toNatClampNeg ((zrem l8 ((σ.1 60 0 25))))).1 60 0 25)), (l9 + (-1)))))
def f_X11_plan_111 (F : Nat) (rec111 : zMem → Int32 × Int32 × Int32 × Int32 × Int32 × Int32 × Int32 → Option (Int32 × zMem)) (σ : zMem) (x : Int32 × Int32 × Int32 × Int32 × Int32 × Int32 × Int32) : Option (Int32 × zMem) := if x.2.2.2.2.1 ≤ x.2.2.2.2.2.2 then (if x.2.2.1 = 0 then (some (x.2.2.2.2.2.1, σ)) else (zg (inb ((x.2.2.1 - 1)) 5) (some ((σ.1 118 0 ((x.2.2.1 - 1)).toNatClampNeg), σ)))) else (zit (f_X11_plan_128 F rec111) F σ ((x.1, x.2.1, x.2.2.1, x.2.2.2.1, x.2.2.2.2.1, x.2.2.2.2.2.1, x.2.2.2.2.2.2, x.2.2.2.2.2.2, (x.2.2.2.1 - 1))))
set_option maxHeartbeats 4000000 in
set_option maxRecDepth 100000 in
theorem c_X11_plan_111 (F : Nat) {E : zEn} {h : Nat} {Z : zLay} (C : zCx E cX11_plan RX11 10 (some .int) Z h) (hh : 4 ≤ h) : ∀ (n : Nat) (σ : zMem) (x : Int32 × Int32 × Int32 × Int32 × Int32 × Int32 × Int32), zKO E 10 Z (zMQ E Z (zQI Z)) 111 [(0, .ref (zad Z 60 0)), (1, .int x.1), (2, .int x.2.1), (3, .int x.2.2.1), (4, .int x.2.2.2.1), (5, .int x.2.2.2.2.1), (6, .int x.2.2.2.2.2.1), (7, .int x.2.2.2.2.2.2)] [] σ (zit (f_X11_plan_111 F) n σ x) := by
  refine zr_loop (LL := fun (x : Int32 × Int32 × Int32 × Int32 × Int32 × Int32 × Int32) => [(0, .ref (zad Z 60 0)), (1, .int x.1), (2, .int x.2.1), (3, .int x.2.2.1), (4, .int x.2.2.2.1), (5, .int x.2.2.2.2.1), (6, .int x.2.2.2.2.2.1), (7, .int x.2.2.2.2.2.2)]) (ST := fun (x : Int32 × Int32 × Int32 × Int32 × Int32 × Int32 × Int32) => []) (fun rec111 hrec111 σ x => ?_)
  obtain ⟨l1, l2, l3, l4, l5, l6, l7⟩ := x
  show zKO E 10 Z (zMQ E Z (zQI Z)) 111 [(0, .ref (zad Z 60 0)), (1, .int l1), (2, .int l2), (3, .int l3), (4, .int l4), (5, .int l5), (6, .int l6), (7, .int l7)] [] σ (if l5 ≤ l7 then (if l3 = 0 then (some (l6, σ)) else (zg (inb ((l3 - 1)) 5) (some ((σ.1 118 0 ((l3 - 1)).toNatClampNeg), σ)))) else (zit (f_X11_plan_128 F rec111) F σ ((l1, l2, l3, l4, l5, l6, l7, l7, (l4 - 1)))))
  refine zr_iload C dX11_plan_111 rfl ?_
  refine zr_iload C dX11_plan_113 rfl ?_
  refine zr_icmp_ge (tgt := 201) C dX11_plan_115 (by decide) ?_ ?_
  · refine zr_iload_n C dX11_plan_201 rfl ?_
    refine zr_if_ne (tgt := 210) C dX11_plan_202 (by decide) ?_ ?_
    · refine zr_aload_n C dX11_plan_210 rfl ?_
      refine zf_X11_157 C (Nat.le_of_ble_eq_true rfl) dX11_plan_211 ?_
      refine zr_iload_n C dX11_plan_214 rfl ?_
      refine zr_iconst (v := 1) C dX11_plan_215 rfl ?_
      refine zr_isub C dX11_plan_216 ?_
      refine zr_iald (n := 5) C dX11_plan_217 (Nat.le_of_ble_eq_true rfl) rfl ?_
      exact zr_iret C dX11_plan_218
    · refine zr_iload C dX11_plan_205 rfl ?_
      refine zr_goto (tgt := 218) C dX11_plan_207 (by decide) ?_
      exact zr_iret C dX11_plan_218
  · refine zr_iload C dX11_plan_118 rfl ?_
    refine zr_istore (i := 8) (L1 := [(8, .int _), (0, .ref _), (1, .int _), (2, .int _), (3, .int _), (4, .int _), (5, .int _), (6, .int _), (7, .int _)]) C dX11_plan_120 (by decide) rfl ?_
    refine zr_iload C dX11_plan_122 rfl ?_
    refine zr_iconst (v := 1) C dX11_plan_124 rfl ?_
    refine zr_isub C dX11_plan_125 ?_
    refine zr_istore (i := 9) (L1 := [(9, .int _), (8, .int _), (0, .ref _), (1, .int _), (2, .int _), (3, .int _), (4, .int _), (5, .int _), (6, .int _), (7, .int _)]) C dX11_plan_126 (by decide) rfl ?_
    exact zr_sub [2, 3, 4, 5, 6, 7, 8, 9, 1, 0] rfl (c_X11_plan_128 F rec111 C hh hrec111 F σ ((l1, l2, l3, l4, l5, l6, l7, l7, (l4 - 1))))
def f_X11_plan_81 (F : Nat) (rec81 : zMem → Int32 × Int32 × Int32 × Int32 × Int32 × Int32 → Option (Int32 × zMem)) (σ : zMem) (x : Int32 × Int32 × Int32 × Int32 × Int32 × Int32) : Option (Int32 × zMem) := if x.2.2.2.1 ≤ x.2.2.2.2.2 then (zit (f_X11_plan_111 F) F σ ((x.1, x.2.1, x.2.2.1, x.2.2.2.1, x.2.2.2.2.1, 2147483647, 0))) else (rec81 σ ((x.1, x.2.1, x.2.2.1, x.2.2.2.1, (x.2.2.2.2.1 * (σ.1 60 0 25)), (x.2.2.2.2.2 + 1))))
set_option maxHeartbeats 4000000 in
set_option maxRecDepth 100000 in
theorem c_X11_plan_81 (F : Nat) {E : zEn} {h : Nat} {Z : zLay} (C : zCx E cX11_plan RX11 10 (some .int) Z h) (hh : 4 ≤ h) : ∀ (n : Nat) (σ : zMem) (x : Int32 × Int32 × Int32 × Int32 × Int32 × Int32), zKO E 10 Z (zMQ E Z (zQI Z)) 81 [(0, .ref (zad Z 60 0)), (1, .int x.1), (2, .int x.2.1), (3, .int x.2.2.1), (4, .int x.2.2.2.1), (5, .int x.2.2.2.2.1), (6, .int x.2.2.2.2.2)] [] σ (zit (f_X11_plan_81 F) n σ x) := by
  refine zr_loop (LL := fun (x : Int32 × Int32 × Int32 × Int32 × Int32 × Int32) => [(0, .ref (zad Z 60 0)), (1, .int x.1), (2, .int x.2.1), (3, .int x.2.2.1), (4, .int x.2.2.2.1), (5, .int x.2.2.2.2.1), (6, .int x.2.2.2.2.2)]) (ST := fun (x : Int32 × Int32 × Int32 × Int32 × Int32 × Int32) => []) (fun rec81 hrec81 σ x => ?_)
  obtain ⟨l1, l2, l3, l4, l5, l6⟩ := x
  show zKO E 10 Z (zMQ E Z (zQI Z)) 81 [(0, .ref (zad Z 60 0)), (1, .int l1), (2, .int l2), (3, .int l3), (4, .int l4), (5, .int l5), (6, .int l6)] [] σ (if l4 ≤ l6 then (zit (f_X11_plan_111 F) F σ ((l1, l2, l3, l4, l5, 2147483647, 0))) else (rec81 σ ((l1, l2, l3, l4, (l5 * (σ.1 60 0 25)), (l6 + 1)))))
  refine zr_iload C dX11_plan_81 rfl ?_
  refine zr_iload C dX11_plan_83 rfl ?_
  refine zr_icmp_ge (tgt := 103) C dX11_plan_85 (by decide) ?_ ?_
  · refine zr_ldc_w (v := 2147483647) C dX11_plan_103 wz_1672 ?_
    refine zr_istore (i := 6) (L1 := [(6, .int _), (0, .ref _), (1, .int _), (2, .int _), (3, .int _), (4, .int _), (5, .int _)]) C dX11_plan_106 (by decide) rfl ?_
    refine zr_iconst (v := 0) C dX11_plan_108 rfl ?_
    refine zr_istore (i := 7) (L1 := [(7, .int _), (6, .int _), (0, .ref _), (1, .int _), (2, .int _), (3, .int _), (4, .int _), (5, .int _)]) C dX11_plan_109 (by decide) rfl ?_
    exact zr_sub [2, 3, 4, 5, 6, 7, 1, 0] rfl (c_X11_plan_111 F C hh F σ ((l1, l2, l3, l4, l5, 2147483647, 0)))
  · refine zr_iload C dX11_plan_88 rfl ?_
    refine zr_aload_n C dX11_plan_90 rfl ?_
    refine zf_X11_170 C (Nat.le_of_ble_eq_true rfl) dX11_plan_91 ?_
    refine zr_imul C dX11_plan_94 ?_
    refine zr_istore (i := 5) (L1 := [(5, .int _), (0, .ref _), (1, .int _), (2, .int _), (3, .int _), (4, .int _), (6, .int _)]) C dX11_plan_95 (by decide) rfl ?_
    refine zr_iinc (kk := 6) (v := (l6 + 1)) (L1 := [(6, .int _), (5, .int _), (0, .ref _), (1, .int _), (2, .int _), (3, .int _), (4, .int _)]) C dX11_plan_97 rfl rfl (by decide) rfl ?_
    refine zr_goto (tgt := 81) C dX11_plan_100 (by decide) ?_
    exact zr_sub [2, 3, 4, 5, 6, 1, 0] rfl (hrec81 σ ((l1, l2, l3, l4, (l5 * (σ.1 60 0 25)), (l6 + 1))))
def f_X11_plan (F : Nat) (σ : zMem) (a1 : Int32) (a2 : Int32) (a3 : Int32) : Option (Int32 × zMem) := zb (f_J6_bitCount_0f7a4 F σ a1) fun r1 m1 => if (a1 &&& (((1 <<< ((m1.1 60 0 1) &&& 31)) - 1) ^^^ (-1))) = 0 then (if a1 = 0 then (some ((-1), m1)) else (if (m1.1 60 0 25) = 0 then (some ((-1), m1)) else (zb (f_X11_in F m1 a3 0 r1) fun r36 m36 => if r36 = 0 then (some ((-1), m36)) else (zb (f_X11_in F m36 a2 1 30) fun r48 m48 => if r48 = 0 then (some ((-2), m48)) else (if 5 < r1 then (some ((-2), m48)) else (if ((m48.1 60 0 0) + a2) ≤ 7200 then (zit (f_X11_plan_81 F) F m48 ((a1, a2, a3, r1, 1, 0))) else (some ((-2), m48)))))))) else (some ((-1), m1))
set_option maxHeartbeats 4000000 in
set_option maxRecDepth 100000 in
theorem c_X11_plan (l : Launch) (Z : zLay) (F : Nat) (σ : zMem) (a1 : Int32) (a2 : Int32) (a3 : Int32) (r : Int32) (σ1 : zMem) (ho : f_X11_plan F σ a1 a2 a3 = some (r, σ1)) : zMet l yX11_plan cX11_plan 10 (some .int) 4 Z [.ref (zad Z 60 0), .int (a1), .int (a2), .int (a3)] σ (zQI Z r σ1) := by
  refine zMet_of (Qc := zQI Z) (by decide) (Nat.le_of_ble_eq_true rfl) [(0, .ref (zad Z 60 0)), (1, .int (a1)), (2, .int (a2)), (3, .int (a3))] rfl (fun E C => ?_) ho
  have hh : 4 ≤ 4 := Nat.le_refl _
  show zKO E 10 Z (zMQ E Z (zQI Z)) 0 [(0, .ref (zad Z 60 0)), (1, .int (a1)), (2, .int (a2)), (3, .int (a3))] [] σ _
  unfold f_X11_plan
  refine zr_iload_n C dX11_plan_0 rfl ?_
  refine zk_X11_317 C F (Nat.le_trans (by decide) hh) (by simp [Value.category]) dX11_plan_1 (fun r1 m1 => ?_)
  refine zr_istore (i := 4) (L1 := [(4, .int _), (0, .ref _), (1, .int _), (2, .int _), (3, .int _)]) C dX11_plan_4 (by decide) rfl ?_
  refine zr_iload_n C dX11_plan_6 rfl ?_
  refine zr_iconst (v := 1) C dX11_plan_7 rfl ?_
  refine zr_aload_n C dX11_plan_8 rfl ?_
  refine zf_X11_160 C (Nat.le_of_ble_eq_true rfl) dX11_plan_9 ?_
  refine zr_ishl C dX11_plan_12 ?_
  refine zr_iconst (v := 1) C dX11_plan_13 rfl ?_
  refine zr_isub C dX11_plan_14 ?_
  refine zr_iconst (v := -1) C dX11_plan_15 rfl ?_
  refine zr_ixor C dX11_plan_16 ?_
  refine zr_iand C dX11_plan_17 ?_
  refine zr_if_ne (tgt := 42) C dX11_plan_18 (by decide) ?_ ?_
  · refine zr_iconst (v := -1) C dX11_plan_42 rfl ?_
    exact zr_iret C dX11_plan_43
  · refine zr_iload_n C dX11_plan_21 rfl ?_
    refine zr_if_eq (tgt := 42) C dX11_plan_22 (by decide) ?_ ?_
    · refine zr_iconst (v := -1) C dX11_plan_42 rfl ?_
      exact zr_iret C dX11_plan_43
    · refine zr_aload_n C dX11_plan_25 rfl ?_
      refine zf_X11_170 C (Nat.le_of_ble_eq_true rfl) dX11_plan_26 ?_
      refine zr_if_eq (tgt := 42) C dX11_plan_29 (by decide) ?_ ?_
      · refine zr_iconst (v := -1) C dX11_plan_42 rfl ?_
        exact zr_iret C dX11_plan_43
      · refine zr_iload_n C dX11_plan_32 rfl ?_
        refine zr_iconst (v := 0) C dX11_plan_33 rfl ?_
        refine zr_iload C dX11_plan_34 rfl ?_
        refine zk_X11_163 C F (Nat.le_trans (by decide) hh) (by simp [Value.category]) dX11_plan_36 (fun r36 m36 => ?_)
        refine zr_if_ne (tgt := 44) C dX11_plan_39 (by decide) ?_ ?_
        · refine zr_iload_n C dX11_plan_44 rfl ?_
          refine zr_iconst (v := 1) C dX11_plan_45 rfl ?_
          refine zr_bipush (v := 30) C dX11_plan_46 rfl ?_
          refine zk_X11_163 C F (Nat.le_trans (by decide) hh) (by simp [Value.category]) dX11_plan_48 (fun r48 m48 => ?_)
          refine zr_if_eq (tgt := 72) C dX11_plan_51 (by decide) ?_ ?_
          · refine zr_bipush (v := -2) C dX11_plan_72 rfl ?_
            exact zr_iret C dX11_plan_74
          · refine zr_iload C dX11_plan_54 rfl ?_
            refine zr_iconst (v := 5) C dX11_plan_56 rfl ?_
            refine zr_icmp_gt (tgt := 72) C dX11_plan_57 (by decide) ?_ ?_
            · refine zr_bipush (v := -2) C dX11_plan_72 rfl ?_
              exact zr_iret C dX11_plan_74
            · refine zr_aload_n C dX11_plan_60 rfl ?_
              refine zf_X11_193 C (Nat.le_of_ble_eq_true rfl) dX11_plan_61 ?_
              refine zr_iload_n C dX11_plan_64 rfl ?_
              refine zr_iadd C dX11_plan_65 ?_
              refine zr_sipush (v := 7200) C dX11_plan_66 rfl ?_
              refine zr_icmp_le (tgt := 75) C dX11_plan_69 (by decide) ?_ ?_
              · refine zr_iconst (v := 1) C dX11_plan_75 rfl ?_
                refine zr_istore (i := 5) (L1 := [(5, .int _), (4, .int _), (0, .ref _), (1, .int _), (2, .int _), (3, .int _)]) C dX11_plan_76 (by decide) rfl ?_
                refine zr_iconst (v := 0) C dX11_plan_78 rfl ?_
                refine zr_istore (i := 6) (L1 := [(6, .int _), (5, .int _), (4, .int _), (0, .ref _), (1, .int _), (2, .int _), (3, .int _)]) C dX11_plan_79 (by decide) rfl ?_
                exact zr_sub [3, 4, 5, 6, 2, 1, 0] rfl (c_X11_plan_81 F C hh F m48 ((a1, a2, a3, r1, 1, 0)))
              · refine zr_bipush (v := -2) C dX11_plan_72 rfl ?_
                exact zr_iret C dX11_plan_74
        · refine zr_iconst (v := -1) C dX11_plan_42 rfl ?_
          exact zr_iret C dX11_plan_43
def f_X11_above (F : Nat) (σ : zMem) (a0 : Int32) : Option (Int32 × zMem) := if a0 = 0 then (some ((-1), σ)) else (if a0 = 4 then (some (1, σ)) else (some (0, σ)))
set_option maxHeartbeats 4000000 in
set_option maxRecDepth 100000 in
theorem c_X11_above (l : Launch) (Z : zLay) (F : Nat) (σ : zMem) (a0 : Int32) (r : Int32) (σ1 : zMem) (ho : f_X11_above F σ a0 = some (r, σ1)) : zMet l yX11_above cX11_above 1 (some .int) 1 Z [.int (a0)] σ (zQI Z r σ1) := by
  refine zMet_of (Qc := zQI Z) (by decide) (Nat.le_of_ble_eq_true rfl) [(0, .int (a0))] rfl (fun E C => ?_) ho
  have hh : 1 ≤ 1 := Nat.le_refl _
  show zKO E 1 Z (zMQ E Z (zQI Z)) 0 [(0, .int (a0))] [] σ _
  unfold f_X11_above
  refine zr_iload_n C dX11_above_0 rfl ?_
  refine zr_if_ne (tgt := 8) C dX11_above_1 (by decide) ?_ ?_
  · refine zr_iload_n C dX11_above_8 rfl ?_
    refine zr_iconst (v := 4) C dX11_above_9 rfl ?_
    refine zr_icmp_ne (tgt := 17) C dX11_above_10 (by decide) ?_ ?_
    · refine zr_iconst (v := 0) C dX11_above_17 rfl ?_
      exact zr_iret C dX11_above_18
    · refine zr_iconst (v := 1) C dX11_above_13 rfl ?_
      refine zr_goto (tgt := 18) C dX11_above_14 (by decide) ?_
      exact zr_iret C dX11_above_18
  · refine zr_iconst (v := -1) C dX11_above_4 rfl ?_
    refine zr_goto (tgt := 18) C dX11_above_5 (by decide) ?_
    exact zr_iret C dX11_above_18
theorem zk_X11_466 (C : zCx E cc RX11 nL ret Z h) (F : Nat) {b0 : Int32} (hh : 1 + 1 ≤ h) (hst8 : (st.map fun v => v.category).sum ≤ 8) (hd : decode cc pc = .ok (.invokestatic 466, 3)) {g : Int32 → zMem → Option (α × zMem)} (kk : ∀ (r : Int32) (σ1 : zMem), zKO E nL Z QQ (pc + 3) L (.int r :: st) σ1 (g r σ1)) : zKO E nL Z QQ pc L (.int b0 :: st) σ (zb (f_X11_above F σ b0) g) :=
  zr_callSI (As := [.int b0]) (ia := 1) C (fun r σ1 ho => c_X11_above (zla E) Z F σ b0 r σ1 ho) wz_1688 wz_1689 wz_1690 wz_12 (by decide +kernel) rfl (by decide) hh hd hst8 kk
def f_X11_bodyOf (F : Nat) (σ : zMem) (a0 : Int32) (a1 : Int32) : Option (Int32 × zMem) := if ((10 * a0) + a1) = 0 then (some (10, σ)) else (if ((10 * a0) + a1) = 1 then (some (11, σ)) else (if ((10 * a0) + a1) = 2 then (some (12, σ)) else (if ((10 * a0) + a1) = 11 then (some (20, σ)) else (if ((10 * a0) + a1) = 20 then (some (30, σ)) else (if ((10 * a0) + a1) = 32 then (some (40, σ)) else (if ((10 * a0) + a1) = 40 then (some (50, σ)) else (if ((10 * a0) + a1) = 41 then (some (51, σ)) else (if ((10 * a0) + a1) = 50 then (some (60, σ)) else (some (0, σ))))))))))
set_option maxHeartbeats 4000000 in
set_option maxRecDepth 100000 in
theorem c_X11_bodyOf (l : Launch) (Z : zLay) (F : Nat) (σ : zMem) (a0 : Int32) (a1 : Int32) (r : Int32) (σ1 : zMem) (ho : f_X11_bodyOf F σ a0 a1 = some (r, σ1)) : zMet l yX11_bodyOf cX11_bodyOf 2 (some .int) 1 Z [.int (a0), .int (a1)] σ (zQI Z r σ1) := by
  refine zMet_of (Qc := zQI Z) (by decide) (Nat.le_of_ble_eq_true rfl) [(0, .int (a0)), (1, .int (a1))] rfl (fun E C => ?_) ho
  have hh : 1 ≤ 1 := Nat.le_refl _
  show zKO E 2 Z (zMQ E Z (zQI Z)) 0 [(0, .int (a0)), (1, .int (a1))] [] σ _
  unfold f_X11_bodyOf
  refine zr_bipush (v := 10) C dX11_bodyOf_0 rfl ?_
  refine zr_iload_n C dX11_bodyOf_2 rfl ?_
  refine zr_imul C dX11_bodyOf_3 ?_
  refine zr_iload_n C dX11_bodyOf_4 rfl ?_
  refine zr_iadd C dX11_bodyOf_5 ?_
  refine zr_if (fun hx => ?_) (fun hx0 => ?_)
  · refine zr_lookup (tgt := 88) C dX11_bodyOf_6 (by decide) (off := 82) (by rw [hx]; decide) (by decide) ?_
    refine zr_bipush (v := 10) C dX11_bodyOf_88 rfl ?_
    exact zr_iret C dX11_bodyOf_90
  · refine zr_if (fun hx => ?_) (fun hx1 => ?_)
    · refine zr_lookup (tgt := 91) C dX11_bodyOf_6 (by decide) (off := 85) (by rw [hx]; decide) (by decide) ?_
      refine zr_bipush (v := 11) C dX11_bodyOf_91 rfl ?_
      exact zr_iret C dX11_bodyOf_93
    · refine zr_if (fun hx => ?_) (fun hx2 => ?_)
      · refine zr_lookup (tgt := 94) C dX11_bodyOf_6 (by decide) (off := 88) (by rw [hx]; decide) (by decide) ?_
        refine zr_bipush (v := 12) C dX11_bodyOf_94 rfl ?_
        exact zr_iret C dX11_bodyOf_96
      · refine zr_if (fun hx => ?_) (fun hx3 => ?_)
        · refine zr_lookup (tgt := 97) C dX11_bodyOf_6 (by decide) (off := 91) (by rw [hx]; decide) (by decide) ?_
          refine zr_bipush (v := 20) C dX11_bodyOf_97 rfl ?_
          exact zr_iret C dX11_bodyOf_99
        · refine zr_if (fun hx => ?_) (fun hx4 => ?_)
          · refine zr_lookup (tgt := 100) C dX11_bodyOf_6 (by decide) (off := 94) (by rw [hx]; decide) (by decide) ?_
            refine zr_bipush (v := 30) C dX11_bodyOf_100 rfl ?_
            exact zr_iret C dX11_bodyOf_102
          · refine zr_if (fun hx => ?_) (fun hx5 => ?_)
            · refine zr_lookup (tgt := 103) C dX11_bodyOf_6 (by decide) (off := 97) (by rw [hx]; decide) (by decide) ?_
              refine zr_bipush (v := 40) C dX11_bodyOf_103 rfl ?_
              exact zr_iret C dX11_bodyOf_105
            · refine zr_if (fun hx => ?_) (fun hx6 => ?_)
              · refine zr_lookup (tgt := 106) C dX11_bodyOf_6 (by decide) (off := 100) (by rw [hx]; decide) (by decide) ?_
                refine zr_bipush (v := 50) C dX11_bodyOf_106 rfl ?_
                exact zr_iret C dX11_bodyOf_108
              · refine zr_if (fun hx => ?_) (fun hx7 => ?_)
                · refine zr_lookup (tgt := 109) C dX11_bodyOf_6 (by decide) (off := 103) (by rw [hx]; decide) (by decide) ?_
                  refine zr_bipush (v := 51) C dX11_bodyOf_109 rfl ?_
                  exact zr_iret C dX11_bodyOf_111
                · refine zr_if (fun hx => ?_) (fun hx8 => ?_)
                  · refine zr_lookup (tgt := 112) C dX11_bodyOf_6 (by decide) (off := 106) (by rw [hx]; decide) (by decide) ?_
                    refine zr_bipush (v := 60) C dX11_bodyOf_112 rfl ?_
                    exact zr_iret C dX11_bodyOf_114
                  · refine zr_lookup (x := ((10 * a0) + a1)) (tgt := 115) C dX11_bodyOf_6 (by decide) (off := 109) (zlk_none (List.forall_mem_cons.mpr ⟨zlk_ne hx0, List.forall_mem_cons.mpr ⟨zlk_ne hx1, List.forall_mem_cons.mpr ⟨zlk_ne hx2, List.forall_mem_cons.mpr ⟨zlk_ne hx3, List.forall_mem_cons.mpr ⟨zlk_ne hx4, List.forall_mem_cons.mpr ⟨zlk_ne hx5, List.forall_mem_cons.mpr ⟨zlk_ne hx6, List.forall_mem_cons.mpr ⟨zlk_ne hx7, List.forall_mem_cons.mpr ⟨zlk_ne hx8, fun _ h9 => absurd h9 List.not_mem_nil⟩⟩⟩⟩⟩⟩⟩⟩⟩)) (by decide) ?_
                    refine zr_iconst (v := 0) C dX11_bodyOf_115 rfl ?_
                    exact zr_iret C dX11_bodyOf_116
theorem zk_X11_463 (C : zCx E cc RX11 nL ret Z h) (F : Nat) {b0 : Int32} {b1 : Int32} (hh : 1 + 1 ≤ h) (hst8 : (st.map fun v => v.category).sum ≤ 8) (hd : decode cc pc = .ok (.invokestatic 463, 3)) {g : Int32 → zMem → Option (α × zMem)} (kk : ∀ (r : Int32) (σ1 : zMem), zKO E nL Z QQ (pc + 3) L (.int r :: st) σ1 (g r σ1)) : zKO E nL Z QQ pc L (.int b1 :: .int b0 :: st) σ (zb (f_X11_bodyOf F σ b0 b1) g) :=
  zr_callSI (As := [.int b0, .int b1]) (ia := 2) C (fun r σ1 ho => c_X11_bodyOf (zla E) Z F σ b0 b1 r σ1 ho) wz_1685 wz_1686 wz_1687 wz_12 (by decide +kernel) rfl (by decide) hh hd hst8 kk
def f_X11_run_50 (F : Nat) (rcall : zMem → Int32 → Int32 → Int32 → Int32 → Option (Int32 × zMem)) (σ : zMem) (l1 : Int32) (l4 : Int32) (l5 : Int32) (l6 : Int32) : Option (Int32 × zMem) := if l6 = 10 then (zg (inb l1 50) (some ((l4 + ((zwi σ 60 0 57 (((σ.1 60 0 57) + 1))).1 75 0 l1.toNatClampNeg)), (zwi σ 60 0 57 (((σ.1 60 0 57) + 1)))))) else (if l6 = 11 then (zg (inb l1 50) (zb (rcall (zwi σ 60 0 57 (((σ.1 60 0 57) + 1))) l1 (((zwi σ 60 0 57 (((σ.1 60 0 57) + 1))).1 73 0 l1.toNatClampNeg)) 0 l4) fun r157 m157 => some ((r157 * 2), m157))) else (if l6 = 12 then (zg (inb l1 50) (zb (rcall (zwi σ 60 0 57 (((σ.1 60 0 57) + 1))) l1 (((zwi σ 60 0 57 (((σ.1 60 0 57) + 1))).1 73 0 l1.toNatClampNeg)) 1 l4) fun r174 m174 => zg (inb l1 50) (zb (rcall m174 l1 ((m174.1 73 0 l1.toNatClampNeg)) 0 ((l4 - l1))) fun r194 m194 => some ((r174 ^^^ r194), m194)))) else (if l6 = 20 then (zb (f_X11_above F (zwi σ 60 0 57 (((σ.1 60 0 57) + 1))) l5) fun r203 m203 => zb (rcall m203 l1 r203 1 l4) fun r209 m209 => some ((r209 + l1), m209)) else (if l6 = 30 then (zb (f_X11_above F (zwi σ 60 0 57 (((σ.1 60 0 57) + 1))) l5) fun r219 m219 => zb (rcall m219 l1 r219 0 l4) fun r225 m225 => some ((r225 * 3), m225)) else (if l6 = 40 then (zb (f_X11_above F (zwi σ 60 0 57 (((σ.1 60 0 57) + 1))) l5) fun r235 m235 => zb (rcall m235 l1 r235 2 ((l4 + 1))) fun r243 m243 => some (r243, m243)) else (if l6 = 50 then (zb (f_X11_above F (zwi σ 60 0 57 (((σ.1 60 0 57) + 1))) l5) fun r251 m251 => zb (rcall m251 l1 r251 0 l4) fun r257 m257 => some ((r257 ^^^ 5), m257)) else (if l6 = 51 then (zb (f_X11_above F (zwi σ 60 0 57 (((σ.1 60 0 57) + 1))) l5) fun r267 m267 => zb (rcall m267 l1 r267 1 l4) fun r273 m273 => zg (inb l1 50) (some ((r273 - (m273.1 75 0 l1.toNatClampNeg)), m273))) else (zb (f_X11_above F (zwi σ 60 0 57 (((σ.1 60 0 57) + 1))) l5) fun r288 m288 => zb (rcall m288 l1 r288 0 l4) fun r294 m294 => some ((r294 - 7), m294)))))))))
set_option maxHeartbeats 4000000 in
set_option maxRecDepth 100000 in
theorem c_X11_run_50 (F : Nat) (rcall : zMem → Int32 → Int32 → Int32 → Int32 → Option (Int32 × zMem)) {E : zEn} {h : Nat} {Z : zLay} {hx : Nat} (hcall : ∀ (l : Launch) (σ : zMem) (b1 b2 b3 b4 : Int32) (r : Int32) (σ1 : zMem), rcall σ b1 b2 b3 b4 = some (r, σ1) → zMet l yX11_run cX11_run 8 (some .int) hx Z [.ref (zad Z 60 0), .int b1, .int b2, .int b3, .int b4] σ (zQI Z r σ1)) (hh1 : 1 ≤ hx) (C : zCx E cX11_run RX11 8 (some .int) Z h) (hh : hx + 1 ≤ h) (σ : zMem) (l1 : Int32) (l4 : Int32) (l5 : Int32) (l6 : Int32) : zKO E 8 Z (zMQ E Z (zQI Z)) 50 [(0, .ref (zad Z 60 0)), (1, .int l1), (4, .int l4), (5, .int l5), (6, .int l6)] [] σ (f_X11_run_50 F rcall σ l1 l4 l5 l6) := by
  unfold f_X11_run_50
  refine zr_aload_n C dX11_run_50 rfl ?_
  refine zr_dup C dX11_run_51 rfl ?_
  refine zf_X11_469 C (Nat.le_of_ble_eq_true rfl) dX11_run_52 ?_
  refine zr_iconst (v := 1) C dX11_run_55 rfl ?_
  refine zr_iadd C dX11_run_56 ?_
  refine zp_X11_469 C (Nat.le_of_ble_eq_true rfl) dX11_run_57 ?_
  refine zr_iload C dX11_run_60 rfl ?_
  refine zr_if (fun hx => ?_) (fun hx0 => ?_)
  · refine zr_lookup (tgt := 136) C dX11_run_62 (by decide) (off := 74) (by rw [hx]; decide) (by decide) ?_
    refine zr_iload C dX11_run_136 rfl ?_
    refine zr_aload_n C dX11_run_138 rfl ?_
    refine zf_X11_48 C (Nat.le_of_ble_eq_true rfl) dX11_run_139 ?_
    refine zr_iload_n C dX11_run_142 rfl ?_
    refine zr_iald (n := 50) C dX11_run_143 (Nat.le_of_ble_eq_true rfl) rfl ?_
    refine zr_iadd C dX11_run_144 ?_
    exact zr_iret C dX11_run_145
  · refine zr_if (fun hx => ?_) (fun hx1 => ?_)
    · refine zr_lookup (tgt := 146) C dX11_run_62 (by decide) (off := 84) (by rw [hx]; decide) (by decide) ?_
      refine zr_aload_n C dX11_run_146 rfl ?_
      refine zr_iload_n C dX11_run_147 rfl ?_
      refine zr_aload_n C dX11_run_148 rfl ?_
      refine zf_X11_42 C (Nat.le_of_ble_eq_true rfl) dX11_run_149 ?_
      refine zr_iload_n C dX11_run_152 rfl ?_
      refine zr_iald (n := 50) C dX11_run_153 (Nat.le_of_ble_eq_true rfl) rfl ?_
      refine zr_iconst (v := 0) C dX11_run_154 rfl ?_
      refine zr_iload C dX11_run_155 rfl ?_
      refine zr_callVI (As := [.int _, .int _, .int _, .int _]) (ia := 4) C (fun r σ1 ho => hcall _ _ _ _ _ _ r σ1 ho) wz_1681 (Nat.le_of_ble_eq_true rfl) rfl rfl wz_p125 wz_1683 wz_1684 wz_12 (by decide +kernel) rfl (by decide) (by omega) dX11_run_157 (by simp [Value.category]) (fun r157 m157 => ?_)
      refine zr_iconst (v := 2) C dX11_run_160 rfl ?_
      refine zr_imul C dX11_run_161 ?_
      exact zr_iret C dX11_run_162
    · refine zr_if (fun hx => ?_) (fun hx2 => ?_)
      · refine zr_lookup (tgt := 163) C dX11_run_62 (by decide) (off := 101) (by rw [hx]; decide) (by decide) ?_
        refine zr_aload_n C dX11_run_163 rfl ?_
        refine zr_iload_n C dX11_run_164 rfl ?_
        refine zr_aload_n C dX11_run_165 rfl ?_
        refine zf_X11_42 C (Nat.le_of_ble_eq_true rfl) dX11_run_166 ?_
        refine zr_iload_n C dX11_run_169 rfl ?_
        refine zr_iald (n := 50) C dX11_run_170 (Nat.le_of_ble_eq_true rfl) rfl ?_
        refine zr_iconst (v := 1) C dX11_run_171 rfl ?_
        refine zr_iload C dX11_run_172 rfl ?_
        refine zr_callVI (As := [.int _, .int _, .int _, .int _]) (ia := 4) C (fun r σ1 ho => hcall _ _ _ _ _ _ r σ1 ho) wz_1681 (Nat.le_of_ble_eq_true rfl) rfl rfl wz_p125 wz_1683 wz_1684 wz_12 (by decide +kernel) rfl (by decide) (by omega) dX11_run_174 (by simp [Value.category]) (fun r174 m174 => ?_)
        refine zr_istore (i := 7) (L1 := [(7, .int _), (0, .ref _), (1, .int _), (4, .int _), (5, .int _), (6, .int _)]) C dX11_run_177 (by decide) rfl ?_
        refine zr_iload C dX11_run_179 rfl ?_
        refine zr_aload_n C dX11_run_181 rfl ?_
        refine zr_iload_n C dX11_run_182 rfl ?_
        refine zr_aload_n C dX11_run_183 rfl ?_
        refine zf_X11_42 C (Nat.le_of_ble_eq_true rfl) dX11_run_184 ?_
        refine zr_iload_n C dX11_run_187 rfl ?_
        refine zr_iald (n := 50) C dX11_run_188 (Nat.le_of_ble_eq_true rfl) rfl ?_
        refine zr_iconst (v := 0) C dX11_run_189 rfl ?_
        refine zr_iload C dX11_run_190 rfl ?_
        refine zr_iload_n C dX11_run_192 rfl ?_
        refine zr_isub C dX11_run_193 ?_
        refine zr_callVI (As := [.int _, .int _, .int _, .int _]) (ia := 4) C (fun r σ1 ho => hcall _ _ _ _ _ _ r σ1 ho) wz_1681 (Nat.le_of_ble_eq_true rfl) rfl rfl wz_p125 wz_1683 wz_1684 wz_12 (by decide +kernel) rfl (by decide) (by omega) dX11_run_194 (by simp [Value.category]) (fun r194 m194 => ?_)
        refine zr_ixor C dX11_run_197 ?_
        exact zr_iret C dX11_run_198
      · refine zr_if (fun hx => ?_) (fun hx3 => ?_)
        · refine zr_lookup (tgt := 199) C dX11_run_62 (by decide) (off := 137) (by rw [hx]; decide) (by decide) ?_
          refine zr_aload_n C dX11_run_199 rfl ?_
          refine zr_iload_n C dX11_run_200 rfl ?_
          refine zr_iload C dX11_run_201 rfl ?_
          refine zk_X11_466 C F (by omega) (by simp [Value.category]) dX11_run_203 (fun r203 m203 => ?_)
          refine zr_iconst (v := 1) C dX11_run_206 rfl ?_
          refine zr_iload C dX11_run_207 rfl ?_
          refine zr_callVI (As := [.int _, .int _, .int _, .int _]) (ia := 4) C (fun r σ1 ho => hcall _ _ _ _ _ _ r σ1 ho) wz_1681 (Nat.le_of_ble_eq_true rfl) rfl rfl wz_p125 wz_1683 wz_1684 wz_12 (by decide +kernel) rfl (by decide) (by omega) dX11_run_209 (by simp [Value.category]) (fun r209 m209 => ?_)
          refine zr_iload_n C dX11_run_212 rfl ?_
          refine zr_iadd C dX11_run_213 ?_
          exact zr_iret C dX11_run_214
        · refine zr_if (fun hx => ?_) (fun hx4 => ?_)
          · refine zr_lookup (tgt := 215) C dX11_run_62 (by decide) (off := 153) (by rw [hx]; decide) (by decide) ?_
            refine zr_aload_n C dX11_run_215 rfl ?_
            refine zr_iload_n C dX11_run_216 rfl ?_
            refine zr_iload C dX11_run_217 rfl ?_
            refine zk_X11_466 C F (by omega) (by simp [Value.category]) dX11_run_219 (fun r219 m219 => ?_)
            refine zr_iconst (v := 0) C dX11_run_222 rfl ?_
            refine zr_iload C dX11_run_223 rfl ?_
            refine zr_callVI (As := [.int _, .int _, .int _, .int _]) (ia := 4) C (fun r σ1 ho => hcall _ _ _ _ _ _ r σ1 ho) wz_1681 (Nat.le_of_ble_eq_true rfl) rfl rfl wz_p125 wz_1683 wz_1684 wz_12 (by decide +kernel) rfl (by decide) (by omega) dX11_run_225 (by simp [Value.category]) (fun r225 m225 => ?_)
            refine zr_iconst (v := 3) C dX11_run_228 rfl ?_
            refine zr_imul C dX11_run_229 ?_
            exact zr_iret C dX11_run_230
          · refine zr_if (fun hx => ?_) (fun hx5 => ?_)
            · refine zr_lookup (tgt := 231) C dX11_run_62 (by decide) (off := 169) (by rw [hx]; decide) (by decide) ?_
              refine zr_aload_n C dX11_run_231 rfl ?_
              refine zr_iload_n C dX11_run_232 rfl ?_
              refine zr_iload C dX11_run_233 rfl ?_
              refine zk_X11_466 C F (by omega) (by simp [Value.category]) dX11_run_235 (fun r235 m235 => ?_)
              refine zr_iconst (v := 2) C dX11_run_238 rfl ?_
              refine zr_iload C dX11_run_239 rfl ?_
              refine zr_iconst (v := 1) C dX11_run_241 rfl ?_
              refine zr_iadd C dX11_run_242 ?_
              refine zr_callVI (As := [.int _, .int _, .int _, .int _]) (ia := 4) C (fun r σ1 ho => hcall _ _ _ _ _ _ r σ1 ho) wz_1681 (Nat.le_of_ble_eq_true rfl) rfl rfl wz_p125 wz_1683 wz_1684 wz_12 (by decide +kernel) rfl (by decide) (by omega) dX11_run_243 (by simp [Value.category]) (fun r243 m243 => ?_)
              exact zr_iret C dX11_run_246
            · refine zr_if (fun hx => ?_) (fun hx6 => ?_)
              · refine zr_lookup (tgt := 247) C dX11_run_62 (by decide) (off := 185) (by rw [hx]; decide) (by decide) ?_
                refine zr_aload_n C dX11_run_247 rfl ?_
                refine zr_iload_n C dX11_run_248 rfl ?_
                refine zr_iload C dX11_run_249 rfl ?_
                refine zk_X11_466 C F (by omega) (by simp [Value.category]) dX11_run_251 (fun r251 m251 => ?_)
                refine zr_iconst (v := 0) C dX11_run_254 rfl ?_
                refine zr_iload C dX11_run_255 rfl ?_
                refine zr_callVI (As := [.int _, .int _, .int _, .int _]) (ia := 4) C (fun r σ1 ho => hcall _ _ _ _ _ _ r σ1 ho) wz_1681 (Nat.le_of_ble_eq_true rfl) rfl rfl wz_p125 wz_1683 wz_1684 wz_12 (by decide +kernel) rfl (by decide) (by omega) dX11_run_257 (by simp [Value.category]) (fun r257 m257 => ?_)
                refine zr_iconst (v := 5) C dX11_run_260 rfl ?_
                refine zr_ixor C dX11_run_261 ?_
                exact zr_iret C dX11_run_262
              · refine zr_if (fun hx => ?_) (fun hx7 => ?_)
                · refine zr_lookup (tgt := 263) C dX11_run_62 (by decide) (off := 201) (by rw [hx]; decide) (by decide) ?_
                  refine zr_aload_n C dX11_run_263 rfl ?_
                  refine zr_iload_n C dX11_run_264 rfl ?_
                  refine zr_iload C dX11_run_265 rfl ?_
                  refine zk_X11_466 C F (by omega) (by simp [Value.category]) dX11_run_267 (fun r267 m267 => ?_)
                  refine zr_iconst (v := 1) C dX11_run_270 rfl ?_
                  refine zr_iload C dX11_run_271 rfl ?_
                  refine zr_callVI (As := [.int _, .int _, .int _, .int _]) (ia := 4) C (fun r σ1 ho => hcall _ _ _ _ _ _ r σ1 ho) wz_1681 (Nat.le_of_ble_eq_true rfl) rfl rfl wz_p125 wz_1683 wz_1684 wz_12 (by decide +kernel) rfl (by decide) (by omega) dX11_run_273 (by simp [Value.category]) (fun r273 m273 => ?_)
                  refine zr_aload_n C dX11_run_276 rfl ?_
                  refine zf_X11_48 C (Nat.le_of_ble_eq_true rfl) dX11_run_277 ?_
                  refine zr_iload_n C dX11_run_280 rfl ?_
                  refine zr_iald (n := 50) C dX11_run_281 (Nat.le_of_ble_eq_true rfl) rfl ?_
                  refine zr_isub C dX11_run_282 ?_
                  exact zr_iret C dX11_run_283
                · refine zr_lookup (x := l6) (tgt := 284) C dX11_run_62 (by decide) (off := 222) (zlk_none (List.forall_mem_cons.mpr ⟨zlk_ne hx0, List.forall_mem_cons.mpr ⟨zlk_ne hx1, List.forall_mem_cons.mpr ⟨zlk_ne hx2, List.forall_mem_cons.mpr ⟨zlk_ne hx3, List.forall_mem_cons.mpr ⟨zlk_ne hx4, List.forall_mem_cons.mpr ⟨zlk_ne hx5, List.forall_mem_cons.mpr ⟨zlk_ne hx6, List.forall_mem_cons.mpr ⟨zlk_ne hx7, fun _ h9 => absurd h9 List.not_mem_nil⟩⟩⟩⟩⟩⟩⟩⟩)) (by decide) ?_
                  refine zr_aload_n C dX11_run_284 rfl ?_
                  refine zr_iload_n C dX11_run_285 rfl ?_
                  refine zr_iload C dX11_run_286 rfl ?_
                  refine zk_X11_466 C F (by omega) (by simp [Value.category]) dX11_run_288 (fun r288 m288 => ?_)
                  refine zr_iconst (v := 0) C dX11_run_291 rfl ?_
                  refine zr_iload C dX11_run_292 rfl ?_
                  refine zr_callVI (As := [.int _, .int _, .int _, .int _]) (ia := 4) C (fun r σ1 ho => hcall _ _ _ _ _ _ r σ1 ho) wz_1681 (Nat.le_of_ble_eq_true rfl) rfl rfl wz_p125 wz_1683 wz_1684 wz_12 (by decide +kernel) rfl (by decide) (by omega) dX11_run_294 (by simp [Value.category]) (fun r294 m294 => ?_)
                  refine zr_bipush (v := 7) C dX11_run_297 rfl ?_
                  refine zr_isub C dX11_run_299 ?_
                  exact zr_iret C dX11_run_300
def f_X11_run_3 (F : Nat) (rcall : zMem → Int32 → Int32 → Int32 → Int32 → Option (Int32 × zMem)) (rec3 : zMem → Int32 × Int32 × Int32 × Int32 → Option (Int32 × zMem)) (σ : zMem) (x : Int32 × Int32 × Int32 × Int32) : Option (Int32 × zMem) := zb (f_X11_bodyOf F σ x.2.2.2 x.2.1) fun r6 m6 => if r6 = 0 then (zb (f_X11_above F m6 x.2.2.2) fun r14 m14 => rec3 m14 ((x.1, x.2.1, x.2.2.1, r14))) else (zb (f_X11_bodyOf F m6 x.2.2.2 x.2.1) fun r25 m25 => if 20 ≤ (m25.1 60 0 57) then (f_X11_run_50 F rcall m25 x.1 x.2.2.1 x.2.2.2 r25) else (zg (inb ((m25.1 60 0 57)) 20) (f_X11_run_50 F rcall (zwi m25 110 0 ((m25.1 60 0 57)).toNatClampNeg r25) x.1 x.2.2.1 x.2.2.2 r25)))
set_option maxHeartbeats 4000000 in
set_option maxRecDepth 100000 in
theorem c_X11_run_3 (F : Nat) (rcall : zMem → Int32 → Int32 → Int32 → Int32 → Option (Int32 × zMem)) {E : zEn} {h : Nat} {Z : zLay} {hx : Nat} (hcall : ∀ (l : Launch) (σ : zMem) (b1 b2 b3 b4 : Int32) (r : Int32) (σ1 : zMem), rcall σ b1 b2 b3 b4 = some (r, σ1) → zMet l yX11_run cX11_run 8 (some .int) hx Z [.ref (zad Z 60 0), .int b1, .int b2, .int b3, .int b4] σ (zQI Z r σ1)) (hh1 : 1 ≤ hx) (C : zCx E cX11_run RX11 8 (some .int) Z h) (hh : hx + 1 ≤ h) : ∀ (n : Nat) (σ : zMem) (x : Int32 × Int32 × Int32 × Int32), zKO E 8 Z (zMQ E Z (zQI Z)) 3 [(0, .ref (zad Z 60 0)), (1, .int x.1), (3, .int x.2.1), (4, .int x.2.2.1), (5, .int x.2.2.2)] [] σ (zit (f_X11_run_3 F rcall) n σ x) := by
  refine zr_loop (LL := fun (x : Int32 × Int32 × Int32 × Int32) => [(0, .ref (zad Z 60 0)), (1, .int x.1), (3, .int x.2.1), (4, .int x.2.2.1), (5, .int x.2.2.2)]) (ST := fun (x : Int32 × Int32 × Int32 × Int32) => []) (fun rec3 hrec3 σ x => ?_)
  obtain ⟨l1, l3, l4, l5⟩ := x
  show zKO E 8 Z (zMQ E Z (zQI Z)) 3 [(0, .ref (zad Z 60 0)), (1, .int l1), (3, .int l3), (4, .int l4), (5, .int l5)] [] σ (zb (f_X11_bodyOf F σ l5 l3) fun r6 m6 => if r6 = 0 then (zb (f_X11_above F m6 l5) fun r14 m14 => rec3 m14 ((l1, l3, l4, r14))) else (zb (f_X11_bodyOf F m6 l5 l3) fun r25 m25 => if 20 ≤ (m25.1 60 0 57) then (f_X11_run_50 F rcall m25 l1 l4 l5 r25) else (zg (inb ((m25.1 60 0 57)) 20) (f_X11_run_50 F rcall (zwi m25 110 0 ((m25.1 60 0 57)).toNatClampNeg r25) l1 l4 l5 r25))))
  refine zr_iload C dX11_run_3 rfl ?_
  refine zr_iload_n C dX11_run_5 rfl ?_
  refine zk_X11_463 C F (by omega) (by simp [Value.category]) dX11_run_6 (fun r6 m6 => ?_)
  refine zr_if_ne (tgt := 22) C dX11_run_9 (by decide) ?_ ?_
  · refine zr_iload C dX11_run_22 rfl ?_
    refine zr_iload_n C dX11_run_24 rfl ?_
    refine zk_X11_463 C F (by omega) (by simp [Value.category]) dX11_run_25 (fun r25 m25 => ?_)
    refine zr_istore (i := 6) (L1 := [(6, .int _), (0, .ref _), (1, .int _), (3, .int _), (4, .int _), (5, .int _)]) C dX11_run_28 (by decide) rfl ?_
    refine zr_aload_n C dX11_run_30 rfl ?_
    refine zf_X11_469 C (Nat.le_of_ble_eq_true rfl) dX11_run_31 ?_
    refine zr_bipush (v := 20) C dX11_run_34 rfl ?_
    refine zr_icmp_ge (tgt := 50) C dX11_run_36 (by decide) ?_ ?_
    · exact zr_sub [1, 2, 4, 5, 0] rfl (c_X11_run_50 F rcall hcall hh1 C hh m25 l1 l4 l5 r25)
    · refine zr_aload_n C dX11_run_39 rfl ?_
      refine zf_X11_136 C (Nat.le_of_ble_eq_true rfl) dX11_run_40 ?_
      refine zr_aload_n C dX11_run_43 rfl ?_
      refine zf_X11_469 C (Nat.le_of_ble_eq_true rfl) dX11_run_44 ?_
      refine zr_iload C dX11_run_47 rfl ?_
      refine zr_iast (n := 20) C dX11_run_49 (Nat.le_of_ble_eq_true rfl) (fun _ _ => rfl) ?_
      exact zr_sub [1, 2, 4, 5, 0] rfl (c_X11_run_50 F rcall hcall hh1 C hh (zwi m25 110 0 ((m25.1 60 0 57)).toNatClampNeg r25) l1 l4 l5 r25)
  · refine zr_iload C dX11_run_12 rfl ?_
    refine zk_X11_466 C F (by omega) (by simp [Value.category]) dX11_run_14 (fun r14 m14 => ?_)
    refine zr_istore (i := 5) (L1 := [(5, .int _), (0, .ref _), (1, .int _), (3, .int _), (4, .int _)]) C dX11_run_17 (by decide) rfl ?_
    refine zr_goto (tgt := 3) C dX11_run_19 (by decide) ?_
    exact zr_sub [1, 2, 3, 4, 0] rfl (hrec3 m14 ((l1, l3, l4, r14)))
def f_X11_runB (F : Nat) (rcall : zMem → Int32 → Int32 → Int32 → Int32 → Option (Int32 × zMem)) (σ : zMem) (a1 : Int32) (a2 : Int32) (a3 : Int32) (a4 : Int32) : Option (Int32 × zMem) := zit (f_X11_run_3 F rcall) F σ ((a1, a3, a4, a2))
set_option maxHeartbeats 4000000 in
set_option maxRecDepth 100000 in
theorem c_X11_runB (Z : zLay) (F : Nat) (rcall : zMem → Int32 → Int32 → Int32 → Int32 → Option (Int32 × zMem)) {hx : Nat} (hcall : ∀ (l : Launch) (σ : zMem) (b1 b2 b3 b4 : Int32) (r : Int32) (σ1 : zMem), rcall σ b1 b2 b3 b4 = some (r, σ1) → zMet l yX11_run cX11_run 8 (some .int) hx Z [.ref (zad Z 60 0), .int b1, .int b2, .int b3, .int b4] σ (zQI Z r σ1)) (hh1 : 1 ≤ hx) (l : Launch) (σ : zMem) (a1 : Int32) (a2 : Int32) (a3 : Int32) (a4 : Int32) (r : Int32) (σ1 : zMem) (ho : f_X11_runB F rcall σ a1 a2 a3 a4 = some (r, σ1)) : zMet l yX11_run cX11_run 8 (some .int) (hx + 1) Z [.ref (zad Z 60 0), .int (a1), .int (a2), .int (a3), .int (a4)] σ (zQI Z r σ1) := by
  refine zMet_of (Qc := zQI Z) (by decide) (Nat.le_of_ble_eq_true rfl) [(0, .ref (zad Z 60 0)), (1, .int (a1)), (2, .int (a2)), (3, .int (a3)), (4, .int (a4))] rfl (fun E C => ?_) ho
  have hh : hx + 1 ≤ hx + 1 := Nat.le_refl _
  unfold f_X11_runB
  refine zr_iload_n C dX11_run_0 rfl ?_
  refine zr_istore (i := 5) (L1 := [(5, .int _), (0, .ref _), (1, .int _), (2, .int _), (3, .int _), (4, .int _)]) C dX11_run_1 (by decide) rfl ?_
  exact zr_sub [1, 2, 4, 5, 0] rfl (c_X11_run_3 F rcall hcall hh1 C hh F σ ((a1, a3, a4, a2)))
def f_X11_runN (F : Nat) : Nat → zMem → Int32 → Int32 → Int32 → Int32 → Option (Int32 × zMem)
  | 0 => fun _ _ _ _ _ => none
  | d + 1 => f_X11_runB F (f_X11_runN F d)
theorem c_X11_runN (Z : zLay) (F : Nat) : ∀ (d : Nat) (l : Launch) (σ : zMem) (a1 : Int32) (a2 : Int32) (a3 : Int32) (a4 : Int32) (r : Int32) (σ1 : zMem), f_X11_runN F d σ a1 a2 a3 a4 = some (r, σ1) → zMet l yX11_run cX11_run 8 (some .int) (1 + d) Z [.ref (zad Z 60 0), .int (a1), .int (a2), .int (a3), .int (a4)] σ (zQI Z r σ1)
  | 0 => fun l σ a1 a2 a3 a4 r σ1 ho => by cases ho
  | d + 1 => fun l σ a1 a2 a3 a4 r σ1 ho => c_X11_runB Z F (f_X11_runN F d) (hx := 1 + d) (fun l σ b1 b2 b3 b4 r σ1 h => c_X11_runN Z F d l σ b1 b2 b3 b4 r σ1 h) (by omega) l σ a1 a2 a3 a4 r σ1 ho
def f_X11_run (F : Nat) (σ : zMem) (a1 : Int32) (a2 : Int32) (a3 : Int32) (a4 : Int32) : Option (Int32 × zMem) := f_X11_runN F 8 σ a1 a2 a3 a4
theorem c_X11_run (l : Launch) (Z : zLay) (F : Nat) (σ : zMem) (a1 : Int32) (a2 : Int32) (a3 : Int32) (a4 : Int32) (r : Int32) (σ1 : zMem) (ho : f_X11_run F σ a1 a2 a3 a4 = some (r, σ1)) : zMet l yX11_run cX11_run 8 (some .int) 9 Z [.ref (zad Z 60 0), .int (a1), .int (a2), .int (a3), .int (a4)] σ (zQI Z r σ1) := c_X11_runN Z F 8 l σ a1 a2 a3 a4 r σ1 ho
theorem zk_X11_472 (C : zCx E cc RX11 nL ret Z h) (F : Nat) {b0 : Int32} {b1 : Int32} {b2 : Int32} {b3 : Int32} (hk : 0 < zN 60) (hh : 9 + 1 ≤ h) (hst8 : (st.map fun v => v.category).sum ≤ 8) (hd : decode cc pc = .ok (.invokevirtual 472, 3)) {g : Int32 → zMem → Option (α × zMem)} (kk : ∀ (r : Int32) (σ1 : zMem), zKO E nL Z QQ (pc + 3) L (.int r :: st) σ1 (g r σ1)) : zKO E nL Z QQ pc L (.int b3 :: .int b2 :: .int b1 :: .int b0 :: .ref (zad Z 60 0) :: st) σ (zb (f_X11_run F σ b0 b1 b2 b3) g) :=
  zr_callVI (As := [.int b0, .int b1, .int b2, .int b3]) (ia := 4) C (fun r σ1 ho => c_X11_run (zla E) Z F σ b0 b1 b2 b3 r σ1 ho) wz_1681 hk rfl rfl wz_p125 wz_1683 wz_1684 wz_12 (by decide +kernel) rfl (by decide) hh hd hst8 kk
end ZM
