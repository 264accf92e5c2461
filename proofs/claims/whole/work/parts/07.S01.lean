section ZM
variable {E : zEn} {cc : ByteArray} {own : String} {nL h : Nat} {ret : Option FieldType} {Z : zLay} {α : Type} {QQ : α → zMem → State → Prop} {pc : Nat} {L : List (Nat × Value)} {st : List Value} {σ : zMem} {o o1 o2 : Option (α × zMem)}
def f_X3_held_6 (F : Nat) (rec6 : zMem → Int32 × Int32 × Int32 × Int32 × Int32 → Option (Int32 × zMem)) (σ : zMem) (x : Int32 × Int32 × Int32 × Int32 × Int32) : Option (Int32 × zMem) := if (σ.1 5 0 5) ≤ x.2.2.2.2 then (some (x.2.2.2.1, σ)) else (zb (f_X3_commonOf F σ x.2.2.2.2) fun r18 m18 => if r18 = x.2.1 then (zb (f_X3_holder F m18 x.2.2.2.2 x.2.2.1) fun r29 m29 => if r29 = x.1 then (zg (inb x.2.2.2.2 50) (rec6 m29 ((x.1, x.2.1, x.2.2.1, (x.2.2.2.1 + (m29.1 8 0 x.2.2.2.2.toNatClampNeg)), (x.2.2.2.2 + 1))))) else (rec6 m29 ((x.1, x.2.1, x.2.2.1, x.2.2.2.1, (x.2.2.2.2 + 1))))) else (rec6 m18 ((x.1, x.2.1, x.2.2.1, x.2.2.2.1, (x.2.2.2.2 + 1)))))
set_option maxHeartbeats 4000000 in
set_option maxRecDepth 100000 in
theorem c_X3_held_6 (F : Nat) {E : zEn} {h : Nat} {Z : zLay} (C : zCx E cX3_held RX3 6 (some .int) Z h) (hh : 3 ≤ h) : ∀ (n : Nat) (σ : zMem) (x : Int32 × Int32 × Int32 × Int32 × Int32), zKO E 6 Z (zMQ E Z (zQI Z)) 6 [(0, .ref (zad Z 5 0)), (1, .int x.1), (2, .int x.2.1), (3, .int x.2.2.1), (4, .int x.2.2.2.1), (5, .int x.2.2.2.2)] [] σ (zit (f_X3_held_6 F) n σ x) := by
  refine zr_loop (LL := fun (x : Int32 × Int32 × Int32 × Int32 × Int32) => [(0, .ref (zad Z 5 0)), (1, .int x.1), (2, .int x.2.1), (3, .int x.2.2.1), (4, .int x.2.2.2.1), (5, .int x.2.2.2.2)]) (ST := fun (x : Int32 × Int32 × Int32 × Int32 × Int32) => []) (fun rec6 hrec6 σ x => ?_)
  obtain ⟨l1, l2, l3, l4, l5⟩ := x
  show zKO E 6 Z (zMQ E Z (zQI Z)) 6 [(0, .ref (zad Z 5 0)), (1, .int l1), (2, .int l2), (3, .int l3), (4, .int l4), (5, .int l5)] [] σ (if (σ.1 5 0 5) ≤ l5 then (some (l4, σ)) else (zb (f_X3_commonOf F σ l5) fun r18 m18 => if r18 = l2 then (zb (f_X3_holder F m18 l5 l3) fun r29 m29 => if r29 = l1 then (zg (inb l5 50) (rec6 m29 ((l1, l2, l3, (l4 + (m29.1 8 0 l5.toNatClampNeg)), (l5 + 1))))) else (rec6 m29 ((l1, l2, l3, l4, (l5 + 1))))) else (rec6 m18 ((l1, l2, l3, l4, (l5 + 1))))))
  refine zr_iload C dX3_held_6 rfl ?_
  refine zr_aload_n C dX3_held_8 rfl ?_
  refine zf_X3_27 C (Nat.le_of_ble_eq_true rfl) dX3_held_9 ?_
  refine zr_icmp_ge (tgt := 54) C dX3_held_12 (by decide) ?_ ?_
  · refine zr_iload C dX3_held_54 rfl ?_
    exact zr_iret C dX3_held_56
  · refine zr_aload_n C dX3_held_15 rfl ?_
    refine zr_iload C dX3_held_16 rfl ?_
    refine zk_X3_38 C F (Nat.le_of_ble_eq_true rfl) (Nat.le_trans (by decide) hh) (by simp [Value.category]) dX3_held_18 (fun r18 m18 => ?_)
    refine zr_iload_n C dX3_held_21 rfl ?_
    refine zr_icmp_ne (tgt := 48) C dX3_held_22 (by decide) ?_ ?_
    · refine zr_iinc (kk := 5) (v := (l5 + 1)) (L1 := [(5, .int _), (0, .ref _), (1, .int _), (2, .int _), (3, .int _), (4, .int _)]) C dX3_held_48 rfl rfl (by decide) rfl ?_
      refine zr_goto (tgt := 6) C dX3_held_51 (by decide) ?_
      exact zr_sub [1, 2, 3, 4, 5, 0] rfl (hrec6 m18 ((l1, l2, l3, l4, (l5 + 1))))
    · refine zr_aload_n C dX3_held_25 rfl ?_
      refine zr_iload C dX3_held_26 rfl ?_
      refine zr_iload_n C dX3_held_28 rfl ?_
      refine zk_X3_42 C F (Nat.le_of_ble_eq_true rfl) (Nat.le_trans (by decide) hh) (by simp [Value.category]) dX3_held_29 (fun r29 m29 => ?_)
      refine zr_iload_n C dX3_held_32 rfl ?_
      refine zr_icmp_ne (tgt := 48) C dX3_held_33 (by decide) ?_ ?_
      · refine zr_iinc (kk := 5) (v := (l5 + 1)) (L1 := [(5, .int _), (0, .ref _), (1, .int _), (2, .int _), (3, .int _), (4, .int _)]) C dX3_held_48 rfl rfl (by decide) rfl ?_
        refine zr_goto (tgt := 6) C dX3_held_51 (by decide) ?_
        exact zr_sub [1, 2, 3, 4, 5, 0] rfl (hrec6 m29 ((l1, l2, l3, l4, (l5 + 1))))
      · refine zr_iload C dX3_held_36 rfl ?_
        refine zr_aload_n C dX3_held_38 rfl ?_
        refine zf_X3_18 C (Nat.le_of_ble_eq_true rfl) dX3_held_39 ?_
        refine zr_iload C dX3_held_42 rfl ?_
        refine zr_iald (n := 50) C dX3_held_44 (Nat.le_of_ble_eq_true rfl) rfl ?_
        refine zr_iadd C dX3_held_45 ?_
        refine zr_istore (i := 4) (L1 := [(4, .int _), (0, .ref _), (1, .int _), (2, .int _), (3, .int _), (5, .int _)]) C dX3_held_46 (by decide) rfl ?_
        refine zr_iinc (kk := 5) (v := (l5 + 1)) (L1 := [(5, .int _), (4, .int _), (0, .ref _), (1, .int _), (2, .int _), (3, .int _)]) C dX3_held_48 rfl rfl (by decide) rfl ?_
        refine zr_goto (tgt := 6) C dX3_held_51 (by decide) ?_
        exact zr_sub [2, 3, 4, 5, 1, 0] rfl (hrec6 m29 ((l1, l2, l3, (l4 + (m29.1 8 0 l5.toNatClampNeg)), (l5 + 1))))
def f_X3_held (F : Nat) (σ : zMem) (a1 : Int32) (a2 : Int32) (a3 : Int32) : Option (Int32 × zMem) := zit (f_X3_held_6 F) F σ ((a1, a2, a3, 0, 0))
set_option maxHeartbeats 4000000 in
set_option maxRecDepth 100000 in
theorem c_X3_held (l : Launch) (Z : zLay) (F : Nat) (σ : zMem) (a1 : Int32) (a2 : Int32) (a3 : Int32) (r : Int32) (σ1 : zMem) (ho : f_X3_held F σ a1 a2 a3 = some (r, σ1)) : zMet l yX3_held cX3_held 6 (some .int) 3 Z [.ref (zad Z 5 0), .int (a1), .int (a2), .int (a3)] σ (zQI Z r σ1) := by
  refine zMet_of (Qc := zQI Z) (by decide) (Nat.le_of_ble_eq_true rfl) [(0, .ref (zad Z 5 0)), (1, .int (a1)), (2, .int (a2)), (3, .int (a3))] rfl (fun E C => ?_) ho
  have hh : 3 ≤ 3 := Nat.le_refl _
  show zKO E 6 Z (zMQ E Z (zQI Z)) 0 [(0, .ref (zad Z 5 0)), (1, .int (a1)), (2, .int (a2)), (3, .int (a3))] [] σ _
  unfold f_X3_held
  refine zr_iconst (v := 0) C dX3_held_0 rfl ?_
  refine zr_istore (i := 4) (L1 := [(4, .int _), (0, .ref _), (1, .int _), (2, .int _), (3, .int _)]) C dX3_held_1 (by decide) rfl ?_
  refine zr_iconst (v := 0) C dX3_held_3 rfl ?_
  refine zr_istore (i := 5) (L1 := [(5, .int _), (4, .int _), (0, .ref _), (1, .int _), (2, .int _), (3, .int _)]) C dX3_held_4 (by decide) rfl ?_
  exact zr_sub [2, 3, 4, 5, 1, 0] rfl (c_X3_held_6 F C hh F σ ((a1, a2, a3, 0, 0)))
theorem zk_X10_171 (C : zCx E cc RX10 nL ret Z h) (F : Nat) {b0 : Int32} {b1 : Int32} {b2 : Int32} (hk : 0 < zN 5) (hh : 3 + 1 ≤ h) (hst8 : (st.map fun v => v.category).sum ≤ 8) (hd : decode cc pc = .ok (.invokevirtual 171, 3)) {g : Int32 → zMem → Option (α × zMem)} (kk : ∀ (r : Int32) (σ1 : zMem), zKO E nL Z QQ (pc + 3) L (.int r :: st) σ1 (g r σ1)) : zKO E nL Z QQ pc L (.int b2 :: .int b1 :: .int b0 :: .ref (zad Z 5 0) :: st) σ (zb (f_X3_held F σ b0 b1 b2) g) :=
  zr_callVNI (As := [.int b0, .int b1, .int b2]) (ia := 3) C (fun r σ1 ho => c_X3_held (zla E) Z F σ b0 b1 b2 r σ1 ho) wz_n523 hk rfl rfl wz_p10 wz_525 wz_526 wz_2 (by decide +kernel) rfl (by decide) hh hd hst8 kk
def f_X3_atHour_19 (F : Nat) (rec19 : zMem → Int32 × Int32 → Option (Int32 × zMem)) (σ : zMem) (x : Int32 × Int32) : Option (Int32 × zMem) := if (σ.1 5 0 5) ≤ x.2 then (some ((-1), σ)) else (zb (f_X3_commonOf F σ x.2) fun r31 m31 => if r31 = 2 then (zg (inb x.2 50) (if (m31.1 8 0 x.2.toNatClampNeg) ≤ x.1 then (zg (inb x.2 50) (rec19 m31 (((x.1 - (m31.1 8 0 x.2.toNatClampNeg)), (x.2 + 1))))) else (some (x.2, m31)))) else (rec19 m31 ((x.1, (x.2 + 1)))))
set_option maxHeartbeats 4000000 in
set_option maxRecDepth 100000 in
theorem c_X3_atHour_19 (F : Nat) {E : zEn} {h : Nat} {Z : zLay} (C : zCx E cX3_atHour RX3 5 (some .int) Z h) (hh : 3 ≤ h) : ∀ (n : Nat) (σ : zMem) (x : Int32 × Int32), zKO E 5 Z (zMQ E Z (zQI Z)) 19 [(0, .ref (zad Z 5 0)), (3, .int x.1), (4, .int x.2)] [] σ (zit (f_X3_atHour_19 F) n σ x) := by
  refine zr_loop (LL := fun (x : Int32 × Int32) => [(0, .ref (zad Z 5 0)), (3, .int x.1), (4, .int x.2)]) (ST := fun (x : Int32 × Int32) => []) (fun rec19 hrec19 σ x => ?_)
  obtain ⟨l3, l4⟩ := x
  show zKO E 5 Z (zMQ E Z (zQI Z)) 19 [(0, .ref (zad Z 5 0)), (3, .int l3), (4, .int l4)] [] σ (if (σ.1 5 0 5) ≤ l4 then (some ((-1), σ)) else (zb (f_X3_commonOf F σ l4) fun r31 m31 => if r31 = 2 then (zg (inb l4 50) (if (m31.1 8 0 l4.toNatClampNeg) ≤ l3 then (zg (inb l4 50) (rec19 m31 (((l3 - (m31.1 8 0 l4.toNatClampNeg)), (l4 + 1))))) else (some (l4, m31)))) else (rec19 m31 ((l3, (l4 + 1))))))
  refine zr_iload C dX3_atHour_19 rfl ?_
  refine zr_aload_n C dX3_atHour_21 rfl ?_
  refine zf_X3_27 C (Nat.le_of_ble_eq_true rfl) dX3_atHour_22 ?_
  refine zr_icmp_ge (tgt := 68) C dX3_atHour_25 (by decide) ?_ ?_
  · refine zr_iconst (v := -1) C dX3_atHour_68 rfl ?_
    exact zr_iret C dX3_atHour_69
  · refine zr_aload_n C dX3_atHour_28 rfl ?_
    refine zr_iload C dX3_atHour_29 rfl ?_
    refine zk_X3_38 C F (Nat.le_of_ble_eq_true rfl) (Nat.le_trans (by decide) hh) (by simp [Value.category]) dX3_atHour_31 (fun r31 m31 => ?_)
    refine zr_iconst (v := 2) C dX3_atHour_34 rfl ?_
    refine zr_icmp_ne (tgt := 62) C dX3_atHour_35 (by decide) ?_ ?_
    · refine zr_iinc (kk := 2) (v := (l4 + 1)) (L1 := [(4, .int _), (0, .ref _), (3, .int _)]) C dX3_atHour_62 rfl rfl (by decide) rfl ?_
      refine zr_goto (tgt := 19) C dX3_atHour_65 (by decide) ?_
      exact zr_sub [1, 2, 0] rfl (hrec19 m31 ((l3, (l4 + 1))))
    · refine zr_iload_n C dX3_atHour_38 rfl ?_
      refine zr_aload_n C dX3_atHour_39 rfl ?_
      refine zf_X3_18 C (Nat.le_of_ble_eq_true rfl) dX3_atHour_40 ?_
      refine zr_iload C dX3_atHour_43 rfl ?_
      refine zr_iald (n := 50) C dX3_atHour_45 (Nat.le_of_ble_eq_true rfl) rfl ?_
      refine zr_icmp_ge (tgt := 52) C dX3_atHour_46 (by decide) ?_ ?_
      · refine zr_iload_n C dX3_atHour_52 rfl ?_
        refine zr_aload_n C dX3_atHour_53 rfl ?_
        refine zf_X3_18 C (Nat.le_of_ble_eq_true rfl) dX3_atHour_54 ?_
        refine zr_iload C dX3_atHour_57 rfl ?_
        refine zr_iald (n := 50) C dX3_atHour_59 (Nat.le_of_ble_eq_true rfl) rfl ?_
        refine zr_isub C dX3_atHour_60 ?_
        refine zr_istore_n (i := 3) (L1 := [(3, .int _), (0, .ref _), (4, .int _)]) C dX3_atHour_61 rfl (by decide) rfl ?_
        refine zr_iinc (kk := 2) (v := (l4 + 1)) (L1 := [(4, .int _), (3, .int _), (0, .ref _)]) C dX3_atHour_62 rfl rfl (by decide) rfl ?_
        refine zr_goto (tgt := 19) C dX3_atHour_65 (by decide) ?_
        exact zr_sub [2, 1, 0] rfl (hrec19 m31 (((l3 - (m31.1 8 0 l4.toNatClampNeg)), (l4 + 1))))
      · refine zr_iload C dX3_atHour_49 rfl ?_
        exact zr_iret C dX3_atHour_51
def f_X3_atHour (F : Nat) (σ : zMem) (a1 : Int32) : Option (Int32 × zMem) := zb (f_X3_whole F σ 2) fun r2 m2 => if 0 < r2 then (zg (zni r2) (zit (f_X3_atHour_19 F) F m2 (((zrem a1 r2), 0)))) else (some ((-1), m2))
set_option maxHeartbeats 4000000 in
set_option maxRecDepth 100000 in
theorem c_X3_atHour (l : Launch) (Z : zLay) (F : Nat) (σ : zMem) (a1 : Int32) (r : Int32) (σ1 : zMem) (ho : f_X3_atHour F σ a1 = some (r, σ1)) : zMet l yX3_atHour cX3_atHour 5 (some .int) 3 Z [.ref (zad Z 5 0), .int (a1)] σ (zQI Z r σ1) := by
  refine zMet_of (Qc := zQI Z) (by decide) (Nat.le_of_ble_eq_true rfl) [(0, .ref (zad Z 5 0)), (1, .int (a1))] rfl (fun E C => ?_) ho
  have hh : 3 ≤ 3 := Nat.le_refl _
  show zKO E 5 Z (zMQ E Z (zQI Z)) 0 [(0, .ref (zad Z 5 0)), (1, .int (a1))] [] σ _
  unfold f_X3_atHour
  refine zr_aload_n C dX3_atHour_0 rfl ?_
  refine zr_iconst (v := 2) C dX3_atHour_1 rfl ?_
  refine zk_X3_46 C F (Nat.le_of_ble_eq_true rfl) (Nat.le_trans (by decide) hh) (by simp [Value.category]) dX3_atHour_2 (fun r2 m2 => ?_)
  refine zr_istore_n (i := 2) (L1 := [(2, .int _), (0, .ref _), (1, .int _)]) C dX3_atHour_5 rfl (by decide) rfl ?_
  refine zr_iload_n C dX3_atHour_6 rfl ?_
  refine zr_if_gt (tgt := 12) C dX3_atHour_7 (by decide) ?_ ?_
  · refine zr_iload_n C dX3_atHour_12 rfl ?_
    refine zr_iload_n C dX3_atHour_13 rfl ?_
    refine zr_irem C dX3_atHour_14 ?_
    refine zr_istore_n (i := 3) (L1 := [(3, .int _), (2, .int _), (0, .ref _), (1, .int _)]) C dX3_atHour_15 rfl (by decide) rfl ?_
    refine zr_iconst (v := 0) C dX3_atHour_16 rfl ?_
    refine zr_istore (i := 4) (L1 := [(4, .int _), (3, .int _), (2, .int _), (0, .ref _), (1, .int _)]) C dX3_atHour_17 (by decide) rfl ?_
    exact zr_sub [3, 1, 0] rfl (c_X3_atHour_19 F C hh F m2 (((zrem a1 r2), 0)))
  · refine zr_iconst (v := -1) C dX3_atHour_10 rfl ?_
    exact zr_iret C dX3_atHour_11
theorem zk_X10_396 (C : zCx E cc RX10 nL ret Z h) (F : Nat) {b0 : Int32} (hk : 0 < zN 5) (hh : 3 + 1 ≤ h) (hst8 : (st.map fun v => v.category).sum ≤ 8) (hd : decode cc pc = .ok (.invokevirtual 396, 3)) {g : Int32 → zMem → Option (α × zMem)} (kk : ∀ (r : Int32) (σ1 : zMem), zKO E nL Z QQ (pc + 3) L (.int r :: st) σ1 (g r σ1)) : zKO E nL Z QQ pc L (.int b0 :: .ref (zad Z 5 0) :: st) σ (zb (f_X3_atHour F σ b0) g) :=
  zr_callVNI (As := [.int b0]) (ia := 1) C (fun r σ1 ho => c_X3_atHour (zla E) Z F σ b0 r σ1 ho) wz_n939 hk rfl rfl wz_p62 wz_941 wz_942 wz_2 (by decide +kernel) rfl (by decide) hh hd hst8 kk
def f_X3_isUnder_4 (F : Nat) (rec4 : zMem → Int32 × Int32 × Int32 → Option (Int32 × zMem)) (σ : zMem) (x : Int32 × Int32 × Int32) : Option (Int32 × zMem) := if 6 ≤ x.2.2 then (some (0, σ)) else (if x.2.1 < 0 then (some (0, σ)) else (if x.2.1 = x.1 then (some (1, σ)) else (zg (inb x.2.1 6) (rec4 σ ((x.1, (([-1, 0, 0, 0, 1, 0] : List Int32).getD x.2.1.toNatClampNeg 0), (x.2.2 + 1)))))))
set_option maxHeartbeats 4000000 in
set_option maxRecDepth 100000 in
theorem c_X3_isUnder_4 (F : Nat) {E : zEn} {h : Nat} {Z : zLay} (C : zCx E cX3_isUnder RX3 4 (some .boolean) Z h) (hh : 1 ≤ h) : ∀ (n : Nat) (σ : zMem) (x : Int32 × Int32 × Int32), zKO E 4 Z (zMQ E Z (zQI Z)) 4 [(1, .int x.1), (2, .int x.2.1), (3, .int x.2.2)] [] σ (zit (f_X3_isUnder_4 F) n σ x) := by
  refine zr_loop (LL := fun (x : Int32 × Int32 × Int32) => [(1, .int x.1), (2, .int x.2.1), (3, .int x.2.2)]) (ST := fun (x : Int32 × Int32 × Int32) => []) (fun rec4 hrec4 σ x => ?_)
  obtain ⟨l1, l2, l3⟩ := x
  show zKO E 4 Z (zMQ E Z (zQI Z)) 4 [(1, .int l1), (2, .int l2), (3, .int l3)] [] σ (if 6 ≤ l3 then (some (0, σ)) else (if l2 < 0 then (some (0, σ)) else (if l2 = l1 then (some (1, σ)) else (zg (inb l2 6) (rec4 σ ((l1, (([-1, 0, 0, 0, 1, 0] : List Int32).getD l2.toNatClampNeg 0), (l3 + 1))))))))
  refine zr_iload_n C dX3_isUnder_4 rfl ?_
  refine zr_bipush (v := 6) C dX3_isUnder_5 rfl ?_
  refine zr_icmp_ge (tgt := 33) C dX3_isUnder_7 (by decide) ?_ ?_
  · refine zr_iconst (v := 0) C dX3_isUnder_33 rfl ?_
    exact zr_zret C dX3_isUnder_34 rfl
  · refine zr_iload_n C dX3_isUnder_10 rfl ?_
    refine zr_if_lt (tgt := 33) C dX3_isUnder_11 (by decide) ?_ ?_
    · refine zr_iconst (v := 0) C dX3_isUnder_33 rfl ?_
      exact zr_zret C dX3_isUnder_34 rfl
    · refine zr_iload_n C dX3_isUnder_14 rfl ?_
      refine zr_iload_n C dX3_isUnder_15 rfl ?_
      refine zr_icmp_ne (tgt := 21) C dX3_isUnder_16 (by decide) ?_ ?_
      · refine zr_gets C ("AlpCommune$Rights", "KIND_ABOVE", 153, [-1, 0, 0, 0, 1, 0]) (by decide +kernel) wz_1042 dX3_isUnder_21 ?_
        refine zr_iload_n C dX3_isUnder_24 rfl ?_
        refine zr_ialdS C ("AlpCommune$Rights", "KIND_ABOVE", 153, [-1, 0, 0, 0, 1, 0]) (by decide +kernel) dX3_isUnder_25 ?_
        refine zr_istore_n (i := 2) (L1 := [(2, .int _), (1, .int _), (3, .int _)]) C dX3_isUnder_26 rfl (by decide) rfl ?_
        refine zr_iinc (kk := 2) (v := (l3 + 1)) (L1 := [(3, .int _), (2, .int _), (1, .int _)]) C dX3_isUnder_27 rfl rfl (by decide) rfl ?_
        refine zr_goto (tgt := 4) C dX3_isUnder_30 (by decide) ?_
        exact zr_sub [2, 1, 0] rfl (hrec4 σ ((l1, (([-1, 0, 0, 0, 1, 0] : List Int32).getD l2.toNatClampNeg 0), (l3 + 1))))
      · refine zr_iconst (v := 1) C dX3_isUnder_19 rfl ?_
        exact zr_zret C dX3_isUnder_20 rfl
def f_X3_isUnder (F : Nat) (σ : zMem) (a0 : Int32) (a1 : Int32) : Option (Int32 × zMem) := zit (f_X3_isUnder_4 F) F σ ((a1, a0, 0))
set_option maxHeartbeats 4000000 in
set_option maxRecDepth 100000 in
theorem c_X3_isUnder (l : Launch) (Z : zLay) (F : Nat) (σ : zMem) (a0 : Int32) (a1 : Int32) (r : Int32) (σ1 : zMem) (ho : f_X3_isUnder F σ a0 a1 = some (r, σ1)) : zMet l yX3_isUnder cX3_isUnder 4 (some .boolean) 1 Z [.int (a0), .int (a1)] σ (zQI Z r σ1) := by
  refine zMet_of (Qc := zQI Z) (by decide) (Nat.le_of_ble_eq_true rfl) [(0, .int (a0)), (1, .int (a1))] rfl (fun E C => ?_) ho
  have hh : 1 ≤ 1 := Nat.le_refl _
  show zKO E 4 Z (zMQ E Z (zQI Z)) 0 [(0, .int (a0)), (1, .int (a1))] [] σ _
  unfold f_X3_isUnder
  refine zr_iload_n C dX3_isUnder_0 rfl ?_
  refine zr_istore_n (i := 2) (L1 := [(2, .int _), (0, .int _), (1, .int _)]) C dX3_isUnder_1 rfl (by decide) rfl ?_
  refine zr_iconst (v := 0) C dX3_isUnder_2 rfl ?_
  refine zr_istore_n (i := 3) (L1 := [(3, .int _), (2, .int _), (0, .int _), (1, .int _)]) C dX3_isUnder_3 rfl (by decide) rfl ?_
  exact zr_sub [3, 1, 0] rfl (c_X3_isUnder_4 F C hh F σ ((a1, a0, 0)))
theorem zk_X10_457 (C : zCx E cc RX10 nL ret Z h) (F : Nat) {b0 : Int32} {b1 : Int32} (hh : 1 + 1 ≤ h) (hst8 : (st.map fun v => v.category).sum ≤ 8) (hd : decode cc pc = .ok (.invokestatic 457, 3)) {g : Int32 → zMem → Option (α × zMem)} (kk : ∀ (r : Int32) (σ1 : zMem), zKO E nL Z QQ (pc + 3) L (.int r :: st) σ1 (g r σ1)) : zKO E nL Z QQ pc L (.int b1 :: .int b0 :: st) σ (zb (f_X3_isUnder F σ b0 b1) g) :=
  zr_callSNI (As := [.int b0, .int b1]) (ia := 2) C (fun r σ1 ho => c_X3_isUnder (zla E) Z F σ b0 b1 r σ1 ho) wz_n1039 wz_1040 wz_1041 wz_2 (by decide +kernel) rfl (by decide) hh hd hst8 kk
def f_X4_becomeRow_12 (F : Nat) (rec12 : zMem → Nat × Int32 → Option (Unit × zMem)) (σ : zMem) (x : Nat × Int32) : Option (Unit × zMem) := zg (decide (x.1 < 3)) (if 60 ≤ x.2 then (some ((), σ)) else (zg (inb x.2 60) (rec12 (zwl σ 48 x.1 x.2.toNatClampNeg 0) ((x.1, (x.2 + 1))))))
set_option maxHeartbeats 4000000 in
set_option maxRecDepth 100000 in
theorem c_X4_becomeRow_12 (F : Nat) {E : zEn} {h : Nat} {Z : zLay} (C : zCx E cX4_becomeRow RX4 4 none Z h) (hh : 1 ≤ h) : ∀ (n : Nat) (σ : zMem) (x : Nat × Int32), zKO E 4 Z (zMQ E Z (zQV Z)) 12 [(0, .ref (zad Z 47 x.1)), (3, .int x.2)] [] σ (zit (f_X4_becomeRow_12 F) n σ x) := by
  refine zr_loop (LL := fun (x : Nat × Int32) => [(0, .ref (zad Z 47 x.1)), (3, .int x.2)]) (ST := fun (x : Nat × Int32) => []) (fun rec12 hrec12 σ x => ?_)
  obtain ⟨l0, l3⟩ := x
  show zKO E 4 Z (zMQ E Z (zQV Z)) 12 [(0, .ref (zad Z 47 l0)), (3, .int l3)] [] σ (zg (decide (l0 < 3)) (if 60 ≤ l3 then (some ((), σ)) else (zg (inb l3 60) (rec12 (zwl σ 48 l0 l3.toNatClampNeg 0) ((l0, (l3 + 1)))))))
  refine zr_g (fun hl0 => ?_)
  refine zr_iload_n C dX4_becomeRow_12 rfl ?_
  refine zr_bipush (v := 60) C dX4_becomeRow_13 rfl ?_
  refine zr_icmp_ge (tgt := 31) C dX4_becomeRow_15 (by decide) ?_ ?_
  · exact zr_vret C dX4_becomeRow_31
  · refine zr_aload_n C dX4_becomeRow_18 rfl ?_
    refine zf_X4_15 C (of_decide_eq_true hl0) dX4_becomeRow_19 ?_
    refine zr_iload_n C dX4_becomeRow_22 rfl ?_
    refine zr_lconst (v := 0) C dX4_becomeRow_23 rfl ?_
    refine zr_last (n := 60) C dX4_becomeRow_24 (of_decide_eq_true hl0) (fun _ _ => rfl) ?_
    refine zr_iinc (kk := 1) (v := (l3 + 1)) (L1 := [(3, .int _), (0, .ref _)]) C dX4_becomeRow_25 rfl rfl (by decide) rfl ?_
    refine zr_goto (tgt := 12) C dX4_becomeRow_28 (by decide) ?_
    exact zr_sub [1, 0] rfl (hrec12 (zwl σ 48 l0 l3.toNatClampNeg 0) ((l0, (l3 + 1))))
def f_X4_becomeRow (F : Nat) (σ : zMem) (t0 : Nat) (a1 : Int32) (a2 : Int32) : Option (Unit × zMem) := zg (decide (t0 < 3)) (zit (f_X4_becomeRow_12 F) F (zwi (zwi σ 47 t0 0 a1) 47 t0 1 a2) ((t0, 0)))
set_option maxHeartbeats 4000000 in
set_option maxRecDepth 100000 in
theorem c_X4_becomeRow (l : Launch) (Z : zLay) (F : Nat) (σ : zMem) (t0 : Nat) (a1 : Int32) (a2 : Int32) (r : Unit) (σ1 : zMem) (ho : f_X4_becomeRow F σ t0 a1 a2 = some (r, σ1)) : zMet l yX4_becomeRow cX4_becomeRow 4 none 1 Z [.ref (zad Z 47 t0), .int (a1), .int (a2)] σ (zQV Z r σ1) := by
  refine zMet_of (Qc := zQV Z) (by decide) (Nat.le_of_ble_eq_true rfl) [(0, .ref (zad Z 47 t0)), (1, .int (a1)), (2, .int (a2))] rfl (fun E C => ?_) ho
  have hh : 1 ≤ 1 := Nat.le_refl _
  show zKO E 4 Z (zMQ E Z (zQV Z)) 0 [(0, .ref (zad Z 47 t0)), (1, .int (a1)), (2, .int (a2))] [] σ _
  unfold f_X4_becomeRow
  refine zr_g (fun ht0 => ?_)
  refine zr_aload_n C dX4_becomeRow_0 rfl ?_
  refine zr_iload_n C dX4_becomeRow_1 rfl ?_
  refine zp_X4_9 C (of_decide_eq_true ht0) dX4_becomeRow_2 ?_
  refine zr_aload_n C dX4_becomeRow_5 rfl ?_
  refine zr_iload_n C dX4_becomeRow_6 rfl ?_
  refine zp_X4_19 C (of_decide_eq_true ht0) dX4_becomeRow_7 ?_
  refine zr_iconst (v := 0) C dX4_becomeRow_10 rfl ?_
  refine zr_istore_n (i := 3) (L1 := [(3, .int _), (0, .ref _), (1, .int _), (2, .int _)]) C dX4_becomeRow_11 rfl (by decide) rfl ?_
  exact zr_sub [1, 0] rfl (c_X4_becomeRow_12 F C hh F (zwi (zwi σ 47 t0 0 a1) 47 t0 1 a2) ((t0, 0)))
theorem zk_X10_472 (C : zCx E cc RX10 nL ret Z h) (F : Nat) {i0 : Nat} {b0 : Int32} {b1 : Int32} (hk : i0 < zN 47) (hh : 1 + 1 ≤ h) (hst8 : (st.map fun v => v.category).sum ≤ 8) (hd : decode cc pc = .ok (.invokevirtual 472, 3)) {g : Unit → zMem → Option (α × zMem)} (kk : ∀ (r : Unit) (σ1 : zMem), zKO E nL Z QQ (pc + 3) L (st) σ1 (g r σ1)) : zKO E nL Z QQ pc L (.int b1 :: .int b0 :: .ref (zad Z 47 i0) :: st) σ (zb (f_X4_becomeRow F σ i0 b0 b1) g) :=
  zr_callVNU (As := [.int b0, .int b1]) (ia := 2) C (fun r σ1 ho => c_X4_becomeRow (zla E) Z F σ i0 b0 b1 r σ1 ho) wz_n1056 hk rfl rfl wz_p79 wz_1058 wz_1059 wz_11 (by decide +kernel) rfl (by decide) hh hd hst8 kk
def f_X4_holds (F : Nat) (σ : zMem) (t0 : Nat) (a1 : Int32) (a2 : Int32) : Option (Int32 × zMem) := zg (decide (t0 < 3)) (if a1 < 0 then (some (0, σ)) else (if a2 < 0 then (some (0, σ)) else (if ((σ.1 47 t0 1) - a1) < a2 then (some (0, σ)) else (some (1, σ)))))
set_option maxHeartbeats 4000000 in
set_option maxRecDepth 100000 in
theorem c_X4_holds (l : Launch) (Z : zLay) (F : Nat) (σ : zMem) (t0 : Nat) (a1 : Int32) (a2 : Int32) (r : Int32) (σ1 : zMem) (ho : f_X4_holds F σ t0 a1 a2 = some (r, σ1)) : zMet l yX4_holds cX4_holds 3 (some .boolean) 1 Z [.ref (zad Z 47 t0), .int (a1), .int (a2)] σ (zQI Z r σ1) := by
  refine zMet_of (Qc := zQI Z) (by decide) (Nat.le_of_ble_eq_true rfl) [(0, .ref (zad Z 47 t0)), (1, .int (a1)), (2, .int (a2))] rfl (fun E C => ?_) ho
  have hh : 1 ≤ 1 := Nat.le_refl _
  show zKO E 3 Z (zMQ E Z (zQI Z)) 0 [(0, .ref (zad Z 47 t0)), (1, .int (a1)), (2, .int (a2))] [] σ _
  unfold f_X4_holds
  refine zr_g (fun ht0 => ?_)
  refine zr_iload_n C dX4_holds_0 rfl ?_
  refine zr_if_lt (tgt := 22) C dX4_holds_1 (by decide) ?_ ?_
  · refine zr_iconst (v := 0) C dX4_holds_22 rfl ?_
    exact zr_zret C dX4_holds_23 rfl
  · refine zr_iload_n C dX4_holds_4 rfl ?_
    refine zr_if_lt (tgt := 22) C dX4_holds_5 (by decide) ?_ ?_
    · refine zr_iconst (v := 0) C dX4_holds_22 rfl ?_
      exact zr_zret C dX4_holds_23 rfl
    · refine zr_iload_n C dX4_holds_8 rfl ?_
      refine zr_aload_n C dX4_holds_9 rfl ?_
      refine zf_X4_19 C (of_decide_eq_true ht0) dX4_holds_10 ?_
      refine zr_iload_n C dX4_holds_13 rfl ?_
      refine zr_isub C dX4_holds_14 ?_
      refine zr_icmp_gt (tgt := 22) C dX4_holds_15 (by decide) ?_ ?_
      · refine zr_iconst (v := 0) C dX4_holds_22 rfl ?_
        exact zr_zret C dX4_holds_23 rfl
      · refine zr_iconst (v := 1) C dX4_holds_18 rfl ?_
        refine zr_goto (tgt := 23) C dX4_holds_19 (by decide) ?_
        exact zr_zret C dX4_holds_23 rfl
theorem zk_X10_241 (C : zCx E cc RX10 nL ret Z h) (F : Nat) {i0 : Nat} {b0 : Int32} {b1 : Int32} (hk : i0 < zN 47) (hh : 1 + 1 ≤ h) (hst8 : (st.map fun v => v.category).sum ≤ 8) (hd : decode cc pc = .ok (.invokevirtual 241, 3)) {g : Int32 → zMem → Option (α × zMem)} (kk : ∀ (r : Int32) (σ1 : zMem), zKO E nL Z QQ (pc + 3) L (.int r :: st) σ1 (g r σ1)) : zKO E nL Z QQ pc L (.int b1 :: .int b0 :: .ref (zad Z 47 i0) :: st) σ (zb (f_X4_holds F σ i0 b0 b1) g) :=
  zr_callVNI (As := [.int b0, .int b1]) (ia := 2) C (fun r σ1 ho => c_X4_holds (zla E) Z F σ i0 b0 b1 r σ1 ho) wz_n712 hk rfl rfl wz_p29 wz_714 wz_715 wz_11 (by decide +kernel) rfl (by decide) hh hd hst8 kk
def f_X4_cut (F : Nat) (σ : zMem) (t0 : Nat) (a1 : Int32) : Option (Int64 × zMem) := zg (decide (t0 < 3)) (if (σ.1 47 t0 0) = 0 then (some ((((a1.toInt8.toInt32)).toInt64), σ)) else (if (σ.1 47 t0 0) = 1 then (some ((((a1.toInt16.toInt32)).toInt64), σ)) else (some ((a1.toInt64), σ))))
set_option maxHeartbeats 4000000 in
set_option maxRecDepth 100000 in
theorem c_X4_cut (l : Launch) (Z : zLay) (F : Nat) (σ : zMem) (t0 : Nat) (a1 : Int32) (r : Int64) (σ1 : zMem) (ho : f_X4_cut F σ t0 a1 = some (r, σ1)) : zMet l yX4_cut cX4_cut 2 (some .long) 1 Z [.ref (zad Z 47 t0), .int (a1)] σ (zQL Z r σ1) := by
  refine zMet_of (Qc := zQL Z) (by decide) (Nat.le_of_ble_eq_true rfl) [(0, .ref (zad Z 47 t0)), (1, .int (a1))] rfl (fun E C => ?_) ho
  have hh : 1 ≤ 1 := Nat.le_refl _
  show zKO E 2 Z (zMQ E Z (zQL Z)) 0 [(0, .ref (zad Z 47 t0)), (1, .int (a1))] [] σ _
  unfold f_X4_cut
  refine zr_g (fun ht0 => ?_)
  refine zr_aload_n C dX4_cut_0 rfl ?_
  refine zf_X4_9 C (of_decide_eq_true ht0) dX4_cut_1 ?_
  refine zr_if_ne (tgt := 11) C dX4_cut_4 (by decide) ?_ ?_
  · refine zr_aload_n C dX4_cut_11 rfl ?_
    refine zf_X4_9 C (of_decide_eq_true ht0) dX4_cut_12 ?_
    refine zr_iconst (v := 1) C dX4_cut_15 rfl ?_
    refine zr_icmp_ne (tgt := 25) C dX4_cut_16 (by decide) ?_ ?_
    · refine zr_iload_n C dX4_cut_25 rfl ?_
      refine zr_i2l C dX4_cut_26 ?_
      exact zr_lret C dX4_cut_27
    · refine zr_iload_n C dX4_cut_19 rfl ?_
      refine zr_i2s C dX4_cut_20 ?_
      refine zr_i2l C dX4_cut_21 ?_
      refine zr_goto (tgt := 27) C dX4_cut_22 (by decide) ?_
      exact zr_lret C dX4_cut_27
  · refine zr_iload_n C dX4_cut_7 rfl ?_
    refine zr_i2b C dX4_cut_8 ?_
    refine zr_i2l C dX4_cut_9 ?_
    exact zr_lret C dX4_cut_10
theorem zk_X10_475 (C : zCx E cc RX10 nL ret Z h) (F : Nat) {i0 : Nat} {b0 : Int32} (hk : i0 < zN 47) (hh : 1 + 1 ≤ h) (hst8 : (st.map fun v => v.category).sum ≤ 8) (hd : decode cc pc = .ok (.invokevirtual 475, 3)) {g : Int64 → zMem → Option (α × zMem)} (kk : ∀ (r : Int64) (σ1 : zMem), zKO E nL Z QQ (pc + 3) L (.long r :: st) σ1 (g r σ1)) : zKO E nL Z QQ pc L (.int b0 :: .ref (zad Z 47 i0) :: st) σ (zb (f_X4_cut F σ i0 b0) g) :=
  zr_callVNL (As := [.int b0]) (ia := 1) C (fun r σ1 ho => c_X4_cut (zla E) Z F σ i0 b0 r σ1 ho) wz_n1064 hk rfl rfl wz_p80 wz_1066 wz_1067 wz_11 (by decide +kernel) rfl (by decide) hh hd hst8 kk
def f_X5_has (F : Nat) (σ : zMem) (a0 : Int32) (a1 : Int32) : Option (Int32 × zMem) := if a0 < 0 then (some (0, σ)) else (if 7199 < a0 then (some (0, σ)) else (if a1 < 0 then (some (0, σ)) else (if 1 < a1 then (some (0, σ)) else (some (1, σ)))))
set_option maxHeartbeats 4000000 in
set_option maxRecDepth 100000 in
theorem c_X5_has (l : Launch) (Z : zLay) (F : Nat) (σ : zMem) (a0 : Int32) (a1 : Int32) (r : Int32) (σ1 : zMem) (ho : f_X5_has F σ a0 a1 = some (r, σ1)) : zMet l yX5_has cX5_has 2 (some .boolean) 1 Z [.int (a0), .int (a1)] σ (zQI Z r σ1) := by
  refine zMet_of (Qc := zQI Z) (by decide) (Nat.le_of_ble_eq_true rfl) [(0, .int (a0)), (1, .int (a1))] rfl (fun E C => ?_) ho
  have hh : 1 ≤ 1 := Nat.le_refl _
  show zKO E 2 Z (zMQ E Z (zQI Z)) 0 [(0, .int (a0)), (1, .int (a1))] [] σ _
  unfold f_X5_has
  refine zr_iload_n C dX5_has_0 rfl ?_
  refine zr_if_lt (tgt := 24) C dX5_has_1 (by decide) ?_ ?_
  · refine zr_iconst (v := 0) C dX5_has_24 rfl ?_
    exact zr_zret C dX5_has_25 rfl
  · refine zr_iload_n C dX5_has_4 rfl ?_
    refine zr_sipush (v := 7199) C dX5_has_5 rfl ?_
    refine zr_icmp_gt (tgt := 24) C dX5_has_8 (by decide) ?_ ?_
    · refine zr_iconst (v := 0) C dX5_has_24 rfl ?_
      exact zr_zret C dX5_has_25 rfl
    · refine zr_iload_n C dX5_has_11 rfl ?_
      refine zr_if_lt (tgt := 24) C dX5_has_12 (by decide) ?_ ?_
      · refine zr_iconst (v := 0) C dX5_has_24 rfl ?_
        exact zr_zret C dX5_has_25 rfl
      · refine zr_iload_n C dX5_has_15 rfl ?_
        refine zr_iconst (v := 1) C dX5_has_16 rfl ?_
        refine zr_icmp_gt (tgt := 24) C dX5_has_17 (by decide) ?_ ?_
        · refine zr_iconst (v := 0) C dX5_has_24 rfl ?_
          exact zr_zret C dX5_has_25 rfl
        · refine zr_iconst (v := 1) C dX5_has_20 rfl ?_
          refine zr_goto (tgt := 25) C dX5_has_21 (by decide) ?_
          exact zr_zret C dX5_has_25 rfl
theorem zk_X10_226 (C : zCx E cc RX10 nL ret Z h) (F : Nat) {b0 : Int32} {b1 : Int32} (hh : 1 + 1 ≤ h) (hst8 : (st.map fun v => v.category).sum ≤ 8) (hd : decode cc pc = .ok (.invokestatic 226, 3)) {g : Int32 → zMem → Option (α × zMem)} (kk : ∀ (r : Int32) (σ1 : zMem), zKO E nL Z QQ (pc + 3) L (.int r :: st) σ1 (g r σ1)) : zKO E nL Z QQ pc L (.int b1 :: .int b0 :: st) σ (zb (f_X5_has F σ b0 b1) g) :=
  zr_callSNI (As := [.int b0, .int b1]) (ia := 2) C (fun r σ1 ho => c_X5_has (zla E) Z F σ b0 b1 r σ1 ho) wz_n691 wz_692 wz_693 wz_5 (by decide +kernel) rfl (by decide) hh hd hst8 kk
def f_X5_fits (F : Nat) (σ : zMem) (a0 : Int32) (a1 : Int64) : Option (Int32 × zMem) := zg (inb a0 2) (if (lg_cmp a1 ((((([-40, 0] : List Int32).getD a0.toNatClampNeg 0)).toInt64))) < 0 then (some (0, σ)) else (zg (inb a0 2) (if 0 < (lg_cmp a1 ((((([40, 200] : List Int32).getD a0.toNatClampNeg 0)).toInt64))) then (some (0, σ)) else (some (1, σ)))))
set_option maxHeartbeats 4000000 in
set_option maxRecDepth 100000 in
theorem c_X5_fits (l : Launch) (Z : zLay) (F : Nat) (σ : zMem) (a0 : Int32) (a1 : Int64) (r : Int32) (σ1 : zMem) (ho : f_X5_fits F σ a0 a1 = some (r, σ1)) : zMet l yX5_fits cX5_fits 3 (some .boolean) 1 Z [.int (a0), .long (a1)] σ (zQI Z r σ1) := by
  refine zMet_of (Qc := zQI Z) (by decide) (Nat.le_of_ble_eq_true rfl) [(0, .int (a0)), (1, .long (a1))] rfl (fun E C => ?_) ho
  have hh : 1 ≤ 1 := Nat.le_refl _
  show zKO E 3 Z (zMQ E Z (zQI Z)) 0 [(0, .int (a0)), (1, .long (a1))] [] σ _
  unfold f_X5_fits
  refine zr_lload_n C dX5_fits_0 rfl ?_
  refine zr_gets C ("AlpCommune$Sky", "LEAST", 155, [-40, 0]) (by decide +kernel) wz_697 dX5_fits_1 ?_
  refine zr_iload_n C dX5_fits_4 rfl ?_
  refine zr_ialdS C ("AlpCommune$Sky", "LEAST", 155, [-40, 0]) (by decide +kernel) dX5_fits_5 ?_
  refine zr_i2l C dX5_fits_6 ?_
  refine zr_lcmp C dX5_fits_7 ?_
  refine zr_if_lt (tgt := 26) C dX5_fits_8 (by decide) ?_ ?_
  · refine zr_iconst (v := 0) C dX5_fits_26 rfl ?_
    exact zr_zret C dX5_fits_27 rfl
  · refine zr_lload_n C dX5_fits_11 rfl ?_
    refine zr_gets C ("AlpCommune$Sky", "MOST", 156, [40, 200]) (by decide +kernel) wz_699 dX5_fits_12 ?_
    refine zr_iload_n C dX5_fits_15 rfl ?_
    refine zr_ialdS C ("AlpCommune$Sky", "MOST", 156, [40, 200]) (by decide +kernel) dX5_fits_16 ?_
    refine zr_i2l C dX5_fits_17 ?_
    refine zr_lcmp C dX5_fits_18 ?_
    refine zr_if_gt (tgt := 26) C dX5_fits_19 (by decide) ?_ ?_
    · refine zr_iconst (v := 0) C dX5_fits_26 rfl ?_
      exact zr_zret C dX5_fits_27 rfl
    · refine zr_iconst (v := 1) C dX5_fits_22 rfl ?_
      refine zr_goto (tgt := 27) C dX5_fits_23 (by decide) ?_
      exact zr_zret C dX5_fits_27 rfl
theorem zk_X10_228 (C : zCx E cc RX10 nL ret Z h) (F : Nat) {b0 : Int32} {b1 : Int64} (hh : 1 + 1 ≤ h) (hst8 : (st.map fun v => v.category).sum ≤ 8) (hd : decode cc pc = .ok (.invokestatic 228, 3)) {g : Int32 → zMem → Option (α × zMem)} (kk : ∀ (r : Int32) (σ1 : zMem), zKO E nL Z QQ (pc + 3) L (.int r :: st) σ1 (g r σ1)) : zKO E nL Z QQ pc L (.long b1 :: .int b0 :: st) σ (zb (f_X5_fits F σ b0 b1) g) :=
  zr_callSNI (As := [.int b0, .long b1]) (ia := 2) C (fun r σ1 ho => c_X5_fits (zla E) Z F σ b0 b1 r σ1 ho) wz_n694 wz_695 wz_696 wz_5 (by decide +kernel) rfl (by decide) hh hd hst8 kk
def f_X5_tell_26 (F : Nat) (σ : zMem) (l1 : Int32) (l2 : Int32) (l3 : Int32) : Option (Unit × zMem) := zg (inb l2 2) (zg (inb l1 7200) (some ((), (zwi σ 22 l2.toNatClampNeg l1.toNatClampNeg (((((l3 + 41)).toInt16.toInt32)).toInt16.toInt32)))))
set_option maxHeartbeats 4000000 in
set_option maxRecDepth 100000 in
theorem c_X5_tell_26 (F : Nat) {E : zEn} {h : Nat} {Z : zLay} (C : zCx E cX5_tell RX5 4 none Z h) (hh : 1 ≤ h) (σ : zMem) (l1 : Int32) (l2 : Int32) (l3 : Int32) : zKO E 4 Z (zMQ E Z (zQV Z)) 26 [(0, .ref (zad Z 20 0)), (1, .int l1), (2, .int l2), (3, .int l3)] [] σ (f_X5_tell_26 F σ l1 l2 l3) := by
  unfold f_X5_tell_26
  refine zr_aload_n C dX5_tell_26 rfl ?_
  refine zf_X5_11 C (Nat.le_of_ble_eq_true rfl) dX5_tell_27 ?_
  refine zr_iload_n C dX5_tell_30 rfl ?_
  refine zr_aald (n := 2) (k1 := 22) C dX5_tell_31 (Nat.le_of_ble_eq_true rfl) rfl rfl rfl (fun hb31 => ?_)
  refine zr_iload_n C dX5_tell_32 rfl ?_
  refine zr_iload_n C dX5_tell_33 rfl ?_
  refine zr_bipush (v := 41) C dX5_tell_34 rfl ?_
  refine zr_iadd C dX5_tell_36 ?_
  refine zr_i2s C dX5_tell_37 ?_
  refine zr_sast (n := 7200) C dX5_tell_38 hb31 (fun _ _ => rfl) ?_
  exact zr_vret C dX5_tell_39
def f_X5_tell (F : Nat) (σ : zMem) (a1 : Int32) (a2 : Int32) (a3 : Int32) : Option (Unit × zMem) := zg (inb a2 2) (zg (inb a1 7200) (if (σ.1 22 a2.toNatClampNeg a1.toNatClampNeg) = 0 then (zg (inb a2 2) (zg (zni 60) (zg (inb ((a1 / 60)) 120) (zg (inb ((a1 / 60)) 120) (f_X5_tell_26 F (zwi σ 24 a2.toNatClampNeg ((a1 / 60)).toNatClampNeg (((σ.1 24 a2.toNatClampNeg ((a1 / 60)).toNatClampNeg) + 1))) a1 a2 a3))))) else (f_X5_tell_26 F σ a1 a2 a3)))
set_option maxHeartbeats 4000000 in
set_option maxRecDepth 100000 in
theorem c_X5_tell (l : Launch) (Z : zLay) (F : Nat) (σ : zMem) (a1 : Int32) (a2 : Int32) (a3 : Int32) (r : Unit) (σ1 : zMem) (ho : f_X5_tell F σ a1 a2 a3 = some (r, σ1)) : zMet l yX5_tell cX5_tell 4 none 1 Z [.ref (zad Z 20 0), .int (a1), .int (a2), .int (a3)] σ (zQV Z r σ1) := by
  refine zMet_of (Qc := zQV Z) (by decide) (Nat.le_of_ble_eq_true rfl) [(0, .ref (zad Z 20 0)), (1, .int (a1)), (2, .int (a2)), (3, .int (a3))] rfl (fun E C => ?_) ho
  have hh : 1 ≤ 1 := Nat.le_refl _
  show zKO E 4 Z (zMQ E Z (zQV Z)) 0 [(0, .ref (zad Z 20 0)), (1, .int (a1)), (2, .int (a2)), (3, .int (a3))] [] σ _
  unfold f_X5_tell
  refine zr_aload_n C dX5_tell_0 rfl ?_
  refine zf_X5_11 C (Nat.le_of_ble_eq_true rfl) dX5_tell_1 ?_
  refine zr_iload_n C dX5_tell_4 rfl ?_
  refine zr_aald (n := 2) (k1 := 22) C dX5_tell_5 (Nat.le_of_ble_eq_true rfl) rfl rfl rfl (fun hb5 => ?_)
  refine zr_iload_n C dX5_tell_6 rfl ?_
  refine zr_sald (n := 7200) C dX5_tell_7 hb5 rfl ?_
  refine zr_if_ne (tgt := 26) C dX5_tell_8 (by decide) ?_ ?_
  · exact zr_sub [0, 1, 2, 3] rfl (c_X5_tell_26 F C hh σ a1 a2 a3)
  · refine zr_aload_n C dX5_tell_11 rfl ?_
    refine zf_X5_18 C (Nat.le_of_ble_eq_true rfl) dX5_tell_12 ?_
    refine zr_iload_n C dX5_tell_15 rfl ?_
    refine zr_aald (n := 2) (k1 := 24) C dX5_tell_16 (Nat.le_of_ble_eq_true rfl) rfl rfl rfl (fun hb16 => ?_)
    refine zr_iload_n C dX5_tell_17 rfl ?_
    refine zr_bipush (v := 60) C dX5_tell_18 rfl ?_
    refine zr_idiv C dX5_tell_20 ?_
    refine zr_dup2 C dX5_tell_21 rfl rfl ?_
    refine zr_iald (n := 120) C dX5_tell_22 hb16 rfl ?_
    refine zr_iconst (v := 1) C dX5_tell_23 rfl ?_
    refine zr_iadd C dX5_tell_24 ?_
    refine zr_iast (n := 120) C dX5_tell_25 hb16 (fun _ _ => rfl) ?_
    exact zr_sub [0, 1, 2, 3] rfl (c_X5_tell_26 F C hh (zwi σ 24 a2.toNatClampNeg ((a1 / 60)).toNatClampNeg (((σ.1 24 a2.toNatClampNeg ((a1 / 60)).toNatClampNeg) + 1))) a1 a2 a3)
theorem zk_X10_231 (C : zCx E cc RX10 nL ret Z h) (F : Nat) {b0 : Int32} {b1 : Int32} {b2 : Int32} (hk : 0 < zN 20) (hh : 1 + 1 ≤ h) (hst8 : (st.map fun v => v.category).sum ≤ 8) (hd : decode cc pc = .ok (.invokevirtual 231, 3)) {g : Unit → zMem → Option (α × zMem)} (kk : ∀ (r : Unit) (σ1 : zMem), zKO E nL Z QQ (pc + 3) L (st) σ1 (g r σ1)) : zKO E nL Z QQ pc L (.int b2 :: .int b1 :: .int b0 :: .ref (zad Z 20 0) :: st) σ (zb (f_X5_tell F σ b0 b1 b2) g) :=
  zr_callVNU (As := [.int b0, .int b1, .int b2]) (ia := 3) C (fun r σ1 ho => c_X5_tell (zla E) Z F σ b0 b1 b2 r σ1 ho) wz_n701 hk rfl rfl wz_p28 wz_703 wz_704 wz_5 (by decide +kernel) rfl (by decide) hh hd hst8 kk
def f_X5_on_2 (F : Nat) (rec2 : zMem → Int32 × Int32 → Option (Int32 × zMem)) (σ : zMem) (x : Int32 × Int32) : Option (Int32 × zMem) := if x.2 < 0 then (zg (inb x.1 2) (some ((([5, 0] : List Int32).getD x.1.toNatClampNeg 0), σ))) else (zg (inb x.1 2) (zg (inb x.2 7200) (if (σ.1 22 x.1.toNatClampNeg x.2.toNatClampNeg) = 0 then (zg (zni 60) (zg (inb x.1 2) (zg (inb ((x.2 / 60)) 120) (if (σ.1 24 x.1.toNatClampNeg ((x.2 / 60)).toNatClampNeg) = 0 then (rec2 σ ((x.1, (((x.2 / 60) * 60) - 1)))) else (rec2 σ ((x.1, (x.2 - 1)))))))) else (zg (inb x.1 2) (zg (inb x.2 7200) (some (((σ.1 22 x.1.toNatClampNeg x.2.toNatClampNeg) - 41), σ)))))))
set_option maxHeartbeats 4000000 in
set_option maxRecDepth 100000 in
theorem c_X5_on_2 (F : Nat) {E : zEn} {h : Nat} {Z : zLay} (C : zCx E cX5_on RX5 5 (some .int) Z h) (hh : 1 ≤ h) : ∀ (n : Nat) (σ : zMem) (x : Int32 × Int32), zKO E 5 Z (zMQ E Z (zQI Z)) 2 [(0, .ref (zad Z 20 0)), (2, .int x.1), (3, .int x.2)] [] σ (zit (f_X5_on_2 F) n σ x) := by
  refine zr_loop (LL := fun (x : Int32 × Int32) => [(0, .ref (zad Z 20 0)), (2, .int x.1), (3, .int x.2)]) (ST := fun (x : Int32 × Int32) => []) (fun rec2 hrec2 σ x => ?_)
  obtain ⟨l2, l3⟩ := x
  show zKO E 5 Z (zMQ E Z (zQI Z)) 2 [(0, .ref (zad Z 20 0)), (2, .int l2), (3, .int l3)] [] σ (if l3 < 0 then (zg (inb l2 2) (some ((([5, 0] : List Int32).getD l2.toNatClampNeg 0), σ))) else (zg (inb l2 2) (zg (inb l3 7200) (if (σ.1 22 l2.toNatClampNeg l3.toNatClampNeg) = 0 then (zg (zni 60) (zg (inb l2 2) (zg (inb ((l3 / 60)) 120) (if (σ.1 24 l2.toNatClampNeg ((l3 / 60)).toNatClampNeg) = 0 then (rec2 σ ((l2, (((l3 / 60) * 60) - 1)))) else (rec2 σ ((l2, (l3 - 1)))))))) else (zg (inb l2 2) (zg (inb l3 7200) (some (((σ.1 22 l2.toNatClampNeg l3.toNatClampNeg) - 41), σ))))))))
  refine zr_iload_n C dX5_on_2 rfl ?_
  refine zr_if_lt (tgt := 64) C dX5_on_3 (by decide) ?_ ?_
  · refine zr_gets C ("AlpCommune$Sky", "WITHOUT", 157, [5, 0]) (by decide +kernel) wz_726 dX5_on_64 ?_
    refine zr_iload_n C dX5_on_67 rfl ?_
    refine zr_ialdS C ("AlpCommune$Sky", "WITHOUT", 157, [5, 0]) (by decide +kernel) dX5_on_68 ?_
    exact zr_iret C dX5_on_69
  · refine zr_aload_n C dX5_on_6 rfl ?_
    refine zf_X5_11 C (Nat.le_of_ble_eq_true rfl) dX5_on_7 ?_
    refine zr_iload_n C dX5_on_10 rfl ?_
    refine zr_aald (n := 2) (k1 := 22) C dX5_on_11 (Nat.le_of_ble_eq_true rfl) rfl rfl rfl (fun hb11 => ?_)
    refine zr_iload_n C dX5_on_12 rfl ?_
    refine zr_sald (n := 7200) C dX5_on_13 hb11 rfl ?_
    refine zr_if_eq (tgt := 29) C dX5_on_14 (by decide) ?_ ?_
    · refine zr_iload_n C dX5_on_29 rfl ?_
      refine zr_bipush (v := 60) C dX5_on_30 rfl ?_
      refine zr_idiv C dX5_on_32 ?_
      refine zr_istore (i := 4) (L1 := [(4, .int _), (0, .ref _), (2, .int _), (3, .int _)]) C dX5_on_33 (by decide) rfl ?_
      refine zr_aload_n C dX5_on_35 rfl ?_
      refine zf_X5_18 C (Nat.le_of_ble_eq_true rfl) dX5_on_36 ?_
      refine zr_iload_n C dX5_on_39 rfl ?_
      refine zr_aald (n := 2) (k1 := 24) C dX5_on_40 (Nat.le_of_ble_eq_true rfl) rfl rfl rfl (fun hb40 => ?_)
      refine zr_iload C dX5_on_41 rfl ?_
      refine zr_iald (n := 120) C dX5_on_43 hb40 rfl ?_
      refine zr_if_ne (tgt := 57) C dX5_on_44 (by decide) ?_ ?_
      · refine zr_iload_n C dX5_on_57 rfl ?_
        refine zr_iconst (v := 1) C dX5_on_58 rfl ?_
        refine zr_isub C dX5_on_59 ?_
        refine zr_istore_n (i := 3) (L1 := [(3, .int _), (4, .int _), (0, .ref _), (2, .int _)]) C dX5_on_60 rfl (by decide) rfl ?_
        refine zr_goto (tgt := 2) C dX5_on_61 (by decide) ?_
        exact zr_sub [2, 3, 0] rfl (hrec2 σ ((l2, (l3 - 1))))
      · refine zr_iload C dX5_on_47 rfl ?_
        refine zr_bipush (v := 60) C dX5_on_49 rfl ?_
        refine zr_imul C dX5_on_51 ?_
        refine zr_iconst (v := 1) C dX5_on_52 rfl ?_
        refine zr_isub C dX5_on_53 ?_
        refine zr_goto (tgt := 60) C dX5_on_54 (by decide) ?_
        refine zr_istore_n (i := 3) (L1 := [(3, .int _), (4, .int _), (0, .ref _), (2, .int _)]) C dX5_on_60 rfl (by decide) rfl ?_
        refine zr_goto (tgt := 2) C dX5_on_61 (by decide) ?_
        exact zr_sub [2, 3, 0] rfl (hrec2 σ ((l2, (((l3 / 60) * 60) - 1))))
    · refine zr_aload_n C dX5_on_17 rfl ?_
      refine zf_X5_11 C (Nat.le_of_ble_eq_true rfl) dX5_on_18 ?_
      refine zr_iload_n C dX5_on_21 rfl ?_
      refine zr_aald (n := 2) (k1 := 22) C dX5_on_22 (Nat.le_of_ble_eq_true rfl) rfl rfl rfl (fun hb22 => ?_)
      refine zr_iload_n C dX5_on_23 rfl ?_
      refine zr_sald (n := 7200) C dX5_on_24 hb22 rfl ?_
      refine zr_bipush (v := 41) C dX5_on_25 rfl ?_
      refine zr_isub C dX5_on_27 ?_
      exact zr_iret C dX5_on_28
def f_X5_on (F : Nat) (σ : zMem) (a1 : Int32) (a2 : Int32) : Option (Int32 × zMem) := zit (f_X5_on_2 F) F σ ((a2, a1))
set_option maxHeartbeats 4000000 in
set_option maxRecDepth 100000 in
theorem c_X5_on (l : Launch) (Z : zLay) (F : Nat) (σ : zMem) (a1 : Int32) (a2 : Int32) (r : Int32) (σ1 : zMem) (ho : f_X5_on F σ a1 a2 = some (r, σ1)) : zMet l yX5_on cX5_on 5 (some .int) 1 Z [.ref (zad Z 20 0), .int (a1), .int (a2)] σ (zQI Z r σ1) := by
  refine zMet_of (Qc := zQI Z) (by decide) (Nat.le_of_ble_eq_true rfl) [(0, .ref (zad Z 20 0)), (1, .int (a1)), (2, .int (a2))] rfl (fun E C => ?_) ho
  have hh : 1 ≤ 1 := Nat.le_refl _
  show zKO E 5 Z (zMQ E Z (zQI Z)) 0 [(0, .ref (zad Z 20 0)), (1, .int (a1)), (2, .int (a2))] [] σ _
  unfold f_X5_on
  refine zr_iload_n C dX5_on_0 rfl ?_
  refine zr_istore_n (i := 3) (L1 := [(3, .int _), (0, .ref _), (1, .int _), (2, .int _)]) C dX5_on_1 rfl (by decide) rfl ?_
  exact zr_sub [1, 3, 0] rfl (c_X5_on_2 F C hh F σ ((a2, a1)))
theorem zk_X10_252 (C : zCx E cc RX10 nL ret Z h) (F : Nat) {b0 : Int32} {b1 : Int32} (hk : 0 < zN 20) (hh : 1 + 1 ≤ h) (hst8 : (st.map fun v => v.category).sum ≤ 8) (hd : decode cc pc = .ok (.invokevirtual 252, 3)) {g : Int32 → zMem → Option (α × zMem)} (kk : ∀ (r : Int32) (σ1 : zMem), zKO E nL Z QQ (pc + 3) L (.int r :: st) σ1 (g r σ1)) : zKO E nL Z QQ pc L (.int b1 :: .int b0 :: .ref (zad Z 20 0) :: st) σ (zb (f_X5_on F σ b0 b1) g) :=
  zr_callVNI (As := [.int b0, .int b1]) (ia := 2) C (fun r σ1 ho => c_X5_on (zla E) Z F σ b0 b1 r σ1 ho) wz_n722 hk rfl rfl wz_p30 wz_724 wz_725 wz_5 (by decide +kernel) rfl (by decide) hh hd hst8 kk
def f_X6_bears (F : Nat) (σ : zMem) (t0 : Nat) (a1 : Int32) : Option (Int32 × zMem) := zg (decide (t0 < 6)) (zg (zni 5) (if (σ.1 40 t0 3) = 0 then (some (((40 + (a1 / 5)) + 0), σ)) else (some (((40 + (a1 / 5)) + 30), σ))))
set_option maxHeartbeats 4000000 in
set_option maxRecDepth 100000 in
theorem c_X6_bears (l : Launch) (Z : zLay) (F : Nat) (σ : zMem) (t0 : Nat) (a1 : Int32) (r : Int32) (σ1 : zMem) (ho : f_X6_bears F σ t0 a1 = some (r, σ1)) : zMet l yX6_bears cX6_bears 2 (some .int) 1 Z [.ref (zad Z 40 t0), .int (a1)] σ (zQI Z r σ1) := by
  refine zMet_of (Qc := zQI Z) (by decide) (Nat.le_of_ble_eq_true rfl) [(0, .ref (zad Z 40 t0)), (1, .int (a1))] rfl (fun E C => ?_) ho
  have hh : 1 ≤ 1 := Nat.le_refl _
  show zKO E 2 Z (zMQ E Z (zQI Z)) 0 [(0, .ref (zad Z 40 t0)), (1, .int (a1))] [] σ _
  unfold f_X6_bears
  refine zr_g (fun ht0 => ?_)
  refine zr_bipush (v := 40) C dX6_bears_0 rfl ?_
  refine zr_iload_n C dX6_bears_2 rfl ?_
  refine zr_iconst (v := 5) C dX6_bears_3 rfl ?_
  refine zr_idiv C dX6_bears_4 ?_
  refine zr_iadd C dX6_bears_5 ?_
  refine zr_aload_n C dX6_bears_6 rfl ?_
  refine zf_X6_19 C (of_decide_eq_true ht0) dX6_bears_7 ?_
  refine zr_if_eq (tgt := 18) C dX6_bears_10 (by decide) ?_ ?_
  · refine zr_iconst (v := 0) C dX6_bears_18 rfl ?_
    refine zr_iadd C dX6_bears_19 ?_
    exact zr_iret C dX6_bears_20
  · refine zr_bipush (v := 30) C dX6_bears_13 rfl ?_
    refine zr_goto (tgt := 19) C dX6_bears_15 (by decide) ?_
    refine zr_iadd C dX6_bears_19 ?_
    exact zr_iret C dX6_bears_20
theorem zk_X6_35 (C : zCx E cc RX6 nL ret Z h) (F : Nat) {i0 : Nat} {b0 : Int32} (hk : i0 < zN 40) (hh : 1 + 1 ≤ h) (hst8 : (st.map fun v => v.category).sum ≤ 8) (hd : decode cc pc = .ok (.invokevirtual 35, 3)) {g : Int32 → zMem → Option (α × zMem)} (kk : ∀ (r : Int32) (σ1 : zMem), zKO E nL Z QQ (pc + 3) L (.int r :: st) σ1 (g r σ1)) : zKO E nL Z QQ pc L (.int b0 :: .ref (zad Z 40 i0) :: st) σ (zb (f_X6_bears F σ i0 b0) g) :=
  zr_callVI (As := [.int b0]) (ia := 1) C (fun r σ1 ho => c_X6_bears (zla E) Z F σ i0 b0 r σ1 ho) wz_848 hk rfl rfl wz_p51 wz_850 wz_851 wz_8 (by decide +kernel) rfl (by decide) hh hd hst8 kk
theorem zk_X10_344 (C : zCx E cc RX10 nL ret Z h) (F : Nat) {i0 : Nat} {b0 : Int32} (hk : i0 < zN 40) (hh : 1 + 1 ≤ h) (hst8 : (st.map fun v => v.category).sum ≤ 8) (hd : decode cc pc = .ok (.invokevirtual 344, 3)) {g : Int32 → zMem → Option (α × zMem)} (kk : ∀ (r : Int32) (σ1 : zMem), zKO E nL Z QQ (pc + 3) L (.int r :: st) σ1 (g r σ1)) : zKO E nL Z QQ pc L (.int b0 :: .ref (zad Z 40 i0) :: st) σ (zb (f_X6_bears F σ i0 b0) g) :=
  zr_callVNI (As := [.int b0]) (ia := 1) C (fun r σ1 ho => c_X6_bears (zla E) Z F σ i0 b0 r σ1 ho) wz_n874 hk rfl rfl wz_p51 wz_850 wz_851 wz_8 (by decide +kernel) rfl (by decide) hh hd hst8 kk
def f_X6_layerOf (F : Nat) (σ : zMem) (t0 : Nat) (a1 : Int32) : Option (Int32 × zMem) := zg (decide (t0 < 6)) (zg (inb a1 7) (if (σ.1 42 t0 a1.toNatClampNeg) = 0 then (zg (inb a1 7) (some ((σ.1 41 t0 a1.toNatClampNeg), σ))) else (zg (inb a1 7) (some ((-((σ.1 41 t0 a1.toNatClampNeg))), σ)))))
set_option maxHeartbeats 4000000 in
set_option maxRecDepth 100000 in
theorem c_X6_layerOf (l : Launch) (Z : zLay) (F : Nat) (σ : zMem) (t0 : Nat) (a1 : Int32) (r : Int32) (σ1 : zMem) (ho : f_X6_layerOf F σ t0 a1 = some (r, σ1)) : zMet l yX6_layerOf cX6_layerOf 2 (some .int) 1 Z [.ref (zad Z 40 t0), .int (a1)] σ (zQI Z r σ1) := by
  refine zMet_of (Qc := zQI Z) (by decide) (Nat.le_of_ble_eq_true rfl) [(0, .ref (zad Z 40 t0)), (1, .int (a1))] rfl (fun E C => ?_) ho
  have hh : 1 ≤ 1 := Nat.le_refl _
  show zKO E 2 Z (zMQ E Z (zQI Z)) 0 [(0, .ref (zad Z 40 t0)), (1, .int (a1))] [] σ _
  unfold f_X6_layerOf
  refine zr_g (fun ht0 => ?_)
  refine zr_aload_n C dX6_layerOf_0 rfl ?_
  refine zf_X6_15 C (of_decide_eq_true ht0) dX6_layerOf_1 ?_
  refine zr_iload_n C dX6_layerOf_4 rfl ?_
  refine zr_zald (n := 7) C dX6_layerOf_5 (of_decide_eq_true ht0) rfl ?_
  refine zr_if_eq (tgt := 19) C dX6_layerOf_6 (by decide) ?_ ?_
  · refine zr_aload_n C dX6_layerOf_19 rfl ?_
    refine zf_X6_9 C (of_decide_eq_true ht0) dX6_layerOf_20 ?_
    refine zr_iload_n C dX6_layerOf_23 rfl ?_
    refine zr_iald (n := 7) C dX6_layerOf_24 (of_decide_eq_true ht0) rfl ?_
    exact zr_iret C dX6_layerOf_25
  · refine zr_aload_n C dX6_layerOf_9 rfl ?_
    refine zf_X6_9 C (of_decide_eq_true ht0) dX6_layerOf_10 ?_
    refine zr_iload_n C dX6_layerOf_13 rfl ?_
    refine zr_iald (n := 7) C dX6_layerOf_14 (of_decide_eq_true ht0) rfl ?_
    refine zr_ineg C dX6_layerOf_15 ?_
    refine zr_goto (tgt := 25) C dX6_layerOf_16 (by decide) ?_
    exact zr_iret C dX6_layerOf_25
theorem zk_X10_350 (C : zCx E cc RX10 nL ret Z h) (F : Nat) {i0 : Nat} {b0 : Int32} (hk : i0 < zN 40) (hh : 1 + 1 ≤ h) (hst8 : (st.map fun v => v.category).sum ≤ 8) (hd : decode cc pc = .ok (.invokevirtual 350, 3)) {g : Int32 → zMem → Option (α × zMem)} (kk : ∀ (r : Int32) (σ1 : zMem), zKO E nL Z QQ (pc + 3) L (.int r :: st) σ1 (g r σ1)) : zKO E nL Z QQ pc L (.int b0 :: .ref (zad Z 40 i0) :: st) σ (zb (f_X6_layerOf F σ i0 b0) g) :=
  zr_callVNI (As := [.int b0]) (ia := 1) C (fun r σ1 ho => c_X6_layerOf (zla E) Z F σ i0 b0 r σ1 ho) wz_n875 hk rfl rfl wz_p55 wz_877 wz_878 wz_8 (by decide +kernel) rfl (by decide) hh hd hst8 kk
def f_X6_lyingFrom_4 (F : Nat) (rec4 : zMem → Nat × Int32 × Int32 → Option (Int32 × zMem)) (σ : zMem) (x : Nat × Int32 × Int32) : Option (Int32 × zMem) := zg (decide (x.1 < 6)) (if (σ.1 40 x.1 1) ≤ x.2.2 then (some (x.2.1, σ)) else (zg (inb x.2.2 7) (rec4 σ ((x.1, (x.2.1 + (σ.1 41 x.1 x.2.2.toNatClampNeg)), (x.2.2 + 1))))))
set_option maxHeartbeats 4000000 in
set_option maxRecDepth 100000 in
theorem c_X6_lyingFrom_4 (F : Nat) {E : zEn} {h : Nat} {Z : zLay} (C : zCx E cX6_lyingFrom RX6 4 (some .int) Z h) (hh : 1 ≤ h) : ∀ (n : Nat) (σ : zMem) (x : Nat × Int32 × Int32), zKO E 4 Z (zMQ E Z (zQI Z)) 4 [(0, .ref (zad Z 40 x.1)), (2, .int x.2.1), (3, .int x.2.2)] [] σ (zit (f_X6_lyingFrom_4 F) n σ x) := by
  refine zr_loop (LL := fun (x : Nat × Int32 × Int32) => [(0, .ref (zad Z 40 x.1)), (2, .int x.2.1), (3, .int x.2.2)]) (ST := fun (x : Nat × Int32 × Int32) => []) (fun rec4 hrec4 σ x => ?_)
  obtain ⟨l0, l2, l3⟩ := x
  show zKO E 4 Z (zMQ E Z (zQI Z)) 4 [(0, .ref (zad Z 40 l0)), (2, .int l2), (3, .int l3)] [] σ (zg (decide (l0 < 6)) (if (σ.1 40 l0 1) ≤ l3 then (some (l2, σ)) else (zg (inb l3 7) (rec4 σ ((l0, (l2 + (σ.1 41 l0 l3.toNatClampNeg)), (l3 + 1)))))))
  refine zr_g (fun hl0 => ?_)
  refine zr_iload_n C dX6_lyingFrom_4 rfl ?_
  refine zr_aload_n C dX6_lyingFrom_5 rfl ?_
  refine zf_X6_23 C (of_decide_eq_true hl0) dX6_lyingFrom_6 ?_
  refine zr_icmp_ge (tgt := 27) C dX6_lyingFrom_9 (by decide) ?_ ?_
  · refine zr_iload_n C dX6_lyingFrom_27 rfl ?_
    exact zr_iret C dX6_lyingFrom_28
  · refine zr_iload_n C dX6_lyingFrom_12 rfl ?_
    refine zr_aload_n C dX6_lyingFrom_13 rfl ?_
    refine zf_X6_9 C (of_decide_eq_true hl0) dX6_lyingFrom_14 ?_
    refine zr_iload_n C dX6_lyingFrom_17 rfl ?_
    refine zr_iald (n := 7) C dX6_lyingFrom_18 (of_decide_eq_true hl0) rfl ?_
    refine zr_iadd C dX6_lyingFrom_19 ?_
    refine zr_istore_n (i := 2) (L1 := [(2, .int _), (0, .ref _), (3, .int _)]) C dX6_lyingFrom_20 rfl (by decide) rfl ?_
    refine zr_iinc (kk := 2) (v := (l3 + 1)) (L1 := [(3, .int _), (2, .int _), (0, .ref _)]) C dX6_lyingFrom_21 rfl rfl (by decide) rfl ?_
    refine zr_goto (tgt := 4) C dX6_lyingFrom_24 (by decide) ?_
    exact zr_sub [2, 1, 0] rfl (hrec4 σ ((l0, (l2 + (σ.1 41 l0 l3.toNatClampNeg)), (l3 + 1))))
def f_X6_lyingFrom (F : Nat) (σ : zMem) (t0 : Nat) (a1 : Int32) : Option (Int32 × zMem) := zg (decide (t0 < 6)) (zit (f_X6_lyingFrom_4 F) F σ ((t0, 0, a1)))
set_option maxHeartbeats 4000000 in
set_option maxRecDepth 100000 in
theorem c_X6_lyingFrom (l : Launch) (Z : zLay) (F : Nat) (σ : zMem) (t0 : Nat) (a1 : Int32) (r : Int32) (σ1 : zMem) (ho : f_X6_lyingFrom F σ t0 a1 = some (r, σ1)) : zMet l yX6_lyingFrom cX6_lyingFrom 4 (some .int) 1 Z [.ref (zad Z 40 t0), .int (a1)] σ (zQI Z r σ1) := by
  refine zMet_of (Qc := zQI Z) (by decide) (Nat.le_of_ble_eq_true rfl) [(0, .ref (zad Z 40 t0)), (1, .int (a1))] rfl (fun E C => ?_) ho
  have hh : 1 ≤ 1 := Nat.le_refl _
  show zKO E 4 Z (zMQ E Z (zQI Z)) 0 [(0, .ref (zad Z 40 t0)), (1, .int (a1))] [] σ _
  unfold f_X6_lyingFrom
  refine zr_g (fun ht0 => ?_)
  refine zr_iconst (v := 0) C dX6_lyingFrom_0 rfl ?_
  refine zr_istore_n (i := 2) (L1 := [(2, .int _), (0, .ref _), (1, .int _)]) C dX6_lyingFrom_1 rfl (by decide) rfl ?_
  refine zr_iload_n C dX6_lyingFrom_2 rfl ?_
  refine zr_istore_n (i := 3) (L1 := [(3, .int _), (2, .int _), (0, .ref _), (1, .int _)]) C dX6_lyingFrom_3 rfl (by decide) rfl ?_
  exact zr_sub [2, 1, 0] rfl (c_X6_lyingFrom_4 F C hh F σ ((t0, 0, a1)))
theorem zk_X6_31 (C : zCx E cc RX6 nL ret Z h) (F : Nat) {i0 : Nat} {b0 : Int32} (hk : i0 < zN 40) (hh : 1 + 1 ≤ h) (hst8 : (st.map fun v => v.category).sum ≤ 8) (hd : decode cc pc = .ok (.invokevirtual 31, 3)) {g : Int32 → zMem → Option (α × zMem)} (kk : ∀ (r : Int32) (σ1 : zMem), zKO E nL Z QQ (pc + 3) L (.int r :: st) σ1 (g r σ1)) : zKO E nL Z QQ pc L (.int b0 :: .ref (zad Z 40 i0) :: st) σ (zb (f_X6_lyingFrom F σ i0 b0) g) :=
  zr_callVI (As := [.int b0]) (ia := 1) C (fun r σ1 ho => c_X6_lyingFrom (zla E) Z F σ i0 b0 r σ1 ho) wz_844 hk rfl rfl wz_p50 wz_846 wz_847 wz_8 (by decide +kernel) rfl (by decide) hh hd hst8 kk
theorem zk_X10_338 (C : zCx E cc RX10 nL ret Z h) (F : Nat) {i0 : Nat} {b0 : Int32} (hk : i0 < zN 40) (hh : 1 + 1 ≤ h) (hst8 : (st.map fun v => v.category).sum ≤ 8) (hd : decode cc pc = .ok (.invokevirtual 338, 3)) {g : Int32 → zMem → Option (α × zMem)} (kk : ∀ (r : Int32) (σ1 : zMem), zKO E nL Z QQ (pc + 3) L (.int r :: st) σ1 (g r σ1)) : zKO E nL Z QQ pc L (.int b0 :: .ref (zad Z 40 i0) :: st) σ (zb (f_X6_lyingFrom F σ i0 b0) g) :=
  zr_callVNI (As := [.int b0]) (ia := 1) C (fun r σ1 ho => c_X6_lyingFrom (zla E) Z F σ i0 b0 r σ1 ho) wz_n869 hk rfl rfl wz_p50 wz_846 wz_847 wz_8 (by decide +kernel) rfl (by decide) hh hd hst8 kk
def f_X6_lowestSoft_2 (F : Nat) (rec2 : zMem → Nat × Int32 → Option (Int32 × zMem)) (σ : zMem) (x : Nat × Int32) : Option (Int32 × zMem) := zg (decide (x.1 < 6)) (if (σ.1 40 x.1 1) ≤ x.2 then (some (x.2, σ)) else (zg (inb x.2 7) (if (σ.1 42 x.1 x.2.toNatClampNeg) = 0 then (rec2 σ ((x.1, (x.2 + 1)))) else (some (x.2, σ)))))
set_option maxHeartbeats 4000000 in
set_option maxRecDepth 100000 in
theorem c_X6_lowestSoft_2 (F : Nat) {E : zEn} {h : Nat} {Z : zLay} (C : zCx E cX6_lowestSoft RX6 2 (some .int) Z h) (hh : 1 ≤ h) : ∀ (n : Nat) (σ : zMem) (x : Nat × Int32), zKO E 2 Z (zMQ E Z (zQI Z)) 2 [(0, .ref (zad Z 40 x.1)), (1, .int x.2)] [] σ (zit (f_X6_lowestSoft_2 F) n σ x) := by
  refine zr_loop (LL := fun (x : Nat × Int32) => [(0, .ref (zad Z 40 x.1)), (1, .int x.2)]) (ST := fun (x : Nat × Int32) => []) (fun rec2 hrec2 σ x => ?_)
  obtain ⟨l0, l1⟩ := x
  show zKO E 2 Z (zMQ E Z (zQI Z)) 2 [(0, .ref (zad Z 40 l0)), (1, .int l1)] [] σ (zg (decide (l0 < 6)) (if (σ.1 40 l0 1) ≤ l1 then (some (l1, σ)) else (zg (inb l1 7) (if (σ.1 42 l0 l1.toNatClampNeg) = 0 then (rec2 σ ((l0, (l1 + 1)))) else (some (l1, σ))))))
  refine zr_g (fun hl0 => ?_)
  refine zr_iload_n C dX6_lowestSoft_2 rfl ?_
  refine zr_aload_n C dX6_lowestSoft_3 rfl ?_
  refine zf_X6_23 C (of_decide_eq_true hl0) dX6_lowestSoft_4 ?_
  refine zr_icmp_ge (tgt := 25) C dX6_lowestSoft_7 (by decide) ?_ ?_
  · refine zr_iload_n C dX6_lowestSoft_25 rfl ?_
    exact zr_iret C dX6_lowestSoft_26
  · refine zr_aload_n C dX6_lowestSoft_10 rfl ?_
    refine zf_X6_15 C (of_decide_eq_true hl0) dX6_lowestSoft_11 ?_
    refine zr_iload_n C dX6_lowestSoft_14 rfl ?_
    refine zr_zald (n := 7) C dX6_lowestSoft_15 (of_decide_eq_true hl0) rfl ?_
    refine zr_if_ne (tgt := 25) C dX6_lowestSoft_16 (by decide) ?_ ?_
    · refine zr_iload_n C dX6_lowestSoft_25 rfl ?_
      exact zr_iret C dX6_lowestSoft_26
    · refine zr_iinc (kk := 1) (v := (l1 + 1)) (L1 := [(1, .int _), (0, .ref _)]) C dX6_lowestSoft_19 rfl rfl (by decide) rfl ?_
      refine zr_goto (tgt := 2) C dX6_lowestSoft_22 (by decide) ?_
      exact zr_sub [1, 0] rfl (hrec2 σ ((l0, (l1 + 1))))
def f_X6_lowestSoft (F : Nat) (σ : zMem) (t0 : Nat) : Option (Int32 × zMem) := zg (decide (t0 < 6)) (zit (f_X6_lowestSoft_2 F) F σ ((t0, 0)))
set_option maxHeartbeats 4000000 in
set_option maxRecDepth 100000 in
theorem c_X6_lowestSoft (l : Launch) (Z : zLay) (F : Nat) (σ : zMem) (t0 : Nat) (r : Int32) (σ1 : zMem) (ho : f_X6_lowestSoft F σ t0 = some (r, σ1)) : zMet l yX6_lowestSoft cX6_lowestSoft 2 (some .int) 1 Z [.ref (zad Z 40 t0)] σ (zQI Z r σ1) := by
  refine zMet_of (Qc := zQI Z) (by decide) (Nat.le_of_ble_eq_true rfl) [(0, .ref (zad Z 40 t0))] rfl (fun E C => ?_) ho
  have hh : 1 ≤ 1 := Nat.le_refl _
  show zKO E 2 Z (zMQ E Z (zQI Z)) 0 [(0, .ref (zad Z 40 t0))] [] σ _
  unfold f_X6_lowestSoft
  refine zr_g (fun ht0 => ?_)
  refine zr_iconst (v := 0) C dX6_lowestSoft_0 rfl ?_
  refine zr_istore_n (i := 1) (L1 := [(1, .int _), (0, .ref _)]) C dX6_lowestSoft_1 rfl (by decide) rfl ?_
  exact zr_sub [1, 0] rfl (c_X6_lowestSoft_2 F C hh F σ ((t0, 0)))
theorem zk_X6_27 (C : zCx E cc RX6 nL ret Z h) (F : Nat) {i0 : Nat} (hk : i0 < zN 40) (hh : 1 + 1 ≤ h) (hst8 : (st.map fun v => v.category).sum ≤ 8) (hd : decode cc pc = .ok (.invokevirtual 27, 3)) {g : Int32 → zMem → Option (α × zMem)} (kk : ∀ (r : Int32) (σ1 : zMem), zKO E nL Z QQ (pc + 3) L (.int r :: st) σ1 (g r σ1)) : zKO E nL Z QQ pc L (.ref (zad Z 40 i0) :: st) σ (zb (f_X6_lowestSoft F σ i0) g) :=
  zr_callVI (As := []) (ia := 0) C (fun r σ1 ho => c_X6_lowestSoft (zla E) Z F σ i0 r σ1 ho) wz_840 hk rfl rfl wz_p49 wz_842 wz_843 wz_8 (by decide +kernel) rfl (by decide) hh hd hst8 kk
def f_X6_risk (F : Nat) (σ : zMem) (t0 : Nat) (a1 : Int32) : Option (Int32 × zMem) := zg (decide (t0 < 6)) (zb (f_X6_lowestSoft F σ t0) fun r2 m2 => zb (f_X6_lyingFrom F m2 t0 ((r2 + 1))) fun r7 m7 => zb (f_X6_bears F m7 t0 a1) fun r15 m15 => zg (zni r15) (some (((r7 * 100) / r15), m15)))
set_option maxHeartbeats 4000000 in
set_option maxRecDepth 100000 in
theorem c_X6_risk (l : Launch) (Z : zLay) (F : Nat) (σ : zMem) (t0 : Nat) (a1 : Int32) (r : Int32) (σ1 : zMem) (ho : f_X6_risk F σ t0 a1 = some (r, σ1)) : zMet l yX6_risk cX6_risk 2 (some .int) 2 Z [.ref (zad Z 40 t0), .int (a1)] σ (zQI Z r σ1) := by
  refine zMet_of (Qc := zQI Z) (by decide) (Nat.le_of_ble_eq_true rfl) [(0, .ref (zad Z 40 t0)), (1, .int (a1))] rfl (fun E C => ?_) ho
  have hh : 2 ≤ 2 := Nat.le_refl _
  show zKO E 2 Z (zMQ E Z (zQI Z)) 0 [(0, .ref (zad Z 40 t0)), (1, .int (a1))] [] σ _
  unfold f_X6_risk
  refine zr_g (fun ht0 => ?_)
  refine zr_aload_n C dX6_risk_0 rfl ?_
  refine zr_aload_n C dX6_risk_1 rfl ?_
  refine zk_X6_27 C F (of_decide_eq_true ht0) (Nat.le_trans (by decide) hh) (by simp [Value.category]) dX6_risk_2 (fun r2 m2 => ?_)
  refine zr_iconst (v := 1) C dX6_risk_5 rfl ?_
  refine zr_iadd C dX6_risk_6 ?_
  refine zk_X6_31 C F (of_decide_eq_true ht0) (Nat.le_trans (by decide) hh) (by simp [Value.category]) dX6_risk_7 (fun r7 m7 => ?_)
  refine zr_bipush (v := 100) C dX6_risk_10 rfl ?_
  refine zr_imul C dX6_risk_12 ?_
  refine zr_aload_n C dX6_risk_13 rfl ?_
  refine zr_iload_n C dX6_risk_14 rfl ?_
  refine zk_X6_35 C F (of_decide_eq_true ht0) (Nat.le_trans (by decide) hh) (by simp [Value.category]) dX6_risk_15 (fun r15 m15 => ?_)
  refine zr_idiv C dX6_risk_18 ?_
  exact zr_iret C dX6_risk_19
theorem zk_X10_341 (C : zCx E cc RX10 nL ret Z h) (F : Nat) {i0 : Nat} {b0 : Int32} (hk : i0 < zN 40) (hh : 2 + 1 ≤ h) (hst8 : (st.map fun v => v.category).sum ≤ 8) (hd : decode cc pc = .ok (.invokevirtual 341, 3)) {g : Int32 → zMem → Option (α × zMem)} (kk : ∀ (r : Int32) (σ1 : zMem), zKO E nL Z QQ (pc + 3) L (.int r :: st) σ1 (g r σ1)) : zKO E nL Z QQ pc L (.int b0 :: .ref (zad Z 40 i0) :: st) σ (zb (f_X6_risk F σ i0 b0) g) :=
  zr_callVNI (As := [.int b0]) (ia := 1) C (fun r σ1 ho => c_X6_risk (zla E) Z F σ i0 b0 r σ1 ho) wz_n870 hk rfl rfl wz_p54 wz_872 wz_873 wz_8 (by decide +kernel) rfl (by decide) hh hd hst8 kk
def f_X6_melt (F : Nat) (σ : zMem) (t0 : Nat) (a1 : Int32) : Option (Unit × zMem) := zg (decide (t0 < 6)) (if (σ.1 40 t0 1) = 0 then (some ((), σ)) else (zg (inb (((σ.1 40 t0 1) - 1)) 7) (if (σ.1 41 t0 (((σ.1 40 t0 1) - 1)).toNatClampNeg) ≤ a1 then (some ((), (zwi σ 40 t0 1 (((σ.1 40 t0 1) - 1))))) else (zg (inb (((σ.1 40 t0 1) - 1)) 7) (zg (inb (((σ.1 40 t0 1) - 1)) 7) (some ((), (zwi σ 41 t0 (((σ.1 40 t0 1) - 1)).toNatClampNeg (((σ.1 41 t0 (((σ.1 40 t0 1) - 1)).toNatClampNeg) - a1))))))))))
set_option maxHeartbeats 4000000 in
set_option maxRecDepth 100000 in
theorem c_X6_melt (l : Launch) (Z : zLay) (F : Nat) (σ : zMem) (t0 : Nat) (a1 : Int32) (r : Unit) (σ1 : zMem) (ho : f_X6_melt F σ t0 a1 = some (r, σ1)) : zMet l yX6_melt cX6_melt 3 none 1 Z [.ref (zad Z 40 t0), .int (a1)] σ (zQV Z r σ1) := by
  refine zMet_of (Qc := zQV Z) (by decide) (Nat.le_of_ble_eq_true rfl) [(0, .ref (zad Z 40 t0)), (1, .int (a1))] rfl (fun E C => ?_) ho
  have hh : 1 ≤ 1 := Nat.le_refl _
  show zKO E 3 Z (zMQ E Z (zQV Z)) 0 [(0, .ref (zad Z 40 t0)), (1, .int (a1))] [] σ _
  unfold f_X6_melt
  refine zr_g (fun ht0 => ?_)
  refine zr_aload_n C dX6_melt_0 rfl ?_
  refine zf_X6_23 C (of_decide_eq_true ht0) dX6_melt_1 ?_
  refine zr_if_ne (tgt := 8) C dX6_melt_4 (by decide) ?_ ?_
  · refine zr_aload_n C dX6_melt_8 rfl ?_
    refine zf_X6_23 C (of_decide_eq_true ht0) dX6_melt_9 ?_
    refine zr_iconst (v := 1) C dX6_melt_12 rfl ?_
    refine zr_isub C dX6_melt_13 ?_
    refine zr_istore_n (i := 2) (L1 := [(2, .int _), (0, .ref _), (1, .int _)]) C dX6_melt_14 rfl (by decide) rfl ?_
    refine zr_aload_n C dX6_melt_15 rfl ?_
    refine zf_X6_9 C (of_decide_eq_true ht0) dX6_melt_16 ?_
    refine zr_iload_n C dX6_melt_19 rfl ?_
    refine zr_iald (n := 7) C dX6_melt_20 (of_decide_eq_true ht0) rfl ?_
    refine zr_iload_n C dX6_melt_21 rfl ?_
    refine zr_icmp_le (tgt := 38) C dX6_melt_22 (by decide) ?_ ?_
    · refine zr_aload_n C dX6_melt_38 rfl ?_
      refine zr_iload_n C dX6_melt_39 rfl ?_
      refine zp_X6_23 C (of_decide_eq_true ht0) dX6_melt_40 ?_
      exact zr_vret C dX6_melt_43
    · refine zr_aload_n C dX6_melt_25 rfl ?_
      refine zf_X6_9 C (of_decide_eq_true ht0) dX6_melt_26 ?_
      refine zr_iload_n C dX6_melt_29 rfl ?_
      refine zr_dup2 C dX6_melt_30 rfl rfl ?_
      refine zr_iald (n := 7) C dX6_melt_31 (of_decide_eq_true ht0) rfl ?_
      refine zr_iload_n C dX6_melt_32 rfl ?_
      refine zr_isub C dX6_melt_33 ?_
      refine zr_iast (n := 7) C dX6_melt_34 (of_decide_eq_true ht0) (fun _ _ => rfl) ?_
      refine zr_goto (tgt := 43) C dX6_melt_35 (by decide) ?_
      exact zr_vret C dX6_melt_43
  · exact zr_vret C dX6_melt_7
theorem zk_X6_38 (C : zCx E cc RX6 nL ret Z h) (F : Nat) {i0 : Nat} {b0 : Int32} (hk : i0 < zN 40) (hh : 1 + 1 ≤ h) (hst8 : (st.map fun v => v.category).sum ≤ 8) (hd : decode cc pc = .ok (.invokevirtual 38, 3)) {g : Unit → zMem → Option (α × zMem)} (kk : ∀ (r : Unit) (σ1 : zMem), zKO E nL Z QQ (pc + 3) L (st) σ1 (g r σ1)) : zKO E nL Z QQ pc L (.int b0 :: .ref (zad Z 40 i0) :: st) σ (zb (f_X6_melt F σ i0 b0) g) :=
  zr_callVU (As := [.int b0]) (ia := 1) C (fun r σ1 ho => c_X6_melt (zla E) Z F σ i0 b0 r σ1 ho) wz_828 hk rfl rfl wz_p46 wz_830 wz_831 wz_8 (by decide +kernel) rfl (by decide) hh hd hst8 kk
def f_X6_joinLowest_56 (F : Nat) (rec56 : zMem → Nat × Int32 → Option (Unit × zMem)) (σ : zMem) (x : Nat × Int32) : Option (Unit × zMem) := zg (decide (x.1 < 6)) (if (σ.1 40 x.1 1) ≤ x.2 then (some ((), σ)) else (zg (inb ((x.2 + 1)) 7) (zg (inb x.2 7) (zg (inb ((x.2 + 1)) 7) (zg (zbo (((zwi σ 41 x.1 x.2.toNatClampNeg ((σ.1 41 x.1 ((x.2 + 1)).toNatClampNeg))).1 42 x.1 ((x.2 + 1)).toNatClampNeg)) && inb x.2 7) (rec56 (zwi (zwi σ 41 x.1 x.2.toNatClampNeg ((σ.1 41 x.1 ((x.2 + 1)).toNatClampNeg))) 42 x.1 x.2.toNatClampNeg (((zwi σ 41 x.1 x.2.toNatClampNeg ((σ.1 41 x.1 ((x.2 + 1)).toNatClampNeg))).1 42 x.1 ((x.2 + 1)).toNatClampNeg))) ((x.1, (x.2 + 1)))))))))
set_option maxHeartbeats 4000000 in
set_option maxRecDepth 100000 in
theorem c_X6_joinLowest_56 (F : Nat) {E : zEn} {h : Nat} {Z : zLay} (C : zCx E cX6_joinLowest RX6 2 none Z h) (hh : 1 ≤ h) : ∀ (n : Nat) (σ : zMem) (x : Nat × Int32), zKO E 2 Z (zMQ E Z (zQV Z)) 56 [(0, .ref (zad Z 40 x.1)), (1, .int x.2)] [] σ (zit (f_X6_joinLowest_56 F) n σ x) := by
  refine zr_loop (LL := fun (x : Nat × Int32) => [(0, .ref (zad Z 40 x.1)), (1, .int x.2)]) (ST := fun (x : Nat × Int32) => []) (fun rec56 hrec56 σ x => ?_)
  obtain ⟨l0, l1⟩ := x
  show zKO E 2 Z (zMQ E Z (zQV Z)) 56 [(0, .ref (zad Z 40 l0)), (1, .int l1)] [] σ (zg (decide (l0 < 6)) (if (σ.1 40 l0 1) ≤ l1 then (some ((), σ)) else (zg (inb ((l1 + 1)) 7) (zg (inb l1 7) (zg (inb ((l1 + 1)) 7) (zg (zbo (((zwi σ 41 l0 l1.toNatClampNeg ((σ.1 41 l0 ((l1 + 1)).toNatClampNeg))).1 42 l0 ((l1 + 1)).toNatClampNeg)) && inb l1 7) (rec56 (zwi (zwi σ 41 l0 l1.toNatClampNeg ((σ.1 41 l0 ((l1 + 1)).toNatClampNeg))) 42 l0 l1.toNatClampNeg (((zwi σ 41 l0 l1.toNatClampNeg ((σ.1 41 l0 ((l1 + 1)).toNatClampNeg))).1 42 l0 ((l1 + 1)).toNatClampNeg))) ((l0, (l1 + 1))))))))))
  refine zr_g (fun hl0 => ?_)
  refine zr_iload_n C dX6_joinLowest_56 rfl ?_
  refine zr_aload_n C dX6_joinLowest_57 rfl ?_
  refine zf_X6_23 C (of_decide_eq_true hl0) dX6_joinLowest_58 ?_
  refine zr_icmp_ge (tgt := 98) C dX6_joinLowest_61 (by decide) ?_ ?_
  · exact zr_vret C dX6_joinLowest_98
  · refine zr_aload_n C dX6_joinLowest_64 rfl ?_
    refine zf_X6_9 C (of_decide_eq_true hl0) dX6_joinLowest_65 ?_
    refine zr_iload_n C dX6_joinLowest_68 rfl ?_
    refine zr_aload_n C dX6_joinLowest_69 rfl ?_
    refine zf_X6_9 C (of_decide_eq_true hl0) dX6_joinLowest_70 ?_
    refine zr_iload_n C dX6_joinLowest_73 rfl ?_
    refine zr_iconst (v := 1) C dX6_joinLowest_74 rfl ?_
    refine zr_iadd C dX6_joinLowest_75 ?_
    refine zr_iald (n := 7) C dX6_joinLowest_76 (of_decide_eq_true hl0) rfl ?_
    refine zr_iast (n := 7) C dX6_joinLowest_77 (of_decide_eq_true hl0) (fun _ _ => rfl) ?_
    refine zr_aload_n C dX6_joinLowest_78 rfl ?_
    refine zf_X6_15 C (of_decide_eq_true hl0) dX6_joinLowest_79 ?_
    refine zr_iload_n C dX6_joinLowest_82 rfl ?_
    refine zr_aload_n C dX6_joinLowest_83 rfl ?_
    refine zf_X6_15 C (of_decide_eq_true hl0) dX6_joinLowest_84 ?_
    refine zr_iload_n C dX6_joinLowest_87 rfl ?_
    refine zr_iconst (v := 1) C dX6_joinLowest_88 rfl ?_
    refine zr_iadd C dX6_joinLowest_89 ?_
    refine zr_zald (n := 7) C dX6_joinLowest_90 (of_decide_eq_true hl0) rfl ?_
    refine zr_zast (n := 7) C dX6_joinLowest_91 (of_decide_eq_true hl0) (fun _ _ => rfl) ?_
    refine zr_iinc (kk := 1) (v := (l1 + 1)) (L1 := [(1, .int _), (0, .ref _)]) C dX6_joinLowest_92 rfl rfl (by decide) rfl ?_
    refine zr_goto (tgt := 56) C dX6_joinLowest_95 (by decide) ?_
    exact zr_sub [1, 0] rfl (hrec56 (zwi (zwi σ 41 l0 l1.toNatClampNeg ((σ.1 41 l0 ((l1 + 1)).toNatClampNeg))) 42 l0 l1.toNatClampNeg (((zwi σ 41 l0 l1.toNatClampNeg ((σ.1 41 l0 ((l1 + 1)).toNatClampNeg))).1 42 l0 ((l1 + 1)).toNatClampNeg))) ((l0, (l1 + 1))))
def f_X6_joinLowest_43 (F : Nat) (σ : zMem) (l0 : Nat) (s0 : Int32) (s1 : Int32) (s2 : Nat) : Option (Unit × zMem) := zg (decide (l0 < 6)) (zg (decide (s2 < 6)) (zg (zbo s0 && inb s1 7) (zit (f_X6_joinLowest_56 F) F (zwi (zwi σ 42 s2 s1.toNatClampNeg s0) 40 l0 1 ((((zwi σ 42 s2 s1.toNatClampNeg s0).1 40 l0 1) - 1))) ((l0, 0)))))
set_option maxHeartbeats 4000000 in
set_option maxRecDepth 100000 in
theorem c_X6_joinLowest_43 (F : Nat) {E : zEn} {h : Nat} {Z : zLay} (C : zCx E cX6_joinLowest RX6 2 none Z h) (hh : 1 ≤ h) (σ : zMem) (l0 : Nat) (s0 : Int32) (s1 : Int32) (s2 : Nat) : zKO E 2 Z (zMQ E Z (zQV Z)) 43 [(0, .ref (zad Z 40 l0))] [.int s0, .int s1, .ref (zad Z 42 s2)] σ (f_X6_joinLowest_43 F σ l0 s0 s1 s2) := by
  unfold f_X6_joinLowest_43
  refine zr_g (fun hl0 => ?_)
  refine zr_g (fun hs2 => ?_)
  refine zr_zast (n := 7) C dX6_joinLowest_43 (of_decide_eq_true hs2) (fun _ _ => rfl) ?_
  refine zr_aload_n C dX6_joinLowest_44 rfl ?_
  refine zr_dup C dX6_joinLowest_45 rfl ?_
  refine zf_X6_23 C (of_decide_eq_true hl0) dX6_joinLowest_46 ?_
  refine zr_iconst (v := 1) C dX6_joinLowest_49 rfl ?_
  refine zr_isub C dX6_joinLowest_50 ?_
  refine zp_X6_23 C (of_decide_eq_true hl0) dX6_joinLowest_51 ?_
  refine zr_iconst (v := 0) C dX6_joinLowest_54 rfl ?_
  refine zr_istore_n (i := 1) (L1 := [(1, .int _), (0, .ref _)]) C dX6_joinLowest_55 rfl (by decide) rfl ?_
  exact zr_sub [1, 0] rfl (c_X6_joinLowest_56 F C hh F (zwi (zwi σ 42 s2 s1.toNatClampNeg s0) 40 l0 1 ((((zwi σ 42 s2 s1.toNatClampNeg s0).1 40 l0 1) - 1))) ((l0, 0)))
def f_X6_joinLowest (F : Nat) (σ : zMem) (t0 : Nat) : Option (Unit × zMem) := zg (decide (t0 < 6)) (zg (inb 1 7) (zg (inb 0 7) (zg (inb 1 7) (zg (inb 1 7) (if ((zwi σ 41 t0 1 (((σ.1 41 t0 1) + (σ.1 41 t0 0)))).1 42 t0 1) = 0 then (zg (inb 0 7) (if ((zwi σ 41 t0 1 (((σ.1 41 t0 1) + (σ.1 41 t0 0)))).1 42 t0 0) = 0 then (f_X6_joinLowest_43 F (zwi σ 41 t0 1 (((σ.1 41 t0 1) + (σ.1 41 t0 0)))) t0 0 1 t0) else (f_X6_joinLowest_43 F (zwi σ 41 t0 1 (((σ.1 41 t0 1) + (σ.1 41 t0 0)))) t0 1 1 t0))) else (f_X6_joinLowest_43 F (zwi σ 41 t0 1 (((σ.1 41 t0 1) + (σ.1 41 t0 0)))) t0 1 1 t0))))))
set_option maxHeartbeats 4000000 in
set_option maxRecDepth 100000 in
theorem c_X6_joinLowest (l : Launch) (Z : zLay) (F : Nat) (σ : zMem) (t0 : Nat) (r : Unit) (σ1 : zMem) (ho : f_X6_joinLowest F σ t0 = some (r, σ1)) : zMet l yX6_joinLowest cX6_joinLowest 2 none 1 Z [.ref (zad Z 40 t0)] σ (zQV Z r σ1) := by
  refine zMet_of (Qc := zQV Z) (by decide) (Nat.le_of_ble_eq_true rfl) [(0, .ref (zad Z 40 t0))] rfl (fun E C => ?_) ho
  have hh : 1 ≤ 1 := Nat.le_refl _
  show zKO E 2 Z (zMQ E Z (zQV Z)) 0 [(0, .ref (zad Z 40 t0))] [] σ _
  unfold f_X6_joinLowest
  refine zr_g (fun ht0 => ?_)
  refine zr_aload_n C dX6_joinLowest_0 rfl ?_
  refine zf_X6_9 C (of_decide_eq_true ht0) dX6_joinLowest_1 ?_
  refine zr_iconst (v := 1) C dX6_joinLowest_4 rfl ?_
  refine zr_dup2 C dX6_joinLowest_5 rfl rfl ?_
  refine zr_iald (n := 7) C dX6_joinLowest_6 (of_decide_eq_true ht0) rfl ?_
  refine zr_aload_n C dX6_joinLowest_7 rfl ?_
  refine zf_X6_9 C (of_decide_eq_true ht0) dX6_joinLowest_8 ?_
  refine zr_iconst (v := 0) C dX6_joinLowest_11 rfl ?_
  refine zr_iald (n := 7) C dX6_joinLowest_12 (of_decide_eq_true ht0) rfl ?_
  refine zr_iadd C dX6_joinLowest_13 ?_
  refine zr_iast (n := 7) C dX6_joinLowest_14 (of_decide_eq_true ht0) (fun _ _ => rfl) ?_
  refine zr_aload_n C dX6_joinLowest_15 rfl ?_
  refine zf_X6_15 C (of_decide_eq_true ht0) dX6_joinLowest_16 ?_
  refine zr_iconst (v := 1) C dX6_joinLowest_19 rfl ?_
  refine zr_aload_n C dX6_joinLowest_20 rfl ?_
  refine zf_X6_15 C (of_decide_eq_true ht0) dX6_joinLowest_21 ?_
  refine zr_iconst (v := 1) C dX6_joinLowest_24 rfl ?_
  refine zr_zald (n := 7) C dX6_joinLowest_25 (of_decide_eq_true ht0) rfl ?_
  refine zr_if_ne (tgt := 38) C dX6_joinLowest_26 (by decide) ?_ ?_
  · refine zr_iconst (v := 1) C dX6_joinLowest_38 rfl ?_
    refine zr_goto (tgt := 43) C dX6_joinLowest_39 (by decide) ?_
    exact zr_sub [0] rfl (c_X6_joinLowest_43 F C hh (zwi σ 41 t0 1 (((σ.1 41 t0 1) + (σ.1 41 t0 0)))) t0 1 1 t0)
  · refine zr_aload_n C dX6_joinLowest_29 rfl ?_
    refine zf_X6_15 C (of_decide_eq_true ht0) dX6_joinLowest_30 ?_
    refine zr_iconst (v := 0) C dX6_joinLowest_33 rfl ?_
    refine zr_zald (n := 7) C dX6_joinLowest_34 (of_decide_eq_true ht0) rfl ?_
    refine zr_if_eq (tgt := 42) C dX6_joinLowest_35 (by decide) ?_ ?_
    · refine zr_iconst (v := 0) C dX6_joinLowest_42 rfl ?_
      exact zr_sub [0] rfl (c_X6_joinLowest_43 F C hh (zwi σ 41 t0 1 (((σ.1 41 t0 1) + (σ.1 41 t0 0)))) t0 0 1 t0)
    · refine zr_iconst (v := 1) C dX6_joinLowest_38 rfl ?_
      refine zr_goto (tgt := 43) C dX6_joinLowest_39 (by decide) ?_
      exact zr_sub [0] rfl (c_X6_joinLowest_43 F C hh (zwi σ 41 t0 1 (((σ.1 41 t0 1) + (σ.1 41 t0 0)))) t0 1 1 t0)
theorem zk_X6_52 (C : zCx E cc RX6 nL ret Z h) (F : Nat) {i0 : Nat} (hk : i0 < zN 40) (hh : 1 + 1 ≤ h) (hst8 : (st.map fun v => v.category).sum ≤ 8) (hd : decode cc pc = .ok (.invokevirtual 52, 3)) {g : Unit → zMem → Option (α × zMem)} (kk : ∀ (r : Unit) (σ1 : zMem), zKO E nL Z QQ (pc + 3) L (st) σ1 (g r σ1)) : zKO E nL Z QQ pc L (.ref (zad Z 40 i0) :: st) σ (zb (f_X6_joinLowest F σ i0) g) :=
  zr_callVU (As := []) (ia := 0) C (fun r σ1 ho => c_X6_joinLowest (zla E) Z F σ i0 r σ1 ho) wz_836 hk rfl rfl wz_p48 wz_838 wz_839 wz_8 (by decide +kernel) rfl (by decide) hh hd hst8 kk
def f_X6_addLayer (F : Nat) (σ : zMem) (t0 : Nat) (a1 : Int32) (a2 : Int32) : Option (Unit × zMem) := zg (decide (t0 < 6)) (zg (inb ((σ.1 40 t0 1)) 7) (zg (zbo a2 && inb (((zwi σ 41 t0 ((σ.1 40 t0 1)).toNatClampNeg a1).1 40 t0 1)) 7) (if ((zwi (zwi (zwi σ 41 t0 ((σ.1 40 t0 1)).toNatClampNeg a1) 42 t0 (((zwi σ 41 t0 ((σ.1 40 t0 1)).toNatClampNeg a1).1 40 t0 1)).toNatClampNeg a2) 40 t0 1 ((((zwi (zwi σ 41 t0 ((σ.1 40 t0 1)).toNatClampNeg a1) 42 t0 (((zwi σ 41 t0 ((σ.1 40 t0 1)).toNatClampNeg a1).1 40 t0 1)).toNatClampNeg a2).1 40 t0 1) + 1))).1 40 t0 1) ≤ 6 then (some ((), (zwi (zwi (zwi σ 41 t0 ((σ.1 40 t0 1)).toNatClampNeg a1) 42 t0 (((zwi σ 41 t0 ((σ.1 40 t0 1)).toNatClampNeg a1).1 40 t0 1)).toNatClampNeg a2) 40 t0 1 ((((zwi (zwi σ 41 t0 ((σ.1 40 t0 1)).toNatClampNeg a1) 42 t0 (((zwi σ 41 t0 ((σ.1 40 t0 1)).toNatClampNeg a1).1 40 t0 1)).toNatClampNeg a2).1 40 t0 1) + 1))))) else (zb (f_X6_joinLowest F (zwi (zwi (zwi σ 41 t0 ((σ.1 40 t0 1)).toNatClampNeg a1) 42 t0 (((zwi σ 41 t0 ((σ.1 40 t0 1)).toNatClampNeg a1).1 40 t0 1)).toNatClampNeg a2) 40 t0 1 ((((zwi (zwi σ 41 t0 ((σ.1 40 t0 1)).toNatClampNeg a1) 42 t0 (((zwi σ 41 t0 ((σ.1 40 t0 1)).toNatClampNeg a1).1 40 t0 1)).toNatClampNeg a2).1 40 t0 1) + 1))) t0) fun r40 m40 => some ((), m40)))))
set_option maxHeartbeats 4000000 in
set_option maxRecDepth 100000 in
theorem c_X6_addLayer (l : Launch) (Z : zLay) (F : Nat) (σ : zMem) (t0 : Nat) (a1 : Int32) (a2 : Int32) (r : Unit) (σ1 : zMem) (ho : f_X6_addLayer F σ t0 a1 a2 = some (r, σ1)) : zMet l yX6_addLayer cX6_addLayer 3 none 2 Z [.ref (zad Z 40 t0), .int (a1), .int (a2)] σ (zQV Z r σ1) := by
  refine zMet_of (Qc := zQV Z) (by decide) (Nat.le_of_ble_eq_true rfl) [(0, .ref (zad Z 40 t0)), (1, .int (a1)), (2, .int (a2))] rfl (fun E C => ?_) ho
  have hh : 2 ≤ 2 := Nat.le_refl _
  show zKO E 3 Z (zMQ E Z (zQV Z)) 0 [(0, .ref (zad Z 40 t0)), (1, .int (a1)), (2, .int (a2))] [] σ _
  unfold f_X6_addLayer
  refine zr_g (fun ht0 => ?_)
  refine zr_aload_n C dX6_addLayer_0 rfl ?_
  refine zf_X6_9 C (of_decide_eq_true ht0) dX6_addLayer_1 ?_
  refine zr_aload_n C dX6_addLayer_4 rfl ?_
  refine zf_X6_23 C (of_decide_eq_true ht0) dX6_addLayer_5 ?_
  refine zr_iload_n C dX6_addLayer_8 rfl ?_
  refine zr_iast (n := 7) C dX6_addLayer_9 (of_decide_eq_true ht0) (fun _ _ => rfl) ?_
  refine zr_aload_n C dX6_addLayer_10 rfl ?_
  refine zf_X6_15 C (of_decide_eq_true ht0) dX6_addLayer_11 ?_
  refine zr_aload_n C dX6_addLayer_14 rfl ?_
  refine zf_X6_23 C (of_decide_eq_true ht0) dX6_addLayer_15 ?_
  refine zr_iload_n C dX6_addLayer_18 rfl ?_
  refine zr_zast (n := 7) C dX6_addLayer_19 (of_decide_eq_true ht0) (fun _ _ => rfl) ?_
  refine zr_aload_n C dX6_addLayer_20 rfl ?_
  refine zr_dup C dX6_addLayer_21 rfl ?_
  refine zf_X6_23 C (of_decide_eq_true ht0) dX6_addLayer_22 ?_
  refine zr_iconst (v := 1) C dX6_addLayer_25 rfl ?_
  refine zr_iadd C dX6_addLayer_26 ?_
  refine zp_X6_23 C (of_decide_eq_true ht0) dX6_addLayer_27 ?_
  refine zr_aload_n C dX6_addLayer_30 rfl ?_
  refine zf_X6_23 C (of_decide_eq_true ht0) dX6_addLayer_31 ?_
  refine zr_bipush (v := 6) C dX6_addLayer_34 rfl ?_
  refine zr_icmp_le (tgt := 43) C dX6_addLayer_36 (by decide) ?_ ?_
  · exact zr_vret C dX6_addLayer_43
  · refine zr_aload_n C dX6_addLayer_39 rfl ?_
    refine zk_X6_52 C F (of_decide_eq_true ht0) (Nat.le_trans (by decide) hh) (by simp [Value.category]) dX6_addLayer_40 (fun r40 m40 => ?_)
    exact zr_vret C dX6_addLayer_43
theorem zk_X6_42 (C : zCx E cc RX6 nL ret Z h) (F : Nat) {i0 : Nat} {b0 : Int32} {b1 : Int32} (hk : i0 < zN 40) (hh : 2 + 1 ≤ h) (hst8 : (st.map fun v => v.category).sum ≤ 8) (hd : decode cc pc = .ok (.invokevirtual 42, 3)) {g : Unit → zMem → Option (α × zMem)} (kk : ∀ (r : Unit) (σ1 : zMem), zKO E nL Z QQ (pc + 3) L (st) σ1 (g r σ1)) : zKO E nL Z QQ pc L (.int b1 :: .int b0 :: .ref (zad Z 40 i0) :: st) σ (zb (f_X6_addLayer F σ i0 b0 b1) g) :=
  zr_callVU (As := [.int b0, .int b1]) (ia := 2) C (fun r σ1 ho => c_X6_addLayer (zla E) Z F σ i0 b0 b1 r σ1 ho) wz_832 hk rfl rfl wz_p47 wz_834 wz_835 wz_8 (by decide +kernel) rfl (by decide) hh hd hst8 kk
def f_X6_live_79 (F : Nat) (σ : zMem) (l0 : Nat) : Option (Int32 × zMem) := zg (decide (l0 < 6)) (some (1, (zwi σ 40 l0 2 (((σ.1 40 l0 2) + 1)))))
set_option maxHeartbeats 4000000 in
set_option maxRecDepth 100000 in
theorem c_X6_live_79 (F : Nat) {E : zEn} {h : Nat} {Z : zLay} (C : zCx E cX6_live RX6 4 (some .boolean) Z h) (hh : 3 ≤ h) (σ : zMem) (l0 : Nat) : zKO E 4 Z (zMQ E Z (zQI Z)) 79 [(0, .ref (zad Z 40 l0))] [] σ (f_X6_live_79 F σ l0) := by
  unfold f_X6_live_79
  refine zr_g (fun hl0 => ?_)
  refine zr_aload_n C dX6_live_79 rfl ?_
  refine zr_dup C dX6_live_80 rfl ?_
  refine zf_X6_49 C (of_decide_eq_true hl0) dX6_live_81 ?_
  refine zr_iconst (v := 1) C dX6_live_84 rfl ?_
  refine zr_iadd C dX6_live_85 ?_
  refine zp_X6_49 C (of_decide_eq_true hl0) dX6_live_86 ?_
  refine zr_iconst (v := 1) C dX6_live_89 rfl ?_
  exact zr_zret C dX6_live_90 rfl
def f_X6_live_35 (F : Nat) (σ : zMem) (l0 : Nat) : Option (Int32 × zMem) := zg (decide (l0 < 6)) (zb (f_X6_lowestSoft F σ l0) fun r36 m36 => zb (f_X6_lyingFrom F m36 l0 ((r36 + 1))) fun r44 m44 => zb (f_X6_bears F m44 l0 ((m44.1 40 l0 0))) fun r52 m52 => if r52 ≤ r44 then (if 40 ≤ ((zwi m52 40 l0 1 r36).1 40 l0 0) then (f_X6_live_79 F (zwi m52 40 l0 1 r36) l0) else (f_X6_live_79 F (zwi (zwi m52 40 l0 1 r36) 40 l0 0 0) l0)) else (some (0, m52)))
set_option maxHeartbeats 4000000 in
set_option maxRecDepth 100000 in
theorem c_X6_live_35 (F : Nat) {E : zEn} {h : Nat} {Z : zLay} (C : zCx E cX6_live RX6 4 (some .boolean) Z h) (hh : 3 ≤ h) (σ : zMem) (l0 : Nat) : zKO E 4 Z (zMQ E Z (zQI Z)) 35 [(0, .ref (zad Z 40 l0))] [] σ (f_X6_live_35 F σ l0) := by
  unfold f_X6_live_35
  refine zr_g (fun hl0 => ?_)
  refine zr_aload_n C dX6_live_35 rfl ?_
  refine zk_X6_27 C F (of_decide_eq_true hl0) (Nat.le_trans (by decide) hh) (by simp [Value.category]) dX6_live_36 (fun r36 m36 => ?_)
  refine zr_istore_n (i := 3) (L1 := [(3, .int _), (0, .ref _)]) C dX6_live_39 rfl (by decide) rfl ?_
  refine zr_aload_n C dX6_live_40 rfl ?_
  refine zr_iload_n C dX6_live_41 rfl ?_
  refine zr_iconst (v := 1) C dX6_live_42 rfl ?_
  refine zr_iadd C dX6_live_43 ?_
  refine zk_X6_31 C F (of_decide_eq_true hl0) (Nat.le_trans (by decide) hh) (by simp [Value.category]) dX6_live_44 (fun r44 m44 => ?_)
  refine zr_aload_n C dX6_live_47 rfl ?_
  refine zr_aload_n C dX6_live_48 rfl ?_
  refine zf_X6_46 C (of_decide_eq_true hl0) dX6_live_49 ?_
  refine zk_X6_35 C F (of_decide_eq_true hl0) (Nat.le_trans (by decide) hh) (by simp [Value.category]) dX6_live_52 (fun r52 m52 => ?_)
  refine zr_icmp_ge (tgt := 60) C dX6_live_55 (by decide) ?_ ?_
  · refine zr_aload_n C dX6_live_60 rfl ?_
    refine zr_iload_n C dX6_live_61 rfl ?_
    refine zp_X6_23 C (of_decide_eq_true hl0) dX6_live_62 ?_
    refine zr_aload_n C dX6_live_65 rfl ?_
    refine zf_X6_46 C (of_decide_eq_true hl0) dX6_live_66 ?_
    refine zr_bipush (v := 40) C dX6_live_69 rfl ?_
    refine zr_icmp_ge (tgt := 79) C dX6_live_71 (by decide) ?_ ?_
    · exact zr_sub [1] rfl (c_X6_live_79 F C hh (zwi m52 40 l0 1 r36) l0)
    · refine zr_aload_n C dX6_live_74 rfl ?_
      refine zr_iconst (v := 0) C dX6_live_75 rfl ?_
      refine zp_X6_46 C (of_decide_eq_true hl0) dX6_live_76 ?_
      exact zr_sub [1] rfl (c_X6_live_79 F C hh (zwi (zwi m52 40 l0 1 r36) 40 l0 0 0) l0)
  · refine zr_iconst (v := 0) C dX6_live_58 rfl ?_
    exact zr_zret C dX6_live_59 rfl
def f_X6_live_32 (F : Nat) (σ : zMem) (l0 : Nat) (s0 : Int32) (s1 : Int32) (s2 : Nat) : Option (Int32 × zMem) := zg (decide (l0 < 6)) (zg (decide (s2 < 6)) (zb (f_X6_addLayer F σ s2 s1 s0) fun r32 m32 => f_X6_live_35 F m32 l0))
set_option maxHeartbeats 4000000 in
set_option maxRecDepth 100000 in
theorem c_X6_live_32 (F : Nat) {E : zEn} {h : Nat} {Z : zLay} (C : zCx E cX6_live RX6 4 (some .boolean) Z h) (hh : 3 ≤ h) (σ : zMem) (l0 : Nat) (s0 : Int32) (s1 : Int32) (s2 : Nat) : zKO E 4 Z (zMQ E Z (zQI Z)) 32 [(0, .ref (zad Z 40 l0))] [.int s0, .int s1, .ref (zad Z 40 s2)] σ (f_X6_live_32 F σ l0 s0 s1 s2) := by
  unfold f_X6_live_32
  refine zr_g (fun hl0 => ?_)
  refine zr_g (fun hs2 => ?_)
  refine zk_X6_42 C F (of_decide_eq_true hs2) (Nat.le_trans (by decide) hh) (by simp [Value.category]) dX6_live_32 (fun r32 m32 => ?_)
  exact zr_sub [0] rfl (c_X6_live_35 F C hh m32 l0)
def f_X6_live (F : Nat) (σ : zMem) (t0 : Nat) (a1 : Int32) (a2 : Int32) : Option (Int32 × zMem) := zg (decide (t0 < 6)) (if a1 ≤ 2 then (if a2 ≤ 0 then (f_X6_live_35 F σ t0) else (if a1 ≤ (-5) then (f_X6_live_32 F σ t0 0 a2 t0) else (f_X6_live_32 F σ t0 1 a2 t0))) else (zb (f_X6_melt F σ t0 ((3 * a1))) fun r9 m9 => f_X6_live_35 F m9 t0))
set_option maxHeartbeats 4000000 in
set_option maxRecDepth 100000 in
theorem c_X6_live (l : Launch) (Z : zLay) (F : Nat) (σ : zMem) (t0 : Nat) (a1 : Int32) (a2 : Int32) (r : Int32) (σ1 : zMem) (ho : f_X6_live F σ t0 a1 a2 = some (r, σ1)) : zMet l yX6_live cX6_live 4 (some .boolean) 3 Z [.ref (zad Z 40 t0), .int (a1), .int (a2)] σ (zQI Z r σ1) := by
  refine zMet_of (Qc := zQI Z) (by decide) (Nat.le_of_ble_eq_true rfl) [(0, .ref (zad Z 40 t0)), (1, .int (a1)), (2, .int (a2))] rfl (fun E C => ?_) ho
  have hh : 3 ≤ 3 := Nat.le_refl _
  show zKO E 4 Z (zMQ E Z (zQI Z)) 0 [(0, .ref (zad Z 40 t0)), (1, .int (a1)), (2, .int (a2))] [] σ _
  unfold f_X6_live
  refine zr_g (fun ht0 => ?_)
  refine zr_iload_n C dX6_live_0 rfl ?_
  refine zr_iconst (v := 2) C dX6_live_1 rfl ?_
  refine zr_icmp_le (tgt := 15) C dX6_live_2 (by decide) ?_ ?_
  · refine zr_iload_n C dX6_live_15 rfl ?_
    refine zr_if_le (tgt := 35) C dX6_live_16 (by decide) ?_ ?_
    · exact zr_sub [0] rfl (c_X6_live_35 F C hh σ t0)
    · refine zr_aload_n C dX6_live_19 rfl ?_
      refine zr_iload_n C dX6_live_20 rfl ?_
      refine zr_iload_n C dX6_live_21 rfl ?_
      refine zr_bipush (v := -5) C dX6_live_22 rfl ?_
      refine zr_icmp_le (tgt := 31) C dX6_live_24 (by decide) ?_ ?_
      · refine zr_iconst (v := 0) C dX6_live_31 rfl ?_
        exact zr_sub [0] rfl (c_X6_live_32 F C hh σ t0 0 a2 t0)
      · refine zr_iconst (v := 1) C dX6_live_27 rfl ?_
        refine zr_goto (tgt := 32) C dX6_live_28 (by decide) ?_
        exact zr_sub [0] rfl (c_X6_live_32 F C hh σ t0 1 a2 t0)
  · refine zr_aload_n C dX6_live_5 rfl ?_
    refine zr_iconst (v := 3) C dX6_live_6 rfl ?_
    refine zr_iload_n C dX6_live_7 rfl ?_
    refine zr_imul C dX6_live_8 ?_
    refine zk_X6_38 C F (of_decide_eq_true ht0) (Nat.le_trans (by decide) hh) (by simp [Value.category]) dX6_live_9 (fun r9 m9 => ?_)
    refine zr_goto (tgt := 35) C dX6_live_12 (by decide) ?_
    exact zr_sub [0] rfl (c_X6_live_35 F C hh m9 t0)
theorem zk_X7_22 (C : zCx E cc RX7 nL ret Z h) (F : Nat) {i0 : Nat} {b0 : Int32} {b1 : Int32} (hk : i0 < zN 40) (hh : 3 + 1 ≤ h) (hst8 : (st.map fun v => v.category).sum ≤ 8) (hd : decode cc pc = .ok (.invokevirtual 22, 3)) {g : Int32 → zMem → Option (α × zMem)} (kk : ∀ (r : Int32) (σ1 : zMem), zKO E nL Z QQ (pc + 3) L (.int r :: st) σ1 (g r σ1)) : zKO E nL Z QQ pc L (.int b1 :: .int b0 :: .ref (zad Z 40 i0) :: st) σ (zb (f_X6_live F σ i0 b0 b1) g) :=
  zr_callVNI (As := [.int b0, .int b1]) (ia := 2) C (fun r σ1 ho => c_X6_live (zla E) Z F σ i0 b0 b1 r σ1 ho) wz_n824 hk rfl rfl wz_p45 wz_826 wz_827 wz_8 (by decide +kernel) rfl (by decide) hh hd hst8 kk
def f_X7_has (F : Nat) (σ : zMem) (a1 : Int32) : Option (Int32 × zMem) := if a1 < 0 then (some (0, σ)) else (if (σ.1 38 0 1) ≤ a1 then (some (0, σ)) else (some (1, σ)))
set_option maxHeartbeats 4000000 in
set_option maxRecDepth 100000 in
theorem c_X7_has (l : Launch) (Z : zLay) (F : Nat) (σ : zMem) (a1 : Int32) (r : Int32) (σ1 : zMem) (ho : f_X7_has F σ a1 = some (r, σ1)) : zMet l yX7_has cX7_has 2 (some .boolean) 1 Z [.ref (zad Z 38 0), .int (a1)] σ (zQI Z r σ1) := by
  refine zMet_of (Qc := zQI Z) (by decide) (Nat.le_of_ble_eq_true rfl) [(0, .ref (zad Z 38 0)), (1, .int (a1))] rfl (fun E C => ?_) ho
  have hh : 1 ≤ 1 := Nat.le_refl _
  show zKO E 2 Z (zMQ E Z (zQI Z)) 0 [(0, .ref (zad Z 38 0)), (1, .int (a1))] [] σ _
  unfold f_X7_has
  refine zr_iload_n C dX7_has_0 rfl ?_
  refine zr_if_lt (tgt := 16) C dX7_has_1 (by decide) ?_ ?_
  · refine zr_iconst (v := 0) C dX7_has_16 rfl ?_
    exact zr_zret C dX7_has_17 rfl
  · refine zr_iload_n C dX7_has_4 rfl ?_
    refine zr_aload_n C dX7_has_5 rfl ?_
    refine zf_X7_18 C (Nat.le_of_ble_eq_true rfl) dX7_has_6 ?_
    refine zr_icmp_ge (tgt := 16) C dX7_has_9 (by decide) ?_ ?_
    · refine zr_iconst (v := 0) C dX7_has_16 rfl ?_
      exact zr_zret C dX7_has_17 rfl
    · refine zr_iconst (v := 1) C dX7_has_12 rfl ?_
      refine zr_goto (tgt := 17) C dX7_has_13 (by decide) ?_
      exact zr_zret C dX7_has_17 rfl
theorem zk_X10_331 (C : zCx E cc RX10 nL ret Z h) (F : Nat) {b0 : Int32} (hk : 0 < zN 38) (hh : 1 + 1 ≤ h) (hst8 : (st.map fun v => v.category).sum ≤ 8) (hd : decode cc pc = .ok (.invokevirtual 331, 3)) {g : Int32 → zMem → Option (α × zMem)} (kk : ∀ (r : Int32) (σ1 : zMem), zKO E nL Z QQ (pc + 3) L (.int r :: st) σ1 (g r σ1)) : zKO E nL Z QQ pc L (.int b0 :: .ref (zad Z 38 0) :: st) σ (zb (f_X7_has F σ b0) g) :=
  zr_callVNI (As := [.int b0]) (ia := 1) C (fun r σ1 ho => c_X7_has (zla E) Z F σ b0 r σ1 ho) wz_n865 hk rfl rfl wz_p53 wz_867 wz_868 wz_7 (by decide +kernel) rfl (by decide) hh hd hst8 kk
def f_X7_live_5 (F : Nat) (rec5 : zMem → Int32 × Int32 × Int32 × Int32 → Option (Unit × zMem)) (σ : zMem) (x : Int32 × Int32 × Int32 × Int32) : Option (Unit × zMem) := if (σ.1 38 0 1) ≤ x.2.2.2 then (if ((zwi σ 38 0 3 (((σ.1 38 0 3) + x.2.2.1))).1 38 0 2) = 0 then (some ((), (zwi (zwi σ 38 0 3 (((σ.1 38 0 3) + x.2.2.1))) 38 0 4 ((((zwi σ 38 0 3 (((σ.1 38 0 3) + x.2.2.1))).1 38 0 4) + x.2.2.1))))) else (if x.2.2.1 = 0 then (some ((), (zwi (zwi σ 38 0 3 (((σ.1 38 0 3) + x.2.2.1))) 38 0 5 ((((zwi σ 38 0 3 (((σ.1 38 0 3) + x.2.2.1))).1 38 0 5) + 1))))) else (some ((), (zwi σ 38 0 3 (((σ.1 38 0 3) + x.2.2.1))))))) else (zg (inb x.2.2.2 6) (zb (f_X6_live F σ x.2.2.2.toNatClampNeg x.1 x.2.1) fun r23 m23 => if r23 = 0 then (rec5 m23 ((x.1, x.2.1, x.2.2.1, (x.2.2.2 + 1)))) else (rec5 m23 ((x.1, x.2.1, (x.2.2.1 + 1), (x.2.2.2 + 1))))))
set_option maxHeartbeats 4000000 in
set_option maxRecDepth 100000 in
theorem c_X7_live_5 (F : Nat) {E : zEn} {h : Nat} {Z : zLay} (C : zCx E cX7_live RX7 5 none Z h) (hh : 4 ≤ h) : ∀ (n : Nat) (σ : zMem) (x : Int32 × Int32 × Int32 × Int32), zKO E 5 Z (zMQ E Z (zQV Z)) 5 [(0, .ref (zad Z 38 0)), (1, .int x.1), (2, .int x.2.1), (3, .int x.2.2.1), (4, .int x.2.2.2)] [] σ (zit (f_X7_live_5 F) n σ x) := by
  refine zr_loop (LL := fun (x : Int32 × Int32 × Int32 × Int32) => [(0, .ref (zad Z 38 0)), (1, .int x.1), (2, .int x.2.1), (3, .int x.2.2.1), (4, .int x.2.2.2)]) (ST := fun (x : Int32 × Int32 × Int32 × Int32) => []) (fun rec5 hrec5 σ x => ?_)
  obtain ⟨l1, l2, l3, l4⟩ := x
  show zKO E 5 Z (zMQ E Z (zQV Z)) 5 [(0, .ref (zad Z 38 0)), (1, .int l1), (2, .int l2), (3, .int l3), (4, .int l4)] [] σ (if (σ.1 38 0 1) ≤ l4 then (if ((zwi σ 38 0 3 (((σ.1 38 0 3) + l3))).1 38 0 2) = 0 then (some ((), (zwi (zwi σ 38 0 3 (((σ.1 38 0 3) + l3))) 38 0 4 ((((zwi σ 38 0 3 (((σ.1 38 0 3) + l3))).1 38 0 4) + l3))))) else (if l3 = 0 then (some ((), (zwi (zwi σ 38 0 3 (((σ.1 38 0 3) + l3))) 38 0 5 ((((zwi σ 38 0 3 (((σ.1 38 0 3) + l3))).1 38 0 5) + 1))))) else (some ((), (zwi σ 38 0 3 (((σ.1 38 0 3) + l3))))))) else (zg (inb l4 6) (zb (f_X6_live F σ l4.toNatClampNeg l1 l2) fun r23 m23 => if r23 = 0 then (rec5 m23 ((l1, l2, l3, (l4 + 1)))) else (rec5 m23 ((l1, l2, (l3 + 1), (l4 + 1)))))))
  refine zr_iload C dX7_live_5 rfl ?_
  refine zr_aload_n C dX7_live_7 rfl ?_
  refine zf_X7_18 C (Nat.le_of_ble_eq_true rfl) dX7_live_8 ?_
  refine zr_icmp_ge (tgt := 38) C dX7_live_11 (by decide) ?_ ?_
  · refine zr_aload_n C dX7_live_38 rfl ?_
    refine zr_dup C dX7_live_39 rfl ?_
    refine zf_X7_26 C (Nat.le_of_ble_eq_true rfl) dX7_live_40 ?_
    refine zr_iload_n C dX7_live_43 rfl ?_
    refine zr_iadd C dX7_live_44 ?_
    refine zp_X7_26 C (Nat.le_of_ble_eq_true rfl) dX7_live_45 ?_
    refine zr_aload_n C dX7_live_48 rfl ?_
    refine zf_X7_29 C (Nat.le_of_ble_eq_true rfl) dX7_live_49 ?_
    refine zr_if_ne (tgt := 68) C dX7_live_52 (by decide) ?_ ?_
    · refine zr_iload_n C dX7_live_68 rfl ?_
      refine zr_if_ne (tgt := 82) C dX7_live_69 (by decide) ?_ ?_
      · exact zr_vret C dX7_live_82
      · refine zr_aload_n C dX7_live_72 rfl ?_
        refine zr_dup C dX7_live_73 rfl ?_
        refine zf_X7_36 C (Nat.le_of_ble_eq_true rfl) dX7_live_74 ?_
        refine zr_iconst (v := 1) C dX7_live_77 rfl ?_
        refine zr_iadd C dX7_live_78 ?_
        refine zp_X7_36 C (Nat.le_of_ble_eq_true rfl) dX7_live_79 ?_
        exact zr_vret C dX7_live_82
    · refine zr_aload_n C dX7_live_55 rfl ?_
      refine zr_dup C dX7_live_56 rfl ?_
      refine zf_X7_33 C (Nat.le_of_ble_eq_true rfl) dX7_live_57 ?_
      refine zr_iload_n C dX7_live_60 rfl ?_
      refine zr_iadd C dX7_live_61 ?_
      refine zp_X7_33 C (Nat.le_of_ble_eq_true rfl) dX7_live_62 ?_
      refine zr_goto (tgt := 82) C dX7_live_65 (by decide) ?_
      exact zr_vret C dX7_live_82
  · refine zr_aload_n C dX7_live_14 rfl ?_
    refine zf_X7_11 C (Nat.le_of_ble_eq_true rfl) dX7_live_15 ?_
    refine zr_iload C dX7_live_18 rfl ?_
    refine zr_aald (n := 6) (k1 := 40) C dX7_live_20 (Nat.le_of_ble_eq_true rfl) rfl rfl rfl (fun hb20 => ?_)
    refine zr_iload_n C dX7_live_21 rfl ?_
    refine zr_iload_n C dX7_live_22 rfl ?_
    refine zk_X7_22 C F hb20 (Nat.le_trans (by decide) hh) (by simp [Value.category]) dX7_live_23 (fun r23 m23 => ?_)
    refine zr_if_eq (tgt := 32) C dX7_live_26 (by decide) ?_ ?_
    · refine zr_iinc (kk := 4) (v := (l4 + 1)) (L1 := [(4, .int _), (0, .ref _), (1, .int _), (2, .int _), (3, .int _)]) C dX7_live_32 rfl rfl (by decide) rfl ?_
      refine zr_goto (tgt := 5) C dX7_live_35 (by decide) ?_
      exact zr_sub [1, 2, 3, 4, 0] rfl (hrec5 m23 ((l1, l2, l3, (l4 + 1))))
    · refine zr_iinc (kk := 3) (v := (l3 + 1)) (L1 := [(3, .int _), (0, .ref _), (1, .int _), (2, .int _), (4, .int _)]) C dX7_live_29 rfl rfl (by decide) rfl ?_
      refine zr_iinc (kk := 4) (v := (l4 + 1)) (L1 := [(4, .int _), (3, .int _), (0, .ref _), (1, .int _), (2, .int _)]) C dX7_live_32 rfl rfl (by decide) rfl ?_
      refine zr_goto (tgt := 5) C dX7_live_35 (by decide) ?_
      exact zr_sub [2, 3, 4, 1, 0] rfl (hrec5 m23 ((l1, l2, (l3 + 1), (l4 + 1))))
def f_X7_live (F : Nat) (σ : zMem) (a1 : Int32) (a2 : Int32) : Option (Unit × zMem) := zit (f_X7_live_5 F) F σ ((a1, a2, 0, 0))
set_option maxHeartbeats 4000000 in
set_option maxRecDepth 100000 in
theorem c_X7_live (l : Launch) (Z : zLay) (F : Nat) (σ : zMem) (a1 : Int32) (a2 : Int32) (r : Unit) (σ1 : zMem) (ho : f_X7_live F σ a1 a2 = some (r, σ1)) : zMet l yX7_live cX7_live 5 none 4 Z [.ref (zad Z 38 0), .int (a1), .int (a2)] σ (zQV Z r σ1) := by
  refine zMet_of (Qc := zQV Z) (by decide) (Nat.le_of_ble_eq_true rfl) [(0, .ref (zad Z 38 0)), (1, .int (a1)), (2, .int (a2))] rfl (fun E C => ?_) ho
  have hh : 4 ≤ 4 := Nat.le_refl _
  show zKO E 5 Z (zMQ E Z (zQV Z)) 0 [(0, .ref (zad Z 38 0)), (1, .int (a1)), (2, .int (a2))] [] σ _
  unfold f_X7_live
  refine zr_iconst (v := 0) C dX7_live_0 rfl ?_
  refine zr_istore_n (i := 3) (L1 := [(3, .int _), (0, .ref _), (1, .int _), (2, .int _)]) C dX7_live_1 rfl (by decide) rfl ?_
  refine zr_iconst (v := 0) C dX7_live_2 rfl ?_
  refine zr_istore (i := 4) (L1 := [(4, .int _), (3, .int _), (0, .ref _), (1, .int _), (2, .int _)]) C dX7_live_3 (by decide) rfl ?_
  exact zr_sub [2, 3, 4, 1, 0] rfl (c_X7_live_5 F C hh F σ ((a1, a2, 0, 0)))
theorem zk_X10_308 (C : zCx E cc RX10 nL ret Z h) (F : Nat) {b0 : Int32} {b1 : Int32} (hk : 0 < zN 38) (hh : 4 + 1 ≤ h) (hst8 : (st.map fun v => v.category).sum ≤ 8) (hd : decode cc pc = .ok (.invokevirtual 308, 3)) {g : Unit → zMem → Option (α × zMem)} (kk : ∀ (r : Unit) (σ1 : zMem), zKO E nL Z QQ (pc + 3) L (st) σ1 (g r σ1)) : zKO E nL Z QQ pc L (.int b1 :: .int b0 :: .ref (zad Z 38 0) :: st) σ (zb (f_X7_live F σ b0 b1) g) :=
  zr_callVNU (As := [.int b0, .int b1]) (ia := 2) C (fun r σ1 ho => c_X7_live (zla E) Z F σ b0 b1 r σ1 ho) wz_n820 hk rfl rfl wz_p44 wz_822 wz_823 wz_7 (by decide +kernel) rfl (by decide) hh hd hst8 kk
def f_X7_ageWoods_2 (F : Nat) (rec2 : zMem → Int32 → Option (Unit × zMem)) (σ : zMem) (x : Int32) : Option (Unit × zMem) := if (σ.1 38 0 1) ≤ x then (some ((), σ)) else (zg (inb x 6) (zg (inb x 6) (rec2 (zwi σ 40 x.toNatClampNeg 0 ((zmin 400 (((σ.1 40 x.toNatClampNeg 0) + 1))))) ((x + 1)))))
set_option maxHeartbeats 4000000 in
set_option maxRecDepth 100000 in
theorem c_X7_ageWoods_2 (F : Nat) {E : zEn} {h : Nat} {Z : zLay} (C : zCx E cX7_ageWoods RX7 2 none Z h) (hh : 1 ≤ h) : ∀ (n : Nat) (σ : zMem) (x : Int32), zKO E 2 Z (zMQ E Z (zQV Z)) 2 [(0, .ref (zad Z 38 0)), (1, .int x)] [] σ (zit (f_X7_ageWoods_2 F) n σ x) := by
  refine zr_loop (LL := fun (x : Int32) => [(0, .ref (zad Z 38 0)), (1, .int x)]) (ST := fun (x : Int32) => []) (fun rec2 hrec2 σ x => ?_)
  obtain ⟨l1, h9⟩ : ∃ y, y = x := ⟨x, rfl⟩
  subst h9
  show zKO E 2 Z (zMQ E Z (zQV Z)) 2 [(0, .ref (zad Z 38 0)), (1, .int l1)] [] σ (if (σ.1 38 0 1) ≤ l1 then (some ((), σ)) else (zg (inb l1 6) (zg (inb l1 6) (rec2 (zwi σ 40 l1.toNatClampNeg 0 ((zmin 400 (((σ.1 40 l1.toNatClampNeg 0) + 1))))) ((l1 + 1))))))
  refine zr_iload_n C dX7_ageWoods_2 rfl ?_
  refine zr_aload_n C dX7_ageWoods_3 rfl ?_
  refine zf_X7_18 C (Nat.le_of_ble_eq_true rfl) dX7_ageWoods_4 ?_
  refine zr_icmp_ge (tgt := 42) C dX7_ageWoods_7 (by decide) ?_ ?_
  · exact zr_vret C dX7_ageWoods_42
  · refine zr_aload_n C dX7_ageWoods_10 rfl ?_
    refine zf_X7_11 C (Nat.le_of_ble_eq_true rfl) dX7_ageWoods_11 ?_
    refine zr_iload_n C dX7_ageWoods_14 rfl ?_
    refine zr_aald (n := 6) (k1 := 40) C dX7_ageWoods_15 (Nat.le_of_ble_eq_true rfl) rfl rfl rfl (fun hb15 => ?_)
    refine zr_sipush (v := 400) C dX7_ageWoods_16 rfl ?_
    refine zr_aload_n C dX7_ageWoods_19 rfl ?_
    refine zf_X7_11 C (Nat.le_of_ble_eq_true rfl) dX7_ageWoods_20 ?_
    refine zr_iload_n C dX7_ageWoods_23 rfl ?_
    refine zr_aald (n := 6) (k1 := 40) C dX7_ageWoods_24 (Nat.le_of_ble_eq_true rfl) rfl rfl rfl (fun hb24 => ?_)
    refine zf_X7_39 C hb24 dX7_ageWoods_25 ?_
    refine zr_iconst (v := 1) C dX7_ageWoods_28 rfl ?_
    refine zr_iadd C dX7_ageWoods_29 ?_
    refine zr_mmin C wz_856 wz_796 wz_17 wz_797 (Nat.le_trans (by decide) hh) (by simp [Value.category]) dX7_ageWoods_30 ?_
    refine zp_X7_39 C hb15 dX7_ageWoods_33 ?_
    refine zr_iinc (kk := 1) (v := (l1 + 1)) (L1 := [(1, .int _), (0, .ref _)]) C dX7_ageWoods_36 rfl rfl (by decide) rfl ?_
    refine zr_goto (tgt := 2) C dX7_ageWoods_39 (by decide) ?_
    exact zr_sub [1, 0] rfl (hrec2 (zwi σ 40 l1.toNatClampNeg 0 ((zmin 400 (((σ.1 40 l1.toNatClampNeg 0) + 1))))) ((l1 + 1)))
def f_X7_ageWoods (F : Nat) (σ : zMem) : Option (Unit × zMem) := zit (f_X7_ageWoods_2 F) F σ 0
set_option maxHeartbeats 4000000 in
set_option maxRecDepth 100000 in
theorem c_X7_ageWoods (l : Launch) (Z : zLay) (F : Nat) (σ : zMem) (r : Unit) (σ1 : zMem) (ho : f_X7_ageWoods F σ = some (r, σ1)) : zMet l yX7_ageWoods cX7_ageWoods 2 none 1 Z [.ref (zad Z 38 0)] σ (zQV Z r σ1) := by
  refine zMet_of (Qc := zQV Z) (by decide) (Nat.le_of_ble_eq_true rfl) [(0, .ref (zad Z 38 0))] rfl (fun E C => ?_) ho
  have hh : 1 ≤ 1 := Nat.le_refl _
  show zKO E 2 Z (zMQ E Z (zQV Z)) 0 [(0, .ref (zad Z 38 0))] [] σ _
  unfold f_X7_ageWoods
  refine zr_iconst (v := 0) C dX7_ageWoods_0 rfl ?_
  refine zr_istore_n (i := 1) (L1 := [(1, .int _), (0, .ref _)]) C dX7_ageWoods_1 rfl (by decide) rfl ?_
  exact zr_sub [1, 0] rfl (c_X7_ageWoods_2 F C hh F σ 0)
theorem zk_X10_312 (C : zCx E cc RX10 nL ret Z h) (F : Nat)  (hk : 0 < zN 38) (hh : 1 + 1 ≤ h) (hst8 : (st.map fun v => v.category).sum ≤ 8) (hd : decode cc pc = .ok (.invokevirtual 312, 3)) {g : Unit → zMem → Option (α × zMem)} (kk : ∀ (r : Unit) (σ1 : zMem), zKO E nL Z QQ (pc + 3) L (st) σ1 (g r σ1)) : zKO E nL Z QQ pc L (.ref (zad Z 38 0) :: st) σ (zb (f_X7_ageWoods F σ) g) :=
  zr_callVNU (As := []) (ia := 0) C (fun r σ1 ho => c_X7_ageWoods (zla E) Z F σ r σ1 ho) wz_n852 hk rfl rfl wz_p52 wz_854 wz_855 wz_7 (by decide +kernel) rfl (by decide) hh hd hst8 kk
def f_X8_stands (F : Nat) (σ : zMem) (t0 : Nat) (a1 : Int32) (a2 : Int32) (a3 : Int32) : Option (Int32 × zMem) := zg (decide (t0 < 40)) (if (σ.1 13 t0 0) = a1 then (if a2 < (σ.1 13 t0 2) then (some (0, σ)) else (if a3 < (σ.1 13 t0 2) then (some (0, σ)) else (if (σ.1 13 t0 4) = 0 then (some (1, σ)) else (if (σ.1 13 t0 3) ≤ a3 then (some (0, σ)) else (some (1, σ)))))) else (some (0, σ)))
set_option maxHeartbeats 4000000 in
set_option maxRecDepth 100000 in
theorem c_X8_stands (l : Launch) (Z : zLay) (F : Nat) (σ : zMem) (t0 : Nat) (a1 : Int32) (a2 : Int32) (a3 : Int32) (r : Int32) (σ1 : zMem) (ho : f_X8_stands F σ t0 a1 a2 a3 = some (r, σ1)) : zMet l yX8_stands cX8_stands 4 (some .boolean) 1 Z [.ref (zad Z 13 t0), .int (a1), .int (a2), .int (a3)] σ (zQI Z r σ1) := by
  refine zMet_of (Qc := zQI Z) (by decide) (Nat.le_of_ble_eq_true rfl) [(0, .ref (zad Z 13 t0)), (1, .int (a1)), (2, .int (a2)), (3, .int (a3))] rfl (fun E C => ?_) ho
  have hh : 1 ≤ 1 := Nat.le_refl _
  show zKO E 4 Z (zMQ E Z (zQI Z)) 0 [(0, .ref (zad Z 13 t0)), (1, .int (a1)), (2, .int (a2)), (3, .int (a3))] [] σ _
  unfold f_X8_stands
  refine zr_g (fun ht0 => ?_)
  refine zr_aload_n C dX8_stands_0 rfl ?_
  refine zf_X8_28 C (of_decide_eq_true ht0) dX8_stands_1 ?_
  refine zr_iload_n C dX8_stands_4 rfl ?_
  refine zr_icmp_ne (tgt := 43) C dX8_stands_5 (by decide) ?_ ?_
  · refine zr_iconst (v := 0) C dX8_stands_43 rfl ?_
    exact zr_zret C dX8_stands_44 rfl
  · refine zr_aload_n C dX8_stands_8 rfl ?_
    refine zf_X8_32 C (of_decide_eq_true ht0) dX8_stands_9 ?_
    refine zr_iload_n C dX8_stands_12 rfl ?_
    refine zr_icmp_gt (tgt := 43) C dX8_stands_13 (by decide) ?_ ?_
    · refine zr_iconst (v := 0) C dX8_stands_43 rfl ?_
      exact zr_zret C dX8_stands_44 rfl
    · refine zr_aload_n C dX8_stands_16 rfl ?_
      refine zf_X8_32 C (of_decide_eq_true ht0) dX8_stands_17 ?_
      refine zr_iload_n C dX8_stands_20 rfl ?_
      refine zr_icmp_gt (tgt := 43) C dX8_stands_21 (by decide) ?_ ?_
      · refine zr_iconst (v := 0) C dX8_stands_43 rfl ?_
        exact zr_zret C dX8_stands_44 rfl
      · refine zr_aload_n C dX8_stands_24 rfl ?_
        refine zf_X8_35 C (of_decide_eq_true ht0) dX8_stands_25 ?_
        refine zr_if_eq (tgt := 39) C dX8_stands_28 (by decide) ?_ ?_
        · refine zr_iconst (v := 1) C dX8_stands_39 rfl ?_
          refine zr_goto (tgt := 44) C dX8_stands_40 (by decide) ?_
          exact zr_zret C dX8_stands_44 rfl
        · refine zr_aload_n C dX8_stands_31 rfl ?_
          refine zf_X8_39 C (of_decide_eq_true ht0) dX8_stands_32 ?_
          refine zr_iload_n C dX8_stands_35 rfl ?_
          refine zr_icmp_le (tgt := 43) C dX8_stands_36 (by decide) ?_ ?_
          · refine zr_iconst (v := 0) C dX8_stands_43 rfl ?_
            exact zr_zret C dX8_stands_44 rfl
          · refine zr_iconst (v := 1) C dX8_stands_39 rfl ?_
            refine zr_goto (tgt := 44) C dX8_stands_40 (by decide) ?_
            exact zr_zret C dX8_stands_44 rfl
theorem zk_X9_39 (C : zCx E cc RX9 nL ret Z h) (F : Nat) {i0 : Nat} {b0 : Int32} {b1 : Int32} {b2 : Int32} (hk : i0 < zN 13) (hh : 1 + 1 ≤ h) (hst8 : (st.map fun v => v.category).sum ≤ 8) (hd : decode cc pc = .ok (.invokevirtual 39, 3)) {g : Int32 → zMem → Option (α × zMem)} (kk : ∀ (r : Int32) (σ1 : zMem), zKO E nL Z QQ (pc + 3) L (.int r :: st) σ1 (g r σ1)) : zKO E nL Z QQ pc L (.int b2 :: .int b1 :: .int b0 :: .ref (zad Z 13 i0) :: st) σ (zb (f_X8_stands F σ i0 b0 b1 b2) g) :=
  zr_callVNI (As := [.int b0, .int b1, .int b2]) (ia := 3) C (fun r σ1 ho => c_X8_stands (zla E) Z F σ i0 b0 b1 b2 r σ1 ho) wz_n663 hk rfl rfl wz_p25 wz_665 wz_666 wz_4 (by decide +kernel) rfl (by decide) hh hd hst8 kk
def f_X8_fieldOf (F : Nat) (σ : zMem) (a0 : Nat) (a1 : Int32) (a2 : Int32) : Option (Int32 × zMem) := zg (decide (a0 < 10)) (if a2.toInt < 0 ∨ 4 < a2.toInt then (zg (zni 360) (some ((zrem a1 360), σ))) else (if a2 = 0 then (zg (inb 2 4) (some ((σ.1 3 a0 2), σ))) else (if a2 = 1 then (zg (inb 3 4) (some ((σ.1 3 a0 3), σ))) else (if a2 = 2 then (zg (inb 1 4) (some ((σ.1 3 a0 1), σ))) else (if a2 = 3 then (zg (inb 0 4) (some ((σ.1 3 a0 0), σ))) else (if a2 = 4 then (zg (zni 360) (some ((a1 / 360), σ))) else none))))))
set_option maxHeartbeats 4000000 in
set_option maxRecDepth 100000 in
theorem c_X8_fieldOf (l : Launch) (Z : zLay) (F : Nat) (σ : zMem) (a0 : Nat) (a1 : Int32) (a2 : Int32) (r : Int32) (σ1 : zMem) (ho : f_X8_fieldOf F σ a0 a1 a2 = some (r, σ1)) : zMet l yX8_fieldOf cX8_fieldOf 3 (some .int) 1 Z [.ref (zad Z 2 a0), .int (a1), .int (a2)] σ (zQI Z r σ1) := by
  refine zMet_of (Qc := zQI Z) (by decide) (Nat.le_of_ble_eq_true rfl) [(0, .ref (zad Z 2 a0)), (1, .int (a1)), (2, .int (a2))] rfl (fun E C => ?_) ho
  have hh : 1 ≤ 1 := Nat.le_refl _
  show zKO E 3 Z (zMQ E Z (zQI Z)) 0 [(0, .ref (zad Z 2 a0)), (1, .int (a1)), (2, .int (a2))] [] σ _
  unfold f_X8_fieldOf
  refine zr_g (fun ha0 => ?_)
  refine zr_iload_n C dX8_fieldOf_0 rfl ?_
  refine zr_if (fun hx => ?_) (fun _ => ?_)
  · refine zr_tabOut (tgt := 70) C dX8_fieldOf_1 hx (by decide) ?_
    refine zr_iload_n C dX8_fieldOf_70 rfl ?_
    refine zr_sipush (v := 360) C dX8_fieldOf_71 rfl ?_
    refine zr_irem C dX8_fieldOf_74 ?_
    exact zr_iret C dX8_fieldOf_75
  · refine zr_if (fun hx => ?_) (fun _ => ?_)
    · refine zr_tabIn (tgt := 36) C dX8_fieldOf_1 (by rw [hx]; decide) (by rw [hx]; decide) (off := 35) (by rw [hx]; decide) (by decide) ?_
      refine zr_aload_n C dX8_fieldOf_36 rfl ?_
      refine zf_X8_56 C (of_decide_eq_true ha0) dX8_fieldOf_37 ?_
      refine zr_iconst (v := 2) C dX8_fieldOf_40 rfl ?_
      refine zr_iald (n := 4) C dX8_fieldOf_41 (of_decide_eq_true ha0) rfl ?_
      exact zr_iret C dX8_fieldOf_42
    · refine zr_if (fun hx => ?_) (fun _ => ?_)
      · refine zr_tabIn (tgt := 43) C dX8_fieldOf_1 (by rw [hx]; decide) (by rw [hx]; decide) (off := 42) (by rw [hx]; decide) (by decide) ?_
        refine zr_aload_n C dX8_fieldOf_43 rfl ?_
        refine zf_X8_56 C (of_decide_eq_true ha0) dX8_fieldOf_44 ?_
        refine zr_iconst (v := 3) C dX8_fieldOf_47 rfl ?_
        refine zr_iald (n := 4) C dX8_fieldOf_48 (of_decide_eq_true ha0) rfl ?_
        exact zr_iret C dX8_fieldOf_49
      · refine zr_if (fun hx => ?_) (fun _ => ?_)
        · refine zr_tabIn (tgt := 50) C dX8_fieldOf_1 (by rw [hx]; decide) (by rw [hx]; decide) (off := 49) (by rw [hx]; decide) (by decide) ?_
          refine zr_aload_n C dX8_fieldOf_50 rfl ?_
          refine zf_X8_56 C (of_decide_eq_true ha0) dX8_fieldOf_51 ?_
          refine zr_iconst (v := 1) C dX8_fieldOf_54 rfl ?_
          refine zr_iald (n := 4) C dX8_fieldOf_55 (of_decide_eq_true ha0) rfl ?_
          exact zr_iret C dX8_fieldOf_56
        · refine zr_if (fun hx => ?_) (fun _ => ?_)
          · refine zr_tabIn (tgt := 57) C dX8_fieldOf_1 (by rw [hx]; decide) (by rw [hx]; decide) (off := 56) (by rw [hx]; decide) (by decide) ?_
            refine zr_aload_n C dX8_fieldOf_57 rfl ?_
            refine zf_X8_56 C (of_decide_eq_true ha0) dX8_fieldOf_58 ?_
            refine zr_iconst (v := 0) C dX8_fieldOf_61 rfl ?_
            refine zr_iald (n := 4) C dX8_fieldOf_62 (of_decide_eq_true ha0) rfl ?_
            exact zr_iret C dX8_fieldOf_63
          · refine zr_if (fun hx => ?_) (fun _ => ?_)
            · refine zr_tabIn (tgt := 64) C dX8_fieldOf_1 (by rw [hx]; decide) (by rw [hx]; decide) (off := 63) (by rw [hx]; decide) (by decide) ?_
              refine zr_iload_n C dX8_fieldOf_64 rfl ?_
              refine zr_sipush (v := 360) C dX8_fieldOf_65 rfl ?_
              refine zr_idiv C dX8_fieldOf_68 ?_
              exact zr_iret C dX8_fieldOf_69
            · exact zr_none
theorem zk_X8_45 (C : zCx E cc RX8 nL ret Z h) (F : Nat) {b0 : Nat} {b1 : Int32} {b2 : Int32} (hh : 1 + 1 ≤ h) (hst8 : (st.map fun v => v.category).sum ≤ 8) (hd : decode cc pc = .ok (.invokestatic 45, 3)) {g : Int32 → zMem → Option (α × zMem)} (kk : ∀ (r : Int32) (σ1 : zMem), zKO E nL Z QQ (pc + 3) L (.int r :: st) σ1 (g r σ1)) : zKO E nL Z QQ pc L (.int b2 :: .int b1 :: .ref (zad Z 2 b0) :: st) σ (zb (f_X8_fieldOf F σ b0 b1 b2) g) :=
  zr_callSI (As := [.ref (zad Z 2 b0), .int b1, .int b2]) (ia := 3) C (fun r σ1 ho => c_X8_fieldOf (zla E) Z F σ b0 b1 b2 r σ1 ho) wz_671 wz_672 wz_673 wz_4 (by decide +kernel) rfl (by decide) hh hd hst8 kk
def f_X8_isTrue (F : Nat) (σ : zMem) (a0 : Int32) (a1 : Int32) (a2 : Int32) : Option (Int32 × zMem) := if a1 = 0 then (if a2 ≤ a0 then (some (0, σ)) else (some (1, σ))) else (if a1 = 1 then (if a0 = a2 then (some (1, σ)) else (some (0, σ))) else (if a0 ≤ a2 then (some (0, σ)) else (some (1, σ))))
set_option maxHeartbeats 4000000 in
set_option maxRecDepth 100000 in
theorem c_X8_isTrue (l : Launch) (Z : zLay) (F : Nat) (σ : zMem) (a0 : Int32) (a1 : Int32) (a2 : Int32) (r : Int32) (σ1 : zMem) (ho : f_X8_isTrue F σ a0 a1 a2 = some (r, σ1)) : zMet l yX8_isTrue cX8_isTrue 3 (some .boolean) 1 Z [.int (a0), .int (a1), .int (a2)] σ (zQI Z r σ1) := by
  refine zMet_of (Qc := zQI Z) (by decide) (Nat.le_of_ble_eq_true rfl) [(0, .int (a0)), (1, .int (a1)), (2, .int (a2))] rfl (fun E C => ?_) ho
  have hh : 1 ≤ 1 := Nat.le_refl _
  show zKO E 3 Z (zMQ E Z (zQI Z)) 0 [(0, .int (a0)), (1, .int (a1)), (2, .int (a2))] [] σ _
  unfold f_X8_isTrue
  refine zr_iload_n C dX8_isTrue_0 rfl ?_
  refine zr_if_ne (tgt := 15) C dX8_isTrue_1 (by decide) ?_ ?_
  · refine zr_iload_n C dX8_isTrue_15 rfl ?_
    refine zr_iconst (v := 1) C dX8_isTrue_16 rfl ?_
    refine zr_icmp_ne (tgt := 33) C dX8_isTrue_17 (by decide) ?_ ?_
    · refine zr_iload_n C dX8_isTrue_33 rfl ?_
      refine zr_iload_n C dX8_isTrue_34 rfl ?_
      refine zr_icmp_le (tgt := 42) C dX8_isTrue_35 (by decide) ?_ ?_
      · refine zr_iconst (v := 0) C dX8_isTrue_42 rfl ?_
        exact zr_zret C dX8_isTrue_43 rfl
      · refine zr_iconst (v := 1) C dX8_isTrue_38 rfl ?_
        refine zr_goto (tgt := 43) C dX8_isTrue_39 (by decide) ?_
        exact zr_zret C dX8_isTrue_43 rfl
    · refine zr_iload_n C dX8_isTrue_20 rfl ?_
      refine zr_iload_n C dX8_isTrue_21 rfl ?_
      refine zr_icmp_ne (tgt := 29) C dX8_isTrue_22 (by decide) ?_ ?_
      · refine zr_iconst (v := 0) C dX8_isTrue_29 rfl ?_
        refine zr_goto (tgt := 43) C dX8_isTrue_30 (by decide) ?_
        exact zr_zret C dX8_isTrue_43 rfl
      · refine zr_iconst (v := 1) C dX8_isTrue_25 rfl ?_
        refine zr_goto (tgt := 43) C dX8_isTrue_26 (by decide) ?_
        exact zr_zret C dX8_isTrue_43 rfl
  · refine zr_iload_n C dX8_isTrue_4 rfl ?_
    refine zr_iload_n C dX8_isTrue_5 rfl ?_
    refine zr_icmp_ge (tgt := 13) C dX8_isTrue_6 (by decide) ?_ ?_
    · refine zr_iconst (v := 0) C dX8_isTrue_13 rfl ?_
      exact zr_zret C dX8_isTrue_14 rfl
    · refine zr_iconst (v := 1) C dX8_isTrue_9 rfl ?_
      refine zr_goto (tgt := 14) C dX8_isTrue_10 (by decide) ?_
      exact zr_zret C dX8_isTrue_14 rfl
theorem zk_X8_49 (C : zCx E cc RX8 nL ret Z h) (F : Nat) {b0 : Int32} {b1 : Int32} {b2 : Int32} (hh : 1 + 1 ≤ h) (hst8 : (st.map fun v => v.category).sum ≤ 8) (hd : decode cc pc = .ok (.invokestatic 49, 3)) {g : Int32 → zMem → Option (α × zMem)} (kk : ∀ (r : Int32) (σ1 : zMem), zKO E nL Z QQ (pc + 3) L (.int r :: st) σ1 (g r σ1)) : zKO E nL Z QQ pc L (.int b2 :: .int b1 :: .int b0 :: st) σ (zb (f_X8_isTrue F σ b0 b1 b2) g) :=
  zr_callSI (As := [.int b0, .int b1, .int b2]) (ia := 3) C (fun r σ1 ho => c_X8_isTrue (zla E) Z F σ b0 b1 b2 r σ1 ho) wz_674 wz_675 wz_676 wz_4 (by decide +kernel) rfl (by decide) hh hd hst8 kk
def f_X8_holdsFor_60 (F : Nat) (rec17 : zMem → Nat × Nat × Int32 × Int32 × Int32 × Int32 → Option (Int32 × zMem)) (σ : zMem) (l0 : Nat) (l1 : Nat) (l2 : Int32) (l3 : Int32) (l4 : Int32) (l5 : Int32) : Option (Int32 × zMem) := zg (decide (l0 < 40)) (zg (decide (l1 < 10)) (if l4 = 0 then (rec17 σ ((l0, l1, l2, l3, 0, (l5 + 1)))) else (zg (inb l5 4) (zg (inb l5 4) (zb (f_X8_fieldOf F σ l1 l2 ((σ.1 14 l0 l5.toNatClampNeg))) fun r81 m81 => zg (inb l5 4) (zg (inb l5 4) (zb (f_X8_isTrue F m81 r81 ((m81.1 15 l0 l5.toNatClampNeg)) ((m81.1 16 l0 l5.toNatClampNeg))) fun r98 m98 => if (σ.1 17 l0 l5.toNatClampNeg) = r98 then (rec17 m98 ((l0, l1, l2, l3, 0, (l5 + 1)))) else (rec17 m98 ((l0, l1, l2, l3, 1, (l5 + 1)))))))))))
set_option maxHeartbeats 4000000 in
set_option maxRecDepth 100000 in
theorem c_X8_holdsFor_60 (F : Nat) (rec17 : zMem → Nat × Nat × Int32 × Int32 × Int32 × Int32 → Option (Int32 × zMem)) {E : zEn} {h : Nat} {Z : zLay} (C : zCx E cX8_holdsFor RX8 6 (some .boolean) Z h) (hh : 2 ≤ h) (hrec17 : ∀ (σ : zMem) (x : Nat × Nat × Int32 × Int32 × Int32 × Int32), zKO E 6 Z (zMQ E Z (zQI Z)) 17 [(0, .ref (zad Z 13 x.1)), (1, .ref (zad Z 2 x.2.1)), (2, .int x.2.2.1), (3, .int x.2.2.2.1), (4, .int x.2.2.2.2.1), (5, .int x.2.2.2.2.2)] [] σ (rec17 σ x)) (σ : zMem) (l0 : Nat) (l1 : Nat) (l2 : Int32) (l3 : Int32) (l4 : Int32) (l5 : Int32) : zKO E 6 Z (zMQ E Z (zQI Z)) 60 [(0, .ref (zad Z 13 l0)), (1, .ref (zad Z 2 l1)), (2, .int l2), (3, .int l3), (4, .int l4), (5, .int l5)] [] σ (f_X8_holdsFor_60 F rec17 σ l0 l1 l2 l3 l4 l5) := by
  unfold f_X8_holdsFor_60
  refine zr_g (fun hl0 => ?_)
  refine zr_g (fun hl1 => ?_)
  refine zr_iload C dX8_holdsFor_60 rfl ?_
  refine zr_if_eq (tgt := 108) C dX8_holdsFor_62 (by decide) ?_ ?_
  · refine zr_iconst (v := 0) C dX8_holdsFor_108 rfl ?_
    refine zr_istore (i := 4) (L1 := [(4, .int _), (0, .ref _), (1, .ref _), (2, .int _), (3, .int _), (5, .int _)]) C dX8_holdsFor_109 (by decide) rfl ?_
    refine zr_iinc (kk := 5) (v := (l5 + 1)) (L1 := [(5, .int _), (4, .int _), (0, .ref _), (1, .ref _), (2, .int _), (3, .int _)]) C dX8_holdsFor_111 rfl rfl (by decide) rfl ?_
    refine zr_goto (tgt := 17) C dX8_holdsFor_114 (by decide) ?_
    exact zr_sub [2, 3, 4, 5, 1, 0] rfl (hrec17 σ ((l0, l1, l2, l3, 0, (l5 + 1))))
  · refine zr_aload_n C dX8_holdsFor_65 rfl ?_
    refine zf_X8_21 C (of_decide_eq_true hl0) dX8_holdsFor_66 ?_
    refine zr_iload C dX8_holdsFor_69 rfl ?_
    refine zr_zald (n := 4) C dX8_holdsFor_71 (of_decide_eq_true hl0) rfl ?_
    refine zr_aload_n C dX8_holdsFor_72 rfl ?_
    refine zr_iload_n C dX8_holdsFor_73 rfl ?_
    refine zr_aload_n C dX8_holdsFor_74 rfl ?_
    refine zf_X8_9 C (of_decide_eq_true hl0) dX8_holdsFor_75 ?_
    refine zr_iload C dX8_holdsFor_78 rfl ?_
    refine zr_iald (n := 4) C dX8_holdsFor_80 (of_decide_eq_true hl0) rfl ?_
    refine zk_X8_45 C F (Nat.le_trans (by decide) hh) (by simp [Value.category]) dX8_holdsFor_81 (fun r81 m81 => ?_)
    refine zr_aload_n C dX8_holdsFor_84 rfl ?_
    refine zf_X8_15 C (of_decide_eq_true hl0) dX8_holdsFor_85 ?_
    refine zr_iload C dX8_holdsFor_88 rfl ?_
    refine zr_iald (n := 4) C dX8_holdsFor_90 (of_decide_eq_true hl0) rfl ?_
    refine zr_aload_n C dX8_holdsFor_91 rfl ?_
    refine zf_X8_18 C (of_decide_eq_true hl0) dX8_holdsFor_92 ?_
    refine zr_iload C dX8_holdsFor_95 rfl ?_
    refine zr_iald (n := 4) C dX8_holdsFor_97 (of_decide_eq_true hl0) rfl ?_
    refine zk_X8_49 C F (Nat.le_trans (by decide) hh) (by simp [Value.category]) dX8_holdsFor_98 (fun r98 m98 => ?_)
    refine zr_icmp_eq (tgt := 108) C dX8_holdsFor_101 (by decide) ?_ ?_
    · refine zr_iconst (v := 0) C dX8_holdsFor_108 rfl ?_
      refine zr_istore (i := 4) (L1 := [(4, .int _), (0, .ref _), (1, .ref _), (2, .int _), (3, .int _), (5, .int _)]) C dX8_holdsFor_109 (by decide) rfl ?_
      refine zr_iinc (kk := 5) (v := (l5 + 1)) (L1 := [(5, .int _), (4, .int _), (0, .ref _), (1, .ref _), (2, .int _), (3, .int _)]) C dX8_holdsFor_111 rfl rfl (by decide) rfl ?_
      refine zr_goto (tgt := 17) C dX8_holdsFor_114 (by decide) ?_
      exact zr_sub [2, 3, 4, 5, 1, 0] rfl (hrec17 m98 ((l0, l1, l2, l3, 0, (l5 + 1))))
    · refine zr_iconst (v := 1) C dX8_holdsFor_104 rfl ?_
      refine zr_goto (tgt := 109) C dX8_holdsFor_105 (by decide) ?_
      refine zr_istore (i := 4) (L1 := [(4, .int _), (0, .ref _), (1, .ref _), (2, .int _), (3, .int _), (5, .int _)]) C dX8_holdsFor_109 (by decide) rfl ?_
      refine zr_iinc (kk := 5) (v := (l5 + 1)) (L1 := [(5, .int _), (4, .int _), (0, .ref _), (1, .ref _), (2, .int _), (3, .int _)]) C dX8_holdsFor_111 rfl rfl (by decide) rfl ?_
      refine zr_goto (tgt := 17) C dX8_holdsFor_114 (by decide) ?_
      exact zr_sub [2, 3, 4, 5, 1, 0] rfl (hrec17 m98 ((l0, l1, l2, l3, 1, (l5 + 1))))
def f_X8_holdsFor_131 (F : Nat) (σ : zMem) (l0 : Nat) (s0 : Int32) : Option (Int32 × zMem) := zg (decide (l0 < 40)) (if s0 = (σ.1 13 l0 5) then (some (0, σ)) else (some (1, σ)))
set_option maxHeartbeats 4000000 in
set_option maxRecDepth 100000 in
theorem c_X8_holdsFor_131 (F : Nat) {E : zEn} {h : Nat} {Z : zLay} (C : zCx E cX8_holdsFor RX8 6 (some .boolean) Z h) (hh : 2 ≤ h) (σ : zMem) (l0 : Nat) (s0 : Int32) : zKO E 6 Z (zMQ E Z (zQI Z)) 131 [(0, .ref (zad Z 13 l0))] [.int s0] σ (f_X8_holdsFor_131 F σ l0 s0) := by
  unfold f_X8_holdsFor_131
  refine zr_g (fun hl0 => ?_)
  refine zr_aload_n C dX8_holdsFor_131 rfl ?_
  refine zf_X8_53 C (of_decide_eq_true hl0) dX8_holdsFor_132 ?_
  refine zr_icmp_eq (tgt := 142) C dX8_holdsFor_135 (by decide) ?_ ?_
  · refine zr_iconst (v := 0) C dX8_holdsFor_142 rfl ?_
    exact zr_zret C dX8_holdsFor_143 rfl
  · refine zr_iconst (v := 1) C dX8_holdsFor_138 rfl ?_
    refine zr_goto (tgt := 143) C dX8_holdsFor_139 (by decide) ?_
    exact zr_zret C dX8_holdsFor_143 rfl
def f_X8_holdsFor_117 (F : Nat) (σ : zMem) (l0 : Nat) (l3 : Int32) (l4 : Int32) : Option (Int32 × zMem) := zg (decide (l0 < 40)) (if l3 = 0 then (if l4 = 0 then (f_X8_holdsFor_131 F σ l0 0) else (f_X8_holdsFor_131 F σ l0 1)) else (f_X8_holdsFor_131 F σ l0 1))
set_option maxHeartbeats 4000000 in
set_option maxRecDepth 100000 in
theorem c_X8_holdsFor_117 (F : Nat) {E : zEn} {h : Nat} {Z : zLay} (C : zCx E cX8_holdsFor RX8 6 (some .boolean) Z h) (hh : 2 ≤ h) (σ : zMem) (l0 : Nat) (l3 : Int32) (l4 : Int32) : zKO E 6 Z (zMQ E Z (zQI Z)) 117 [(0, .ref (zad Z 13 l0)), (3, .int l3), (4, .int l4)] [] σ (f_X8_holdsFor_117 F σ l0 l3 l4) := by
  unfold f_X8_holdsFor_117
  refine zr_g (fun hl0 => ?_)
  refine zr_iload_n C dX8_holdsFor_117 rfl ?_
  refine zr_if_ne (tgt := 126) C dX8_holdsFor_118 (by decide) ?_ ?_
  · refine zr_iconst (v := 1) C dX8_holdsFor_126 rfl ?_
    refine zr_goto (tgt := 131) C dX8_holdsFor_127 (by decide) ?_
    exact zr_sub [0] rfl (c_X8_holdsFor_131 F C hh σ l0 1)
  · refine zr_iload C dX8_holdsFor_121 rfl ?_
    refine zr_if_eq (tgt := 130) C dX8_holdsFor_123 (by decide) ?_ ?_
    · refine zr_iconst (v := 0) C dX8_holdsFor_130 rfl ?_
      exact zr_sub [0] rfl (c_X8_holdsFor_131 F C hh σ l0 0)
    · refine zr_iconst (v := 1) C dX8_holdsFor_126 rfl ?_
      refine zr_goto (tgt := 131) C dX8_holdsFor_127 (by decide) ?_
      exact zr_sub [0] rfl (c_X8_holdsFor_131 F C hh σ l0 1)
def f_X8_holdsFor_17 (F : Nat) (rec17 : zMem → Nat × Nat × Int32 × Int32 × Int32 × Int32 → Option (Int32 × zMem)) (σ : zMem) (x : Nat × Nat × Int32 × Int32 × Int32 × Int32) : Option (Int32 × zMem) := zg (decide (x.1 < 40)) (zg (decide (x.2.1 < 10)) (if (σ.1 13 x.1 6) ≤ x.2.2.2.2.2 then (f_X8_holdsFor_117 F σ x.1 x.2.2.2.1 x.2.2.2.2.1) else (if 4 ≤ x.2.2.2.2.2 then (f_X8_holdsFor_117 F σ x.1 x.2.2.2.1 x.2.2.2.2.1) else (zg (inb x.2.2.2.2.2 4) (if (σ.1 18 x.1 x.2.2.2.2.2.toNatClampNeg) = 0 then (f_X8_holdsFor_60 F rec17 σ x.1 x.2.1 x.2.2.1 x.2.2.2.1 x.2.2.2.2.1 x.2.2.2.2.2) else (if x.2.2.2.1 = 0 then (if x.2.2.2.2.1 = 0 then (f_X8_holdsFor_60 F rec17 σ x.1 x.2.1 x.2.2.1 0 1 x.2.2.2.2.2) else (f_X8_holdsFor_60 F rec17 σ x.1 x.2.1 x.2.2.1 1 1 x.2.2.2.2.2)) else (f_X8_holdsFor_60 F rec17 σ x.1 x.2.1 x.2.2.1 1 1 x.2.2.2.2.2)))))))
set_option maxHeartbeats 4000000 in
set_option maxRecDepth 100000 in
theorem c_X8_holdsFor_17 (F : Nat) {E : zEn} {h : Nat} {Z : zLay} (C : zCx E cX8_holdsFor RX8 6 (some .boolean) Z h) (hh : 2 ≤ h) : ∀ (n : Nat) (σ : zMem) (x : Nat × Nat × Int32 × Int32 × Int32 × Int32), zKO E 6 Z (zMQ E Z (zQI Z)) 17 [(0, .ref (zad Z 13 x.1)), (1, .ref (zad Z 2 x.2.1)), (2, .int x.2.2.1), (3, .int x.2.2.2.1), (4, .int x.2.2.2.2.1), (5, .int x.2.2.2.2.2)] [] σ (zit (f_X8_holdsFor_17 F) n σ x) := by
  refine zr_loop (LL := fun (x : Nat × Nat × Int32 × Int32 × Int32 × Int32) => [(0, .ref (zad Z 13 x.1)), (1, .ref (zad Z 2 x.2.1)), (2, .int x.2.2.1), (3, .int x.2.2.2.1), (4, .int x.2.2.2.2.1), (5, .int x.2.2.2.2.2)]) (ST := fun (x : Nat × Nat × Int32 × Int32 × Int32 × Int32) => []) (fun rec17 hrec17 σ x => ?_)
  obtain ⟨l0, l1, l2, l3, l4, l5⟩ := x
  show zKO E 6 Z (zMQ E Z (zQI Z)) 17 [(0, .ref (zad Z 13 l0)), (1, .ref (zad Z 2 l1)), (2, .int l2), (3, .int l3), (4, .int l4), (5, .int l5)] [] σ (zg (decide (l0 < 40)) (zg (decide (l1 < 10)) (if (σ.1 13 l0 6) ≤ l5 then (f_X8_holdsFor_117 F σ l0 l3 l4) else (if 4 ≤ l5 then (f_X8_holdsFor_117 F σ l0 l3 l4) else (zg (inb l5 4) (if (σ.1 18 l0 l5.toNatClampNeg) = 0 then (f_X8_holdsFor_60 F rec17 σ l0 l1 l2 l3 l4 l5) else (if l3 = 0 then (if l4 = 0 then (f_X8_holdsFor_60 F rec17 σ l0 l1 l2 0 1 l5) else (f_X8_holdsFor_60 F rec17 σ l0 l1 l2 1 1 l5)) else (f_X8_holdsFor_60 F rec17 σ l0 l1 l2 1 1 l5))))))))
  refine zr_g (fun hl0 => ?_)
  refine zr_g (fun hl1 => ?_)
  refine zr_iload C dX8_holdsFor_17 rfl ?_
  refine zr_aload_n C dX8_holdsFor_19 rfl ?_
  refine zf_X8_42 C (of_decide_eq_true hl0) dX8_holdsFor_20 ?_
  refine zr_icmp_ge (tgt := 117) C dX8_holdsFor_23 (by decide) ?_ ?_
  · exact zr_sub [0, 3, 4] rfl (c_X8_holdsFor_117 F C hh σ l0 l3 l4)
  · refine zr_iload C dX8_holdsFor_26 rfl ?_
    refine zr_iconst (v := 4) C dX8_holdsFor_28 rfl ?_
    refine zr_icmp_ge (tgt := 117) C dX8_holdsFor_29 (by decide) ?_ ?_
    · exact zr_sub [0, 3, 4] rfl (c_X8_holdsFor_117 F C hh σ l0 l3 l4)
    · refine zr_aload_n C dX8_holdsFor_32 rfl ?_
      refine zf_X8_25 C (of_decide_eq_true hl0) dX8_holdsFor_33 ?_
      refine zr_iload C dX8_holdsFor_36 rfl ?_
      refine zr_zald (n := 4) C dX8_holdsFor_38 (of_decide_eq_true hl0) rfl ?_
      refine zr_if_eq (tgt := 60) C dX8_holdsFor_39 (by decide) ?_ ?_
      · exact zr_sub [0, 1, 2, 3, 4, 5] rfl (c_X8_holdsFor_60 F rec17 C hh hrec17 σ l0 l1 l2 l3 l4 l5)
      · refine zr_iload_n C dX8_holdsFor_42 rfl ?_
        refine zr_if_ne (tgt := 51) C dX8_holdsFor_43 (by decide) ?_ ?_
        · refine zr_iconst (v := 1) C dX8_holdsFor_51 rfl ?_
          refine zr_goto (tgt := 56) C dX8_holdsFor_52 (by decide) ?_
          refine zr_istore_n (i := 3) (L1 := [(3, .int _), (0, .ref _), (1, .ref _), (2, .int _), (4, .int _), (5, .int _)]) C dX8_holdsFor_56 rfl (by decide) rfl ?_
          refine zr_iconst (v := 1) C dX8_holdsFor_57 rfl ?_
          refine zr_istore (i := 4) (L1 := [(4, .int _), (3, .int _), (0, .ref _), (1, .ref _), (2, .int _), (5, .int _)]) C dX8_holdsFor_58 (by decide) rfl ?_
          exact zr_sub [2, 3, 4, 1, 0, 5] rfl (c_X8_holdsFor_60 F rec17 C hh hrec17 σ l0 l1 l2 1 1 l5)
        · refine zr_iload C dX8_holdsFor_46 rfl ?_
          refine zr_if_eq (tgt := 55) C dX8_holdsFor_48 (by decide) ?_ ?_
          · refine zr_iconst (v := 0) C dX8_holdsFor_55 rfl ?_
            refine zr_istore_n (i := 3) (L1 := [(3, .int _), (0, .ref _), (1, .ref _), (2, .int _), (4, .int _), (5, .int _)]) C dX8_holdsFor_56 rfl (by decide) rfl ?_
            refine zr_iconst (v := 1) C dX8_holdsFor_57 rfl ?_
            refine zr_istore (i := 4) (L1 := [(4, .int _), (3, .int _), (0, .ref _), (1, .ref _), (2, .int _), (5, .int _)]) C dX8_holdsFor_58 (by decide) rfl ?_
            exact zr_sub [2, 3, 4, 1, 0, 5] rfl (c_X8_holdsFor_60 F rec17 C hh hrec17 σ l0 l1 l2 0 1 l5)
          · refine zr_iconst (v := 1) C dX8_holdsFor_51 rfl ?_
            refine zr_goto (tgt := 56) C dX8_holdsFor_52 (by decide) ?_
            refine zr_istore_n (i := 3) (L1 := [(3, .int _), (0, .ref _), (1, .ref _), (2, .int _), (4, .int _), (5, .int _)]) C dX8_holdsFor_56 rfl (by decide) rfl ?_
            refine zr_iconst (v := 1) C dX8_holdsFor_57 rfl ?_
            refine zr_istore (i := 4) (L1 := [(4, .int _), (3, .int _), (0, .ref _), (1, .ref _), (2, .int _), (5, .int _)]) C dX8_holdsFor_58 (by decide) rfl ?_
            exact zr_sub [2, 3, 4, 1, 0, 5] rfl (c_X8_holdsFor_60 F rec17 C hh hrec17 σ l0 l1 l2 1 1 l5)
def f_X8_holdsFor (F : Nat) (σ : zMem) (t0 : Nat) (a1 : Nat) (a2 : Int32) : Option (Int32 × zMem) := zg (decide (t0 < 40)) (zg (decide (a1 < 10)) (if (σ.1 13 t0 6) = 0 then (some (1, σ)) else (zit (f_X8_holdsFor_17 F) F σ ((t0, a1, a2, 0, 1, 0)))))
set_option maxHeartbeats 4000000 in
set_option maxRecDepth 100000 in
theorem c_X8_holdsFor (l : Launch) (Z : zLay) (F : Nat) (σ : zMem) (t0 : Nat) (a1 : Nat) (a2 : Int32) (r : Int32) (σ1 : zMem) (ho : f_X8_holdsFor F σ t0 a1 a2 = some (r, σ1)) : zMet l yX8_holdsFor cX8_holdsFor 6 (some .boolean) 2 Z [.ref (zad Z 13 t0), .ref (zad Z 2 a1), .int (a2)] σ (zQI Z r σ1) := by
  refine zMet_of (Qc := zQI Z) (by decide) (Nat.le_of_ble_eq_true rfl) [(0, .ref (zad Z 13 t0)), (1, .ref (zad Z 2 a1)), (2, .int (a2))] rfl (fun E C => ?_) ho
  have hh : 2 ≤ 2 := Nat.le_refl _
  show zKO E 6 Z (zMQ E Z (zQI Z)) 0 [(0, .ref (zad Z 13 t0)), (1, .ref (zad Z 2 a1)), (2, .int (a2))] [] σ _
  unfold f_X8_holdsFor
  refine zr_g (fun ht0 => ?_)
  refine zr_g (fun ha1 => ?_)
  refine zr_aload_n C dX8_holdsFor_0 rfl ?_
  refine zf_X8_42 C (of_decide_eq_true ht0) dX8_holdsFor_1 ?_
  refine zr_if_ne (tgt := 9) C dX8_holdsFor_4 (by decide) ?_ ?_
  · refine zr_iconst (v := 0) C dX8_holdsFor_9 rfl ?_
    refine zr_istore_n (i := 3) (L1 := [(3, .int _), (0, .ref _), (1, .ref _), (2, .int _)]) C dX8_holdsFor_10 rfl (by decide) rfl ?_
    refine zr_iconst (v := 1) C dX8_holdsFor_11 rfl ?_
    refine zr_istore (i := 4) (L1 := [(4, .int _), (3, .int _), (0, .ref _), (1, .ref _), (2, .int _)]) C dX8_holdsFor_12 (by decide) rfl ?_
    refine zr_iconst (v := 0) C dX8_holdsFor_14 rfl ?_
    refine zr_istore (i := 5) (L1 := [(5, .int _), (4, .int _), (3, .int _), (0, .ref _), (1, .ref _), (2, .int _)]) C dX8_holdsFor_15 (by decide) rfl ?_
    exact zr_sub [3, 4, 5, 2, 1, 0] rfl (c_X8_holdsFor_17 F C hh F σ ((t0, a1, a2, 0, 1, 0)))
  · refine zr_iconst (v := 1) C dX8_holdsFor_7 rfl ?_
    exact zr_zret C dX8_holdsFor_8 rfl
theorem zk_X9_43 (C : zCx E cc RX9 nL ret Z h) (F : Nat) {i0 : Nat} {b0 : Nat} {b1 : Int32} (hk : i0 < zN 13) (hh : 2 + 1 ≤ h) (hst8 : (st.map fun v => v.category).sum ≤ 8) (hd : decode cc pc = .ok (.invokevirtual 43, 3)) {g : Int32 → zMem → Option (α × zMem)} (kk : ∀ (r : Int32) (σ1 : zMem), zKO E nL Z QQ (pc + 3) L (.int r :: st) σ1 (g r σ1)) : zKO E nL Z QQ pc L (.int b1 :: .ref (zad Z 2 b0) :: .ref (zad Z 13 i0) :: st) σ (zb (f_X8_holdsFor F σ i0 b0 b1) g) :=
  zr_callVNI (As := [.ref (zad Z 2 b0), .int b1]) (ia := 2) C (fun r σ1 ho => c_X8_holdsFor (zla E) Z F σ i0 b0 b1 r σ1 ho) wz_n667 hk rfl rfl wz_p26 wz_669 wz_670 wz_4 (by decide +kernel) rfl (by decide) hh hd hst8 kk
end ZM
