section ZM
variable {E : zEn} {cc : ByteArray} {own : String} {nL h : Nat} {ret : Option FieldType} {Z : zLay} {α : Type} {QQ : α → zMem → State → Prop} {pc : Nat} {L : List (Nat × Value)} {st : List Value} {σ : zMem} {o o1 o2 : Option (α × zMem)}
def f_X11_holdsOf (F : Nat) (σ : zMem) (a1 : Int32) (a2 : Int32) : Option (Int32 × zMem) := zg (zni 5) (zg (inb a1 6) (if (σ.1 94 0 a1.toNatClampNeg) = 0 then (some (((40 + (a2 / 5)) + 0), σ)) else (some (((40 + (a2 / 5)) + 30), σ))))
set_option maxHeartbeats 4000000 in
set_option maxRecDepth 100000 in
theorem c_X11_holdsOf (l : Launch) (Z : zLay) (F : Nat) (σ : zMem) (a1 : Int32) (a2 : Int32) (r : Int32) (σ1 : zMem) (ho : f_X11_holdsOf F σ a1 a2 = some (r, σ1)) : zMet l yX11_holdsOf cX11_holdsOf 3 (some .int) 1 Z [.ref (zad Z 60 0), .int (a1), .int (a2)] σ (zQI Z r σ1) := by
  refine zMet_of (Qc := zQI Z) (by decide) (Nat.le_of_ble_eq_true rfl) [(0, .ref (zad Z 60 0)), (1, .int (a1)), (2, .int (a2))] rfl (fun E C => ?_) ho
  have hh : 1 ≤ 1 := Nat.le_refl _
  show zKO E 3 Z (zMQ E Z (zQI Z)) 0 [(0, .ref (zad Z 60 0)), (1, .int (a1)), (2, .int (a2))] [] σ _
  unfold f_X11_holdsOf
  refine zr_bipush (v := 40) C dX11_holdsOf_0 rfl ?_
  refine zr_iload_n C dX11_holdsOf_2 rfl ?_
  refine zr_iconst (v := 5) C dX11_holdsOf_3 rfl ?_
  refine zr_idiv C dX11_holdsOf_4 ?_
  refine zr_iadd C dX11_holdsOf_5 ?_
  refine zr_aload_n C dX11_holdsOf_6 rfl ?_
  refine zf_X11_92 C (Nat.le_of_ble_eq_true rfl) dX11_holdsOf_7 ?_
  refine zr_iload_n C dX11_holdsOf_10 rfl ?_
  refine zr_zald (n := 6) C dX11_holdsOf_11 (Nat.le_of_ble_eq_true rfl) rfl ?_
  refine zr_if_eq (tgt := 20) C dX11_holdsOf_12 (by decide) ?_ ?_
  · refine zr_iconst (v := 0) C dX11_holdsOf_20 rfl ?_
    refine zr_iadd C dX11_holdsOf_21 ?_
    exact zr_iret C dX11_holdsOf_22
  · refine zr_bipush (v := 30) C dX11_holdsOf_15 rfl ?_
    refine zr_goto (tgt := 21) C dX11_holdsOf_17 (by decide) ?_
    refine zr_iadd C dX11_holdsOf_21 ?_
    exact zr_iret C dX11_holdsOf_22
theorem zk_X11_391 (C : zCx E cc RX11 nL ret Z h) (F : Nat) {b0 : Int32} {b1 : Int32} (hk : 0 < zN 60) (hh : 1 + 1 ≤ h) (hst8 : (st.map fun v => v.category).sum ≤ 8) (hd : decode cc pc = .ok (.invokevirtual 391, 3)) {g : Int32 → zMem → Option (α × zMem)} (kk : ∀ (r : Int32) (σ1 : zMem), zKO E nL Z QQ (pc + 3) L (.int r :: st) σ1 (g r σ1)) : zKO E nL Z QQ pc L (.int b1 :: .int b0 :: .ref (zad Z 60 0) :: st) σ (zb (f_X11_holdsOf F σ b0 b1) g) :=
  zr_callVI (As := [.int b0, .int b1]) (ia := 2) C (fun r σ1 ho => c_X11_holdsOf (zla E) Z F σ b0 b1 r σ1 ho) wz_1586 hk rfl rfl wz_p118 wz_1588 wz_1589 wz_12 (by decide +kernel) rfl (by decide) hh hd hst8 kk
def f_X11_over_7 (F : Nat) (rec7 : zMem → Int32 × Int32 × Int32 → Option (Int32 × zMem)) (σ : zMem) (x : Int32 × Int32 × Int32) : Option (Int32 × zMem) := zg (inb x.1 6) (if (σ.1 95 0 x.1.toNatClampNeg) ≤ x.2.2 then (some (x.2.1, σ)) else (zg (inb x.1 6) (zg (inb x.2.2 8) (rec7 σ ((x.1, (x.2.1 + (σ.1 97 x.1.toNatClampNeg x.2.2.toNatClampNeg)), (x.2.2 + 1)))))))
set_option maxHeartbeats 4000000 in
set_option maxRecDepth 100000 in
theorem c_X11_over_7 (F : Nat) {E : zEn} {h : Nat} {Z : zLay} (C : zCx E cX11_over RX11 5 (some .int) Z h) (hh : 1 ≤ h) : ∀ (n : Nat) (σ : zMem) (x : Int32 × Int32 × Int32), zKO E 5 Z (zMQ E Z (zQI Z)) 7 [(0, .ref (zad Z 60 0)), (1, .int x.1), (3, .int x.2.1), (4, .int x.2.2)] [] σ (zit (f_X11_over_7 F) n σ x) := by
  refine zr_loop (LL := fun (x : Int32 × Int32 × Int32) => [(0, .ref (zad Z 60 0)), (1, .int x.1), (3, .int x.2.1), (4, .int x.2.2)]) (ST := fun (x : Int32 × Int32 × Int32) => []) (fun rec7 hrec7 σ x => ?_)
  obtain ⟨l1, l3, l4⟩ := x
  show zKO E 5 Z (zMQ E Z (zQI Z)) 7 [(0, .ref (zad Z 60 0)), (1, .int l1), (3, .int l3), (4, .int l4)] [] σ (zg (inb l1 6) (if (σ.1 95 0 l1.toNatClampNeg) ≤ l4 then (some (l3, σ)) else (zg (inb l1 6) (zg (inb l4 8) (rec7 σ ((l1, (l3 + (σ.1 97 l1.toNatClampNeg l4.toNatClampNeg)), (l4 + 1))))))))
  refine zr_iload C dX11_over_7 rfl ?_
  refine zr_aload_n C dX11_over_9 rfl ?_
  refine zf_X11_96 C (Nat.le_of_ble_eq_true rfl) dX11_over_10 ?_
  refine zr_iload_n C dX11_over_13 rfl ?_
  refine zr_iald (n := 6) C dX11_over_14 (Nat.le_of_ble_eq_true rfl) rfl ?_
  refine zr_icmp_ge (tgt := 36) C dX11_over_15 (by decide) ?_ ?_
  · refine zr_iload_n C dX11_over_36 rfl ?_
    exact zr_iret C dX11_over_37
  · refine zr_iload_n C dX11_over_18 rfl ?_
    refine zr_aload_n C dX11_over_19 rfl ?_
    refine zf_X11_99 C (Nat.le_of_ble_eq_true rfl) dX11_over_20 ?_
    refine zr_iload_n C dX11_over_23 rfl ?_
    refine zr_aald (n := 6) (k1 := 97) C dX11_over_24 (Nat.le_of_ble_eq_true rfl) rfl rfl rfl (fun hb24 => ?_)
    refine zr_iload C dX11_over_25 rfl ?_
    refine zr_iald (n := 8) C dX11_over_27 hb24 rfl ?_
    refine zr_iadd C dX11_over_28 ?_
    refine zr_istore_n (i := 3) (L1 := [(3, .int _), (0, .ref _), (1, .int _), (4, .int _)]) C dX11_over_29 rfl (by decide) rfl ?_
    refine zr_iinc (kk := 3) (v := (l4 + 1)) (L1 := [(4, .int _), (3, .int _), (0, .ref _), (1, .int _)]) C dX11_over_30 rfl rfl (by decide) rfl ?_
    refine zr_goto (tgt := 7) C dX11_over_33 (by decide) ?_
    exact zr_sub [2, 3, 1, 0] rfl (hrec7 σ ((l1, (l3 + (σ.1 97 l1.toNatClampNeg l4.toNatClampNeg)), (l4 + 1))))
def f_X11_over (F : Nat) (σ : zMem) (a1 : Int32) (a2 : Int32) : Option (Int32 × zMem) := zit (f_X11_over_7 F) F σ ((a1, 0, (a2 + 1)))
set_option maxHeartbeats 4000000 in
set_option maxRecDepth 100000 in
theorem c_X11_over (l : Launch) (Z : zLay) (F : Nat) (σ : zMem) (a1 : Int32) (a2 : Int32) (r : Int32) (σ1 : zMem) (ho : f_X11_over F σ a1 a2 = some (r, σ1)) : zMet l yX11_over cX11_over 5 (some .int) 1 Z [.ref (zad Z 60 0), .int (a1), .int (a2)] σ (zQI Z r σ1) := by
  refine zMet_of (Qc := zQI Z) (by decide) (Nat.le_of_ble_eq_true rfl) [(0, .ref (zad Z 60 0)), (1, .int (a1)), (2, .int (a2))] rfl (fun E C => ?_) ho
  have hh : 1 ≤ 1 := Nat.le_refl _
  show zKO E 5 Z (zMQ E Z (zQI Z)) 0 [(0, .ref (zad Z 60 0)), (1, .int (a1)), (2, .int (a2))] [] σ _
  unfold f_X11_over
  refine zr_iconst (v := 0) C dX11_over_0 rfl ?_
  refine zr_istore_n (i := 3) (L1 := [(3, .int _), (0, .ref _), (1, .int _), (2, .int _)]) C dX11_over_1 rfl (by decide) rfl ?_
  refine zr_iload_n C dX11_over_2 rfl ?_
  refine zr_iconst (v := 1) C dX11_over_3 rfl ?_
  refine zr_iadd C dX11_over_4 ?_
  refine zr_istore (i := 4) (L1 := [(4, .int _), (3, .int _), (0, .ref _), (1, .int _), (2, .int _)]) C dX11_over_5 (by decide) rfl ?_
  exact zr_sub [2, 3, 1, 0] rfl (c_X11_over_7 F C hh F σ ((a1, 0, (a2 + 1))))
theorem zk_X11_388 (C : zCx E cc RX11 nL ret Z h) (F : Nat) {b0 : Int32} {b1 : Int32} (hk : 0 < zN 60) (hh : 1 + 1 ≤ h) (hst8 : (st.map fun v => v.category).sum ≤ 8) (hd : decode cc pc = .ok (.invokevirtual 388, 3)) {g : Int32 → zMem → Option (α × zMem)} (kk : ∀ (r : Int32) (σ1 : zMem), zKO E nL Z QQ (pc + 3) L (.int r :: st) σ1 (g r σ1)) : zKO E nL Z QQ pc L (.int b1 :: .int b0 :: .ref (zad Z 60 0) :: st) σ (zb (f_X11_over F σ b0 b1) g) :=
  zr_callVI (As := [.int b0, .int b1]) (ia := 2) C (fun r σ1 ho => c_X11_over (zla E) Z F σ b0 b1 r σ1 ho) wz_1582 hk rfl rfl wz_p117 wz_1584 wz_1585 wz_12 (by decide +kernel) rfl (by decide) hh hd hst8 kk
def f_X11_lowestSoft_2 (F : Nat) (rec2 : zMem → Int32 × Int32 → Option (Int32 × zMem)) (σ : zMem) (x : Int32 × Int32) : Option (Int32 × zMem) := zg (inb x.1 6) (if (σ.1 95 0 x.1.toNatClampNeg) ≤ x.2 then (some ((-1), σ)) else (zg (inb x.1 6) (zg (inb x.2 8) (if (σ.1 99 x.1.toNatClampNeg x.2.toNatClampNeg) = 0 then (rec2 σ ((x.1, (x.2 + 1)))) else (some (x.2, σ))))))
set_option maxHeartbeats 4000000 in
set_option maxRecDepth 100000 in
theorem c_X11_lowestSoft_2 (F : Nat) {E : zEn} {h : Nat} {Z : zLay} (C : zCx E cX11_lowestSoft RX11 3 (some .int) Z h) (hh : 1 ≤ h) : ∀ (n : Nat) (σ : zMem) (x : Int32 × Int32), zKO E 3 Z (zMQ E Z (zQI Z)) 2 [(0, .ref (zad Z 60 0)), (1, .int x.1), (2, .int x.2)] [] σ (zit (f_X11_lowestSoft_2 F) n σ x) := by
  refine zr_loop (LL := fun (x : Int32 × Int32) => [(0, .ref (zad Z 60 0)), (1, .int x.1), (2, .int x.2)]) (ST := fun (x : Int32 × Int32) => []) (fun rec2 hrec2 σ x => ?_)
  obtain ⟨l1, l2⟩ := x
  show zKO E 3 Z (zMQ E Z (zQI Z)) 2 [(0, .ref (zad Z 60 0)), (1, .int l1), (2, .int l2)] [] σ (zg (inb l1 6) (if (σ.1 95 0 l1.toNatClampNeg) ≤ l2 then (some ((-1), σ)) else (zg (inb l1 6) (zg (inb l2 8) (if (σ.1 99 l1.toNatClampNeg l2.toNatClampNeg) = 0 then (rec2 σ ((l1, (l2 + 1)))) else (some (l2, σ)))))))
  refine zr_iload_n C dX11_lowestSoft_2 rfl ?_
  refine zr_aload_n C dX11_lowestSoft_3 rfl ?_
  refine zf_X11_96 C (Nat.le_of_ble_eq_true rfl) dX11_lowestSoft_4 ?_
  refine zr_iload_n C dX11_lowestSoft_7 rfl ?_
  refine zr_iald (n := 6) C dX11_lowestSoft_8 (Nat.le_of_ble_eq_true rfl) rfl ?_
  refine zr_icmp_ge (tgt := 31) C dX11_lowestSoft_9 (by decide) ?_ ?_
  · refine zr_iconst (v := -1) C dX11_lowestSoft_31 rfl ?_
    exact zr_iret C dX11_lowestSoft_32
  · refine zr_aload_n C dX11_lowestSoft_12 rfl ?_
    refine zf_X11_102 C (Nat.le_of_ble_eq_true rfl) dX11_lowestSoft_13 ?_
    refine zr_iload_n C dX11_lowestSoft_16 rfl ?_
    refine zr_aald (n := 6) (k1 := 99) C dX11_lowestSoft_17 (Nat.le_of_ble_eq_true rfl) rfl rfl rfl (fun hb17 => ?_)
    refine zr_iload_n C dX11_lowestSoft_18 rfl ?_
    refine zr_zald (n := 8) C dX11_lowestSoft_19 hb17 rfl ?_
    refine zr_if_eq (tgt := 25) C dX11_lowestSoft_20 (by decide) ?_ ?_
    · refine zr_iinc (kk := 2) (v := (l2 + 1)) (L1 := [(2, .int _), (0, .ref _), (1, .int _)]) C dX11_lowestSoft_25 rfl rfl (by decide) rfl ?_
      refine zr_goto (tgt := 2) C dX11_lowestSoft_28 (by decide) ?_
      exact zr_sub [1, 2, 0] rfl (hrec2 σ ((l1, (l2 + 1))))
    · refine zr_iload_n C dX11_lowestSoft_23 rfl ?_
      exact zr_iret C dX11_lowestSoft_24
def f_X11_lowestSoft (F : Nat) (σ : zMem) (a1 : Int32) : Option (Int32 × zMem) := zit (f_X11_lowestSoft_2 F) F σ ((a1, 0))
set_option maxHeartbeats 4000000 in
set_option maxRecDepth 100000 in
theorem c_X11_lowestSoft (l : Launch) (Z : zLay) (F : Nat) (σ : zMem) (a1 : Int32) (r : Int32) (σ1 : zMem) (ho : f_X11_lowestSoft F σ a1 = some (r, σ1)) : zMet l yX11_lowestSoft cX11_lowestSoft 3 (some .int) 1 Z [.ref (zad Z 60 0), .int (a1)] σ (zQI Z r σ1) := by
  refine zMet_of (Qc := zQI Z) (by decide) (Nat.le_of_ble_eq_true rfl) [(0, .ref (zad Z 60 0)), (1, .int (a1))] rfl (fun E C => ?_) ho
  have hh : 1 ≤ 1 := Nat.le_refl _
  show zKO E 3 Z (zMQ E Z (zQI Z)) 0 [(0, .ref (zad Z 60 0)), (1, .int (a1))] [] σ _
  unfold f_X11_lowestSoft
  refine zr_iconst (v := 0) C dX11_lowestSoft_0 rfl ?_
  refine zr_istore_n (i := 2) (L1 := [(2, .int _), (0, .ref _), (1, .int _)]) C dX11_lowestSoft_1 rfl (by decide) rfl ?_
  exact zr_sub [1, 2, 0] rfl (c_X11_lowestSoft_2 F C hh F σ ((a1, 0)))
theorem zk_X11_385 (C : zCx E cc RX11 nL ret Z h) (F : Nat) {b0 : Int32} (hk : 0 < zN 60) (hh : 1 + 1 ≤ h) (hst8 : (st.map fun v => v.category).sum ≤ 8) (hd : decode cc pc = .ok (.invokevirtual 385, 3)) {g : Int32 → zMem → Option (α × zMem)} (kk : ∀ (r : Int32) (σ1 : zMem), zKO E nL Z QQ (pc + 3) L (.int r :: st) σ1 (g r σ1)) : zKO E nL Z QQ pc L (.int b0 :: .ref (zad Z 60 0) :: st) σ (zb (f_X11_lowestSoft F σ b0) g) :=
  zr_callVI (As := [.int b0]) (ia := 1) C (fun r σ1 ho => c_X11_lowestSoft (zla E) Z F σ b0 r σ1 ho) wz_1578 hk rfl rfl wz_p116 wz_1580 wz_1581 wz_12 (by decide +kernel) rfl (by decide) hh hd hst8 kk
def f_X11_riskOf (F : Nat) (σ : zMem) (a1 : Int32) (a2 : Int32) : Option (Int32 × zMem) := zb (f_X11_lowestSoft F σ a1) fun r2 m2 => if 0 ≤ r2 then (zb (f_X11_over F m2 a1 r2) fun r17 m17 => zb (f_X11_holdsOf F m17 a1 a2) fun r26 m26 => zg (zni r26) (some (((r17 * 100) / r26), m26))) else (some (0, m2))
set_option maxHeartbeats 4000000 in
set_option maxRecDepth 100000 in
theorem c_X11_riskOf (l : Launch) (Z : zLay) (F : Nat) (σ : zMem) (a1 : Int32) (a2 : Int32) (r : Int32) (σ1 : zMem) (ho : f_X11_riskOf F σ a1 a2 = some (r, σ1)) : zMet l yX11_riskOf cX11_riskOf 4 (some .int) 2 Z [.ref (zad Z 60 0), .int (a1), .int (a2)] σ (zQI Z r σ1) := by
  refine zMet_of (Qc := zQI Z) (by decide) (Nat.le_of_ble_eq_true rfl) [(0, .ref (zad Z 60 0)), (1, .int (a1)), (2, .int (a2))] rfl (fun E C => ?_) ho
  have hh : 2 ≤ 2 := Nat.le_refl _
  show zKO E 4 Z (zMQ E Z (zQI Z)) 0 [(0, .ref (zad Z 60 0)), (1, .int (a1)), (2, .int (a2))] [] σ _
  unfold f_X11_riskOf
  refine zr_aload_n C dX11_riskOf_0 rfl ?_
  refine zr_iload_n C dX11_riskOf_1 rfl ?_
  refine zk_X11_385 C F (Nat.le_of_ble_eq_true rfl) (Nat.le_trans (by decide) hh) (by simp [Value.category]) dX11_riskOf_2 (fun r2 m2 => ?_)
  refine zr_istore_n (i := 3) (L1 := [(3, .int _), (0, .ref _), (1, .int _), (2, .int _)]) C dX11_riskOf_5 rfl (by decide) rfl ?_
  refine zr_iload_n C dX11_riskOf_6 rfl ?_
  refine zr_if_ge (tgt := 14) C dX11_riskOf_7 (by decide) ?_ ?_
  · refine zr_aload_n C dX11_riskOf_14 rfl ?_
    refine zr_iload_n C dX11_riskOf_15 rfl ?_
    refine zr_iload_n C dX11_riskOf_16 rfl ?_
    refine zk_X11_388 C F (Nat.le_of_ble_eq_true rfl) (Nat.le_trans (by decide) hh) (by simp [Value.category]) dX11_riskOf_17 (fun r17 m17 => ?_)
    refine zr_bipush (v := 100) C dX11_riskOf_20 rfl ?_
    refine zr_imul C dX11_riskOf_22 ?_
    refine zr_aload_n C dX11_riskOf_23 rfl ?_
    refine zr_iload_n C dX11_riskOf_24 rfl ?_
    refine zr_iload_n C dX11_riskOf_25 rfl ?_
    refine zk_X11_391 C F (Nat.le_of_ble_eq_true rfl) (Nat.le_trans (by decide) hh) (by simp [Value.category]) dX11_riskOf_26 (fun r26 m26 => ?_)
    refine zr_idiv C dX11_riskOf_29 ?_
    exact zr_iret C dX11_riskOf_30
  · refine zr_iconst (v := 0) C dX11_riskOf_10 rfl ?_
    refine zr_goto (tgt := 30) C dX11_riskOf_11 (by decide) ?_
    exact zr_iret C dX11_riskOf_30
theorem zk_X11_426 (C : zCx E cc RX11 nL ret Z h) (F : Nat) {b0 : Int32} {b1 : Int32} (hk : 0 < zN 60) (hh : 2 + 1 ≤ h) (hst8 : (st.map fun v => v.category).sum ≤ 8) (hd : decode cc pc = .ok (.invokevirtual 426, 3)) {g : Int32 → zMem → Option (α × zMem)} (kk : ∀ (r : Int32) (σ1 : zMem), zKO E nL Z QQ (pc + 3) L (.int r :: st) σ1 (g r σ1)) : zKO E nL Z QQ pc L (.int b1 :: .int b0 :: .ref (zad Z 60 0) :: st) σ (zb (f_X11_riskOf F σ b0 b1) g) :=
  zr_callVI (As := [.int b0, .int b1]) (ia := 2) C (fun r σ1 ho => c_X11_riskOf (zla E) Z F σ b0 b1 r σ1 ho) wz_1602 hk rfl rfl wz_p120 wz_1604 wz_1605 wz_12 (by decide +kernel) rfl (by decide) hh hd hst8 kk
def f_X11_slopeDay_214 (F : Nat) (σ : zMem) (s0 : Int32) (s1 : Int32) : Option (Int32 × zMem) := some (1, (zwi σ 60 0 41 ((s1 + s0))))
set_option maxHeartbeats 4000000 in
set_option maxRecDepth 100000 in
theorem c_X11_slopeDay_214 (F : Nat) {E : zEn} {h : Nat} {Z : zLay} (C : zCx E cX11_slopeDay RX11 5 (some .boolean) Z h) (hh : 2 ≤ h) (σ : zMem) (s0 : Int32) (s1 : Int32) : zKO E 5 Z (zMQ E Z (zQI Z)) 214 [] [.int s0, .int s1, .ref (zad Z 60 0)] σ (f_X11_slopeDay_214 F σ s0 s1) := by
  unfold f_X11_slopeDay_214
  refine zr_iadd C dX11_slopeDay_214 ?_
  refine zp_X11_401 C (Nat.le_of_ble_eq_true rfl) dX11_slopeDay_215 ?_
  refine zr_iconst (v := 1) C dX11_slopeDay_218 rfl ?_
  exact zr_zret C dX11_slopeDay_219 rfl
def f_X11_slopeDay_176 (F : Nat) (σ : zMem) (l1 : Int32) (s0 : Int32) (s1 : Int32) : Option (Int32 × zMem) := zg (inb s1 6) (zg (inb l1 6) (zg (inb l1 6) (if ((zwi (zwi (zwi σ 93 0 s1.toNatClampNeg s0) 100 0 l1.toNatClampNeg ((((zwi σ 93 0 s1.toNatClampNeg s0).1 100 0 l1.toNatClampNeg) + 1))) 60 0 40 ((((zwi (zwi σ 93 0 s1.toNatClampNeg s0) 100 0 l1.toNatClampNeg ((((zwi σ 93 0 s1.toNatClampNeg s0).1 100 0 l1.toNatClampNeg) + 1))).1 60 0 40) + 1))).1 60 0 39) = 0 then (f_X11_slopeDay_214 F (zwi (zwi (zwi σ 93 0 s1.toNatClampNeg s0) 100 0 l1.toNatClampNeg ((((zwi σ 93 0 s1.toNatClampNeg s0).1 100 0 l1.toNatClampNeg) + 1))) 60 0 40 ((((zwi (zwi σ 93 0 s1.toNatClampNeg s0) 100 0 l1.toNatClampNeg ((((zwi σ 93 0 s1.toNatClampNeg s0).1 100 0 l1.toNatClampNeg) + 1))).1 60 0 40) + 1))) 1 (((zwi (zwi (zwi σ 93 0 s1.toNatClampNeg s0) 100 0 l1.toNatClampNeg ((((zwi σ 93 0 s1.toNatClampNeg s0).1 100 0 l1.toNatClampNeg) + 1))) 60 0 40 ((((zwi (zwi σ 93 0 s1.toNatClampNeg s0) 100 0 l1.toNatClampNeg ((((zwi σ 93 0 s1.toNatClampNeg s0).1 100 0 l1.toNatClampNeg) + 1))).1 60 0 40) + 1))).1 60 0 41))) else (f_X11_slopeDay_214 F (zwi (zwi (zwi σ 93 0 s1.toNatClampNeg s0) 100 0 l1.toNatClampNeg ((((zwi σ 93 0 s1.toNatClampNeg s0).1 100 0 l1.toNatClampNeg) + 1))) 60 0 40 ((((zwi (zwi σ 93 0 s1.toNatClampNeg s0) 100 0 l1.toNatClampNeg ((((zwi σ 93 0 s1.toNatClampNeg s0).1 100 0 l1.toNatClampNeg) + 1))).1 60 0 40) + 1))) 0 (((zwi (zwi (zwi σ 93 0 s1.toNatClampNeg s0) 100 0 l1.toNatClampNeg ((((zwi σ 93 0 s1.toNatClampNeg s0).1 100 0 l1.toNatClampNeg) + 1))) 60 0 40 ((((zwi (zwi σ 93 0 s1.toNatClampNeg s0) 100 0 l1.toNatClampNeg ((((zwi σ 93 0 s1.toNatClampNeg s0).1 100 0 l1.toNatClampNeg) + 1))).1 60 0 40) + 1))).1 60 0 41))))))
set_option maxHeartbeats 4000000 in
set_option maxRecDepth 100000 in
theorem c_X11_slopeDay_176 (F : Nat) {E : zEn} {h : Nat} {Z : zLay} (C : zCx E cX11_slopeDay RX11 5 (some .boolean) Z h) (hh : 2 ≤ h) (σ : zMem) (l1 : Int32) (s0 : Int32) (s1 : Int32) : zKO E 5 Z (zMQ E Z (zQI Z)) 176 [(0, .ref (zad Z 60 0)), (1, .int l1)] [.int s0, .int s1, .ref (zad Z 93 0)] σ (f_X11_slopeDay_176 F σ l1 s0 s1) := by
  unfold f_X11_slopeDay_176
  refine zr_iast (n := 6) C dX11_slopeDay_176 (Nat.le_of_ble_eq_true rfl) (fun _ _ => rfl) ?_
  refine zr_aload_n C dX11_slopeDay_177 rfl ?_
  refine zf_X11_105 C (Nat.le_of_ble_eq_true rfl) dX11_slopeDay_178 ?_
  refine zr_iload_n C dX11_slopeDay_181 rfl ?_
  refine zr_dup2 C dX11_slopeDay_182 rfl rfl ?_
  refine zr_iald (n := 6) C dX11_slopeDay_183 (Nat.le_of_ble_eq_true rfl) rfl ?_
  refine zr_iconst (v := 1) C dX11_slopeDay_184 rfl ?_
  refine zr_iadd C dX11_slopeDay_185 ?_
  refine zr_iast (n := 6) C dX11_slopeDay_186 (Nat.le_of_ble_eq_true rfl) (fun _ _ => rfl) ?_
  refine zr_aload_n C dX11_slopeDay_187 rfl ?_
  refine zr_dup C dX11_slopeDay_188 rfl ?_
  refine zf_X11_398 C (Nat.le_of_ble_eq_true rfl) dX11_slopeDay_189 ?_
  refine zr_iconst (v := 1) C dX11_slopeDay_192 rfl ?_
  refine zr_iadd C dX11_slopeDay_193 ?_
  refine zp_X11_398 C (Nat.le_of_ble_eq_true rfl) dX11_slopeDay_194 ?_
  refine zr_aload_n C dX11_slopeDay_197 rfl ?_
  refine zr_dup C dX11_slopeDay_198 rfl ?_
  refine zf_X11_401 C (Nat.le_of_ble_eq_true rfl) dX11_slopeDay_199 ?_
  refine zr_aload_n C dX11_slopeDay_202 rfl ?_
  refine zf_X11_404 C (Nat.le_of_ble_eq_true rfl) dX11_slopeDay_203 ?_
  refine zr_if_eq (tgt := 213) C dX11_slopeDay_206 (by decide) ?_ ?_
  · refine zr_iconst (v := 1) C dX11_slopeDay_213 rfl ?_
    exact zr_sub [] rfl (c_X11_slopeDay_214 F C hh (zwi (zwi (zwi σ 93 0 s1.toNatClampNeg s0) 100 0 l1.toNatClampNeg ((((zwi σ 93 0 s1.toNatClampNeg s0).1 100 0 l1.toNatClampNeg) + 1))) 60 0 40 ((((zwi (zwi σ 93 0 s1.toNatClampNeg s0) 100 0 l1.toNatClampNeg ((((zwi σ 93 0 s1.toNatClampNeg s0).1 100 0 l1.toNatClampNeg) + 1))).1 60 0 40) + 1))) 1 (((zwi (zwi (zwi σ 93 0 s1.toNatClampNeg s0) 100 0 l1.toNatClampNeg ((((zwi σ 93 0 s1.toNatClampNeg s0).1 100 0 l1.toNatClampNeg) + 1))) 60 0 40 ((((zwi (zwi σ 93 0 s1.toNatClampNeg s0) 100 0 l1.toNatClampNeg ((((zwi σ 93 0 s1.toNatClampNeg s0).1 100 0 l1.toNatClampNeg) + 1))).1 60 0 40) + 1))).1 60 0 41)))
  · refine zr_iconst (v := 0) C dX11_slopeDay_209 rfl ?_
    refine zr_goto (tgt := 214) C dX11_slopeDay_210 (by decide) ?_
    exact zr_sub [] rfl (c_X11_slopeDay_214 F C hh (zwi (zwi (zwi σ 93 0 s1.toNatClampNeg s0) 100 0 l1.toNatClampNeg ((((zwi σ 93 0 s1.toNatClampNeg s0).1 100 0 l1.toNatClampNeg) + 1))) 60 0 40 ((((zwi (zwi σ 93 0 s1.toNatClampNeg s0) 100 0 l1.toNatClampNeg ((((zwi σ 93 0 s1.toNatClampNeg s0).1 100 0 l1.toNatClampNeg) + 1))).1 60 0 40) + 1))) 0 (((zwi (zwi (zwi σ 93 0 s1.toNatClampNeg s0) 100 0 l1.toNatClampNeg ((((zwi σ 93 0 s1.toNatClampNeg s0).1 100 0 l1.toNatClampNeg) + 1))) 60 0 40 ((((zwi (zwi σ 93 0 s1.toNatClampNeg s0) 100 0 l1.toNatClampNeg ((((zwi σ 93 0 s1.toNatClampNeg s0).1 100 0 l1.toNatClampNeg) + 1))).1 60 0 40) + 1))).1 60 0 41)))
def f_X11_slopeDay_107 (F : Nat) (σ : zMem) (l1 : Int32) : Option (Int32 × zMem) := zb (f_X11_lowestSoft F σ l1) fun r109 m109 => if r109 < 0 then (some (0, m109)) else (zb (f_X11_over F m109 l1 r109) fun r123 m123 => zg (inb l1 6) (zb (f_X11_holdsOf F m123 l1 ((m123.1 93 0 l1.toNatClampNeg))) fun r134 m134 => if r134 ≤ r123 then (zg (inb l1 6) (zg (inb l1 6) (if 40 ≤ ((zwi m134 95 0 l1.toNatClampNeg r109).1 93 0 l1.toNatClampNeg) then (zg (inb l1 6) (f_X11_slopeDay_176 F (zwi m134 95 0 l1.toNatClampNeg r109) l1 (((zwi m134 95 0 l1.toNatClampNeg r109).1 93 0 l1.toNatClampNeg)) l1)) else (f_X11_slopeDay_176 F (zwi m134 95 0 l1.toNatClampNeg r109) l1 0 l1)))) else (some (0, m134))))
set_option maxHeartbeats 4000000 in
set_option maxRecDepth 100000 in
theorem c_X11_slopeDay_107 (F : Nat) {E : zEn} {h : Nat} {Z : zLay} (C : zCx E cX11_slopeDay RX11 5 (some .boolean) Z h) (hh : 2 ≤ h) (σ : zMem) (l1 : Int32) : zKO E 5 Z (zMQ E Z (zQI Z)) 107 [(0, .ref (zad Z 60 0)), (1, .int l1)] [] σ (f_X11_slopeDay_107 F σ l1) := by
  unfold f_X11_slopeDay_107
  refine zr_aload_n C dX11_slopeDay_107 rfl ?_
  refine zr_iload_n C dX11_slopeDay_108 rfl ?_
  refine zk_X11_385 C F (Nat.le_of_ble_eq_true rfl) (Nat.le_trans (by decide) hh) (by simp [Value.category]) dX11_slopeDay_109 (fun r109 m109 => ?_)
  refine zr_istore (i := 4) (L1 := [(4, .int _), (0, .ref _), (1, .int _)]) C dX11_slopeDay_112 (by decide) rfl ?_
  refine zr_iload C dX11_slopeDay_114 rfl ?_
  refine zr_if_lt (tgt := 140) C dX11_slopeDay_116 (by decide) ?_ ?_
  · refine zr_iconst (v := 0) C dX11_slopeDay_140 rfl ?_
    exact zr_zret C dX11_slopeDay_141 rfl
  · refine zr_aload_n C dX11_slopeDay_119 rfl ?_
    refine zr_iload_n C dX11_slopeDay_120 rfl ?_
    refine zr_iload C dX11_slopeDay_121 rfl ?_
    refine zk_X11_388 C F (Nat.le_of_ble_eq_true rfl) (Nat.le_trans (by decide) hh) (by simp [Value.category]) dX11_slopeDay_123 (fun r123 m123 => ?_)
    refine zr_aload_n C dX11_slopeDay_126 rfl ?_
    refine zr_iload_n C dX11_slopeDay_127 rfl ?_
    refine zr_aload_n C dX11_slopeDay_128 rfl ?_
    refine zf_X11_89 C (Nat.le_of_ble_eq_true rfl) dX11_slopeDay_129 ?_
    refine zr_iload_n C dX11_slopeDay_132 rfl ?_
    refine zr_iald (n := 6) C dX11_slopeDay_133 (Nat.le_of_ble_eq_true rfl) rfl ?_
    refine zk_X11_391 C F (Nat.le_of_ble_eq_true rfl) (Nat.le_trans (by decide) hh) (by simp [Value.category]) dX11_slopeDay_134 (fun r134 m134 => ?_)
    refine zr_icmp_ge (tgt := 142) C dX11_slopeDay_137 (by decide) ?_ ?_
    · refine zr_aload_n C dX11_slopeDay_142 rfl ?_
      refine zf_X11_96 C (Nat.le_of_ble_eq_true rfl) dX11_slopeDay_143 ?_
      refine zr_iload_n C dX11_slopeDay_146 rfl ?_
      refine zr_iload C dX11_slopeDay_147 rfl ?_
      refine zr_iast (n := 6) C dX11_slopeDay_149 (Nat.le_of_ble_eq_true rfl) (fun _ _ => rfl) ?_
      refine zr_aload_n C dX11_slopeDay_150 rfl ?_
      refine zf_X11_89 C (Nat.le_of_ble_eq_true rfl) dX11_slopeDay_151 ?_
      refine zr_iload_n C dX11_slopeDay_154 rfl ?_
      refine zr_aload_n C dX11_slopeDay_155 rfl ?_
      refine zf_X11_89 C (Nat.le_of_ble_eq_true rfl) dX11_slopeDay_156 ?_
      refine zr_iload_n C dX11_slopeDay_159 rfl ?_
      refine zr_iald (n := 6) C dX11_slopeDay_160 (Nat.le_of_ble_eq_true rfl) rfl ?_
      refine zr_bipush (v := 40) C dX11_slopeDay_161 rfl ?_
      refine zr_icmp_ge (tgt := 170) C dX11_slopeDay_163 (by decide) ?_ ?_
      · refine zr_aload_n C dX11_slopeDay_170 rfl ?_
        refine zf_X11_89 C (Nat.le_of_ble_eq_true rfl) dX11_slopeDay_171 ?_
        refine zr_iload_n C dX11_slopeDay_174 rfl ?_
        refine zr_iald (n := 6) C dX11_slopeDay_175 (Nat.le_of_ble_eq_true rfl) rfl ?_
        exact zr_sub [1, 2] rfl (c_X11_slopeDay_176 F C hh (zwi m134 95 0 l1.toNatClampNeg r109) l1 (((zwi m134 95 0 l1.toNatClampNeg r109).1 93 0 l1.toNatClampNeg)) l1)
      · refine zr_iconst (v := 0) C dX11_slopeDay_166 rfl ?_
        refine zr_goto (tgt := 176) C dX11_slopeDay_167 (by decide) ?_
        exact zr_sub [1, 2] rfl (c_X11_slopeDay_176 F C hh (zwi m134 95 0 l1.toNatClampNeg r109) l1 0 l1)
    · refine zr_iconst (v := 0) C dX11_slopeDay_140 rfl ?_
      exact zr_zret C dX11_slopeDay_141 rfl
def f_X11_slopeDay_46 (F : Nat) (σ : zMem) (l1 : Int32) (l2 : Int32) : Option (Int32 × zMem) := if l2 ≤ 2 then (f_X11_slopeDay_107 F σ l1) else (zg (inb l1 6) (if (σ.1 95 0 l1.toNatClampNeg) ≤ 0 then (f_X11_slopeDay_107 F σ l1) else (zg (inb l1 6) (zg (inb l1 6) (zg (inb (((σ.1 95 0 l1.toNatClampNeg) - 1)) 8) (zg (inb (((σ.1 95 0 l1.toNatClampNeg) - 1)) 8) (zg (inb l1 6) (zg (inb (((σ.1 95 0 l1.toNatClampNeg) - 1)) 8) (if 0 < ((zwi σ 97 l1.toNatClampNeg (((σ.1 95 0 l1.toNatClampNeg) - 1)).toNatClampNeg (((σ.1 97 l1.toNatClampNeg (((σ.1 95 0 l1.toNatClampNeg) - 1)).toNatClampNeg) - (3 * l2)))).1 97 l1.toNatClampNeg (((σ.1 95 0 l1.toNatClampNeg) - 1)).toNatClampNeg) then (f_X11_slopeDay_107 F (zwi σ 97 l1.toNatClampNeg (((σ.1 95 0 l1.toNatClampNeg) - 1)).toNatClampNeg (((σ.1 97 l1.toNatClampNeg (((σ.1 95 0 l1.toNatClampNeg) - 1)).toNatClampNeg) - (3 * l2)))) l1) else (zg (inb l1 6) (zg (inb l1 6) (f_X11_slopeDay_107 F (zwi (zwi σ 97 l1.toNatClampNeg (((σ.1 95 0 l1.toNatClampNeg) - 1)).toNatClampNeg (((σ.1 97 l1.toNatClampNeg (((σ.1 95 0 l1.toNatClampNeg) - 1)).toNatClampNeg) - (3 * l2)))) 95 0 l1.toNatClampNeg ((((zwi σ 97 l1.toNatClampNeg (((σ.1 95 0 l1.toNatClampNeg) - 1)).toNatClampNeg (((σ.1 97 l1.toNatClampNeg (((σ.1 95 0 l1.toNatClampNeg) - 1)).toNatClampNeg) - (3 * l2)))).1 95 0 l1.toNatClampNeg) - 1))) l1))))))))))))
set_option maxHeartbeats 4000000 in
set_option maxRecDepth 100000 in
theorem c_X11_slopeDay_46 (F : Nat) {E : zEn} {h : Nat} {Z : zLay} (C : zCx E cX11_slopeDay RX11 5 (some .boolean) Z h) (hh : 2 ≤ h) (σ : zMem) (l1 : Int32) (l2 : Int32) : zKO E 5 Z (zMQ E Z (zQI Z)) 46 [(0, .ref (zad Z 60 0)), (1, .int l1), (2, .int l2)] [] σ (f_X11_slopeDay_46 F σ l1 l2) := by
  unfold f_X11_slopeDay_46
  refine zr_iload_n C dX11_slopeDay_46 rfl ?_
  refine zr_iconst (v := 2) C dX11_slopeDay_47 rfl ?_
  refine zr_icmp_le (tgt := 107) C dX11_slopeDay_48 (by decide) ?_ ?_
  · exact zr_sub [0, 1] rfl (c_X11_slopeDay_107 F C hh σ l1)
  · refine zr_aload_n C dX11_slopeDay_51 rfl ?_
    refine zf_X11_96 C (Nat.le_of_ble_eq_true rfl) dX11_slopeDay_52 ?_
    refine zr_iload_n C dX11_slopeDay_55 rfl ?_
    refine zr_iald (n := 6) C dX11_slopeDay_56 (Nat.le_of_ble_eq_true rfl) rfl ?_
    refine zr_if_le (tgt := 107) C dX11_slopeDay_57 (by decide) ?_ ?_
    · exact zr_sub [0, 1] rfl (c_X11_slopeDay_107 F C hh σ l1)
    · refine zr_aload_n C dX11_slopeDay_60 rfl ?_
      refine zf_X11_96 C (Nat.le_of_ble_eq_true rfl) dX11_slopeDay_61 ?_
      refine zr_iload_n C dX11_slopeDay_64 rfl ?_
      refine zr_iald (n := 6) C dX11_slopeDay_65 (Nat.le_of_ble_eq_true rfl) rfl ?_
      refine zr_iconst (v := 1) C dX11_slopeDay_66 rfl ?_
      refine zr_isub C dX11_slopeDay_67 ?_
      refine zr_istore (i := 4) (L1 := [(4, .int _), (0, .ref _), (1, .int _), (2, .int _)]) C dX11_slopeDay_68 (by decide) rfl ?_
      refine zr_aload_n C dX11_slopeDay_70 rfl ?_
      refine zf_X11_99 C (Nat.le_of_ble_eq_true rfl) dX11_slopeDay_71 ?_
      refine zr_iload_n C dX11_slopeDay_74 rfl ?_
      refine zr_aald (n := 6) (k1 := 97) C dX11_slopeDay_75 (Nat.le_of_ble_eq_true rfl) rfl rfl rfl (fun hb75 => ?_)
      refine zr_iload C dX11_slopeDay_76 rfl ?_
      refine zr_dup2 C dX11_slopeDay_78 rfl rfl ?_
      refine zr_iald (n := 8) C dX11_slopeDay_79 hb75 rfl ?_
      refine zr_iconst (v := 3) C dX11_slopeDay_80 rfl ?_
      refine zr_iload_n C dX11_slopeDay_81 rfl ?_
      refine zr_imul C dX11_slopeDay_82 ?_
      refine zr_isub C dX11_slopeDay_83 ?_
      refine zr_iast (n := 8) C dX11_slopeDay_84 hb75 (fun _ _ => rfl) ?_
      refine zr_aload_n C dX11_slopeDay_85 rfl ?_
      refine zf_X11_99 C (Nat.le_of_ble_eq_true rfl) dX11_slopeDay_86 ?_
      refine zr_iload_n C dX11_slopeDay_89 rfl ?_
      refine zr_aald (n := 6) (k1 := 97) C dX11_slopeDay_90 (Nat.le_of_ble_eq_true rfl) rfl rfl rfl (fun hb90 => ?_)
      refine zr_iload C dX11_slopeDay_91 rfl ?_
      refine zr_iald (n := 8) C dX11_slopeDay_93 hb90 rfl ?_
      refine zr_if_gt (tgt := 107) C dX11_slopeDay_94 (by decide) ?_ ?_
      · exact zr_sub [1, 2] rfl (c_X11_slopeDay_107 F C hh (zwi σ 97 l1.toNatClampNeg (((σ.1 95 0 l1.toNatClampNeg) - 1)).toNatClampNeg (((σ.1 97 l1.toNatClampNeg (((σ.1 95 0 l1.toNatClampNeg) - 1)).toNatClampNeg) - (3 * l2)))) l1)
      · refine zr_aload_n C dX11_slopeDay_97 rfl ?_
        refine zf_X11_96 C (Nat.le_of_ble_eq_true rfl) dX11_slopeDay_98 ?_
        refine zr_iload_n C dX11_slopeDay_101 rfl ?_
        refine zr_dup2 C dX11_slopeDay_102 rfl rfl ?_
        refine zr_iald (n := 6) C dX11_slopeDay_103 (Nat.le_of_ble_eq_true rfl) rfl ?_
        refine zr_iconst (v := 1) C dX11_slopeDay_104 rfl ?_
        refine zr_isub C dX11_slopeDay_105 ?_
        refine zr_iast (n := 6) C dX11_slopeDay_106 (Nat.le_of_ble_eq_true rfl) (fun _ _ => rfl) ?_
        exact zr_sub [1, 2] rfl (c_X11_slopeDay_107 F C hh (zwi (zwi σ 97 l1.toNatClampNeg (((σ.1 95 0 l1.toNatClampNeg) - 1)).toNatClampNeg (((σ.1 97 l1.toNatClampNeg (((σ.1 95 0 l1.toNatClampNeg) - 1)).toNatClampNeg) - (3 * l2)))) 95 0 l1.toNatClampNeg ((((zwi σ 97 l1.toNatClampNeg (((σ.1 95 0 l1.toNatClampNeg) - 1)).toNatClampNeg (((σ.1 97 l1.toNatClampNeg (((σ.1 95 0 l1.toNatClampNeg) - 1)).toNatClampNeg) - (3 * l2)))).1 95 0 l1.toNatClampNeg) - 1))) l1)
def f_X11_slopeDay_43 (F : Nat) (σ : zMem) (l1 : Int32) (l2 : Int32) (s0 : Int32) (s1 : Int32) (s2 : Int32) : Option (Int32 × zMem) := zb (f_X11_newLayer F σ s2 s1 s0) fun r43 m43 => f_X11_slopeDay_46 F m43 l1 l2
set_option maxHeartbeats 4000000 in
set_option maxRecDepth 100000 in
theorem c_X11_slopeDay_43 (F : Nat) {E : zEn} {h : Nat} {Z : zLay} (C : zCx E cX11_slopeDay RX11 5 (some .boolean) Z h) (hh : 2 ≤ h) (σ : zMem) (l1 : Int32) (l2 : Int32) (s0 : Int32) (s1 : Int32) (s2 : Int32) : zKO E 5 Z (zMQ E Z (zQI Z)) 43 [(0, .ref (zad Z 60 0)), (1, .int l1), (2, .int l2)] [.int s0, .int s1, .int s2, .ref (zad Z 60 0)] σ (f_X11_slopeDay_43 F σ l1 l2 s0 s1 s2) := by
  unfold f_X11_slopeDay_43
  refine zk_X11_394 C F (Nat.le_of_ble_eq_true rfl) (Nat.le_trans (by decide) hh) (by simp [Value.category]) dX11_slopeDay_43 (fun r43 m43 => ?_)
  exact zr_sub [0, 1, 2] rfl (c_X11_slopeDay_46 F C hh m43 l1 l2)
def f_X11_slopeDay (F : Nat) (σ : zMem) (a1 : Int32) : Option (Int32 × zMem) := zb (f_X11_skyAt F σ ((σ.1 60 0 0)) 0) fun r6 m6 => zb (f_X11_skyAt F m6 ((m6.1 60 0 0)) 1) fun r16 m16 => if r16 ≤ 0 then (f_X11_slopeDay_46 F m16 a1 r6) else (if 2 < r6 then (f_X11_slopeDay_46 F m16 a1 r6) else (if r6 ≤ (-5) then (f_X11_slopeDay_43 F m16 a1 r6 0 r16 a1) else (f_X11_slopeDay_43 F m16 a1 r6 1 r16 a1)))
set_option maxHeartbeats 4000000 in
set_option maxRecDepth 100000 in
theorem c_X11_slopeDay (l : Launch) (Z : zLay) (F : Nat) (σ : zMem) (a1 : Int32) (r : Int32) (σ1 : zMem) (ho : f_X11_slopeDay F σ a1 = some (r, σ1)) : zMet l yX11_slopeDay cX11_slopeDay 5 (some .boolean) 2 Z [.ref (zad Z 60 0), .int (a1)] σ (zQI Z r σ1) := by
  refine zMet_of (Qc := zQI Z) (by decide) (Nat.le_of_ble_eq_true rfl) [(0, .ref (zad Z 60 0)), (1, .int (a1))] rfl (fun E C => ?_) ho
  have hh : 2 ≤ 2 := Nat.le_refl _
  show zKO E 5 Z (zMQ E Z (zQI Z)) 0 [(0, .ref (zad Z 60 0)), (1, .int (a1))] [] σ _
  unfold f_X11_slopeDay
  refine zr_aload_n C dX11_slopeDay_0 rfl ?_
  refine zr_aload_n C dX11_slopeDay_1 rfl ?_
  refine zf_X11_193 C (Nat.le_of_ble_eq_true rfl) dX11_slopeDay_2 ?_
  refine zr_iconst (v := 0) C dX11_slopeDay_5 rfl ?_
  refine zk_X11_357 C F (Nat.le_of_ble_eq_true rfl) (Nat.le_trans (by decide) hh) (by simp [Value.category]) dX11_slopeDay_6 (fun r6 m6 => ?_)
  refine zr_istore_n (i := 2) (L1 := [(2, .int _), (0, .ref _), (1, .int _)]) C dX11_slopeDay_9 rfl (by decide) rfl ?_
  refine zr_aload_n C dX11_slopeDay_10 rfl ?_
  refine zr_aload_n C dX11_slopeDay_11 rfl ?_
  refine zf_X11_193 C (Nat.le_of_ble_eq_true rfl) dX11_slopeDay_12 ?_
  refine zr_iconst (v := 1) C dX11_slopeDay_15 rfl ?_
  refine zk_X11_357 C F (Nat.le_of_ble_eq_true rfl) (Nat.le_trans (by decide) hh) (by simp [Value.category]) dX11_slopeDay_16 (fun r16 m16 => ?_)
  refine zr_istore_n (i := 3) (L1 := [(3, .int _), (2, .int _), (0, .ref _), (1, .int _)]) C dX11_slopeDay_19 rfl (by decide) rfl ?_
  refine zr_iload_n C dX11_slopeDay_20 rfl ?_
  refine zr_if_le (tgt := 46) C dX11_slopeDay_21 (by decide) ?_ ?_
  · exact zr_sub [2, 3, 1] rfl (c_X11_slopeDay_46 F C hh m16 a1 r6)
  · refine zr_iload_n C dX11_slopeDay_24 rfl ?_
    refine zr_iconst (v := 2) C dX11_slopeDay_25 rfl ?_
    refine zr_icmp_gt (tgt := 46) C dX11_slopeDay_26 (by decide) ?_ ?_
    · exact zr_sub [2, 3, 1] rfl (c_X11_slopeDay_46 F C hh m16 a1 r6)
    · refine zr_aload_n C dX11_slopeDay_29 rfl ?_
      refine zr_iload_n C dX11_slopeDay_30 rfl ?_
      refine zr_iload_n C dX11_slopeDay_31 rfl ?_
      refine zr_iload_n C dX11_slopeDay_32 rfl ?_
      refine zr_bipush (v := -5) C dX11_slopeDay_33 rfl ?_
      refine zr_icmp_le (tgt := 42) C dX11_slopeDay_35 (by decide) ?_ ?_
      · refine zr_iconst (v := 0) C dX11_slopeDay_42 rfl ?_
        exact zr_sub [2, 3, 1] rfl (c_X11_slopeDay_43 F C hh m16 a1 r6 0 r16 a1)
      · refine zr_iconst (v := 1) C dX11_slopeDay_38 rfl ?_
        refine zr_goto (tgt := 43) C dX11_slopeDay_39 (by decide) ?_
        exact zr_sub [2, 3, 1] rfl (c_X11_slopeDay_43 F C hh m16 a1 r6 1 r16 a1)
theorem zk_X11_414 (C : zCx E cc RX11 nL ret Z h) (F : Nat) {b0 : Int32} (hk : 0 < zN 60) (hh : 2 + 1 ≤ h) (hst8 : (st.map fun v => v.category).sum ≤ 8) (hd : decode cc pc = .ok (.invokevirtual 414, 3)) {g : Int32 → zMem → Option (α × zMem)} (kk : ∀ (r : Int32) (σ1 : zMem), zKO E nL Z QQ (pc + 3) L (.int r :: st) σ1 (g r σ1)) : zKO E nL Z QQ pc L (.int b0 :: .ref (zad Z 60 0) :: st) σ (zb (f_X11_slopeDay F σ b0) g) :=
  zr_callVI (As := [.int b0]) (ia := 1) C (fun r σ1 ho => c_X11_slopeDay (zla E) Z F σ b0 r σ1 ho) wz_1570 hk rfl rfl wz_p114 wz_1572 wz_1573 wz_12 (by decide +kernel) rfl (by decide) hh hd hst8 kk
def f_X11_oneDay_106 (F : Nat) (σ : zMem) : Option (Unit × zMem) := some ((), (zwi σ 60 0 0 (((σ.1 60 0 0) + 1))))
set_option maxHeartbeats 4000000 in
set_option maxRecDepth 100000 in
theorem c_X11_oneDay_106 (F : Nat) {E : zEn} {h : Nat} {Z : zLay} (C : zCx E cX11_oneDay RX11 3 none Z h) (hh : 8 ≤ h) (σ : zMem) : zKO E 3 Z (zMQ E Z (zQV Z)) 106 [(0, .ref (zad Z 60 0))] [] σ (f_X11_oneDay_106 F σ) := by
  unfold f_X11_oneDay_106
  refine zr_aload_n C dX11_oneDay_106 rfl ?_
  refine zr_dup C dX11_oneDay_107 rfl ?_
  refine zf_X11_193 C (Nat.le_of_ble_eq_true rfl) dX11_oneDay_108 ?_
  refine zr_iconst (v := 1) C dX11_oneDay_111 rfl ?_
  refine zr_iadd C dX11_oneDay_112 ?_
  refine zp_X11_193 C (Nat.le_of_ble_eq_true rfl) dX11_oneDay_113 ?_
  exact zr_vret C dX11_oneDay_116
def f_X11_oneDay_61 (F : Nat) (rec61 : zMem → Int32 → Option (Unit × zMem)) (σ : zMem) (x : Int32) : Option (Unit × zMem) := if (σ.1 60 0 32) ≤ x then (f_X11_oneDay_106 F σ) else (zg (zni 360) (if (zrem ((σ.1 60 0 0)) 360) = 0 then (zg (inb x 6) (zg (inb x 6) (rec61 (zwi σ 93 0 x.toNatClampNeg ((zmin 400 (((σ.1 93 0 x.toNatClampNeg) + 1))))) ((x + 1))))) else (f_X11_oneDay_106 F σ)))
set_option maxHeartbeats 4000000 in
set_option maxRecDepth 100000 in
theorem c_X11_oneDay_61 (F : Nat) {E : zEn} {h : Nat} {Z : zLay} (C : zCx E cX11_oneDay RX11 3 none Z h) (hh : 8 ≤ h) : ∀ (n : Nat) (σ : zMem) (x : Int32), zKO E 3 Z (zMQ E Z (zQV Z)) 61 [(0, .ref (zad Z 60 0)), (2, .int x)] [] σ (zit (f_X11_oneDay_61 F) n σ x) := by
  refine zr_loop (LL := fun (x : Int32) => [(0, .ref (zad Z 60 0)), (2, .int x)]) (ST := fun (x : Int32) => []) (fun rec61 hrec61 σ x => ?_)
  obtain ⟨l2, h9⟩ : ∃ y, y = x := ⟨x, rfl⟩
  subst h9
  show zKO E 3 Z (zMQ E Z (zQV Z)) 61 [(0, .ref (zad Z 60 0)), (2, .int l2)] [] σ (if (σ.1 60 0 32) ≤ l2 then (f_X11_oneDay_106 F σ) else (zg (zni 360) (if (zrem ((σ.1 60 0 0)) 360) = 0 then (zg (inb l2 6) (zg (inb l2 6) (rec61 (zwi σ 93 0 l2.toNatClampNeg ((zmin 400 (((σ.1 93 0 l2.toNatClampNeg) + 1))))) ((l2 + 1))))) else (f_X11_oneDay_106 F σ))))
  refine zr_iload_n C dX11_oneDay_61 rfl ?_
  refine zr_aload_n C dX11_oneDay_62 rfl ?_
  refine zf_X11_173 C (Nat.le_of_ble_eq_true rfl) dX11_oneDay_63 ?_
  refine zr_icmp_ge (tgt := 106) C dX11_oneDay_66 (by decide) ?_ ?_
  · exact zr_sub [0] rfl (c_X11_oneDay_106 F C hh σ)
  · refine zr_aload_n C dX11_oneDay_69 rfl ?_
    refine zf_X11_193 C (Nat.le_of_ble_eq_true rfl) dX11_oneDay_70 ?_
    refine zr_sipush (v := 360) C dX11_oneDay_73 rfl ?_
    refine zr_irem C dX11_oneDay_76 ?_
    refine zr_if_ne (tgt := 106) C dX11_oneDay_77 (by decide) ?_ ?_
    · exact zr_sub [0] rfl (c_X11_oneDay_106 F C hh σ)
    · refine zr_aload_n C dX11_oneDay_80 rfl ?_
      refine zf_X11_89 C (Nat.le_of_ble_eq_true rfl) dX11_oneDay_81 ?_
      refine zr_iload_n C dX11_oneDay_84 rfl ?_
      refine zr_sipush (v := 400) C dX11_oneDay_85 rfl ?_
      refine zr_aload_n C dX11_oneDay_88 rfl ?_
      refine zf_X11_89 C (Nat.le_of_ble_eq_true rfl) dX11_oneDay_89 ?_
      refine zr_iload_n C dX11_oneDay_92 rfl ?_
      refine zr_iald (n := 6) C dX11_oneDay_93 (Nat.le_of_ble_eq_true rfl) rfl ?_
      refine zr_iconst (v := 1) C dX11_oneDay_94 rfl ?_
      refine zr_iadd C dX11_oneDay_95 ?_
      refine zr_mmin C wz_1449 wz_796 wz_17 wz_797 (Nat.le_trans (by decide) hh) (by simp [Value.category]) dX11_oneDay_96 ?_
      refine zr_iast (n := 6) C dX11_oneDay_99 (Nat.le_of_ble_eq_true rfl) (fun _ _ => rfl) ?_
      refine zr_iinc (kk := 1) (v := (l2 + 1)) (L1 := [(2, .int _), (0, .ref _)]) C dX11_oneDay_100 rfl rfl (by decide) rfl ?_
      refine zr_goto (tgt := 61) C dX11_oneDay_103 (by decide) ?_
      exact zr_sub [1, 0] rfl (hrec61 (zwi σ 93 0 l2.toNatClampNeg ((zmin 400 (((σ.1 93 0 l2.toNatClampNeg) + 1))))) ((l2 + 1)))
def f_X11_oneDay_55 (F : Nat) (σ : zMem) (s0 : Int32) (s1 : Int32) : Option (Unit × zMem) := zit (f_X11_oneDay_61 F) F (zwi σ 60 0 42 ((s1 + s0))) 0
set_option maxHeartbeats 4000000 in
set_option maxRecDepth 100000 in
theorem c_X11_oneDay_55 (F : Nat) {E : zEn} {h : Nat} {Z : zLay} (C : zCx E cX11_oneDay RX11 3 none Z h) (hh : 8 ≤ h) (σ : zMem) (s0 : Int32) (s1 : Int32) : zKO E 3 Z (zMQ E Z (zQV Z)) 55 [(0, .ref (zad Z 60 0))] [.int s0, .int s1, .ref (zad Z 60 0)] σ (f_X11_oneDay_55 F σ s0 s1) := by
  unfold f_X11_oneDay_55
  refine zr_iadd C dX11_oneDay_55 ?_
  refine zp_X11_417 C (Nat.le_of_ble_eq_true rfl) dX11_oneDay_56 ?_
  refine zr_iconst (v := 0) C dX11_oneDay_59 rfl ?_
  refine zr_istore_n (i := 2) (L1 := [(2, .int _), (0, .ref _)]) C dX11_oneDay_60 rfl (by decide) rfl ?_
  exact zr_sub [1, 0] rfl (c_X11_oneDay_61 F C hh F (zwi σ 60 0 42 ((s1 + s0))) 0)
def f_X11_oneDay_12 (F : Nat) (rec12 : zMem → Int32 × Int32 → Option (Unit × zMem)) (σ : zMem) (x : Int32 × Int32) : Option (Unit × zMem) := if (σ.1 60 0 32) ≤ x.2 then (if (σ.1 60 0 39) = 0 then (f_X11_oneDay_55 F σ 0 ((σ.1 60 0 42))) else (if x.1 = 0 then (f_X11_oneDay_55 F σ 1 ((σ.1 60 0 42))) else (f_X11_oneDay_55 F σ 0 ((σ.1 60 0 42))))) else (zb (f_X11_slopeDay F σ x.2) fun r23 m23 => rec12 m23 (((x.1 ||| r23), (x.2 + 1))))
set_option maxHeartbeats 4000000 in
set_option maxRecDepth 100000 in
theorem c_X11_oneDay_12 (F : Nat) {E : zEn} {h : Nat} {Z : zLay} (C : zCx E cX11_oneDay RX11 3 none Z h) (hh : 8 ≤ h) : ∀ (n : Nat) (σ : zMem) (x : Int32 × Int32), zKO E 3 Z (zMQ E Z (zQV Z)) 12 [(0, .ref (zad Z 60 0)), (1, .int x.1), (2, .int x.2)] [] σ (zit (f_X11_oneDay_12 F) n σ x) := by
  refine zr_loop (LL := fun (x : Int32 × Int32) => [(0, .ref (zad Z 60 0)), (1, .int x.1), (2, .int x.2)]) (ST := fun (x : Int32 × Int32) => []) (fun rec12 hrec12 σ x => ?_)
  obtain ⟨l1, l2⟩ := x
  show zKO E 3 Z (zMQ E Z (zQV Z)) 12 [(0, .ref (zad Z 60 0)), (1, .int l1), (2, .int l2)] [] σ (if (σ.1 60 0 32) ≤ l2 then (if (σ.1 60 0 39) = 0 then (f_X11_oneDay_55 F σ 0 ((σ.1 60 0 42))) else (if l1 = 0 then (f_X11_oneDay_55 F σ 1 ((σ.1 60 0 42))) else (f_X11_oneDay_55 F σ 0 ((σ.1 60 0 42))))) else (zb (f_X11_slopeDay F σ l2) fun r23 m23 => rec12 m23 (((l1 ||| r23), (l2 + 1)))))
  refine zr_iload_n C dX11_oneDay_12 rfl ?_
  refine zr_aload_n C dX11_oneDay_13 rfl ?_
  refine zf_X11_173 C (Nat.le_of_ble_eq_true rfl) dX11_oneDay_14 ?_
  refine zr_icmp_ge (tgt := 34) C dX11_oneDay_17 (by decide) ?_ ?_
  · refine zr_aload_n C dX11_oneDay_34 rfl ?_
    refine zr_dup C dX11_oneDay_35 rfl ?_
    refine zf_X11_417 C (Nat.le_of_ble_eq_true rfl) dX11_oneDay_36 ?_
    refine zr_aload_n C dX11_oneDay_39 rfl ?_
    refine zf_X11_404 C (Nat.le_of_ble_eq_true rfl) dX11_oneDay_40 ?_
    refine zr_if_eq (tgt := 54) C dX11_oneDay_43 (by decide) ?_ ?_
    · refine zr_iconst (v := 0) C dX11_oneDay_54 rfl ?_
      exact zr_sub [0] rfl (c_X11_oneDay_55 F C hh σ 0 ((σ.1 60 0 42)))
    · refine zr_iload_n C dX11_oneDay_46 rfl ?_
      refine zr_if_ne (tgt := 54) C dX11_oneDay_47 (by decide) ?_ ?_
      · refine zr_iconst (v := 0) C dX11_oneDay_54 rfl ?_
        exact zr_sub [0] rfl (c_X11_oneDay_55 F C hh σ 0 ((σ.1 60 0 42)))
      · refine zr_iconst (v := 1) C dX11_oneDay_50 rfl ?_
        refine zr_goto (tgt := 55) C dX11_oneDay_51 (by decide) ?_
        exact zr_sub [0] rfl (c_X11_oneDay_55 F C hh σ 1 ((σ.1 60 0 42)))
  · refine zr_iload_n C dX11_oneDay_20 rfl ?_
    refine zr_aload_n C dX11_oneDay_21 rfl ?_
    refine zr_iload_n C dX11_oneDay_22 rfl ?_
    refine zk_X11_414 C F (Nat.le_of_ble_eq_true rfl) (Nat.le_trans (by decide) hh) (by simp [Value.category]) dX11_oneDay_23 (fun r23 m23 => ?_)
    refine zr_ior C dX11_oneDay_26 ?_
    refine zr_istore_n (i := 1) (L1 := [(1, .int _), (0, .ref _), (2, .int _)]) C dX11_oneDay_27 rfl (by decide) rfl ?_
    refine zr_iinc (kk := 2) (v := (l2 + 1)) (L1 := [(2, .int _), (1, .int _), (0, .ref _)]) C dX11_oneDay_28 rfl rfl (by decide) rfl ?_
    refine zr_goto (tgt := 12) C dX11_oneDay_31 (by decide) ?_
    exact zr_sub [2, 1, 0] rfl (hrec12 m23 (((l1 ||| r23), (l2 + 1))))
def f_X11_oneDay (F : Nat) (σ : zMem) : Option (Unit × zMem) := zb (f_X11_fields F σ) fun r1 m1 => zb (f_X11_stables F m1) fun r5 m5 => zit (f_X11_oneDay_12 F) F m5 ((0, 0))
set_option maxHeartbeats 4000000 in
set_option maxRecDepth 100000 in
theorem c_X11_oneDay (l : Launch) (Z : zLay) (F : Nat) (σ : zMem) (r : Unit) (σ1 : zMem) (ho : f_X11_oneDay F σ = some (r, σ1)) : zMet l yX11_oneDay cX11_oneDay 3 none 8 Z [.ref (zad Z 60 0)] σ (zQV Z r σ1) := by
  refine zMet_of (Qc := zQV Z) (by decide) (Nat.le_of_ble_eq_true rfl) [(0, .ref (zad Z 60 0))] rfl (fun E C => ?_) ho
  have hh : 8 ≤ 8 := Nat.le_refl _
  show zKO E 3 Z (zMQ E Z (zQV Z)) 0 [(0, .ref (zad Z 60 0))] [] σ _
  unfold f_X11_oneDay
  refine zr_aload_n C dX11_oneDay_0 rfl ?_
  refine zk_X11_408 C F (Nat.le_of_ble_eq_true rfl) (Nat.le_trans (by decide) hh) (by simp [Value.category]) dX11_oneDay_1 (fun r1 m1 => ?_)
  refine zr_aload_n C dX11_oneDay_4 rfl ?_
  refine zk_X11_411 C F (Nat.le_of_ble_eq_true rfl) (Nat.le_trans (by decide) hh) (by simp [Value.category]) dX11_oneDay_5 (fun r5 m5 => ?_)
  refine zr_iconst (v := 0) C dX11_oneDay_8 rfl ?_
  refine zr_istore_n (i := 1) (L1 := [(1, .int _), (0, .ref _)]) C dX11_oneDay_9 rfl (by decide) rfl ?_
  refine zr_iconst (v := 0) C dX11_oneDay_10 rfl ?_
  refine zr_istore_n (i := 2) (L1 := [(2, .int _), (1, .int _), (0, .ref _)]) C dX11_oneDay_11 rfl (by decide) rfl ?_
  exact zr_sub [2, 1, 0] rfl (c_X11_oneDay_12 F C hh F m5 ((0, 0)))
theorem zk_X11_420 (C : zCx E cc RX11 nL ret Z h) (F : Nat)  (hk : 0 < zN 60) (hh : 8 + 1 ≤ h) (hst8 : (st.map fun v => v.category).sum ≤ 8) (hd : decode cc pc = .ok (.invokevirtual 420, 3)) {g : Unit → zMem → Option (α × zMem)} (kk : ∀ (r : Unit) (σ1 : zMem), zKO E nL Z QQ (pc + 3) L (st) σ1 (g r σ1)) : zKO E nL Z QQ pc L (.ref (zad Z 60 0) :: st) σ (zb (f_X11_oneDay F σ) g) :=
  zr_callVU (As := []) (ia := 0) C (fun r σ1 ho => c_X11_oneDay (zla E) Z F σ r σ1 ho) wz_1543 hk rfl rfl wz_p108 wz_1545 wz_1546 wz_12 (by decide +kernel) rfl (by decide) hh hd hst8 kk
def f_X11_days_27 (F : Nat) (rec27 : zMem → Int32 × Int32 → Option (Int32 × zMem)) (σ : zMem) (x : Int32 × Int32) : Option (Int32 × zMem) := if x.1 ≤ x.2 then (some ((σ.1 60 0 0), σ)) else (zb (f_X11_oneDay F σ) fun r33 m33 => rec27 m33 ((x.1, (x.2 + 1))))
set_option maxHeartbeats 4000000 in
set_option maxRecDepth 100000 in
theorem c_X11_days_27 (F : Nat) {E : zEn} {h : Nat} {Z : zLay} (C : zCx E cX11_days RX11 3 (some .int) Z h) (hh : 9 ≤ h) : ∀ (n : Nat) (σ : zMem) (x : Int32 × Int32), zKO E 3 Z (zMQ E Z (zQI Z)) 27 [(0, .ref (zad Z 60 0)), (1, .int x.1), (2, .int x.2)] [] σ (zit (f_X11_days_27 F) n σ x) := by
  refine zr_loop (LL := fun (x : Int32 × Int32) => [(0, .ref (zad Z 60 0)), (1, .int x.1), (2, .int x.2)]) (ST := fun (x : Int32 × Int32) => []) (fun rec27 hrec27 σ x => ?_)
  obtain ⟨l1, l2⟩ := x
  show zKO E 3 Z (zMQ E Z (zQI Z)) 27 [(0, .ref (zad Z 60 0)), (1, .int l1), (2, .int l2)] [] σ (if l1 ≤ l2 then (some ((σ.1 60 0 0), σ)) else (zb (f_X11_oneDay F σ) fun r33 m33 => rec27 m33 ((l1, (l2 + 1)))))
  refine zr_iload_n C dX11_days_27 rfl ?_
  refine zr_iload_n C dX11_days_28 rfl ?_
  refine zr_icmp_ge (tgt := 42) C dX11_days_29 (by decide) ?_ ?_
  · refine zr_aload_n C dX11_days_42 rfl ?_
    refine zf_X11_193 C (Nat.le_of_ble_eq_true rfl) dX11_days_43 ?_
    exact zr_iret C dX11_days_46
  · refine zr_aload_n C dX11_days_32 rfl ?_
    refine zk_X11_420 C F (Nat.le_of_ble_eq_true rfl) (Nat.le_trans (by decide) hh) (by simp [Value.category]) dX11_days_33 (fun r33 m33 => ?_)
    refine zr_iinc (kk := 2) (v := (l2 + 1)) (L1 := [(2, .int _), (0, .ref _), (1, .int _)]) C dX11_days_36 rfl rfl (by decide) rfl ?_
    refine zr_goto (tgt := 27) C dX11_days_39 (by decide) ?_
    exact zr_sub [1, 2, 0] rfl (hrec27 m33 ((l1, (l2 + 1))))
def f_X11_days (F : Nat) (σ : zMem) (a1 : Int32) : Option (Int32 × zMem) := zb (f_X11_in F σ a1 1 120) fun r4 m4 => if r4 = 0 then (some ((-2), m4)) else (if ((m4.1 60 0 0) + a1) ≤ 7199 then (zit (f_X11_days_27 F) F m4 ((a1, 0))) else (some ((-2), m4)))
set_option maxHeartbeats 4000000 in
set_option maxRecDepth 100000 in
theorem c_X11_days (l : Launch) (Z : zLay) (F : Nat) (σ : zMem) (a1 : Int32) (r : Int32) (σ1 : zMem) (ho : f_X11_days F σ a1 = some (r, σ1)) : zMet l yX11_days cX11_days 3 (some .int) 9 Z [.ref (zad Z 60 0), .int (a1)] σ (zQI Z r σ1) := by
  refine zMet_of (Qc := zQI Z) (by decide) (Nat.le_of_ble_eq_true rfl) [(0, .ref (zad Z 60 0)), (1, .int (a1))] rfl (fun E C => ?_) ho
  have hh : 9 ≤ 9 := Nat.le_refl _
  show zKO E 3 Z (zMQ E Z (zQI Z)) 0 [(0, .ref (zad Z 60 0)), (1, .int (a1))] [] σ _
  unfold f_X11_days
  refine zr_iload_n C dX11_days_0 rfl ?_
  refine zr_iconst (v := 1) C dX11_days_1 rfl ?_
  refine zr_bipush (v := 120) C dX11_days_2 rfl ?_
  refine zk_X11_163 C F (Nat.le_trans (by decide) hh) (by simp [Value.category]) dX11_days_4 (fun r4 m4 => ?_)
  refine zr_if_eq (tgt := 22) C dX11_days_7 (by decide) ?_ ?_
  · refine zr_bipush (v := -2) C dX11_days_22 rfl ?_
    exact zr_iret C dX11_days_24
  · refine zr_aload_n C dX11_days_10 rfl ?_
    refine zf_X11_193 C (Nat.le_of_ble_eq_true rfl) dX11_days_11 ?_
    refine zr_iload_n C dX11_days_14 rfl ?_
    refine zr_iadd C dX11_days_15 ?_
    refine zr_sipush (v := 7199) C dX11_days_16 rfl ?_
    refine zr_icmp_le (tgt := 25) C dX11_days_19 (by decide) ?_ ?_
    · refine zr_iconst (v := 0) C dX11_days_25 rfl ?_
      refine zr_istore_n (i := 2) (L1 := [(2, .int _), (0, .ref _), (1, .int _)]) C dX11_days_26 rfl (by decide) rfl ?_
      exact zr_sub [1, 2, 0] rfl (c_X11_days_27 F C hh F m4 ((a1, 0)))
    · refine zr_bipush (v := -2) C dX11_days_22 rfl ?_
      exact zr_iret C dX11_days_24
def f_X11_slope (F : Nat) (σ : zMem) (a1 : Int32) : Option (Int32 × zMem) := zb (f_X11_in F σ a1 0 400) fun r5 m5 => if r5 = 0 then (some ((-2), m5)) else (if (m5.1 60 0 32) = 6 then (some ((-4), m5)) else (zg (inb ((m5.1 60 0 32)) 6) (some (((zwi m5 93 0 ((m5.1 60 0 32)).toNatClampNeg a1).1 60 0 32), (zwi (zwi m5 93 0 ((m5.1 60 0 32)).toNatClampNeg a1) 60 0 32 ((((zwi m5 93 0 ((m5.1 60 0 32)).toNatClampNeg a1).1 60 0 32) + 1)))))))
set_option maxHeartbeats 4000000 in
set_option maxRecDepth 100000 in
theorem c_X11_slope (l : Launch) (Z : zLay) (F : Nat) (σ : zMem) (a1 : Int32) (r : Int32) (σ1 : zMem) (ho : f_X11_slope F σ a1 = some (r, σ1)) : zMet l yX11_slope cX11_slope 2 (some .int) 2 Z [.ref (zad Z 60 0), .int (a1)] σ (zQI Z r σ1) := by
  refine zMet_of (Qc := zQI Z) (by decide) (Nat.le_of_ble_eq_true rfl) [(0, .ref (zad Z 60 0)), (1, .int (a1))] rfl (fun E C => ?_) ho
  have hh : 2 ≤ 2 := Nat.le_refl _
  show zKO E 2 Z (zMQ E Z (zQI Z)) 0 [(0, .ref (zad Z 60 0)), (1, .int (a1))] [] σ _
  unfold f_X11_slope
  refine zr_iload_n C dX11_slope_0 rfl ?_
  refine zr_iconst (v := 0) C dX11_slope_1 rfl ?_
  refine zr_sipush (v := 400) C dX11_slope_2 rfl ?_
  refine zk_X11_163 C F (Nat.le_trans (by decide) hh) (by simp [Value.category]) dX11_slope_5 (fun r5 m5 => ?_)
  refine zr_if_ne (tgt := 14) C dX11_slope_8 (by decide) ?_ ?_
  · refine zr_aload_n C dX11_slope_14 rfl ?_
    refine zf_X11_173 C (Nat.le_of_ble_eq_true rfl) dX11_slope_15 ?_
    refine zr_bipush (v := 6) C dX11_slope_18 rfl ?_
    refine zr_icmp_ne (tgt := 26) C dX11_slope_20 (by decide) ?_ ?_
    · refine zr_aload_n C dX11_slope_26 rfl ?_
      refine zf_X11_89 C (Nat.le_of_ble_eq_true rfl) dX11_slope_27 ?_
      refine zr_aload_n C dX11_slope_30 rfl ?_
      refine zf_X11_173 C (Nat.le_of_ble_eq_true rfl) dX11_slope_31 ?_
      refine zr_iload_n C dX11_slope_34 rfl ?_
      refine zr_iast (n := 6) C dX11_slope_35 (Nat.le_of_ble_eq_true rfl) (fun _ _ => rfl) ?_
      refine zr_aload_n C dX11_slope_36 rfl ?_
      refine zr_dup C dX11_slope_37 rfl ?_
      refine zf_X11_173 C (Nat.le_of_ble_eq_true rfl) dX11_slope_38 ?_
      refine zr_dup_x1 C dX11_slope_41 rfl rfl ?_
      refine zr_iconst (v := 1) C dX11_slope_42 rfl ?_
      refine zr_iadd C dX11_slope_43 ?_
      refine zp_X11_173 C (Nat.le_of_ble_eq_true rfl) dX11_slope_44 ?_
      exact zr_iret C dX11_slope_47
    · refine zr_bipush (v := -4) C dX11_slope_23 rfl ?_
      exact zr_iret C dX11_slope_25
  · refine zr_bipush (v := -2) C dX11_slope_11 rfl ?_
    exact zr_iret C dX11_slope_13
def f_X11_slopeOf (F : Nat) (σ : zMem) (a1 : Int32) (a2 : Int32) : Option (Int32 × zMem) := zb (f_X11_isSlope F σ a1) fun r2 m2 => if r2 = 0 then (some ((-500), m2)) else (if a2.toInt < 0 ∨ 6 < a2.toInt then (if a2 < 10 then (some ((-500), m2)) else (zg (inb a1 6) (if (a2 - 10) < (m2.1 95 0 a1.toNatClampNeg) then (zg (inb a1 6) (zg (inb ((a2 - 10)) 8) (if (m2.1 99 a1.toNatClampNeg ((a2 - 10)).toNatClampNeg) = 0 then (zg (inb a1 6) (zg (inb ((a2 - 10)) 8) (some ((m2.1 97 a1.toNatClampNeg ((a2 - 10)).toNatClampNeg), m2)))) else (zg (inb a1 6) (zg (inb ((a2 - 10)) 8) (some ((-((m2.1 97 a1.toNatClampNeg ((a2 - 10)).toNatClampNeg))), m2))))))) else (some ((-500), m2))))) else (if a2 = 0 then (zg (inb a1 6) (some ((m2.1 93 0 a1.toNatClampNeg), m2))) else (if a2 = 1 then (zg (inb a1 6) (if (m2.1 94 0 a1.toNatClampNeg) = 0 then (some (0, m2)) else (some (1, m2)))) else (if a2 = 2 then (zg (inb a1 6) (some ((m2.1 95 0 a1.toNatClampNeg), m2))) else (if a2 = 3 then (zb (f_X11_over F m2 a1 ((-1))) fun r88 m88 => some (r88, m88)) else (if a2 = 4 then (zg (inb a1 6) (zb (f_X11_riskOf F m2 a1 ((m2.1 93 0 a1.toNatClampNeg))) fun r100 m100 => some (r100, m100))) else (if a2 = 5 then (zg (inb a1 6) (zb (f_X11_holdsOf F m2 a1 ((m2.1 93 0 a1.toNatClampNeg))) fun r112 m112 => some (r112, m112))) else (if a2 = 6 then (zg (inb a1 6) (some ((m2.1 100 0 a1.toNatClampNeg), m2))) else none))))))))
set_option maxHeartbeats 4000000 in
set_option maxRecDepth 100000 in
theorem c_X11_slopeOf (l : Launch) (Z : zLay) (F : Nat) (σ : zMem) (a1 : Int32) (a2 : Int32) (r : Int32) (σ1 : zMem) (ho : f_X11_slopeOf F σ a1 a2 = some (r, σ1)) : zMet l yX11_slopeOf cX11_slopeOf 3 (some .int) 3 Z [.ref (zad Z 60 0), .int (a1), .int (a2)] σ (zQI Z r σ1) := by
  refine zMet_of (Qc := zQI Z) (by decide) (Nat.le_of_ble_eq_true rfl) [(0, .ref (zad Z 60 0)), (1, .int (a1)), (2, .int (a2))] rfl (fun E C => ?_) ho
  have hh : 3 ≤ 3 := Nat.le_refl _
  show zKO E 3 Z (zMQ E Z (zQI Z)) 0 [(0, .ref (zad Z 60 0)), (1, .int (a1)), (2, .int (a2))] [] σ _
  unfold f_X11_slopeOf
  refine zr_aload_n C dX11_slopeOf_0 rfl ?_
  refine zr_iload_n C dX11_slopeOf_1 rfl ?_
  refine zk_X11_423 C F (Nat.le_of_ble_eq_true rfl) (Nat.le_trans (by decide) hh) (by simp [Value.category]) dX11_slopeOf_2 (fun r2 m2 => ?_)
  refine zr_if_ne (tgt := 12) C dX11_slopeOf_5 (by decide) ?_ ?_
  · refine zr_iload_n C dX11_slopeOf_12 rfl ?_
    refine zr_if (fun hx => ?_) (fun _ => ?_)
    · refine zr_tabOut (tgt := 123) C dX11_slopeOf_13 hx (by decide) ?_
      refine zr_iload_n C dX11_slopeOf_123 rfl ?_
      refine zr_bipush (v := 10) C dX11_slopeOf_124 rfl ?_
      refine zr_icmp_lt (tgt := 142) C dX11_slopeOf_126 (by decide) ?_ ?_
      · refine zr_sipush (v := -500) C dX11_slopeOf_142 rfl ?_
        exact zr_iret C dX11_slopeOf_145
      · refine zr_iload_n C dX11_slopeOf_129 rfl ?_
        refine zr_bipush (v := 10) C dX11_slopeOf_130 rfl ?_
        refine zr_isub C dX11_slopeOf_132 ?_
        refine zr_aload_n C dX11_slopeOf_133 rfl ?_
        refine zf_X11_96 C (Nat.le_of_ble_eq_true rfl) dX11_slopeOf_134 ?_
        refine zr_iload_n C dX11_slopeOf_137 rfl ?_
        refine zr_iald (n := 6) C dX11_slopeOf_138 (Nat.le_of_ble_eq_true rfl) rfl ?_
        refine zr_icmp_lt (tgt := 146) C dX11_slopeOf_139 (by decide) ?_ ?_
        · refine zr_aload_n C dX11_slopeOf_146 rfl ?_
          refine zf_X11_102 C (Nat.le_of_ble_eq_true rfl) dX11_slopeOf_147 ?_
          refine zr_iload_n C dX11_slopeOf_150 rfl ?_
          refine zr_aald (n := 6) (k1 := 99) C dX11_slopeOf_151 (Nat.le_of_ble_eq_true rfl) rfl rfl rfl (fun hb151 => ?_)
          refine zr_iload_n C dX11_slopeOf_152 rfl ?_
          refine zr_bipush (v := 10) C dX11_slopeOf_153 rfl ?_
          refine zr_isub C dX11_slopeOf_155 ?_
          refine zr_zald (n := 8) C dX11_slopeOf_156 hb151 rfl ?_
          refine zr_if_eq (tgt := 175) C dX11_slopeOf_157 (by decide) ?_ ?_
          · refine zr_aload_n C dX11_slopeOf_175 rfl ?_
            refine zf_X11_99 C (Nat.le_of_ble_eq_true rfl) dX11_slopeOf_176 ?_
            refine zr_iload_n C dX11_slopeOf_179 rfl ?_
            refine zr_aald (n := 6) (k1 := 97) C dX11_slopeOf_180 (Nat.le_of_ble_eq_true rfl) rfl rfl rfl (fun hb180 => ?_)
            refine zr_iload_n C dX11_slopeOf_181 rfl ?_
            refine zr_bipush (v := 10) C dX11_slopeOf_182 rfl ?_
            refine zr_isub C dX11_slopeOf_184 ?_
            refine zr_iald (n := 8) C dX11_slopeOf_185 hb180 rfl ?_
            exact zr_iret C dX11_slopeOf_186
          · refine zr_aload_n C dX11_slopeOf_160 rfl ?_
            refine zf_X11_99 C (Nat.le_of_ble_eq_true rfl) dX11_slopeOf_161 ?_
            refine zr_iload_n C dX11_slopeOf_164 rfl ?_
            refine zr_aald (n := 6) (k1 := 97) C dX11_slopeOf_165 (Nat.le_of_ble_eq_true rfl) rfl rfl rfl (fun hb165 => ?_)
            refine zr_iload_n C dX11_slopeOf_166 rfl ?_
            refine zr_bipush (v := 10) C dX11_slopeOf_167 rfl ?_
            refine zr_isub C dX11_slopeOf_169 ?_
            refine zr_iald (n := 8) C dX11_slopeOf_170 hb165 rfl ?_
            refine zr_ineg C dX11_slopeOf_171 ?_
            refine zr_goto (tgt := 186) C dX11_slopeOf_172 (by decide) ?_
            exact zr_iret C dX11_slopeOf_186
        · refine zr_sipush (v := -500) C dX11_slopeOf_142 rfl ?_
          exact zr_iret C dX11_slopeOf_145
    · refine zr_if (fun hx => ?_) (fun _ => ?_)
      · refine zr_tabIn (tgt := 56) C dX11_slopeOf_13 (by rw [hx]; decide) (by rw [hx]; decide) (off := 43) (by rw [hx]; decide) (by decide) ?_
        refine zr_aload_n C dX11_slopeOf_56 rfl ?_
        refine zf_X11_89 C (Nat.le_of_ble_eq_true rfl) dX11_slopeOf_57 ?_
        refine zr_iload_n C dX11_slopeOf_60 rfl ?_
        refine zr_iald (n := 6) C dX11_slopeOf_61 (Nat.le_of_ble_eq_true rfl) rfl ?_
        exact zr_iret C dX11_slopeOf_62
      · refine zr_if (fun hx => ?_) (fun _ => ?_)
        · refine zr_tabIn (tgt := 63) C dX11_slopeOf_13 (by rw [hx]; decide) (by rw [hx]; decide) (off := 50) (by rw [hx]; decide) (by decide) ?_
          refine zr_aload_n C dX11_slopeOf_63 rfl ?_
          refine zf_X11_92 C (Nat.le_of_ble_eq_true rfl) dX11_slopeOf_64 ?_
          refine zr_iload_n C dX11_slopeOf_67 rfl ?_
          refine zr_zald (n := 6) C dX11_slopeOf_68 (Nat.le_of_ble_eq_true rfl) rfl ?_
          refine zr_if_eq (tgt := 76) C dX11_slopeOf_69 (by decide) ?_ ?_
          · refine zr_iconst (v := 0) C dX11_slopeOf_76 rfl ?_
            exact zr_iret C dX11_slopeOf_77
          · refine zr_iconst (v := 1) C dX11_slopeOf_72 rfl ?_
            refine zr_goto (tgt := 77) C dX11_slopeOf_73 (by decide) ?_
            exact zr_iret C dX11_slopeOf_77
        · refine zr_if (fun hx => ?_) (fun _ => ?_)
          · refine zr_tabIn (tgt := 78) C dX11_slopeOf_13 (by rw [hx]; decide) (by rw [hx]; decide) (off := 65) (by rw [hx]; decide) (by decide) ?_
            refine zr_aload_n C dX11_slopeOf_78 rfl ?_
            refine zf_X11_96 C (Nat.le_of_ble_eq_true rfl) dX11_slopeOf_79 ?_
            refine zr_iload_n C dX11_slopeOf_82 rfl ?_
            refine zr_iald (n := 6) C dX11_slopeOf_83 (Nat.le_of_ble_eq_true rfl) rfl ?_
            exact zr_iret C dX11_slopeOf_84
          · refine zr_if (fun hx => ?_) (fun _ => ?_)
            · refine zr_tabIn (tgt := 85) C dX11_slopeOf_13 (by rw [hx]; decide) (by rw [hx]; decide) (off := 72) (by rw [hx]; decide) (by decide) ?_
              refine zr_aload_n C dX11_slopeOf_85 rfl ?_
              refine zr_iload_n C dX11_slopeOf_86 rfl ?_
              refine zr_iconst (v := -1) C dX11_slopeOf_87 rfl ?_
              refine zk_X11_388 C F (Nat.le_of_ble_eq_true rfl) (Nat.le_trans (by decide) hh) (by simp [Value.category]) dX11_slopeOf_88 (fun r88 m88 => ?_)
              exact zr_iret C dX11_slopeOf_91
            · refine zr_if (fun hx => ?_) (fun _ => ?_)
              · refine zr_tabIn (tgt := 92) C dX11_slopeOf_13 (by rw [hx]; decide) (by rw [hx]; decide) (off := 79) (by rw [hx]; decide) (by decide) ?_
                refine zr_aload_n C dX11_slopeOf_92 rfl ?_
                refine zr_iload_n C dX11_slopeOf_93 rfl ?_
                refine zr_aload_n C dX11_slopeOf_94 rfl ?_
                refine zf_X11_89 C (Nat.le_of_ble_eq_true rfl) dX11_slopeOf_95 ?_
                refine zr_iload_n C dX11_slopeOf_98 rfl ?_
                refine zr_iald (n := 6) C dX11_slopeOf_99 (Nat.le_of_ble_eq_true rfl) rfl ?_
                refine zk_X11_426 C F (Nat.le_of_ble_eq_true rfl) (Nat.le_trans (by decide) hh) (by simp [Value.category]) dX11_slopeOf_100 (fun r100 m100 => ?_)
                exact zr_iret C dX11_slopeOf_103
              · refine zr_if (fun hx => ?_) (fun _ => ?_)
                · refine zr_tabIn (tgt := 104) C dX11_slopeOf_13 (by rw [hx]; decide) (by rw [hx]; decide) (off := 91) (by rw [hx]; decide) (by decide) ?_
                  refine zr_aload_n C dX11_slopeOf_104 rfl ?_
                  refine zr_iload_n C dX11_slopeOf_105 rfl ?_
                  refine zr_aload_n C dX11_slopeOf_106 rfl ?_
                  refine zf_X11_89 C (Nat.le_of_ble_eq_true rfl) dX11_slopeOf_107 ?_
                  refine zr_iload_n C dX11_slopeOf_110 rfl ?_
                  refine zr_iald (n := 6) C dX11_slopeOf_111 (Nat.le_of_ble_eq_true rfl) rfl ?_
                  refine zk_X11_391 C F (Nat.le_of_ble_eq_true rfl) (Nat.le_trans (by decide) hh) (by simp [Value.category]) dX11_slopeOf_112 (fun r112 m112 => ?_)
                  exact zr_iret C dX11_slopeOf_115
                · refine zr_if (fun hx => ?_) (fun _ => ?_)
                  · refine zr_tabIn (tgt := 116) C dX11_slopeOf_13 (by rw [hx]; decide) (by rw [hx]; decide) (off := 103) (by rw [hx]; decide) (by decide) ?_
                    refine zr_aload_n C dX11_slopeOf_116 rfl ?_
                    refine zf_X11_105 C (Nat.le_of_ble_eq_true rfl) dX11_slopeOf_117 ?_
                    refine zr_iload_n C dX11_slopeOf_120 rfl ?_
                    refine zr_iald (n := 6) C dX11_slopeOf_121 (Nat.le_of_ble_eq_true rfl) rfl ?_
                    exact zr_iret C dX11_slopeOf_122
                  · exact zr_none
  · refine zr_sipush (v := -500) C dX11_slopeOf_8 rfl ?_
    exact zr_iret C dX11_slopeOf_11
def f_X11_works (F : Nat) (σ : zMem) (a1 : Int32) (a2 : Int32) : Option (Int32 × zMem) := zb (f_X11_isSlope F σ a1) fun r2 m2 => if r2 = 0 then (some ((-1), m2)) else (zg (inb a1 6) (zg (zbo a2 && inb a1 6) (if (m2.1 94 0 a1.toNatClampNeg) = a2 then (some (0, (zwi m2 94 0 a1.toNatClampNeg a2))) else (some (1, (zwi m2 94 0 a1.toNatClampNeg a2))))))
set_option maxHeartbeats 4000000 in
set_option maxRecDepth 100000 in
theorem c_X11_works (l : Launch) (Z : zLay) (F : Nat) (σ : zMem) (a1 : Int32) (a2 : Int32) (r : Int32) (σ1 : zMem) (ho : f_X11_works F σ a1 a2 = some (r, σ1)) : zMet l yX11_works cX11_works 4 (some .int) 3 Z [.ref (zad Z 60 0), .int (a1), .int (a2)] σ (zQI Z r σ1) := by
  refine zMet_of (Qc := zQI Z) (by decide) (Nat.le_of_ble_eq_true rfl) [(0, .ref (zad Z 60 0)), (1, .int (a1)), (2, .int (a2))] rfl (fun E C => ?_) ho
  have hh : 3 ≤ 3 := Nat.le_refl _
  show zKO E 4 Z (zMQ E Z (zQI Z)) 0 [(0, .ref (zad Z 60 0)), (1, .int (a1)), (2, .int (a2))] [] σ _
  unfold f_X11_works
  refine zr_aload_n C dX11_works_0 rfl ?_
  refine zr_iload_n C dX11_works_1 rfl ?_
  refine zk_X11_423 C F (Nat.le_of_ble_eq_true rfl) (Nat.le_trans (by decide) hh) (by simp [Value.category]) dX11_works_2 (fun r2 m2 => ?_)
  refine zr_if_ne (tgt := 10) C dX11_works_5 (by decide) ?_ ?_
  · refine zr_aload_n C dX11_works_10 rfl ?_
    refine zf_X11_92 C (Nat.le_of_ble_eq_true rfl) dX11_works_11 ?_
    refine zr_iload_n C dX11_works_14 rfl ?_
    refine zr_zald (n := 6) C dX11_works_15 (Nat.le_of_ble_eq_true rfl) rfl ?_
    refine zr_istore_n (i := 3) (L1 := [(3, .int _), (0, .ref _), (1, .int _), (2, .int _)]) C dX11_works_16 rfl (by decide) rfl ?_
    refine zr_aload_n C dX11_works_17 rfl ?_
    refine zf_X11_92 C (Nat.le_of_ble_eq_true rfl) dX11_works_18 ?_
    refine zr_iload_n C dX11_works_21 rfl ?_
    refine zr_iload_n C dX11_works_22 rfl ?_
    refine zr_zast (n := 6) C dX11_works_23 (Nat.le_of_ble_eq_true rfl) (fun _ _ => rfl) ?_
    refine zr_iload_n C dX11_works_24 rfl ?_
    refine zr_iload_n C dX11_works_25 rfl ?_
    refine zr_icmp_eq (tgt := 33) C dX11_works_26 (by decide) ?_ ?_
    · refine zr_iconst (v := 0) C dX11_works_33 rfl ?_
      exact zr_iret C dX11_works_34
    · refine zr_iconst (v := 1) C dX11_works_29 rfl ?_
      refine zr_goto (tgt := 34) C dX11_works_30 (by decide) ?_
      exact zr_iret C dX11_works_34
  · refine zr_iconst (v := -1) C dX11_works_8 rfl ?_
    exact zr_iret C dX11_works_9
def f_X11_shut (F : Nat) (σ : zMem) (a1 : Int32) : Option (Int32 × zMem) := zg (zbo a1) (if (σ.1 60 0 39) = a1 then (some (0, (zwi σ 60 0 39 a1))) else (some (1, (zwi σ 60 0 39 a1))))
set_option maxHeartbeats 4000000 in
set_option maxRecDepth 100000 in
theorem c_X11_shut (l : Launch) (Z : zLay) (F : Nat) (σ : zMem) (a1 : Int32) (r : Int32) (σ1 : zMem) (ho : f_X11_shut F σ a1 = some (r, σ1)) : zMet l yX11_shut cX11_shut 3 (some .int) 1 Z [.ref (zad Z 60 0), .int (a1)] σ (zQI Z r σ1) := by
  refine zMet_of (Qc := zQI Z) (by decide) (Nat.le_of_ble_eq_true rfl) [(0, .ref (zad Z 60 0)), (1, .int (a1))] rfl (fun E C => ?_) ho
  have hh : 1 ≤ 1 := Nat.le_refl _
  show zKO E 3 Z (zMQ E Z (zQI Z)) 0 [(0, .ref (zad Z 60 0)), (1, .int (a1))] [] σ _
  unfold f_X11_shut
  refine zr_aload_n C dX11_shut_0 rfl ?_
  refine zf_X11_404 C (Nat.le_of_ble_eq_true rfl) dX11_shut_1 ?_
  refine zr_istore_n (i := 2) (L1 := [(2, .int _), (0, .ref _), (1, .int _)]) C dX11_shut_4 rfl (by decide) rfl ?_
  refine zr_aload_n C dX11_shut_5 rfl ?_
  refine zr_iload_n C dX11_shut_6 rfl ?_
  refine zp_X11_404 C (Nat.le_of_ble_eq_true rfl) dX11_shut_7 ?_
  refine zr_iload_n C dX11_shut_10 rfl ?_
  refine zr_iload_n C dX11_shut_11 rfl ?_
  refine zr_icmp_eq (tgt := 19) C dX11_shut_12 (by decide) ?_ ?_
  · refine zr_iconst (v := 0) C dX11_shut_19 rfl ?_
    exact zr_iret C dX11_shut_20
  · refine zr_iconst (v := 1) C dX11_shut_15 rfl ?_
    refine zr_goto (tgt := 20) C dX11_shut_16 (by decide) ?_
    exact zr_iret C dX11_shut_20
def f_X11_measure_33 (F : Nat) (rec33 : zMem → Int32 × Int32 → Option (Int32 × zMem)) (σ : zMem) (x : Int32 × Int32) : Option (Int32 × zMem) := if (σ.1 60 0 1) ≤ x.2 then (some (x.1, σ)) else (zg (inb x.2 10) (zg (inb x.2 10) (zg (inb x.2 10) (zg (inb x.2 10) (rec33 (zwi σ 65 0 x.2.toNatClampNeg (((σ.1 65 0 x.2.toNatClampNeg) + (σ.1 64 0 x.2.toNatClampNeg)))) (((x.1 + ((zwi σ 65 0 x.2.toNatClampNeg (((σ.1 65 0 x.2.toNatClampNeg) + (σ.1 64 0 x.2.toNatClampNeg)))).1 64 0 x.2.toNatClampNeg)), (x.2 + 1))))))))
set_option maxHeartbeats 4000000 in
set_option maxRecDepth 100000 in
theorem c_X11_measure_33 (F : Nat) {E : zEn} {h : Nat} {Z : zLay} (C : zCx E cX11_measure RX11 3 (some .int) Z h) (hh : 1 ≤ h) : ∀ (n : Nat) (σ : zMem) (x : Int32 × Int32), zKO E 3 Z (zMQ E Z (zQI Z)) 33 [(0, .ref (zad Z 60 0)), (1, .int x.1), (2, .int x.2)] [] σ (zit (f_X11_measure_33 F) n σ x) := by
  refine zr_loop (LL := fun (x : Int32 × Int32) => [(0, .ref (zad Z 60 0)), (1, .int x.1), (2, .int x.2)]) (ST := fun (x : Int32 × Int32) => []) (fun rec33 hrec33 σ x => ?_)
  obtain ⟨l1, l2⟩ := x
  show zKO E 3 Z (zMQ E Z (zQI Z)) 33 [(0, .ref (zad Z 60 0)), (1, .int l1), (2, .int l2)] [] σ (if (σ.1 60 0 1) ≤ l2 then (some (l1, σ)) else (zg (inb l2 10) (zg (inb l2 10) (zg (inb l2 10) (zg (inb l2 10) (rec33 (zwi σ 65 0 l2.toNatClampNeg (((σ.1 65 0 l2.toNatClampNeg) + (σ.1 64 0 l2.toNatClampNeg)))) (((l1 + ((zwi σ 65 0 l2.toNatClampNeg (((σ.1 65 0 l2.toNatClampNeg) + (σ.1 64 0 l2.toNatClampNeg)))).1 64 0 l2.toNatClampNeg)), (l2 + 1)))))))))
  refine zr_iload_n C dX11_measure_33 rfl ?_
  refine zr_aload_n C dX11_measure_34 rfl ?_
  refine zf_X11_160 C (Nat.le_of_ble_eq_true rfl) dX11_measure_35 ?_
  refine zr_icmp_ge (tgt := 71) C dX11_measure_38 (by decide) ?_ ?_
  · refine zr_iload_n C dX11_measure_71 rfl ?_
    exact zr_iret C dX11_measure_72
  · refine zr_aload_n C dX11_measure_41 rfl ?_
    refine zf_X11_21 C (Nat.le_of_ble_eq_true rfl) dX11_measure_42 ?_
    refine zr_iload_n C dX11_measure_45 rfl ?_
    refine zr_dup2 C dX11_measure_46 rfl rfl ?_
    refine zr_iald (n := 10) C dX11_measure_47 (Nat.le_of_ble_eq_true rfl) rfl ?_
    refine zr_aload_n C dX11_measure_48 rfl ?_
    refine zf_X11_18 C (Nat.le_of_ble_eq_true rfl) dX11_measure_49 ?_
    refine zr_iload_n C dX11_measure_52 rfl ?_
    refine zr_iald (n := 10) C dX11_measure_53 (Nat.le_of_ble_eq_true rfl) rfl ?_
    refine zr_iadd C dX11_measure_54 ?_
    refine zr_iast (n := 10) C dX11_measure_55 (Nat.le_of_ble_eq_true rfl) (fun _ _ => rfl) ?_
    refine zr_iload_n C dX11_measure_56 rfl ?_
    refine zr_aload_n C dX11_measure_57 rfl ?_
    refine zf_X11_18 C (Nat.le_of_ble_eq_true rfl) dX11_measure_58 ?_
    refine zr_iload_n C dX11_measure_61 rfl ?_
    refine zr_iald (n := 10) C dX11_measure_62 (Nat.le_of_ble_eq_true rfl) rfl ?_
    refine zr_iadd C dX11_measure_63 ?_
    refine zr_istore_n (i := 1) (L1 := [(1, .int _), (0, .ref _), (2, .int _)]) C dX11_measure_64 rfl (by decide) rfl ?_
    refine zr_iinc (kk := 2) (v := (l2 + 1)) (L1 := [(2, .int _), (1, .int _), (0, .ref _)]) C dX11_measure_65 rfl rfl (by decide) rfl ?_
    refine zr_goto (tgt := 33) C dX11_measure_68 (by decide) ?_
    exact zr_sub [2, 1, 0] rfl (hrec33 (zwi σ 65 0 l2.toNatClampNeg (((σ.1 65 0 l2.toNatClampNeg) + (σ.1 64 0 l2.toNatClampNeg)))) (((l1 + ((zwi σ 65 0 l2.toNatClampNeg (((σ.1 65 0 l2.toNatClampNeg) + (σ.1 64 0 l2.toNatClampNeg)))).1 64 0 l2.toNatClampNeg)), (l2 + 1))))
def f_X11_measure (F : Nat) (σ : zMem) : Option (Int32 × zMem) := if (σ.1 60 0 0) = 0 then (some ((-3), σ)) else (if (σ.1 60 0 43) = (σ.1 60 0 0) then (some ((-3), σ)) else (zit (f_X11_measure_33 F) F (zwi σ 60 0 43 ((σ.1 60 0 0))) ((0, 0))))
set_option maxHeartbeats 4000000 in
set_option maxRecDepth 100000 in
theorem c_X11_measure (l : Launch) (Z : zLay) (F : Nat) (σ : zMem) (r : Int32) (σ1 : zMem) (ho : f_X11_measure F σ = some (r, σ1)) : zMet l yX11_measure cX11_measure 3 (some .int) 1 Z [.ref (zad Z 60 0)] σ (zQI Z r σ1) := by
  refine zMet_of (Qc := zQI Z) (by decide) (Nat.le_of_ble_eq_true rfl) [(0, .ref (zad Z 60 0))] rfl (fun E C => ?_) ho
  have hh : 1 ≤ 1 := Nat.le_refl _
  show zKO E 3 Z (zMQ E Z (zQI Z)) 0 [(0, .ref (zad Z 60 0))] [] σ _
  unfold f_X11_measure
  refine zr_aload_n C dX11_measure_0 rfl ?_
  refine zf_X11_193 C (Nat.le_of_ble_eq_true rfl) dX11_measure_1 ?_
  refine zr_if_eq (tgt := 18) C dX11_measure_4 (by decide) ?_ ?_
  · refine zr_bipush (v := -3) C dX11_measure_18 rfl ?_
    exact zr_iret C dX11_measure_20
  · refine zr_aload_n C dX11_measure_7 rfl ?_
    refine zf_X11_108 C (Nat.le_of_ble_eq_true rfl) dX11_measure_8 ?_
    refine zr_aload_n C dX11_measure_11 rfl ?_
    refine zf_X11_193 C (Nat.le_of_ble_eq_true rfl) dX11_measure_12 ?_
    refine zr_icmp_ne (tgt := 21) C dX11_measure_15 (by decide) ?_ ?_
    · refine zr_aload_n C dX11_measure_21 rfl ?_
      refine zr_aload_n C dX11_measure_22 rfl ?_
      refine zf_X11_193 C (Nat.le_of_ble_eq_true rfl) dX11_measure_23 ?_
      refine zp_X11_108 C (Nat.le_of_ble_eq_true rfl) dX11_measure_26 ?_
      refine zr_iconst (v := 0) C dX11_measure_29 rfl ?_
      refine zr_istore_n (i := 1) (L1 := [(1, .int _), (0, .ref _)]) C dX11_measure_30 rfl (by decide) rfl ?_
      refine zr_iconst (v := 0) C dX11_measure_31 rfl ?_
      refine zr_istore_n (i := 2) (L1 := [(2, .int _), (1, .int _), (0, .ref _)]) C dX11_measure_32 rfl (by decide) rfl ?_
      exact zr_sub [2, 1, 0] rfl (c_X11_measure_33 F C hh F (zwi σ 60 0 43 ((σ.1 60 0 0))) ((0, 0)))
    · refine zr_bipush (v := -3) C dX11_measure_18 rfl ?_
      exact zr_iret C dX11_measure_20
def f_X11_next_28 (F : Nat) (rec4 : zMem → Int32 × Int32 × Int32 → Option (Int32 × zMem)) (σ : zMem) (l1 : Int32) (l2 : Int32) (l3 : Int32) : Option (Int32 × zMem) := if l2 < 0 then (rec4 σ ((l1, l3, (l3 + 1)))) else (if l1 = 0 then (zg (inb l3 10) (zg (inb l2 10) (if (σ.1 66 0 l2.toNatClampNeg) ≤ (σ.1 66 0 l3.toNatClampNeg) then (rec4 σ ((l1, l2, (l3 + 1)))) else (rec4 σ ((l1, l3, (l3 + 1))))))) else (zg (inb l3 10) (zg (inb l2 10) (if (σ.1 66 0 l3.toNatClampNeg) ≤ (σ.1 66 0 l2.toNatClampNeg) then (rec4 σ ((l1, l2, (l3 + 1)))) else (rec4 σ ((l1, l3, (l3 + 1))))))))
set_option maxHeartbeats 4000000 in
set_option maxRecDepth 100000 in
theorem c_X11_next_28 (F : Nat) (rec4 : zMem → Int32 × Int32 × Int32 → Option (Int32 × zMem)) {E : zEn} {h : Nat} {Z : zLay} (C : zCx E cX11_next RX11 4 (some .int) Z h) (hh : 1 ≤ h) (hrec4 : ∀ (σ : zMem) (x : Int32 × Int32 × Int32), zKO E 4 Z (zMQ E Z (zQI Z)) 4 [(0, .ref (zad Z 60 0)), (1, .int x.1), (2, .int x.2.1), (3, .int x.2.2)] [] σ (rec4 σ x)) (σ : zMem) (l1 : Int32) (l2 : Int32) (l3 : Int32) : zKO E 4 Z (zMQ E Z (zQI Z)) 28 [(0, .ref (zad Z 60 0)), (1, .int l1), (2, .int l2), (3, .int l3)] [] σ (f_X11_next_28 F rec4 σ l1 l2 l3) := by
  unfold f_X11_next_28
  refine zr_iload_n C dX11_next_28 rfl ?_
  refine zr_if_lt (tgt := 69) C dX11_next_29 (by decide) ?_ ?_
  · refine zr_iload_n C dX11_next_69 rfl ?_
    refine zr_istore_n (i := 2) (L1 := [(2, .int _), (0, .ref _), (1, .int _), (3, .int _)]) C dX11_next_70 rfl (by decide) rfl ?_
    refine zr_iinc (kk := 3) (v := (l3 + 1)) (L1 := [(3, .int _), (2, .int _), (0, .ref _), (1, .int _)]) C dX11_next_71 rfl rfl (by decide) rfl ?_
    refine zr_goto (tgt := 4) C dX11_next_74 (by decide) ?_
    exact zr_sub [2, 3, 1, 0] rfl (hrec4 σ ((l1, l3, (l3 + 1))))
  · refine zr_iload_n C dX11_next_32 rfl ?_
    refine zr_if_eq (tgt := 54) C dX11_next_33 (by decide) ?_ ?_
    · refine zr_aload_n C dX11_next_54 rfl ?_
      refine zf_X11_24 C (Nat.le_of_ble_eq_true rfl) dX11_next_55 ?_
      refine zr_iload_n C dX11_next_58 rfl ?_
      refine zr_iald (n := 10) C dX11_next_59 (Nat.le_of_ble_eq_true rfl) rfl ?_
      refine zr_aload_n C dX11_next_60 rfl ?_
      refine zf_X11_24 C (Nat.le_of_ble_eq_true rfl) dX11_next_61 ?_
      refine zr_iload_n C dX11_next_64 rfl ?_
      refine zr_iald (n := 10) C dX11_next_65 (Nat.le_of_ble_eq_true rfl) rfl ?_
      refine zr_icmp_ge (tgt := 71) C dX11_next_66 (by decide) ?_ ?_
      · refine zr_iinc (kk := 3) (v := (l3 + 1)) (L1 := [(3, .int _), (0, .ref _), (1, .int _), (2, .int _)]) C dX11_next_71 rfl rfl (by decide) rfl ?_
        refine zr_goto (tgt := 4) C dX11_next_74 (by decide) ?_
        exact zr_sub [1, 2, 3, 0] rfl (hrec4 σ ((l1, l2, (l3 + 1))))
      · refine zr_iload_n C dX11_next_69 rfl ?_
        refine zr_istore_n (i := 2) (L1 := [(2, .int _), (0, .ref _), (1, .int _), (3, .int _)]) C dX11_next_70 rfl (by decide) rfl ?_
        refine zr_iinc (kk := 3) (v := (l3 + 1)) (L1 := [(3, .int _), (2, .int _), (0, .ref _), (1, .int _)]) C dX11_next_71 rfl rfl (by decide) rfl ?_
        refine zr_goto (tgt := 4) C dX11_next_74 (by decide) ?_
        exact zr_sub [2, 3, 1, 0] rfl (hrec4 σ ((l1, l3, (l3 + 1))))
    · refine zr_aload_n C dX11_next_36 rfl ?_
      refine zf_X11_24 C (Nat.le_of_ble_eq_true rfl) dX11_next_37 ?_
      refine zr_iload_n C dX11_next_40 rfl ?_
      refine zr_iald (n := 10) C dX11_next_41 (Nat.le_of_ble_eq_true rfl) rfl ?_
      refine zr_aload_n C dX11_next_42 rfl ?_
      refine zf_X11_24 C (Nat.le_of_ble_eq_true rfl) dX11_next_43 ?_
      refine zr_iload_n C dX11_next_46 rfl ?_
      refine zr_iald (n := 10) C dX11_next_47 (Nat.le_of_ble_eq_true rfl) rfl ?_
      refine zr_icmp_le (tgt := 71) C dX11_next_48 (by decide) ?_ ?_
      · refine zr_iinc (kk := 3) (v := (l3 + 1)) (L1 := [(3, .int _), (0, .ref _), (1, .int _), (2, .int _)]) C dX11_next_71 rfl rfl (by decide) rfl ?_
        refine zr_goto (tgt := 4) C dX11_next_74 (by decide) ?_
        exact zr_sub [1, 2, 3, 0] rfl (hrec4 σ ((l1, l2, (l3 + 1))))
      · refine zr_goto (tgt := 69) C dX11_next_51 (by decide) ?_
        refine zr_iload_n C dX11_next_69 rfl ?_
        refine zr_istore_n (i := 2) (L1 := [(2, .int _), (0, .ref _), (1, .int _), (3, .int _)]) C dX11_next_70 rfl (by decide) rfl ?_
        refine zr_iinc (kk := 3) (v := (l3 + 1)) (L1 := [(3, .int _), (2, .int _), (0, .ref _), (1, .int _)]) C dX11_next_71 rfl rfl (by decide) rfl ?_
        refine zr_goto (tgt := 4) C dX11_next_74 (by decide) ?_
        exact zr_sub [2, 3, 1, 0] rfl (hrec4 σ ((l1, l3, (l3 + 1))))
def f_X11_next_4 (F : Nat) (rec4 : zMem → Int32 × Int32 × Int32 → Option (Int32 × zMem)) (σ : zMem) (x : Int32 × Int32 × Int32) : Option (Int32 × zMem) := if (σ.1 60 0 1) ≤ x.2.2 then (some (x.2.1, σ)) else (if x.1 = 0 then (zg (inb x.2.2 10) (if (σ.1 112 0 x.2.2.toNatClampNeg) = 0 then (rec4 σ ((x.1, x.2.1, (x.2.2 + 1)))) else (f_X11_next_28 F rec4 σ x.1 x.2.1 x.2.2))) else (f_X11_next_28 F rec4 σ x.1 x.2.1 x.2.2))
set_option maxHeartbeats 4000000 in
set_option maxRecDepth 100000 in
theorem c_X11_next_4 (F : Nat) {E : zEn} {h : Nat} {Z : zLay} (C : zCx E cX11_next RX11 4 (some .int) Z h) (hh : 1 ≤ h) : ∀ (n : Nat) (σ : zMem) (x : Int32 × Int32 × Int32), zKO E 4 Z (zMQ E Z (zQI Z)) 4 [(0, .ref (zad Z 60 0)), (1, .int x.1), (2, .int x.2.1), (3, .int x.2.2)] [] σ (zit (f_X11_next_4 F) n σ x) := by
  refine zr_loop (LL := fun (x : Int32 × Int32 × Int32) => [(0, .ref (zad Z 60 0)), (1, .int x.1), (2, .int x.2.1), (3, .int x.2.2)]) (ST := fun (x : Int32 × Int32 × Int32) => []) (fun rec4 hrec4 σ x => ?_)
  obtain ⟨l1, l2, l3⟩ := x
  show zKO E 4 Z (zMQ E Z (zQI Z)) 4 [(0, .ref (zad Z 60 0)), (1, .int l1), (2, .int l2), (3, .int l3)] [] σ (if (σ.1 60 0 1) ≤ l3 then (some (l2, σ)) else (if l1 = 0 then (zg (inb l3 10) (if (σ.1 112 0 l3.toNatClampNeg) = 0 then (rec4 σ ((l1, l2, (l3 + 1)))) else (f_X11_next_28 F rec4 σ l1 l2 l3))) else (f_X11_next_28 F rec4 σ l1 l2 l3)))
  refine zr_iload_n C dX11_next_4 rfl ?_
  refine zr_aload_n C dX11_next_5 rfl ?_
  refine zf_X11_160 C (Nat.le_of_ble_eq_true rfl) dX11_next_6 ?_
  refine zr_icmp_ge (tgt := 77) C dX11_next_9 (by decide) ?_ ?_
  · refine zr_iload_n C dX11_next_77 rfl ?_
    exact zr_iret C dX11_next_78
  · refine zr_iload_n C dX11_next_12 rfl ?_
    refine zr_if_ne (tgt := 28) C dX11_next_13 (by decide) ?_ ?_
    · exact zr_sub [0, 1, 2, 3] rfl (c_X11_next_28 F rec4 C hh hrec4 σ l1 l2 l3)
    · refine zr_aload_n C dX11_next_16 rfl ?_
      refine zf_X11_142 C (Nat.le_of_ble_eq_true rfl) dX11_next_17 ?_
      refine zr_iload_n C dX11_next_20 rfl ?_
      refine zr_iald (n := 10) C dX11_next_21 (Nat.le_of_ble_eq_true rfl) rfl ?_
      refine zr_if_ne (tgt := 28) C dX11_next_22 (by decide) ?_ ?_
      · exact zr_sub [0, 1, 2, 3] rfl (c_X11_next_28 F rec4 C hh hrec4 σ l1 l2 l3)
      · refine zr_goto (tgt := 71) C dX11_next_25 (by decide) ?_
        refine zr_iinc (kk := 3) (v := (l3 + 1)) (L1 := [(3, .int _), (0, .ref _), (1, .int _), (2, .int _)]) C dX11_next_71 rfl rfl (by decide) rfl ?_
        refine zr_goto (tgt := 4) C dX11_next_74 (by decide) ?_
        exact zr_sub [1, 2, 3, 0] rfl (hrec4 σ ((l1, l2, (l3 + 1))))
def f_X11_next (F : Nat) (σ : zMem) (a1 : Int32) : Option (Int32 × zMem) := zit (f_X11_next_4 F) F σ ((a1, (-1), 0))
set_option maxHeartbeats 4000000 in
set_option maxRecDepth 100000 in
theorem c_X11_next (l : Launch) (Z : zLay) (F : Nat) (σ : zMem) (a1 : Int32) (r : Int32) (σ1 : zMem) (ho : f_X11_next F σ a1 = some (r, σ1)) : zMet l yX11_next cX11_next 4 (some .int) 1 Z [.ref (zad Z 60 0), .int (a1)] σ (zQI Z r σ1) := by
  refine zMet_of (Qc := zQI Z) (by decide) (Nat.le_of_ble_eq_true rfl) [(0, .ref (zad Z 60 0)), (1, .int (a1))] rfl (fun E C => ?_) ho
  have hh : 1 ≤ 1 := Nat.le_refl _
  show zKO E 4 Z (zMQ E Z (zQI Z)) 0 [(0, .ref (zad Z 60 0)), (1, .int (a1))] [] σ _
  unfold f_X11_next
  refine zr_iconst (v := -1) C dX11_next_0 rfl ?_
  refine zr_istore_n (i := 2) (L1 := [(2, .int _), (0, .ref _), (1, .int _)]) C dX11_next_1 rfl (by decide) rfl ?_
  refine zr_iconst (v := 0) C dX11_next_2 rfl ?_
  refine zr_istore_n (i := 3) (L1 := [(3, .int _), (2, .int _), (0, .ref _), (1, .int _)]) C dX11_next_3 rfl (by decide) rfl ?_
  exact zr_sub [2, 3, 1, 0] rfl (c_X11_next_4 F C hh F σ ((a1, (-1), 0)))
theorem zk_X11_431 (C : zCx E cc RX11 nL ret Z h) (F : Nat) {b0 : Int32} (hk : 0 < zN 60) (hh : 1 + 1 ≤ h) (hst8 : (st.map fun v => v.category).sum ≤ 8) (hd : decode cc pc = .ok (.invokevirtual 431, 3)) {g : Int32 → zMem → Option (α × zMem)} (kk : ∀ (r : Int32) (σ1 : zMem), zKO E nL Z QQ (pc + 3) L (.int r :: st) σ1 (g r σ1)) : zKO E nL Z QQ pc L (.int b0 :: .ref (zad Z 60 0) :: st) σ (zb (f_X11_next F σ b0) g) :=
  zr_callVI (As := [.int b0]) (ia := 1) C (fun r σ1 ho => c_X11_next (zla E) Z F σ b0 r σ1 ho) wz_1623 hk rfl rfl wz_p121 wz_1625 wz_1626 wz_12 (by decide +kernel) rfl (by decide) hh hd hst8 kk
def f_X11_cheese_120 (F : Nat) (rec59 : zMem → Int32 × Int64 × Int32 × Int32 → Option (Int32 × zMem)) (σ : zMem) (l1 : Int32) (l2 : Int64) (l4 : Int32) (l5 : Int32) (l6 : Int64) (s0 : Int32) (s1 : Int32) : Option (Int32 × zMem) := zg (inb s1 10) (zg (inb l5 10) (zg (inb l5 10) (zg (inb l5 10) (rec59 (zwi (zwi σ 112 0 s1.toNatClampNeg s0) 66 0 l5.toNatClampNeg ((((l6 - (10000 * ((((zwi σ 112 0 s1.toNatClampNeg s0).1 112 0 l5.toNatClampNeg)).toInt64)))).toInt32))) ((l1, l2, (l4 + ((zwi (zwi σ 112 0 s1.toNatClampNeg s0) 66 0 l5.toNatClampNeg ((((l6 - (10000 * ((((zwi σ 112 0 s1.toNatClampNeg s0).1 112 0 l5.toNatClampNeg)).toInt64)))).toInt32))).1 112 0 l5.toNatClampNeg)), (l5 + 1)))))))
set_option maxHeartbeats 4000000 in
set_option maxRecDepth 100000 in
theorem c_X11_cheese_120 (F : Nat) (rec59 : zMem → Int32 × Int64 × Int32 × Int32 → Option (Int32 × zMem)) {E : zEn} {h : Nat} {Z : zLay} (C : zCx E cX11_cheese RX11 8 (some .int) Z h) (hh : 2 ≤ h) (hrec59 : ∀ (σ : zMem) (x : Int32 × Int64 × Int32 × Int32), zKO E 8 Z (zMQ E Z (zQI Z)) 59 [(0, .ref (zad Z 60 0)), (1, .int x.1), (2, .long x.2.1), (4, .int x.2.2.1), (5, .int x.2.2.2)] [] σ (rec59 σ x)) (σ : zMem) (l1 : Int32) (l2 : Int64) (l4 : Int32) (l5 : Int32) (l6 : Int64) (s0 : Int32) (s1 : Int32) : zKO E 8 Z (zMQ E Z (zQI Z)) 120 [(0, .ref (zad Z 60 0)), (1, .int l1), (2, .long l2), (4, .int l4), (5, .int l5), (6, .long l6)] [.int s0, .int s1, .ref (zad Z 112 0)] σ (f_X11_cheese_120 F rec59 σ l1 l2 l4 l5 l6 s0 s1) := by
  unfold f_X11_cheese_120
  refine zr_iast (n := 10) C dX11_cheese_120 (Nat.le_of_ble_eq_true rfl) (fun _ _ => rfl) ?_
  refine zr_aload_n C dX11_cheese_121 rfl ?_
  refine zf_X11_24 C (Nat.le_of_ble_eq_true rfl) dX11_cheese_122 ?_
  refine zr_iload C dX11_cheese_125 rfl ?_
  refine zr_lload C dX11_cheese_127 rfl ?_
  refine zr_ldc2 (v := 10000) C dX11_cheese_129 wz_1622 ?_
  refine zr_aload_n C dX11_cheese_132 rfl ?_
  refine zf_X11_142 C (Nat.le_of_ble_eq_true rfl) dX11_cheese_133 ?_
  refine zr_iload C dX11_cheese_136 rfl ?_
  refine zr_iald (n := 10) C dX11_cheese_138 (Nat.le_of_ble_eq_true rfl) rfl ?_
  refine zr_i2l C dX11_cheese_139 ?_
  refine zr_lmul C dX11_cheese_140 ?_
  refine zr_lsub C dX11_cheese_141 ?_
  refine zr_l2i C dX11_cheese_142 ?_
  refine zr_iast (n := 10) C dX11_cheese_143 (Nat.le_of_ble_eq_true rfl) (fun _ _ => rfl) ?_
  refine zr_iload C dX11_cheese_144 rfl ?_
  refine zr_aload_n C dX11_cheese_146 rfl ?_
  refine zf_X11_142 C (Nat.le_of_ble_eq_true rfl) dX11_cheese_147 ?_
  refine zr_iload C dX11_cheese_150 rfl ?_
  refine zr_iald (n := 10) C dX11_cheese_152 (Nat.le_of_ble_eq_true rfl) rfl ?_
  refine zr_iadd C dX11_cheese_153 ?_
  refine zr_istore (i := 4) (L1 := [(4, .int _), (0, .ref _), (1, .int _), (2, .long _), (5, .int _), (6, .long _)]) C dX11_cheese_154 (by decide) rfl ?_
  refine zr_iinc (kk := 4) (v := (l5 + 1)) (L1 := [(5, .int _), (4, .int _), (0, .ref _), (1, .int _), (2, .long _), (6, .long _)]) C dX11_cheese_156 rfl rfl (by decide) rfl ?_
  refine zr_goto (tgt := 59) C dX11_cheese_159 (by decide) ?_
  exact zr_sub [2, 3, 4, 1, 0] rfl (hrec59 (zwi (zwi σ 112 0 s1.toNatClampNeg s0) 66 0 l5.toNatClampNeg ((((l6 - (10000 * ((((zwi σ 112 0 s1.toNatClampNeg s0).1 112 0 l5.toNatClampNeg)).toInt64)))).toInt32))) ((l1, l2, (l4 + ((zwi (zwi σ 112 0 s1.toNatClampNeg s0) 66 0 l5.toNatClampNeg ((((l6 - (10000 * ((((zwi σ 112 0 s1.toNatClampNeg s0).1 112 0 l5.toNatClampNeg)).toInt64)))).toInt32))).1 112 0 l5.toNatClampNeg)), (l5 + 1))))
def f_X11_cheese_251 (F : Nat) (rec251 : zMem → Int32 × Int32 → Option (Int32 × zMem)) (σ : zMem) (x : Int32 × Int32) : Option (Int32 × zMem) := if (σ.1 60 0 1) ≤ x.2 then (some (x.1, (zwi σ 60 0 44 (((σ.1 60 0 44) + x.1))))) else (zg (inb x.2 10) (zg (inb x.2 10) (zg (inb x.2 10) (zg (inb x.2 10) (rec251 (zwi (zwi σ 68 0 x.2.toNatClampNeg (((σ.1 68 0 x.2.toNatClampNeg) + (σ.1 112 0 x.2.toNatClampNeg)))) 65 0 x.2.toNatClampNeg 0) ((x.1, (x.2 + 1))))))))
set_option maxHeartbeats 4000000 in
set_option maxRecDepth 100000 in
theorem c_X11_cheese_251 (F : Nat) {E : zEn} {h : Nat} {Z : zLay} (C : zCx E cX11_cheese RX11 8 (some .int) Z h) (hh : 2 ≤ h) : ∀ (n : Nat) (σ : zMem) (x : Int32 × Int32), zKO E 8 Z (zMQ E Z (zQI Z)) 251 [(0, .ref (zad Z 60 0)), (1, .int x.1), (5, .int x.2)] [] σ (zit (f_X11_cheese_251 F) n σ x) := by
  refine zr_loop (LL := fun (x : Int32 × Int32) => [(0, .ref (zad Z 60 0)), (1, .int x.1), (5, .int x.2)]) (ST := fun (x : Int32 × Int32) => []) (fun rec251 hrec251 σ x => ?_)
  obtain ⟨l1, l5⟩ := x
  show zKO E 8 Z (zMQ E Z (zQI Z)) 251 [(0, .ref (zad Z 60 0)), (1, .int l1), (5, .int l5)] [] σ (if (σ.1 60 0 1) ≤ l5 then (some (l1, (zwi σ 60 0 44 (((σ.1 60 0 44) + l1))))) else (zg (inb l5 10) (zg (inb l5 10) (zg (inb l5 10) (zg (inb l5 10) (rec251 (zwi (zwi σ 68 0 l5.toNatClampNeg (((σ.1 68 0 l5.toNatClampNeg) + (σ.1 112 0 l5.toNatClampNeg)))) 65 0 l5.toNatClampNeg 0) ((l1, (l5 + 1)))))))))
  refine zr_iload C dX11_cheese_251 rfl ?_
  refine zr_aload_n C dX11_cheese_253 rfl ?_
  refine zf_X11_160 C (Nat.le_of_ble_eq_true rfl) dX11_cheese_254 ?_
  refine zr_icmp_ge (tgt := 291) C dX11_cheese_257 (by decide) ?_ ?_
  · refine zr_aload_n C dX11_cheese_291 rfl ?_
    refine zr_dup C dX11_cheese_292 rfl ?_
    refine zf_X11_435 C (Nat.le_of_ble_eq_true rfl) dX11_cheese_293 ?_
    refine zr_iload_n C dX11_cheese_296 rfl ?_
    refine zr_iadd C dX11_cheese_297 ?_
    refine zp_X11_435 C (Nat.le_of_ble_eq_true rfl) dX11_cheese_298 ?_
    refine zr_iload_n C dX11_cheese_301 rfl ?_
    exact zr_iret C dX11_cheese_302
  · refine zr_aload_n C dX11_cheese_260 rfl ?_
    refine zf_X11_30 C (Nat.le_of_ble_eq_true rfl) dX11_cheese_261 ?_
    refine zr_iload C dX11_cheese_264 rfl ?_
    refine zr_dup2 C dX11_cheese_266 rfl rfl ?_
    refine zr_iald (n := 10) C dX11_cheese_267 (Nat.le_of_ble_eq_true rfl) rfl ?_
    refine zr_aload_n C dX11_cheese_268 rfl ?_
    refine zf_X11_142 C (Nat.le_of_ble_eq_true rfl) dX11_cheese_269 ?_
    refine zr_iload C dX11_cheese_272 rfl ?_
    refine zr_iald (n := 10) C dX11_cheese_274 (Nat.le_of_ble_eq_true rfl) rfl ?_
    refine zr_iadd C dX11_cheese_275 ?_
    refine zr_iast (n := 10) C dX11_cheese_276 (Nat.le_of_ble_eq_true rfl) (fun _ _ => rfl) ?_
    refine zr_aload_n C dX11_cheese_277 rfl ?_
    refine zf_X11_21 C (Nat.le_of_ble_eq_true rfl) dX11_cheese_278 ?_
    refine zr_iload C dX11_cheese_281 rfl ?_
    refine zr_iconst (v := 0) C dX11_cheese_283 rfl ?_
    refine zr_iast (n := 10) C dX11_cheese_284 (Nat.le_of_ble_eq_true rfl) (fun _ _ => rfl) ?_
    refine zr_iinc (kk := 2) (v := (l5 + 1)) (L1 := [(5, .int _), (0, .ref _), (1, .int _)]) C dX11_cheese_285 rfl rfl (by decide) rfl ?_
    refine zr_goto (tgt := 251) C dX11_cheese_288 (by decide) ?_
    exact zr_sub [1, 2, 0] rfl (hrec251 (zwi (zwi σ 68 0 l5.toNatClampNeg (((σ.1 68 0 l5.toNatClampNeg) + (σ.1 112 0 l5.toNatClampNeg)))) 65 0 l5.toNatClampNeg 0) ((l1, (l5 + 1))))
def f_X11_cheese_205 (F : Nat) (rec205 : zMem → Int32 × Int32 → Option (Int32 × zMem)) (σ : zMem) (x : Int32 × Int32) : Option (Int32 × zMem) := if x.2 ≤ x.1 then (zit (f_X11_cheese_251 F) F σ ((x.1, 0))) else (zb (f_X11_next F σ 0) fun r213 m213 => zg (inb r213 10) (zg (inb r213 10) (zg (inb r213 10) (zg (inb r213 10) (rec205 (zwi (zwi m213 112 0 r213.toNatClampNeg (((m213.1 112 0 r213.toNatClampNeg) - 1))) 66 0 r213.toNatClampNeg ((((zwi m213 112 0 r213.toNatClampNeg (((m213.1 112 0 r213.toNatClampNeg) - 1))).1 66 0 r213.toNatClampNeg) + 10000))) ((x.1, (x.2 + (-1)))))))))
set_option maxHeartbeats 4000000 in
set_option maxRecDepth 100000 in
theorem c_X11_cheese_205 (F : Nat) {E : zEn} {h : Nat} {Z : zLay} (C : zCx E cX11_cheese RX11 8 (some .int) Z h) (hh : 2 ≤ h) : ∀ (n : Nat) (σ : zMem) (x : Int32 × Int32), zKO E 8 Z (zMQ E Z (zQI Z)) 205 [(0, .ref (zad Z 60 0)), (1, .int x.1), (4, .int x.2)] [] σ (zit (f_X11_cheese_205 F) n σ x) := by
  refine zr_loop (LL := fun (x : Int32 × Int32) => [(0, .ref (zad Z 60 0)), (1, .int x.1), (4, .int x.2)]) (ST := fun (x : Int32 × Int32) => []) (fun rec205 hrec205 σ x => ?_)
  obtain ⟨l1, l4⟩ := x
  show zKO E 8 Z (zMQ E Z (zQI Z)) 205 [(0, .ref (zad Z 60 0)), (1, .int l1), (4, .int l4)] [] σ (if l4 ≤ l1 then (zit (f_X11_cheese_251 F) F σ ((l1, 0))) else (zb (f_X11_next F σ 0) fun r213 m213 => zg (inb r213 10) (zg (inb r213 10) (zg (inb r213 10) (zg (inb r213 10) (rec205 (zwi (zwi m213 112 0 r213.toNatClampNeg (((m213.1 112 0 r213.toNatClampNeg) - 1))) 66 0 r213.toNatClampNeg ((((zwi m213 112 0 r213.toNatClampNeg (((m213.1 112 0 r213.toNatClampNeg) - 1))).1 66 0 r213.toNatClampNeg) + 10000))) ((l1, (l4 + (-1))))))))))
  refine zr_iload C dX11_cheese_205 rfl ?_
  refine zr_iload_n C dX11_cheese_207 rfl ?_
  refine zr_icmp_le (tgt := 248) C dX11_cheese_208 (by decide) ?_ ?_
  · refine zr_iconst (v := 0) C dX11_cheese_248 rfl ?_
    refine zr_istore (i := 5) (L1 := [(5, .int _), (0, .ref _), (1, .int _), (4, .int _)]) C dX11_cheese_249 (by decide) rfl ?_
    exact zr_sub [1, 2, 0] rfl (c_X11_cheese_251 F C hh F σ ((l1, 0)))
  · refine zr_aload_n C dX11_cheese_211 rfl ?_
    refine zr_iconst (v := 0) C dX11_cheese_212 rfl ?_
    refine zk_X11_431 C F (Nat.le_of_ble_eq_true rfl) (Nat.le_trans (by decide) hh) (by simp [Value.category]) dX11_cheese_213 (fun r213 m213 => ?_)
    refine zr_istore (i := 5) (L1 := [(5, .int _), (0, .ref _), (1, .int _), (4, .int _)]) C dX11_cheese_216 (by decide) rfl ?_
    refine zr_aload_n C dX11_cheese_218 rfl ?_
    refine zf_X11_142 C (Nat.le_of_ble_eq_true rfl) dX11_cheese_219 ?_
    refine zr_iload C dX11_cheese_222 rfl ?_
    refine zr_dup2 C dX11_cheese_224 rfl rfl ?_
    refine zr_iald (n := 10) C dX11_cheese_225 (Nat.le_of_ble_eq_true rfl) rfl ?_
    refine zr_iconst (v := 1) C dX11_cheese_226 rfl ?_
    refine zr_isub C dX11_cheese_227 ?_
    refine zr_iast (n := 10) C dX11_cheese_228 (Nat.le_of_ble_eq_true rfl) (fun _ _ => rfl) ?_
    refine zr_aload_n C dX11_cheese_229 rfl ?_
    refine zf_X11_24 C (Nat.le_of_ble_eq_true rfl) dX11_cheese_230 ?_
    refine zr_iload C dX11_cheese_233 rfl ?_
    refine zr_dup2 C dX11_cheese_235 rfl rfl ?_
    refine zr_iald (n := 10) C dX11_cheese_236 (Nat.le_of_ble_eq_true rfl) rfl ?_
    refine zr_sipush (v := 10000) C dX11_cheese_237 rfl ?_
    refine zr_iadd C dX11_cheese_240 ?_
    refine zr_iast (n := 10) C dX11_cheese_241 (Nat.le_of_ble_eq_true rfl) (fun _ _ => rfl) ?_
    refine zr_iinc (kk := 3) (v := (l4 + (-1))) (L1 := [(4, .int _), (5, .int _), (0, .ref _), (1, .int _)]) C dX11_cheese_242 rfl rfl (by decide) rfl ?_
    refine zr_goto (tgt := 205) C dX11_cheese_245 (by decide) ?_
    exact zr_sub [2, 3, 0] rfl (hrec205 (zwi (zwi m213 112 0 r213.toNatClampNeg (((m213.1 112 0 r213.toNatClampNeg) - 1))) 66 0 r213.toNatClampNeg ((((zwi m213 112 0 r213.toNatClampNeg (((m213.1 112 0 r213.toNatClampNeg) - 1))).1 66 0 r213.toNatClampNeg) + 10000))) ((l1, (l4 + (-1)))))
def f_X11_cheese_162 (F : Nat) (rec162 : zMem → Int32 × Int32 → Option (Int32 × zMem)) (σ : zMem) (x : Int32 × Int32) : Option (Int32 × zMem) := if x.1 ≤ x.2 then (zit (f_X11_cheese_205 F) F σ ((x.1, x.2))) else (zb (f_X11_next F σ 1) fun r170 m170 => zg (inb r170 10) (zg (inb r170 10) (zg (inb r170 10) (zg (inb r170 10) (rec162 (zwi (zwi m170 112 0 r170.toNatClampNeg (((m170.1 112 0 r170.toNatClampNeg) + 1))) 66 0 r170.toNatClampNeg ((((zwi m170 112 0 r170.toNatClampNeg (((m170.1 112 0 r170.toNatClampNeg) + 1))).1 66 0 r170.toNatClampNeg) - 10000))) ((x.1, (x.2 + 1))))))))
set_option maxHeartbeats 4000000 in
set_option maxRecDepth 100000 in
theorem c_X11_cheese_162 (F : Nat) {E : zEn} {h : Nat} {Z : zLay} (C : zCx E cX11_cheese RX11 8 (some .int) Z h) (hh : 2 ≤ h) : ∀ (n : Nat) (σ : zMem) (x : Int32 × Int32), zKO E 8 Z (zMQ E Z (zQI Z)) 162 [(0, .ref (zad Z 60 0)), (1, .int x.1), (4, .int x.2)] [] σ (zit (f_X11_cheese_162 F) n σ x) := by
  refine zr_loop (LL := fun (x : Int32 × Int32) => [(0, .ref (zad Z 60 0)), (1, .int x.1), (4, .int x.2)]) (ST := fun (x : Int32 × Int32) => []) (fun rec162 hrec162 σ x => ?_)
  obtain ⟨l1, l4⟩ := x
  show zKO E 8 Z (zMQ E Z (zQI Z)) 162 [(0, .ref (zad Z 60 0)), (1, .int l1), (4, .int l4)] [] σ (if l1 ≤ l4 then (zit (f_X11_cheese_205 F) F σ ((l1, l4))) else (zb (f_X11_next F σ 1) fun r170 m170 => zg (inb r170 10) (zg (inb r170 10) (zg (inb r170 10) (zg (inb r170 10) (rec162 (zwi (zwi m170 112 0 r170.toNatClampNeg (((m170.1 112 0 r170.toNatClampNeg) + 1))) 66 0 r170.toNatClampNeg ((((zwi m170 112 0 r170.toNatClampNeg (((m170.1 112 0 r170.toNatClampNeg) + 1))).1 66 0 r170.toNatClampNeg) - 10000))) ((l1, (l4 + 1)))))))))
  refine zr_iload C dX11_cheese_162 rfl ?_
  refine zr_iload_n C dX11_cheese_164 rfl ?_
  refine zr_icmp_ge (tgt := 205) C dX11_cheese_165 (by decide) ?_ ?_
  · exact zr_sub [0, 1, 2] rfl (c_X11_cheese_205 F C hh F σ ((l1, l4)))
  · refine zr_aload_n C dX11_cheese_168 rfl ?_
    refine zr_iconst (v := 1) C dX11_cheese_169 rfl ?_
    refine zk_X11_431 C F (Nat.le_of_ble_eq_true rfl) (Nat.le_trans (by decide) hh) (by simp [Value.category]) dX11_cheese_170 (fun r170 m170 => ?_)
    refine zr_istore (i := 5) (L1 := [(5, .int _), (0, .ref _), (1, .int _), (4, .int _)]) C dX11_cheese_173 (by decide) rfl ?_
    refine zr_aload_n C dX11_cheese_175 rfl ?_
    refine zf_X11_142 C (Nat.le_of_ble_eq_true rfl) dX11_cheese_176 ?_
    refine zr_iload C dX11_cheese_179 rfl ?_
    refine zr_dup2 C dX11_cheese_181 rfl rfl ?_
    refine zr_iald (n := 10) C dX11_cheese_182 (Nat.le_of_ble_eq_true rfl) rfl ?_
    refine zr_iconst (v := 1) C dX11_cheese_183 rfl ?_
    refine zr_iadd C dX11_cheese_184 ?_
    refine zr_iast (n := 10) C dX11_cheese_185 (Nat.le_of_ble_eq_true rfl) (fun _ _ => rfl) ?_
    refine zr_aload_n C dX11_cheese_186 rfl ?_
    refine zf_X11_24 C (Nat.le_of_ble_eq_true rfl) dX11_cheese_187 ?_
    refine zr_iload C dX11_cheese_190 rfl ?_
    refine zr_dup2 C dX11_cheese_192 rfl rfl ?_
    refine zr_iald (n := 10) C dX11_cheese_193 (Nat.le_of_ble_eq_true rfl) rfl ?_
    refine zr_sipush (v := 10000) C dX11_cheese_194 rfl ?_
    refine zr_isub C dX11_cheese_197 ?_
    refine zr_iast (n := 10) C dX11_cheese_198 (Nat.le_of_ble_eq_true rfl) (fun _ _ => rfl) ?_
    refine zr_iinc (kk := 3) (v := (l4 + 1)) (L1 := [(4, .int _), (5, .int _), (0, .ref _), (1, .int _)]) C dX11_cheese_199 rfl rfl (by decide) rfl ?_
    refine zr_goto (tgt := 162) C dX11_cheese_202 (by decide) ?_
    exact zr_sub [2, 3, 0] rfl (hrec162 (zwi (zwi m170 112 0 r170.toNatClampNeg (((m170.1 112 0 r170.toNatClampNeg) + 1))) 66 0 r170.toNatClampNeg ((((zwi m170 112 0 r170.toNatClampNeg (((m170.1 112 0 r170.toNatClampNeg) + 1))).1 66 0 r170.toNatClampNeg) - 10000))) ((l1, (l4 + 1))))
def f_X11_cheese_59 (F : Nat) (rec59 : zMem → Int32 × Int64 × Int32 × Int32 → Option (Int32 × zMem)) (σ : zMem) (x : Int32 × Int64 × Int32 × Int32) : Option (Int32 × zMem) := if (σ.1 60 0 1) ≤ x.2.2.2 then (zit (f_X11_cheese_162 F) F σ ((x.1, x.2.2.1))) else (zg (inb x.2.2.2 10) (zg (znl x.2.1) (zg (inb x.2.2.2 10) (if 0 ≤ (lg_cmp ((((((x.1.toInt64) * (((σ.1 65 0 x.2.2.2.toNatClampNeg)).toInt64)) * 10000) / x.2.1) + (((σ.1 66 0 x.2.2.2.toNatClampNeg)).toInt64))) 0) then (zg (znl 10000) (f_X11_cheese_120 F rec59 σ x.1 x.2.1 x.2.2.1 x.2.2.2 ((((((x.1.toInt64) * (((σ.1 65 0 x.2.2.2.toNatClampNeg)).toInt64)) * 10000) / x.2.1) + (((σ.1 66 0 x.2.2.2.toNatClampNeg)).toInt64))) (((((((((x.1.toInt64) * (((σ.1 65 0 x.2.2.2.toNatClampNeg)).toInt64)) * 10000) / x.2.1) + (((σ.1 66 0 x.2.2.2.toNatClampNeg)).toInt64)) / 10000)).toInt32)) x.2.2.2)) else (f_X11_cheese_120 F rec59 σ x.1 x.2.1 x.2.2.1 x.2.2.2 ((((((x.1.toInt64) * (((σ.1 65 0 x.2.2.2.toNatClampNeg)).toInt64)) * 10000) / x.2.1) + (((σ.1 66 0 x.2.2.2.toNatClampNeg)).toInt64))) 0 x.2.2.2)))))
set_option maxHeartbeats 4000000 in
set_option maxRecDepth 100000 in
theorem c_X11_cheese_59 (F : Nat) {E : zEn} {h : Nat} {Z : zLay} (C : zCx E cX11_cheese RX11 8 (some .int) Z h) (hh : 2 ≤ h) : ∀ (n : Nat) (σ : zMem) (x : Int32 × Int64 × Int32 × Int32), zKO E 8 Z (zMQ E Z (zQI Z)) 59 [(0, .ref (zad Z 60 0)), (1, .int x.1), (2, .long x.2.1), (4, .int x.2.2.1), (5, .int x.2.2.2)] [] σ (zit (f_X11_cheese_59 F) n σ x) := by
  refine zr_loop (LL := fun (x : Int32 × Int64 × Int32 × Int32) => [(0, .ref (zad Z 60 0)), (1, .int x.1), (2, .long x.2.1), (4, .int x.2.2.1), (5, .int x.2.2.2)]) (ST := fun (x : Int32 × Int64 × Int32 × Int32) => []) (fun rec59 hrec59 σ x => ?_)
  obtain ⟨l1, l2, l4, l5⟩ := x
  show zKO E 8 Z (zMQ E Z (zQI Z)) 59 [(0, .ref (zad Z 60 0)), (1, .int l1), (2, .long l2), (4, .int l4), (5, .int l5)] [] σ (if (σ.1 60 0 1) ≤ l5 then (zit (f_X11_cheese_162 F) F σ ((l1, l4))) else (zg (inb l5 10) (zg (znl l2) (zg (inb l5 10) (if 0 ≤ (lg_cmp ((((((l1.toInt64) * (((σ.1 65 0 l5.toNatClampNeg)).toInt64)) * 10000) / l2) + (((σ.1 66 0 l5.toNatClampNeg)).toInt64))) 0) then (zg (znl 10000) (f_X11_cheese_120 F rec59 σ l1 l2 l4 l5 ((((((l1.toInt64) * (((σ.1 65 0 l5.toNatClampNeg)).toInt64)) * 10000) / l2) + (((σ.1 66 0 l5.toNatClampNeg)).toInt64))) (((((((((l1.toInt64) * (((σ.1 65 0 l5.toNatClampNeg)).toInt64)) * 10000) / l2) + (((σ.1 66 0 l5.toNatClampNeg)).toInt64)) / 10000)).toInt32)) l5)) else (f_X11_cheese_120 F rec59 σ l1 l2 l4 l5 ((((((l1.toInt64) * (((σ.1 65 0 l5.toNatClampNeg)).toInt64)) * 10000) / l2) + (((σ.1 66 0 l5.toNatClampNeg)).toInt64))) 0 l5))))))
  refine zr_iload C dX11_cheese_59 rfl ?_
  refine zr_aload_n C dX11_cheese_61 rfl ?_
  refine zf_X11_160 C (Nat.le_of_ble_eq_true rfl) dX11_cheese_62 ?_
  refine zr_icmp_ge (tgt := 162) C dX11_cheese_65 (by decide) ?_ ?_
  · exact zr_sub [0, 1, 3] rfl (c_X11_cheese_162 F C hh F σ ((l1, l4)))
  · refine zr_iload_n C dX11_cheese_68 rfl ?_
    refine zr_i2l C dX11_cheese_69 ?_
    refine zr_aload_n C dX11_cheese_70 rfl ?_
    refine zf_X11_21 C (Nat.le_of_ble_eq_true rfl) dX11_cheese_71 ?_
    refine zr_iload C dX11_cheese_74 rfl ?_
    refine zr_iald (n := 10) C dX11_cheese_76 (Nat.le_of_ble_eq_true rfl) rfl ?_
    refine zr_i2l C dX11_cheese_77 ?_
    refine zr_lmul C dX11_cheese_78 ?_
    refine zr_ldc2 (v := 10000) C dX11_cheese_79 wz_1622 ?_
    refine zr_lmul C dX11_cheese_82 ?_
    refine zr_lload_n C dX11_cheese_83 rfl ?_
    refine zr_ldiv C dX11_cheese_84 ?_
    refine zr_aload_n C dX11_cheese_85 rfl ?_
    refine zf_X11_24 C (Nat.le_of_ble_eq_true rfl) dX11_cheese_86 ?_
    refine zr_iload C dX11_cheese_89 rfl ?_
    refine zr_iald (n := 10) C dX11_cheese_91 (Nat.le_of_ble_eq_true rfl) rfl ?_
    refine zr_i2l C dX11_cheese_92 ?_
    refine zr_ladd C dX11_cheese_93 ?_
    refine zr_lstore (i := 6) (L1 := [(6, .long _), (0, .ref _), (1, .int _), (2, .long _), (4, .int _), (5, .int _)]) C dX11_cheese_94 (by decide) rfl ?_
    refine zr_aload_n C dX11_cheese_96 rfl ?_
    refine zf_X11_142 C (Nat.le_of_ble_eq_true rfl) dX11_cheese_97 ?_
    refine zr_iload C dX11_cheese_100 rfl ?_
    refine zr_lload C dX11_cheese_102 rfl ?_
    refine zr_lconst (v := 0) C dX11_cheese_104 rfl ?_
    refine zr_lcmp C dX11_cheese_105 ?_
    refine zr_if_ge (tgt := 113) C dX11_cheese_106 (by decide) ?_ ?_
    · refine zr_lload C dX11_cheese_113 rfl ?_
      refine zr_ldc2 (v := 10000) C dX11_cheese_115 wz_1622 ?_
      refine zr_ldiv C dX11_cheese_118 ?_
      refine zr_l2i C dX11_cheese_119 ?_
      exact zr_sub [1, 2, 3, 4, 5, 0] rfl (c_X11_cheese_120 F rec59 C hh hrec59 σ l1 l2 l4 l5 ((((((l1.toInt64) * (((σ.1 65 0 l5.toNatClampNeg)).toInt64)) * 10000) / l2) + (((σ.1 66 0 l5.toNatClampNeg)).toInt64))) (((((((((l1.toInt64) * (((σ.1 65 0 l5.toNatClampNeg)).toInt64)) * 10000) / l2) + (((σ.1 66 0 l5.toNatClampNeg)).toInt64)) / 10000)).toInt32)) l5)
    · refine zr_iconst (v := 0) C dX11_cheese_109 rfl ?_
      refine zr_goto (tgt := 120) C dX11_cheese_110 (by decide) ?_
      exact zr_sub [1, 2, 3, 4, 5, 0] rfl (c_X11_cheese_120 F rec59 C hh hrec59 σ l1 l2 l4 l5 ((((((l1.toInt64) * (((σ.1 65 0 l5.toNatClampNeg)).toInt64)) * 10000) / l2) + (((σ.1 66 0 l5.toNatClampNeg)).toInt64))) 0 l5)
def f_X11_cheese_19 (F : Nat) (rec19 : zMem → Int32 × Int64 × Int32 → Option (Int32 × zMem)) (σ : zMem) (x : Int32 × Int64 × Int32) : Option (Int32 × zMem) := if (σ.1 60 0 1) ≤ x.2.2 then (if (lg_cmp x.2.1 0) = 0 then (some (0, σ)) else (zit (f_X11_cheese_59 F) F σ ((x.1, x.2.1, 0, 0)))) else (zg (inb x.2.2 10) (rec19 σ ((x.1, (x.2.1 + (((σ.1 65 0 x.2.2.toNatClampNeg)).toInt64)), (x.2.2 + 1)))))
set_option maxHeartbeats 4000000 in
set_option maxRecDepth 100000 in
theorem c_X11_cheese_19 (F : Nat) {E : zEn} {h : Nat} {Z : zLay} (C : zCx E cX11_cheese RX11 8 (some .int) Z h) (hh : 2 ≤ h) : ∀ (n : Nat) (σ : zMem) (x : Int32 × Int64 × Int32), zKO E 8 Z (zMQ E Z (zQI Z)) 19 [(0, .ref (zad Z 60 0)), (1, .int x.1), (2, .long x.2.1), (4, .int x.2.2)] [] σ (zit (f_X11_cheese_19 F) n σ x) := by
  refine zr_loop (LL := fun (x : Int32 × Int64 × Int32) => [(0, .ref (zad Z 60 0)), (1, .int x.1), (2, .long x.2.1), (4, .int x.2.2)]) (ST := fun (x : Int32 × Int64 × Int32) => []) (fun rec19 hrec19 σ x => ?_)
  obtain ⟨l1, l2, l4⟩ := x
  show zKO E 8 Z (zMQ E Z (zQI Z)) 19 [(0, .ref (zad Z 60 0)), (1, .int l1), (2, .long l2), (4, .int l4)] [] σ (if (σ.1 60 0 1) ≤ l4 then (if (lg_cmp l2 0) = 0 then (some (0, σ)) else (zit (f_X11_cheese_59 F) F σ ((l1, l2, 0, 0)))) else (zg (inb l4 10) (rec19 σ ((l1, (l2 + (((σ.1 65 0 l4.toNatClampNeg)).toInt64)), (l4 + 1))))))
  refine zr_iload C dX11_cheese_19 rfl ?_
  refine zr_aload_n C dX11_cheese_21 rfl ?_
  refine zf_X11_160 C (Nat.le_of_ble_eq_true rfl) dX11_cheese_22 ?_
  refine zr_icmp_ge (tgt := 45) C dX11_cheese_25 (by decide) ?_ ?_
  · refine zr_lload_n C dX11_cheese_45 rfl ?_
    refine zr_lconst (v := 0) C dX11_cheese_46 rfl ?_
    refine zr_lcmp C dX11_cheese_47 ?_
    refine zr_if_ne (tgt := 53) C dX11_cheese_48 (by decide) ?_ ?_
    · refine zr_iconst (v := 0) C dX11_cheese_53 rfl ?_
      refine zr_istore (i := 4) (L1 := [(4, .int _), (0, .ref _), (1, .int _), (2, .long _)]) C dX11_cheese_54 (by decide) rfl ?_
      refine zr_iconst (v := 0) C dX11_cheese_56 rfl ?_
      refine zr_istore (i := 5) (L1 := [(5, .int _), (4, .int _), (0, .ref _), (1, .int _), (2, .long _)]) C dX11_cheese_57 (by decide) rfl ?_
      exact zr_sub [2, 3, 4, 1, 0] rfl (c_X11_cheese_59 F C hh F σ ((l1, l2, 0, 0)))
    · refine zr_iconst (v := 0) C dX11_cheese_51 rfl ?_
      exact zr_iret C dX11_cheese_52
  · refine zr_lload_n C dX11_cheese_28 rfl ?_
    refine zr_aload_n C dX11_cheese_29 rfl ?_
    refine zf_X11_21 C (Nat.le_of_ble_eq_true rfl) dX11_cheese_30 ?_
    refine zr_iload C dX11_cheese_33 rfl ?_
    refine zr_iald (n := 10) C dX11_cheese_35 (Nat.le_of_ble_eq_true rfl) rfl ?_
    refine zr_i2l C dX11_cheese_36 ?_
    refine zr_ladd C dX11_cheese_37 ?_
    refine zr_lstore_n (i := 2) (L1 := [(2, .long _), (0, .ref _), (1, .int _), (4, .int _)]) C dX11_cheese_38 rfl (by decide) rfl ?_
    refine zr_iinc (kk := 3) (v := (l4 + 1)) (L1 := [(4, .int _), (2, .long _), (0, .ref _), (1, .int _)]) C dX11_cheese_39 rfl rfl (by decide) rfl ?_
    refine zr_goto (tgt := 19) C dX11_cheese_42 (by decide) ?_
    exact zr_sub [2, 3, 1, 0] rfl (hrec19 σ ((l1, (l2 + (((σ.1 65 0 l4.toNatClampNeg)).toInt64)), (l4 + 1))))
def f_X11_cheese (F : Nat) (σ : zMem) (a1 : Int32) : Option (Int32 × zMem) := zb (f_X11_in F σ a1 0 9999) fun r5 m5 => if r5 = 0 then (some ((-2), m5)) else (zit (f_X11_cheese_19 F) F m5 ((a1, 0, 0)))
set_option maxHeartbeats 4000000 in
set_option maxRecDepth 100000 in
theorem c_X11_cheese (l : Launch) (Z : zLay) (F : Nat) (σ : zMem) (a1 : Int32) (r : Int32) (σ1 : zMem) (ho : f_X11_cheese F σ a1 = some (r, σ1)) : zMet l yX11_cheese cX11_cheese 8 (some .int) 2 Z [.ref (zad Z 60 0), .int (a1)] σ (zQI Z r σ1) := by
  refine zMet_of (Qc := zQI Z) (by decide) (Nat.le_of_ble_eq_true rfl) [(0, .ref (zad Z 60 0)), (1, .int (a1))] rfl (fun E C => ?_) ho
  have hh : 2 ≤ 2 := Nat.le_refl _
  show zKO E 8 Z (zMQ E Z (zQI Z)) 0 [(0, .ref (zad Z 60 0)), (1, .int (a1))] [] σ _
  unfold f_X11_cheese
  refine zr_iload_n C dX11_cheese_0 rfl ?_
  refine zr_iconst (v := 0) C dX11_cheese_1 rfl ?_
  refine zr_sipush (v := 9999) C dX11_cheese_2 rfl ?_
  refine zk_X11_163 C F (Nat.le_trans (by decide) hh) (by simp [Value.category]) dX11_cheese_5 (fun r5 m5 => ?_)
  refine zr_if_ne (tgt := 14) C dX11_cheese_8 (by decide) ?_ ?_
  · refine zr_lconst (v := 0) C dX11_cheese_14 rfl ?_
    refine zr_lstore_n (i := 2) (L1 := [(2, .long _), (0, .ref _), (1, .int _)]) C dX11_cheese_15 rfl (by decide) rfl ?_
    refine zr_iconst (v := 0) C dX11_cheese_16 rfl ?_
    refine zr_istore (i := 4) (L1 := [(4, .int _), (2, .long _), (0, .ref _), (1, .int _)]) C dX11_cheese_17 (by decide) rfl ?_
    exact zr_sub [2, 3, 1, 0] rfl (c_X11_cheese_19 F C hh F m5 ((a1, 0, 0)))
  · refine zr_bipush (v := -2) C dX11_cheese_11 rfl ?_
    exact zr_iret C dX11_cheese_13
def f_X11_rest (F : Nat) (σ : zMem) (a1 : Int32) : Option (Int32 × zMem) := zb (f_X11_isHouse F σ a1) fun r2 m2 => if r2 = 0 then (some ((-1000000), m2)) else (zg (inb a1 10) (some ((m2.1 66 0 a1.toNatClampNeg), m2)))
set_option maxHeartbeats 4000000 in
set_option maxRecDepth 100000 in
theorem c_X11_rest (l : Launch) (Z : zLay) (F : Nat) (σ : zMem) (a1 : Int32) (r : Int32) (σ1 : zMem) (ho : f_X11_rest F σ a1 = some (r, σ1)) : zMet l yX11_rest cX11_rest 2 (some .int) 3 Z [.ref (zad Z 60 0), .int (a1)] σ (zQI Z r σ1) := by
  refine zMet_of (Qc := zQI Z) (by decide) (Nat.le_of_ble_eq_true rfl) [(0, .ref (zad Z 60 0)), (1, .int (a1))] rfl (fun E C => ?_) ho
  have hh : 3 ≤ 3 := Nat.le_refl _
  show zKO E 2 Z (zMQ E Z (zQI Z)) 0 [(0, .ref (zad Z 60 0)), (1, .int (a1))] [] σ _
  unfold f_X11_rest
  refine zr_aload_n C dX11_rest_0 rfl ?_
  refine zr_iload_n C dX11_rest_1 rfl ?_
  refine zk_X11_181 C F (Nat.le_of_ble_eq_true rfl) (Nat.le_trans (by decide) hh) (by simp [Value.category]) dX11_rest_2 (fun r2 m2 => ?_)
  refine zr_if_eq (tgt := 17) C dX11_rest_5 (by decide) ?_ ?_
  · refine zr_ldc_w (v := -1000000) C dX11_rest_17 wz_1631 ?_
    exact zr_iret C dX11_rest_20
  · refine zr_aload_n C dX11_rest_8 rfl ?_
    refine zf_X11_24 C (Nat.le_of_ble_eq_true rfl) dX11_rest_9 ?_
    refine zr_iload_n C dX11_rest_12 rfl ?_
    refine zr_iald (n := 10) C dX11_rest_13 (Nat.le_of_ble_eq_true rfl) rfl ?_
    refine zr_goto (tgt := 20) C dX11_rest_14 (by decide) ?_
    exact zr_iret C dX11_rest_20
def f_X11_fell_131 (F : Nat) (rec131 : zMem → Int32 × Int32 × Int32 → Option (Int32 × zMem)) (σ : zMem) (x : Int32 × Int32 × Int32) : Option (Int32 × zMem) := if (σ.1 60 0 1) ≤ x.2.2 then (some (x.1, (zwi σ 60 0 45 (((σ.1 60 0 45) + x.1))))) else (zg (inb x.2.2 10) (zg (inb 4 5) (zg (inb x.2.2 10) (zg (inb 4 5) (zg (inb 4 5) (rec131 (zwi σ 62 x.2.2.toNatClampNeg 4 (((σ.1 62 x.2.2.toNatClampNeg 4) - (zmax 0 ((zmin x.2.1 ((σ.1 62 x.2.2.toNatClampNeg 4)))))))) ((x.1, (x.2.1 - (zmax 0 ((zmin x.2.1 ((σ.1 62 x.2.2.toNatClampNeg 4)))))), (x.2.2 + 1)))))))))
set_option maxHeartbeats 4000000 in
set_option maxRecDepth 100000 in
theorem c_X11_fell_131 (F : Nat) {E : zEn} {h : Nat} {Z : zLay} (C : zCx E cX11_fell RX11 8 (some .int) Z h) (hh : 7 ≤ h) : ∀ (n : Nat) (σ : zMem) (x : Int32 × Int32 × Int32), zKO E 8 Z (zMQ E Z (zQI Z)) 131 [(0, .ref (zad Z 60 0)), (3, .int x.1), (4, .int x.2.1), (5, .int x.2.2)] [] σ (zit (f_X11_fell_131 F) n σ x) := by
  refine zr_loop (LL := fun (x : Int32 × Int32 × Int32) => [(0, .ref (zad Z 60 0)), (3, .int x.1), (4, .int x.2.1), (5, .int x.2.2)]) (ST := fun (x : Int32 × Int32 × Int32) => []) (fun rec131 hrec131 σ x => ?_)
  obtain ⟨l3, l4, l5⟩ := x
  show zKO E 8 Z (zMQ E Z (zQI Z)) 131 [(0, .ref (zad Z 60 0)), (3, .int l3), (4, .int l4), (5, .int l5)] [] σ (if (σ.1 60 0 1) ≤ l5 then (some (l3, (zwi σ 60 0 45 (((σ.1 60 0 45) + l3))))) else (zg (inb l5 10) (zg (inb 4 5) (zg (inb l5 10) (zg (inb 4 5) (zg (inb 4 5) (rec131 (zwi σ 62 l5.toNatClampNeg 4 (((σ.1 62 l5.toNatClampNeg 4) - (zmax 0 ((zmin l4 ((σ.1 62 l5.toNatClampNeg 4)))))))) ((l3, (l4 - (zmax 0 ((zmin l4 ((σ.1 62 l5.toNatClampNeg 4)))))), (l5 + 1))))))))))
  refine zr_iload C dX11_fell_131 rfl ?_
  refine zr_aload_n C dX11_fell_133 rfl ?_
  refine zf_X11_160 C (Nat.le_of_ble_eq_true rfl) dX11_fell_134 ?_
  refine zr_icmp_ge (tgt := 187) C dX11_fell_137 (by decide) ?_ ?_
  · refine zr_aload_n C dX11_fell_187 rfl ?_
    refine zr_dup C dX11_fell_188 rfl ?_
    refine zf_X11_442 C (Nat.le_of_ble_eq_true rfl) dX11_fell_189 ?_
    refine zr_iload_n C dX11_fell_192 rfl ?_
    refine zr_iadd C dX11_fell_193 ?_
    refine zp_X11_442 C (Nat.le_of_ble_eq_true rfl) dX11_fell_194 ?_
    refine zr_iload_n C dX11_fell_197 rfl ?_
    exact zr_iret C dX11_fell_198
  · refine zr_iconst (v := 0) C dX11_fell_140 rfl ?_
    refine zr_iload C dX11_fell_141 rfl ?_
    refine zr_aload_n C dX11_fell_143 rfl ?_
    refine zf_X11_9 C (Nat.le_of_ble_eq_true rfl) dX11_fell_144 ?_
    refine zr_iload C dX11_fell_147 rfl ?_
    refine zr_aald (n := 10) (k1 := 62) C dX11_fell_149 (Nat.le_of_ble_eq_true rfl) rfl rfl rfl (fun hb149 => ?_)
    refine zr_iconst (v := 4) C dX11_fell_150 rfl ?_
    refine zr_iald (n := 5) C dX11_fell_151 hb149 rfl ?_
    refine zr_mmin C wz_1449 wz_796 wz_17 wz_797 (Nat.le_trans (by decide) hh) (by simp [Value.category]) dX11_fell_152 ?_
    refine zr_mmax C wz_1555 wz_606 wz_17 wz_607 (Nat.le_trans (by decide) hh) (by simp [Value.category]) dX11_fell_155 ?_
    refine zr_istore (i := 6) (L1 := [(6, .int _), (0, .ref _), (3, .int _), (4, .int _), (5, .int _)]) C dX11_fell_158 (by decide) rfl ?_
    refine zr_aload_n C dX11_fell_160 rfl ?_
    refine zf_X11_9 C (Nat.le_of_ble_eq_true rfl) dX11_fell_161 ?_
    refine zr_iload C dX11_fell_164 rfl ?_
    refine zr_aald (n := 10) (k1 := 62) C dX11_fell_166 (Nat.le_of_ble_eq_true rfl) rfl rfl rfl (fun hb166 => ?_)
    refine zr_iconst (v := 4) C dX11_fell_167 rfl ?_
    refine zr_dup2 C dX11_fell_168 rfl rfl ?_
    refine zr_iald (n := 5) C dX11_fell_169 hb166 rfl ?_
    refine zr_iload C dX11_fell_170 rfl ?_
    refine zr_isub C dX11_fell_172 ?_
    refine zr_iast (n := 5) C dX11_fell_173 hb166 (fun _ _ => rfl) ?_
    refine zr_iload C dX11_fell_174 rfl ?_
    refine zr_iload C dX11_fell_176 rfl ?_
    refine zr_isub C dX11_fell_178 ?_
    refine zr_istore (i := 4) (L1 := [(4, .int _), (6, .int _), (0, .ref _), (3, .int _), (5, .int _)]) C dX11_fell_179 (by decide) rfl ?_
    refine zr_iinc (kk := 4) (v := (l5 + 1)) (L1 := [(5, .int _), (4, .int _), (6, .int _), (0, .ref _), (3, .int _)]) C dX11_fell_181 rfl rfl (by decide) rfl ?_
    refine zr_goto (tgt := 131) C dX11_fell_184 (by decide) ?_
    exact zr_sub [3, 4, 1, 0] rfl (hrec131 (zwi σ 62 l5.toNatClampNeg 4 (((σ.1 62 l5.toNatClampNeg 4) - (zmax 0 ((zmin l4 ((σ.1 62 l5.toNatClampNeg 4)))))))) ((l3, (l4 - (zmax 0 ((zmin l4 ((σ.1 62 l5.toNatClampNeg 4)))))), (l5 + 1))))
def f_X11_fell_47 (F : Nat) (rec47 : zMem → Int32 × Int32 × Int32 × Int32 × Int32 → Option (Int32 × zMem)) (σ : zMem) (x : Int32 × Int32 × Int32 × Int32 × Int32) : Option (Int32 × zMem) := if (σ.1 60 0 1) ≤ x.2.2.2.2 then (zg (inb x.1 6) (zit (f_X11_fell_131 F) F (zwi σ 93 0 x.1.toNatClampNeg 0) ((x.2.2.1, x.2.2.2.1, 0)))) else (zg (zni ((σ.1 60 0 1))) (zb (f_X11_now F σ ((zrem ((x.2.1 + x.2.2.2.2)) ((σ.1 60 0 1)))) 6) fun r75 m75 => zg (inb ((zrem ((x.2.1 + x.2.2.2.2)) ((σ.1 60 0 1)))) 10) (zg (inb 0 5) (zg (inb ((zrem ((x.2.1 + x.2.2.2.2)) ((σ.1 60 0 1)))) 10) (zg (inb ((zrem ((x.2.1 + x.2.2.2.2)) ((σ.1 60 0 1)))) 10) (rec47 (zwi m75 69 0 ((zrem ((x.2.1 + x.2.2.2.2)) ((σ.1 60 0 1)))).toNatClampNeg (((m75.1 69 0 ((zrem ((x.2.1 + x.2.2.2.2)) ((σ.1 60 0 1)))).toNatClampNeg) + (((zminl ((x.2.2.2.1.toInt64)) (((r75.toInt64) * (((m75.1 62 (((zrem ((x.2.1 + x.2.2.2.2)) ((σ.1 60 0 1)))).toNatClampNeg) 0)).toInt64))))).toInt32)))) ((x.1, x.2.1, x.2.2.1, (x.2.2.2.1 - (((zminl ((x.2.2.2.1.toInt64)) (((r75.toInt64) * (((m75.1 62 (((zrem ((x.2.1 + x.2.2.2.2)) ((σ.1 60 0 1)))).toNatClampNeg) 0)).toInt64))))).toInt32)), (x.2.2.2.2 + 1)))))))))
set_option maxHeartbeats 4000000 in
set_option maxRecDepth 100000 in
theorem c_X11_fell_47 (F : Nat) {E : zEn} {h : Nat} {Z : zLay} (C : zCx E cX11_fell RX11 8 (some .int) Z h) (hh : 7 ≤ h) : ∀ (n : Nat) (σ : zMem) (x : Int32 × Int32 × Int32 × Int32 × Int32), zKO E 8 Z (zMQ E Z (zQI Z)) 47 [(0, .ref (zad Z 60 0)), (1, .int x.1), (2, .int x.2.1), (3, .int x.2.2.1), (4, .int x.2.2.2.1), (5, .int x.2.2.2.2)] [] σ (zit (f_X11_fell_47 F) n σ x) := by
  refine zr_loop (LL := fun (x : Int32 × Int32 × Int32 × Int32 × Int32) => [(0, .ref (zad Z 60 0)), (1, .int x.1), (2, .int x.2.1), (3, .int x.2.2.1), (4, .int x.2.2.2.1), (5, .int x.2.2.2.2)]) (ST := fun (x : Int32 × Int32 × Int32 × Int32 × Int32) => []) (fun rec47 hrec47 σ x => ?_)
  obtain ⟨l1, l2, l3, l4, l5⟩ := x
  show zKO E 8 Z (zMQ E Z (zQI Z)) 47 [(0, .ref (zad Z 60 0)), (1, .int l1), (2, .int l2), (3, .int l3), (4, .int l4), (5, .int l5)] [] σ (if (σ.1 60 0 1) ≤ l5 then (zg (inb l1 6) (zit (f_X11_fell_131 F) F (zwi σ 93 0 l1.toNatClampNeg 0) ((l3, l4, 0)))) else (zg (zni ((σ.1 60 0 1))) (zb (f_X11_now F σ ((zrem ((l2 + l5)) ((σ.1 60 0 1)))) 6) fun r75 m75 => zg (inb ((zrem ((l2 + l5)) ((σ.1 60 0 1)))) 10) (zg (inb 0 5) (zg (inb ((zrem ((l2 + l5)) ((σ.1 60 0 1)))) 10) (zg (inb ((zrem ((l2 + l5)) ((σ.1 60 0 1)))) 10) (rec47 (zwi m75 69 0 ((zrem ((l2 + l5)) ((σ.1 60 0 1)))).toNatClampNeg (((m75.1 69 0 ((zrem ((l2 + l5)) ((σ.1 60 0 1)))).toNatClampNeg) + (((zminl ((l4.toInt64)) (((r75.toInt64) * (((m75.1 62 (((zrem ((l2 + l5)) ((σ.1 60 0 1)))).toNatClampNeg) 0)).toInt64))))).toInt32)))) ((l1, l2, l3, (l4 - (((zminl ((l4.toInt64)) (((r75.toInt64) * (((m75.1 62 (((zrem ((l2 + l5)) ((σ.1 60 0 1)))).toNatClampNeg) 0)).toInt64))))).toInt32)), (l5 + 1))))))))))
  refine zr_iload C dX11_fell_47 rfl ?_
  refine zr_aload_n C dX11_fell_49 rfl ?_
  refine zf_X11_160 C (Nat.le_of_ble_eq_true rfl) dX11_fell_50 ?_
  refine zr_icmp_ge (tgt := 121) C dX11_fell_53 (by decide) ?_ ?_
  · refine zr_aload_n C dX11_fell_121 rfl ?_
    refine zf_X11_89 C (Nat.le_of_ble_eq_true rfl) dX11_fell_122 ?_
    refine zr_iload_n C dX11_fell_125 rfl ?_
    refine zr_iconst (v := 0) C dX11_fell_126 rfl ?_
    refine zr_iast (n := 6) C dX11_fell_127 (Nat.le_of_ble_eq_true rfl) (fun _ _ => rfl) ?_
    refine zr_iconst (v := 0) C dX11_fell_128 rfl ?_
    refine zr_istore (i := 5) (L1 := [(5, .int _), (0, .ref _), (1, .int _), (2, .int _), (3, .int _), (4, .int _)]) C dX11_fell_129 (by decide) rfl ?_
    exact zr_sub [1, 4, 5, 0] rfl (c_X11_fell_131 F C hh F (zwi σ 93 0 l1.toNatClampNeg 0) ((l3, l4, 0)))
  · refine zr_iload_n C dX11_fell_56 rfl ?_
    refine zr_iload C dX11_fell_57 rfl ?_
    refine zr_iadd C dX11_fell_59 ?_
    refine zr_aload_n C dX11_fell_60 rfl ?_
    refine zf_X11_160 C (Nat.le_of_ble_eq_true rfl) dX11_fell_61 ?_
    refine zr_irem C dX11_fell_64 ?_
    refine zr_istore (i := 6) (L1 := [(6, .int _), (0, .ref _), (1, .int _), (2, .int _), (3, .int _), (4, .int _), (5, .int _)]) C dX11_fell_65 (by decide) rfl ?_
    refine zr_iload C dX11_fell_67 rfl ?_
    refine zr_i2l C dX11_fell_69 ?_
    refine zr_aload_n C dX11_fell_70 rfl ?_
    refine zr_iload C dX11_fell_71 rfl ?_
    refine zr_bipush (v := 6) C dX11_fell_73 rfl ?_
    refine zk_X11_366 C F (Nat.le_of_ble_eq_true rfl) (Nat.le_trans (by decide) hh) (by simp [Value.category]) dX11_fell_75 (fun r75 m75 => ?_)
    refine zr_i2l C dX11_fell_78 ?_
    refine zr_aload_n C dX11_fell_79 rfl ?_
    refine zf_X11_9 C (Nat.le_of_ble_eq_true rfl) dX11_fell_80 ?_
    refine zr_iload C dX11_fell_83 rfl ?_
    refine zr_aald (n := 10) (k1 := 62) C dX11_fell_85 (Nat.le_of_ble_eq_true rfl) rfl rfl rfl (fun hb85 => ?_)
    refine zr_iconst (v := 0) C dX11_fell_86 rfl ?_
    refine zr_iald (n := 5) C dX11_fell_87 hb85 rfl ?_
    refine zr_i2l C dX11_fell_88 ?_
    refine zr_lmul C dX11_fell_89 ?_
    refine zr_mminl C wz_1569 wz_818 wz_17 wz_819 (Nat.le_trans (by decide) hh) (by simp [Value.category]) dX11_fell_90 ?_
    refine zr_l2i C dX11_fell_93 ?_
    refine zr_istore (i := 7) (L1 := [(7, .int _), (6, .int _), (0, .ref _), (1, .int _), (2, .int _), (3, .int _), (4, .int _), (5, .int _)]) C dX11_fell_94 (by decide) rfl ?_
    refine zr_aload_n C dX11_fell_96 rfl ?_
    refine zf_X11_33 C (Nat.le_of_ble_eq_true rfl) dX11_fell_97 ?_
    refine zr_iload C dX11_fell_100 rfl ?_
    refine zr_dup2 C dX11_fell_102 rfl rfl ?_
    refine zr_iald (n := 10) C dX11_fell_103 (Nat.le_of_ble_eq_true rfl) rfl ?_
    refine zr_iload C dX11_fell_104 rfl ?_
    refine zr_iadd C dX11_fell_106 ?_
    refine zr_iast (n := 10) C dX11_fell_107 (Nat.le_of_ble_eq_true rfl) (fun _ _ => rfl) ?_
    refine zr_iload C dX11_fell_108 rfl ?_
    refine zr_iload C dX11_fell_110 rfl ?_
    refine zr_isub C dX11_fell_112 ?_
    refine zr_istore (i := 4) (L1 := [(4, .int _), (7, .int _), (6, .int _), (0, .ref _), (1, .int _), (2, .int _), (3, .int _), (5, .int _)]) C dX11_fell_113 (by decide) rfl ?_
    refine zr_iinc (kk := 7) (v := (l5 + 1)) (L1 := [(5, .int _), (4, .int _), (7, .int _), (6, .int _), (0, .ref _), (1, .int _), (2, .int _), (3, .int _)]) C dX11_fell_115 rfl rfl (by decide) rfl ?_
    refine zr_goto (tgt := 47) C dX11_fell_118 (by decide) ?_
    exact zr_sub [4, 5, 6, 7, 1, 0] rfl (hrec47 (zwi m75 69 0 ((zrem ((l2 + l5)) ((σ.1 60 0 1)))).toNatClampNeg (((m75.1 69 0 ((zrem ((l2 + l5)) ((σ.1 60 0 1)))).toNatClampNeg) + (((zminl ((l4.toInt64)) (((r75.toInt64) * (((m75.1 62 (((zrem ((l2 + l5)) ((σ.1 60 0 1)))).toNatClampNeg) 0)).toInt64))))).toInt32)))) ((l1, l2, l3, (l4 - (((zminl ((l4.toInt64)) (((r75.toInt64) * (((m75.1 62 (((zrem ((l2 + l5)) ((σ.1 60 0 1)))).toNatClampNeg) 0)).toInt64))))).toInt32)), (l5 + 1))))
def f_X11_fell (F : Nat) (σ : zMem) (a1 : Int32) (a2 : Int32) : Option (Int32 × zMem) := zb (f_X11_isSlope F σ a1) fun r2 m2 => if r2 = 0 then (some ((-1), m2)) else (zb (f_X11_isHouse F m2 a2) fun r10 m10 => if r10 = 0 then (some ((-1), m10)) else (zb (f_X11_riskOf F m10 a1 0) fun r21 m21 => if r21 < 100 then (zg (inb a1 6) (zg (zni 4) (zit (f_X11_fell_47 F) F m21 ((a1, a2, ((m21.1 93 0 a1.toNatClampNeg) / 4), ((m21.1 93 0 a1.toNatClampNeg) / 4), 0))))) else (some ((-3), m21))))
set_option maxHeartbeats 4000000 in
set_option maxRecDepth 100000 in
theorem c_X11_fell (l : Launch) (Z : zLay) (F : Nat) (σ : zMem) (a1 : Int32) (a2 : Int32) (r : Int32) (σ1 : zMem) (ho : f_X11_fell F σ a1 a2 = some (r, σ1)) : zMet l yX11_fell cX11_fell 8 (some .int) 7 Z [.ref (zad Z 60 0), .int (a1), .int (a2)] σ (zQI Z r σ1) := by
  refine zMet_of (Qc := zQI Z) (by decide) (Nat.le_of_ble_eq_true rfl) [(0, .ref (zad Z 60 0)), (1, .int (a1)), (2, .int (a2))] rfl (fun E C => ?_) ho
  have hh : 7 ≤ 7 := Nat.le_refl _
  show zKO E 8 Z (zMQ E Z (zQI Z)) 0 [(0, .ref (zad Z 60 0)), (1, .int (a1)), (2, .int (a2))] [] σ _
  unfold f_X11_fell
  refine zr_aload_n C dX11_fell_0 rfl ?_
  refine zr_iload_n C dX11_fell_1 rfl ?_
  refine zk_X11_423 C F (Nat.le_of_ble_eq_true rfl) (Nat.le_trans (by decide) hh) (by simp [Value.category]) dX11_fell_2 (fun r2 m2 => ?_)
  refine zr_if_eq (tgt := 16) C dX11_fell_5 (by decide) ?_ ?_
  · refine zr_iconst (v := -1) C dX11_fell_16 rfl ?_
    exact zr_iret C dX11_fell_17
  · refine zr_aload_n C dX11_fell_8 rfl ?_
    refine zr_iload_n C dX11_fell_9 rfl ?_
    refine zk_X11_181 C F (Nat.le_of_ble_eq_true rfl) (Nat.le_trans (by decide) hh) (by simp [Value.category]) dX11_fell_10 (fun r10 m10 => ?_)
    refine zr_if_ne (tgt := 18) C dX11_fell_13 (by decide) ?_ ?_
    · refine zr_aload_n C dX11_fell_18 rfl ?_
      refine zr_iload_n C dX11_fell_19 rfl ?_
      refine zr_iconst (v := 0) C dX11_fell_20 rfl ?_
      refine zk_X11_426 C F (Nat.le_of_ble_eq_true rfl) (Nat.le_trans (by decide) hh) (by simp [Value.category]) dX11_fell_21 (fun r21 m21 => ?_)
      refine zr_bipush (v := 100) C dX11_fell_24 rfl ?_
      refine zr_icmp_lt (tgt := 32) C dX11_fell_26 (by decide) ?_ ?_
      · refine zr_aload_n C dX11_fell_32 rfl ?_
        refine zf_X11_89 C (Nat.le_of_ble_eq_true rfl) dX11_fell_33 ?_
        refine zr_iload_n C dX11_fell_36 rfl ?_
        refine zr_iald (n := 6) C dX11_fell_37 (Nat.le_of_ble_eq_true rfl) rfl ?_
        refine zr_iconst (v := 4) C dX11_fell_38 rfl ?_
        refine zr_idiv C dX11_fell_39 ?_
        refine zr_istore_n (i := 3) (L1 := [(3, .int _), (0, .ref _), (1, .int _), (2, .int _)]) C dX11_fell_40 rfl (by decide) rfl ?_
        refine zr_iload_n C dX11_fell_41 rfl ?_
        refine zr_istore (i := 4) (L1 := [(4, .int _), (3, .int _), (0, .ref _), (1, .int _), (2, .int _)]) C dX11_fell_42 (by decide) rfl ?_
        refine zr_iconst (v := 0) C dX11_fell_44 rfl ?_
        refine zr_istore (i := 5) (L1 := [(5, .int _), (4, .int _), (3, .int _), (0, .ref _), (1, .int _), (2, .int _)]) C dX11_fell_45 (by decide) rfl ?_
        exact zr_sub [3, 4, 5, 2, 1, 0] rfl (c_X11_fell_47 F C hh F m21 ((a1, a2, ((m21.1 93 0 a1.toNatClampNeg) / 4), ((m21.1 93 0 a1.toNatClampNeg) / 4), 0)))
      · refine zr_bipush (v := -3) C dX11_fell_29 rfl ?_
        exact zr_iret C dX11_fell_31
    · refine zr_iconst (v := -1) C dX11_fell_16 rfl ?_
      exact zr_iret C dX11_fell_17
def f_X11_channel (F : Nat) (σ : zMem) (a1 : Int32) (a2 : Int32) (a3 : Int32) : Option (Int32 × zMem) := zb (f_X11_in F σ a1 0 ((σ.1 60 0 46))) fun r6 m6 => if r6 = 0 then (some ((-1), m6)) else (zb (f_X11_isHouse F m6 a2) fun r14 m14 => if r14 = 0 then (some ((-1), m14)) else (zb (f_X11_in F m14 a3 0 100) fun r26 m26 => if r26 = 0 then (some ((-2), m26)) else (if a1 = 10 then (some ((-4), m26)) else (zg (inb a1 10) (zg (inb a1 10) (some (((zwi (zwi (zwi m26 101 0 a1.toNatClampNeg a2) 102 0 a1.toNatClampNeg a3) 60 0 46 ((zmax (((zwi (zwi m26 101 0 a1.toNatClampNeg a2) 102 0 a1.toNatClampNeg a3).1 60 0 46)) ((a1 + 1))))).1 60 0 46), (zwi (zwi (zwi m26 101 0 a1.toNatClampNeg a2) 102 0 a1.toNatClampNeg a3) 60 0 46 ((zmax (((zwi (zwi m26 101 0 a1.toNatClampNeg a2) 102 0 a1.toNatClampNeg a3).1 60 0 46)) ((a1 + 1))))))))))))
set_option maxHeartbeats 4000000 in
set_option maxRecDepth 100000 in
theorem c_X11_channel (l : Launch) (Z : zLay) (F : Nat) (σ : zMem) (a1 : Int32) (a2 : Int32) (a3 : Int32) (r : Int32) (σ1 : zMem) (ho : f_X11_channel F σ a1 a2 a3 = some (r, σ1)) : zMet l yX11_channel cX11_channel 4 (some .int) 3 Z [.ref (zad Z 60 0), .int (a1), .int (a2), .int (a3)] σ (zQI Z r σ1) := by
  refine zMet_of (Qc := zQI Z) (by decide) (Nat.le_of_ble_eq_true rfl) [(0, .ref (zad Z 60 0)), (1, .int (a1)), (2, .int (a2)), (3, .int (a3))] rfl (fun E C => ?_) ho
  have hh : 3 ≤ 3 := Nat.le_refl _
  show zKO E 4 Z (zMQ E Z (zQI Z)) 0 [(0, .ref (zad Z 60 0)), (1, .int (a1)), (2, .int (a2)), (3, .int (a3))] [] σ _
  unfold f_X11_channel
  refine zr_iload_n C dX11_channel_0 rfl ?_
  refine zr_iconst (v := 0) C dX11_channel_1 rfl ?_
  refine zr_aload_n C dX11_channel_2 rfl ?_
  refine zf_X11_445 C (Nat.le_of_ble_eq_true rfl) dX11_channel_3 ?_
  refine zk_X11_163 C F (Nat.le_trans (by decide) hh) (by simp [Value.category]) dX11_channel_6 (fun r6 m6 => ?_)
  refine zr_if_eq (tgt := 20) C dX11_channel_9 (by decide) ?_ ?_
  · refine zr_iconst (v := -1) C dX11_channel_20 rfl ?_
    exact zr_iret C dX11_channel_21
  · refine zr_aload_n C dX11_channel_12 rfl ?_
    refine zr_iload_n C dX11_channel_13 rfl ?_
    refine zk_X11_181 C F (Nat.le_of_ble_eq_true rfl) (Nat.le_trans (by decide) hh) (by simp [Value.category]) dX11_channel_14 (fun r14 m14 => ?_)
    refine zr_if_ne (tgt := 22) C dX11_channel_17 (by decide) ?_ ?_
    · refine zr_iload_n C dX11_channel_22 rfl ?_
      refine zr_iconst (v := 0) C dX11_channel_23 rfl ?_
      refine zr_bipush (v := 100) C dX11_channel_24 rfl ?_
      refine zk_X11_163 C F (Nat.le_trans (by decide) hh) (by simp [Value.category]) dX11_channel_26 (fun r26 m26 => ?_)
      refine zr_if_ne (tgt := 35) C dX11_channel_29 (by decide) ?_ ?_
      · refine zr_iload_n C dX11_channel_35 rfl ?_
        refine zr_bipush (v := 10) C dX11_channel_36 rfl ?_
        refine zr_icmp_ne (tgt := 44) C dX11_channel_38 (by decide) ?_ ?_
        · refine zr_aload_n C dX11_channel_44 rfl ?_
          refine zf_X11_112 C (Nat.le_of_ble_eq_true rfl) dX11_channel_45 ?_
          refine zr_iload_n C dX11_channel_48 rfl ?_
          refine zr_iload_n C dX11_channel_49 rfl ?_
          refine zr_iast (n := 10) C dX11_channel_50 (Nat.le_of_ble_eq_true rfl) (fun _ _ => rfl) ?_
          refine zr_aload_n C dX11_channel_51 rfl ?_
          refine zf_X11_115 C (Nat.le_of_ble_eq_true rfl) dX11_channel_52 ?_
          refine zr_iload_n C dX11_channel_55 rfl ?_
          refine zr_iload_n C dX11_channel_56 rfl ?_
          refine zr_iast (n := 10) C dX11_channel_57 (Nat.le_of_ble_eq_true rfl) (fun _ _ => rfl) ?_
          refine zr_aload_n C dX11_channel_58 rfl ?_
          refine zr_aload_n C dX11_channel_59 rfl ?_
          refine zf_X11_445 C (Nat.le_of_ble_eq_true rfl) dX11_channel_60 ?_
          refine zr_iload_n C dX11_channel_63 rfl ?_
          refine zr_iconst (v := 1) C dX11_channel_64 rfl ?_
          refine zr_iadd C dX11_channel_65 ?_
          refine zr_mmax C wz_1555 wz_606 wz_17 wz_607 (Nat.le_trans (by decide) hh) (by simp [Value.category]) dX11_channel_66 ?_
          refine zp_X11_445 C (Nat.le_of_ble_eq_true rfl) dX11_channel_69 ?_
          refine zr_aload_n C dX11_channel_72 rfl ?_
          refine zf_X11_445 C (Nat.le_of_ble_eq_true rfl) dX11_channel_73 ?_
          exact zr_iret C dX11_channel_76
        · refine zr_bipush (v := -4) C dX11_channel_41 rfl ?_
          exact zr_iret C dX11_channel_43
      · refine zr_bipush (v := -2) C dX11_channel_32 rfl ?_
        exact zr_iret C dX11_channel_34
    · refine zr_iconst (v := -1) C dX11_channel_20 rfl ?_
      exact zr_iret C dX11_channel_21
end ZM
