section ZM
variable {E : zEn} {cc : ByteArray} {own : String} {nL h : Nat} {ret : Option FieldType} {Z : zLay} {α : Type} {QQ : α → zMem → State → Prop} {pc : Nat} {L : List (Nat × Value)} {st : List Value} {σ : zMem} {o o1 o2 : Option (α × zMem)}
def f_X11_in (F : Nat) (σ : zMem) (a0 : Int32) (a1 : Int32) (a2 : Int32) : Option (Int32 × zMem) := if a0 < a1 then (some (0, σ)) else (if a2 < a0 then (some (0, σ)) else (some (1, σ)))
set_option maxHeartbeats 4000000 in
set_option maxRecDepth 100000 in
theorem c_X11_in (l : Launch) (Z : zLay) (F : Nat) (σ : zMem) (a0 : Int32) (a1 : Int32) (a2 : Int32) (r : Int32) (σ1 : zMem) (ho : f_X11_in F σ a0 a1 a2 = some (r, σ1)) : zMet l yX11_in cX11_in 3 (some .boolean) 1 Z [.int (a0), .int (a1), .int (a2)] σ (zQI Z r σ1) := by
  refine zMet_of (Qc := zQI Z) (by decide) (Nat.le_of_ble_eq_true rfl) [(0, .int (a0)), (1, .int (a1)), (2, .int (a2))] rfl (fun E C => ?_) ho
  have hh : 1 ≤ 1 := Nat.le_refl _
  show zKO E 3 Z (zMQ E Z (zQI Z)) 0 [(0, .int (a0)), (1, .int (a1)), (2, .int (a2))] [] σ _
  unfold f_X11_in
  refine zr_iload_n C dX11_in_0 rfl ?_
  refine zr_iload_n C dX11_in_1 rfl ?_
  refine zr_icmp_gt (tgt := 14) C dX11_in_2 (by decide) ?_ ?_
  · refine zr_iconst (v := 0) C dX11_in_14 rfl ?_
    exact zr_zret C dX11_in_15 rfl
  · refine zr_iload_n C dX11_in_5 rfl ?_
    refine zr_iload_n C dX11_in_6 rfl ?_
    refine zr_icmp_gt (tgt := 14) C dX11_in_7 (by decide) ?_ ?_
    · refine zr_iconst (v := 0) C dX11_in_14 rfl ?_
      exact zr_zret C dX11_in_15 rfl
    · refine zr_iconst (v := 1) C dX11_in_10 rfl ?_
      refine zr_goto (tgt := 15) C dX11_in_11 (by decide) ?_
      exact zr_zret C dX11_in_15 rfl
theorem zk_X11_163 (C : zCx E cc RX11 nL ret Z h) (F : Nat) {b0 : Int32} {b1 : Int32} {b2 : Int32} (hh : 1 + 1 ≤ h) (hst8 : (st.map fun v => v.category).sum ≤ 8) (hd : decode cc pc = .ok (.invokestatic 163, 3)) {g : Int32 → zMem → Option (α × zMem)} (kk : ∀ (r : Int32) (σ1 : zMem), zKO E nL Z QQ (pc + 3) L (.int r :: st) σ1 (g r σ1)) : zKO E nL Z QQ pc L (.int b2 :: .int b1 :: .int b0 :: st) σ (zb (f_X11_in F σ b0 b1 b2) g) :=
  zr_callSI (As := [.int b0, .int b1, .int b2]) (ia := 3) C (fun r σ1 ho => c_X11_in (zla E) Z F σ b0 b1 b2 r σ1 ho) wz_1300 wz_1301 wz_1302 wz_12 (by decide +kernel) rfl (by decide) hh hd hst8 kk
def f_X11_isHouse (F : Nat) (σ : zMem) (a1 : Int32) : Option (Int32 × zMem) := zb (f_X11_in F σ a1 0 (((σ.1 60 0 1) - 1))) fun r8 m8 => zg (zbo r8) (some (r8, m8))
set_option maxHeartbeats 4000000 in
set_option maxRecDepth 100000 in
theorem c_X11_isHouse (l : Launch) (Z : zLay) (F : Nat) (σ : zMem) (a1 : Int32) (r : Int32) (σ1 : zMem) (ho : f_X11_isHouse F σ a1 = some (r, σ1)) : zMet l yX11_isHouse cX11_isHouse 2 (some .boolean) 2 Z [.ref (zad Z 60 0), .int (a1)] σ (zQI Z r σ1) := by
  refine zMet_of (Qc := zQI Z) (by decide) (Nat.le_of_ble_eq_true rfl) [(0, .ref (zad Z 60 0)), (1, .int (a1))] rfl (fun E C => ?_) ho
  have hh : 2 ≤ 2 := Nat.le_refl _
  show zKO E 2 Z (zMQ E Z (zQI Z)) 0 [(0, .ref (zad Z 60 0)), (1, .int (a1))] [] σ _
  unfold f_X11_isHouse
  refine zr_iload_n C dX11_isHouse_0 rfl ?_
  refine zr_iconst (v := 0) C dX11_isHouse_1 rfl ?_
  refine zr_aload_n C dX11_isHouse_2 rfl ?_
  refine zf_X11_160 C (Nat.le_of_ble_eq_true rfl) dX11_isHouse_3 ?_
  refine zr_iconst (v := 1) C dX11_isHouse_6 rfl ?_
  refine zr_isub C dX11_isHouse_7 ?_
  refine zk_X11_163 C F (Nat.le_trans (by decide) hh) (by simp [Value.category]) dX11_isHouse_8 (fun r8 m8 => ?_)
  exact zr_zretg C dX11_isHouse_11
theorem zk_X11_181 (C : zCx E cc RX11 nL ret Z h) (F : Nat) {b0 : Int32} (hk : 0 < zN 60) (hh : 2 + 1 ≤ h) (hst8 : (st.map fun v => v.category).sum ≤ 8) (hd : decode cc pc = .ok (.invokevirtual 181, 3)) {g : Int32 → zMem → Option (α × zMem)} (kk : ∀ (r : Int32) (σ1 : zMem), zKO E nL Z QQ (pc + 3) L (.int r :: st) σ1 (g r σ1)) : zKO E nL Z QQ pc L (.int b0 :: .ref (zad Z 60 0) :: st) σ (zb (f_X11_isHouse F σ b0) g) :=
  zr_callVI (As := [.int b0]) (ia := 1) C (fun r σ1 ho => c_X11_isHouse (zla E) Z F σ b0 r σ1 ho) wz_1308 hk rfl rfl wz_p81 wz_1310 wz_1311 wz_12 (by decide +kernel) rfl (by decide) hh hd hst8 kk
def f_X11_isRight (F : Nat) (σ : zMem) (a1 : Int32) : Option (Int32 × zMem) := zb (f_X11_in F σ a1 0 (((σ.1 60 0 12) - 1))) fun r8 m8 => zg (zbo r8) (some (r8, m8))
set_option maxHeartbeats 4000000 in
set_option maxRecDepth 100000 in
theorem c_X11_isRight (l : Launch) (Z : zLay) (F : Nat) (σ : zMem) (a1 : Int32) (r : Int32) (σ1 : zMem) (ho : f_X11_isRight F σ a1 = some (r, σ1)) : zMet l yX11_isRight cX11_isRight 2 (some .boolean) 2 Z [.ref (zad Z 60 0), .int (a1)] σ (zQI Z r σ1) := by
  refine zMet_of (Qc := zQI Z) (by decide) (Nat.le_of_ble_eq_true rfl) [(0, .ref (zad Z 60 0)), (1, .int (a1))] rfl (fun E C => ?_) ho
  have hh : 2 ≤ 2 := Nat.le_refl _
  show zKO E 2 Z (zMQ E Z (zQI Z)) 0 [(0, .ref (zad Z 60 0)), (1, .int (a1))] [] σ _
  unfold f_X11_isRight
  refine zr_iload_n C dX11_isRight_0 rfl ?_
  refine zr_iconst (v := 0) C dX11_isRight_1 rfl ?_
  refine zr_aload_n C dX11_isRight_2 rfl ?_
  refine zf_X11_167 C (Nat.le_of_ble_eq_true rfl) dX11_isRight_3 ?_
  refine zr_iconst (v := 1) C dX11_isRight_6 rfl ?_
  refine zr_isub C dX11_isRight_7 ?_
  refine zk_X11_163 C F (Nat.le_trans (by decide) hh) (by simp [Value.category]) dX11_isRight_8 (fun r8 m8 => ?_)
  exact zr_zretg C dX11_isRight_11
theorem zk_X11_199 (C : zCx E cc RX11 nL ret Z h) (F : Nat) {b0 : Int32} (hk : 0 < zN 60) (hh : 2 + 1 ≤ h) (hst8 : (st.map fun v => v.category).sum ≤ 8) (hd : decode cc pc = .ok (.invokevirtual 199, 3)) {g : Int32 → zMem → Option (α × zMem)} (kk : ∀ (r : Int32) (σ1 : zMem), zKO E nL Z QQ (pc + 3) L (.int r :: st) σ1 (g r σ1)) : zKO E nL Z QQ pc L (.int b0 :: .ref (zad Z 60 0) :: st) σ (zb (f_X11_isRight F σ b0) g) :=
  zr_callVI (As := [.int b0]) (ia := 1) C (fun r σ1 ho => c_X11_isRight (zla E) Z F σ b0 r σ1 ho) wz_1336 hk rfl rfl wz_p84 wz_1338 wz_1339 wz_12 (by decide +kernel) rfl (by decide) hh hd hst8 kk
def f_X11_isAlp (F : Nat) (σ : zMem) (a1 : Int32) : Option (Int32 × zMem) := zb (f_X11_in F σ a1 0 (((σ.1 60 0 25) - 1))) fun r8 m8 => zg (zbo r8) (some (r8, m8))
set_option maxHeartbeats 4000000 in
set_option maxRecDepth 100000 in
theorem c_X11_isAlp (l : Launch) (Z : zLay) (F : Nat) (σ : zMem) (a1 : Int32) (r : Int32) (σ1 : zMem) (ho : f_X11_isAlp F σ a1 = some (r, σ1)) : zMet l yX11_isAlp cX11_isAlp 2 (some .boolean) 2 Z [.ref (zad Z 60 0), .int (a1)] σ (zQI Z r σ1) := by
  refine zMet_of (Qc := zQI Z) (by decide) (Nat.le_of_ble_eq_true rfl) [(0, .ref (zad Z 60 0)), (1, .int (a1))] rfl (fun E C => ?_) ho
  have hh : 2 ≤ 2 := Nat.le_refl _
  show zKO E 2 Z (zMQ E Z (zQI Z)) 0 [(0, .ref (zad Z 60 0)), (1, .int (a1))] [] σ _
  unfold f_X11_isAlp
  refine zr_iload_n C dX11_isAlp_0 rfl ?_
  refine zr_iconst (v := 0) C dX11_isAlp_1 rfl ?_
  refine zr_aload_n C dX11_isAlp_2 rfl ?_
  refine zf_X11_170 C (Nat.le_of_ble_eq_true rfl) dX11_isAlp_3 ?_
  refine zr_iconst (v := 1) C dX11_isAlp_6 rfl ?_
  refine zr_isub C dX11_isAlp_7 ?_
  refine zk_X11_163 C F (Nat.le_trans (by decide) hh) (by simp [Value.category]) dX11_isAlp_8 (fun r8 m8 => ?_)
  exact zr_zretg C dX11_isAlp_11
theorem zk_X11_360 (C : zCx E cc RX11 nL ret Z h) (F : Nat) {b0 : Int32} (hk : 0 < zN 60) (hh : 2 + 1 ≤ h) (hst8 : (st.map fun v => v.category).sum ≤ 8) (hd : decode cc pc = .ok (.invokevirtual 360, 3)) {g : Int32 → zMem → Option (α × zMem)} (kk : ∀ (r : Int32) (σ1 : zMem), zKO E nL Z QQ (pc + 3) L (.int r :: st) σ1 (g r σ1)) : zKO E nL Z QQ pc L (.int b0 :: .ref (zad Z 60 0) :: st) σ (zb (f_X11_isAlp F σ b0) g) :=
  zr_callVI (As := [.int b0]) (ia := 1) C (fun r σ1 ho => c_X11_isAlp (zla E) Z F σ b0 r σ1 ho) wz_1511 hk rfl rfl wz_p104 wz_1513 wz_1514 wz_12 (by decide +kernel) rfl (by decide) hh hd hst8 kk
def f_X11_isSlope (F : Nat) (σ : zMem) (a1 : Int32) : Option (Int32 × zMem) := zb (f_X11_in F σ a1 0 (((σ.1 60 0 32) - 1))) fun r8 m8 => zg (zbo r8) (some (r8, m8))
set_option maxHeartbeats 4000000 in
set_option maxRecDepth 100000 in
theorem c_X11_isSlope (l : Launch) (Z : zLay) (F : Nat) (σ : zMem) (a1 : Int32) (r : Int32) (σ1 : zMem) (ho : f_X11_isSlope F σ a1 = some (r, σ1)) : zMet l yX11_isSlope cX11_isSlope 2 (some .boolean) 2 Z [.ref (zad Z 60 0), .int (a1)] σ (zQI Z r σ1) := by
  refine zMet_of (Qc := zQI Z) (by decide) (Nat.le_of_ble_eq_true rfl) [(0, .ref (zad Z 60 0)), (1, .int (a1))] rfl (fun E C => ?_) ho
  have hh : 2 ≤ 2 := Nat.le_refl _
  show zKO E 2 Z (zMQ E Z (zQI Z)) 0 [(0, .ref (zad Z 60 0)), (1, .int (a1))] [] σ _
  unfold f_X11_isSlope
  refine zr_iload_n C dX11_isSlope_0 rfl ?_
  refine zr_iconst (v := 0) C dX11_isSlope_1 rfl ?_
  refine zr_aload_n C dX11_isSlope_2 rfl ?_
  refine zf_X11_173 C (Nat.le_of_ble_eq_true rfl) dX11_isSlope_3 ?_
  refine zr_iconst (v := 1) C dX11_isSlope_6 rfl ?_
  refine zr_isub C dX11_isSlope_7 ?_
  refine zk_X11_163 C F (Nat.le_trans (by decide) hh) (by simp [Value.category]) dX11_isSlope_8 (fun r8 m8 => ?_)
  exact zr_zretg C dX11_isSlope_11
theorem zk_X11_423 (C : zCx E cc RX11 nL ret Z h) (F : Nat) {b0 : Int32} (hk : 0 < zN 60) (hh : 2 + 1 ≤ h) (hst8 : (st.map fun v => v.category).sum ≤ 8) (hd : decode cc pc = .ok (.invokevirtual 423, 3)) {g : Int32 → zMem → Option (α × zMem)} (kk : ∀ (r : Int32) (σ1 : zMem), zKO E nL Z QQ (pc + 3) L (.int r :: st) σ1 (g r σ1)) : zKO E nL Z QQ pc L (.int b0 :: .ref (zad Z 60 0) :: st) σ (zb (f_X11_isSlope F σ b0) g) :=
  zr_callVI (As := [.int b0]) (ia := 1) C (fun r σ1 ho => c_X11_isSlope (zla E) Z F σ b0 r σ1 ho) wz_1598 hk rfl rfl wz_p119 wz_1600 wz_1601 wz_12 (by decide +kernel) rfl (by decide) hh hd hst8 kk
def f_X11_upOf_4 (F : Nat) (rec4 : zMem → Int32 × Int32 × Int32 → Option (Int32 × zMem)) (σ : zMem) (x : Int32 × Int32 × Int32) : Option (Int32 × zMem) := if (σ.1 60 0 25) ≤ x.2.2 then (some (x.2.1, σ)) else (zg (zdU ((σ.1 60 0 11).toNatClampNeg)) (zg (inb x.2.2 4) (zg (inb x.1 10) (rec4 σ ((x.1, (x.2.1 + (σ.1 (((σ.1 60 0 11).toNatClampNeg + 1)) x.2.2.toNatClampNeg x.1.toNatClampNeg)), (x.2.2 + 1)))))))
set_option maxHeartbeats 4000000 in
set_option maxRecDepth 100000 in
theorem c_X11_upOf_4 (F : Nat) {E : zEn} {h : Nat} {Z : zLay} (C : zCx E cX11_upOf RX11 4 (some .int) Z h) (hh : 1 ≤ h) : ∀ (n : Nat) (σ : zMem) (x : Int32 × Int32 × Int32), zKO E 4 Z (zMQ E Z (zQI Z)) 4 [(0, .ref (zad Z 60 0)), (1, .int x.1), (2, .int x.2.1), (3, .int x.2.2)] [] σ (zit (f_X11_upOf_4 F) n σ x) := by
  refine zr_loop (LL := fun (x : Int32 × Int32 × Int32) => [(0, .ref (zad Z 60 0)), (1, .int x.1), (2, .int x.2.1), (3, .int x.2.2)]) (ST := fun (x : Int32 × Int32 × Int32) => []) (fun rec4 hrec4 σ x => ?_)
  obtain ⟨l1, l2, l3⟩ := x
  show zKO E 4 Z (zMQ E Z (zQI Z)) 4 [(0, .ref (zad Z 60 0)), (1, .int l1), (2, .int l2), (3, .int l3)] [] σ (if (σ.1 60 0 25) ≤ l3 then (some (l2, σ)) else (zg (zdU ((σ.1 60 0 11).toNatClampNeg)) (zg (inb l3 4) (zg (inb l1 10) (rec4 σ ((l1, (l2 + (σ.1 (((σ.1 60 0 11).toNatClampNeg + 1)) l3.toNatClampNeg l1.toNatClampNeg)), (l3 + 1))))))))
  refine zr_iload_n C dX11_upOf_4 rfl ?_
  refine zr_aload_n C dX11_upOf_5 rfl ?_
  refine zf_X11_170 C (Nat.le_of_ble_eq_true rfl) dX11_upOf_6 ?_
  refine zr_icmp_ge (tgt := 29) C dX11_upOf_9 (by decide) ?_ ?_
  · refine zr_iload_n C dX11_upOf_29 rfl ?_
    exact zr_iret C dX11_upOf_30
  · refine zr_iload_n C dX11_upOf_12 rfl ?_
    refine zr_aload_n C dX11_upOf_13 rfl ?_
    refine zf_X11_39 C (Nat.le_of_ble_eq_true rfl) dX11_upOf_14 ?_
    refine zr_g (fun hk14 => ?_)
    refine zr_iload_n C dX11_upOf_17 rfl ?_
    refine zr_aald (n := 4) (k1 := ((σ.1 60 0 11).toNatClampNeg) + 1) C dX11_upOf_18 (zN_up hk14 (by decide)) (zE_up hk14) rfl rfl (fun hb18 => ?_)
    refine zr_iload_n C dX11_upOf_19 rfl ?_
    refine zr_iald (n := 10) C dX11_upOf_20 (zN_upE (zdE_of hk14) hb18) (zE_upE (zdE_of hk14)) ?_
    refine zr_iadd C dX11_upOf_21 ?_
    refine zr_istore_n (i := 2) (L1 := [(2, .int _), (0, .ref _), (1, .int _), (3, .int _)]) C dX11_upOf_22 rfl (by decide) rfl ?_
    refine zr_iinc (kk := 3) (v := (l3 + 1)) (L1 := [(3, .int _), (2, .int _), (0, .ref _), (1, .int _)]) C dX11_upOf_23 rfl rfl (by decide) rfl ?_
    refine zr_goto (tgt := 4) C dX11_upOf_26 (by decide) ?_
    exact zr_sub [2, 3, 1, 0] rfl (hrec4 σ ((l1, (l2 + (σ.1 (((σ.1 60 0 11).toNatClampNeg + 1)) l3.toNatClampNeg l1.toNatClampNeg)), (l3 + 1))))
def f_X11_upOf (F : Nat) (σ : zMem) (a1 : Int32) : Option (Int32 × zMem) := zit (f_X11_upOf_4 F) F σ ((a1, 0, 0))
set_option maxHeartbeats 4000000 in
set_option maxRecDepth 100000 in
theorem c_X11_upOf (l : Launch) (Z : zLay) (F : Nat) (σ : zMem) (a1 : Int32) (r : Int32) (σ1 : zMem) (ho : f_X11_upOf F σ a1 = some (r, σ1)) : zMet l yX11_upOf cX11_upOf 4 (some .int) 1 Z [.ref (zad Z 60 0), .int (a1)] σ (zQI Z r σ1) := by
  refine zMet_of (Qc := zQI Z) (by decide) (Nat.le_of_ble_eq_true rfl) [(0, .ref (zad Z 60 0)), (1, .int (a1))] rfl (fun E C => ?_) ho
  have hh : 1 ≤ 1 := Nat.le_refl _
  show zKO E 4 Z (zMQ E Z (zQI Z)) 0 [(0, .ref (zad Z 60 0)), (1, .int (a1))] [] σ _
  unfold f_X11_upOf
  refine zr_iconst (v := 0) C dX11_upOf_0 rfl ?_
  refine zr_istore_n (i := 2) (L1 := [(2, .int _), (0, .ref _), (1, .int _)]) C dX11_upOf_1 rfl (by decide) rfl ?_
  refine zr_iconst (v := 0) C dX11_upOf_2 rfl ?_
  refine zr_istore_n (i := 3) (L1 := [(3, .int _), (2, .int _), (0, .ref _), (1, .int _)]) C dX11_upOf_3 rfl (by decide) rfl ?_
  exact zr_sub [2, 3, 1, 0] rfl (c_X11_upOf_4 F C hh F σ ((a1, 0, 0)))
theorem zk_X11_185 (C : zCx E cc RX11 nL ret Z h) (F : Nat) {b0 : Int32} (hk : 0 < zN 60) (hh : 1 + 1 ≤ h) (hst8 : (st.map fun v => v.category).sum ≤ 8) (hd : decode cc pc = .ok (.invokevirtual 185, 3)) {g : Int32 → zMem → Option (α × zMem)} (kk : ∀ (r : Int32) (σ1 : zMem), zKO E nL Z QQ (pc + 3) L (.int r :: st) σ1 (g r σ1)) : zKO E nL Z QQ pc L (.int b0 :: .ref (zad Z 60 0) :: st) σ (zb (f_X11_upOf F σ b0) g) :=
  zr_callVI (As := [.int b0]) (ia := 1) C (fun r σ1 ho => c_X11_upOf (zla E) Z F σ b0 r σ1 ho) wz_1312 hk rfl rfl wz_p82 wz_1314 wz_1315 wz_12 (by decide +kernel) rfl (by decide) hh hd hst8 kk
def f_X11_isNumber (F : Nat) (σ : zMem) (a0 : Int32) (a1 : Int32) : Option (Int32 × zMem) := if a0 = 0 then (zb (f_X11_in F σ a1 1 9) fun r8 m8 => zg (zbo r8) (some (r8, m8))) else (if a0 = 1 then (zb (f_X11_in F σ a1 1 20) fun r23 m23 => zg (zbo r23) (some (r23, m23))) else (if a0 = 2 then (zb (f_X11_in F σ a1 0 99) fun r38 m38 => zg (zbo r38) (some (r38, m38))) else (zb (f_X11_in F σ a1 0 99999) fun r48 m48 => zg (zbo r48) (some (r48, m48)))))
set_option maxHeartbeats 4000000 in
set_option maxRecDepth 100000 in
theorem c_X11_isNumber (l : Launch) (Z : zLay) (F : Nat) (σ : zMem) (a0 : Int32) (a1 : Int32) (r : Int32) (σ1 : zMem) (ho : f_X11_isNumber F σ a0 a1 = some (r, σ1)) : zMet l yX11_isNumber cX11_isNumber 2 (some .boolean) 2 Z [.int (a0), .int (a1)] σ (zQI Z r σ1) := by
  refine zMet_of (Qc := zQI Z) (by decide) (Nat.le_of_ble_eq_true rfl) [(0, .int (a0)), (1, .int (a1))] rfl (fun E C => ?_) ho
  have hh : 2 ≤ 2 := Nat.le_refl _
  show zKO E 2 Z (zMQ E Z (zQI Z)) 0 [(0, .int (a0)), (1, .int (a1))] [] σ _
  unfold f_X11_isNumber
  refine zr_iload_n C dX11_isNumber_0 rfl ?_
  refine zr_if_ne (tgt := 14) C dX11_isNumber_1 (by decide) ?_ ?_
  · refine zr_iload_n C dX11_isNumber_14 rfl ?_
    refine zr_iconst (v := 1) C dX11_isNumber_15 rfl ?_
    refine zr_icmp_ne (tgt := 29) C dX11_isNumber_16 (by decide) ?_ ?_
    · refine zr_iload_n C dX11_isNumber_29 rfl ?_
      refine zr_iconst (v := 2) C dX11_isNumber_30 rfl ?_
      refine zr_icmp_ne (tgt := 44) C dX11_isNumber_31 (by decide) ?_ ?_
      · refine zr_iload_n C dX11_isNumber_44 rfl ?_
        refine zr_iconst (v := 0) C dX11_isNumber_45 rfl ?_
        refine zr_ldc (v := 99999) C dX11_isNumber_46 wz_1303 ?_
        refine zk_X11_163 C F (Nat.le_trans (by decide) hh) (by simp [Value.category]) dX11_isNumber_48 (fun r48 m48 => ?_)
        exact zr_zretg C dX11_isNumber_51
      · refine zr_iload_n C dX11_isNumber_34 rfl ?_
        refine zr_iconst (v := 0) C dX11_isNumber_35 rfl ?_
        refine zr_bipush (v := 99) C dX11_isNumber_36 rfl ?_
        refine zk_X11_163 C F (Nat.le_trans (by decide) hh) (by simp [Value.category]) dX11_isNumber_38 (fun r38 m38 => ?_)
        refine zr_goto (tgt := 51) C dX11_isNumber_41 (by decide) ?_
        exact zr_zretg C dX11_isNumber_51
    · refine zr_iload_n C dX11_isNumber_19 rfl ?_
      refine zr_iconst (v := 1) C dX11_isNumber_20 rfl ?_
      refine zr_bipush (v := 20) C dX11_isNumber_21 rfl ?_
      refine zk_X11_163 C F (Nat.le_trans (by decide) hh) (by simp [Value.category]) dX11_isNumber_23 (fun r23 m23 => ?_)
      refine zr_goto (tgt := 51) C dX11_isNumber_26 (by decide) ?_
      exact zr_zretg C dX11_isNumber_51
  · refine zr_iload_n C dX11_isNumber_4 rfl ?_
    refine zr_iconst (v := 1) C dX11_isNumber_5 rfl ?_
    refine zr_bipush (v := 9) C dX11_isNumber_6 rfl ?_
    refine zk_X11_163 C F (Nat.le_trans (by decide) hh) (by simp [Value.category]) dX11_isNumber_8 (fun r8 m8 => ?_)
    refine zr_goto (tgt := 51) C dX11_isNumber_11 (by decide) ?_
    exact zr_zretg C dX11_isNumber_51
theorem zk_X11_177 (C : zCx E cc RX11 nL ret Z h) (F : Nat) {b0 : Int32} {b1 : Int32} (hh : 2 + 1 ≤ h) (hst8 : (st.map fun v => v.category).sum ≤ 8) (hd : decode cc pc = .ok (.invokestatic 177, 3)) {g : Int32 → zMem → Option (α × zMem)} (kk : ∀ (r : Int32) (σ1 : zMem), zKO E nL Z QQ (pc + 3) L (.int r :: st) σ1 (g r σ1)) : zKO E nL Z QQ pc L (.int b1 :: .int b0 :: st) σ (zb (f_X11_isNumber F σ b0 b1) g) :=
  zr_callSI (As := [.int b0, .int b1]) (ia := 2) C (fun r σ1 ho => c_X11_isNumber (zla E) Z F σ b0 b1 r σ1 ho) wz_1297 wz_1298 wz_1299 wz_12 (by decide +kernel) rfl (by decide) hh hd hst8 kk
def f_X11_house (F : Nat) (σ : zMem) (a1 : Int32) (a2 : Int32) (a3 : Int32) (a4 : Int32) : Option (Int32 × zMem) := zb (f_X11_isNumber F σ 0 a1) fun r2 m2 => if r2 = 0 then (some ((-2), m2)) else (zb (f_X11_isNumber F m2 1 a2) fun r10 m10 => if r10 = 0 then (some ((-2), m10)) else (zb (f_X11_isNumber F m10 2 a3) fun r18 m18 => if r18 = 0 then (some ((-2), m18)) else (zb (f_X11_isNumber F m18 3 a4) fun r27 m27 => if r27 = 0 then (some ((-2), m27)) else (if (m27.1 60 0 1) = 10 then (some ((-4), m27)) else (zg (inb ((m27.1 60 0 1)) 10) (zg (inb 0 5) (zg (inb (((zwi m27 62 (((m27.1 60 0 1)).toNatClampNeg) 0 a1).1 60 0 1)) 10) (zg (inb 1 5) (zg (inb (((zwi (zwi m27 62 (((m27.1 60 0 1)).toNatClampNeg) 0 a1) 62 ((((zwi m27 62 (((m27.1 60 0 1)).toNatClampNeg) 0 a1).1 60 0 1)).toNatClampNeg) 1 a2).1 60 0 1)) 10) (zg (inb 2 5) (zg (inb (((zwi (zwi (zwi m27 62 (((m27.1 60 0 1)).toNatClampNeg) 0 a1) 62 ((((zwi m27 62 (((m27.1 60 0 1)).toNatClampNeg) 0 a1).1 60 0 1)).toNatClampNeg) 1 a2) 62 ((((zwi (zwi m27 62 (((m27.1 60 0 1)).toNatClampNeg) 0 a1) 62 ((((zwi m27 62 (((m27.1 60 0 1)).toNatClampNeg) 0 a1).1 60 0 1)).toNatClampNeg) 1 a2).1 60 0 1)).toNatClampNeg) 2 a3).1 60 0 1)) 10) (zg (inb 3 5) (some (((zwi (zwi (zwi (zwi m27 62 (((m27.1 60 0 1)).toNatClampNeg) 0 a1) 62 ((((zwi m27 62 (((m27.1 60 0 1)).toNatClampNeg) 0 a1).1 60 0 1)).toNatClampNeg) 1 a2) 62 ((((zwi (zwi m27 62 (((m27.1 60 0 1)).toNatClampNeg) 0 a1) 62 ((((zwi m27 62 (((m27.1 60 0 1)).toNatClampNeg) 0 a1).1 60 0 1)).toNatClampNeg) 1 a2).1 60 0 1)).toNatClampNeg) 2 a3) 62 ((((zwi (zwi (zwi m27 62 (((m27.1 60 0 1)).toNatClampNeg) 0 a1) 62 ((((zwi m27 62 (((m27.1 60 0 1)).toNatClampNeg) 0 a1).1 60 0 1)).toNatClampNeg) 1 a2) 62 ((((zwi (zwi m27 62 (((m27.1 60 0 1)).toNatClampNeg) 0 a1) 62 ((((zwi m27 62 (((m27.1 60 0 1)).toNatClampNeg) 0 a1).1 60 0 1)).toNatClampNeg) 1 a2).1 60 0 1)).toNatClampNeg) 2 a3).1 60 0 1)).toNatClampNeg) 3 a4).1 60 0 1), (zwi (zwi (zwi (zwi (zwi m27 62 (((m27.1 60 0 1)).toNatClampNeg) 0 a1) 62 ((((zwi m27 62 (((m27.1 60 0 1)).toNatClampNeg) 0 a1).1 60 0 1)).toNatClampNeg) 1 a2) 62 ((((zwi (zwi m27 62 (((m27.1 60 0 1)).toNatClampNeg) 0 a1) 62 ((((zwi m27 62 (((m27.1 60 0 1)).toNatClampNeg) 0 a1).1 60 0 1)).toNatClampNeg) 1 a2).1 60 0 1)).toNatClampNeg) 2 a3) 62 ((((zwi (zwi (zwi m27 62 (((m27.1 60 0 1)).toNatClampNeg) 0 a1) 62 ((((zwi m27 62 (((m27.1 60 0 1)).toNatClampNeg) 0 a1).1 60 0 1)).toNatClampNeg) 1 a2) 62 ((((zwi (zwi m27 62 (((m27.1 60 0 1)).toNatClampNeg) 0 a1) 62 ((((zwi m27 62 (((m27.1 60 0 1)).toNatClampNeg) 0 a1).1 60 0 1)).toNatClampNeg) 1 a2).1 60 0 1)).toNatClampNeg) 2 a3).1 60 0 1)).toNatClampNeg) 3 a4) 60 0 1 ((((zwi (zwi (zwi (zwi m27 62 (((m27.1 60 0 1)).toNatClampNeg) 0 a1) 62 ((((zwi m27 62 (((m27.1 60 0 1)).toNatClampNeg) 0 a1).1 60 0 1)).toNatClampNeg) 1 a2) 62 ((((zwi (zwi m27 62 (((m27.1 60 0 1)).toNatClampNeg) 0 a1) 62 ((((zwi m27 62 (((m27.1 60 0 1)).toNatClampNeg) 0 a1).1 60 0 1)).toNatClampNeg) 1 a2).1 60 0 1)).toNatClampNeg) 2 a3) 62 ((((zwi (zwi (zwi m27 62 (((m27.1 60 0 1)).toNatClampNeg) 0 a1) 62 ((((zwi m27 62 (((m27.1 60 0 1)).toNatClampNeg) 0 a1).1 60 0 1)).toNatClampNeg) 1 a2) 62 ((((zwi (zwi m27 62 (((m27.1 60 0 1)).toNatClampNeg) 0 a1) 62 ((((zwi m27 62 (((m27.1 60 0 1)).toNatClampNeg) 0 a1).1 60 0 1)).toNatClampNeg) 1 a2).1 60 0 1)).toNatClampNeg) 2 a3).1 60 0 1)).toNatClampNeg) 3 a4).1 60 0 1) + 1)))))))))))))))))
set_option maxHeartbeats 4000000 in
set_option maxRecDepth 100000 in
theorem c_X11_house (l : Launch) (Z : zLay) (F : Nat) (σ : zMem) (a1 : Int32) (a2 : Int32) (a3 : Int32) (a4 : Int32) (r : Int32) (σ1 : zMem) (ho : f_X11_house F σ a1 a2 a3 a4 = some (r, σ1)) : zMet l yX11_house cX11_house 5 (some .int) 3 Z [.ref (zad Z 60 0), .int (a1), .int (a2), .int (a3), .int (a4)] σ (zQI Z r σ1) := by
  refine zMet_of (Qc := zQI Z) (by decide) (Nat.le_of_ble_eq_true rfl) [(0, .ref (zad Z 60 0)), (1, .int (a1)), (2, .int (a2)), (3, .int (a3)), (4, .int (a4))] rfl (fun E C => ?_) ho
  have hh : 3 ≤ 3 := Nat.le_refl _
  show zKO E 5 Z (zMQ E Z (zQI Z)) 0 [(0, .ref (zad Z 60 0)), (1, .int (a1)), (2, .int (a2)), (3, .int (a3)), (4, .int (a4))] [] σ _
  unfold f_X11_house
  refine zr_iconst (v := 0) C dX11_house_0 rfl ?_
  refine zr_iload_n C dX11_house_1 rfl ?_
  refine zk_X11_177 C F (Nat.le_trans (by decide) hh) (by simp [Value.category]) dX11_house_2 (fun r2 m2 => ?_)
  refine zr_if_eq (tgt := 33) C dX11_house_5 (by decide) ?_ ?_
  · refine zr_bipush (v := -2) C dX11_house_33 rfl ?_
    exact zr_iret C dX11_house_35
  · refine zr_iconst (v := 1) C dX11_house_8 rfl ?_
    refine zr_iload_n C dX11_house_9 rfl ?_
    refine zk_X11_177 C F (Nat.le_trans (by decide) hh) (by simp [Value.category]) dX11_house_10 (fun r10 m10 => ?_)
    refine zr_if_eq (tgt := 33) C dX11_house_13 (by decide) ?_ ?_
    · refine zr_bipush (v := -2) C dX11_house_33 rfl ?_
      exact zr_iret C dX11_house_35
    · refine zr_iconst (v := 2) C dX11_house_16 rfl ?_
      refine zr_iload_n C dX11_house_17 rfl ?_
      refine zk_X11_177 C F (Nat.le_trans (by decide) hh) (by simp [Value.category]) dX11_house_18 (fun r18 m18 => ?_)
      refine zr_if_eq (tgt := 33) C dX11_house_21 (by decide) ?_ ?_
      · refine zr_bipush (v := -2) C dX11_house_33 rfl ?_
        exact zr_iret C dX11_house_35
      · refine zr_iconst (v := 3) C dX11_house_24 rfl ?_
        refine zr_iload C dX11_house_25 rfl ?_
        refine zk_X11_177 C F (Nat.le_trans (by decide) hh) (by simp [Value.category]) dX11_house_27 (fun r27 m27 => ?_)
        refine zr_if_ne (tgt := 36) C dX11_house_30 (by decide) ?_ ?_
        · refine zr_aload_n C dX11_house_36 rfl ?_
          refine zf_X11_160 C (Nat.le_of_ble_eq_true rfl) dX11_house_37 ?_
          refine zr_bipush (v := 10) C dX11_house_40 rfl ?_
          refine zr_icmp_ne (tgt := 48) C dX11_house_42 (by decide) ?_ ?_
          · refine zr_aload_n C dX11_house_48 rfl ?_
            refine zf_X11_9 C (Nat.le_of_ble_eq_true rfl) dX11_house_49 ?_
            refine zr_aload_n C dX11_house_52 rfl ?_
            refine zf_X11_160 C (Nat.le_of_ble_eq_true rfl) dX11_house_53 ?_
            refine zr_aald (n := 10) (k1 := 62) C dX11_house_56 (Nat.le_of_ble_eq_true rfl) rfl rfl rfl (fun hb56 => ?_)
            refine zr_iconst (v := 0) C dX11_house_57 rfl ?_
            refine zr_iload_n C dX11_house_58 rfl ?_
            refine zr_iast (n := 5) C dX11_house_59 hb56 (fun _ _ => rfl) ?_
            refine zr_aload_n C dX11_house_60 rfl ?_
            refine zf_X11_9 C (Nat.le_of_ble_eq_true rfl) dX11_house_61 ?_
            refine zr_aload_n C dX11_house_64 rfl ?_
            refine zf_X11_160 C (Nat.le_of_ble_eq_true rfl) dX11_house_65 ?_
            refine zr_aald (n := 10) (k1 := 62) C dX11_house_68 (Nat.le_of_ble_eq_true rfl) rfl rfl rfl (fun hb68 => ?_)
            refine zr_iconst (v := 1) C dX11_house_69 rfl ?_
            refine zr_iload_n C dX11_house_70 rfl ?_
            refine zr_iast (n := 5) C dX11_house_71 hb68 (fun _ _ => rfl) ?_
            refine zr_aload_n C dX11_house_72 rfl ?_
            refine zf_X11_9 C (Nat.le_of_ble_eq_true rfl) dX11_house_73 ?_
            refine zr_aload_n C dX11_house_76 rfl ?_
            refine zf_X11_160 C (Nat.le_of_ble_eq_true rfl) dX11_house_77 ?_
            refine zr_aald (n := 10) (k1 := 62) C dX11_house_80 (Nat.le_of_ble_eq_true rfl) rfl rfl rfl (fun hb80 => ?_)
            refine zr_iconst (v := 2) C dX11_house_81 rfl ?_
            refine zr_iload_n C dX11_house_82 rfl ?_
            refine zr_iast (n := 5) C dX11_house_83 hb80 (fun _ _ => rfl) ?_
            refine zr_aload_n C dX11_house_84 rfl ?_
            refine zf_X11_9 C (Nat.le_of_ble_eq_true rfl) dX11_house_85 ?_
            refine zr_aload_n C dX11_house_88 rfl ?_
            refine zf_X11_160 C (Nat.le_of_ble_eq_true rfl) dX11_house_89 ?_
            refine zr_aald (n := 10) (k1 := 62) C dX11_house_92 (Nat.le_of_ble_eq_true rfl) rfl rfl rfl (fun hb92 => ?_)
            refine zr_iconst (v := 3) C dX11_house_93 rfl ?_
            refine zr_iload C dX11_house_94 rfl ?_
            refine zr_iast (n := 5) C dX11_house_96 hb92 (fun _ _ => rfl) ?_
            refine zr_aload_n C dX11_house_97 rfl ?_
            refine zr_dup C dX11_house_98 rfl ?_
            refine zf_X11_160 C (Nat.le_of_ble_eq_true rfl) dX11_house_99 ?_
            refine zr_dup_x1 C dX11_house_102 rfl rfl ?_
            refine zr_iconst (v := 1) C dX11_house_103 rfl ?_
            refine zr_iadd C dX11_house_104 ?_
            refine zp_X11_160 C (Nat.le_of_ble_eq_true rfl) dX11_house_105 ?_
            exact zr_iret C dX11_house_108
          · refine zr_bipush (v := -4) C dX11_house_45 rfl ?_
            exact zr_iret C dX11_house_47
        · refine zr_bipush (v := -2) C dX11_house_33 rfl ?_
          exact zr_iret C dX11_house_35
def f_X11_change_44 (F : Nat) (σ : zMem) (l1 : Int32) (l2 : Int32) (l3 : Int32) : Option (Int32 × zMem) := zg (inb l1 10) (zg (inb l2 5) (zg (inb l1 10) (zg (inb l2 5) (some ((σ.1 62 l1.toNatClampNeg l2.toNatClampNeg), (zwi σ 62 l1.toNatClampNeg l2.toNatClampNeg l3))))))
set_option maxHeartbeats 4000000 in
set_option maxRecDepth 100000 in
theorem c_X11_change_44 (F : Nat) {E : zEn} {h : Nat} {Z : zLay} (C : zCx E cX11_change RX11 5 (some .int) Z h) (hh : 3 ≤ h) (σ : zMem) (l1 : Int32) (l2 : Int32) (l3 : Int32) : zKO E 5 Z (zMQ E Z (zQI Z)) 44 [(0, .ref (zad Z 60 0)), (1, .int l1), (2, .int l2), (3, .int l3)] [] σ (f_X11_change_44 F σ l1 l2 l3) := by
  unfold f_X11_change_44
  refine zr_aload_n C dX11_change_44 rfl ?_
  refine zf_X11_9 C (Nat.le_of_ble_eq_true rfl) dX11_change_45 ?_
  refine zr_iload_n C dX11_change_48 rfl ?_
  refine zr_aald (n := 10) (k1 := 62) C dX11_change_49 (Nat.le_of_ble_eq_true rfl) rfl rfl rfl (fun hb49 => ?_)
  refine zr_iload_n C dX11_change_50 rfl ?_
  refine zr_iald (n := 5) C dX11_change_51 hb49 rfl ?_
  refine zr_istore (i := 4) (L1 := [(4, .int _), (0, .ref _), (1, .int _), (2, .int _), (3, .int _)]) C dX11_change_52 (by decide) rfl ?_
  refine zr_aload_n C dX11_change_54 rfl ?_
  refine zf_X11_9 C (Nat.le_of_ble_eq_true rfl) dX11_change_55 ?_
  refine zr_iload_n C dX11_change_58 rfl ?_
  refine zr_aald (n := 10) (k1 := 62) C dX11_change_59 (Nat.le_of_ble_eq_true rfl) rfl rfl rfl (fun hb59 => ?_)
  refine zr_iload_n C dX11_change_60 rfl ?_
  refine zr_iload_n C dX11_change_61 rfl ?_
  refine zr_iast (n := 5) C dX11_change_62 hb59 (fun _ _ => rfl) ?_
  refine zr_iload C dX11_change_63 rfl ?_
  exact zr_iret C dX11_change_65
def f_X11_change (F : Nat) (σ : zMem) (a1 : Int32) (a2 : Int32) (a3 : Int32) : Option (Int32 × zMem) := zb (f_X11_isHouse F σ a1) fun r2 m2 => if r2 = 0 then (some ((-1), m2)) else (zb (f_X11_in F m2 a2 0 3) fun r11 m11 => if r11 = 0 then (some ((-1), m11)) else (zb (f_X11_isNumber F m11 a2 a3) fun r21 m21 => if r21 = 0 then (some ((-2), m21)) else (if a2 = 2 then (zb (f_X11_upOf F m21 a1) fun r35 m35 => if r35 ≤ a3 then (f_X11_change_44 F m35 a1 a2 a3) else (some ((-2), m35))) else (f_X11_change_44 F m21 a1 a2 a3))))
set_option maxHeartbeats 4000000 in
set_option maxRecDepth 100000 in
theorem c_X11_change (l : Launch) (Z : zLay) (F : Nat) (σ : zMem) (a1 : Int32) (a2 : Int32) (a3 : Int32) (r : Int32) (σ1 : zMem) (ho : f_X11_change F σ a1 a2 a3 = some (r, σ1)) : zMet l yX11_change cX11_change 5 (some .int) 3 Z [.ref (zad Z 60 0), .int (a1), .int (a2), .int (a3)] σ (zQI Z r σ1) := by
  refine zMet_of (Qc := zQI Z) (by decide) (Nat.le_of_ble_eq_true rfl) [(0, .ref (zad Z 60 0)), (1, .int (a1)), (2, .int (a2)), (3, .int (a3))] rfl (fun E C => ?_) ho
  have hh : 3 ≤ 3 := Nat.le_refl _
  show zKO E 5 Z (zMQ E Z (zQI Z)) 0 [(0, .ref (zad Z 60 0)), (1, .int (a1)), (2, .int (a2)), (3, .int (a3))] [] σ _
  unfold f_X11_change
  refine zr_aload_n C dX11_change_0 rfl ?_
  refine zr_iload_n C dX11_change_1 rfl ?_
  refine zk_X11_181 C F (Nat.le_of_ble_eq_true rfl) (Nat.le_trans (by decide) hh) (by simp [Value.category]) dX11_change_2 (fun r2 m2 => ?_)
  refine zr_if_eq (tgt := 17) C dX11_change_5 (by decide) ?_ ?_
  · refine zr_iconst (v := -1) C dX11_change_17 rfl ?_
    exact zr_iret C dX11_change_18
  · refine zr_iload_n C dX11_change_8 rfl ?_
    refine zr_iconst (v := 0) C dX11_change_9 rfl ?_
    refine zr_iconst (v := 3) C dX11_change_10 rfl ?_
    refine zk_X11_163 C F (Nat.le_trans (by decide) hh) (by simp [Value.category]) dX11_change_11 (fun r11 m11 => ?_)
    refine zr_if_ne (tgt := 19) C dX11_change_14 (by decide) ?_ ?_
    · refine zr_iload_n C dX11_change_19 rfl ?_
      refine zr_iload_n C dX11_change_20 rfl ?_
      refine zk_X11_177 C F (Nat.le_trans (by decide) hh) (by simp [Value.category]) dX11_change_21 (fun r21 m21 => ?_)
      refine zr_if_eq (tgt := 41) C dX11_change_24 (by decide) ?_ ?_
      · refine zr_bipush (v := -2) C dX11_change_41 rfl ?_
        exact zr_iret C dX11_change_43
      · refine zr_iload_n C dX11_change_27 rfl ?_
        refine zr_iconst (v := 2) C dX11_change_28 rfl ?_
        refine zr_icmp_ne (tgt := 44) C dX11_change_29 (by decide) ?_ ?_
        · exact zr_sub [0, 1, 2, 3] rfl (c_X11_change_44 F C hh m21 a1 a2 a3)
        · refine zr_iload_n C dX11_change_32 rfl ?_
          refine zr_aload_n C dX11_change_33 rfl ?_
          refine zr_iload_n C dX11_change_34 rfl ?_
          refine zk_X11_185 C F (Nat.le_of_ble_eq_true rfl) (Nat.le_trans (by decide) hh) (by simp [Value.category]) dX11_change_35 (fun r35 m35 => ?_)
          refine zr_icmp_ge (tgt := 44) C dX11_change_38 (by decide) ?_ ?_
          · exact zr_sub [0, 1, 2, 3] rfl (c_X11_change_44 F C hh m35 a1 a2 a3)
          · refine zr_bipush (v := -2) C dX11_change_41 rfl ?_
            exact zr_iret C dX11_change_43
    · refine zr_iconst (v := -1) C dX11_change_17 rfl ?_
      exact zr_iret C dX11_change_18
def f_X11_told_80 (F : Nat) (σ : zMem) (l1 : Int32) (l2 : Int32) : Option (Int32 × zMem) := zg (inb l1 10) (zg (inb l2 5) (some ((σ.1 62 l1.toNatClampNeg l2.toNatClampNeg), σ)))
set_option maxHeartbeats 4000000 in
set_option maxRecDepth 100000 in
theorem c_X11_told_80 (F : Nat) {E : zEn} {h : Nat} {Z : zLay} (C : zCx E cX11_told RX11 3 (some .int) Z h) (hh : 3 ≤ h) (σ : zMem) (l1 : Int32) (l2 : Int32) : zKO E 3 Z (zMQ E Z (zQI Z)) 80 [(0, .ref (zad Z 60 0)), (1, .int l1), (2, .int l2)] [] σ (f_X11_told_80 F σ l1 l2) := by
  unfold f_X11_told_80
  refine zr_aload_n C dX11_told_80 rfl ?_
  refine zf_X11_9 C (Nat.le_of_ble_eq_true rfl) dX11_told_81 ?_
  refine zr_iload_n C dX11_told_84 rfl ?_
  refine zr_aald (n := 10) (k1 := 62) C dX11_told_85 (Nat.le_of_ble_eq_true rfl) rfl rfl rfl (fun hb85 => ?_)
  refine zr_iload_n C dX11_told_86 rfl ?_
  refine zr_iald (n := 5) C dX11_told_87 hb85 rfl ?_
  exact zr_iret C dX11_told_88
def f_X11_told (F : Nat) (σ : zMem) (a1 : Int32) (a2 : Int32) : Option (Int32 × zMem) := zb (f_X11_isHouse F σ a1) fun r2 m2 => if r2 = 0 then (some ((-5), m2)) else (if a2.toInt < 0 ∨ 12 < a2.toInt then (some ((-5), m2)) else (if a2 = 0 then (f_X11_told_80 F m2 a1 a2) else (if a2 = 1 then (f_X11_told_80 F m2 a1 a2) else (if a2 = 2 then (f_X11_told_80 F m2 a1 a2) else (if a2 = 3 then (f_X11_told_80 F m2 a1 a2) else (if a2 = 4 then (f_X11_told_80 F m2 a1 a2) else (if a2 = 5 then (zg (inb a1 10) (zg (inb 2 5) (zb (f_X11_upOf F m2 a1) fun r99 m99 => some (((m2.1 62 a1.toNatClampNeg 2) - r99), m99)))) else (if a2 = 6 then (zg (inb a1 10) (some ((m2.1 63 0 a1.toNatClampNeg), m2))) else (if a2 = 7 then (zg (inb a1 10) (some ((m2.1 64 0 a1.toNatClampNeg), m2))) else (if a2 = 8 then (zg (inb a1 10) (some ((m2.1 65 0 a1.toNatClampNeg), m2))) else (if a2 = 9 then (zg (inb a1 10) (some ((m2.1 67 0 a1.toNatClampNeg), m2))) else (if a2 = 10 then (zg (inb a1 10) (some ((m2.1 68 0 a1.toNatClampNeg), m2))) else (if a2 = 11 then (zg (inb a1 10) (some ((m2.1 69 0 a1.toNatClampNeg), m2))) else (if a2 = 12 then (zg (inb a1 10) (some ((m2.1 70 0 a1.toNatClampNeg), m2))) else none))))))))))))))
set_option maxHeartbeats 4000000 in
set_option maxRecDepth 100000 in
theorem c_X11_told (l : Launch) (Z : zLay) (F : Nat) (σ : zMem) (a1 : Int32) (a2 : Int32) (r : Int32) (σ1 : zMem) (ho : f_X11_told F σ a1 a2 = some (r, σ1)) : zMet l yX11_told cX11_told 3 (some .int) 3 Z [.ref (zad Z 60 0), .int (a1), .int (a2)] σ (zQI Z r σ1) := by
  refine zMet_of (Qc := zQI Z) (by decide) (Nat.le_of_ble_eq_true rfl) [(0, .ref (zad Z 60 0)), (1, .int (a1)), (2, .int (a2))] rfl (fun E C => ?_) ho
  have hh : 3 ≤ 3 := Nat.le_refl _
  show zKO E 3 Z (zMQ E Z (zQI Z)) 0 [(0, .ref (zad Z 60 0)), (1, .int (a1)), (2, .int (a2))] [] σ _
  unfold f_X11_told
  refine zr_aload_n C dX11_told_0 rfl ?_
  refine zr_iload_n C dX11_told_1 rfl ?_
  refine zk_X11_181 C F (Nat.le_of_ble_eq_true rfl) (Nat.le_trans (by decide) hh) (by simp [Value.category]) dX11_told_2 (fun r2 m2 => ?_)
  refine zr_if_ne (tgt := 11) C dX11_told_5 (by decide) ?_ ?_
  · refine zr_iload_n C dX11_told_11 rfl ?_
    refine zr_if (fun hx => ?_) (fun _ => ?_)
    · refine zr_tabOut (tgt := 153) C dX11_told_12 hx (by decide) ?_
      refine zr_bipush (v := -5) C dX11_told_153 rfl ?_
      exact zr_iret C dX11_told_155
    · refine zr_if (fun hx => ?_) (fun _ => ?_)
      · refine zr_tabIn (tgt := 80) C dX11_told_12 (by rw [hx]; decide) (by rw [hx]; decide) (off := 68) (by rw [hx]; decide) (by decide) ?_
        exact zr_sub [0, 1, 2] rfl (c_X11_told_80 F C hh m2 a1 a2)
      · refine zr_if (fun hx => ?_) (fun _ => ?_)
        · refine zr_tabIn (tgt := 80) C dX11_told_12 (by rw [hx]; decide) (by rw [hx]; decide) (off := 68) (by rw [hx]; decide) (by decide) ?_
          exact zr_sub [0, 1, 2] rfl (c_X11_told_80 F C hh m2 a1 a2)
        · refine zr_if (fun hx => ?_) (fun _ => ?_)
          · refine zr_tabIn (tgt := 80) C dX11_told_12 (by rw [hx]; decide) (by rw [hx]; decide) (off := 68) (by rw [hx]; decide) (by decide) ?_
            exact zr_sub [0, 1, 2] rfl (c_X11_told_80 F C hh m2 a1 a2)
          · refine zr_if (fun hx => ?_) (fun _ => ?_)
            · refine zr_tabIn (tgt := 80) C dX11_told_12 (by rw [hx]; decide) (by rw [hx]; decide) (off := 68) (by rw [hx]; decide) (by decide) ?_
              exact zr_sub [0, 1, 2] rfl (c_X11_told_80 F C hh m2 a1 a2)
            · refine zr_if (fun hx => ?_) (fun _ => ?_)
              · refine zr_tabIn (tgt := 80) C dX11_told_12 (by rw [hx]; decide) (by rw [hx]; decide) (off := 68) (by rw [hx]; decide) (by decide) ?_
                exact zr_sub [0, 1, 2] rfl (c_X11_told_80 F C hh m2 a1 a2)
              · refine zr_if (fun hx => ?_) (fun _ => ?_)
                · refine zr_tabIn (tgt := 89) C dX11_told_12 (by rw [hx]; decide) (by rw [hx]; decide) (off := 77) (by rw [hx]; decide) (by decide) ?_
                  refine zr_aload_n C dX11_told_89 rfl ?_
                  refine zf_X11_9 C (Nat.le_of_ble_eq_true rfl) dX11_told_90 ?_
                  refine zr_iload_n C dX11_told_93 rfl ?_
                  refine zr_aald (n := 10) (k1 := 62) C dX11_told_94 (Nat.le_of_ble_eq_true rfl) rfl rfl rfl (fun hb94 => ?_)
                  refine zr_iconst (v := 2) C dX11_told_95 rfl ?_
                  refine zr_iald (n := 5) C dX11_told_96 hb94 rfl ?_
                  refine zr_aload_n C dX11_told_97 rfl ?_
                  refine zr_iload_n C dX11_told_98 rfl ?_
                  refine zk_X11_185 C F (Nat.le_of_ble_eq_true rfl) (Nat.le_trans (by decide) hh) (by simp [Value.category]) dX11_told_99 (fun r99 m99 => ?_)
                  refine zr_isub C dX11_told_102 ?_
                  exact zr_iret C dX11_told_103
                · refine zr_if (fun hx => ?_) (fun _ => ?_)
                  · refine zr_tabIn (tgt := 104) C dX11_told_12 (by rw [hx]; decide) (by rw [hx]; decide) (off := 92) (by rw [hx]; decide) (by decide) ?_
                    refine zr_aload_n C dX11_told_104 rfl ?_
                    refine zf_X11_14 C (Nat.le_of_ble_eq_true rfl) dX11_told_105 ?_
                    refine zr_iload_n C dX11_told_108 rfl ?_
                    refine zr_iald (n := 10) C dX11_told_109 (Nat.le_of_ble_eq_true rfl) rfl ?_
                    exact zr_iret C dX11_told_110
                  · refine zr_if (fun hx => ?_) (fun _ => ?_)
                    · refine zr_tabIn (tgt := 111) C dX11_told_12 (by rw [hx]; decide) (by rw [hx]; decide) (off := 99) (by rw [hx]; decide) (by decide) ?_
                      refine zr_aload_n C dX11_told_111 rfl ?_
                      refine zf_X11_18 C (Nat.le_of_ble_eq_true rfl) dX11_told_112 ?_
                      refine zr_iload_n C dX11_told_115 rfl ?_
                      refine zr_iald (n := 10) C dX11_told_116 (Nat.le_of_ble_eq_true rfl) rfl ?_
                      exact zr_iret C dX11_told_117
                    · refine zr_if (fun hx => ?_) (fun _ => ?_)
                      · refine zr_tabIn (tgt := 118) C dX11_told_12 (by rw [hx]; decide) (by rw [hx]; decide) (off := 106) (by rw [hx]; decide) (by decide) ?_
                        refine zr_aload_n C dX11_told_118 rfl ?_
                        refine zf_X11_21 C (Nat.le_of_ble_eq_true rfl) dX11_told_119 ?_
                        refine zr_iload_n C dX11_told_122 rfl ?_
                        refine zr_iald (n := 10) C dX11_told_123 (Nat.le_of_ble_eq_true rfl) rfl ?_
                        exact zr_iret C dX11_told_124
                      · refine zr_if (fun hx => ?_) (fun _ => ?_)
                        · refine zr_tabIn (tgt := 125) C dX11_told_12 (by rw [hx]; decide) (by rw [hx]; decide) (off := 113) (by rw [hx]; decide) (by decide) ?_
                          refine zr_aload_n C dX11_told_125 rfl ?_
                          refine zf_X11_27 C (Nat.le_of_ble_eq_true rfl) dX11_told_126 ?_
                          refine zr_iload_n C dX11_told_129 rfl ?_
                          refine zr_iald (n := 10) C dX11_told_130 (Nat.le_of_ble_eq_true rfl) rfl ?_
                          exact zr_iret C dX11_told_131
                        · refine zr_if (fun hx => ?_) (fun _ => ?_)
                          · refine zr_tabIn (tgt := 132) C dX11_told_12 (by rw [hx]; decide) (by rw [hx]; decide) (off := 120) (by rw [hx]; decide) (by decide) ?_
                            refine zr_aload_n C dX11_told_132 rfl ?_
                            refine zf_X11_30 C (Nat.le_of_ble_eq_true rfl) dX11_told_133 ?_
                            refine zr_iload_n C dX11_told_136 rfl ?_
                            refine zr_iald (n := 10) C dX11_told_137 (Nat.le_of_ble_eq_true rfl) rfl ?_
                            exact zr_iret C dX11_told_138
                          · refine zr_if (fun hx => ?_) (fun _ => ?_)
                            · refine zr_tabIn (tgt := 139) C dX11_told_12 (by rw [hx]; decide) (by rw [hx]; decide) (off := 127) (by rw [hx]; decide) (by decide) ?_
                              refine zr_aload_n C dX11_told_139 rfl ?_
                              refine zf_X11_33 C (Nat.le_of_ble_eq_true rfl) dX11_told_140 ?_
                              refine zr_iload_n C dX11_told_143 rfl ?_
                              refine zr_iald (n := 10) C dX11_told_144 (Nat.le_of_ble_eq_true rfl) rfl ?_
                              exact zr_iret C dX11_told_145
                            · refine zr_if (fun hx => ?_) (fun _ => ?_)
                              · refine zr_tabIn (tgt := 146) C dX11_told_12 (by rw [hx]; decide) (by rw [hx]; decide) (off := 134) (by rw [hx]; decide) (by decide) ?_
                                refine zr_aload_n C dX11_told_146 rfl ?_
                                refine zf_X11_36 C (Nat.le_of_ble_eq_true rfl) dX11_told_147 ?_
                                refine zr_iload_n C dX11_told_150 rfl ?_
                                refine zr_iald (n := 10) C dX11_told_151 (Nat.le_of_ble_eq_true rfl) rfl ?_
                                exact zr_iret C dX11_told_152
                              · exact zr_none
  · refine zr_bipush (v := -5) C dX11_told_8 rfl ?_
    exact zr_iret C dX11_told_10
def f_X11_counts_4 (F : Nat) (rec4 : zMem → Int32 × Int32 → Option (Int32 × zMem)) (σ : zMem) (x : Int32 × Int32) : Option (Int32 × zMem) := if (σ.1 60 0 1) ≤ x.2 then (some (x.1, σ)) else (zg (inb x.2 10) (zg (inb 3 5) (zg (inb x.2 10) (zg (inb x.2 10) (zg (inb 3 5) (rec4 (zwi σ 67 0 x.2.toNatClampNeg ((σ.1 62 x.2.toNatClampNeg 3))) (((x.1 + ((zwi σ 67 0 x.2.toNatClampNeg ((σ.1 62 x.2.toNatClampNeg 3))).1 62 x.2.toNatClampNeg 3)), (x.2 + 1)))))))))
set_option maxHeartbeats 4000000 in
set_option maxRecDepth 100000 in
theorem c_X11_counts_4 (F : Nat) {E : zEn} {h : Nat} {Z : zLay} (C : zCx E cX11_counts RX11 3 (some .int) Z h) (hh : 1 ≤ h) : ∀ (n : Nat) (σ : zMem) (x : Int32 × Int32), zKO E 3 Z (zMQ E Z (zQI Z)) 4 [(0, .ref (zad Z 60 0)), (1, .int x.1), (2, .int x.2)] [] σ (zit (f_X11_counts_4 F) n σ x) := by
  refine zr_loop (LL := fun (x : Int32 × Int32) => [(0, .ref (zad Z 60 0)), (1, .int x.1), (2, .int x.2)]) (ST := fun (x : Int32 × Int32) => []) (fun rec4 hrec4 σ x => ?_)
  obtain ⟨l1, l2⟩ := x
  show zKO E 3 Z (zMQ E Z (zQI Z)) 4 [(0, .ref (zad Z 60 0)), (1, .int l1), (2, .int l2)] [] σ (if (σ.1 60 0 1) ≤ l2 then (some (l1, σ)) else (zg (inb l2 10) (zg (inb 3 5) (zg (inb l2 10) (zg (inb l2 10) (zg (inb 3 5) (rec4 (zwi σ 67 0 l2.toNatClampNeg ((σ.1 62 l2.toNatClampNeg 3))) (((l1 + ((zwi σ 67 0 l2.toNatClampNeg ((σ.1 62 l2.toNatClampNeg 3))).1 62 l2.toNatClampNeg 3)), (l2 + 1))))))))))
  refine zr_iload_n C dX11_counts_4 rfl ?_
  refine zr_aload_n C dX11_counts_5 rfl ?_
  refine zf_X11_160 C (Nat.le_of_ble_eq_true rfl) dX11_counts_6 ?_
  refine zr_icmp_ge (tgt := 43) C dX11_counts_9 (by decide) ?_ ?_
  · refine zr_iload_n C dX11_counts_43 rfl ?_
    exact zr_iret C dX11_counts_44
  · refine zr_aload_n C dX11_counts_12 rfl ?_
    refine zf_X11_27 C (Nat.le_of_ble_eq_true rfl) dX11_counts_13 ?_
    refine zr_iload_n C dX11_counts_16 rfl ?_
    refine zr_aload_n C dX11_counts_17 rfl ?_
    refine zf_X11_9 C (Nat.le_of_ble_eq_true rfl) dX11_counts_18 ?_
    refine zr_iload_n C dX11_counts_21 rfl ?_
    refine zr_aald (n := 10) (k1 := 62) C dX11_counts_22 (Nat.le_of_ble_eq_true rfl) rfl rfl rfl (fun hb22 => ?_)
    refine zr_iconst (v := 3) C dX11_counts_23 rfl ?_
    refine zr_iald (n := 5) C dX11_counts_24 hb22 rfl ?_
    refine zr_iast (n := 10) C dX11_counts_25 (Nat.le_of_ble_eq_true rfl) (fun _ _ => rfl) ?_
    refine zr_iload_n C dX11_counts_26 rfl ?_
    refine zr_aload_n C dX11_counts_27 rfl ?_
    refine zf_X11_9 C (Nat.le_of_ble_eq_true rfl) dX11_counts_28 ?_
    refine zr_iload_n C dX11_counts_31 rfl ?_
    refine zr_aald (n := 10) (k1 := 62) C dX11_counts_32 (Nat.le_of_ble_eq_true rfl) rfl rfl rfl (fun hb32 => ?_)
    refine zr_iconst (v := 3) C dX11_counts_33 rfl ?_
    refine zr_iald (n := 5) C dX11_counts_34 hb32 rfl ?_
    refine zr_iadd C dX11_counts_35 ?_
    refine zr_istore_n (i := 1) (L1 := [(1, .int _), (0, .ref _), (2, .int _)]) C dX11_counts_36 rfl (by decide) rfl ?_
    refine zr_iinc (kk := 2) (v := (l2 + 1)) (L1 := [(2, .int _), (1, .int _), (0, .ref _)]) C dX11_counts_37 rfl rfl (by decide) rfl ?_
    refine zr_goto (tgt := 4) C dX11_counts_40 (by decide) ?_
    exact zr_sub [2, 1, 0] rfl (hrec4 (zwi σ 67 0 l2.toNatClampNeg ((σ.1 62 l2.toNatClampNeg 3))) (((l1 + ((zwi σ 67 0 l2.toNatClampNeg ((σ.1 62 l2.toNatClampNeg 3))).1 62 l2.toNatClampNeg 3)), (l2 + 1))))
def f_X11_counts (F : Nat) (σ : zMem) : Option (Int32 × zMem) := zit (f_X11_counts_4 F) F σ ((0, 0))
set_option maxHeartbeats 4000000 in
set_option maxRecDepth 100000 in
theorem c_X11_counts (l : Launch) (Z : zLay) (F : Nat) (σ : zMem) (r : Int32) (σ1 : zMem) (ho : f_X11_counts F σ = some (r, σ1)) : zMet l yX11_counts cX11_counts 3 (some .int) 1 Z [.ref (zad Z 60 0)] σ (zQI Z r σ1) := by
  refine zMet_of (Qc := zQI Z) (by decide) (Nat.le_of_ble_eq_true rfl) [(0, .ref (zad Z 60 0))] rfl (fun E C => ?_) ho
  have hh : 1 ≤ 1 := Nat.le_refl _
  show zKO E 3 Z (zMQ E Z (zQI Z)) 0 [(0, .ref (zad Z 60 0))] [] σ _
  unfold f_X11_counts
  refine zr_iconst (v := 0) C dX11_counts_0 rfl ?_
  refine zr_istore_n (i := 1) (L1 := [(1, .int _), (0, .ref _)]) C dX11_counts_1 rfl (by decide) rfl ?_
  refine zr_iconst (v := 0) C dX11_counts_2 rfl ?_
  refine zr_istore_n (i := 2) (L1 := [(2, .int _), (1, .int _), (0, .ref _)]) C dX11_counts_3 rfl (by decide) rfl ?_
  exact zr_sub [2, 1, 0] rfl (c_X11_counts_4 F C hh F σ ((0, 0)))
def f_X11_commonOf (F : Nat) (σ : zMem) (a0 : Int32) : Option (Int32 × zMem) := if a0 = 1 then (some (0, σ)) else (if a0 = 4 then (some (0, σ)) else (if a0 = 2 then (some (1, σ)) else (if a0 = 3 then (some (2, σ)) else (some ((-1), σ)))))
set_option maxHeartbeats 4000000 in
set_option maxRecDepth 100000 in
theorem c_X11_commonOf (l : Launch) (Z : zLay) (F : Nat) (σ : zMem) (a0 : Int32) (r : Int32) (σ1 : zMem) (ho : f_X11_commonOf F σ a0 = some (r, σ1)) : zMet l yX11_commonOf cX11_commonOf 1 (some .int) 1 Z [.int (a0)] σ (zQI Z r σ1) := by
  refine zMet_of (Qc := zQI Z) (by decide) (Nat.le_of_ble_eq_true rfl) [(0, .int (a0))] rfl (fun E C => ?_) ho
  have hh : 1 ≤ 1 := Nat.le_refl _
  show zKO E 1 Z (zMQ E Z (zQI Z)) 0 [(0, .int (a0))] [] σ _
  unfold f_X11_commonOf
  refine zr_iload_n C dX11_commonOf_0 rfl ?_
  refine zr_iconst (v := 1) C dX11_commonOf_1 rfl ?_
  refine zr_icmp_eq (tgt := 10) C dX11_commonOf_2 (by decide) ?_ ?_
  · refine zr_iconst (v := 0) C dX11_commonOf_10 rfl ?_
    refine zr_goto (tgt := 33) C dX11_commonOf_11 (by decide) ?_
    exact zr_iret C dX11_commonOf_33
  · refine zr_iload_n C dX11_commonOf_5 rfl ?_
    refine zr_iconst (v := 4) C dX11_commonOf_6 rfl ?_
    refine zr_icmp_ne (tgt := 14) C dX11_commonOf_7 (by decide) ?_ ?_
    · refine zr_iload_n C dX11_commonOf_14 rfl ?_
      refine zr_iconst (v := 2) C dX11_commonOf_15 rfl ?_
      refine zr_icmp_ne (tgt := 23) C dX11_commonOf_16 (by decide) ?_ ?_
      · refine zr_iload_n C dX11_commonOf_23 rfl ?_
        refine zr_iconst (v := 3) C dX11_commonOf_24 rfl ?_
        refine zr_icmp_ne (tgt := 32) C dX11_commonOf_25 (by decide) ?_ ?_
        · refine zr_iconst (v := -1) C dX11_commonOf_32 rfl ?_
          exact zr_iret C dX11_commonOf_33
        · refine zr_iconst (v := 2) C dX11_commonOf_28 rfl ?_
          refine zr_goto (tgt := 33) C dX11_commonOf_29 (by decide) ?_
          exact zr_iret C dX11_commonOf_33
      · refine zr_iconst (v := 1) C dX11_commonOf_19 rfl ?_
        refine zr_goto (tgt := 33) C dX11_commonOf_20 (by decide) ?_
        exact zr_iret C dX11_commonOf_33
    · refine zr_iconst (v := 0) C dX11_commonOf_10 rfl ?_
      refine zr_goto (tgt := 33) C dX11_commonOf_11 (by decide) ?_
      exact zr_iret C dX11_commonOf_33
theorem zk_X11_202 (C : zCx E cc RX11 nL ret Z h) (F : Nat) {b0 : Int32} (hh : 1 + 1 ≤ h) (hst8 : (st.map fun v => v.category).sum ≤ 8) (hd : decode cc pc = .ok (.invokestatic 202, 3)) {g : Int32 → zMem → Option (α × zMem)} (kk : ∀ (r : Int32) (σ1 : zMem), zKO E nL Z QQ (pc + 3) L (.int r :: st) σ1 (g r σ1)) : zKO E nL Z QQ pc L (.int b0 :: st) σ (zb (f_X11_commonOf F σ b0) g) :=
  zr_callSI (As := [.int b0]) (ia := 1) C (fun r σ1 ho => c_X11_commonOf (zla E) Z F σ b0 r σ1 ho) wz_1340 wz_1341 wz_1342 wz_12 (by decide +kernel) rfl (by decide) hh hd hst8 kk
def f_X11_newRight (F : Nat) (σ : zMem) (a1 : Int32) (a2 : Int32) (a3 : Int32) : Option (Int32 × zMem) := zg (inb ((σ.1 60 0 12)) 50) (zg (inb (((zwi σ 73 0 ((σ.1 60 0 12)).toNatClampNeg a2).1 60 0 12)) 50) (zg (inb (((zwi (zwi σ 73 0 ((σ.1 60 0 12)).toNatClampNeg a2) 74 0 (((zwi σ 73 0 ((σ.1 60 0 12)).toNatClampNeg a2).1 60 0 12)).toNatClampNeg a1).1 60 0 12)) 50) (zg (inb (((zwi (zwi (zwi σ 73 0 ((σ.1 60 0 12)).toNatClampNeg a2) 74 0 (((zwi σ 73 0 ((σ.1 60 0 12)).toNatClampNeg a2).1 60 0 12)).toNatClampNeg a1) 75 0 (((zwi (zwi σ 73 0 ((σ.1 60 0 12)).toNatClampNeg a2) 74 0 (((zwi σ 73 0 ((σ.1 60 0 12)).toNatClampNeg a2).1 60 0 12)).toNatClampNeg a1).1 60 0 12)).toNatClampNeg a3).1 60 0 12)) 50) (some (((zwi (zwi (zwi (zwi σ 73 0 ((σ.1 60 0 12)).toNatClampNeg a2) 74 0 (((zwi σ 73 0 ((σ.1 60 0 12)).toNatClampNeg a2).1 60 0 12)).toNatClampNeg a1) 75 0 (((zwi (zwi σ 73 0 ((σ.1 60 0 12)).toNatClampNeg a2) 74 0 (((zwi σ 73 0 ((σ.1 60 0 12)).toNatClampNeg a2).1 60 0 12)).toNatClampNeg a1).1 60 0 12)).toNatClampNeg a3) 77 0 (((zwi (zwi (zwi σ 73 0 ((σ.1 60 0 12)).toNatClampNeg a2) 74 0 (((zwi σ 73 0 ((σ.1 60 0 12)).toNatClampNeg a2).1 60 0 12)).toNatClampNeg a1) 75 0 (((zwi (zwi σ 73 0 ((σ.1 60 0 12)).toNatClampNeg a2) 74 0 (((zwi σ 73 0 ((σ.1 60 0 12)).toNatClampNeg a2).1 60 0 12)).toNatClampNeg a1).1 60 0 12)).toNatClampNeg a3).1 60 0 12)).toNatClampNeg ((-1))).1 60 0 12), (zwi (zwi (zwi (zwi (zwi σ 73 0 ((σ.1 60 0 12)).toNatClampNeg a2) 74 0 (((zwi σ 73 0 ((σ.1 60 0 12)).toNatClampNeg a2).1 60 0 12)).toNatClampNeg a1) 75 0 (((zwi (zwi σ 73 0 ((σ.1 60 0 12)).toNatClampNeg a2) 74 0 (((zwi σ 73 0 ((σ.1 60 0 12)).toNatClampNeg a2).1 60 0 12)).toNatClampNeg a1).1 60 0 12)).toNatClampNeg a3) 77 0 (((zwi (zwi (zwi σ 73 0 ((σ.1 60 0 12)).toNatClampNeg a2) 74 0 (((zwi σ 73 0 ((σ.1 60 0 12)).toNatClampNeg a2).1 60 0 12)).toNatClampNeg a1) 75 0 (((zwi (zwi σ 73 0 ((σ.1 60 0 12)).toNatClampNeg a2) 74 0 (((zwi σ 73 0 ((σ.1 60 0 12)).toNatClampNeg a2).1 60 0 12)).toNatClampNeg a1).1 60 0 12)).toNatClampNeg a3).1 60 0 12)).toNatClampNeg ((-1))) 60 0 12 ((((zwi (zwi (zwi (zwi σ 73 0 ((σ.1 60 0 12)).toNatClampNeg a2) 74 0 (((zwi σ 73 0 ((σ.1 60 0 12)).toNatClampNeg a2).1 60 0 12)).toNatClampNeg a1) 75 0 (((zwi (zwi σ 73 0 ((σ.1 60 0 12)).toNatClampNeg a2) 74 0 (((zwi σ 73 0 ((σ.1 60 0 12)).toNatClampNeg a2).1 60 0 12)).toNatClampNeg a1).1 60 0 12)).toNatClampNeg a3) 77 0 (((zwi (zwi (zwi σ 73 0 ((σ.1 60 0 12)).toNatClampNeg a2) 74 0 (((zwi σ 73 0 ((σ.1 60 0 12)).toNatClampNeg a2).1 60 0 12)).toNatClampNeg a1) 75 0 (((zwi (zwi σ 73 0 ((σ.1 60 0 12)).toNatClampNeg a2) 74 0 (((zwi σ 73 0 ((σ.1 60 0 12)).toNatClampNeg a2).1 60 0 12)).toNatClampNeg a1).1 60 0 12)).toNatClampNeg a3).1 60 0 12)).toNatClampNeg ((-1))).1 60 0 12) + 1))))))))
set_option maxHeartbeats 4000000 in
set_option maxRecDepth 100000 in
theorem c_X11_newRight (l : Launch) (Z : zLay) (F : Nat) (σ : zMem) (a1 : Int32) (a2 : Int32) (a3 : Int32) (r : Int32) (σ1 : zMem) (ho : f_X11_newRight F σ a1 a2 a3 = some (r, σ1)) : zMet l yX11_newRight cX11_newRight 4 (some .int) 1 Z [.ref (zad Z 60 0), .int (a1), .int (a2), .int (a3)] σ (zQI Z r σ1) := by
  refine zMet_of (Qc := zQI Z) (by decide) (Nat.le_of_ble_eq_true rfl) [(0, .ref (zad Z 60 0)), (1, .int (a1)), (2, .int (a2)), (3, .int (a3))] rfl (fun E C => ?_) ho
  have hh : 1 ≤ 1 := Nat.le_refl _
  show zKO E 4 Z (zMQ E Z (zQI Z)) 0 [(0, .ref (zad Z 60 0)), (1, .int (a1)), (2, .int (a2)), (3, .int (a3))] [] σ _
  unfold f_X11_newRight
  refine zr_aload_n C dX11_newRight_0 rfl ?_
  refine zf_X11_42 C (Nat.le_of_ble_eq_true rfl) dX11_newRight_1 ?_
  refine zr_aload_n C dX11_newRight_4 rfl ?_
  refine zf_X11_167 C (Nat.le_of_ble_eq_true rfl) dX11_newRight_5 ?_
  refine zr_iload_n C dX11_newRight_8 rfl ?_
  refine zr_iast (n := 50) C dX11_newRight_9 (Nat.le_of_ble_eq_true rfl) (fun _ _ => rfl) ?_
  refine zr_aload_n C dX11_newRight_10 rfl ?_
  refine zf_X11_45 C (Nat.le_of_ble_eq_true rfl) dX11_newRight_11 ?_
  refine zr_aload_n C dX11_newRight_14 rfl ?_
  refine zf_X11_167 C (Nat.le_of_ble_eq_true rfl) dX11_newRight_15 ?_
  refine zr_iload_n C dX11_newRight_18 rfl ?_
  refine zr_iast (n := 50) C dX11_newRight_19 (Nat.le_of_ble_eq_true rfl) (fun _ _ => rfl) ?_
  refine zr_aload_n C dX11_newRight_20 rfl ?_
  refine zf_X11_48 C (Nat.le_of_ble_eq_true rfl) dX11_newRight_21 ?_
  refine zr_aload_n C dX11_newRight_24 rfl ?_
  refine zf_X11_167 C (Nat.le_of_ble_eq_true rfl) dX11_newRight_25 ?_
  refine zr_iload_n C dX11_newRight_28 rfl ?_
  refine zr_iast (n := 50) C dX11_newRight_29 (Nat.le_of_ble_eq_true rfl) (fun _ _ => rfl) ?_
  refine zr_aload_n C dX11_newRight_30 rfl ?_
  refine zf_X11_54 C (Nat.le_of_ble_eq_true rfl) dX11_newRight_31 ?_
  refine zr_aload_n C dX11_newRight_34 rfl ?_
  refine zf_X11_167 C (Nat.le_of_ble_eq_true rfl) dX11_newRight_35 ?_
  refine zr_iconst (v := -1) C dX11_newRight_38 rfl ?_
  refine zr_iast (n := 50) C dX11_newRight_39 (Nat.le_of_ble_eq_true rfl) (fun _ _ => rfl) ?_
  refine zr_aload_n C dX11_newRight_40 rfl ?_
  refine zr_dup C dX11_newRight_41 rfl ?_
  refine zf_X11_167 C (Nat.le_of_ble_eq_true rfl) dX11_newRight_42 ?_
  refine zr_dup_x1 C dX11_newRight_45 rfl rfl ?_
  refine zr_iconst (v := 1) C dX11_newRight_46 rfl ?_
  refine zr_iadd C dX11_newRight_47 ?_
  refine zp_X11_167 C (Nat.le_of_ble_eq_true rfl) dX11_newRight_48 ?_
  exact zr_iret C dX11_newRight_51
theorem zk_X11_189 (C : zCx E cc RX11 nL ret Z h) (F : Nat) {b0 : Int32} {b1 : Int32} {b2 : Int32} (hk : 0 < zN 60) (hh : 1 + 1 ≤ h) (hst8 : (st.map fun v => v.category).sum ≤ 8) (hd : decode cc pc = .ok (.invokevirtual 189, 3)) {g : Int32 → zMem → Option (α × zMem)} (kk : ∀ (r : Int32) (σ1 : zMem), zKO E nL Z QQ (pc + 3) L (.int r :: st) σ1 (g r σ1)) : zKO E nL Z QQ pc L (.int b2 :: .int b1 :: .int b0 :: .ref (zad Z 60 0) :: st) σ (zb (f_X11_newRight F σ b0 b1 b2) g) :=
  zr_callVI (As := [.int b0, .int b1, .int b2]) (ia := 3) C (fun r σ1 ho => c_X11_newRight (zla E) Z F σ b0 b1 b2 r σ1 ho) wz_1328 hk rfl rfl wz_p83 wz_1330 wz_1331 wz_12 (by decide +kernel) rfl (by decide) hh hd hst8 kk
def f_X11_right (F : Nat) (σ : zMem) (a1 : Int32) (a2 : Int32) (a3 : Int32) : Option (Int32 × zMem) := zb (f_X11_isHouse F σ a1) fun r2 m2 => if r2 = 0 then (some ((-1), m2)) else (zb (f_X11_in F m2 a2 0 5) fun r13 m13 => if r13 = 0 then (some ((-2), m13)) else (if a2 = 4 then (some ((-2), m13)) else (zb (f_X11_in F m13 a3 1 999) fun r29 m29 => if r29 = 0 then (some ((-2), m29)) else (if (m29.1 60 0 12) = 50 then (some ((-4), m29)) else (zb (f_X11_newRight F m29 a1 a2 a3) fun r56 m56 => some (r56, m56))))))
set_option maxHeartbeats 4000000 in
set_option maxRecDepth 100000 in
theorem c_X11_right (l : Launch) (Z : zLay) (F : Nat) (σ : zMem) (a1 : Int32) (a2 : Int32) (a3 : Int32) (r : Int32) (σ1 : zMem) (ho : f_X11_right F σ a1 a2 a3 = some (r, σ1)) : zMet l yX11_right cX11_right 4 (some .int) 3 Z [.ref (zad Z 60 0), .int (a1), .int (a2), .int (a3)] σ (zQI Z r σ1) := by
  refine zMet_of (Qc := zQI Z) (by decide) (Nat.le_of_ble_eq_true rfl) [(0, .ref (zad Z 60 0)), (1, .int (a1)), (2, .int (a2)), (3, .int (a3))] rfl (fun E C => ?_) ho
  have hh : 3 ≤ 3 := Nat.le_refl _
  show zKO E 4 Z (zMQ E Z (zQI Z)) 0 [(0, .ref (zad Z 60 0)), (1, .int (a1)), (2, .int (a2)), (3, .int (a3))] [] σ _
  unfold f_X11_right
  refine zr_aload_n C dX11_right_0 rfl ?_
  refine zr_iload_n C dX11_right_1 rfl ?_
  refine zk_X11_181 C F (Nat.le_of_ble_eq_true rfl) (Nat.le_trans (by decide) hh) (by simp [Value.category]) dX11_right_2 (fun r2 m2 => ?_)
  refine zr_if_ne (tgt := 10) C dX11_right_5 (by decide) ?_ ?_
  · refine zr_iload_n C dX11_right_10 rfl ?_
    refine zr_iconst (v := 0) C dX11_right_11 rfl ?_
    refine zr_iconst (v := 5) C dX11_right_12 rfl ?_
    refine zk_X11_163 C F (Nat.le_trans (by decide) hh) (by simp [Value.category]) dX11_right_13 (fun r13 m13 => ?_)
    refine zr_if_eq (tgt := 35) C dX11_right_16 (by decide) ?_ ?_
    · refine zr_bipush (v := -2) C dX11_right_35 rfl ?_
      exact zr_iret C dX11_right_37
    · refine zr_iload_n C dX11_right_19 rfl ?_
      refine zr_iconst (v := 4) C dX11_right_20 rfl ?_
      refine zr_icmp_eq (tgt := 35) C dX11_right_21 (by decide) ?_ ?_
      · refine zr_bipush (v := -2) C dX11_right_35 rfl ?_
        exact zr_iret C dX11_right_37
      · refine zr_iload_n C dX11_right_24 rfl ?_
        refine zr_iconst (v := 1) C dX11_right_25 rfl ?_
        refine zr_sipush (v := 999) C dX11_right_26 rfl ?_
        refine zk_X11_163 C F (Nat.le_trans (by decide) hh) (by simp [Value.category]) dX11_right_29 (fun r29 m29 => ?_)
        refine zr_if_ne (tgt := 38) C dX11_right_32 (by decide) ?_ ?_
        · refine zr_aload_n C dX11_right_38 rfl ?_
          refine zf_X11_167 C (Nat.le_of_ble_eq_true rfl) dX11_right_39 ?_
          refine zr_bipush (v := 50) C dX11_right_42 rfl ?_
          refine zr_icmp_ne (tgt := 52) C dX11_right_44 (by decide) ?_ ?_
          · refine zr_aload_n C dX11_right_52 rfl ?_
            refine zr_iload_n C dX11_right_53 rfl ?_
            refine zr_iload_n C dX11_right_54 rfl ?_
            refine zr_iload_n C dX11_right_55 rfl ?_
            refine zk_X11_189 C F (Nat.le_of_ble_eq_true rfl) (Nat.le_trans (by decide) hh) (by simp [Value.category]) dX11_right_56 (fun r56 m56 => ?_)
            exact zr_iret C dX11_right_59
          · refine zr_bipush (v := -4) C dX11_right_47 rfl ?_
            refine zr_goto (tgt := 59) C dX11_right_49 (by decide) ?_
            exact zr_iret C dX11_right_59
        · refine zr_bipush (v := -2) C dX11_right_35 rfl ?_
          exact zr_iret C dX11_right_37
  · refine zr_iconst (v := -1) C dX11_right_8 rfl ?_
    exact zr_iret C dX11_right_9
def f_X11_lent (F : Nat) (σ : zMem) (a1 : Int32) : Option (Int32 × zMem) := zg (inb a1 50) (if (σ.1 77 0 a1.toNatClampNeg) ≤ (σ.1 60 0 0) then (some (0, σ)) else (some (1, σ)))
set_option maxHeartbeats 4000000 in
set_option maxRecDepth 100000 in
theorem c_X11_lent (l : Launch) (Z : zLay) (F : Nat) (σ : zMem) (a1 : Int32) (r : Int32) (σ1 : zMem) (ho : f_X11_lent F σ a1 = some (r, σ1)) : zMet l yX11_lent cX11_lent 2 (some .boolean) 1 Z [.ref (zad Z 60 0), .int (a1)] σ (zQI Z r σ1) := by
  refine zMet_of (Qc := zQI Z) (by decide) (Nat.le_of_ble_eq_true rfl) [(0, .ref (zad Z 60 0)), (1, .int (a1))] rfl (fun E C => ?_) ho
  have hh : 1 ≤ 1 := Nat.le_refl _
  show zKO E 2 Z (zMQ E Z (zQI Z)) 0 [(0, .ref (zad Z 60 0)), (1, .int (a1))] [] σ _
  unfold f_X11_lent
  refine zr_aload_n C dX11_lent_0 rfl ?_
  refine zf_X11_193 C (Nat.le_of_ble_eq_true rfl) dX11_lent_1 ?_
  refine zr_aload_n C dX11_lent_4 rfl ?_
  refine zf_X11_54 C (Nat.le_of_ble_eq_true rfl) dX11_lent_5 ?_
  refine zr_iload_n C dX11_lent_8 rfl ?_
  refine zr_iald (n := 50) C dX11_lent_9 (Nat.le_of_ble_eq_true rfl) rfl ?_
  refine zr_icmp_ge (tgt := 17) C dX11_lent_10 (by decide) ?_ ?_
  · refine zr_iconst (v := 0) C dX11_lent_17 rfl ?_
    exact zr_zret C dX11_lent_18 rfl
  · refine zr_iconst (v := 1) C dX11_lent_13 rfl ?_
    refine zr_goto (tgt := 18) C dX11_lent_14 (by decide) ?_
    exact zr_zret C dX11_lent_18 rfl
theorem zk_X11_196 (C : zCx E cc RX11 nL ret Z h) (F : Nat) {b0 : Int32} (hk : 0 < zN 60) (hh : 1 + 1 ≤ h) (hst8 : (st.map fun v => v.category).sum ≤ 8) (hd : decode cc pc = .ok (.invokevirtual 196, 3)) {g : Int32 → zMem → Option (α × zMem)} (kk : ∀ (r : Int32) (σ1 : zMem), zKO E nL Z QQ (pc + 3) L (.int r :: st) σ1 (g r σ1)) : zKO E nL Z QQ pc L (.int b0 :: .ref (zad Z 60 0) :: st) σ (zb (f_X11_lent F σ b0) g) :=
  zr_callVI (As := [.int b0]) (ia := 1) C (fun r σ1 ho => c_X11_lent (zla E) Z F σ b0 r σ1 ho) wz_1343 hk rfl rfl wz_p85 wz_1345 wz_1346 wz_12 (by decide +kernel) rfl (by decide) hh hd hst8 kk
def f_X11_holder (F : Nat) (σ : zMem) (a1 : Int32) : Option (Int32 × zMem) := zb (f_X11_lent F σ a1) fun r2 m2 => if r2 = 0 then (zg (inb a1 50) (some ((m2.1 74 0 a1.toNatClampNeg), m2))) else (zg (inb a1 50) (some ((m2.1 76 0 a1.toNatClampNeg), m2)))
set_option maxHeartbeats 4000000 in
set_option maxRecDepth 100000 in
theorem c_X11_holder (l : Launch) (Z : zLay) (F : Nat) (σ : zMem) (a1 : Int32) (r : Int32) (σ1 : zMem) (ho : f_X11_holder F σ a1 = some (r, σ1)) : zMet l yX11_holder cX11_holder 2 (some .int) 2 Z [.ref (zad Z 60 0), .int (a1)] σ (zQI Z r σ1) := by
  refine zMet_of (Qc := zQI Z) (by decide) (Nat.le_of_ble_eq_true rfl) [(0, .ref (zad Z 60 0)), (1, .int (a1))] rfl (fun E C => ?_) ho
  have hh : 2 ≤ 2 := Nat.le_refl _
  show zKO E 2 Z (zMQ E Z (zQI Z)) 0 [(0, .ref (zad Z 60 0)), (1, .int (a1))] [] σ _
  unfold f_X11_holder
  refine zr_aload_n C dX11_holder_0 rfl ?_
  refine zr_iload_n C dX11_holder_1 rfl ?_
  refine zk_X11_196 C F (Nat.le_of_ble_eq_true rfl) (Nat.le_trans (by decide) hh) (by simp [Value.category]) dX11_holder_2 (fun r2 m2 => ?_)
  refine zr_if_eq (tgt := 17) C dX11_holder_5 (by decide) ?_ ?_
  · refine zr_aload_n C dX11_holder_17 rfl ?_
    refine zf_X11_45 C (Nat.le_of_ble_eq_true rfl) dX11_holder_18 ?_
    refine zr_iload_n C dX11_holder_21 rfl ?_
    refine zr_iald (n := 50) C dX11_holder_22 (Nat.le_of_ble_eq_true rfl) rfl ?_
    exact zr_iret C dX11_holder_23
  · refine zr_aload_n C dX11_holder_8 rfl ?_
    refine zf_X11_51 C (Nat.le_of_ble_eq_true rfl) dX11_holder_9 ?_
    refine zr_iload_n C dX11_holder_12 rfl ?_
    refine zr_iald (n := 50) C dX11_holder_13 (Nat.le_of_ble_eq_true rfl) rfl ?_
    refine zr_goto (tgt := 23) C dX11_holder_14 (by decide) ?_
    exact zr_iret C dX11_holder_23
theorem zk_X11_205 (C : zCx E cc RX11 nL ret Z h) (F : Nat) {b0 : Int32} (hk : 0 < zN 60) (hh : 2 + 1 ≤ h) (hst8 : (st.map fun v => v.category).sum ≤ 8) (hd : decode cc pc = .ok (.invokevirtual 205, 3)) {g : Int32 → zMem → Option (α × zMem)} (kk : ∀ (r : Int32) (σ1 : zMem), zKO E nL Z QQ (pc + 3) L (.int r :: st) σ1 (g r σ1)) : zKO E nL Z QQ pc L (.int b0 :: .ref (zad Z 60 0) :: st) σ (zb (f_X11_holder F σ b0) g) :=
  zr_callVI (As := [.int b0]) (ia := 1) C (fun r σ1 ho => c_X11_holder (zla E) Z F σ b0 r σ1 ho) wz_1363 hk rfl rfl wz_p86 wz_1365 wz_1366 wz_12 (by decide +kernel) rfl (by decide) hh hd hst8 kk
def f_X11_split_104 (F : Nat) (σ : zMem) (l2 : Int32) (s0 : Int32) (s1 : Int32) : Option (Int32 × zMem) := zb (f_X11_newRight F σ s1 s0 l2) fun r105 m105 => some (r105, m105)
set_option maxHeartbeats 4000000 in
set_option maxRecDepth 100000 in
theorem c_X11_split_104 (F : Nat) {E : zEn} {h : Nat} {Z : zLay} (C : zCx E cX11_split RX11 3 (some .int) Z h) (hh : 3 ≤ h) (σ : zMem) (l2 : Int32) (s0 : Int32) (s1 : Int32) : zKO E 3 Z (zMQ E Z (zQI Z)) 104 [(2, .int l2)] [.int s0, .int s1, .ref (zad Z 60 0)] σ (f_X11_split_104 F σ l2 s0 s1) := by
  unfold f_X11_split_104
  refine zr_iload_n C dX11_split_104 rfl ?_
  refine zk_X11_189 C F (Nat.le_of_ble_eq_true rfl) (Nat.le_trans (by decide) hh) (by simp [Value.category]) dX11_split_105 (fun r105 m105 => ?_)
  exact zr_iret C dX11_split_108
def f_X11_split (F : Nat) (σ : zMem) (a1 : Int32) (a2 : Int32) : Option (Int32 × zMem) := zb (f_X11_isRight F σ a1) fun r2 m2 => if r2 = 0 then (some ((-1), m2)) else (zg (inb a1 50) (zb (f_X11_in F m2 a2 1 (((m2.1 75 0 a1.toNatClampNeg) - 1))) fun r20 m20 => if r20 = 0 then (some ((-2), m20)) else (zg (inb a1 50) (zb (f_X11_commonOf F m20 ((m20.1 73 0 a1.toNatClampNeg))) fun r35 m35 => if r35 = (-1) then (some ((-3), m35)) else (zb (f_X11_lent F m35 a1) fun r44 m44 => if r44 = 0 then (if (m44.1 60 0 12) = 50 then (some ((-4), m44)) else (zg (inb a1 50) (zg (inb a1 50) (zg (inb a1 50) (zg (inb a1 50) (zb (f_X11_commonOf F (zwi m44 75 0 a1.toNatClampNeg (((m44.1 75 0 a1.toNatClampNeg) - a2))) (((zwi m44 75 0 a1.toNatClampNeg (((m44.1 75 0 a1.toNatClampNeg) - a2))).1 73 0 a1.toNatClampNeg))) fun r88 m88 => if r88 = 0 then (f_X11_split_104 F m88 a2 4 (((zwi m44 75 0 a1.toNatClampNeg (((m44.1 75 0 a1.toNatClampNeg) - a2))).1 74 0 a1.toNatClampNeg))) else (zg (inb a1 50) (f_X11_split_104 F m88 a2 ((m88.1 73 0 a1.toNatClampNeg)) (((zwi m44 75 0 a1.toNatClampNeg (((m44.1 75 0 a1.toNatClampNeg) - a2))).1 74 0 a1.toNatClampNeg)))))))))) else (some ((-3), m44)))))))
set_option maxHeartbeats 4000000 in
set_option maxRecDepth 100000 in
theorem c_X11_split (l : Launch) (Z : zLay) (F : Nat) (σ : zMem) (a1 : Int32) (a2 : Int32) (r : Int32) (σ1 : zMem) (ho : f_X11_split F σ a1 a2 = some (r, σ1)) : zMet l yX11_split cX11_split 3 (some .int) 3 Z [.ref (zad Z 60 0), .int (a1), .int (a2)] σ (zQI Z r σ1) := by
  refine zMet_of (Qc := zQI Z) (by decide) (Nat.le_of_ble_eq_true rfl) [(0, .ref (zad Z 60 0)), (1, .int (a1)), (2, .int (a2))] rfl (fun E C => ?_) ho
  have hh : 3 ≤ 3 := Nat.le_refl _
  show zKO E 3 Z (zMQ E Z (zQI Z)) 0 [(0, .ref (zad Z 60 0)), (1, .int (a1)), (2, .int (a2))] [] σ _
  unfold f_X11_split
  refine zr_aload_n C dX11_split_0 rfl ?_
  refine zr_iload_n C dX11_split_1 rfl ?_
  refine zk_X11_199 C F (Nat.le_of_ble_eq_true rfl) (Nat.le_trans (by decide) hh) (by simp [Value.category]) dX11_split_2 (fun r2 m2 => ?_)
  refine zr_if_ne (tgt := 10) C dX11_split_5 (by decide) ?_ ?_
  · refine zr_iload_n C dX11_split_10 rfl ?_
    refine zr_iconst (v := 1) C dX11_split_11 rfl ?_
    refine zr_aload_n C dX11_split_12 rfl ?_
    refine zf_X11_48 C (Nat.le_of_ble_eq_true rfl) dX11_split_13 ?_
    refine zr_iload_n C dX11_split_16 rfl ?_
    refine zr_iald (n := 50) C dX11_split_17 (Nat.le_of_ble_eq_true rfl) rfl ?_
    refine zr_iconst (v := 1) C dX11_split_18 rfl ?_
    refine zr_isub C dX11_split_19 ?_
    refine zk_X11_163 C F (Nat.le_trans (by decide) hh) (by simp [Value.category]) dX11_split_20 (fun r20 m20 => ?_)
    refine zr_if_ne (tgt := 29) C dX11_split_23 (by decide) ?_ ?_
    · refine zr_aload_n C dX11_split_29 rfl ?_
      refine zf_X11_42 C (Nat.le_of_ble_eq_true rfl) dX11_split_30 ?_
      refine zr_iload_n C dX11_split_33 rfl ?_
      refine zr_iald (n := 50) C dX11_split_34 (Nat.le_of_ble_eq_true rfl) rfl ?_
      refine zk_X11_202 C F (Nat.le_trans (by decide) hh) (by simp [Value.category]) dX11_split_35 (fun r35 m35 => ?_)
      refine zr_iconst (v := -1) C dX11_split_38 rfl ?_
      refine zr_icmp_eq (tgt := 50) C dX11_split_39 (by decide) ?_ ?_
      · refine zr_bipush (v := -3) C dX11_split_50 rfl ?_
        exact zr_iret C dX11_split_52
      · refine zr_aload_n C dX11_split_42 rfl ?_
        refine zr_iload_n C dX11_split_43 rfl ?_
        refine zk_X11_196 C F (Nat.le_of_ble_eq_true rfl) (Nat.le_trans (by decide) hh) (by simp [Value.category]) dX11_split_44 (fun r44 m44 => ?_)
        refine zr_if_eq (tgt := 53) C dX11_split_47 (by decide) ?_ ?_
        · refine zr_aload_n C dX11_split_53 rfl ?_
          refine zf_X11_167 C (Nat.le_of_ble_eq_true rfl) dX11_split_54 ?_
          refine zr_bipush (v := 50) C dX11_split_57 rfl ?_
          refine zr_icmp_ne (tgt := 65) C dX11_split_59 (by decide) ?_ ?_
          · refine zr_aload_n C dX11_split_65 rfl ?_
            refine zf_X11_48 C (Nat.le_of_ble_eq_true rfl) dX11_split_66 ?_
            refine zr_iload_n C dX11_split_69 rfl ?_
            refine zr_dup2 C dX11_split_70 rfl rfl ?_
            refine zr_iald (n := 50) C dX11_split_71 (Nat.le_of_ble_eq_true rfl) rfl ?_
            refine zr_iload_n C dX11_split_72 rfl ?_
            refine zr_isub C dX11_split_73 ?_
            refine zr_iast (n := 50) C dX11_split_74 (Nat.le_of_ble_eq_true rfl) (fun _ _ => rfl) ?_
            refine zr_aload_n C dX11_split_75 rfl ?_
            refine zr_aload_n C dX11_split_76 rfl ?_
            refine zf_X11_45 C (Nat.le_of_ble_eq_true rfl) dX11_split_77 ?_
            refine zr_iload_n C dX11_split_80 rfl ?_
            refine zr_iald (n := 50) C dX11_split_81 (Nat.le_of_ble_eq_true rfl) rfl ?_
            refine zr_aload_n C dX11_split_82 rfl ?_
            refine zf_X11_42 C (Nat.le_of_ble_eq_true rfl) dX11_split_83 ?_
            refine zr_iload_n C dX11_split_86 rfl ?_
            refine zr_iald (n := 50) C dX11_split_87 (Nat.le_of_ble_eq_true rfl) rfl ?_
            refine zk_X11_202 C F (Nat.le_trans (by decide) hh) (by simp [Value.category]) dX11_split_88 (fun r88 m88 => ?_)
            refine zr_if_ne (tgt := 98) C dX11_split_91 (by decide) ?_ ?_
            · refine zr_aload_n C dX11_split_98 rfl ?_
              refine zf_X11_42 C (Nat.le_of_ble_eq_true rfl) dX11_split_99 ?_
              refine zr_iload_n C dX11_split_102 rfl ?_
              refine zr_iald (n := 50) C dX11_split_103 (Nat.le_of_ble_eq_true rfl) rfl ?_
              exact zr_sub [2] rfl (c_X11_split_104 F C hh m88 a2 ((m88.1 73 0 a1.toNatClampNeg)) (((zwi m44 75 0 a1.toNatClampNeg (((m44.1 75 0 a1.toNatClampNeg) - a2))).1 74 0 a1.toNatClampNeg)))
            · refine zr_iconst (v := 4) C dX11_split_94 rfl ?_
              refine zr_goto (tgt := 104) C dX11_split_95 (by decide) ?_
              exact zr_sub [2] rfl (c_X11_split_104 F C hh m88 a2 4 (((zwi m44 75 0 a1.toNatClampNeg (((m44.1 75 0 a1.toNatClampNeg) - a2))).1 74 0 a1.toNatClampNeg)))
          · refine zr_bipush (v := -4) C dX11_split_62 rfl ?_
            exact zr_iret C dX11_split_64
        · refine zr_bipush (v := -3) C dX11_split_50 rfl ?_
          exact zr_iret C dX11_split_52
    · refine zr_bipush (v := -2) C dX11_split_26 rfl ?_
      exact zr_iret C dX11_split_28
  · refine zr_iconst (v := -1) C dX11_split_8 rfl ?_
    exact zr_iret C dX11_split_9
def f_X11_join (F : Nat) (σ : zMem) (a1 : Int32) (a2 : Int32) : Option (Int32 × zMem) := zb (f_X11_isRight F σ a1) fun r2 m2 => if r2 = 0 then (some ((-1), m2)) else (zb (f_X11_isRight F m2 a2) fun r10 m10 => if r10 = 0 then (some ((-1), m10)) else (if a1 = a2 then (some ((-2), m10)) else (zg (inb a1 50) (zb (f_X11_commonOf F m10 ((m10.1 73 0 a1.toNatClampNeg))) fun r32 m32 => if r32 = (-1) then (some ((-3), m32)) else (zg (inb a2 50) (zb (f_X11_commonOf F m32 ((m32.1 73 0 a2.toNatClampNeg))) fun r48 m48 => if r32 = r48 then (zg (inb a1 50) (zg (inb a2 50) (if (m48.1 74 0 a1.toNatClampNeg) = (m48.1 74 0 a2.toNatClampNeg) then (zb (f_X11_lent F m48 a1) fun r71 m71 => if r71 = 0 then (zb (f_X11_lent F m71 a2) fun r79 m79 => if r79 = 0 then (zg (inb a1 50) (if (m79.1 75 0 a1.toNatClampNeg) = 0 then (some ((-3), m79)) else (zg (inb a2 50) (if (m79.1 75 0 a2.toNatClampNeg) = 0 then (some ((-3), m79)) else (zg (inb a2 50) (zg (inb a1 50) (zg (inb a2 50) (zg (inb a1 50) (zg (inb a2 50) (some (((zwi (zwi m79 75 0 a2.toNatClampNeg (((m79.1 75 0 a2.toNatClampNeg) + (m79.1 75 0 a1.toNatClampNeg)))) 75 0 a1.toNatClampNeg 0).1 75 0 a2.toNatClampNeg), (zwi (zwi m79 75 0 a2.toNatClampNeg (((m79.1 75 0 a2.toNatClampNeg) + (m79.1 75 0 a1.toNatClampNeg)))) 75 0 a1.toNatClampNeg 0)))))))))))) else (some ((-3), m79))) else (some ((-3), m71))) else (some ((-3), m48))))) else (some ((-3), m48))))))))
set_option maxHeartbeats 4000000 in
set_option maxRecDepth 100000 in
theorem c_X11_join (l : Launch) (Z : zLay) (F : Nat) (σ : zMem) (a1 : Int32) (a2 : Int32) (r : Int32) (σ1 : zMem) (ho : f_X11_join F σ a1 a2 = some (r, σ1)) : zMet l yX11_join cX11_join 4 (some .int) 3 Z [.ref (zad Z 60 0), .int (a1), .int (a2)] σ (zQI Z r σ1) := by
  refine zMet_of (Qc := zQI Z) (by decide) (Nat.le_of_ble_eq_true rfl) [(0, .ref (zad Z 60 0)), (1, .int (a1)), (2, .int (a2))] rfl (fun E C => ?_) ho
  have hh : 3 ≤ 3 := Nat.le_refl _
  show zKO E 4 Z (zMQ E Z (zQI Z)) 0 [(0, .ref (zad Z 60 0)), (1, .int (a1)), (2, .int (a2))] [] σ _
  unfold f_X11_join
  refine zr_aload_n C dX11_join_0 rfl ?_
  refine zr_iload_n C dX11_join_1 rfl ?_
  refine zk_X11_199 C F (Nat.le_of_ble_eq_true rfl) (Nat.le_trans (by decide) hh) (by simp [Value.category]) dX11_join_2 (fun r2 m2 => ?_)
  refine zr_if_eq (tgt := 16) C dX11_join_5 (by decide) ?_ ?_
  · refine zr_iconst (v := -1) C dX11_join_16 rfl ?_
    exact zr_iret C dX11_join_17
  · refine zr_aload_n C dX11_join_8 rfl ?_
    refine zr_iload_n C dX11_join_9 rfl ?_
    refine zk_X11_199 C F (Nat.le_of_ble_eq_true rfl) (Nat.le_trans (by decide) hh) (by simp [Value.category]) dX11_join_10 (fun r10 m10 => ?_)
    refine zr_if_ne (tgt := 18) C dX11_join_13 (by decide) ?_ ?_
    · refine zr_iload_n C dX11_join_18 rfl ?_
      refine zr_iload_n C dX11_join_19 rfl ?_
      refine zr_icmp_ne (tgt := 26) C dX11_join_20 (by decide) ?_ ?_
      · refine zr_aload_n C dX11_join_26 rfl ?_
        refine zf_X11_42 C (Nat.le_of_ble_eq_true rfl) dX11_join_27 ?_
        refine zr_iload_n C dX11_join_30 rfl ?_
        refine zr_iald (n := 50) C dX11_join_31 (Nat.le_of_ble_eq_true rfl) rfl ?_
        refine zk_X11_202 C F (Nat.le_trans (by decide) hh) (by simp [Value.category]) dX11_join_32 (fun r32 m32 => ?_)
        refine zr_istore_n (i := 3) (L1 := [(3, .int _), (0, .ref _), (1, .int _), (2, .int _)]) C dX11_join_35 rfl (by decide) rfl ?_
        refine zr_iload_n C dX11_join_36 rfl ?_
        refine zr_iconst (v := -1) C dX11_join_37 rfl ?_
        refine zr_icmp_eq (tgt := 103) C dX11_join_38 (by decide) ?_ ?_
        · refine zr_bipush (v := -3) C dX11_join_103 rfl ?_
          exact zr_iret C dX11_join_105
        · refine zr_iload_n C dX11_join_41 rfl ?_
          refine zr_aload_n C dX11_join_42 rfl ?_
          refine zf_X11_42 C (Nat.le_of_ble_eq_true rfl) dX11_join_43 ?_
          refine zr_iload_n C dX11_join_46 rfl ?_
          refine zr_iald (n := 50) C dX11_join_47 (Nat.le_of_ble_eq_true rfl) rfl ?_
          refine zk_X11_202 C F (Nat.le_trans (by decide) hh) (by simp [Value.category]) dX11_join_48 (fun r48 m48 => ?_)
          refine zr_icmp_ne (tgt := 103) C dX11_join_51 (by decide) ?_ ?_
          · refine zr_bipush (v := -3) C dX11_join_103 rfl ?_
            exact zr_iret C dX11_join_105
          · refine zr_aload_n C dX11_join_54 rfl ?_
            refine zf_X11_45 C (Nat.le_of_ble_eq_true rfl) dX11_join_55 ?_
            refine zr_iload_n C dX11_join_58 rfl ?_
            refine zr_iald (n := 50) C dX11_join_59 (Nat.le_of_ble_eq_true rfl) rfl ?_
            refine zr_aload_n C dX11_join_60 rfl ?_
            refine zf_X11_45 C (Nat.le_of_ble_eq_true rfl) dX11_join_61 ?_
            refine zr_iload_n C dX11_join_64 rfl ?_
            refine zr_iald (n := 50) C dX11_join_65 (Nat.le_of_ble_eq_true rfl) rfl ?_
            refine zr_icmp_ne (tgt := 103) C dX11_join_66 (by decide) ?_ ?_
            · refine zr_bipush (v := -3) C dX11_join_103 rfl ?_
              exact zr_iret C dX11_join_105
            · refine zr_aload_n C dX11_join_69 rfl ?_
              refine zr_iload_n C dX11_join_70 rfl ?_
              refine zk_X11_196 C F (Nat.le_of_ble_eq_true rfl) (Nat.le_trans (by decide) hh) (by simp [Value.category]) dX11_join_71 (fun r71 m71 => ?_)
              refine zr_if_ne (tgt := 103) C dX11_join_74 (by decide) ?_ ?_
              · refine zr_bipush (v := -3) C dX11_join_103 rfl ?_
                exact zr_iret C dX11_join_105
              · refine zr_aload_n C dX11_join_77 rfl ?_
                refine zr_iload_n C dX11_join_78 rfl ?_
                refine zk_X11_196 C F (Nat.le_of_ble_eq_true rfl) (Nat.le_trans (by decide) hh) (by simp [Value.category]) dX11_join_79 (fun r79 m79 => ?_)
                refine zr_if_ne (tgt := 103) C dX11_join_82 (by decide) ?_ ?_
                · refine zr_bipush (v := -3) C dX11_join_103 rfl ?_
                  exact zr_iret C dX11_join_105
                · refine zr_aload_n C dX11_join_85 rfl ?_
                  refine zf_X11_48 C (Nat.le_of_ble_eq_true rfl) dX11_join_86 ?_
                  refine zr_iload_n C dX11_join_89 rfl ?_
                  refine zr_iald (n := 50) C dX11_join_90 (Nat.le_of_ble_eq_true rfl) rfl ?_
                  refine zr_if_eq (tgt := 103) C dX11_join_91 (by decide) ?_ ?_
                  · refine zr_bipush (v := -3) C dX11_join_103 rfl ?_
                    exact zr_iret C dX11_join_105
                  · refine zr_aload_n C dX11_join_94 rfl ?_
                    refine zf_X11_48 C (Nat.le_of_ble_eq_true rfl) dX11_join_95 ?_
                    refine zr_iload_n C dX11_join_98 rfl ?_
                    refine zr_iald (n := 50) C dX11_join_99 (Nat.le_of_ble_eq_true rfl) rfl ?_
                    refine zr_if_ne (tgt := 106) C dX11_join_100 (by decide) ?_ ?_
                    · refine zr_aload_n C dX11_join_106 rfl ?_
                      refine zf_X11_48 C (Nat.le_of_ble_eq_true rfl) dX11_join_107 ?_
                      refine zr_iload_n C dX11_join_110 rfl ?_
                      refine zr_dup2 C dX11_join_111 rfl rfl ?_
                      refine zr_iald (n := 50) C dX11_join_112 (Nat.le_of_ble_eq_true rfl) rfl ?_
                      refine zr_aload_n C dX11_join_113 rfl ?_
                      refine zf_X11_48 C (Nat.le_of_ble_eq_true rfl) dX11_join_114 ?_
                      refine zr_iload_n C dX11_join_117 rfl ?_
                      refine zr_iald (n := 50) C dX11_join_118 (Nat.le_of_ble_eq_true rfl) rfl ?_
                      refine zr_iadd C dX11_join_119 ?_
                      refine zr_iast (n := 50) C dX11_join_120 (Nat.le_of_ble_eq_true rfl) (fun _ _ => rfl) ?_
                      refine zr_aload_n C dX11_join_121 rfl ?_
                      refine zf_X11_48 C (Nat.le_of_ble_eq_true rfl) dX11_join_122 ?_
                      refine zr_iload_n C dX11_join_125 rfl ?_
                      refine zr_iconst (v := 0) C dX11_join_126 rfl ?_
                      refine zr_iast (n := 50) C dX11_join_127 (Nat.le_of_ble_eq_true rfl) (fun _ _ => rfl) ?_
                      refine zr_aload_n C dX11_join_128 rfl ?_
                      refine zf_X11_48 C (Nat.le_of_ble_eq_true rfl) dX11_join_129 ?_
                      refine zr_iload_n C dX11_join_132 rfl ?_
                      refine zr_iald (n := 50) C dX11_join_133 (Nat.le_of_ble_eq_true rfl) rfl ?_
                      exact zr_iret C dX11_join_134
                    · refine zr_bipush (v := -3) C dX11_join_103 rfl ?_
                      exact zr_iret C dX11_join_105
      · refine zr_bipush (v := -2) C dX11_join_23 rfl ?_
        exact zr_iret C dX11_join_25
    · refine zr_iconst (v := -1) C dX11_join_16 rfl ?_
      exact zr_iret C dX11_join_17
def f_X11_lend (F : Nat) (σ : zMem) (a1 : Int32) (a2 : Int32) (a3 : Int32) : Option (Int32 × zMem) := zb (f_X11_isRight F σ a1) fun r2 m2 => if r2 = 0 then (some ((-1), m2)) else (zb (f_X11_isHouse F m2 a2) fun r10 m10 => if r10 = 0 then (some ((-1), m10)) else (zb (f_X11_in F m10 a3 (((m10.1 60 0 0) + 1)) 7199) fun r28 m28 => if r28 = 0 then (some ((-2), m28)) else (zb (f_X11_lent F m28 a1) fun r39 m39 => if r39 = 0 then (zg (inb a1 50) (if (m39.1 74 0 a1.toNatClampNeg) = a2 then (some ((-3), m39)) else (zg (inb a1 50) (if (m39.1 73 0 a1.toNatClampNeg) = 5 then (some ((-3), m39)) else (zg (inb a1 50) (zg (inb a1 50) (some (1, (zwi (zwi m39 76 0 a1.toNatClampNeg a2) 77 0 a1.toNatClampNeg a3))))))))) else (some ((-3), m39)))))
set_option maxHeartbeats 4000000 in
set_option maxRecDepth 100000 in
theorem c_X11_lend (l : Launch) (Z : zLay) (F : Nat) (σ : zMem) (a1 : Int32) (a2 : Int32) (a3 : Int32) (r : Int32) (σ1 : zMem) (ho : f_X11_lend F σ a1 a2 a3 = some (r, σ1)) : zMet l yX11_lend cX11_lend 4 (some .int) 3 Z [.ref (zad Z 60 0), .int (a1), .int (a2), .int (a3)] σ (zQI Z r σ1) := by
  refine zMet_of (Qc := zQI Z) (by decide) (Nat.le_of_ble_eq_true rfl) [(0, .ref (zad Z 60 0)), (1, .int (a1)), (2, .int (a2)), (3, .int (a3))] rfl (fun E C => ?_) ho
  have hh : 3 ≤ 3 := Nat.le_refl _
  show zKO E 4 Z (zMQ E Z (zQI Z)) 0 [(0, .ref (zad Z 60 0)), (1, .int (a1)), (2, .int (a2)), (3, .int (a3))] [] σ _
  unfold f_X11_lend
  refine zr_aload_n C dX11_lend_0 rfl ?_
  refine zr_iload_n C dX11_lend_1 rfl ?_
  refine zk_X11_199 C F (Nat.le_of_ble_eq_true rfl) (Nat.le_trans (by decide) hh) (by simp [Value.category]) dX11_lend_2 (fun r2 m2 => ?_)
  refine zr_if_eq (tgt := 16) C dX11_lend_5 (by decide) ?_ ?_
  · refine zr_iconst (v := -1) C dX11_lend_16 rfl ?_
    exact zr_iret C dX11_lend_17
  · refine zr_aload_n C dX11_lend_8 rfl ?_
    refine zr_iload_n C dX11_lend_9 rfl ?_
    refine zk_X11_181 C F (Nat.le_of_ble_eq_true rfl) (Nat.le_trans (by decide) hh) (by simp [Value.category]) dX11_lend_10 (fun r10 m10 => ?_)
    refine zr_if_ne (tgt := 18) C dX11_lend_13 (by decide) ?_ ?_
    · refine zr_iload_n C dX11_lend_18 rfl ?_
      refine zr_aload_n C dX11_lend_19 rfl ?_
      refine zf_X11_193 C (Nat.le_of_ble_eq_true rfl) dX11_lend_20 ?_
      refine zr_iconst (v := 1) C dX11_lend_23 rfl ?_
      refine zr_iadd C dX11_lend_24 ?_
      refine zr_sipush (v := 7199) C dX11_lend_25 rfl ?_
      refine zk_X11_163 C F (Nat.le_trans (by decide) hh) (by simp [Value.category]) dX11_lend_28 (fun r28 m28 => ?_)
      refine zr_if_ne (tgt := 37) C dX11_lend_31 (by decide) ?_ ?_
      · refine zr_aload_n C dX11_lend_37 rfl ?_
        refine zr_iload_n C dX11_lend_38 rfl ?_
        refine zk_X11_196 C F (Nat.le_of_ble_eq_true rfl) (Nat.le_trans (by decide) hh) (by simp [Value.category]) dX11_lend_39 (fun r39 m39 => ?_)
        refine zr_if_ne (tgt := 65) C dX11_lend_42 (by decide) ?_ ?_
        · refine zr_bipush (v := -3) C dX11_lend_65 rfl ?_
          exact zr_iret C dX11_lend_67
        · refine zr_aload_n C dX11_lend_45 rfl ?_
          refine zf_X11_45 C (Nat.le_of_ble_eq_true rfl) dX11_lend_46 ?_
          refine zr_iload_n C dX11_lend_49 rfl ?_
          refine zr_iald (n := 50) C dX11_lend_50 (Nat.le_of_ble_eq_true rfl) rfl ?_
          refine zr_iload_n C dX11_lend_51 rfl ?_
          refine zr_icmp_eq (tgt := 65) C dX11_lend_52 (by decide) ?_ ?_
          · refine zr_bipush (v := -3) C dX11_lend_65 rfl ?_
            exact zr_iret C dX11_lend_67
          · refine zr_aload_n C dX11_lend_55 rfl ?_
            refine zf_X11_42 C (Nat.le_of_ble_eq_true rfl) dX11_lend_56 ?_
            refine zr_iload_n C dX11_lend_59 rfl ?_
            refine zr_iald (n := 50) C dX11_lend_60 (Nat.le_of_ble_eq_true rfl) rfl ?_
            refine zr_iconst (v := 5) C dX11_lend_61 rfl ?_
            refine zr_icmp_ne (tgt := 68) C dX11_lend_62 (by decide) ?_ ?_
            · refine zr_aload_n C dX11_lend_68 rfl ?_
              refine zf_X11_51 C (Nat.le_of_ble_eq_true rfl) dX11_lend_69 ?_
              refine zr_iload_n C dX11_lend_72 rfl ?_
              refine zr_iload_n C dX11_lend_73 rfl ?_
              refine zr_iast (n := 50) C dX11_lend_74 (Nat.le_of_ble_eq_true rfl) (fun _ _ => rfl) ?_
              refine zr_aload_n C dX11_lend_75 rfl ?_
              refine zf_X11_54 C (Nat.le_of_ble_eq_true rfl) dX11_lend_76 ?_
              refine zr_iload_n C dX11_lend_79 rfl ?_
              refine zr_iload_n C dX11_lend_80 rfl ?_
              refine zr_iast (n := 50) C dX11_lend_81 (Nat.le_of_ble_eq_true rfl) (fun _ _ => rfl) ?_
              refine zr_iconst (v := 1) C dX11_lend_82 rfl ?_
              exact zr_iret C dX11_lend_83
            · refine zr_bipush (v := -3) C dX11_lend_65 rfl ?_
              exact zr_iret C dX11_lend_67
      · refine zr_bipush (v := -2) C dX11_lend_34 rfl ?_
        exact zr_iret C dX11_lend_36
    · refine zr_iconst (v := -1) C dX11_lend_16 rfl ?_
      exact zr_iret C dX11_lend_17
def f_X11_leave (F : Nat) (σ : zMem) (a1 : Int32) (a2 : Int32) : Option (Int32 × zMem) := zb (f_X11_isRight F σ a1) fun r2 m2 => if r2 = 0 then (some ((-1), m2)) else (zb (f_X11_isHouse F m2 a2) fun r10 m10 => if r10 = 0 then (some ((-1), m10)) else (zg (inb a1 50) (if (m10.1 73 0 a1.toNatClampNeg) = 5 then (some ((-3), m10)) else (zg (inb a1 50) (zg (inb a1 50) (some ((m10.1 74 0 a1.toNatClampNeg), (zwi m10 74 0 a1.toNatClampNeg a2))))))))
set_option maxHeartbeats 4000000 in
set_option maxRecDepth 100000 in
theorem c_X11_leave (l : Launch) (Z : zLay) (F : Nat) (σ : zMem) (a1 : Int32) (a2 : Int32) (r : Int32) (σ1 : zMem) (ho : f_X11_leave F σ a1 a2 = some (r, σ1)) : zMet l yX11_leave cX11_leave 4 (some .int) 3 Z [.ref (zad Z 60 0), .int (a1), .int (a2)] σ (zQI Z r σ1) := by
  refine zMet_of (Qc := zQI Z) (by decide) (Nat.le_of_ble_eq_true rfl) [(0, .ref (zad Z 60 0)), (1, .int (a1)), (2, .int (a2))] rfl (fun E C => ?_) ho
  have hh : 3 ≤ 3 := Nat.le_refl _
  show zKO E 4 Z (zMQ E Z (zQI Z)) 0 [(0, .ref (zad Z 60 0)), (1, .int (a1)), (2, .int (a2))] [] σ _
  unfold f_X11_leave
  refine zr_aload_n C dX11_leave_0 rfl ?_
  refine zr_iload_n C dX11_leave_1 rfl ?_
  refine zk_X11_199 C F (Nat.le_of_ble_eq_true rfl) (Nat.le_trans (by decide) hh) (by simp [Value.category]) dX11_leave_2 (fun r2 m2 => ?_)
  refine zr_if_eq (tgt := 16) C dX11_leave_5 (by decide) ?_ ?_
  · refine zr_iconst (v := -1) C dX11_leave_16 rfl ?_
    exact zr_iret C dX11_leave_17
  · refine zr_aload_n C dX11_leave_8 rfl ?_
    refine zr_iload_n C dX11_leave_9 rfl ?_
    refine zk_X11_181 C F (Nat.le_of_ble_eq_true rfl) (Nat.le_trans (by decide) hh) (by simp [Value.category]) dX11_leave_10 (fun r10 m10 => ?_)
    refine zr_if_ne (tgt := 18) C dX11_leave_13 (by decide) ?_ ?_
    · refine zr_aload_n C dX11_leave_18 rfl ?_
      refine zf_X11_42 C (Nat.le_of_ble_eq_true rfl) dX11_leave_19 ?_
      refine zr_iload_n C dX11_leave_22 rfl ?_
      refine zr_iald (n := 50) C dX11_leave_23 (Nat.le_of_ble_eq_true rfl) rfl ?_
      refine zr_iconst (v := 5) C dX11_leave_24 rfl ?_
      refine zr_icmp_ne (tgt := 31) C dX11_leave_25 (by decide) ?_ ?_
      · refine zr_aload_n C dX11_leave_31 rfl ?_
        refine zf_X11_45 C (Nat.le_of_ble_eq_true rfl) dX11_leave_32 ?_
        refine zr_iload_n C dX11_leave_35 rfl ?_
        refine zr_iald (n := 50) C dX11_leave_36 (Nat.le_of_ble_eq_true rfl) rfl ?_
        refine zr_istore_n (i := 3) (L1 := [(3, .int _), (0, .ref _), (1, .int _), (2, .int _)]) C dX11_leave_37 rfl (by decide) rfl ?_
        refine zr_aload_n C dX11_leave_38 rfl ?_
        refine zf_X11_45 C (Nat.le_of_ble_eq_true rfl) dX11_leave_39 ?_
        refine zr_iload_n C dX11_leave_42 rfl ?_
        refine zr_iload_n C dX11_leave_43 rfl ?_
        refine zr_iast (n := 50) C dX11_leave_44 (Nat.le_of_ble_eq_true rfl) (fun _ _ => rfl) ?_
        refine zr_iload_n C dX11_leave_45 rfl ?_
        exact zr_iret C dX11_leave_46
      · refine zr_bipush (v := -3) C dX11_leave_28 rfl ?_
        exact zr_iret C dX11_leave_30
    · refine zr_iconst (v := -1) C dX11_leave_16 rfl ?_
      exact zr_iret C dX11_leave_17
def f_X11_rightOf (F : Nat) (σ : zMem) (a1 : Int32) (a2 : Int32) : Option (Int32 × zMem) := zb (f_X11_isRight F σ a1) fun r2 m2 => if r2 = 0 then (some ((-5), m2)) else (if a2.toInt < 0 ∨ 5 < a2.toInt then (some ((-5), m2)) else (if a2 = 0 then (zg (inb a1 50) (some ((m2.1 73 0 a1.toNatClampNeg), m2))) else (if a2 = 1 then (zg (inb a1 50) (some ((m2.1 74 0 a1.toNatClampNeg), m2))) else (if a2 = 2 then (zg (inb a1 50) (some ((m2.1 75 0 a1.toNatClampNeg), m2))) else (if a2 = 3 then (zb (f_X11_holder F m2 a1) fun r75 m75 => some (r75, m75)) else (if a2 = 4 then (zg (inb a1 50) (zb (f_X11_commonOf F m2 ((m2.1 73 0 a1.toNatClampNeg))) fun r85 m85 => some (r85, m85))) else (if a2 = 5 then (zb (f_X11_lent F m2 a1) fun r91 m91 => if r91 = 0 then (some ((-1), m91)) else (zg (inb a1 50) (some ((m91.1 77 0 a1.toNatClampNeg), m91)))) else none)))))))
set_option maxHeartbeats 4000000 in
set_option maxRecDepth 100000 in
theorem c_X11_rightOf (l : Launch) (Z : zLay) (F : Nat) (σ : zMem) (a1 : Int32) (a2 : Int32) (r : Int32) (σ1 : zMem) (ho : f_X11_rightOf F σ a1 a2 = some (r, σ1)) : zMet l yX11_rightOf cX11_rightOf 3 (some .int) 3 Z [.ref (zad Z 60 0), .int (a1), .int (a2)] σ (zQI Z r σ1) := by
  refine zMet_of (Qc := zQI Z) (by decide) (Nat.le_of_ble_eq_true rfl) [(0, .ref (zad Z 60 0)), (1, .int (a1)), (2, .int (a2))] rfl (fun E C => ?_) ho
  have hh : 3 ≤ 3 := Nat.le_refl _
  show zKO E 3 Z (zMQ E Z (zQI Z)) 0 [(0, .ref (zad Z 60 0)), (1, .int (a1)), (2, .int (a2))] [] σ _
  unfold f_X11_rightOf
  refine zr_aload_n C dX11_rightOf_0 rfl ?_
  refine zr_iload_n C dX11_rightOf_1 rfl ?_
  refine zk_X11_199 C F (Nat.le_of_ble_eq_true rfl) (Nat.le_trans (by decide) hh) (by simp [Value.category]) dX11_rightOf_2 (fun r2 m2 => ?_)
  refine zr_if_ne (tgt := 11) C dX11_rightOf_5 (by decide) ?_ ?_
  · refine zr_iload_n C dX11_rightOf_11 rfl ?_
    refine zr_if (fun hx => ?_) (fun _ => ?_)
    · refine zr_tabOut (tgt := 108) C dX11_rightOf_12 hx (by decide) ?_
      refine zr_bipush (v := -5) C dX11_rightOf_108 rfl ?_
      exact zr_iret C dX11_rightOf_110
    · refine zr_if (fun hx => ?_) (fun _ => ?_)
      · refine zr_tabIn (tgt := 52) C dX11_rightOf_12 (by rw [hx]; decide) (by rw [hx]; decide) (off := 40) (by rw [hx]; decide) (by decide) ?_
        refine zr_aload_n C dX11_rightOf_52 rfl ?_
        refine zf_X11_42 C (Nat.le_of_ble_eq_true rfl) dX11_rightOf_53 ?_
        refine zr_iload_n C dX11_rightOf_56 rfl ?_
        refine zr_iald (n := 50) C dX11_rightOf_57 (Nat.le_of_ble_eq_true rfl) rfl ?_
        exact zr_iret C dX11_rightOf_58
      · refine zr_if (fun hx => ?_) (fun _ => ?_)
        · refine zr_tabIn (tgt := 59) C dX11_rightOf_12 (by rw [hx]; decide) (by rw [hx]; decide) (off := 47) (by rw [hx]; decide) (by decide) ?_
          refine zr_aload_n C dX11_rightOf_59 rfl ?_
          refine zf_X11_45 C (Nat.le_of_ble_eq_true rfl) dX11_rightOf_60 ?_
          refine zr_iload_n C dX11_rightOf_63 rfl ?_
          refine zr_iald (n := 50) C dX11_rightOf_64 (Nat.le_of_ble_eq_true rfl) rfl ?_
          exact zr_iret C dX11_rightOf_65
        · refine zr_if (fun hx => ?_) (fun _ => ?_)
          · refine zr_tabIn (tgt := 66) C dX11_rightOf_12 (by rw [hx]; decide) (by rw [hx]; decide) (off := 54) (by rw [hx]; decide) (by decide) ?_
            refine zr_aload_n C dX11_rightOf_66 rfl ?_
            refine zf_X11_48 C (Nat.le_of_ble_eq_true rfl) dX11_rightOf_67 ?_
            refine zr_iload_n C dX11_rightOf_70 rfl ?_
            refine zr_iald (n := 50) C dX11_rightOf_71 (Nat.le_of_ble_eq_true rfl) rfl ?_
            exact zr_iret C dX11_rightOf_72
          · refine zr_if (fun hx => ?_) (fun _ => ?_)
            · refine zr_tabIn (tgt := 73) C dX11_rightOf_12 (by rw [hx]; decide) (by rw [hx]; decide) (off := 61) (by rw [hx]; decide) (by decide) ?_
              refine zr_aload_n C dX11_rightOf_73 rfl ?_
              refine zr_iload_n C dX11_rightOf_74 rfl ?_
              refine zk_X11_205 C F (Nat.le_of_ble_eq_true rfl) (Nat.le_trans (by decide) hh) (by simp [Value.category]) dX11_rightOf_75 (fun r75 m75 => ?_)
              exact zr_iret C dX11_rightOf_78
            · refine zr_if (fun hx => ?_) (fun _ => ?_)
              · refine zr_tabIn (tgt := 79) C dX11_rightOf_12 (by rw [hx]; decide) (by rw [hx]; decide) (off := 67) (by rw [hx]; decide) (by decide) ?_
                refine zr_aload_n C dX11_rightOf_79 rfl ?_
                refine zf_X11_42 C (Nat.le_of_ble_eq_true rfl) dX11_rightOf_80 ?_
                refine zr_iload_n C dX11_rightOf_83 rfl ?_
                refine zr_iald (n := 50) C dX11_rightOf_84 (Nat.le_of_ble_eq_true rfl) rfl ?_
                refine zk_X11_202 C F (Nat.le_trans (by decide) hh) (by simp [Value.category]) dX11_rightOf_85 (fun r85 m85 => ?_)
                exact zr_iret C dX11_rightOf_88
              · refine zr_if (fun hx => ?_) (fun _ => ?_)
                · refine zr_tabIn (tgt := 89) C dX11_rightOf_12 (by rw [hx]; decide) (by rw [hx]; decide) (off := 77) (by rw [hx]; decide) (by decide) ?_
                  refine zr_aload_n C dX11_rightOf_89 rfl ?_
                  refine zr_iload_n C dX11_rightOf_90 rfl ?_
                  refine zk_X11_196 C F (Nat.le_of_ble_eq_true rfl) (Nat.le_trans (by decide) hh) (by simp [Value.category]) dX11_rightOf_91 (fun r91 m91 => ?_)
                  refine zr_if_eq (tgt := 106) C dX11_rightOf_94 (by decide) ?_ ?_
                  · refine zr_iconst (v := -1) C dX11_rightOf_106 rfl ?_
                    exact zr_iret C dX11_rightOf_107
                  · refine zr_aload_n C dX11_rightOf_97 rfl ?_
                    refine zf_X11_54 C (Nat.le_of_ble_eq_true rfl) dX11_rightOf_98 ?_
                    refine zr_iload_n C dX11_rightOf_101 rfl ?_
                    refine zr_iald (n := 50) C dX11_rightOf_102 (Nat.le_of_ble_eq_true rfl) rfl ?_
                    refine zr_goto (tgt := 107) C dX11_rightOf_103 (by decide) ?_
                    exact zr_iret C dX11_rightOf_107
                · exact zr_none
  · refine zr_bipush (v := -5) C dX11_rightOf_8 rfl ?_
    exact zr_iret C dX11_rightOf_10
def f_X11_partsOf_44 (F : Nat) (rec5 : zMem → Int32 × Int32 × Int32 × Int32 → Option (Int32 × zMem)) (σ : zMem) (l1 : Int32) (l2 : Int32) (l4 : Int32) (s0 : Int32) : Option (Int32 × zMem) := zg (inb l4 50) (rec5 σ ((l1, l2, (s0 + (σ.1 75 0 l4.toNatClampNeg)), (l4 + 1))))
set_option maxHeartbeats 4000000 in
set_option maxRecDepth 100000 in
theorem c_X11_partsOf_44 (F : Nat) (rec5 : zMem → Int32 × Int32 × Int32 × Int32 → Option (Int32 × zMem)) {E : zEn} {h : Nat} {Z : zLay} (C : zCx E cX11_partsOf RX11 5 (some .int) Z h) (hh : 3 ≤ h) (hrec5 : ∀ (σ : zMem) (x : Int32 × Int32 × Int32 × Int32), zKO E 5 Z (zMQ E Z (zQI Z)) 5 [(0, .ref (zad Z 60 0)), (1, .int x.1), (2, .int x.2.1), (3, .int x.2.2.1), (4, .int x.2.2.2)] [] σ (rec5 σ x)) (σ : zMem) (l1 : Int32) (l2 : Int32) (l4 : Int32) (s0 : Int32) : zKO E 5 Z (zMQ E Z (zQI Z)) 44 [(0, .ref (zad Z 60 0)), (1, .int l1), (2, .int l2), (4, .int l4)] [.int s0] σ (f_X11_partsOf_44 F rec5 σ l1 l2 l4 s0) := by
  unfold f_X11_partsOf_44
  refine zr_aload_n C dX11_partsOf_44 rfl ?_
  refine zf_X11_48 C (Nat.le_of_ble_eq_true rfl) dX11_partsOf_45 ?_
  refine zr_iload C dX11_partsOf_48 rfl ?_
  refine zr_iald (n := 50) C dX11_partsOf_50 (Nat.le_of_ble_eq_true rfl) rfl ?_
  refine zr_goto (tgt := 55) C dX11_partsOf_51 (by decide) ?_
  refine zr_iadd C dX11_partsOf_55 ?_
  refine zr_istore_n (i := 3) (L1 := [(3, .int _), (0, .ref _), (1, .int _), (2, .int _), (4, .int _)]) C dX11_partsOf_56 rfl (by decide) rfl ?_
  refine zr_iinc (kk := 4) (v := (l4 + 1)) (L1 := [(4, .int _), (3, .int _), (0, .ref _), (1, .int _), (2, .int _)]) C dX11_partsOf_57 rfl rfl (by decide) rfl ?_
  refine zr_goto (tgt := 5) C dX11_partsOf_60 (by decide) ?_
  exact zr_sub [2, 3, 4, 1, 0] rfl (hrec5 σ ((l1, l2, (s0 + (σ.1 75 0 l4.toNatClampNeg)), (l4 + 1))))
def f_X11_partsOf_5 (F : Nat) (rec5 : zMem → Int32 × Int32 × Int32 × Int32 → Option (Int32 × zMem)) (σ : zMem) (x : Int32 × Int32 × Int32 × Int32) : Option (Int32 × zMem) := if (σ.1 60 0 12) ≤ x.2.2.2 then (some (x.2.2.1, σ)) else (zg (inb x.2.2.2 50) (zb (f_X11_commonOf F σ ((σ.1 73 0 x.2.2.2.toNatClampNeg))) fun r22 m22 => if r22 = x.2.1 then (if x.1 = (-1) then (f_X11_partsOf_44 F rec5 m22 x.1 x.2.1 x.2.2.2 x.2.2.1) else (zb (f_X11_holder F m22 x.2.2.2) fun r37 m37 => if r37 = x.1 then (f_X11_partsOf_44 F rec5 m37 x.1 x.2.1 x.2.2.2 x.2.2.1) else (rec5 m37 ((x.1, x.2.1, (x.2.2.1 + 0), (x.2.2.2 + 1)))))) else (rec5 m22 ((x.1, x.2.1, (x.2.2.1 + 0), (x.2.2.2 + 1))))))
set_option maxHeartbeats 4000000 in
set_option maxRecDepth 100000 in
theorem c_X11_partsOf_5 (F : Nat) {E : zEn} {h : Nat} {Z : zLay} (C : zCx E cX11_partsOf RX11 5 (some .int) Z h) (hh : 3 ≤ h) : ∀ (n : Nat) (σ : zMem) (x : Int32 × Int32 × Int32 × Int32), zKO E 5 Z (zMQ E Z (zQI Z)) 5 [(0, .ref (zad Z 60 0)), (1, .int x.1), (2, .int x.2.1), (3, .int x.2.2.1), (4, .int x.2.2.2)] [] σ (zit (f_X11_partsOf_5 F) n σ x) := by
  refine zr_loop (LL := fun (x : Int32 × Int32 × Int32 × Int32) => [(0, .ref (zad Z 60 0)), (1, .int x.1), (2, .int x.2.1), (3, .int x.2.2.1), (4, .int x.2.2.2)]) (ST := fun (x : Int32 × Int32 × Int32 × Int32) => []) (fun rec5 hrec5 σ x => ?_)
  obtain ⟨l1, l2, l3, l4⟩ := x
  show zKO E 5 Z (zMQ E Z (zQI Z)) 5 [(0, .ref (zad Z 60 0)), (1, .int l1), (2, .int l2), (3, .int l3), (4, .int l4)] [] σ (if (σ.1 60 0 12) ≤ l4 then (some (l3, σ)) else (zg (inb l4 50) (zb (f_X11_commonOf F σ ((σ.1 73 0 l4.toNatClampNeg))) fun r22 m22 => if r22 = l2 then (if l1 = (-1) then (f_X11_partsOf_44 F rec5 m22 l1 l2 l4 l3) else (zb (f_X11_holder F m22 l4) fun r37 m37 => if r37 = l1 then (f_X11_partsOf_44 F rec5 m37 l1 l2 l4 l3) else (rec5 m37 ((l1, l2, (l3 + 0), (l4 + 1)))))) else (rec5 m22 ((l1, l2, (l3 + 0), (l4 + 1)))))))
  refine zr_iload C dX11_partsOf_5 rfl ?_
  refine zr_aload_n C dX11_partsOf_7 rfl ?_
  refine zf_X11_167 C (Nat.le_of_ble_eq_true rfl) dX11_partsOf_8 ?_
  refine zr_icmp_ge (tgt := 63) C dX11_partsOf_11 (by decide) ?_ ?_
  · refine zr_iload_n C dX11_partsOf_63 rfl ?_
    exact zr_iret C dX11_partsOf_64
  · refine zr_iload_n C dX11_partsOf_14 rfl ?_
    refine zr_aload_n C dX11_partsOf_15 rfl ?_
    refine zf_X11_42 C (Nat.le_of_ble_eq_true rfl) dX11_partsOf_16 ?_
    refine zr_iload C dX11_partsOf_19 rfl ?_
    refine zr_iald (n := 50) C dX11_partsOf_21 (Nat.le_of_ble_eq_true rfl) rfl ?_
    refine zk_X11_202 C F (Nat.le_trans (by decide) hh) (by simp [Value.category]) dX11_partsOf_22 (fun r22 m22 => ?_)
    refine zr_iload_n C dX11_partsOf_25 rfl ?_
    refine zr_icmp_ne (tgt := 54) C dX11_partsOf_26 (by decide) ?_ ?_
    · refine zr_iconst (v := 0) C dX11_partsOf_54 rfl ?_
      refine zr_iadd C dX11_partsOf_55 ?_
      refine zr_istore_n (i := 3) (L1 := [(3, .int _), (0, .ref _), (1, .int _), (2, .int _), (4, .int _)]) C dX11_partsOf_56 rfl (by decide) rfl ?_
      refine zr_iinc (kk := 4) (v := (l4 + 1)) (L1 := [(4, .int _), (3, .int _), (0, .ref _), (1, .int _), (2, .int _)]) C dX11_partsOf_57 rfl rfl (by decide) rfl ?_
      refine zr_goto (tgt := 5) C dX11_partsOf_60 (by decide) ?_
      exact zr_sub [2, 3, 4, 1, 0] rfl (hrec5 m22 ((l1, l2, (l3 + 0), (l4 + 1))))
    · refine zr_iload_n C dX11_partsOf_29 rfl ?_
      refine zr_iconst (v := -1) C dX11_partsOf_30 rfl ?_
      refine zr_icmp_eq (tgt := 44) C dX11_partsOf_31 (by decide) ?_ ?_
      · exact zr_sub [0, 1, 2, 4] rfl (c_X11_partsOf_44 F rec5 C hh hrec5 m22 l1 l2 l4 l3)
      · refine zr_aload_n C dX11_partsOf_34 rfl ?_
        refine zr_iload C dX11_partsOf_35 rfl ?_
        refine zk_X11_205 C F (Nat.le_of_ble_eq_true rfl) (Nat.le_trans (by decide) hh) (by simp [Value.category]) dX11_partsOf_37 (fun r37 m37 => ?_)
        refine zr_iload_n C dX11_partsOf_40 rfl ?_
        refine zr_icmp_ne (tgt := 54) C dX11_partsOf_41 (by decide) ?_ ?_
        · refine zr_iconst (v := 0) C dX11_partsOf_54 rfl ?_
          refine zr_iadd C dX11_partsOf_55 ?_
          refine zr_istore_n (i := 3) (L1 := [(3, .int _), (0, .ref _), (1, .int _), (2, .int _), (4, .int _)]) C dX11_partsOf_56 rfl (by decide) rfl ?_
          refine zr_iinc (kk := 4) (v := (l4 + 1)) (L1 := [(4, .int _), (3, .int _), (0, .ref _), (1, .int _), (2, .int _)]) C dX11_partsOf_57 rfl rfl (by decide) rfl ?_
          refine zr_goto (tgt := 5) C dX11_partsOf_60 (by decide) ?_
          exact zr_sub [2, 3, 4, 1, 0] rfl (hrec5 m37 ((l1, l2, (l3 + 0), (l4 + 1))))
        · exact zr_sub [0, 1, 2, 4] rfl (c_X11_partsOf_44 F rec5 C hh hrec5 m37 l1 l2 l4 l3)
def f_X11_partsOf (F : Nat) (σ : zMem) (a1 : Int32) (a2 : Int32) : Option (Int32 × zMem) := zit (f_X11_partsOf_5 F) F σ ((a1, a2, 0, 0))
set_option maxHeartbeats 4000000 in
set_option maxRecDepth 100000 in
theorem c_X11_partsOf (l : Launch) (Z : zLay) (F : Nat) (σ : zMem) (a1 : Int32) (a2 : Int32) (r : Int32) (σ1 : zMem) (ho : f_X11_partsOf F σ a1 a2 = some (r, σ1)) : zMet l yX11_partsOf cX11_partsOf 5 (some .int) 3 Z [.ref (zad Z 60 0), .int (a1), .int (a2)] σ (zQI Z r σ1) := by
  refine zMet_of (Qc := zQI Z) (by decide) (Nat.le_of_ble_eq_true rfl) [(0, .ref (zad Z 60 0)), (1, .int (a1)), (2, .int (a2))] rfl (fun E C => ?_) ho
  have hh : 3 ≤ 3 := Nat.le_refl _
  show zKO E 5 Z (zMQ E Z (zQI Z)) 0 [(0, .ref (zad Z 60 0)), (1, .int (a1)), (2, .int (a2))] [] σ _
  unfold f_X11_partsOf
  refine zr_iconst (v := 0) C dX11_partsOf_0 rfl ?_
  refine zr_istore_n (i := 3) (L1 := [(3, .int _), (0, .ref _), (1, .int _), (2, .int _)]) C dX11_partsOf_1 rfl (by decide) rfl ?_
  refine zr_iconst (v := 0) C dX11_partsOf_2 rfl ?_
  refine zr_istore (i := 4) (L1 := [(4, .int _), (3, .int _), (0, .ref _), (1, .int _), (2, .int _)]) C dX11_partsOf_3 (by decide) rfl ?_
  exact zr_sub [2, 3, 4, 1, 0] rfl (c_X11_partsOf_5 F C hh F σ ((a1, a2, 0, 0)))
theorem zk_X11_208 (C : zCx E cc RX11 nL ret Z h) (F : Nat) {b0 : Int32} {b1 : Int32} (hk : 0 < zN 60) (hh : 3 + 1 ≤ h) (hst8 : (st.map fun v => v.category).sum ≤ 8) (hd : decode cc pc = .ok (.invokevirtual 208, 3)) {g : Int32 → zMem → Option (α × zMem)} (kk : ∀ (r : Int32) (σ1 : zMem), zKO E nL Z QQ (pc + 3) L (.int r :: st) σ1 (g r σ1)) : zKO E nL Z QQ pc L (.int b1 :: .int b0 :: .ref (zad Z 60 0) :: st) σ (zb (f_X11_partsOf F σ b0 b1) g) :=
  zr_callVI (As := [.int b0, .int b1]) (ia := 2) C (fun r σ1 ho => c_X11_partsOf (zla E) Z F σ b0 b1 r σ1 ho) wz_1371 hk rfl rfl wz_p87 wz_1373 wz_1374 wz_12 (by decide +kernel) rfl (by decide) hh hd hst8 kk
def f_X11_parts_13 (F : Nat) (σ : zMem) (l1 : Int32) (l2 : Int32) : Option (Int32 × zMem) := zb (f_X11_in F σ l2 0 2) fun r16 m16 => if r16 = 0 then (some ((-1), m16)) else (zb (f_X11_partsOf F m16 l1 l2) fun r25 m25 => some (r25, m25))
set_option maxHeartbeats 4000000 in
set_option maxRecDepth 100000 in
theorem c_X11_parts_13 (F : Nat) {E : zEn} {h : Nat} {Z : zLay} (C : zCx E cX11_parts RX11 3 (some .int) Z h) (hh : 4 ≤ h) (σ : zMem) (l1 : Int32) (l2 : Int32) : zKO E 3 Z (zMQ E Z (zQI Z)) 13 [(0, .ref (zad Z 60 0)), (1, .int l1), (2, .int l2)] [] σ (f_X11_parts_13 F σ l1 l2) := by
  unfold f_X11_parts_13
  refine zr_iload_n C dX11_parts_13 rfl ?_
  refine zr_iconst (v := 0) C dX11_parts_14 rfl ?_
  refine zr_iconst (v := 2) C dX11_parts_15 rfl ?_
  refine zk_X11_163 C F (Nat.le_trans (by decide) hh) (by simp [Value.category]) dX11_parts_16 (fun r16 m16 => ?_)
  refine zr_if_eq (tgt := 31) C dX11_parts_19 (by decide) ?_ ?_
  · refine zr_iconst (v := -1) C dX11_parts_31 rfl ?_
    exact zr_iret C dX11_parts_32
  · refine zr_aload_n C dX11_parts_22 rfl ?_
    refine zr_iload_n C dX11_parts_23 rfl ?_
    refine zr_iload_n C dX11_parts_24 rfl ?_
    refine zk_X11_208 C F (Nat.le_of_ble_eq_true rfl) (Nat.le_trans (by decide) hh) (by simp [Value.category]) dX11_parts_25 (fun r25 m25 => ?_)
    refine zr_goto (tgt := 32) C dX11_parts_28 (by decide) ?_
    exact zr_iret C dX11_parts_32
def f_X11_parts (F : Nat) (σ : zMem) (a1 : Int32) (a2 : Int32) : Option (Int32 × zMem) := if a1 = (-1) then (f_X11_parts_13 F σ a1 a2) else (zb (f_X11_isHouse F σ a1) fun r7 m7 => if r7 = 0 then (some ((-1), m7)) else (f_X11_parts_13 F m7 a1 a2))
set_option maxHeartbeats 4000000 in
set_option maxRecDepth 100000 in
theorem c_X11_parts (l : Launch) (Z : zLay) (F : Nat) (σ : zMem) (a1 : Int32) (a2 : Int32) (r : Int32) (σ1 : zMem) (ho : f_X11_parts F σ a1 a2 = some (r, σ1)) : zMet l yX11_parts cX11_parts 3 (some .int) 4 Z [.ref (zad Z 60 0), .int (a1), .int (a2)] σ (zQI Z r σ1) := by
  refine zMet_of (Qc := zQI Z) (by decide) (Nat.le_of_ble_eq_true rfl) [(0, .ref (zad Z 60 0)), (1, .int (a1)), (2, .int (a2))] rfl (fun E C => ?_) ho
  have hh : 4 ≤ 4 := Nat.le_refl _
  show zKO E 3 Z (zMQ E Z (zQI Z)) 0 [(0, .ref (zad Z 60 0)), (1, .int (a1)), (2, .int (a2))] [] σ _
  unfold f_X11_parts
  refine zr_iload_n C dX11_parts_0 rfl ?_
  refine zr_iconst (v := -1) C dX11_parts_1 rfl ?_
  refine zr_icmp_eq (tgt := 13) C dX11_parts_2 (by decide) ?_ ?_
  · exact zr_sub [0, 1, 2] rfl (c_X11_parts_13 F C hh σ a1 a2)
  · refine zr_aload_n C dX11_parts_5 rfl ?_
    refine zr_iload_n C dX11_parts_6 rfl ?_
    refine zk_X11_181 C F (Nat.le_of_ble_eq_true rfl) (Nat.le_trans (by decide) hh) (by simp [Value.category]) dX11_parts_7 (fun r7 m7 => ?_)
    refine zr_if_eq (tgt := 31) C dX11_parts_10 (by decide) ?_ ?_
    · refine zr_iconst (v := -1) C dX11_parts_31 rfl ?_
      exact zr_iret C dX11_parts_32
    · exact zr_sub [0, 1, 2] rfl (c_X11_parts_13 F C hh m7 a1 a2)
def f_X11_feed_30 (F : Nat) (rec30 : zMem → Int32 × Int32 → Option (Int32 × zMem)) (σ : zMem) (x : Int32 × Int32) : Option (Int32 × zMem) := if x.2 < 0 then (some ((σ.1 60 0 19), σ)) else (zg (inb ((σ.1 60 0 19)) 100) (rec30 (zwi (zwi σ 60 0 19 (((σ.1 60 0 19) + 1))) 78 0 ((σ.1 60 0 19)).toNatClampNeg (((x.1 >>> ((8 * x.2) &&& 31)) &&& 255))) ((x.1, (x.2 + (-1))))))
set_option maxHeartbeats 4000000 in
set_option maxRecDepth 100000 in
theorem c_X11_feed_30 (F : Nat) {E : zEn} {h : Nat} {Z : zLay} (C : zCx E cX11_feed RX11 4 (some .int) Z h) (hh : 2 ≤ h) : ∀ (n : Nat) (σ : zMem) (x : Int32 × Int32), zKO E 4 Z (zMQ E Z (zQI Z)) 30 [(0, .ref (zad Z 60 0)), (1, .int x.1), (3, .int x.2)] [] σ (zit (f_X11_feed_30 F) n σ x) := by
  refine zr_loop (LL := fun (x : Int32 × Int32) => [(0, .ref (zad Z 60 0)), (1, .int x.1), (3, .int x.2)]) (ST := fun (x : Int32 × Int32) => []) (fun rec30 hrec30 σ x => ?_)
  obtain ⟨l1, l3⟩ := x
  show zKO E 4 Z (zMQ E Z (zQI Z)) 30 [(0, .ref (zad Z 60 0)), (1, .int l1), (3, .int l3)] [] σ (if l3 < 0 then (some ((σ.1 60 0 19), σ)) else (zg (inb ((σ.1 60 0 19)) 100) (rec30 (zwi (zwi σ 60 0 19 (((σ.1 60 0 19) + 1))) 78 0 ((σ.1 60 0 19)).toNatClampNeg (((l1 >>> ((8 * l3) &&& 31)) &&& 255))) ((l1, (l3 + (-1)))))))
  refine zr_iload_n C dX11_feed_30 rfl ?_
  refine zr_if_lt (tgt := 66) C dX11_feed_31 (by decide) ?_ ?_
  · refine zr_aload_n C dX11_feed_66 rfl ?_
    refine zf_X11_212 C (Nat.le_of_ble_eq_true rfl) dX11_feed_67 ?_
    exact zr_iret C dX11_feed_70
  · refine zr_aload_n C dX11_feed_34 rfl ?_
    refine zf_X11_57 C (Nat.le_of_ble_eq_true rfl) dX11_feed_35 ?_
    refine zr_aload_n C dX11_feed_38 rfl ?_
    refine zr_dup C dX11_feed_39 rfl ?_
    refine zf_X11_212 C (Nat.le_of_ble_eq_true rfl) dX11_feed_40 ?_
    refine zr_dup_x1 C dX11_feed_43 rfl rfl ?_
    refine zr_iconst (v := 1) C dX11_feed_44 rfl ?_
    refine zr_iadd C dX11_feed_45 ?_
    refine zp_X11_212 C (Nat.le_of_ble_eq_true rfl) dX11_feed_46 ?_
    refine zr_iload_n C dX11_feed_49 rfl ?_
    refine zr_bipush (v := 8) C dX11_feed_50 rfl ?_
    refine zr_iload_n C dX11_feed_52 rfl ?_
    refine zr_imul C dX11_feed_53 ?_
    refine zr_ishr C dX11_feed_54 ?_
    refine zr_sipush (v := 255) C dX11_feed_55 rfl ?_
    refine zr_iand C dX11_feed_58 ?_
    refine zr_iast (n := 100) C dX11_feed_59 (Nat.le_of_ble_eq_true rfl) (fun _ _ => rfl) ?_
    refine zr_iinc (kk := 2) (v := (l3 + (-1))) (L1 := [(3, .int _), (0, .ref _), (1, .int _)]) C dX11_feed_60 rfl rfl (by decide) rfl ?_
    refine zr_goto (tgt := 30) C dX11_feed_63 (by decide) ?_
    exact zr_sub [1, 2, 0] rfl (hrec30 (zwi (zwi σ 60 0 19 (((σ.1 60 0 19) + 1))) 78 0 ((σ.1 60 0 19)).toNatClampNeg (((l1 >>> ((8 * l3) &&& 31)) &&& 255))) ((l1, (l3 + (-1)))))
def f_X11_feed (F : Nat) (σ : zMem) (a1 : Int32) (a2 : Int32) : Option (Int32 × zMem) := zb (f_X11_in F σ a2 0 4) fun r3 m3 => if r3 = 0 then (some ((-2), m3)) else (if ((m3.1 60 0 19) + a2) ≤ 100 then (zit (f_X11_feed_30 F) F m3 ((a1, (a2 - 1)))) else (some ((-4), m3)))
set_option maxHeartbeats 4000000 in
set_option maxRecDepth 100000 in
theorem c_X11_feed (l : Launch) (Z : zLay) (F : Nat) (σ : zMem) (a1 : Int32) (a2 : Int32) (r : Int32) (σ1 : zMem) (ho : f_X11_feed F σ a1 a2 = some (r, σ1)) : zMet l yX11_feed cX11_feed 4 (some .int) 2 Z [.ref (zad Z 60 0), .int (a1), .int (a2)] σ (zQI Z r σ1) := by
  refine zMet_of (Qc := zQI Z) (by decide) (Nat.le_of_ble_eq_true rfl) [(0, .ref (zad Z 60 0)), (1, .int (a1)), (2, .int (a2))] rfl (fun E C => ?_) ho
  have hh : 2 ≤ 2 := Nat.le_refl _
  show zKO E 4 Z (zMQ E Z (zQI Z)) 0 [(0, .ref (zad Z 60 0)), (1, .int (a1)), (2, .int (a2))] [] σ _
  unfold f_X11_feed
  refine zr_iload_n C dX11_feed_0 rfl ?_
  refine zr_iconst (v := 0) C dX11_feed_1 rfl ?_
  refine zr_iconst (v := 4) C dX11_feed_2 rfl ?_
  refine zk_X11_163 C F (Nat.le_trans (by decide) hh) (by simp [Value.category]) dX11_feed_3 (fun r3 m3 => ?_)
  refine zr_if_ne (tgt := 12) C dX11_feed_6 (by decide) ?_ ?_
  · refine zr_aload_n C dX11_feed_12 rfl ?_
    refine zf_X11_212 C (Nat.le_of_ble_eq_true rfl) dX11_feed_13 ?_
    refine zr_iload_n C dX11_feed_16 rfl ?_
    refine zr_iadd C dX11_feed_17 ?_
    refine zr_bipush (v := 100) C dX11_feed_18 rfl ?_
    refine zr_icmp_le (tgt := 26) C dX11_feed_20 (by decide) ?_ ?_
    · refine zr_iload_n C dX11_feed_26 rfl ?_
      refine zr_iconst (v := 1) C dX11_feed_27 rfl ?_
      refine zr_isub C dX11_feed_28 ?_
      refine zr_istore_n (i := 3) (L1 := [(3, .int _), (0, .ref _), (1, .int _), (2, .int _)]) C dX11_feed_29 rfl (by decide) rfl ?_
      exact zr_sub [1, 2, 0] rfl (c_X11_feed_30 F C hh F m3 ((a1, (a2 - 1))))
    · refine zr_bipush (v := -4) C dX11_feed_23 rfl ?_
      exact zr_iret C dX11_feed_25
  · refine zr_bipush (v := -2) C dX11_feed_9 rfl ?_
    exact zr_iret C dX11_feed_11
def f_X11_here (F : Nat) (σ : zMem) : Option (Int32 × zMem) := if (σ.1 60 0 19) ≤ (σ.1 60 0 58) then (some ((-1), σ)) else (zg (inb ((σ.1 60 0 58)) 100) (some ((σ.1 78 0 ((σ.1 60 0 58)).toNatClampNeg), σ)))
set_option maxHeartbeats 4000000 in
set_option maxRecDepth 100000 in
theorem c_X11_here (l : Launch) (Z : zLay) (F : Nat) (σ : zMem) (r : Int32) (σ1 : zMem) (ho : f_X11_here F σ = some (r, σ1)) : zMet l yX11_here cX11_here 1 (some .int) 1 Z [.ref (zad Z 60 0)] σ (zQI Z r σ1) := by
  refine zMet_of (Qc := zQI Z) (by decide) (Nat.le_of_ble_eq_true rfl) [(0, .ref (zad Z 60 0))] rfl (fun E C => ?_) ho
  have hh : 1 ≤ 1 := Nat.le_refl _
  show zKO E 1 Z (zMQ E Z (zQI Z)) 0 [(0, .ref (zad Z 60 0))] [] σ _
  unfold f_X11_here
  refine zr_aload_n C dX11_here_0 rfl ?_
  refine zf_X11_215 C (Nat.le_of_ble_eq_true rfl) dX11_here_1 ?_
  refine zr_aload_n C dX11_here_4 rfl ?_
  refine zf_X11_212 C (Nat.le_of_ble_eq_true rfl) dX11_here_5 ?_
  refine zr_icmp_ge (tgt := 23) C dX11_here_8 (by decide) ?_ ?_
  · refine zr_iconst (v := -1) C dX11_here_23 rfl ?_
    exact zr_iret C dX11_here_24
  · refine zr_aload_n C dX11_here_11 rfl ?_
    refine zf_X11_57 C (Nat.le_of_ble_eq_true rfl) dX11_here_12 ?_
    refine zr_aload_n C dX11_here_15 rfl ?_
    refine zf_X11_215 C (Nat.le_of_ble_eq_true rfl) dX11_here_16 ?_
    refine zr_iald (n := 100) C dX11_here_19 (Nat.le_of_ble_eq_true rfl) rfl ?_
    refine zr_goto (tgt := 24) C dX11_here_20 (by decide) ?_
    exact zr_iret C dX11_here_24
theorem zk_X11_227 (C : zCx E cc RX11 nL ret Z h) (F : Nat)  (hk : 0 < zN 60) (hh : 1 + 1 ≤ h) (hst8 : (st.map fun v => v.category).sum ≤ 8) (hd : decode cc pc = .ok (.invokevirtual 227, 3)) {g : Int32 → zMem → Option (α × zMem)} (kk : ∀ (r : Int32) (σ1 : zMem), zKO E nL Z QQ (pc + 3) L (.int r :: st) σ1 (g r σ1)) : zKO E nL Z QQ pc L (.ref (zad Z 60 0) :: st) σ (zb (f_X11_here F σ) g) :=
  zr_callVI (As := []) (ia := 0) C (fun r σ1 ho => c_X11_here (zla E) Z F σ r σ1 ho) wz_1391 hk rfl rfl wz_p90 wz_1393 wz_1394 wz_12 (by decide +kernel) rfl (by decide) hh hd hst8 kk
def f_X11_wrong (F : Nat) (σ : zMem) : Option (Int32 × zMem) := some (0, (zwi σ 60 0 59 ((σ.1 60 0 58))))
set_option maxHeartbeats 4000000 in
set_option maxRecDepth 100000 in
theorem c_X11_wrong (l : Launch) (Z : zLay) (F : Nat) (σ : zMem) (r : Int32) (σ1 : zMem) (ho : f_X11_wrong F σ = some (r, σ1)) : zMet l yX11_wrong cX11_wrong 1 (some .boolean) 1 Z [.ref (zad Z 60 0)] σ (zQI Z r σ1) := by
  refine zMet_of (Qc := zQI Z) (by decide) (Nat.le_of_ble_eq_true rfl) [(0, .ref (zad Z 60 0))] rfl (fun E C => ?_) ho
  have hh : 1 ≤ 1 := Nat.le_refl _
  show zKO E 1 Z (zMQ E Z (zQI Z)) 0 [(0, .ref (zad Z 60 0))] [] σ _
  unfold f_X11_wrong
  refine zr_aload_n C dX11_wrong_0 rfl ?_
  refine zr_aload_n C dX11_wrong_1 rfl ?_
  refine zf_X11_215 C (Nat.le_of_ble_eq_true rfl) dX11_wrong_2 ?_
  refine zp_X11_218 C (Nat.le_of_ble_eq_true rfl) dX11_wrong_5 ?_
  refine zr_iconst (v := 0) C dX11_wrong_8 rfl ?_
  exact zr_zret C dX11_wrong_9 rfl
theorem zk_X11_234 (C : zCx E cc RX11 nL ret Z h) (F : Nat)  (hk : 0 < zN 60) (hh : 1 + 1 ≤ h) (hst8 : (st.map fun v => v.category).sum ≤ 8) (hd : decode cc pc = .ok (.invokevirtual 234, 3)) {g : Int32 → zMem → Option (α × zMem)} (kk : ∀ (r : Int32) (σ1 : zMem), zKO E nL Z QQ (pc + 3) L (.int r :: st) σ1 (g r σ1)) : zKO E nL Z QQ pc L (.ref (zad Z 60 0) :: st) σ (zb (f_X11_wrong F σ) g) :=
  zr_callVI (As := []) (ia := 0) C (fun r σ1 ho => c_X11_wrong (zla E) Z F σ r σ1 ho) wz_1406 hk rfl rfl wz_p93 wz_1408 wz_1409 wz_12 (by decide +kernel) rfl (by decide) hh hd hst8 kk
def f_X11_text_2 (F : Nat) (rec2 : zMem → Nat × Int32 → Option (Int32 × zMem)) (σ : zMem) (x : Nat × Int32) : Option (Int32 × zMem) := zg (decide (x.1 < 28)) (zb (f_J0_length_8abf5 F σ x.1) fun r4 m4 => if r4 ≤ x.2 then (some (1, m4)) else (zb (f_X11_here F m4) fun r11 m11 => zb (f_J0_charAt_5068e F m11 x.1 x.2) fun r16 m16 => if r11 = r16 then (rec2 (zwi m16 60 0 58 (((m16.1 60 0 58) + 1))) ((x.1, (x.2 + 1)))) else (zb (f_X11_wrong F m16) fun r23 m23 => zg (zbo r23) (some (r23, m23)))))
set_option maxHeartbeats 4000000 in
set_option maxRecDepth 100000 in
theorem c_X11_text_2 (F : Nat) {E : zEn} {h : Nat} {Z : zLay} (C : zCx E cX11_text RX11 3 (some .boolean) Z h) (hh : 5 ≤ h) : ∀ (n : Nat) (σ : zMem) (x : Nat × Int32), zKO E 3 Z (zMQ E Z (zQI Z)) 2 [(0, .ref (zad Z 60 0)), (1, .ref (zad Z 180 x.1)), (2, .int x.2)] [] σ (zit (f_X11_text_2 F) n σ x) := by
  refine zr_loop (LL := fun (x : Nat × Int32) => [(0, .ref (zad Z 60 0)), (1, .ref (zad Z 180 x.1)), (2, .int x.2)]) (ST := fun (x : Nat × Int32) => []) (fun rec2 hrec2 σ x => ?_)
  obtain ⟨l1, l2⟩ := x
  show zKO E 3 Z (zMQ E Z (zQI Z)) 2 [(0, .ref (zad Z 60 0)), (1, .ref (zad Z 180 l1)), (2, .int l2)] [] σ (zg (decide (l1 < 28)) (zb (f_J0_length_8abf5 F σ l1) fun r4 m4 => if r4 ≤ l2 then (some (1, m4)) else (zb (f_X11_here F m4) fun r11 m11 => zb (f_J0_charAt_5068e F m11 l1 l2) fun r16 m16 => if r11 = r16 then (rec2 (zwi m16 60 0 58 (((m16.1 60 0 58) + 1))) ((l1, (l2 + 1)))) else (zb (f_X11_wrong F m16) fun r23 m23 => zg (zbo r23) (some (r23, m23))))))
  refine zr_g (fun hl1 => ?_)
  refine zr_iload_n C dX11_text_2 rfl ?_
  refine zr_aload_n C dX11_text_3 rfl ?_
  refine zk_X11_221 C F (of_decide_eq_true hl1) (Nat.le_trans (by decide) hh) (by simp [Value.category]) dX11_text_4 (fun r4 m4 => ?_)
  refine zr_icmp_ge (tgt := 43) C dX11_text_7 (by decide) ?_ ?_
  · refine zr_iconst (v := 1) C dX11_text_43 rfl ?_
    exact zr_zret C dX11_text_44 rfl
  · refine zr_aload_n C dX11_text_10 rfl ?_
    refine zk_X11_227 C F (Nat.le_of_ble_eq_true rfl) (Nat.le_trans (by decide) hh) (by simp [Value.category]) dX11_text_11 (fun r11 m11 => ?_)
    refine zr_aload_n C dX11_text_14 rfl ?_
    refine zr_iload_n C dX11_text_15 rfl ?_
    refine zk_X11_230 C F (of_decide_eq_true hl1) (Nat.le_trans (by decide) hh) (by simp [Value.category]) dX11_text_16 (fun r16 m16 => ?_)
    refine zr_icmp_eq (tgt := 27) C dX11_text_19 (by decide) ?_ ?_
    · refine zr_aload_n C dX11_text_27 rfl ?_
      refine zr_dup C dX11_text_28 rfl ?_
      refine zf_X11_215 C (Nat.le_of_ble_eq_true rfl) dX11_text_29 ?_
      refine zr_iconst (v := 1) C dX11_text_32 rfl ?_
      refine zr_iadd C dX11_text_33 ?_
      refine zp_X11_215 C (Nat.le_of_ble_eq_true rfl) dX11_text_34 ?_
      refine zr_iinc (kk := 2) (v := (l2 + 1)) (L1 := [(2, .int _), (0, .ref _), (1, .ref _)]) C dX11_text_37 rfl rfl (by decide) rfl ?_
      refine zr_goto (tgt := 2) C dX11_text_40 (by decide) ?_
      exact zr_sub [1, 2, 0] rfl (hrec2 (zwi m16 60 0 58 (((m16.1 60 0 58) + 1))) ((l1, (l2 + 1))))
    · refine zr_aload_n C dX11_text_22 rfl ?_
      refine zk_X11_234 C F (Nat.le_of_ble_eq_true rfl) (Nat.le_trans (by decide) hh) (by simp [Value.category]) dX11_text_23 (fun r23 m23 => ?_)
      exact zr_zretg C dX11_text_26
def f_X11_text (F : Nat) (σ : zMem) (a1 : Nat) : Option (Int32 × zMem) := zg (decide (a1 < 28)) (zit (f_X11_text_2 F) F σ ((a1, 0)))
set_option maxHeartbeats 4000000 in
set_option maxRecDepth 100000 in
theorem c_X11_text (l : Launch) (Z : zLay) (F : Nat) (σ : zMem) (a1 : Nat) (r : Int32) (σ1 : zMem) (ho : f_X11_text F σ a1 = some (r, σ1)) : zMet l yX11_text cX11_text 3 (some .boolean) 5 Z [.ref (zad Z 60 0), .ref (zad Z 180 a1)] σ (zQI Z r σ1) := by
  refine zMet_of (Qc := zQI Z) (by decide) (Nat.le_of_ble_eq_true rfl) [(0, .ref (zad Z 60 0)), (1, .ref (zad Z 180 a1))] rfl (fun E C => ?_) ho
  have hh : 5 ≤ 5 := Nat.le_refl _
  show zKO E 3 Z (zMQ E Z (zQI Z)) 0 [(0, .ref (zad Z 60 0)), (1, .ref (zad Z 180 a1))] [] σ _
  unfold f_X11_text
  refine zr_g (fun ha1 => ?_)
  refine zr_iconst (v := 0) C dX11_text_0 rfl ?_
  refine zr_istore_n (i := 2) (L1 := [(2, .int _), (0, .ref _), (1, .ref _)]) C dX11_text_1 rfl (by decide) rfl ?_
  exact zr_sub [1, 2, 0] rfl (c_X11_text_2 F C hh F σ ((a1, 0)))
theorem zk_X11_241 (C : zCx E cc RX11 nL ret Z h) (F : Nat) {b0 : Nat} (hk : 0 < zN 60) (hh : 5 + 1 ≤ h) (hst8 : (st.map fun v => v.category).sum ≤ 8) (hd : decode cc pc = .ok (.invokevirtual 241, 3)) {g : Int32 → zMem → Option (α × zMem)} (kk : ∀ (r : Int32) (σ1 : zMem), zKO E nL Z QQ (pc + 3) L (.int r :: st) σ1 (g r σ1)) : zKO E nL Z QQ pc L (.ref (zad Z 180 b0) :: .ref (zad Z 60 0) :: st) σ (zb (f_X11_text F σ b0) g) :=
  zr_callVI (As := [.ref (zad Z 180 b0)]) (ia := 1) C (fun r σ1 ho => c_X11_text (zla E) Z F σ b0 r σ1 ho) wz_1400 hk rfl rfl wz_p92 wz_1402 wz_1403 wz_12 (by decide +kernel) rfl (by decide) hh hd hst8 kk
def f_X11_numberHere_18 (F : Nat) (σ : zMem) : Option (Int32 × zMem) := zb (f_X11_wrong F σ) fun r19 m19 => zg (zbo r19) (some (r19, m19))
set_option maxHeartbeats 4000000 in
set_option maxRecDepth 100000 in
theorem c_X11_numberHere_18 (F : Nat) {E : zEn} {h : Nat} {Z : zLay} (C : zCx E cX11_numberHere RX11 2 (some .boolean) Z h) (hh : 2 ≤ h) (σ : zMem) : zKO E 2 Z (zMQ E Z (zQI Z)) 18 [(0, .ref (zad Z 60 0))] [] σ (f_X11_numberHere_18 F σ) := by
  unfold f_X11_numberHere_18
  refine zr_aload_n C dX11_numberHere_18 rfl ?_
  refine zk_X11_234 C F (Nat.le_of_ble_eq_true rfl) (Nat.le_trans (by decide) hh) (by simp [Value.category]) dX11_numberHere_19 (fun r19 m19 => ?_)
  exact zr_zretg C dX11_numberHere_22
def f_X11_numberHere_30 (F : Nat) (rec30 : zMem → Int32 → Option (Int32 × zMem)) (σ : zMem) (x : Int32) : Option (Int32 × zMem) := if 5 ≤ x then (some (1, σ)) else (zb (f_X11_here F σ) fun r36 m36 => if r36 < 48 then (some (1, m36)) else (zb (f_X11_here F m36) fun r45 m45 => if 57 < r45 then (some (1, m45)) else (zb (f_X11_here F m45) fun r62 m62 => rec30 (zwi (zwi m62 60 0 60 ((((10 * (m45.1 60 0 60)) + r62) - 48))) 60 0 58 ((((zwi m62 60 0 60 ((((10 * (m45.1 60 0 60)) + r62) - 48))).1 60 0 58) + 1))) ((x + 1)))))
set_option maxHeartbeats 4000000 in
set_option maxRecDepth 100000 in
theorem c_X11_numberHere_30 (F : Nat) {E : zEn} {h : Nat} {Z : zLay} (C : zCx E cX11_numberHere RX11 2 (some .boolean) Z h) (hh : 2 ≤ h) : ∀ (n : Nat) (σ : zMem) (x : Int32), zKO E 2 Z (zMQ E Z (zQI Z)) 30 [(0, .ref (zad Z 60 0)), (1, .int x)] [] σ (zit (f_X11_numberHere_30 F) n σ x) := by
  refine zr_loop (LL := fun (x : Int32) => [(0, .ref (zad Z 60 0)), (1, .int x)]) (ST := fun (x : Int32) => []) (fun rec30 hrec30 σ x => ?_)
  obtain ⟨l1, h9⟩ : ∃ y, y = x := ⟨x, rfl⟩
  subst h9
  show zKO E 2 Z (zMQ E Z (zQI Z)) 30 [(0, .ref (zad Z 60 0)), (1, .int l1)] [] σ (if 5 ≤ l1 then (some (1, σ)) else (zb (f_X11_here F σ) fun r36 m36 => if r36 < 48 then (some (1, m36)) else (zb (f_X11_here F m36) fun r45 m45 => if 57 < r45 then (some (1, m45)) else (zb (f_X11_here F m45) fun r62 m62 => rec30 (zwi (zwi m62 60 0 60 ((((10 * (m45.1 60 0 60)) + r62) - 48))) 60 0 58 ((((zwi m62 60 0 60 ((((10 * (m45.1 60 0 60)) + r62) - 48))).1 60 0 58) + 1))) ((l1 + 1))))))
  refine zr_iload_n C dX11_numberHere_30 rfl ?_
  refine zr_iconst (v := 5) C dX11_numberHere_31 rfl ?_
  refine zr_icmp_ge (tgt := 88) C dX11_numberHere_32 (by decide) ?_ ?_
  · refine zr_iconst (v := 1) C dX11_numberHere_88 rfl ?_
    exact zr_zret C dX11_numberHere_89 rfl
  · refine zr_aload_n C dX11_numberHere_35 rfl ?_
    refine zk_X11_227 C F (Nat.le_of_ble_eq_true rfl) (Nat.le_trans (by decide) hh) (by simp [Value.category]) dX11_numberHere_36 (fun r36 m36 => ?_)
    refine zr_bipush (v := 48) C dX11_numberHere_39 rfl ?_
    refine zr_icmp_lt (tgt := 88) C dX11_numberHere_41 (by decide) ?_ ?_
    · refine zr_iconst (v := 1) C dX11_numberHere_88 rfl ?_
      exact zr_zret C dX11_numberHere_89 rfl
    · refine zr_aload_n C dX11_numberHere_44 rfl ?_
      refine zk_X11_227 C F (Nat.le_of_ble_eq_true rfl) (Nat.le_trans (by decide) hh) (by simp [Value.category]) dX11_numberHere_45 (fun r45 m45 => ?_)
      refine zr_bipush (v := 57) C dX11_numberHere_48 rfl ?_
      refine zr_icmp_gt (tgt := 88) C dX11_numberHere_50 (by decide) ?_ ?_
      · refine zr_iconst (v := 1) C dX11_numberHere_88 rfl ?_
        exact zr_zret C dX11_numberHere_89 rfl
      · refine zr_aload_n C dX11_numberHere_53 rfl ?_
        refine zr_bipush (v := 10) C dX11_numberHere_54 rfl ?_
        refine zr_aload_n C dX11_numberHere_56 rfl ?_
        refine zf_X11_238 C (Nat.le_of_ble_eq_true rfl) dX11_numberHere_57 ?_
        refine zr_imul C dX11_numberHere_60 ?_
        refine zr_aload_n C dX11_numberHere_61 rfl ?_
        refine zk_X11_227 C F (Nat.le_of_ble_eq_true rfl) (Nat.le_trans (by decide) hh) (by simp [Value.category]) dX11_numberHere_62 (fun r62 m62 => ?_)
        refine zr_iadd C dX11_numberHere_65 ?_
        refine zr_bipush (v := 48) C dX11_numberHere_66 rfl ?_
        refine zr_isub C dX11_numberHere_68 ?_
        refine zp_X11_238 C (Nat.le_of_ble_eq_true rfl) dX11_numberHere_69 ?_
        refine zr_aload_n C dX11_numberHere_72 rfl ?_
        refine zr_dup C dX11_numberHere_73 rfl ?_
        refine zf_X11_215 C (Nat.le_of_ble_eq_true rfl) dX11_numberHere_74 ?_
        refine zr_iconst (v := 1) C dX11_numberHere_77 rfl ?_
        refine zr_iadd C dX11_numberHere_78 ?_
        refine zp_X11_215 C (Nat.le_of_ble_eq_true rfl) dX11_numberHere_79 ?_
        refine zr_iinc (kk := 1) (v := (l1 + 1)) (L1 := [(1, .int _), (0, .ref _)]) C dX11_numberHere_82 rfl rfl (by decide) rfl ?_
        refine zr_goto (tgt := 30) C dX11_numberHere_85 (by decide) ?_
        exact zr_sub [1, 0] rfl (hrec30 (zwi (zwi m62 60 0 60 ((((10 * (m45.1 60 0 60)) + r62) - 48))) 60 0 58 ((((zwi m62 60 0 60 ((((10 * (m45.1 60 0 60)) + r62) - 48))).1 60 0 58) + 1))) ((l1 + 1)))
def f_X11_numberHere (F : Nat) (σ : zMem) : Option (Int32 × zMem) := zb (f_X11_here F σ) fun r1 m1 => if r1 < 48 then (f_X11_numberHere_18 F m1) else (zb (f_X11_here F m1) fun r10 m10 => if r10 ≤ 57 then (zit (f_X11_numberHere_30 F) F (zwi m10 60 0 60 0) 0) else (f_X11_numberHere_18 F m10))
set_option maxHeartbeats 4000000 in
set_option maxRecDepth 100000 in
theorem c_X11_numberHere (l : Launch) (Z : zLay) (F : Nat) (σ : zMem) (r : Int32) (σ1 : zMem) (ho : f_X11_numberHere F σ = some (r, σ1)) : zMet l yX11_numberHere cX11_numberHere 2 (some .boolean) 2 Z [.ref (zad Z 60 0)] σ (zQI Z r σ1) := by
  refine zMet_of (Qc := zQI Z) (by decide) (Nat.le_of_ble_eq_true rfl) [(0, .ref (zad Z 60 0))] rfl (fun E C => ?_) ho
  have hh : 2 ≤ 2 := Nat.le_refl _
  show zKO E 2 Z (zMQ E Z (zQI Z)) 0 [(0, .ref (zad Z 60 0))] [] σ _
  unfold f_X11_numberHere
  refine zr_aload_n C dX11_numberHere_0 rfl ?_
  refine zk_X11_227 C F (Nat.le_of_ble_eq_true rfl) (Nat.le_trans (by decide) hh) (by simp [Value.category]) dX11_numberHere_1 (fun r1 m1 => ?_)
  refine zr_bipush (v := 48) C dX11_numberHere_4 rfl ?_
  refine zr_icmp_lt (tgt := 18) C dX11_numberHere_6 (by decide) ?_ ?_
  · exact zr_sub [0] rfl (c_X11_numberHere_18 F C hh m1)
  · refine zr_aload_n C dX11_numberHere_9 rfl ?_
    refine zk_X11_227 C F (Nat.le_of_ble_eq_true rfl) (Nat.le_trans (by decide) hh) (by simp [Value.category]) dX11_numberHere_10 (fun r10 m10 => ?_)
    refine zr_bipush (v := 57) C dX11_numberHere_13 rfl ?_
    refine zr_icmp_le (tgt := 23) C dX11_numberHere_15 (by decide) ?_ ?_
    · refine zr_aload_n C dX11_numberHere_23 rfl ?_
      refine zr_iconst (v := 0) C dX11_numberHere_24 rfl ?_
      refine zp_X11_238 C (Nat.le_of_ble_eq_true rfl) dX11_numberHere_25 ?_
      refine zr_iconst (v := 0) C dX11_numberHere_28 rfl ?_
      refine zr_istore_n (i := 1) (L1 := [(1, .int _), (0, .ref _)]) C dX11_numberHere_29 rfl (by decide) rfl ?_
      exact zr_sub [1, 0] rfl (c_X11_numberHere_30 F C hh F (zwi m10 60 0 60 0) 0)
    · exact zr_sub [0] rfl (c_X11_numberHere_18 F C hh m10)
theorem zk_X11_286 (C : zCx E cc RX11 nL ret Z h) (F : Nat)  (hk : 0 < zN 60) (hh : 2 + 1 ≤ h) (hst8 : (st.map fun v => v.category).sum ≤ 8) (hd : decode cc pc = .ok (.invokevirtual 286, 3)) {g : Int32 → zMem → Option (α × zMem)} (kk : ∀ (r : Int32) (σ1 : zMem), zKO E nL Z QQ (pc + 3) L (.int r :: st) σ1 (g r σ1)) : zKO E nL Z QQ pc L (.ref (zad Z 60 0) :: st) σ (zb (f_X11_numberHere F σ) g) :=
  zr_callVI (As := []) (ia := 0) C (fun r σ1 ho => c_X11_numberHere (zla E) Z F σ r σ1 ho) wz_1418 hk rfl rfl wz_p94 wz_1420 wz_1421 wz_12 (by decide +kernel) rfl (by decide) hh hd hst8 kk
end ZM
