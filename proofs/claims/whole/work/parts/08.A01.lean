section ZM
variable {E : zEn} {cc : ByteArray} {own : String} {nL h : Nat} {ret : Option FieldType} {Z : zLay} {α : Type} {QQ : α → zMem → State → Prop} {pc : Nat} {L : List (Nat × Value)} {st : List Value} {σ : zMem} {o o1 o2 : Option (α × zMem)}
def f_X10_worthNow (F : Nat) (σ : zMem) (a1 : Nat) (a2 : Int32) : Option (Int32 × zMem) := zg (decide (a1 < 10)) (zb (f_X9_latest F σ a1 a2 ((σ.1 0 0 11)) ((σ.1 0 0 11))) fun r18 m18 => zb (f_X9_worth F m18 r18 a2) fun r22 m22 => some (r22, m22))
set_option maxHeartbeats 4000000 in
set_option maxRecDepth 100000 in
theorem c_X10_worthNow (l : Launch) (Z : zLay) (F : Nat) (σ : zMem) (a1 : Nat) (a2 : Int32) (r : Int32) (σ1 : zMem) (ho : f_X10_worthNow F σ a1 a2 = some (r, σ1)) : zMet l yX10_worthNow cX10_worthNow 3 (some .int) 4 Z [.ref (zad Z 0 0), .ref (zad Z 2 a1), .int (a2)] σ (zQI Z r σ1) := by
  refine zMet_of (Qc := zQI Z) (by decide) (Nat.le_of_ble_eq_true rfl) [(0, .ref (zad Z 0 0)), (1, .ref (zad Z 2 a1)), (2, .int (a2))] rfl (fun E C => ?_) ho
  have hh : 4 ≤ 4 := Nat.le_refl _
  show zKO E 3 Z (zMQ E Z (zQI Z)) 0 [(0, .ref (zad Z 0 0)), (1, .ref (zad Z 2 a1)), (2, .int (a2))] [] σ _
  unfold f_X10_worthNow
  refine zr_g (fun ha1 => ?_)
  refine zr_aload_n C dX10_worthNow_0 rfl ?_
  refine zf_X10_25 C (Nat.le_of_ble_eq_true rfl) dX10_worthNow_1 ?_
  refine zr_aload_n C dX10_worthNow_4 rfl ?_
  refine zf_X10_25 C (Nat.le_of_ble_eq_true rfl) dX10_worthNow_5 ?_
  refine zr_aload_n C dX10_worthNow_8 rfl ?_
  refine zr_iload_n C dX10_worthNow_9 rfl ?_
  refine zr_aload_n C dX10_worthNow_10 rfl ?_
  refine zf_X10_142 C (Nat.le_of_ble_eq_true rfl) dX10_worthNow_11 ?_
  refine zr_aload_n C dX10_worthNow_14 rfl ?_
  refine zf_X10_142 C (Nat.le_of_ble_eq_true rfl) dX10_worthNow_15 ?_
  refine zk_X10_219 C F (Nat.le_of_ble_eq_true rfl) (Nat.le_trans (by decide) hh) (by simp [Value.category]) dX10_worthNow_18 (fun r18 m18 => ?_)
  refine zr_iload_n C dX10_worthNow_21 rfl ?_
  refine zk_X10_223 C F (Nat.le_of_ble_eq_true rfl) (Nat.le_trans (by decide) hh) (by simp [Value.category]) dX10_worthNow_22 (fun r22 m22 => ?_)
  exact zr_iret C dX10_worthNow_25
theorem zk_X10_287 (C : zCx E cc RX10 nL ret Z h) (F : Nat) {b0 : Nat} {b1 : Int32} (hk : 0 < zN 0) (hh : 4 + 1 ≤ h) (hst8 : (st.map fun v => v.category).sum ≤ 8) (hd : decode cc pc = .ok (.invokevirtual 287, 3)) {g : Int32 → zMem → Option (α × zMem)} (kk : ∀ (r : Int32) (σ1 : zMem), zKO E nL Z QQ (pc + 3) L (.int r :: st) σ1 (g r σ1)) : zKO E nL Z QQ pc L (.int b1 :: .ref (zad Z 2 b0) :: .ref (zad Z 0 0) :: st) σ (zb (f_X10_worthNow F σ b0 b1) g) :=
  zr_callVI (As := [.ref (zad Z 2 b0), .int b1]) (ia := 2) C (fun r σ1 ho => c_X10_worthNow (zla E) Z F σ b0 b1 r σ1 ho) wz_760 hk rfl rfl wz_p36 wz_762 wz_763 wz_1 (by decide +kernel) rfl (by decide) hh hd hst8 kk
def f_X10_inSeason (F : Nat) (σ : zMem) (a1 : Nat) : Option (Int32 × zMem) := zg (decide (a1 < 10)) (zg (zni 360) (zb (f_X10_worthNow F σ a1 2) fun r13 m13 => if (zrem ((σ.1 0 0 11)) 360) < r13 then (some (0, m13)) else (zb (f_X10_worthNow F m13 a1 3) fun r23 m23 => if r23 ≤ (zrem ((σ.1 0 0 11)) 360) then (some (0, m23)) else (some (1, m23)))))
set_option maxHeartbeats 4000000 in
set_option maxRecDepth 100000 in
theorem c_X10_inSeason (l : Launch) (Z : zLay) (F : Nat) (σ : zMem) (a1 : Nat) (r : Int32) (σ1 : zMem) (ho : f_X10_inSeason F σ a1 = some (r, σ1)) : zMet l yX10_inSeason cX10_inSeason 3 (some .boolean) 5 Z [.ref (zad Z 0 0), .ref (zad Z 2 a1)] σ (zQI Z r σ1) := by
  refine zMet_of (Qc := zQI Z) (by decide) (Nat.le_of_ble_eq_true rfl) [(0, .ref (zad Z 0 0)), (1, .ref (zad Z 2 a1))] rfl (fun E C => ?_) ho
  have hh : 5 ≤ 5 := Nat.le_refl _
  show zKO E 3 Z (zMQ E Z (zQI Z)) 0 [(0, .ref (zad Z 0 0)), (1, .ref (zad Z 2 a1))] [] σ _
  unfold f_X10_inSeason
  refine zr_g (fun ha1 => ?_)
  refine zr_aload_n C dX10_inSeason_0 rfl ?_
  refine zf_X10_142 C (Nat.le_of_ble_eq_true rfl) dX10_inSeason_1 ?_
  refine zr_sipush (v := 360) C dX10_inSeason_4 rfl ?_
  refine zr_irem C dX10_inSeason_7 ?_
  refine zr_istore_n (i := 2) (L1 := [(2, .int _), (0, .ref _), (1, .ref _)]) C dX10_inSeason_8 rfl (by decide) rfl ?_
  refine zr_iload_n C dX10_inSeason_9 rfl ?_
  refine zr_aload_n C dX10_inSeason_10 rfl ?_
  refine zr_aload_n C dX10_inSeason_11 rfl ?_
  refine zr_iconst (v := 2) C dX10_inSeason_12 rfl ?_
  refine zk_X10_287 C F (Nat.le_of_ble_eq_true rfl) (Nat.le_trans (by decide) hh) (by simp [Value.category]) dX10_inSeason_13 (fun r13 m13 => ?_)
  refine zr_icmp_lt (tgt := 33) C dX10_inSeason_16 (by decide) ?_ ?_
  · refine zr_iconst (v := 0) C dX10_inSeason_33 rfl ?_
    exact zr_zret C dX10_inSeason_34 rfl
  · refine zr_iload_n C dX10_inSeason_19 rfl ?_
    refine zr_aload_n C dX10_inSeason_20 rfl ?_
    refine zr_aload_n C dX10_inSeason_21 rfl ?_
    refine zr_iconst (v := 3) C dX10_inSeason_22 rfl ?_
    refine zk_X10_287 C F (Nat.le_of_ble_eq_true rfl) (Nat.le_trans (by decide) hh) (by simp [Value.category]) dX10_inSeason_23 (fun r23 m23 => ?_)
    refine zr_icmp_ge (tgt := 33) C dX10_inSeason_26 (by decide) ?_ ?_
    · refine zr_iconst (v := 0) C dX10_inSeason_33 rfl ?_
      exact zr_zret C dX10_inSeason_34 rfl
    · refine zr_iconst (v := 1) C dX10_inSeason_29 rfl ?_
      refine zr_goto (tgt := 34) C dX10_inSeason_30 (by decide) ?_
      exact zr_zret C dX10_inSeason_34 rfl
theorem zk_X10_283 (C : zCx E cc RX10 nL ret Z h) (F : Nat) {b0 : Nat} (hk : 0 < zN 0) (hh : 5 + 1 ≤ h) (hst8 : (st.map fun v => v.category).sum ≤ 8) (hd : decode cc pc = .ok (.invokevirtual 283, 3)) {g : Int32 → zMem → Option (α × zMem)} (kk : ∀ (r : Int32) (σ1 : zMem), zKO E nL Z QQ (pc + 3) L (.int r :: st) σ1 (g r σ1)) : zKO E nL Z QQ pc L (.ref (zad Z 2 b0) :: .ref (zad Z 0 0) :: st) σ (zb (f_X10_inSeason F σ b0) g) :=
  zr_callVI (As := [.ref (zad Z 2 b0)]) (ia := 1) C (fun r σ1 ho => c_X10_inSeason (zla E) Z F σ b0 r σ1 ho) wz_756 hk rfl rfl wz_p35 wz_758 wz_759 wz_1 (by decide +kernel) rfl (by decide) hh hd hst8 kk
def f_X10_whyNot (F : Nat) (σ : zMem) (a1 : Int32) (a2 : Int32) : Option (Int32 × zMem) := zg (inb a1 10) (zb (f_X2_atHome F σ a1.toNatClampNeg) fun r9 m9 => if a2 ≤ r9 then (zb (f_X10_inSeason F m9 a1.toNatClampNeg) fun r19 m19 => if r19 = 0 then (some (2, m19)) else (zb (f_X2_allUp F m19 a1.toNatClampNeg) fun r28 m28 => zb (f_X10_worthNow F m28 a1.toNatClampNeg 1) fun r40 m40 => zb (f_X3_held F m40 a1 0 ((m40.1 0 0 11))) fun r54 m54 => if ((r28 + a2) * r40) ≤ r54 then (zb (f_X10_worthNow F m54 a1.toNatClampNeg 0) fun r65 m65 => if r65 ≤ 0 then (some (0, m65)) else (zg (zni r65) (if (r28 + a2) ≤ ((m65.1 2 a1.toNatClampNeg 6) / r65) then (some (0, m65)) else (some (4, m65))))) else (some (3, m54)))) else (some (1, m9)))
set_option maxHeartbeats 4000000 in
set_option maxRecDepth 100000 in
theorem c_X10_whyNot (l : Launch) (Z : zLay) (F : Nat) (σ : zMem) (a1 : Int32) (a2 : Int32) (r : Int32) (σ1 : zMem) (ho : f_X10_whyNot F σ a1 a2 = some (r, σ1)) : zMet l yX10_whyNot cX10_whyNot 6 (some .int) 6 Z [.ref (zad Z 0 0), .int (a1), .int (a2)] σ (zQI Z r σ1) := by
  refine zMet_of (Qc := zQI Z) (by decide) (Nat.le_of_ble_eq_true rfl) [(0, .ref (zad Z 0 0)), (1, .int (a1)), (2, .int (a2))] rfl (fun E C => ?_) ho
  have hh : 6 ≤ 6 := Nat.le_refl _
  show zKO E 6 Z (zMQ E Z (zQI Z)) 0 [(0, .ref (zad Z 0 0)), (1, .int (a1)), (2, .int (a2))] [] σ _
  unfold f_X10_whyNot
  refine zr_aload_n C dX10_whyNot_0 rfl ?_
  refine zf_X10_11 C (Nat.le_of_ble_eq_true rfl) dX10_whyNot_1 ?_
  refine zr_iload_n C dX10_whyNot_4 rfl ?_
  refine zr_aald (n := 10) (k1 := 2) C dX10_whyNot_5 (Nat.le_of_ble_eq_true rfl) rfl rfl rfl (fun hb5 => ?_)
  refine zr_astore_n (i := 3) (L1 := [(3, .ref _), (0, .ref _), (1, .int _), (2, .int _)]) C dX10_whyNot_6 rfl (by decide) rfl ?_
  refine zr_iload_n C dX10_whyNot_7 rfl ?_
  refine zr_aload_n C dX10_whyNot_8 rfl ?_
  refine zk_X10_102 C F hb5 (Nat.le_trans (by decide) hh) (by simp [Value.category]) dX10_whyNot_9 (fun r9 m9 => ?_)
  refine zr_icmp_le (tgt := 17) C dX10_whyNot_12 (by decide) ?_ ?_
  · refine zr_aload_n C dX10_whyNot_17 rfl ?_
    refine zr_aload_n C dX10_whyNot_18 rfl ?_
    refine zk_X10_283 C F (Nat.le_of_ble_eq_true rfl) (Nat.le_trans (by decide) hh) (by simp [Value.category]) dX10_whyNot_19 (fun r19 m19 => ?_)
    refine zr_if_ne (tgt := 27) C dX10_whyNot_22 (by decide) ?_ ?_
    · refine zr_aload_n C dX10_whyNot_27 rfl ?_
      refine zk_X10_95 C F hb5 (Nat.le_trans (by decide) hh) (by simp [Value.category]) dX10_whyNot_28 (fun r28 m28 => ?_)
      refine zr_iload_n C dX10_whyNot_31 rfl ?_
      refine zr_iadd C dX10_whyNot_32 ?_
      refine zr_istore (i := 4) (L1 := [(4, .int _), (3, .ref _), (0, .ref _), (1, .int _), (2, .int _)]) C dX10_whyNot_33 (by decide) rfl ?_
      refine zr_iload C dX10_whyNot_35 rfl ?_
      refine zr_aload_n C dX10_whyNot_37 rfl ?_
      refine zr_aload_n C dX10_whyNot_38 rfl ?_
      refine zr_iconst (v := 1) C dX10_whyNot_39 rfl ?_
      refine zk_X10_287 C F (Nat.le_of_ble_eq_true rfl) (Nat.le_trans (by decide) hh) (by simp [Value.category]) dX10_whyNot_40 (fun r40 m40 => ?_)
      refine zr_imul C dX10_whyNot_43 ?_
      refine zr_aload_n C dX10_whyNot_44 rfl ?_
      refine zf_X10_18 C (Nat.le_of_ble_eq_true rfl) dX10_whyNot_45 ?_
      refine zr_iload_n C dX10_whyNot_48 rfl ?_
      refine zr_iconst (v := 0) C dX10_whyNot_49 rfl ?_
      refine zr_aload_n C dX10_whyNot_50 rfl ?_
      refine zf_X10_142 C (Nat.le_of_ble_eq_true rfl) dX10_whyNot_51 ?_
      refine zk_X10_171 C F (Nat.le_of_ble_eq_true rfl) (Nat.le_trans (by decide) hh) (by simp [Value.category]) dX10_whyNot_54 (fun r54 m54 => ?_)
      refine zr_icmp_le (tgt := 62) C dX10_whyNot_57 (by decide) ?_ ?_
      · refine zr_aload_n C dX10_whyNot_62 rfl ?_
        refine zr_aload_n C dX10_whyNot_63 rfl ?_
        refine zr_iconst (v := 0) C dX10_whyNot_64 rfl ?_
        refine zk_X10_287 C F (Nat.le_of_ble_eq_true rfl) (Nat.le_trans (by decide) hh) (by simp [Value.category]) dX10_whyNot_65 (fun r65 m65 => ?_)
        refine zr_istore (i := 5) (L1 := [(5, .int _), (4, .int _), (3, .ref _), (0, .ref _), (1, .int _), (2, .int _)]) C dX10_whyNot_68 (by decide) rfl ?_
        refine zr_iload C dX10_whyNot_70 rfl ?_
        refine zr_if_le (tgt := 89) C dX10_whyNot_72 (by decide) ?_ ?_
        · refine zr_iconst (v := 0) C dX10_whyNot_89 rfl ?_
          exact zr_iret C dX10_whyNot_90
        · refine zr_iload C dX10_whyNot_75 rfl ?_
          refine zr_aload_n C dX10_whyNot_77 rfl ?_
          refine zf_X10_114 C hb5 dX10_whyNot_78 ?_
          refine zr_iload C dX10_whyNot_81 rfl ?_
          refine zr_idiv C dX10_whyNot_83 ?_
          refine zr_icmp_le (tgt := 89) C dX10_whyNot_84 (by decide) ?_ ?_
          · refine zr_iconst (v := 0) C dX10_whyNot_89 rfl ?_
            exact zr_iret C dX10_whyNot_90
          · refine zr_iconst (v := 4) C dX10_whyNot_87 rfl ?_
            exact zr_iret C dX10_whyNot_88
      · refine zr_iconst (v := 3) C dX10_whyNot_60 rfl ?_
        exact zr_iret C dX10_whyNot_61
    · refine zr_iconst (v := 2) C dX10_whyNot_25 rfl ?_
      exact zr_iret C dX10_whyNot_26
  · refine zr_iconst (v := 1) C dX10_whyNot_15 rfl ?_
    exact zr_iret C dX10_whyNot_16
theorem zk_X10_277 (C : zCx E cc RX10 nL ret Z h) (F : Nat) {b0 : Int32} {b1 : Int32} (hk : 0 < zN 0) (hh : 6 + 1 ≤ h) (hst8 : (st.map fun v => v.category).sum ≤ 8) (hd : decode cc pc = .ok (.invokevirtual 277, 3)) {g : Int32 → zMem → Option (α × zMem)} (kk : ∀ (r : Int32) (σ1 : zMem), zKO E nL Z QQ (pc + 3) L (.int r :: st) σ1 (g r σ1)) : zKO E nL Z QQ pc L (.int b1 :: .int b0 :: .ref (zad Z 0 0) :: st) σ (zb (f_X10_whyNot F σ b0 b1) g) :=
  zr_callVI (As := [.int b0, .int b1]) (ia := 2) C (fun r σ1 ho => c_X10_whyNot (zla E) Z F σ b0 b1 r σ1 ho) wz_752 hk rfl rfl wz_p34 wz_754 wz_755 wz_1 (by decide +kernel) rfl (by decide) hh hd hst8 kk
def f_X10_writeDrive (F : Nat) (σ : zMem) (a1 : Int32) (a2 : Int32) (a3 : Int32) : Option (Unit × zMem) := zg (inb 0 6) (zg (inb ((σ.1 0 0 10)) 200) (zg (inb 1 6) (zg (inb (((zwi σ 50 0 ((σ.1 0 0 10)).toNatClampNeg ((σ.1 0 0 11))).1 0 0 10)) 200) (zg (inb 2 6) (zg (inb (((zwi (zwi σ 50 0 ((σ.1 0 0 10)).toNatClampNeg ((σ.1 0 0 11))) 50 1 (((zwi σ 50 0 ((σ.1 0 0 10)).toNatClampNeg ((σ.1 0 0 11))).1 0 0 10)).toNatClampNeg a1).1 0 0 10)) 200) (zg (inb 3 6) (zg (inb (((zwi (zwi (zwi σ 50 0 ((σ.1 0 0 10)).toNatClampNeg ((σ.1 0 0 11))) 50 1 (((zwi σ 50 0 ((σ.1 0 0 10)).toNatClampNeg ((σ.1 0 0 11))).1 0 0 10)).toNatClampNeg a1) 50 2 (((zwi (zwi σ 50 0 ((σ.1 0 0 10)).toNatClampNeg ((σ.1 0 0 11))) 50 1 (((zwi σ 50 0 ((σ.1 0 0 10)).toNatClampNeg ((σ.1 0 0 11))).1 0 0 10)).toNatClampNeg a1).1 0 0 10)).toNatClampNeg a2).1 0 0 10)) 200) (zg (inb 4 6) (zg (inb a1 10) (zb (f_X9_latest F (zwi (zwi (zwi (zwi σ 50 0 ((σ.1 0 0 10)).toNatClampNeg ((σ.1 0 0 11))) 50 1 (((zwi σ 50 0 ((σ.1 0 0 10)).toNatClampNeg ((σ.1 0 0 11))).1 0 0 10)).toNatClampNeg a1) 50 2 (((zwi (zwi σ 50 0 ((σ.1 0 0 10)).toNatClampNeg ((σ.1 0 0 11))) 50 1 (((zwi σ 50 0 ((σ.1 0 0 10)).toNatClampNeg ((σ.1 0 0 11))).1 0 0 10)).toNatClampNeg a1).1 0 0 10)).toNatClampNeg a2) 50 3 (((zwi (zwi (zwi σ 50 0 ((σ.1 0 0 10)).toNatClampNeg ((σ.1 0 0 11))) 50 1 (((zwi σ 50 0 ((σ.1 0 0 10)).toNatClampNeg ((σ.1 0 0 11))).1 0 0 10)).toNatClampNeg a1) 50 2 (((zwi (zwi σ 50 0 ((σ.1 0 0 10)).toNatClampNeg ((σ.1 0 0 11))) 50 1 (((zwi σ 50 0 ((σ.1 0 0 10)).toNatClampNeg ((σ.1 0 0 11))).1 0 0 10)).toNatClampNeg a1).1 0 0 10)).toNatClampNeg a2).1 0 0 10)).toNatClampNeg a3) a1.toNatClampNeg 1 (((zwi (zwi (zwi (zwi σ 50 0 ((σ.1 0 0 10)).toNatClampNeg ((σ.1 0 0 11))) 50 1 (((zwi σ 50 0 ((σ.1 0 0 10)).toNatClampNeg ((σ.1 0 0 11))).1 0 0 10)).toNatClampNeg a1) 50 2 (((zwi (zwi σ 50 0 ((σ.1 0 0 10)).toNatClampNeg ((σ.1 0 0 11))) 50 1 (((zwi σ 50 0 ((σ.1 0 0 10)).toNatClampNeg ((σ.1 0 0 11))).1 0 0 10)).toNatClampNeg a1).1 0 0 10)).toNatClampNeg a2) 50 3 (((zwi (zwi (zwi σ 50 0 ((σ.1 0 0 10)).toNatClampNeg ((σ.1 0 0 11))) 50 1 (((zwi σ 50 0 ((σ.1 0 0 10)).toNatClampNeg ((σ.1 0 0 11))).1 0 0 10)).toNatClampNeg a1) 50 2 (((zwi (zwi σ 50 0 ((σ.1 0 0 10)).toNatClampNeg ((σ.1 0 0 11))) 50 1 (((zwi σ 50 0 ((σ.1 0 0 10)).toNatClampNeg ((σ.1 0 0 11))).1 0 0 10)).toNatClampNeg a1).1 0 0 10)).toNatClampNeg a2).1 0 0 10)).toNatClampNeg a3).1 0 0 11)) (((zwi (zwi (zwi (zwi σ 50 0 ((σ.1 0 0 10)).toNatClampNeg ((σ.1 0 0 11))) 50 1 (((zwi σ 50 0 ((σ.1 0 0 10)).toNatClampNeg ((σ.1 0 0 11))).1 0 0 10)).toNatClampNeg a1) 50 2 (((zwi (zwi σ 50 0 ((σ.1 0 0 10)).toNatClampNeg ((σ.1 0 0 11))) 50 1 (((zwi σ 50 0 ((σ.1 0 0 10)).toNatClampNeg ((σ.1 0 0 11))).1 0 0 10)).toNatClampNeg a1).1 0 0 10)).toNatClampNeg a2) 50 3 (((zwi (zwi (zwi σ 50 0 ((σ.1 0 0 10)).toNatClampNeg ((σ.1 0 0 11))) 50 1 (((zwi σ 50 0 ((σ.1 0 0 10)).toNatClampNeg ((σ.1 0 0 11))).1 0 0 10)).toNatClampNeg a1) 50 2 (((zwi (zwi σ 50 0 ((σ.1 0 0 10)).toNatClampNeg ((σ.1 0 0 11))) 50 1 (((zwi σ 50 0 ((σ.1 0 0 10)).toNatClampNeg ((σ.1 0 0 11))).1 0 0 10)).toNatClampNeg a1).1 0 0 10)).toNatClampNeg a2).1 0 0 10)).toNatClampNeg a3).1 0 0 11))) fun r80 m80 => zg (inb (((zwi (zwi (zwi (zwi σ 50 0 ((σ.1 0 0 10)).toNatClampNeg ((σ.1 0 0 11))) 50 1 (((zwi σ 50 0 ((σ.1 0 0 10)).toNatClampNeg ((σ.1 0 0 11))).1 0 0 10)).toNatClampNeg a1) 50 2 (((zwi (zwi σ 50 0 ((σ.1 0 0 10)).toNatClampNeg ((σ.1 0 0 11))) 50 1 (((zwi σ 50 0 ((σ.1 0 0 10)).toNatClampNeg ((σ.1 0 0 11))).1 0 0 10)).toNatClampNeg a1).1 0 0 10)).toNatClampNeg a2) 50 3 (((zwi (zwi (zwi σ 50 0 ((σ.1 0 0 10)).toNatClampNeg ((σ.1 0 0 11))) 50 1 (((zwi σ 50 0 ((σ.1 0 0 10)).toNatClampNeg ((σ.1 0 0 11))).1 0 0 10)).toNatClampNeg a1) 50 2 (((zwi (zwi σ 50 0 ((σ.1 0 0 10)).toNatClampNeg ((σ.1 0 0 11))) 50 1 (((zwi σ 50 0 ((σ.1 0 0 10)).toNatClampNeg ((σ.1 0 0 11))).1 0 0 10)).toNatClampNeg a1).1 0 0 10)).toNatClampNeg a2).1 0 0 10)).toNatClampNeg a3).1 0 0 10)) 200) (zg (inb 5 6) (zg (inb a1 10) (zb (f_X9_latest F (zwi m80 50 4 (((zwi (zwi (zwi (zwi σ 50 0 ((σ.1 0 0 10)).toNatClampNeg ((σ.1 0 0 11))) 50 1 (((zwi σ 50 0 ((σ.1 0 0 10)).toNatClampNeg ((σ.1 0 0 11))).1 0 0 10)).toNatClampNeg a1) 50 2 (((zwi (zwi σ 50 0 ((σ.1 0 0 10)).toNatClampNeg ((σ.1 0 0 11))) 50 1 (((zwi σ 50 0 ((σ.1 0 0 10)).toNatClampNeg ((σ.1 0 0 11))).1 0 0 10)).toNatClampNeg a1).1 0 0 10)).toNatClampNeg a2) 50 3 (((zwi (zwi (zwi σ 50 0 ((σ.1 0 0 10)).toNatClampNeg ((σ.1 0 0 11))) 50 1 (((zwi σ 50 0 ((σ.1 0 0 10)).toNatClampNeg ((σ.1 0 0 11))).1 0 0 10)).toNatClampNeg a1) 50 2 (((zwi (zwi σ 50 0 ((σ.1 0 0 10)).toNatClampNeg ((σ.1 0 0 11))) 50 1 (((zwi σ 50 0 ((σ.1 0 0 10)).toNatClampNeg ((σ.1 0 0 11))).1 0 0 10)).toNatClampNeg a1).1 0 0 10)).toNatClampNeg a2).1 0 0 10)).toNatClampNeg a3).1 0 0 10)).toNatClampNeg r80) a1.toNatClampNeg 0 (((zwi m80 50 4 (((zwi (zwi (zwi (zwi σ 50 0 ((σ.1 0 0 10)).toNatClampNeg ((σ.1 0 0 11))) 50 1 (((zwi σ 50 0 ((σ.1 0 0 10)).toNatClampNeg ((σ.1 0 0 11))).1 0 0 10)).toNatClampNeg a1) 50 2 (((zwi (zwi σ 50 0 ((σ.1 0 0 10)).toNatClampNeg ((σ.1 0 0 11))) 50 1 (((zwi σ 50 0 ((σ.1 0 0 10)).toNatClampNeg ((σ.1 0 0 11))).1 0 0 10)).toNatClampNeg a1).1 0 0 10)).toNatClampNeg a2) 50 3 (((zwi (zwi (zwi σ 50 0 ((σ.1 0 0 10)).toNatClampNeg ((σ.1 0 0 11))) 50 1 (((zwi σ 50 0 ((σ.1 0 0 10)).toNatClampNeg ((σ.1 0 0 11))).1 0 0 10)).toNatClampNeg a1) 50 2 (((zwi (zwi σ 50 0 ((σ.1 0 0 10)).toNatClampNeg ((σ.1 0 0 11))) 50 1 (((zwi σ 50 0 ((σ.1 0 0 10)).toNatClampNeg ((σ.1 0 0 11))).1 0 0 10)).toNatClampNeg a1).1 0 0 10)).toNatClampNeg a2).1 0 0 10)).toNatClampNeg a3).1 0 0 10)).toNatClampNeg r80).1 0 0 11)) (((zwi m80 50 4 (((zwi (zwi (zwi (zwi σ 50 0 ((σ.1 0 0 10)).toNatClampNeg ((σ.1 0 0 11))) 50 1 (((zwi σ 50 0 ((σ.1 0 0 10)).toNatClampNeg ((σ.1 0 0 11))).1 0 0 10)).toNatClampNeg a1) 50 2 (((zwi (zwi σ 50 0 ((σ.1 0 0 10)).toNatClampNeg ((σ.1 0 0 11))) 50 1 (((zwi σ 50 0 ((σ.1 0 0 10)).toNatClampNeg ((σ.1 0 0 11))).1 0 0 10)).toNatClampNeg a1).1 0 0 10)).toNatClampNeg a2) 50 3 (((zwi (zwi (zwi σ 50 0 ((σ.1 0 0 10)).toNatClampNeg ((σ.1 0 0 11))) 50 1 (((zwi σ 50 0 ((σ.1 0 0 10)).toNatClampNeg ((σ.1 0 0 11))).1 0 0 10)).toNatClampNeg a1) 50 2 (((zwi (zwi σ 50 0 ((σ.1 0 0 10)).toNatClampNeg ((σ.1 0 0 11))) 50 1 (((zwi σ 50 0 ((σ.1 0 0 10)).toNatClampNeg ((σ.1 0 0 11))).1 0 0 10)).toNatClampNeg a1).1 0 0 10)).toNatClampNeg a2).1 0 0 10)).toNatClampNeg a3).1 0 0 10)).toNatClampNeg r80).1 0 0 11))) fun r113 m113 => zg (inb (((zwi m80 50 4 (((zwi (zwi (zwi (zwi σ 50 0 ((σ.1 0 0 10)).toNatClampNeg ((σ.1 0 0 11))) 50 1 (((zwi σ 50 0 ((σ.1 0 0 10)).toNatClampNeg ((σ.1 0 0 11))).1 0 0 10)).toNatClampNeg a1) 50 2 (((zwi (zwi σ 50 0 ((σ.1 0 0 10)).toNatClampNeg ((σ.1 0 0 11))) 50 1 (((zwi σ 50 0 ((σ.1 0 0 10)).toNatClampNeg ((σ.1 0 0 11))).1 0 0 10)).toNatClampNeg a1).1 0 0 10)).toNatClampNeg a2) 50 3 (((zwi (zwi (zwi σ 50 0 ((σ.1 0 0 10)).toNatClampNeg ((σ.1 0 0 11))) 50 1 (((zwi σ 50 0 ((σ.1 0 0 10)).toNatClampNeg ((σ.1 0 0 11))).1 0 0 10)).toNatClampNeg a1) 50 2 (((zwi (zwi σ 50 0 ((σ.1 0 0 10)).toNatClampNeg ((σ.1 0 0 11))) 50 1 (((zwi σ 50 0 ((σ.1 0 0 10)).toNatClampNeg ((σ.1 0 0 11))).1 0 0 10)).toNatClampNeg a1).1 0 0 10)).toNatClampNeg a2).1 0 0 10)).toNatClampNeg a3).1 0 0 10)).toNatClampNeg r80).1 0 0 10)) 200) (some ((), (zwi m113 50 5 (((zwi m80 50 4 (((zwi (zwi (zwi (zwi σ 50 0 ((σ.1 0 0 10)).toNatClampNeg ((σ.1 0 0 11))) 50 1 (((zwi σ 50 0 ((σ.1 0 0 10)).toNatClampNeg ((σ.1 0 0 11))).1 0 0 10)).toNatClampNeg a1) 50 2 (((zwi (zwi σ 50 0 ((σ.1 0 0 10)).toNatClampNeg ((σ.1 0 0 11))) 50 1 (((zwi σ 50 0 ((σ.1 0 0 10)).toNatClampNeg ((σ.1 0 0 11))).1 0 0 10)).toNatClampNeg a1).1 0 0 10)).toNatClampNeg a2) 50 3 (((zwi (zwi (zwi σ 50 0 ((σ.1 0 0 10)).toNatClampNeg ((σ.1 0 0 11))) 50 1 (((zwi σ 50 0 ((σ.1 0 0 10)).toNatClampNeg ((σ.1 0 0 11))).1 0 0 10)).toNatClampNeg a1) 50 2 (((zwi (zwi σ 50 0 ((σ.1 0 0 10)).toNatClampNeg ((σ.1 0 0 11))) 50 1 (((zwi σ 50 0 ((σ.1 0 0 10)).toNatClampNeg ((σ.1 0 0 11))).1 0 0 10)).toNatClampNeg a1).1 0 0 10)).toNatClampNeg a2).1 0 0 10)).toNatClampNeg a3).1 0 0 10)).toNatClampNeg r80).1 0 0 10)).toNatClampNeg r113))))))))))))))))
set_option maxHeartbeats 4000000 in
set_option maxRecDepth 100000 in
theorem c_X10_writeDrive (l : Launch) (Z : zLay) (F : Nat) (σ : zMem) (a1 : Int32) (a2 : Int32) (a3 : Int32) (r : Unit) (σ1 : zMem) (ho : f_X10_writeDrive F σ a1 a2 a3 = some (r, σ1)) : zMet l yX10_writeDrive cX10_writeDrive 4 none 4 Z [.ref (zad Z 0 0), .int (a1), .int (a2), .int (a3)] σ (zQV Z r σ1) := by
  refine zMet_of (Qc := zQV Z) (by decide) (Nat.le_of_ble_eq_true rfl) [(0, .ref (zad Z 0 0)), (1, .int (a1)), (2, .int (a2)), (3, .int (a3))] rfl (fun E C => ?_) ho
  have hh : 4 ≤ 4 := Nat.le_refl _
  show zKO E 4 Z (zMQ E Z (zQV Z)) 0 [(0, .ref (zad Z 0 0)), (1, .int (a1)), (2, .int (a2)), (3, .int (a3))] [] σ _
  unfold f_X10_writeDrive
  refine zr_aload_n C dX10_writeDrive_0 rfl ?_
  refine zf_X10_65 C (Nat.le_of_ble_eq_true rfl) dX10_writeDrive_1 ?_
  refine zr_iconst (v := 0) C dX10_writeDrive_4 rfl ?_
  refine zr_aald (n := 6) (k1 := 50) C dX10_writeDrive_5 (Nat.le_of_ble_eq_true rfl) rfl rfl rfl (fun hb5 => ?_)
  refine zr_aload_n C dX10_writeDrive_6 rfl ?_
  refine zf_X10_212 C (Nat.le_of_ble_eq_true rfl) dX10_writeDrive_7 ?_
  refine zr_aload_n C dX10_writeDrive_10 rfl ?_
  refine zf_X10_142 C (Nat.le_of_ble_eq_true rfl) dX10_writeDrive_11 ?_
  refine zr_iast (n := 200) C dX10_writeDrive_14 hb5 (fun _ _ => rfl) ?_
  refine zr_aload_n C dX10_writeDrive_15 rfl ?_
  refine zf_X10_65 C (Nat.le_of_ble_eq_true rfl) dX10_writeDrive_16 ?_
  refine zr_iconst (v := 1) C dX10_writeDrive_19 rfl ?_
  refine zr_aald (n := 6) (k1 := 50) C dX10_writeDrive_20 (Nat.le_of_ble_eq_true rfl) rfl rfl rfl (fun hb20 => ?_)
  refine zr_aload_n C dX10_writeDrive_21 rfl ?_
  refine zf_X10_212 C (Nat.le_of_ble_eq_true rfl) dX10_writeDrive_22 ?_
  refine zr_iload_n C dX10_writeDrive_25 rfl ?_
  refine zr_iast (n := 200) C dX10_writeDrive_26 hb20 (fun _ _ => rfl) ?_
  refine zr_aload_n C dX10_writeDrive_27 rfl ?_
  refine zf_X10_65 C (Nat.le_of_ble_eq_true rfl) dX10_writeDrive_28 ?_
  refine zr_iconst (v := 2) C dX10_writeDrive_31 rfl ?_
  refine zr_aald (n := 6) (k1 := 50) C dX10_writeDrive_32 (Nat.le_of_ble_eq_true rfl) rfl rfl rfl (fun hb32 => ?_)
  refine zr_aload_n C dX10_writeDrive_33 rfl ?_
  refine zf_X10_212 C (Nat.le_of_ble_eq_true rfl) dX10_writeDrive_34 ?_
  refine zr_iload_n C dX10_writeDrive_37 rfl ?_
  refine zr_iast (n := 200) C dX10_writeDrive_38 hb32 (fun _ _ => rfl) ?_
  refine zr_aload_n C dX10_writeDrive_39 rfl ?_
  refine zf_X10_65 C (Nat.le_of_ble_eq_true rfl) dX10_writeDrive_40 ?_
  refine zr_iconst (v := 3) C dX10_writeDrive_43 rfl ?_
  refine zr_aald (n := 6) (k1 := 50) C dX10_writeDrive_44 (Nat.le_of_ble_eq_true rfl) rfl rfl rfl (fun hb44 => ?_)
  refine zr_aload_n C dX10_writeDrive_45 rfl ?_
  refine zf_X10_212 C (Nat.le_of_ble_eq_true rfl) dX10_writeDrive_46 ?_
  refine zr_iload_n C dX10_writeDrive_49 rfl ?_
  refine zr_iast (n := 200) C dX10_writeDrive_50 hb44 (fun _ _ => rfl) ?_
  refine zr_aload_n C dX10_writeDrive_51 rfl ?_
  refine zf_X10_65 C (Nat.le_of_ble_eq_true rfl) dX10_writeDrive_52 ?_
  refine zr_iconst (v := 4) C dX10_writeDrive_55 rfl ?_
  refine zr_aald (n := 6) (k1 := 50) C dX10_writeDrive_56 (Nat.le_of_ble_eq_true rfl) rfl rfl rfl (fun hb56 => ?_)
  refine zr_aload_n C dX10_writeDrive_57 rfl ?_
  refine zf_X10_212 C (Nat.le_of_ble_eq_true rfl) dX10_writeDrive_58 ?_
  refine zr_aload_n C dX10_writeDrive_61 rfl ?_
  refine zf_X10_25 C (Nat.le_of_ble_eq_true rfl) dX10_writeDrive_62 ?_
  refine zr_aload_n C dX10_writeDrive_65 rfl ?_
  refine zf_X10_11 C (Nat.le_of_ble_eq_true rfl) dX10_writeDrive_66 ?_
  refine zr_iload_n C dX10_writeDrive_69 rfl ?_
  refine zr_aald (n := 10) (k1 := 2) C dX10_writeDrive_70 (Nat.le_of_ble_eq_true rfl) rfl rfl rfl (fun hb70 => ?_)
  refine zr_iconst (v := 1) C dX10_writeDrive_71 rfl ?_
  refine zr_aload_n C dX10_writeDrive_72 rfl ?_
  refine zf_X10_142 C (Nat.le_of_ble_eq_true rfl) dX10_writeDrive_73 ?_
  refine zr_aload_n C dX10_writeDrive_76 rfl ?_
  refine zf_X10_142 C (Nat.le_of_ble_eq_true rfl) dX10_writeDrive_77 ?_
  refine zk_X10_219 C F (Nat.le_of_ble_eq_true rfl) (Nat.le_trans (by decide) hh) (by simp [Value.category]) dX10_writeDrive_80 (fun r80 m80 => ?_)
  refine zr_iast (n := 200) C dX10_writeDrive_83 hb56 (fun _ _ => rfl) ?_
  refine zr_aload_n C dX10_writeDrive_84 rfl ?_
  refine zf_X10_65 C (Nat.le_of_ble_eq_true rfl) dX10_writeDrive_85 ?_
  refine zr_iconst (v := 5) C dX10_writeDrive_88 rfl ?_
  refine zr_aald (n := 6) (k1 := 50) C dX10_writeDrive_89 (Nat.le_of_ble_eq_true rfl) rfl rfl rfl (fun hb89 => ?_)
  refine zr_aload_n C dX10_writeDrive_90 rfl ?_
  refine zf_X10_212 C (Nat.le_of_ble_eq_true rfl) dX10_writeDrive_91 ?_
  refine zr_aload_n C dX10_writeDrive_94 rfl ?_
  refine zf_X10_25 C (Nat.le_of_ble_eq_true rfl) dX10_writeDrive_95 ?_
  refine zr_aload_n C dX10_writeDrive_98 rfl ?_
  refine zf_X10_11 C (Nat.le_of_ble_eq_true rfl) dX10_writeDrive_99 ?_
  refine zr_iload_n C dX10_writeDrive_102 rfl ?_
  refine zr_aald (n := 10) (k1 := 2) C dX10_writeDrive_103 (Nat.le_of_ble_eq_true rfl) rfl rfl rfl (fun hb103 => ?_)
  refine zr_iconst (v := 0) C dX10_writeDrive_104 rfl ?_
  refine zr_aload_n C dX10_writeDrive_105 rfl ?_
  refine zf_X10_142 C (Nat.le_of_ble_eq_true rfl) dX10_writeDrive_106 ?_
  refine zr_aload_n C dX10_writeDrive_109 rfl ?_
  refine zf_X10_142 C (Nat.le_of_ble_eq_true rfl) dX10_writeDrive_110 ?_
  refine zk_X10_219 C F (Nat.le_of_ble_eq_true rfl) (Nat.le_trans (by decide) hh) (by simp [Value.category]) dX10_writeDrive_113 (fun r113 m113 => ?_)
  refine zr_iast (n := 200) C dX10_writeDrive_116 hb89 (fun _ _ => rfl) ?_
  exact zr_vret C dX10_writeDrive_117
theorem zk_X10_280 (C : zCx E cc RX10 nL ret Z h) (F : Nat) {b0 : Int32} {b1 : Int32} {b2 : Int32} (hk : 0 < zN 0) (hh : 4 + 1 ≤ h) (hst8 : (st.map fun v => v.category).sum ≤ 8) (hd : decode cc pc = .ok (.invokevirtual 280, 3)) {g : Unit → zMem → Option (α × zMem)} (kk : ∀ (r : Unit) (σ1 : zMem), zKO E nL Z QQ (pc + 3) L (st) σ1 (g r σ1)) : zKO E nL Z QQ pc L (.int b2 :: .int b1 :: .int b0 :: .ref (zad Z 0 0) :: st) σ (zb (f_X10_writeDrive F σ b0 b1 b2) g) :=
  zr_callVU (As := [.int b0, .int b1, .int b2]) (ia := 3) C (fun r σ1 ho => c_X10_writeDrive (zla E) Z F σ b0 b1 b2 r σ1 ho) wz_764 hk rfl rfl wz_p37 wz_766 wz_767 wz_1 (by decide +kernel) rfl (by decide) hh hd hst8 kk
def f_X10_drive_71 (F : Nat) (σ : zMem) (l1 : Int32) (l2 : Int32) (l3 : Int32) : Option (Int32 × zMem) := zg (inb l1 10) (zg (inb l2 4) (zg (inb l2 4) (zg (inb l1 10) (zg (inb l2 4) (some (((zwi (zwi σ 0 0 10 (((σ.1 0 0 10) + 1))) 4 l1.toNatClampNeg l2.toNatClampNeg ((((zwi σ 0 0 10 (((σ.1 0 0 10) + 1))).1 4 l1.toNatClampNeg l2.toNatClampNeg) + l3))).1 4 l1.toNatClampNeg l2.toNatClampNeg), (zwi (zwi σ 0 0 10 (((σ.1 0 0 10) + 1))) 4 l1.toNatClampNeg l2.toNatClampNeg ((((zwi σ 0 0 10 (((σ.1 0 0 10) + 1))).1 4 l1.toNatClampNeg l2.toNatClampNeg) + l3)))))))))
set_option maxHeartbeats 4000000 in
set_option maxRecDepth 100000 in
theorem c_X10_drive_71 (F : Nat) {E : zEn} {h : Nat} {Z : zLay} (C : zCx E cX10_drive RX10 5 (some .int) Z h) (hh : 7 ≤ h) (σ : zMem) (l1 : Int32) (l2 : Int32) (l3 : Int32) : zKO E 5 Z (zMQ E Z (zQI Z)) 71 [(0, .ref (zad Z 0 0)), (1, .int l1), (2, .int l2), (3, .int l3)] [] σ (f_X10_drive_71 F σ l1 l2 l3) := by
  unfold f_X10_drive_71
  refine zr_aload_n C dX10_drive_71 rfl ?_
  refine zr_dup C dX10_drive_72 rfl ?_
  refine zf_X10_212 C (Nat.le_of_ble_eq_true rfl) dX10_drive_73 ?_
  refine zr_iconst (v := 1) C dX10_drive_76 rfl ?_
  refine zr_iadd C dX10_drive_77 ?_
  refine zp_X10_212 C (Nat.le_of_ble_eq_true rfl) dX10_drive_78 ?_
  refine zr_aload_n C dX10_drive_81 rfl ?_
  refine zf_X10_11 C (Nat.le_of_ble_eq_true rfl) dX10_drive_82 ?_
  refine zr_iload_n C dX10_drive_85 rfl ?_
  refine zr_aald (n := 10) (k1 := 2) C dX10_drive_86 (Nat.le_of_ble_eq_true rfl) rfl rfl rfl (fun hb86 => ?_)
  refine zf_X10_274 C hb86 dX10_drive_87 ?_
  refine zr_iload_n C dX10_drive_90 rfl ?_
  refine zr_dup2 C dX10_drive_91 rfl rfl ?_
  refine zr_iald (n := 4) C dX10_drive_92 hb86 rfl ?_
  refine zr_iload_n C dX10_drive_93 rfl ?_
  refine zr_iadd C dX10_drive_94 ?_
  refine zr_iast (n := 4) C dX10_drive_95 hb86 (fun _ _ => rfl) ?_
  refine zr_aload_n C dX10_drive_96 rfl ?_
  refine zf_X10_11 C (Nat.le_of_ble_eq_true rfl) dX10_drive_97 ?_
  refine zr_iload_n C dX10_drive_100 rfl ?_
  refine zr_aald (n := 10) (k1 := 2) C dX10_drive_101 (Nat.le_of_ble_eq_true rfl) rfl rfl rfl (fun hb101 => ?_)
  refine zf_X10_274 C hb101 dX10_drive_102 ?_
  refine zr_iload_n C dX10_drive_105 rfl ?_
  refine zr_iald (n := 4) C dX10_drive_106 hb101 rfl ?_
  exact zr_iret C dX10_drive_107
def f_X10_drive (F : Nat) (σ : zMem) (a1 : Int32) (a2 : Int32) (a3 : Int32) : Option (Int32 × zMem) := zb (f_X10_isHouse F σ a1) fun r2 m2 => if r2 = 0 then (some ((-1), m2)) else (zb (f_X0_has F m2 a2) fun r13 m13 => if r13 = 0 then (some ((-1), m13)) else (if a3 < 1 then (some ((-2), m13)) else (if a3 ≤ 99 then (zb (f_X10_whyNot F m13 a1 a3) fun r38 m38 => if r38 ≤ 0 then (if 200 ≤ (m38.1 0 0 10) then (f_X10_drive_71 F m38 a1 a2 a3) else (zb (f_X10_writeDrive F m38 a1 a2 a3) fun r68 m68 => f_X10_drive_71 F m68 a1 a2 a3)) else (some (((-20) - r38), m38))) else (some ((-2), m13)))))
set_option maxHeartbeats 4000000 in
set_option maxRecDepth 100000 in
theorem c_X10_drive (l : Launch) (Z : zLay) (F : Nat) (σ : zMem) (a1 : Int32) (a2 : Int32) (a3 : Int32) (r : Int32) (σ1 : zMem) (ho : f_X10_drive F σ a1 a2 a3 = some (r, σ1)) : zMet l yX10_drive cX10_drive 5 (some .int) 7 Z [.ref (zad Z 0 0), .int (a1), .int (a2), .int (a3)] σ (zQI Z r σ1) := by
  refine zMet_of (Qc := zQI Z) (by decide) (Nat.le_of_ble_eq_true rfl) [(0, .ref (zad Z 0 0)), (1, .int (a1)), (2, .int (a2)), (3, .int (a3))] rfl (fun E C => ?_) ho
  have hh : 7 ≤ 7 := Nat.le_refl _
  show zKO E 5 Z (zMQ E Z (zQI Z)) 0 [(0, .ref (zad Z 0 0)), (1, .int (a1)), (2, .int (a2)), (3, .int (a3))] [] σ _
  unfold f_X10_drive
  refine zr_aload_n C dX10_drive_0 rfl ?_
  refine zr_iload_n C dX10_drive_1 rfl ?_
  refine zk_X10_91 C F (Nat.le_of_ble_eq_true rfl) (Nat.le_trans (by decide) hh) (by simp [Value.category]) dX10_drive_2 (fun r2 m2 => ?_)
  refine zr_if_eq (tgt := 19) C dX10_drive_5 (by decide) ?_ ?_
  · refine zr_iconst (v := -1) C dX10_drive_19 rfl ?_
    exact zr_iret C dX10_drive_20
  · refine zr_aload_n C dX10_drive_8 rfl ?_
    refine zf_X10_39 C (Nat.le_of_ble_eq_true rfl) dX10_drive_9 ?_
    refine zr_iload_n C dX10_drive_12 rfl ?_
    refine zk_X10_258 C F (Nat.le_of_ble_eq_true rfl) (Nat.le_trans (by decide) hh) (by simp [Value.category]) dX10_drive_13 (fun r13 m13 => ?_)
    refine zr_if_ne (tgt := 21) C dX10_drive_16 (by decide) ?_ ?_
    · refine zr_iload_n C dX10_drive_21 rfl ?_
      refine zr_iconst (v := 1) C dX10_drive_22 rfl ?_
      refine zr_icmp_lt (tgt := 32) C dX10_drive_23 (by decide) ?_ ?_
      · refine zr_bipush (v := -2) C dX10_drive_32 rfl ?_
        exact zr_iret C dX10_drive_34
      · refine zr_iload_n C dX10_drive_26 rfl ?_
        refine zr_bipush (v := 99) C dX10_drive_27 rfl ?_
        refine zr_icmp_le (tgt := 35) C dX10_drive_29 (by decide) ?_ ?_
        · refine zr_aload_n C dX10_drive_35 rfl ?_
          refine zr_iload_n C dX10_drive_36 rfl ?_
          refine zr_iload_n C dX10_drive_37 rfl ?_
          refine zk_X10_277 C F (Nat.le_of_ble_eq_true rfl) (Nat.le_trans (by decide) hh) (by simp [Value.category]) dX10_drive_38 (fun r38 m38 => ?_)
          refine zr_istore (i := 4) (L1 := [(4, .int _), (0, .ref _), (1, .int _), (2, .int _), (3, .int _)]) C dX10_drive_41 (by decide) rfl ?_
          refine zr_iload C dX10_drive_43 rfl ?_
          refine zr_if_le (tgt := 54) C dX10_drive_45 (by decide) ?_ ?_
          · refine zr_aload_n C dX10_drive_54 rfl ?_
            refine zf_X10_212 C (Nat.le_of_ble_eq_true rfl) dX10_drive_55 ?_
            refine zr_sipush (v := 200) C dX10_drive_58 rfl ?_
            refine zr_icmp_ge (tgt := 71) C dX10_drive_61 (by decide) ?_ ?_
            · exact zr_sub [1, 2, 3, 4] rfl (c_X10_drive_71 F C hh m38 a1 a2 a3)
            · refine zr_aload_n C dX10_drive_64 rfl ?_
              refine zr_iload_n C dX10_drive_65 rfl ?_
              refine zr_iload_n C dX10_drive_66 rfl ?_
              refine zr_iload_n C dX10_drive_67 rfl ?_
              refine zk_X10_280 C F (Nat.le_of_ble_eq_true rfl) (Nat.le_trans (by decide) hh) (by simp [Value.category]) dX10_drive_68 (fun r68 m68 => ?_)
              exact zr_sub [1, 2, 3, 4] rfl (c_X10_drive_71 F C hh m68 a1 a2 a3)
          · refine zr_bipush (v := -20) C dX10_drive_48 rfl ?_
            refine zr_iload C dX10_drive_50 rfl ?_
            refine zr_isub C dX10_drive_52 ?_
            exact zr_iret C dX10_drive_53
        · refine zr_bipush (v := -2) C dX10_drive_32 rfl ?_
          exact zr_iret C dX10_drive_34
    · refine zr_iconst (v := -1) C dX10_drive_19 rfl ?_
      exact zr_iret C dX10_drive_20
def f_X10_home (F : Nat) (σ : zMem) (a1 : Int32) (a2 : Int32) (a3 : Int32) : Option (Int32 × zMem) := zb (f_X10_isHouse F σ a1) fun r2 m2 => if r2 = 0 then (some ((-1), m2)) else (zb (f_X0_has F m2 a2) fun r13 m13 => if r13 = 0 then (some ((-1), m13)) else (zg (inb a1 10) (if a3 < 1 then (some ((-2), m13)) else (if 99 < a3 then (some ((-2), m13)) else (zg (inb a2 4) (if a3 ≤ (m13.1 4 a1.toNatClampNeg a2.toNatClampNeg) then (zg (inb a2 4) (zg (inb a2 4) (zg (inb a2 4) (some (((zwi m13 4 a1.toNatClampNeg a2.toNatClampNeg (((m13.1 4 a1.toNatClampNeg a2.toNatClampNeg) - a3))).1 4 a1.toNatClampNeg a2.toNatClampNeg), (zwi m13 4 a1.toNatClampNeg a2.toNatClampNeg (((m13.1 4 a1.toNatClampNeg a2.toNatClampNeg) - a3)))))))) else (some ((-2), m13))))))))
set_option maxHeartbeats 4000000 in
set_option maxRecDepth 100000 in
theorem c_X10_home (l : Launch) (Z : zLay) (F : Nat) (σ : zMem) (a1 : Int32) (a2 : Int32) (a3 : Int32) (r : Int32) (σ1 : zMem) (ho : f_X10_home F σ a1 a2 a3 = some (r, σ1)) : zMet l yX10_home cX10_home 5 (some .int) 2 Z [.ref (zad Z 0 0), .int (a1), .int (a2), .int (a3)] σ (zQI Z r σ1) := by
  refine zMet_of (Qc := zQI Z) (by decide) (Nat.le_of_ble_eq_true rfl) [(0, .ref (zad Z 0 0)), (1, .int (a1)), (2, .int (a2)), (3, .int (a3))] rfl (fun E C => ?_) ho
  have hh : 2 ≤ 2 := Nat.le_refl _
  show zKO E 5 Z (zMQ E Z (zQI Z)) 0 [(0, .ref (zad Z 0 0)), (1, .int (a1)), (2, .int (a2)), (3, .int (a3))] [] σ _
  unfold f_X10_home
  refine zr_aload_n C dX10_home_0 rfl ?_
  refine zr_iload_n C dX10_home_1 rfl ?_
  refine zk_X10_91 C F (Nat.le_of_ble_eq_true rfl) (Nat.le_trans (by decide) hh) (by simp [Value.category]) dX10_home_2 (fun r2 m2 => ?_)
  refine zr_if_eq (tgt := 19) C dX10_home_5 (by decide) ?_ ?_
  · refine zr_iconst (v := -1) C dX10_home_19 rfl ?_
    exact zr_iret C dX10_home_20
  · refine zr_aload_n C dX10_home_8 rfl ?_
    refine zf_X10_39 C (Nat.le_of_ble_eq_true rfl) dX10_home_9 ?_
    refine zr_iload_n C dX10_home_12 rfl ?_
    refine zk_X10_258 C F (Nat.le_of_ble_eq_true rfl) (Nat.le_trans (by decide) hh) (by simp [Value.category]) dX10_home_13 (fun r13 m13 => ?_)
    refine zr_if_ne (tgt := 21) C dX10_home_16 (by decide) ?_ ?_
    · refine zr_aload_n C dX10_home_21 rfl ?_
      refine zf_X10_11 C (Nat.le_of_ble_eq_true rfl) dX10_home_22 ?_
      refine zr_iload_n C dX10_home_25 rfl ?_
      refine zr_aald (n := 10) (k1 := 2) C dX10_home_26 (Nat.le_of_ble_eq_true rfl) rfl rfl rfl (fun hb26 => ?_)
      refine zr_astore (i := 4) (L1 := [(4, .ref _), (0, .ref _), (1, .int _), (2, .int _), (3, .int _)]) C dX10_home_27 (by decide) rfl ?_
      refine zr_iload_n C dX10_home_29 rfl ?_
      refine zr_iconst (v := 1) C dX10_home_30 rfl ?_
      refine zr_icmp_lt (tgt := 51) C dX10_home_31 (by decide) ?_ ?_
      · refine zr_bipush (v := -2) C dX10_home_51 rfl ?_
        exact zr_iret C dX10_home_53
      · refine zr_iload_n C dX10_home_34 rfl ?_
        refine zr_bipush (v := 99) C dX10_home_35 rfl ?_
        refine zr_icmp_gt (tgt := 51) C dX10_home_37 (by decide) ?_ ?_
        · refine zr_bipush (v := -2) C dX10_home_51 rfl ?_
          exact zr_iret C dX10_home_53
        · refine zr_iload_n C dX10_home_40 rfl ?_
          refine zr_aload C dX10_home_41 rfl ?_
          refine zf_X10_274 C hb26 dX10_home_43 ?_
          refine zr_iload_n C dX10_home_46 rfl ?_
          refine zr_iald (n := 4) C dX10_home_47 hb26 rfl ?_
          refine zr_icmp_le (tgt := 54) C dX10_home_48 (by decide) ?_ ?_
          · refine zr_aload C dX10_home_54 rfl ?_
            refine zf_X10_274 C hb26 dX10_home_56 ?_
            refine zr_iload_n C dX10_home_59 rfl ?_
            refine zr_dup2 C dX10_home_60 rfl rfl ?_
            refine zr_iald (n := 4) C dX10_home_61 hb26 rfl ?_
            refine zr_iload_n C dX10_home_62 rfl ?_
            refine zr_isub C dX10_home_63 ?_
            refine zr_iast (n := 4) C dX10_home_64 hb26 (fun _ _ => rfl) ?_
            refine zr_aload C dX10_home_65 rfl ?_
            refine zf_X10_274 C hb26 dX10_home_67 ?_
            refine zr_iload_n C dX10_home_70 rfl ?_
            refine zr_iald (n := 4) C dX10_home_71 hb26 rfl ?_
            exact zr_iret C dX10_home_72
          · refine zr_bipush (v := -2) C dX10_home_51 rfl ?_
            exact zr_iret C dX10_home_53
    · refine zr_iconst (v := -1) C dX10_home_19 rfl ?_
      exact zr_iret C dX10_home_20
def f_X10_book (F : Nat) (σ : zMem) (a1 : Int32) (a2 : Int32) : Option (Int32 × zMem) := if a1 < 0 then (some ((-5), σ)) else (if (σ.1 0 0 10) ≤ a1 then (some ((-5), σ)) else (if 200 ≤ a1 then (some ((-5), σ)) else (if a2 < 0 then (some ((-5), σ)) else (if a2 < 6 then (zg (inb a2 6) (zg (inb a1 200) (some ((σ.1 50 a2.toNatClampNeg a1.toNatClampNeg), σ)))) else (some ((-5), σ))))))
set_option maxHeartbeats 4000000 in
set_option maxRecDepth 100000 in
theorem c_X10_book (l : Launch) (Z : zLay) (F : Nat) (σ : zMem) (a1 : Int32) (a2 : Int32) (r : Int32) (σ1 : zMem) (ho : f_X10_book F σ a1 a2 = some (r, σ1)) : zMet l yX10_book cX10_book 3 (some .int) 1 Z [.ref (zad Z 0 0), .int (a1), .int (a2)] σ (zQI Z r σ1) := by
  refine zMet_of (Qc := zQI Z) (by decide) (Nat.le_of_ble_eq_true rfl) [(0, .ref (zad Z 0 0)), (1, .int (a1)), (2, .int (a2))] rfl (fun E C => ?_) ho
  have hh : 1 ≤ 1 := Nat.le_refl _
  show zKO E 3 Z (zMQ E Z (zQI Z)) 0 [(0, .ref (zad Z 0 0)), (1, .int (a1)), (2, .int (a2))] [] σ _
  unfold f_X10_book
  refine zr_iload_n C dX10_book_0 rfl ?_
  refine zr_if_lt (tgt := 29) C dX10_book_1 (by decide) ?_ ?_
  · refine zr_bipush (v := -5) C dX10_book_29 rfl ?_
    exact zr_iret C dX10_book_31
  · refine zr_iload_n C dX10_book_4 rfl ?_
    refine zr_aload_n C dX10_book_5 rfl ?_
    refine zf_X10_212 C (Nat.le_of_ble_eq_true rfl) dX10_book_6 ?_
    refine zr_icmp_ge (tgt := 29) C dX10_book_9 (by decide) ?_ ?_
    · refine zr_bipush (v := -5) C dX10_book_29 rfl ?_
      exact zr_iret C dX10_book_31
    · refine zr_iload_n C dX10_book_12 rfl ?_
      refine zr_sipush (v := 200) C dX10_book_13 rfl ?_
      refine zr_icmp_ge (tgt := 29) C dX10_book_16 (by decide) ?_ ?_
      · refine zr_bipush (v := -5) C dX10_book_29 rfl ?_
        exact zr_iret C dX10_book_31
      · refine zr_iload_n C dX10_book_19 rfl ?_
        refine zr_if_lt (tgt := 29) C dX10_book_20 (by decide) ?_ ?_
        · refine zr_bipush (v := -5) C dX10_book_29 rfl ?_
          exact zr_iret C dX10_book_31
        · refine zr_iload_n C dX10_book_23 rfl ?_
          refine zr_bipush (v := 6) C dX10_book_24 rfl ?_
          refine zr_icmp_lt (tgt := 32) C dX10_book_26 (by decide) ?_ ?_
          · refine zr_aload_n C dX10_book_32 rfl ?_
            refine zf_X10_65 C (Nat.le_of_ble_eq_true rfl) dX10_book_33 ?_
            refine zr_iload_n C dX10_book_36 rfl ?_
            refine zr_aald (n := 6) (k1 := 50) C dX10_book_37 (Nat.le_of_ble_eq_true rfl) rfl rfl rfl (fun hb37 => ?_)
            refine zr_iload_n C dX10_book_38 rfl ?_
            refine zr_iald (n := 200) C dX10_book_39 hb37 rfl ?_
            exact zr_iret C dX10_book_40
          · refine zr_bipush (v := -5) C dX10_book_29 rfl ?_
            exact zr_iret C dX10_book_31
def f_X10_graze_2 (F : Nat) (rec2 : zMem → Int32 × Int32 → Option (Unit × zMem)) (σ : zMem) (x : Int32 × Int32) : Option (Unit × zMem) := if (σ.1 0 0 1) ≤ x.2 then (some ((), σ)) else (zg (inb x.2 10) (zg (inb x.1 4) (zb (f_X0_feedCows F σ x.1 ((σ.1 4 x.2.toNatClampNeg x.1.toNatClampNeg))) fun r28 m28 => zg (inb x.1 4) (rec2 (zwi (zwi m28 2 x.2.toNatClampNeg 4 (((m28.1 2 x.2.toNatClampNeg 4) + (8 * r28)))) 2 x.2.toNatClampNeg 3 ((((zwi m28 2 x.2.toNatClampNeg 4 (((m28.1 2 x.2.toNatClampNeg 4) + (8 * r28)))).1 2 x.2.toNatClampNeg 3) + (((zwi m28 2 x.2.toNatClampNeg 4 (((m28.1 2 x.2.toNatClampNeg 4) + (8 * r28)))).1 4 x.2.toNatClampNeg x.1.toNatClampNeg) - r28)))) ((x.1, (x.2 + 1)))))))
set_option maxHeartbeats 4000000 in
set_option maxRecDepth 100000 in
theorem c_X10_graze_2 (F : Nat) {E : zEn} {h : Nat} {Z : zLay} (C : zCx E cX10_graze RX10 5 none Z h) (hh : 2 ≤ h) : ∀ (n : Nat) (σ : zMem) (x : Int32 × Int32), zKO E 5 Z (zMQ E Z (zQV Z)) 2 [(0, .ref (zad Z 0 0)), (1, .int x.1), (2, .int x.2)] [] σ (zit (f_X10_graze_2 F) n σ x) := by
  refine zr_loop (LL := fun (x : Int32 × Int32) => [(0, .ref (zad Z 0 0)), (1, .int x.1), (2, .int x.2)]) (ST := fun (x : Int32 × Int32) => []) (fun rec2 hrec2 σ x => ?_)
  obtain ⟨l1, l2⟩ := x
  show zKO E 5 Z (zMQ E Z (zQV Z)) 2 [(0, .ref (zad Z 0 0)), (1, .int l1), (2, .int l2)] [] σ (if (σ.1 0 0 1) ≤ l2 then (some ((), σ)) else (zg (inb l2 10) (zg (inb l1 4) (zb (f_X0_feedCows F σ l1 ((σ.1 4 l2.toNatClampNeg l1.toNatClampNeg))) fun r28 m28 => zg (inb l1 4) (rec2 (zwi (zwi m28 2 l2.toNatClampNeg 4 (((m28.1 2 l2.toNatClampNeg 4) + (8 * r28)))) 2 l2.toNatClampNeg 3 ((((zwi m28 2 l2.toNatClampNeg 4 (((m28.1 2 l2.toNatClampNeg 4) + (8 * r28)))).1 2 l2.toNatClampNeg 3) + (((zwi m28 2 l2.toNatClampNeg 4 (((m28.1 2 l2.toNatClampNeg 4) + (8 * r28)))).1 4 l2.toNatClampNeg l1.toNatClampNeg) - r28)))) ((l1, (l2 + 1))))))))
  refine zr_iload_n C dX10_graze_2 rfl ?_
  refine zr_aload_n C dX10_graze_3 rfl ?_
  refine zf_X10_85 C (Nat.le_of_ble_eq_true rfl) dX10_graze_4 ?_
  refine zr_icmp_ge (tgt := 71) C dX10_graze_7 (by decide) ?_ ?_
  · exact zr_vret C dX10_graze_71
  · refine zr_aload_n C dX10_graze_10 rfl ?_
    refine zf_X10_11 C (Nat.le_of_ble_eq_true rfl) dX10_graze_11 ?_
    refine zr_iload_n C dX10_graze_14 rfl ?_
    refine zr_aald (n := 10) (k1 := 2) C dX10_graze_15 (Nat.le_of_ble_eq_true rfl) rfl rfl rfl (fun hb15 => ?_)
    refine zr_astore_n (i := 3) (L1 := [(3, .ref _), (0, .ref _), (1, .int _), (2, .int _)]) C dX10_graze_16 rfl (by decide) rfl ?_
    refine zr_aload_n C dX10_graze_17 rfl ?_
    refine zf_X10_39 C (Nat.le_of_ble_eq_true rfl) dX10_graze_18 ?_
    refine zr_iload_n C dX10_graze_21 rfl ?_
    refine zr_aload_n C dX10_graze_22 rfl ?_
    refine zf_X10_274 C hb15 dX10_graze_23 ?_
    refine zr_iload_n C dX10_graze_26 rfl ?_
    refine zr_iald (n := 4) C dX10_graze_27 hb15 rfl ?_
    refine zk_X10_318 C F (Nat.le_of_ble_eq_true rfl) (Nat.le_trans (by decide) hh) (by simp [Value.category]) dX10_graze_28 (fun r28 m28 => ?_)
    refine zr_istore (i := 4) (L1 := [(4, .int _), (3, .ref _), (0, .ref _), (1, .int _), (2, .int _)]) C dX10_graze_31 (by decide) rfl ?_
    refine zr_aload_n C dX10_graze_33 rfl ?_
    refine zr_dup C dX10_graze_34 rfl ?_
    refine zf_X10_108 C hb15 dX10_graze_35 ?_
    refine zr_bipush (v := 8) C dX10_graze_38 rfl ?_
    refine zr_iload C dX10_graze_40 rfl ?_
    refine zr_imul C dX10_graze_42 ?_
    refine zr_iadd C dX10_graze_43 ?_
    refine zp_X10_108 C hb15 dX10_graze_44 ?_
    refine zr_aload_n C dX10_graze_47 rfl ?_
    refine zr_dup C dX10_graze_48 rfl ?_
    refine zf_X10_105 C hb15 dX10_graze_49 ?_
    refine zr_aload_n C dX10_graze_52 rfl ?_
    refine zf_X10_274 C hb15 dX10_graze_53 ?_
    refine zr_iload_n C dX10_graze_56 rfl ?_
    refine zr_iald (n := 4) C dX10_graze_57 hb15 rfl ?_
    refine zr_iload C dX10_graze_58 rfl ?_
    refine zr_isub C dX10_graze_60 ?_
    refine zr_iadd C dX10_graze_61 ?_
    refine zp_X10_105 C hb15 dX10_graze_62 ?_
    refine zr_iinc (kk := 4) (v := (l2 + 1)) (L1 := [(2, .int _), (4, .int _), (3, .ref _), (0, .ref _), (1, .int _)]) C dX10_graze_65 rfl rfl (by decide) rfl ?_
    refine zr_goto (tgt := 2) C dX10_graze_68 (by decide) ?_
    exact zr_sub [3, 4, 0] rfl (hrec2 (zwi (zwi m28 2 l2.toNatClampNeg 4 (((m28.1 2 l2.toNatClampNeg 4) + (8 * r28)))) 2 l2.toNatClampNeg 3 ((((zwi m28 2 l2.toNatClampNeg 4 (((m28.1 2 l2.toNatClampNeg 4) + (8 * r28)))).1 2 l2.toNatClampNeg 3) + (((zwi m28 2 l2.toNatClampNeg 4 (((m28.1 2 l2.toNatClampNeg 4) + (8 * r28)))).1 4 l2.toNatClampNeg l1.toNatClampNeg) - r28)))) ((l1, (l2 + 1))))
def f_X10_graze (F : Nat) (σ : zMem) (a1 : Int32) : Option (Unit × zMem) := zit (f_X10_graze_2 F) F σ ((a1, 0))
set_option maxHeartbeats 4000000 in
set_option maxRecDepth 100000 in
theorem c_X10_graze (l : Launch) (Z : zLay) (F : Nat) (σ : zMem) (a1 : Int32) (r : Unit) (σ1 : zMem) (ho : f_X10_graze F σ a1 = some (r, σ1)) : zMet l yX10_graze cX10_graze 5 none 2 Z [.ref (zad Z 0 0), .int (a1)] σ (zQV Z r σ1) := by
  refine zMet_of (Qc := zQV Z) (by decide) (Nat.le_of_ble_eq_true rfl) [(0, .ref (zad Z 0 0)), (1, .int (a1))] rfl (fun E C => ?_) ho
  have hh : 2 ≤ 2 := Nat.le_refl _
  show zKO E 5 Z (zMQ E Z (zQV Z)) 0 [(0, .ref (zad Z 0 0)), (1, .int (a1))] [] σ _
  unfold f_X10_graze
  refine zr_iconst (v := 0) C dX10_graze_0 rfl ?_
  refine zr_istore_n (i := 2) (L1 := [(2, .int _), (0, .ref _), (1, .int _)]) C dX10_graze_1 rfl (by decide) rfl ?_
  exact zr_sub [1, 2, 0] rfl (c_X10_graze_2 F C hh F σ ((a1, 0)))
theorem zk_X10_297 (C : zCx E cc RX10 nL ret Z h) (F : Nat) {b0 : Int32} (hk : 0 < zN 0) (hh : 2 + 1 ≤ h) (hst8 : (st.map fun v => v.category).sum ≤ 8) (hd : decode cc pc = .ok (.invokevirtual 297, 3)) {g : Unit → zMem → Option (α × zMem)} (kk : ∀ (r : Unit) (σ1 : zMem), zKO E nL Z QQ (pc + 3) L (st) σ1 (g r σ1)) : zKO E nL Z QQ pc L (.int b0 :: .ref (zad Z 0 0) :: st) σ (zb (f_X10_graze F σ b0) g) :=
  zr_callVU (As := [.int b0]) (ia := 1) C (fun r σ1 ho => c_X10_graze (zla E) Z F σ b0 r σ1 ho) wz_798 hk rfl rfl wz_p40 wz_800 wz_801 wz_1 (by decide +kernel) rfl (by decide) hh hd hst8 kk
def f_X10_liveDay_134 (F : Nat) (rec98 : zMem → Int32 × Int32 × Int32 × Int32 → Option (Unit × zMem)) (σ : zMem) (l1 : Int32) (l2 : Int32) (l3 : Int32) (l4 : Int32) (l5 : Nat) : Option (Unit × zMem) := zg (decide (l5 < 10)) (zb (f_X2_allUp F σ l5) fun r136 m136 => if r136 ≤ 0 then (rec98 m136 ((l1, l2, l3, (l4 + 1)))) else (zb (f_X10_inSeason F m136 l5) fun r149 m149 => if r149 = 0 then (zb (f_X10_worthNow F m149 l5 5) fun r164 m164 => zb (f_X2_oweMore F m164 l5 (((r136.toInt64) * (r164.toInt64)))) fun r169 m169 => rec98 m169 ((l1, l2, l3, (l4 + 1)))) else (rec98 m149 ((l1, l2, l3, (l4 + 1))))))
set_option maxHeartbeats 4000000 in
set_option maxRecDepth 100000 in
theorem c_X10_liveDay_134 (F : Nat) (rec98 : zMem → Int32 × Int32 × Int32 × Int32 → Option (Unit × zMem)) {E : zEn} {h : Nat} {Z : zLay} (C : zCx E cX10_liveDay RX10 7 none Z h) (hh : 6 ≤ h) (hrec98 : ∀ (σ : zMem) (x : Int32 × Int32 × Int32 × Int32), zKO E 7 Z (zMQ E Z (zQV Z)) 98 [(0, .ref (zad Z 0 0)), (1, .int x.1), (2, .int x.2.1), (3, .int x.2.2.1), (4, .int x.2.2.2)] [] σ (rec98 σ x)) (σ : zMem) (l1 : Int32) (l2 : Int32) (l3 : Int32) (l4 : Int32) (l5 : Nat) : zKO E 7 Z (zMQ E Z (zQV Z)) 134 [(0, .ref (zad Z 0 0)), (1, .int l1), (2, .int l2), (3, .int l3), (4, .int l4), (5, .ref (zad Z 2 l5))] [] σ (f_X10_liveDay_134 F rec98 σ l1 l2 l3 l4 l5) := by
  unfold f_X10_liveDay_134
  refine zr_g (fun hl5 => ?_)
  refine zr_aload C dX10_liveDay_134 rfl ?_
  refine zk_X10_95 C F (of_decide_eq_true hl5) (Nat.le_trans (by decide) hh) (by simp [Value.category]) dX10_liveDay_136 (fun r136 m136 => ?_)
  refine zr_istore (i := 6) (L1 := [(6, .int _), (0, .ref _), (1, .int _), (2, .int _), (3, .int _), (4, .int _), (5, .ref _)]) C dX10_liveDay_139 (by decide) rfl ?_
  refine zr_iload C dX10_liveDay_141 rfl ?_
  refine zr_if_le (tgt := 173) C dX10_liveDay_143 (by decide) ?_ ?_
  · refine zr_iinc (kk := 5) (v := (l4 + 1)) (L1 := [(4, .int _), (6, .int _), (0, .ref _), (1, .int _), (2, .int _), (3, .int _), (5, .ref _)]) C dX10_liveDay_173 rfl rfl (by decide) rfl ?_
    refine zr_goto (tgt := 98) C dX10_liveDay_176 (by decide) ?_
    exact zr_sub [2, 3, 4, 5, 0] rfl (hrec98 m136 ((l1, l2, l3, (l4 + 1))))
  · refine zr_aload_n C dX10_liveDay_146 rfl ?_
    refine zr_aload C dX10_liveDay_147 rfl ?_
    refine zk_X10_283 C F (Nat.le_of_ble_eq_true rfl) (Nat.le_trans (by decide) hh) (by simp [Value.category]) dX10_liveDay_149 (fun r149 m149 => ?_)
    refine zr_if_ne (tgt := 173) C dX10_liveDay_152 (by decide) ?_ ?_
    · refine zr_iinc (kk := 5) (v := (l4 + 1)) (L1 := [(4, .int _), (6, .int _), (0, .ref _), (1, .int _), (2, .int _), (3, .int _), (5, .ref _)]) C dX10_liveDay_173 rfl rfl (by decide) rfl ?_
      refine zr_goto (tgt := 98) C dX10_liveDay_176 (by decide) ?_
      exact zr_sub [2, 3, 4, 5, 0] rfl (hrec98 m149 ((l1, l2, l3, (l4 + 1))))
    · refine zr_aload C dX10_liveDay_155 rfl ?_
      refine zr_iload C dX10_liveDay_157 rfl ?_
      refine zr_i2l C dX10_liveDay_159 ?_
      refine zr_aload_n C dX10_liveDay_160 rfl ?_
      refine zr_aload C dX10_liveDay_161 rfl ?_
      refine zr_iconst (v := 5) C dX10_liveDay_163 rfl ?_
      refine zk_X10_287 C F (Nat.le_of_ble_eq_true rfl) (Nat.le_trans (by decide) hh) (by simp [Value.category]) dX10_liveDay_164 (fun r164 m164 => ?_)
      refine zr_i2l C dX10_liveDay_167 ?_
      refine zr_lmul C dX10_liveDay_168 ?_
      refine zk_X10_304 C F (of_decide_eq_true hl5) (Nat.le_trans (by decide) hh) (by simp [Value.category]) dX10_liveDay_169 (fun r169 m169 => ?_)
      refine zr_pop C dX10_liveDay_172 rfl ?_
      refine zr_iinc (kk := 5) (v := (l4 + 1)) (L1 := [(4, .int _), (6, .int _), (0, .ref _), (1, .int _), (2, .int _), (3, .int _), (5, .ref _)]) C dX10_liveDay_173 rfl rfl (by decide) rfl ?_
      refine zr_goto (tgt := 98) C dX10_liveDay_176 (by decide) ?_
      exact zr_sub [2, 3, 4, 5, 0] rfl (hrec98 m169 ((l1, l2, l3, (l4 + 1))))
def f_X10_liveDay_129 (F : Nat) (rec98 : zMem → Int32 × Int32 × Int32 × Int32 → Option (Unit × zMem)) (σ : zMem) (l1 : Int32) (l2 : Int32) (l3 : Int32) (l4 : Int32) (l5 : Nat) : Option (Unit × zMem) := zg (decide (l5 < 10)) (zb (f_X2_winterAtHome F σ l5) fun r131 m131 => f_X10_liveDay_134 F rec98 m131 l1 l2 l3 l4 l5)
set_option maxHeartbeats 4000000 in
set_option maxRecDepth 100000 in
theorem c_X10_liveDay_129 (F : Nat) (rec98 : zMem → Int32 × Int32 × Int32 × Int32 → Option (Unit × zMem)) {E : zEn} {h : Nat} {Z : zLay} (C : zCx E cX10_liveDay RX10 7 none Z h) (hh : 6 ≤ h) (hrec98 : ∀ (σ : zMem) (x : Int32 × Int32 × Int32 × Int32), zKO E 7 Z (zMQ E Z (zQV Z)) 98 [(0, .ref (zad Z 0 0)), (1, .int x.1), (2, .int x.2.1), (3, .int x.2.2.1), (4, .int x.2.2.2)] [] σ (rec98 σ x)) (σ : zMem) (l1 : Int32) (l2 : Int32) (l3 : Int32) (l4 : Int32) (l5 : Nat) : zKO E 7 Z (zMQ E Z (zQV Z)) 129 [(0, .ref (zad Z 0 0)), (1, .int l1), (2, .int l2), (3, .int l3), (4, .int l4), (5, .ref (zad Z 2 l5))] [] σ (f_X10_liveDay_129 F rec98 σ l1 l2 l3 l4 l5) := by
  unfold f_X10_liveDay_129
  refine zr_g (fun hl5 => ?_)
  refine zr_aload C dX10_liveDay_129 rfl ?_
  refine zk_X10_301 C F (of_decide_eq_true hl5) (Nat.le_trans (by decide) hh) (by simp [Value.category]) dX10_liveDay_131 (fun r131 m131 => ?_)
  exact zr_sub [0, 1, 2, 3, 4, 5] rfl (c_X10_liveDay_134 F rec98 C hh hrec98 m131 l1 l2 l3 l4 l5)
def f_X10_liveDay_199 (F : Nat) (σ : zMem) : Option (Unit × zMem) := zg (zbo 1) (some ((), (zwi (zwi σ 0 0 12 1) 0 0 11 ((((zwi σ 0 0 12 1).1 0 0 11) + 1)))))
set_option maxHeartbeats 4000000 in
set_option maxRecDepth 100000 in
theorem c_X10_liveDay_199 (F : Nat) {E : zEn} {h : Nat} {Z : zLay} (C : zCx E cX10_liveDay RX10 7 none Z h) (hh : 6 ≤ h) (σ : zMem) : zKO E 7 Z (zMQ E Z (zQV Z)) 199 [(0, .ref (zad Z 0 0))] [] σ (f_X10_liveDay_199 F σ) := by
  unfold f_X10_liveDay_199
  refine zr_aload_n C dX10_liveDay_199 rfl ?_
  refine zr_iconst (v := 1) C dX10_liveDay_200 rfl ?_
  refine zp_X10_315 C (Nat.le_of_ble_eq_true rfl) dX10_liveDay_201 ?_
  refine zr_aload_n C dX10_liveDay_204 rfl ?_
  refine zr_dup C dX10_liveDay_205 rfl ?_
  refine zf_X10_142 C (Nat.le_of_ble_eq_true rfl) dX10_liveDay_206 ?_
  refine zr_iconst (v := 1) C dX10_liveDay_209 rfl ?_
  refine zr_iadd C dX10_liveDay_210 ?_
  refine zp_X10_142 C (Nat.le_of_ble_eq_true rfl) dX10_liveDay_211 ?_
  exact zr_vret C dX10_liveDay_214
def f_X10_liveDay_98 (F : Nat) (rec98 : zMem → Int32 × Int32 × Int32 × Int32 → Option (Unit × zMem)) (σ : zMem) (x : Int32 × Int32 × Int32 × Int32) : Option (Unit × zMem) := if (σ.1 0 0 1) ≤ x.2.2.2 then (zb (f_X7_live F σ x.1 x.2.1) fun r185 m185 => if x.2.2.1 = 0 then (zb (f_X7_ageWoods F m185) fun r196 m196 => f_X10_liveDay_199 F m196) else (f_X10_liveDay_199 F m185)) else (zg (inb x.2.2.2 10) (if x.2.2.1 < 120 then (f_X10_liveDay_129 F rec98 σ x.1 x.2.1 x.2.2.1 x.2.2.2 x.2.2.2.toNatClampNeg) else (if x.2.2.1 < 300 then (f_X10_liveDay_134 F rec98 σ x.1 x.2.1 x.2.2.1 x.2.2.2 x.2.2.2.toNatClampNeg) else (f_X10_liveDay_129 F rec98 σ x.1 x.2.1 x.2.2.1 x.2.2.2 x.2.2.2.toNatClampNeg))))
set_option maxHeartbeats 4000000 in
set_option maxRecDepth 100000 in
theorem c_X10_liveDay_98 (F : Nat) {E : zEn} {h : Nat} {Z : zLay} (C : zCx E cX10_liveDay RX10 7 none Z h) (hh : 6 ≤ h) : ∀ (n : Nat) (σ : zMem) (x : Int32 × Int32 × Int32 × Int32), zKO E 7 Z (zMQ E Z (zQV Z)) 98 [(0, .ref (zad Z 0 0)), (1, .int x.1), (2, .int x.2.1), (3, .int x.2.2.1), (4, .int x.2.2.2)] [] σ (zit (f_X10_liveDay_98 F) n σ x) := by
  refine zr_loop (LL := fun (x : Int32 × Int32 × Int32 × Int32) => [(0, .ref (zad Z 0 0)), (1, .int x.1), (2, .int x.2.1), (3, .int x.2.2.1), (4, .int x.2.2.2)]) (ST := fun (x : Int32 × Int32 × Int32 × Int32) => []) (fun rec98 hrec98 σ x => ?_)
  obtain ⟨l1, l2, l3, l4⟩ := x
  show zKO E 7 Z (zMQ E Z (zQV Z)) 98 [(0, .ref (zad Z 0 0)), (1, .int l1), (2, .int l2), (3, .int l3), (4, .int l4)] [] σ (if (σ.1 0 0 1) ≤ l4 then (zb (f_X7_live F σ l1 l2) fun r185 m185 => if l3 = 0 then (zb (f_X7_ageWoods F m185) fun r196 m196 => f_X10_liveDay_199 F m196) else (f_X10_liveDay_199 F m185)) else (zg (inb l4 10) (if l3 < 120 then (f_X10_liveDay_129 F rec98 σ l1 l2 l3 l4 l4.toNatClampNeg) else (if l3 < 300 then (f_X10_liveDay_134 F rec98 σ l1 l2 l3 l4 l4.toNatClampNeg) else (f_X10_liveDay_129 F rec98 σ l1 l2 l3 l4 l4.toNatClampNeg)))))
  refine zr_iload C dX10_liveDay_98 rfl ?_
  refine zr_aload_n C dX10_liveDay_100 rfl ?_
  refine zf_X10_85 C (Nat.le_of_ble_eq_true rfl) dX10_liveDay_101 ?_
  refine zr_icmp_ge (tgt := 179) C dX10_liveDay_104 (by decide) ?_ ?_
  · refine zr_aload_n C dX10_liveDay_179 rfl ?_
    refine zf_X10_46 C (Nat.le_of_ble_eq_true rfl) dX10_liveDay_180 ?_
    refine zr_iload_n C dX10_liveDay_183 rfl ?_
    refine zr_iload_n C dX10_liveDay_184 rfl ?_
    refine zk_X10_308 C F (Nat.le_of_ble_eq_true rfl) (Nat.le_trans (by decide) hh) (by simp [Value.category]) dX10_liveDay_185 (fun r185 m185 => ?_)
    refine zr_iload_n C dX10_liveDay_188 rfl ?_
    refine zr_if_ne (tgt := 199) C dX10_liveDay_189 (by decide) ?_ ?_
    · exact zr_sub [0] rfl (c_X10_liveDay_199 F C hh m185)
    · refine zr_aload_n C dX10_liveDay_192 rfl ?_
      refine zf_X10_46 C (Nat.le_of_ble_eq_true rfl) dX10_liveDay_193 ?_
      refine zk_X10_312 C F (Nat.le_of_ble_eq_true rfl) (Nat.le_trans (by decide) hh) (by simp [Value.category]) dX10_liveDay_196 (fun r196 m196 => ?_)
      exact zr_sub [0] rfl (c_X10_liveDay_199 F C hh m196)
  · refine zr_aload_n C dX10_liveDay_107 rfl ?_
    refine zf_X10_11 C (Nat.le_of_ble_eq_true rfl) dX10_liveDay_108 ?_
    refine zr_iload C dX10_liveDay_111 rfl ?_
    refine zr_aald (n := 10) (k1 := 2) C dX10_liveDay_113 (Nat.le_of_ble_eq_true rfl) rfl rfl rfl (fun hb113 => ?_)
    refine zr_astore (i := 5) (L1 := [(5, .ref _), (0, .ref _), (1, .int _), (2, .int _), (3, .int _), (4, .int _)]) C dX10_liveDay_114 (by decide) rfl ?_
    refine zr_iload_n C dX10_liveDay_116 rfl ?_
    refine zr_bipush (v := 120) C dX10_liveDay_117 rfl ?_
    refine zr_icmp_lt (tgt := 129) C dX10_liveDay_119 (by decide) ?_ ?_
    · exact zr_sub [1, 2, 3, 4, 5, 0] rfl (c_X10_liveDay_129 F rec98 C hh hrec98 σ l1 l2 l3 l4 l4.toNatClampNeg)
    · refine zr_iload_n C dX10_liveDay_122 rfl ?_
      refine zr_sipush (v := 300) C dX10_liveDay_123 rfl ?_
      refine zr_icmp_lt (tgt := 134) C dX10_liveDay_126 (by decide) ?_ ?_
      · exact zr_sub [1, 2, 3, 4, 5, 0] rfl (c_X10_liveDay_134 F rec98 C hh hrec98 σ l1 l2 l3 l4 l4.toNatClampNeg)
      · exact zr_sub [1, 2, 3, 4, 5, 0] rfl (c_X10_liveDay_129 F rec98 C hh hrec98 σ l1 l2 l3 l4 l4.toNatClampNeg)
def f_X10_liveDay_54 (F : Nat) (rec54 : zMem → Int32 × Int32 × Int32 → Option (Unit × zMem)) (σ : zMem) (x : Int32 × Int32 × Int32) : Option (Unit × zMem) := if (σ.1 25 0 4) ≤ x.2.2 then (zg (zni 360) (zit (f_X10_liveDay_98 F) F σ ((x.1, x.2.1, (zrem ((σ.1 0 0 11)) 360), 0)))) else (zb (f_X0_grow F σ x.2.2 x.1 x.2.1) fun r72 m72 => zb (f_X10_graze F m72 x.2.2) fun r77 m77 => rec54 m77 ((x.1, x.2.1, (x.2.2 + 1))))
set_option maxHeartbeats 4000000 in
set_option maxRecDepth 100000 in
theorem c_X10_liveDay_54 (F : Nat) {E : zEn} {h : Nat} {Z : zLay} (C : zCx E cX10_liveDay RX10 7 none Z h) (hh : 6 ≤ h) : ∀ (n : Nat) (σ : zMem) (x : Int32 × Int32 × Int32), zKO E 7 Z (zMQ E Z (zQV Z)) 54 [(0, .ref (zad Z 0 0)), (1, .int x.1), (2, .int x.2.1), (3, .int x.2.2)] [] σ (zit (f_X10_liveDay_54 F) n σ x) := by
  refine zr_loop (LL := fun (x : Int32 × Int32 × Int32) => [(0, .ref (zad Z 0 0)), (1, .int x.1), (2, .int x.2.1), (3, .int x.2.2)]) (ST := fun (x : Int32 × Int32 × Int32) => []) (fun rec54 hrec54 σ x => ?_)
  obtain ⟨l1, l2, l3⟩ := x
  show zKO E 7 Z (zMQ E Z (zQV Z)) 54 [(0, .ref (zad Z 0 0)), (1, .int l1), (2, .int l2), (3, .int l3)] [] σ (if (σ.1 25 0 4) ≤ l3 then (zg (zni 360) (zit (f_X10_liveDay_98 F) F σ ((l1, l2, (zrem ((σ.1 0 0 11)) 360), 0)))) else (zb (f_X0_grow F σ l3 l1 l2) fun r72 m72 => zb (f_X10_graze F m72 l3) fun r77 m77 => rec54 m77 ((l1, l2, (l3 + 1)))))
  refine zr_iload_n C dX10_liveDay_54 rfl ?_
  refine zr_aload_n C dX10_liveDay_55 rfl ?_
  refine zf_X10_39 C (Nat.le_of_ble_eq_true rfl) dX10_liveDay_56 ?_
  refine zf_X10_255 C (Nat.le_of_ble_eq_true rfl) dX10_liveDay_59 ?_
  refine zr_icmp_ge (tgt := 86) C dX10_liveDay_62 (by decide) ?_ ?_
  · refine zr_aload_n C dX10_liveDay_86 rfl ?_
    refine zf_X10_142 C (Nat.le_of_ble_eq_true rfl) dX10_liveDay_87 ?_
    refine zr_sipush (v := 360) C dX10_liveDay_90 rfl ?_
    refine zr_irem C dX10_liveDay_93 ?_
    refine zr_istore_n (i := 3) (L1 := [(3, .int _), (0, .ref _), (1, .int _), (2, .int _)]) C dX10_liveDay_94 rfl (by decide) rfl ?_
    refine zr_iconst (v := 0) C dX10_liveDay_95 rfl ?_
    refine zr_istore (i := 4) (L1 := [(4, .int _), (3, .int _), (0, .ref _), (1, .int _), (2, .int _)]) C dX10_liveDay_96 (by decide) rfl ?_
    exact zr_sub [2, 3, 4, 1, 0] rfl (c_X10_liveDay_98 F C hh F σ ((l1, l2, (zrem ((σ.1 0 0 11)) 360), 0)))
  · refine zr_aload_n C dX10_liveDay_65 rfl ?_
    refine zf_X10_39 C (Nat.le_of_ble_eq_true rfl) dX10_liveDay_66 ?_
    refine zr_iload_n C dX10_liveDay_69 rfl ?_
    refine zr_iload_n C dX10_liveDay_70 rfl ?_
    refine zr_iload_n C dX10_liveDay_71 rfl ?_
    refine zk_X10_294 C F (Nat.le_of_ble_eq_true rfl) (Nat.le_trans (by decide) hh) (by simp [Value.category]) dX10_liveDay_72 (fun r72 m72 => ?_)
    refine zr_aload_n C dX10_liveDay_75 rfl ?_
    refine zr_iload_n C dX10_liveDay_76 rfl ?_
    refine zk_X10_297 C F (Nat.le_of_ble_eq_true rfl) (Nat.le_trans (by decide) hh) (by simp [Value.category]) dX10_liveDay_77 (fun r77 m77 => ?_)
    refine zr_iinc (kk := 3) (v := (l3 + 1)) (L1 := [(3, .int _), (0, .ref _), (1, .int _), (2, .int _)]) C dX10_liveDay_80 rfl rfl (by decide) rfl ?_
    refine zr_goto (tgt := 54) C dX10_liveDay_83 (by decide) ?_
    exact zr_sub [1, 2, 3, 0] rfl (hrec54 m77 ((l1, l2, (l3 + 1))))
def f_X10_liveDay_28 (F : Nat) (rec28 : zMem → Int32 × Int32 × Int32 → Option (Unit × zMem)) (σ : zMem) (x : Int32 × Int32 × Int32) : Option (Unit × zMem) := if (σ.1 0 0 1) ≤ x.2.2 then (zit (f_X10_liveDay_54 F) F σ ((x.1, x.2.1, 0))) else (zg (inb x.2.2 10) (rec28 (zwi σ 2 x.2.2.toNatClampNeg 4 0) ((x.1, x.2.1, (x.2.2 + 1)))))
set_option maxHeartbeats 4000000 in
set_option maxRecDepth 100000 in
theorem c_X10_liveDay_28 (F : Nat) {E : zEn} {h : Nat} {Z : zLay} (C : zCx E cX10_liveDay RX10 7 none Z h) (hh : 6 ≤ h) : ∀ (n : Nat) (σ : zMem) (x : Int32 × Int32 × Int32), zKO E 7 Z (zMQ E Z (zQV Z)) 28 [(0, .ref (zad Z 0 0)), (1, .int x.1), (2, .int x.2.1), (3, .int x.2.2)] [] σ (zit (f_X10_liveDay_28 F) n σ x) := by
  refine zr_loop (LL := fun (x : Int32 × Int32 × Int32) => [(0, .ref (zad Z 0 0)), (1, .int x.1), (2, .int x.2.1), (3, .int x.2.2)]) (ST := fun (x : Int32 × Int32 × Int32) => []) (fun rec28 hrec28 σ x => ?_)
  obtain ⟨l1, l2, l3⟩ := x
  show zKO E 7 Z (zMQ E Z (zQV Z)) 28 [(0, .ref (zad Z 0 0)), (1, .int l1), (2, .int l2), (3, .int l3)] [] σ (if (σ.1 0 0 1) ≤ l3 then (zit (f_X10_liveDay_54 F) F σ ((l1, l2, 0))) else (zg (inb l3 10) (rec28 (zwi σ 2 l3.toNatClampNeg 4 0) ((l1, l2, (l3 + 1))))))
  refine zr_iload_n C dX10_liveDay_28 rfl ?_
  refine zr_aload_n C dX10_liveDay_29 rfl ?_
  refine zf_X10_85 C (Nat.le_of_ble_eq_true rfl) dX10_liveDay_30 ?_
  refine zr_icmp_ge (tgt := 52) C dX10_liveDay_33 (by decide) ?_ ?_
  · refine zr_iconst (v := 0) C dX10_liveDay_52 rfl ?_
    refine zr_istore_n (i := 3) (L1 := [(3, .int _), (0, .ref _), (1, .int _), (2, .int _)]) C dX10_liveDay_53 rfl (by decide) rfl ?_
    exact zr_sub [1, 2, 3, 0] rfl (c_X10_liveDay_54 F C hh F σ ((l1, l2, 0)))
  · refine zr_aload_n C dX10_liveDay_36 rfl ?_
    refine zf_X10_11 C (Nat.le_of_ble_eq_true rfl) dX10_liveDay_37 ?_
    refine zr_iload_n C dX10_liveDay_40 rfl ?_
    refine zr_aald (n := 10) (k1 := 2) C dX10_liveDay_41 (Nat.le_of_ble_eq_true rfl) rfl rfl rfl (fun hb41 => ?_)
    refine zr_iconst (v := 0) C dX10_liveDay_42 rfl ?_
    refine zp_X10_108 C hb41 dX10_liveDay_43 ?_
    refine zr_iinc (kk := 3) (v := (l3 + 1)) (L1 := [(3, .int _), (0, .ref _), (1, .int _), (2, .int _)]) C dX10_liveDay_46 rfl rfl (by decide) rfl ?_
    refine zr_goto (tgt := 28) C dX10_liveDay_49 (by decide) ?_
    exact zr_sub [1, 2, 3, 0] rfl (hrec28 (zwi σ 2 l3.toNatClampNeg 4 0) ((l1, l2, (l3 + 1))))
def f_X10_liveDay (F : Nat) (σ : zMem) : Option (Unit × zMem) := zb (f_X5_on F σ ((σ.1 0 0 11)) 0) fun r9 m9 => zb (f_X5_on F m9 ((m9.1 0 0 11)) 1) fun r22 m22 => zit (f_X10_liveDay_28 F) F m22 ((r9, r22, 0))
set_option maxHeartbeats 4000000 in
set_option maxRecDepth 100000 in
theorem c_X10_liveDay (l : Launch) (Z : zLay) (F : Nat) (σ : zMem) (r : Unit) (σ1 : zMem) (ho : f_X10_liveDay F σ = some (r, σ1)) : zMet l yX10_liveDay cX10_liveDay 7 none 6 Z [.ref (zad Z 0 0)] σ (zQV Z r σ1) := by
  refine zMet_of (Qc := zQV Z) (by decide) (Nat.le_of_ble_eq_true rfl) [(0, .ref (zad Z 0 0))] rfl (fun E C => ?_) ho
  have hh : 6 ≤ 6 := Nat.le_refl _
  show zKO E 7 Z (zMQ E Z (zQV Z)) 0 [(0, .ref (zad Z 0 0))] [] σ _
  unfold f_X10_liveDay
  refine zr_aload_n C dX10_liveDay_0 rfl ?_
  refine zf_X10_32 C (Nat.le_of_ble_eq_true rfl) dX10_liveDay_1 ?_
  refine zr_aload_n C dX10_liveDay_4 rfl ?_
  refine zf_X10_142 C (Nat.le_of_ble_eq_true rfl) dX10_liveDay_5 ?_
  refine zr_iconst (v := 0) C dX10_liveDay_8 rfl ?_
  refine zk_X10_252 C F (Nat.le_of_ble_eq_true rfl) (Nat.le_trans (by decide) hh) (by simp [Value.category]) dX10_liveDay_9 (fun r9 m9 => ?_)
  refine zr_istore_n (i := 1) (L1 := [(1, .int _), (0, .ref _)]) C dX10_liveDay_12 rfl (by decide) rfl ?_
  refine zr_aload_n C dX10_liveDay_13 rfl ?_
  refine zf_X10_32 C (Nat.le_of_ble_eq_true rfl) dX10_liveDay_14 ?_
  refine zr_aload_n C dX10_liveDay_17 rfl ?_
  refine zf_X10_142 C (Nat.le_of_ble_eq_true rfl) dX10_liveDay_18 ?_
  refine zr_iconst (v := 1) C dX10_liveDay_21 rfl ?_
  refine zk_X10_252 C F (Nat.le_of_ble_eq_true rfl) (Nat.le_trans (by decide) hh) (by simp [Value.category]) dX10_liveDay_22 (fun r22 m22 => ?_)
  refine zr_istore_n (i := 2) (L1 := [(2, .int _), (1, .int _), (0, .ref _)]) C dX10_liveDay_25 rfl (by decide) rfl ?_
  refine zr_iconst (v := 0) C dX10_liveDay_26 rfl ?_
  refine zr_istore_n (i := 3) (L1 := [(3, .int _), (2, .int _), (1, .int _), (0, .ref _)]) C dX10_liveDay_27 rfl (by decide) rfl ?_
  exact zr_sub [3, 2, 1, 0] rfl (c_X10_liveDay_28 F C hh F m22 ((r9, r22, 0)))
theorem zk_X10_291 (C : zCx E cc RX10 nL ret Z h) (F : Nat)  (hk : 0 < zN 0) (hh : 6 + 1 ≤ h) (hst8 : (st.map fun v => v.category).sum ≤ 8) (hd : decode cc pc = .ok (.invokevirtual 291, 3)) {g : Unit → zMem → Option (α × zMem)} (kk : ∀ (r : Unit) (σ1 : zMem), zKO E nL Z QQ (pc + 3) L (st) σ1 (g r σ1)) : zKO E nL Z QQ pc L (.ref (zad Z 0 0) :: st) σ (zb (f_X10_liveDay F σ) g) :=
  zr_callVU (As := []) (ia := 0) C (fun r σ1 ho => c_X10_liveDay (zla E) Z F σ r σ1 ho) wz_780 hk rfl rfl wz_p38 wz_782 wz_783 wz_1 (by decide +kernel) rfl (by decide) hh hd hst8 kk
def f_X10_days_28 (F : Nat) (rec28 : zMem → Int32 × Int32 → Option (Int32 × zMem)) (σ : zMem) (x : Int32 × Int32) : Option (Int32 × zMem) := if x.1 ≤ x.2 then (some ((σ.1 0 0 11), σ)) else (zb (f_X10_liveDay F σ) fun r34 m34 => rec28 m34 ((x.1, (x.2 + 1))))
set_option maxHeartbeats 4000000 in
set_option maxRecDepth 100000 in
theorem c_X10_days_28 (F : Nat) {E : zEn} {h : Nat} {Z : zLay} (C : zCx E cX10_days RX10 3 (some .int) Z h) (hh : 7 ≤ h) : ∀ (n : Nat) (σ : zMem) (x : Int32 × Int32), zKO E 3 Z (zMQ E Z (zQI Z)) 28 [(0, .ref (zad Z 0 0)), (1, .int x.1), (2, .int x.2)] [] σ (zit (f_X10_days_28 F) n σ x) := by
  refine zr_loop (LL := fun (x : Int32 × Int32) => [(0, .ref (zad Z 0 0)), (1, .int x.1), (2, .int x.2)]) (ST := fun (x : Int32 × Int32) => []) (fun rec28 hrec28 σ x => ?_)
  obtain ⟨l1, l2⟩ := x
  show zKO E 3 Z (zMQ E Z (zQI Z)) 28 [(0, .ref (zad Z 0 0)), (1, .int l1), (2, .int l2)] [] σ (if l1 ≤ l2 then (some ((σ.1 0 0 11), σ)) else (zb (f_X10_liveDay F σ) fun r34 m34 => rec28 m34 ((l1, (l2 + 1)))))
  refine zr_iload_n C dX10_days_28 rfl ?_
  refine zr_iload_n C dX10_days_29 rfl ?_
  refine zr_icmp_ge (tgt := 43) C dX10_days_30 (by decide) ?_ ?_
  · refine zr_aload_n C dX10_days_43 rfl ?_
    refine zf_X10_142 C (Nat.le_of_ble_eq_true rfl) dX10_days_44 ?_
    exact zr_iret C dX10_days_47
  · refine zr_aload_n C dX10_days_33 rfl ?_
    refine zk_X10_291 C F (Nat.le_of_ble_eq_true rfl) (Nat.le_trans (by decide) hh) (by simp [Value.category]) dX10_days_34 (fun r34 m34 => ?_)
    refine zr_iinc (kk := 2) (v := (l2 + 1)) (L1 := [(2, .int _), (0, .ref _), (1, .int _)]) C dX10_days_37 rfl rfl (by decide) rfl ?_
    refine zr_goto (tgt := 28) C dX10_days_40 (by decide) ?_
    exact zr_sub [1, 2, 0] rfl (hrec28 m34 ((l1, (l2 + 1))))
def f_X10_days (F : Nat) (σ : zMem) (a1 : Int32) : Option (Int32 × zMem) := if a1 < 1 then (some ((-2), σ)) else (if 120 < a1 then (some ((-2), σ)) else (if a1 ≤ (7199 - (σ.1 0 0 11)) then (zit (f_X10_days_28 F) F σ ((a1, 0))) else (some ((-2), σ))))
set_option maxHeartbeats 4000000 in
set_option maxRecDepth 100000 in
theorem c_X10_days (l : Launch) (Z : zLay) (F : Nat) (σ : zMem) (a1 : Int32) (r : Int32) (σ1 : zMem) (ho : f_X10_days F σ a1 = some (r, σ1)) : zMet l yX10_days cX10_days 3 (some .int) 7 Z [.ref (zad Z 0 0), .int (a1)] σ (zQI Z r σ1) := by
  refine zMet_of (Qc := zQI Z) (by decide) (Nat.le_of_ble_eq_true rfl) [(0, .ref (zad Z 0 0)), (1, .int (a1))] rfl (fun E C => ?_) ho
  have hh : 7 ≤ 7 := Nat.le_refl _
  show zKO E 3 Z (zMQ E Z (zQI Z)) 0 [(0, .ref (zad Z 0 0)), (1, .int (a1))] [] σ _
  unfold f_X10_days
  refine zr_iload_n C dX10_days_0 rfl ?_
  refine zr_iconst (v := 1) C dX10_days_1 rfl ?_
  refine zr_icmp_lt (tgt := 23) C dX10_days_2 (by decide) ?_ ?_
  · refine zr_bipush (v := -2) C dX10_days_23 rfl ?_
    exact zr_iret C dX10_days_25
  · refine zr_iload_n C dX10_days_5 rfl ?_
    refine zr_bipush (v := 120) C dX10_days_6 rfl ?_
    refine zr_icmp_gt (tgt := 23) C dX10_days_8 (by decide) ?_ ?_
    · refine zr_bipush (v := -2) C dX10_days_23 rfl ?_
      exact zr_iret C dX10_days_25
    · refine zr_iload_n C dX10_days_11 rfl ?_
      refine zr_sipush (v := 7199) C dX10_days_12 rfl ?_
      refine zr_aload_n C dX10_days_15 rfl ?_
      refine zf_X10_142 C (Nat.le_of_ble_eq_true rfl) dX10_days_16 ?_
      refine zr_isub C dX10_days_19 ?_
      refine zr_icmp_le (tgt := 26) C dX10_days_20 (by decide) ?_ ?_
      · refine zr_iconst (v := 0) C dX10_days_26 rfl ?_
        refine zr_istore_n (i := 2) (L1 := [(2, .int _), (0, .ref _), (1, .int _)]) C dX10_days_27 rfl (by decide) rfl ?_
        exact zr_sub [1, 2, 0] rfl (c_X10_days_28 F C hh F σ ((a1, 0)))
      · refine zr_bipush (v := -2) C dX10_days_23 rfl ?_
        exact zr_iret C dX10_days_25
def f_X10_slope (F : Nat) (σ : zMem) (a1 : Int32) : Option (Int32 × zMem) := if a1 < 0 then (some ((-2), σ)) else (if a1 ≤ 400 then (if (σ.1 38 0 1) < 6 then (zg (inb ((σ.1 38 0 1)) 6) (some (((zwi σ 40 (((σ.1 38 0 1)).toNatClampNeg) 0 a1).1 38 0 1), (zwi (zwi σ 40 (((σ.1 38 0 1)).toNatClampNeg) 0 a1) 38 0 1 ((((zwi σ 40 (((σ.1 38 0 1)).toNatClampNeg) 0 a1).1 38 0 1) + 1)))))) else (some ((-4), σ))) else (some ((-2), σ)))
set_option maxHeartbeats 4000000 in
set_option maxRecDepth 100000 in
theorem c_X10_slope (l : Launch) (Z : zLay) (F : Nat) (σ : zMem) (a1 : Int32) (r : Int32) (σ1 : zMem) (ho : f_X10_slope F σ a1 = some (r, σ1)) : zMet l yX10_slope cX10_slope 2 (some .int) 1 Z [.ref (zad Z 0 0), .int (a1)] σ (zQI Z r σ1) := by
  refine zMet_of (Qc := zQI Z) (by decide) (Nat.le_of_ble_eq_true rfl) [(0, .ref (zad Z 0 0)), (1, .int (a1))] rfl (fun E C => ?_) ho
  have hh : 1 ≤ 1 := Nat.le_refl _
  show zKO E 2 Z (zMQ E Z (zQI Z)) 0 [(0, .ref (zad Z 0 0)), (1, .int (a1))] [] σ _
  unfold f_X10_slope
  refine zr_iload_n C dX10_slope_0 rfl ?_
  refine zr_if_lt (tgt := 11) C dX10_slope_1 (by decide) ?_ ?_
  · refine zr_bipush (v := -2) C dX10_slope_11 rfl ?_
    exact zr_iret C dX10_slope_13
  · refine zr_iload_n C dX10_slope_4 rfl ?_
    refine zr_sipush (v := 400) C dX10_slope_5 rfl ?_
    refine zr_icmp_le (tgt := 14) C dX10_slope_8 (by decide) ?_ ?_
    · refine zr_aload_n C dX10_slope_14 rfl ?_
      refine zf_X10_46 C (Nat.le_of_ble_eq_true rfl) dX10_slope_15 ?_
      refine zf_X10_321 C (Nat.le_of_ble_eq_true rfl) dX10_slope_18 ?_
      refine zr_bipush (v := 6) C dX10_slope_21 rfl ?_
      refine zr_icmp_lt (tgt := 29) C dX10_slope_23 (by decide) ?_ ?_
      · refine zr_aload_n C dX10_slope_29 rfl ?_
        refine zf_X10_46 C (Nat.le_of_ble_eq_true rfl) dX10_slope_30 ?_
        refine zf_X10_322 C (Nat.le_of_ble_eq_true rfl) dX10_slope_33 ?_
        refine zr_aload_n C dX10_slope_36 rfl ?_
        refine zf_X10_46 C (Nat.le_of_ble_eq_true rfl) dX10_slope_37 ?_
        refine zf_X10_321 C (Nat.le_of_ble_eq_true rfl) dX10_slope_40 ?_
        refine zr_aald (n := 6) (k1 := 40) C dX10_slope_43 (Nat.le_of_ble_eq_true rfl) rfl rfl rfl (fun hb43 => ?_)
        refine zr_iload_n C dX10_slope_44 rfl ?_
        refine zp_X10_326 C hb43 dX10_slope_45 ?_
        refine zr_aload_n C dX10_slope_48 rfl ?_
        refine zf_X10_46 C (Nat.le_of_ble_eq_true rfl) dX10_slope_49 ?_
        refine zr_dup C dX10_slope_52 rfl ?_
        refine zf_X10_321 C (Nat.le_of_ble_eq_true rfl) dX10_slope_53 ?_
        refine zr_dup_x1 C dX10_slope_56 rfl rfl ?_
        refine zr_iconst (v := 1) C dX10_slope_57 rfl ?_
        refine zr_iadd C dX10_slope_58 ?_
        refine zp_X10_321 C (Nat.le_of_ble_eq_true rfl) dX10_slope_59 ?_
        exact zr_iret C dX10_slope_62
      · refine zr_bipush (v := -4) C dX10_slope_26 rfl ?_
        exact zr_iret C dX10_slope_28
    · refine zr_bipush (v := -2) C dX10_slope_11 rfl ?_
      exact zr_iret C dX10_slope_13
def f_X10_slopeOf (F : Nat) (σ : zMem) (a1 : Int32) (a2 : Int32) : Option (Int32 × zMem) := zb (f_X7_has F σ a1) fun r5 m5 => if r5 = 0 then (some ((-500), m5)) else (zg (inb a1 6) (if a2.toInt < 0 ∨ 6 < a2.toInt then (if a2 < 10 then (some ((-500), m5)) else (if (m5.1 40 a1.toNatClampNeg 1) ≤ (a2 - 10) then (some ((-500), m5)) else (zb (f_X6_layerOf F m5 a1.toNatClampNeg ((a2 - 10))) fun r142 m142 => some (r142, m142)))) else (if a2 = 0 then (some ((m5.1 40 a1.toNatClampNeg 0), m5)) else (if a2 = 1 then (if (m5.1 40 a1.toNatClampNeg 3) = 0 then (some (0, m5)) else (some (1, m5))) else (if a2 = 2 then (some ((m5.1 40 a1.toNatClampNeg 1), m5)) else (if a2 = 3 then (zb (f_X6_lyingFrom F m5 a1.toNatClampNeg 0) fun r93 m93 => some (r93, m93)) else (if a2 = 4 then (zb (f_X6_risk F m5 a1.toNatClampNeg ((m5.1 40 a1.toNatClampNeg 0))) fun r102 m102 => some (r102, m102)) else (if a2 = 5 then (zb (f_X6_bears F m5 a1.toNatClampNeg ((m5.1 40 a1.toNatClampNeg 0))) fun r111 m111 => some (r111, m111)) else (if a2 = 6 then (some ((m5.1 40 a1.toNatClampNeg 2), m5)) else none)))))))))
set_option maxHeartbeats 4000000 in
set_option maxRecDepth 100000 in
theorem c_X10_slopeOf (l : Launch) (Z : zLay) (F : Nat) (σ : zMem) (a1 : Int32) (a2 : Int32) (r : Int32) (σ1 : zMem) (ho : f_X10_slopeOf F σ a1 a2 = some (r, σ1)) : zMet l yX10_slopeOf cX10_slopeOf 4 (some .int) 3 Z [.ref (zad Z 0 0), .int (a1), .int (a2)] σ (zQI Z r σ1) := by
  refine zMet_of (Qc := zQI Z) (by decide) (Nat.le_of_ble_eq_true rfl) [(0, .ref (zad Z 0 0)), (1, .int (a1)), (2, .int (a2))] rfl (fun E C => ?_) ho
  have hh : 3 ≤ 3 := Nat.le_refl _
  show zKO E 4 Z (zMQ E Z (zQI Z)) 0 [(0, .ref (zad Z 0 0)), (1, .int (a1)), (2, .int (a2))] [] σ _
  unfold f_X10_slopeOf
  refine zr_aload_n C dX10_slopeOf_0 rfl ?_
  refine zf_X10_46 C (Nat.le_of_ble_eq_true rfl) dX10_slopeOf_1 ?_
  refine zr_iload_n C dX10_slopeOf_4 rfl ?_
  refine zk_X10_331 C F (Nat.le_of_ble_eq_true rfl) (Nat.le_trans (by decide) hh) (by simp [Value.category]) dX10_slopeOf_5 (fun r5 m5 => ?_)
  refine zr_if_ne (tgt := 15) C dX10_slopeOf_8 (by decide) ?_ ?_
  · refine zr_aload_n C dX10_slopeOf_15 rfl ?_
    refine zf_X10_46 C (Nat.le_of_ble_eq_true rfl) dX10_slopeOf_16 ?_
    refine zf_X10_322 C (Nat.le_of_ble_eq_true rfl) dX10_slopeOf_19 ?_
    refine zr_iload_n C dX10_slopeOf_22 rfl ?_
    refine zr_aald (n := 6) (k1 := 40) C dX10_slopeOf_23 (Nat.le_of_ble_eq_true rfl) rfl rfl rfl (fun hb23 => ?_)
    refine zr_astore_n (i := 3) (L1 := [(3, .ref _), (0, .ref _), (1, .int _), (2, .int _)]) C dX10_slopeOf_24 rfl (by decide) rfl ?_
    refine zr_iload_n C dX10_slopeOf_25 rfl ?_
    refine zr_if (fun hx => ?_) (fun _ => ?_)
    · refine zr_tabOut (tgt := 120) C dX10_slopeOf_26 hx (by decide) ?_
      refine zr_iload_n C dX10_slopeOf_120 rfl ?_
      refine zr_bipush (v := 10) C dX10_slopeOf_121 rfl ?_
      refine zr_icmp_lt (tgt := 148) C dX10_slopeOf_123 (by decide) ?_ ?_
      · refine zr_sipush (v := -500) C dX10_slopeOf_148 rfl ?_
        exact zr_iret C dX10_slopeOf_151
      · refine zr_iload_n C dX10_slopeOf_126 rfl ?_
        refine zr_bipush (v := 10) C dX10_slopeOf_127 rfl ?_
        refine zr_isub C dX10_slopeOf_129 ?_
        refine zr_aload_n C dX10_slopeOf_130 rfl ?_
        refine zf_X10_335 C hb23 dX10_slopeOf_131 ?_
        refine zr_icmp_ge (tgt := 148) C dX10_slopeOf_134 (by decide) ?_ ?_
        · refine zr_sipush (v := -500) C dX10_slopeOf_148 rfl ?_
          exact zr_iret C dX10_slopeOf_151
        · refine zr_aload_n C dX10_slopeOf_137 rfl ?_
          refine zr_iload_n C dX10_slopeOf_138 rfl ?_
          refine zr_bipush (v := 10) C dX10_slopeOf_139 rfl ?_
          refine zr_isub C dX10_slopeOf_141 ?_
          refine zk_X10_350 C F hb23 (Nat.le_trans (by decide) hh) (by simp [Value.category]) dX10_slopeOf_142 (fun r142 m142 => ?_)
          refine zr_goto (tgt := 151) C dX10_slopeOf_145 (by decide) ?_
          exact zr_iret C dX10_slopeOf_151
    · refine zr_if (fun hx => ?_) (fun _ => ?_)
      · refine zr_tabIn (tgt := 68) C dX10_slopeOf_26 (by rw [hx]; decide) (by rw [hx]; decide) (off := 42) (by rw [hx]; decide) (by decide) ?_
        refine zr_aload_n C dX10_slopeOf_68 rfl ?_
        refine zf_X10_326 C hb23 dX10_slopeOf_69 ?_
        exact zr_iret C dX10_slopeOf_72
      · refine zr_if (fun hx => ?_) (fun _ => ?_)
        · refine zr_tabIn (tgt := 73) C dX10_slopeOf_26 (by rw [hx]; decide) (by rw [hx]; decide) (off := 47) (by rw [hx]; decide) (by decide) ?_
          refine zr_aload_n C dX10_slopeOf_73 rfl ?_
          refine zf_X10_332 C hb23 dX10_slopeOf_74 ?_
          refine zr_if_eq (tgt := 84) C dX10_slopeOf_77 (by decide) ?_ ?_
          · refine zr_iconst (v := 0) C dX10_slopeOf_84 rfl ?_
            exact zr_iret C dX10_slopeOf_85
          · refine zr_iconst (v := 1) C dX10_slopeOf_80 rfl ?_
            refine zr_goto (tgt := 85) C dX10_slopeOf_81 (by decide) ?_
            exact zr_iret C dX10_slopeOf_85
        · refine zr_if (fun hx => ?_) (fun _ => ?_)
          · refine zr_tabIn (tgt := 86) C dX10_slopeOf_26 (by rw [hx]; decide) (by rw [hx]; decide) (off := 60) (by rw [hx]; decide) (by decide) ?_
            refine zr_aload_n C dX10_slopeOf_86 rfl ?_
            refine zf_X10_335 C hb23 dX10_slopeOf_87 ?_
            exact zr_iret C dX10_slopeOf_90
          · refine zr_if (fun hx => ?_) (fun _ => ?_)
            · refine zr_tabIn (tgt := 91) C dX10_slopeOf_26 (by rw [hx]; decide) (by rw [hx]; decide) (off := 65) (by rw [hx]; decide) (by decide) ?_
              refine zr_aload_n C dX10_slopeOf_91 rfl ?_
              refine zr_iconst (v := 0) C dX10_slopeOf_92 rfl ?_
              refine zk_X10_338 C F hb23 (Nat.le_trans (by decide) hh) (by simp [Value.category]) dX10_slopeOf_93 (fun r93 m93 => ?_)
              exact zr_iret C dX10_slopeOf_96
            · refine zr_if (fun hx => ?_) (fun _ => ?_)
              · refine zr_tabIn (tgt := 97) C dX10_slopeOf_26 (by rw [hx]; decide) (by rw [hx]; decide) (off := 71) (by rw [hx]; decide) (by decide) ?_
                refine zr_aload_n C dX10_slopeOf_97 rfl ?_
                refine zr_aload_n C dX10_slopeOf_98 rfl ?_
                refine zf_X10_326 C hb23 dX10_slopeOf_99 ?_
                refine zk_X10_341 C F hb23 (Nat.le_trans (by decide) hh) (by simp [Value.category]) dX10_slopeOf_102 (fun r102 m102 => ?_)
                exact zr_iret C dX10_slopeOf_105
              · refine zr_if (fun hx => ?_) (fun _ => ?_)
                · refine zr_tabIn (tgt := 106) C dX10_slopeOf_26 (by rw [hx]; decide) (by rw [hx]; decide) (off := 80) (by rw [hx]; decide) (by decide) ?_
                  refine zr_aload_n C dX10_slopeOf_106 rfl ?_
                  refine zr_aload_n C dX10_slopeOf_107 rfl ?_
                  refine zf_X10_326 C hb23 dX10_slopeOf_108 ?_
                  refine zk_X10_344 C F hb23 (Nat.le_trans (by decide) hh) (by simp [Value.category]) dX10_slopeOf_111 (fun r111 m111 => ?_)
                  exact zr_iret C dX10_slopeOf_114
                · refine zr_if (fun hx => ?_) (fun _ => ?_)
                  · refine zr_tabIn (tgt := 115) C dX10_slopeOf_26 (by rw [hx]; decide) (by rw [hx]; decide) (off := 89) (by rw [hx]; decide) (by decide) ?_
                    refine zr_aload_n C dX10_slopeOf_115 rfl ?_
                    refine zf_X10_347 C hb23 dX10_slopeOf_116 ?_
                    exact zr_iret C dX10_slopeOf_119
                  · exact zr_none
  · refine zr_sipush (v := -500) C dX10_slopeOf_11 rfl ?_
    exact zr_iret C dX10_slopeOf_14
def f_X10_works (F : Nat) (σ : zMem) (a1 : Int32) (a2 : Int32) : Option (Int32 × zMem) := zb (f_X7_has F σ a1) fun r5 m5 => if r5 = 0 then (some ((-1), m5)) else (zg (inb a1 6) (if (m5.1 40 a1.toNatClampNeg 3) = a2 then (some (0, m5)) else (zg (inb a1 6) (zg (zbo a2) (some (1, (zwi m5 40 a1.toNatClampNeg 3 a2)))))))
set_option maxHeartbeats 4000000 in
set_option maxRecDepth 100000 in
theorem c_X10_works (l : Launch) (Z : zLay) (F : Nat) (σ : zMem) (a1 : Int32) (a2 : Int32) (r : Int32) (σ1 : zMem) (ho : f_X10_works F σ a1 a2 = some (r, σ1)) : zMet l yX10_works cX10_works 3 (some .int) 2 Z [.ref (zad Z 0 0), .int (a1), .int (a2)] σ (zQI Z r σ1) := by
  refine zMet_of (Qc := zQI Z) (by decide) (Nat.le_of_ble_eq_true rfl) [(0, .ref (zad Z 0 0)), (1, .int (a1)), (2, .int (a2))] rfl (fun E C => ?_) ho
  have hh : 2 ≤ 2 := Nat.le_refl _
  show zKO E 3 Z (zMQ E Z (zQI Z)) 0 [(0, .ref (zad Z 0 0)), (1, .int (a1)), (2, .int (a2))] [] σ _
  unfold f_X10_works
  refine zr_aload_n C dX10_works_0 rfl ?_
  refine zf_X10_46 C (Nat.le_of_ble_eq_true rfl) dX10_works_1 ?_
  refine zr_iload_n C dX10_works_4 rfl ?_
  refine zk_X10_331 C F (Nat.le_of_ble_eq_true rfl) (Nat.le_trans (by decide) hh) (by simp [Value.category]) dX10_works_5 (fun r5 m5 => ?_)
  refine zr_if_ne (tgt := 13) C dX10_works_8 (by decide) ?_ ?_
  · refine zr_aload_n C dX10_works_13 rfl ?_
    refine zf_X10_46 C (Nat.le_of_ble_eq_true rfl) dX10_works_14 ?_
    refine zf_X10_322 C (Nat.le_of_ble_eq_true rfl) dX10_works_17 ?_
    refine zr_iload_n C dX10_works_20 rfl ?_
    refine zr_aald (n := 6) (k1 := 40) C dX10_works_21 (Nat.le_of_ble_eq_true rfl) rfl rfl rfl (fun hb21 => ?_)
    refine zf_X10_332 C hb21 dX10_works_22 ?_
    refine zr_iload_n C dX10_works_25 rfl ?_
    refine zr_icmp_ne (tgt := 31) C dX10_works_26 (by decide) ?_ ?_
    · refine zr_aload_n C dX10_works_31 rfl ?_
      refine zf_X10_46 C (Nat.le_of_ble_eq_true rfl) dX10_works_32 ?_
      refine zf_X10_322 C (Nat.le_of_ble_eq_true rfl) dX10_works_35 ?_
      refine zr_iload_n C dX10_works_38 rfl ?_
      refine zr_aald (n := 6) (k1 := 40) C dX10_works_39 (Nat.le_of_ble_eq_true rfl) rfl rfl rfl (fun hb39 => ?_)
      refine zr_iload_n C dX10_works_40 rfl ?_
      refine zp_X10_332 C hb39 dX10_works_41 ?_
      refine zr_iconst (v := 1) C dX10_works_44 rfl ?_
      exact zr_iret C dX10_works_45
    · refine zr_iconst (v := 0) C dX10_works_29 rfl ?_
      exact zr_iret C dX10_works_30
  · refine zr_iconst (v := -1) C dX10_works_11 rfl ?_
    exact zr_iret C dX10_works_12
def f_X10_shut (F : Nat) (σ : zMem) (a1 : Int32) : Option (Int32 × zMem) := if (σ.1 38 0 2) = a1 then (some (0, σ)) else (zg (zbo a1) (some (1, (zwi σ 38 0 2 a1))))
set_option maxHeartbeats 4000000 in
set_option maxRecDepth 100000 in
theorem c_X10_shut (l : Launch) (Z : zLay) (F : Nat) (σ : zMem) (a1 : Int32) (r : Int32) (σ1 : zMem) (ho : f_X10_shut F σ a1 = some (r, σ1)) : zMet l yX10_shut cX10_shut 2 (some .int) 1 Z [.ref (zad Z 0 0), .int (a1)] σ (zQI Z r σ1) := by
  refine zMet_of (Qc := zQI Z) (by decide) (Nat.le_of_ble_eq_true rfl) [(0, .ref (zad Z 0 0)), (1, .int (a1))] rfl (fun E C => ?_) ho
  have hh : 1 ≤ 1 := Nat.le_refl _
  show zKO E 2 Z (zMQ E Z (zQI Z)) 0 [(0, .ref (zad Z 0 0)), (1, .int (a1))] [] σ _
  unfold f_X10_shut
  refine zr_aload_n C dX10_shut_0 rfl ?_
  refine zf_X10_46 C (Nat.le_of_ble_eq_true rfl) dX10_shut_1 ?_
  refine zf_X10_353 C (Nat.le_of_ble_eq_true rfl) dX10_shut_4 ?_
  refine zr_iload_n C dX10_shut_7 rfl ?_
  refine zr_icmp_ne (tgt := 13) C dX10_shut_8 (by decide) ?_ ?_
  · refine zr_aload_n C dX10_shut_13 rfl ?_
    refine zf_X10_46 C (Nat.le_of_ble_eq_true rfl) dX10_shut_14 ?_
    refine zr_iload_n C dX10_shut_17 rfl ?_
    refine zp_X10_353 C (Nat.le_of_ble_eq_true rfl) dX10_shut_18 ?_
    refine zr_iconst (v := 1) C dX10_shut_21 rfl ?_
    exact zr_iret C dX10_shut_22
  · refine zr_iconst (v := 0) C dX10_shut_11 rfl ?_
    exact zr_iret C dX10_shut_12
def f_X10_measure_19 (F : Nat) (rec19 : zMem → Int32 × Int32 → Option (Int32 × zMem)) (σ : zMem) (x : Int32 × Int32) : Option (Int32 × zMem) := if (σ.1 0 0 1) ≤ x.2 then (some (x.1, σ)) else (zg (inb x.2 10) (zg (inb x.2 10) (zg (inb x.2 10) (rec19 (zwi σ 2 x.2.toNatClampNeg 5 (((σ.1 2 x.2.toNatClampNeg 5) + (σ.1 2 x.2.toNatClampNeg 4)))) (((x.1 + ((zwi σ 2 x.2.toNatClampNeg 5 (((σ.1 2 x.2.toNatClampNeg 5) + (σ.1 2 x.2.toNatClampNeg 4)))).1 2 x.2.toNatClampNeg 4)), (x.2 + 1)))))))
set_option maxHeartbeats 4000000 in
set_option maxRecDepth 100000 in
theorem c_X10_measure_19 (F : Nat) {E : zEn} {h : Nat} {Z : zLay} (C : zCx E cX10_measure RX10 3 (some .int) Z h) (hh : 1 ≤ h) : ∀ (n : Nat) (σ : zMem) (x : Int32 × Int32), zKO E 3 Z (zMQ E Z (zQI Z)) 19 [(0, .ref (zad Z 0 0)), (1, .int x.1), (2, .int x.2)] [] σ (zit (f_X10_measure_19 F) n σ x) := by
  refine zr_loop (LL := fun (x : Int32 × Int32) => [(0, .ref (zad Z 0 0)), (1, .int x.1), (2, .int x.2)]) (ST := fun (x : Int32 × Int32) => []) (fun rec19 hrec19 σ x => ?_)
  obtain ⟨l1, l2⟩ := x
  show zKO E 3 Z (zMQ E Z (zQI Z)) 19 [(0, .ref (zad Z 0 0)), (1, .int l1), (2, .int l2)] [] σ (if (σ.1 0 0 1) ≤ l2 then (some (l1, σ)) else (zg (inb l2 10) (zg (inb l2 10) (zg (inb l2 10) (rec19 (zwi σ 2 l2.toNatClampNeg 5 (((σ.1 2 l2.toNatClampNeg 5) + (σ.1 2 l2.toNatClampNeg 4)))) (((l1 + ((zwi σ 2 l2.toNatClampNeg 5 (((σ.1 2 l2.toNatClampNeg 5) + (σ.1 2 l2.toNatClampNeg 4)))).1 2 l2.toNatClampNeg 4)), (l2 + 1))))))))
  refine zr_iload_n C dX10_measure_19 rfl ?_
  refine zr_aload_n C dX10_measure_20 rfl ?_
  refine zf_X10_85 C (Nat.le_of_ble_eq_true rfl) dX10_measure_21 ?_
  refine zr_icmp_ge (tgt := 68) C dX10_measure_24 (by decide) ?_ ?_
  · refine zr_iload_n C dX10_measure_68 rfl ?_
    exact zr_iret C dX10_measure_69
  · refine zr_aload_n C dX10_measure_27 rfl ?_
    refine zf_X10_11 C (Nat.le_of_ble_eq_true rfl) dX10_measure_28 ?_
    refine zr_iload_n C dX10_measure_31 rfl ?_
    refine zr_aald (n := 10) (k1 := 2) C dX10_measure_32 (Nat.le_of_ble_eq_true rfl) rfl rfl rfl (fun hb32 => ?_)
    refine zr_dup C dX10_measure_33 rfl ?_
    refine zf_X10_111 C hb32 dX10_measure_34 ?_
    refine zr_aload_n C dX10_measure_37 rfl ?_
    refine zf_X10_11 C (Nat.le_of_ble_eq_true rfl) dX10_measure_38 ?_
    refine zr_iload_n C dX10_measure_41 rfl ?_
    refine zr_aald (n := 10) (k1 := 2) C dX10_measure_42 (Nat.le_of_ble_eq_true rfl) rfl rfl rfl (fun hb42 => ?_)
    refine zf_X10_108 C hb42 dX10_measure_43 ?_
    refine zr_iadd C dX10_measure_46 ?_
    refine zp_X10_111 C hb32 dX10_measure_47 ?_
    refine zr_iload_n C dX10_measure_50 rfl ?_
    refine zr_aload_n C dX10_measure_51 rfl ?_
    refine zf_X10_11 C (Nat.le_of_ble_eq_true rfl) dX10_measure_52 ?_
    refine zr_iload_n C dX10_measure_55 rfl ?_
    refine zr_aald (n := 10) (k1 := 2) C dX10_measure_56 (Nat.le_of_ble_eq_true rfl) rfl rfl rfl (fun hb56 => ?_)
    refine zf_X10_108 C hb56 dX10_measure_57 ?_
    refine zr_iadd C dX10_measure_60 ?_
    refine zr_istore_n (i := 1) (L1 := [(1, .int _), (0, .ref _), (2, .int _)]) C dX10_measure_61 rfl (by decide) rfl ?_
    refine zr_iinc (kk := 2) (v := (l2 + 1)) (L1 := [(2, .int _), (1, .int _), (0, .ref _)]) C dX10_measure_62 rfl rfl (by decide) rfl ?_
    refine zr_goto (tgt := 19) C dX10_measure_65 (by decide) ?_
    exact zr_sub [2, 1, 0] rfl (hrec19 (zwi σ 2 l2.toNatClampNeg 5 (((σ.1 2 l2.toNatClampNeg 5) + (σ.1 2 l2.toNatClampNeg 4)))) (((l1 + ((zwi σ 2 l2.toNatClampNeg 5 (((σ.1 2 l2.toNatClampNeg 5) + (σ.1 2 l2.toNatClampNeg 4)))).1 2 l2.toNatClampNeg 4)), (l2 + 1))))
def f_X10_measure (F : Nat) (σ : zMem) : Option (Int32 × zMem) := if (σ.1 0 0 12) = 0 then (some ((-3), σ)) else (zg (zbo 0) (zit (f_X10_measure_19 F) F (zwi σ 0 0 12 0) ((0, 0))))
set_option maxHeartbeats 4000000 in
set_option maxRecDepth 100000 in
theorem c_X10_measure (l : Launch) (Z : zLay) (F : Nat) (σ : zMem) (r : Int32) (σ1 : zMem) (ho : f_X10_measure F σ = some (r, σ1)) : zMet l yX10_measure cX10_measure 3 (some .int) 1 Z [.ref (zad Z 0 0)] σ (zQI Z r σ1) := by
  refine zMet_of (Qc := zQI Z) (by decide) (Nat.le_of_ble_eq_true rfl) [(0, .ref (zad Z 0 0))] rfl (fun E C => ?_) ho
  have hh : 1 ≤ 1 := Nat.le_refl _
  show zKO E 3 Z (zMQ E Z (zQI Z)) 0 [(0, .ref (zad Z 0 0))] [] σ _
  unfold f_X10_measure
  refine zr_aload_n C dX10_measure_0 rfl ?_
  refine zf_X10_315 C (Nat.le_of_ble_eq_true rfl) dX10_measure_1 ?_
  refine zr_if_ne (tgt := 10) C dX10_measure_4 (by decide) ?_ ?_
  · refine zr_aload_n C dX10_measure_10 rfl ?_
    refine zr_iconst (v := 0) C dX10_measure_11 rfl ?_
    refine zp_X10_315 C (Nat.le_of_ble_eq_true rfl) dX10_measure_12 ?_
    refine zr_iconst (v := 0) C dX10_measure_15 rfl ?_
    refine zr_istore_n (i := 1) (L1 := [(1, .int _), (0, .ref _)]) C dX10_measure_16 rfl (by decide) rfl ?_
    refine zr_iconst (v := 0) C dX10_measure_17 rfl ?_
    refine zr_istore_n (i := 2) (L1 := [(2, .int _), (1, .int _), (0, .ref _)]) C dX10_measure_18 rfl (by decide) rfl ?_
    exact zr_sub [2, 1, 0] rfl (c_X10_measure_19 F C hh F (zwi σ 0 0 12 0) ((0, 0)))
  · refine zr_bipush (v := -3) C dX10_measure_7 rfl ?_
    exact zr_iret C dX10_measure_9
def f_X10_withMostRest_4 (F : Nat) (rec4 : zMem → Int32 × Int32 → Option (Int32 × zMem)) (σ : zMem) (x : Int32 × Int32) : Option (Int32 × zMem) := if (σ.1 0 0 1) ≤ x.2 then (some (x.1, σ)) else (zg (inb x.2 10) (zg (inb x.1 10) (if (σ.1 2 x.2.toNatClampNeg 9) ≤ (σ.1 2 x.1.toNatClampNeg 9) then (rec4 σ ((x.1, (x.2 + 1)))) else (rec4 σ ((x.2, (x.2 + 1)))))))
set_option maxHeartbeats 4000000 in
set_option maxRecDepth 100000 in
theorem c_X10_withMostRest_4 (F : Nat) {E : zEn} {h : Nat} {Z : zLay} (C : zCx E cX10_withMostRest RX10 3 (some .int) Z h) (hh : 1 ≤ h) : ∀ (n : Nat) (σ : zMem) (x : Int32 × Int32), zKO E 3 Z (zMQ E Z (zQI Z)) 4 [(0, .ref (zad Z 0 0)), (1, .int x.1), (2, .int x.2)] [] σ (zit (f_X10_withMostRest_4 F) n σ x) := by
  refine zr_loop (LL := fun (x : Int32 × Int32) => [(0, .ref (zad Z 0 0)), (1, .int x.1), (2, .int x.2)]) (ST := fun (x : Int32 × Int32) => []) (fun rec4 hrec4 σ x => ?_)
  obtain ⟨l1, l2⟩ := x
  show zKO E 3 Z (zMQ E Z (zQI Z)) 4 [(0, .ref (zad Z 0 0)), (1, .int l1), (2, .int l2)] [] σ (if (σ.1 0 0 1) ≤ l2 then (some (l1, σ)) else (zg (inb l2 10) (zg (inb l1 10) (if (σ.1 2 l2.toNatClampNeg 9) ≤ (σ.1 2 l1.toNatClampNeg 9) then (rec4 σ ((l1, (l2 + 1)))) else (rec4 σ ((l2, (l2 + 1))))))))
  refine zr_iload_n C dX10_withMostRest_4 rfl ?_
  refine zr_aload_n C dX10_withMostRest_5 rfl ?_
  refine zf_X10_85 C (Nat.le_of_ble_eq_true rfl) dX10_withMostRest_6 ?_
  refine zr_icmp_ge (tgt := 41) C dX10_withMostRest_9 (by decide) ?_ ?_
  · refine zr_iload_n C dX10_withMostRest_41 rfl ?_
    exact zr_iret C dX10_withMostRest_42
  · refine zr_aload_n C dX10_withMostRest_12 rfl ?_
    refine zf_X10_11 C (Nat.le_of_ble_eq_true rfl) dX10_withMostRest_13 ?_
    refine zr_iload_n C dX10_withMostRest_16 rfl ?_
    refine zr_aald (n := 10) (k1 := 2) C dX10_withMostRest_17 (Nat.le_of_ble_eq_true rfl) rfl rfl rfl (fun hb17 => ?_)
    refine zf_X10_368 C hb17 dX10_withMostRest_18 ?_
    refine zr_aload_n C dX10_withMostRest_21 rfl ?_
    refine zf_X10_11 C (Nat.le_of_ble_eq_true rfl) dX10_withMostRest_22 ?_
    refine zr_iload_n C dX10_withMostRest_25 rfl ?_
    refine zr_aald (n := 10) (k1 := 2) C dX10_withMostRest_26 (Nat.le_of_ble_eq_true rfl) rfl rfl rfl (fun hb26 => ?_)
    refine zf_X10_368 C hb26 dX10_withMostRest_27 ?_
    refine zr_icmp_le (tgt := 35) C dX10_withMostRest_30 (by decide) ?_ ?_
    · refine zr_iinc (kk := 2) (v := (l2 + 1)) (L1 := [(2, .int _), (0, .ref _), (1, .int _)]) C dX10_withMostRest_35 rfl rfl (by decide) rfl ?_
      refine zr_goto (tgt := 4) C dX10_withMostRest_38 (by decide) ?_
      exact zr_sub [1, 2, 0] rfl (hrec4 σ ((l1, (l2 + 1))))
    · refine zr_iload_n C dX10_withMostRest_33 rfl ?_
      refine zr_istore_n (i := 1) (L1 := [(1, .int _), (0, .ref _), (2, .int _)]) C dX10_withMostRest_34 rfl (by decide) rfl ?_
      refine zr_iinc (kk := 2) (v := (l2 + 1)) (L1 := [(2, .int _), (1, .int _), (0, .ref _)]) C dX10_withMostRest_35 rfl rfl (by decide) rfl ?_
      refine zr_goto (tgt := 4) C dX10_withMostRest_38 (by decide) ?_
      exact zr_sub [2, 1, 0] rfl (hrec4 σ ((l2, (l2 + 1))))
def f_X10_withMostRest (F : Nat) (σ : zMem) : Option (Int32 × zMem) := zit (f_X10_withMostRest_4 F) F σ ((0, 1))
set_option maxHeartbeats 4000000 in
set_option maxRecDepth 100000 in
theorem c_X10_withMostRest (l : Launch) (Z : zLay) (F : Nat) (σ : zMem) (r : Int32) (σ1 : zMem) (ho : f_X10_withMostRest F σ = some (r, σ1)) : zMet l yX10_withMostRest cX10_withMostRest 3 (some .int) 1 Z [.ref (zad Z 0 0)] σ (zQI Z r σ1) := by
  refine zMet_of (Qc := zQI Z) (by decide) (Nat.le_of_ble_eq_true rfl) [(0, .ref (zad Z 0 0))] rfl (fun E C => ?_) ho
  have hh : 1 ≤ 1 := Nat.le_refl _
  show zKO E 3 Z (zMQ E Z (zQI Z)) 0 [(0, .ref (zad Z 0 0))] [] σ _
  unfold f_X10_withMostRest
  refine zr_iconst (v := 0) C dX10_withMostRest_0 rfl ?_
  refine zr_istore_n (i := 1) (L1 := [(1, .int _), (0, .ref _)]) C dX10_withMostRest_1 rfl (by decide) rfl ?_
  refine zr_iconst (v := 1) C dX10_withMostRest_2 rfl ?_
  refine zr_istore_n (i := 2) (L1 := [(2, .int _), (1, .int _), (0, .ref _)]) C dX10_withMostRest_3 rfl (by decide) rfl ?_
  exact zr_sub [2, 1, 0] rfl (c_X10_withMostRest_4 F C hh F σ ((0, 1)))
theorem zk_X10_359 (C : zCx E cc RX10 nL ret Z h) (F : Nat)  (hk : 0 < zN 0) (hh : 1 + 1 ≤ h) (hst8 : (st.map fun v => v.category).sum ≤ 8) (hd : decode cc pc = .ok (.invokevirtual 359, 3)) {g : Int32 → zMem → Option (α × zMem)} (kk : ∀ (r : Int32) (σ1 : zMem), zKO E nL Z QQ (pc + 3) L (.int r :: st) σ1 (g r σ1)) : zKO E nL Z QQ pc L (.ref (zad Z 0 0) :: st) σ (zb (f_X10_withMostRest F σ) g) :=
  zr_callVI (As := []) (ia := 0) C (fun r σ1 ho => c_X10_withMostRest (zla E) Z F σ r σ1 ho) wz_904 hk rfl rfl wz_p58 wz_906 wz_907 wz_1 (by decide +kernel) rfl (by decide) hh hd hst8 kk
def f_X10_withLeastRest_4 (F : Nat) (rec4 : zMem → Int32 × Int32 → Option (Int32 × zMem)) (σ : zMem) (x : Int32 × Int32) : Option (Int32 × zMem) := if (σ.1 0 0 1) ≤ x.2 then (some (x.1, σ)) else (zg (inb x.2 10) (if (σ.1 2 x.2.toNatClampNeg 8) ≤ 0 then (rec4 σ ((x.1, (x.2 + 1)))) else (if x.1 < 0 then (rec4 σ ((x.2, (x.2 + 1)))) else (zg (inb x.2 10) (zg (inb x.1 10) (if (σ.1 2 x.1.toNatClampNeg 9) ≤ (σ.1 2 x.2.toNatClampNeg 9) then (rec4 σ ((x.1, (x.2 + 1)))) else (rec4 σ ((x.2, (x.2 + 1))))))))))
set_option maxHeartbeats 4000000 in
set_option maxRecDepth 100000 in
theorem c_X10_withLeastRest_4 (F : Nat) {E : zEn} {h : Nat} {Z : zLay} (C : zCx E cX10_withLeastRest RX10 3 (some .int) Z h) (hh : 1 ≤ h) : ∀ (n : Nat) (σ : zMem) (x : Int32 × Int32), zKO E 3 Z (zMQ E Z (zQI Z)) 4 [(0, .ref (zad Z 0 0)), (1, .int x.1), (2, .int x.2)] [] σ (zit (f_X10_withLeastRest_4 F) n σ x) := by
  refine zr_loop (LL := fun (x : Int32 × Int32) => [(0, .ref (zad Z 0 0)), (1, .int x.1), (2, .int x.2)]) (ST := fun (x : Int32 × Int32) => []) (fun rec4 hrec4 σ x => ?_)
  obtain ⟨l1, l2⟩ := x
  show zKO E 3 Z (zMQ E Z (zQI Z)) 4 [(0, .ref (zad Z 0 0)), (1, .int l1), (2, .int l2)] [] σ (if (σ.1 0 0 1) ≤ l2 then (some (l1, σ)) else (zg (inb l2 10) (if (σ.1 2 l2.toNatClampNeg 8) ≤ 0 then (rec4 σ ((l1, (l2 + 1)))) else (if l1 < 0 then (rec4 σ ((l2, (l2 + 1)))) else (zg (inb l2 10) (zg (inb l1 10) (if (σ.1 2 l1.toNatClampNeg 9) ≤ (σ.1 2 l2.toNatClampNeg 9) then (rec4 σ ((l1, (l2 + 1)))) else (rec4 σ ((l2, (l2 + 1)))))))))))
  refine zr_iload_n C dX10_withLeastRest_4 rfl ?_
  refine zr_aload_n C dX10_withLeastRest_5 rfl ?_
  refine zf_X10_85 C (Nat.le_of_ble_eq_true rfl) dX10_withLeastRest_6 ?_
  refine zr_icmp_ge (tgt := 57) C dX10_withLeastRest_9 (by decide) ?_ ?_
  · refine zr_iload_n C dX10_withLeastRest_57 rfl ?_
    exact zr_iret C dX10_withLeastRest_58
  · refine zr_aload_n C dX10_withLeastRest_12 rfl ?_
    refine zf_X10_11 C (Nat.le_of_ble_eq_true rfl) dX10_withLeastRest_13 ?_
    refine zr_iload_n C dX10_withLeastRest_16 rfl ?_
    refine zr_aald (n := 10) (k1 := 2) C dX10_withLeastRest_17 (Nat.le_of_ble_eq_true rfl) rfl rfl rfl (fun hb17 => ?_)
    refine zf_X10_371 C hb17 dX10_withLeastRest_18 ?_
    refine zr_if_le (tgt := 51) C dX10_withLeastRest_21 (by decide) ?_ ?_
    · refine zr_iinc (kk := 2) (v := (l2 + 1)) (L1 := [(2, .int _), (0, .ref _), (1, .int _)]) C dX10_withLeastRest_51 rfl rfl (by decide) rfl ?_
      refine zr_goto (tgt := 4) C dX10_withLeastRest_54 (by decide) ?_
      exact zr_sub [1, 2, 0] rfl (hrec4 σ ((l1, (l2 + 1))))
    · refine zr_iload_n C dX10_withLeastRest_24 rfl ?_
      refine zr_if_lt (tgt := 49) C dX10_withLeastRest_25 (by decide) ?_ ?_
      · refine zr_iload_n C dX10_withLeastRest_49 rfl ?_
        refine zr_istore_n (i := 1) (L1 := [(1, .int _), (0, .ref _), (2, .int _)]) C dX10_withLeastRest_50 rfl (by decide) rfl ?_
        refine zr_iinc (kk := 2) (v := (l2 + 1)) (L1 := [(2, .int _), (1, .int _), (0, .ref _)]) C dX10_withLeastRest_51 rfl rfl (by decide) rfl ?_
        refine zr_goto (tgt := 4) C dX10_withLeastRest_54 (by decide) ?_
        exact zr_sub [2, 1, 0] rfl (hrec4 σ ((l2, (l2 + 1))))
      · refine zr_aload_n C dX10_withLeastRest_28 rfl ?_
        refine zf_X10_11 C (Nat.le_of_ble_eq_true rfl) dX10_withLeastRest_29 ?_
        refine zr_iload_n C dX10_withLeastRest_32 rfl ?_
        refine zr_aald (n := 10) (k1 := 2) C dX10_withLeastRest_33 (Nat.le_of_ble_eq_true rfl) rfl rfl rfl (fun hb33 => ?_)
        refine zf_X10_368 C hb33 dX10_withLeastRest_34 ?_
        refine zr_aload_n C dX10_withLeastRest_37 rfl ?_
        refine zf_X10_11 C (Nat.le_of_ble_eq_true rfl) dX10_withLeastRest_38 ?_
        refine zr_iload_n C dX10_withLeastRest_41 rfl ?_
        refine zr_aald (n := 10) (k1 := 2) C dX10_withLeastRest_42 (Nat.le_of_ble_eq_true rfl) rfl rfl rfl (fun hb42 => ?_)
        refine zf_X10_368 C hb42 dX10_withLeastRest_43 ?_
        refine zr_icmp_ge (tgt := 51) C dX10_withLeastRest_46 (by decide) ?_ ?_
        · refine zr_iinc (kk := 2) (v := (l2 + 1)) (L1 := [(2, .int _), (0, .ref _), (1, .int _)]) C dX10_withLeastRest_51 rfl rfl (by decide) rfl ?_
          refine zr_goto (tgt := 4) C dX10_withLeastRest_54 (by decide) ?_
          exact zr_sub [1, 2, 0] rfl (hrec4 σ ((l1, (l2 + 1))))
        · refine zr_iload_n C dX10_withLeastRest_49 rfl ?_
          refine zr_istore_n (i := 1) (L1 := [(1, .int _), (0, .ref _), (2, .int _)]) C dX10_withLeastRest_50 rfl (by decide) rfl ?_
          refine zr_iinc (kk := 2) (v := (l2 + 1)) (L1 := [(2, .int _), (1, .int _), (0, .ref _)]) C dX10_withLeastRest_51 rfl rfl (by decide) rfl ?_
          refine zr_goto (tgt := 4) C dX10_withLeastRest_54 (by decide) ?_
          exact zr_sub [2, 1, 0] rfl (hrec4 σ ((l2, (l2 + 1))))
def f_X10_withLeastRest (F : Nat) (σ : zMem) : Option (Int32 × zMem) := zit (f_X10_withLeastRest_4 F) F σ (((-1), 0))
set_option maxHeartbeats 4000000 in
set_option maxRecDepth 100000 in
theorem c_X10_withLeastRest (l : Launch) (Z : zLay) (F : Nat) (σ : zMem) (r : Int32) (σ1 : zMem) (ho : f_X10_withLeastRest F σ = some (r, σ1)) : zMet l yX10_withLeastRest cX10_withLeastRest 3 (some .int) 1 Z [.ref (zad Z 0 0)] σ (zQI Z r σ1) := by
  refine zMet_of (Qc := zQI Z) (by decide) (Nat.le_of_ble_eq_true rfl) [(0, .ref (zad Z 0 0))] rfl (fun E C => ?_) ho
  have hh : 1 ≤ 1 := Nat.le_refl _
  show zKO E 3 Z (zMQ E Z (zQI Z)) 0 [(0, .ref (zad Z 0 0))] [] σ _
  unfold f_X10_withLeastRest
  refine zr_iconst (v := -1) C dX10_withLeastRest_0 rfl ?_
  refine zr_istore_n (i := 1) (L1 := [(1, .int _), (0, .ref _)]) C dX10_withLeastRest_1 rfl (by decide) rfl ?_
  refine zr_iconst (v := 0) C dX10_withLeastRest_2 rfl ?_
  refine zr_istore_n (i := 2) (L1 := [(2, .int _), (1, .int _), (0, .ref _)]) C dX10_withLeastRest_3 rfl (by decide) rfl ?_
  exact zr_sub [2, 1, 0] rfl (c_X10_withLeastRest_4 F C hh F σ (((-1), 0)))
theorem zk_X10_365 (C : zCx E cc RX10 nL ret Z h) (F : Nat)  (hk : 0 < zN 0) (hh : 1 + 1 ≤ h) (hst8 : (st.map fun v => v.category).sum ≤ 8) (hd : decode cc pc = .ok (.invokevirtual 365, 3)) {g : Int32 → zMem → Option (α × zMem)} (kk : ∀ (r : Int32) (σ1 : zMem), zKO E nL Z QQ (pc + 3) L (.int r :: st) σ1 (g r σ1)) : zKO E nL Z QQ pc L (.ref (zad Z 0 0) :: st) σ (zb (f_X10_withLeastRest F σ) g) :=
  zr_callVI (As := []) (ia := 0) C (fun r σ1 ho => c_X10_withLeastRest (zla E) Z F σ r σ1 ho) wz_909 hk rfl rfl wz_p59 wz_911 wz_912 wz_1 (by decide +kernel) rfl (by decide) hh hd hst8 kk
def f_X10_cheese_153 (F : Nat) (rec153 : zMem → Int32 × Int32 → Option (Int32 × zMem)) (σ : zMem) (x : Int32 × Int32) : Option (Int32 × zMem) := if (σ.1 0 0 1) ≤ x.2 then (some (x.1, σ)) else (zg (inb x.2 10) (rec153 (zwi σ 2 x.2.toNatClampNeg 5 0) ((x.1, (x.2 + 1)))))
set_option maxHeartbeats 4000000 in
set_option maxRecDepth 100000 in
theorem c_X10_cheese_153 (F : Nat) {E : zEn} {h : Nat} {Z : zLay} (C : zCx E cX10_cheese RX10 6 (some .int) Z h) (hh : 3 ≤ h) : ∀ (n : Nat) (σ : zMem) (x : Int32 × Int32), zKO E 6 Z (zMQ E Z (zQI Z)) 153 [(0, .ref (zad Z 0 0)), (1, .int x.1), (4, .int x.2)] [] σ (zit (f_X10_cheese_153 F) n σ x) := by
  refine zr_loop (LL := fun (x : Int32 × Int32) => [(0, .ref (zad Z 0 0)), (1, .int x.1), (4, .int x.2)]) (ST := fun (x : Int32 × Int32) => []) (fun rec153 hrec153 σ x => ?_)
  obtain ⟨l1, l4⟩ := x
  show zKO E 6 Z (zMQ E Z (zQI Z)) 153 [(0, .ref (zad Z 0 0)), (1, .int l1), (4, .int l4)] [] σ (if (σ.1 0 0 1) ≤ l4 then (some (l1, σ)) else (zg (inb l4 10) (rec153 (zwi σ 2 l4.toNatClampNeg 5 0) ((l1, (l4 + 1))))))
  refine zr_iload C dX10_cheese_153 rfl ?_
  refine zr_aload_n C dX10_cheese_155 rfl ?_
  refine zf_X10_85 C (Nat.le_of_ble_eq_true rfl) dX10_cheese_156 ?_
  refine zr_icmp_ge (tgt := 179) C dX10_cheese_159 (by decide) ?_ ?_
  · refine zr_iload_n C dX10_cheese_179 rfl ?_
    exact zr_iret C dX10_cheese_180
  · refine zr_aload_n C dX10_cheese_162 rfl ?_
    refine zf_X10_11 C (Nat.le_of_ble_eq_true rfl) dX10_cheese_163 ?_
    refine zr_iload C dX10_cheese_166 rfl ?_
    refine zr_aald (n := 10) (k1 := 2) C dX10_cheese_168 (Nat.le_of_ble_eq_true rfl) rfl rfl rfl (fun hb168 => ?_)
    refine zr_iconst (v := 0) C dX10_cheese_169 rfl ?_
    refine zp_X10_111 C hb168 dX10_cheese_170 ?_
    refine zr_iinc (kk := 2) (v := (l4 + 1)) (L1 := [(4, .int _), (0, .ref _), (1, .int _)]) C dX10_cheese_173 rfl rfl (by decide) rfl ?_
    refine zr_goto (tgt := 153) C dX10_cheese_176 (by decide) ?_
    exact zr_sub [1, 2, 0] rfl (hrec153 (zwi σ 2 l4.toNatClampNeg 5 0) ((l1, (l4 + 1))))
def f_X10_cheese_116 (F : Nat) (rec116 : zMem → Int32 × Int32 → Option (Int32 × zMem)) (σ : zMem) (x : Int32 × Int32) : Option (Int32 × zMem) := if x.2 ≤ x.1 then (zit (f_X10_cheese_153 F) F σ ((x.1, 0))) else (zb (f_X10_withLeastRest F σ) fun r123 m123 => if r123 < 0 then (rec116 m123 ((x.1, (x.2 + (-1))))) else (zg (inb r123 10) (zb (f_X2_takeWheels F m123 r123.toNatClampNeg ((-1))) fun r141 m141 => rec116 m141 ((x.1, (x.2 + (-1)))))))
set_option maxHeartbeats 4000000 in
set_option maxRecDepth 100000 in
theorem c_X10_cheese_116 (F : Nat) {E : zEn} {h : Nat} {Z : zLay} (C : zCx E cX10_cheese RX10 6 (some .int) Z h) (hh : 3 ≤ h) : ∀ (n : Nat) (σ : zMem) (x : Int32 × Int32), zKO E 6 Z (zMQ E Z (zQI Z)) 116 [(0, .ref (zad Z 0 0)), (1, .int x.1), (4, .int x.2)] [] σ (zit (f_X10_cheese_116 F) n σ x) := by
  refine zr_loop (LL := fun (x : Int32 × Int32) => [(0, .ref (zad Z 0 0)), (1, .int x.1), (4, .int x.2)]) (ST := fun (x : Int32 × Int32) => []) (fun rec116 hrec116 σ x => ?_)
  obtain ⟨l1, l4⟩ := x
  show zKO E 6 Z (zMQ E Z (zQI Z)) 116 [(0, .ref (zad Z 0 0)), (1, .int l1), (4, .int l4)] [] σ (if l4 ≤ l1 then (zit (f_X10_cheese_153 F) F σ ((l1, 0))) else (zb (f_X10_withLeastRest F σ) fun r123 m123 => if r123 < 0 then (rec116 m123 ((l1, (l4 + (-1))))) else (zg (inb r123 10) (zb (f_X2_takeWheels F m123 r123.toNatClampNeg ((-1))) fun r141 m141 => rec116 m141 ((l1, (l4 + (-1))))))))
  refine zr_iload C dX10_cheese_116 rfl ?_
  refine zr_iload_n C dX10_cheese_118 rfl ?_
  refine zr_icmp_le (tgt := 150) C dX10_cheese_119 (by decide) ?_ ?_
  · refine zr_iconst (v := 0) C dX10_cheese_150 rfl ?_
    refine zr_istore (i := 4) (L1 := [(4, .int _), (0, .ref _), (1, .int _)]) C dX10_cheese_151 (by decide) rfl ?_
    exact zr_sub [1, 2, 0] rfl (c_X10_cheese_153 F C hh F σ ((l1, 0)))
  · refine zr_aload_n C dX10_cheese_122 rfl ?_
    refine zk_X10_365 C F (Nat.le_of_ble_eq_true rfl) (Nat.le_trans (by decide) hh) (by simp [Value.category]) dX10_cheese_123 (fun r123 m123 => ?_)
    refine zr_istore (i := 5) (L1 := [(5, .int _), (0, .ref _), (1, .int _), (4, .int _)]) C dX10_cheese_126 (by decide) rfl ?_
    refine zr_iload C dX10_cheese_128 rfl ?_
    refine zr_if_lt (tgt := 144) C dX10_cheese_130 (by decide) ?_ ?_
    · refine zr_iinc (kk := 3) (v := (l4 + (-1))) (L1 := [(4, .int _), (5, .int _), (0, .ref _), (1, .int _)]) C dX10_cheese_144 rfl rfl (by decide) rfl ?_
      refine zr_goto (tgt := 116) C dX10_cheese_147 (by decide) ?_
      exact zr_sub [2, 3, 0] rfl (hrec116 m123 ((l1, (l4 + (-1)))))
    · refine zr_aload_n C dX10_cheese_133 rfl ?_
      refine zf_X10_11 C (Nat.le_of_ble_eq_true rfl) dX10_cheese_134 ?_
      refine zr_iload C dX10_cheese_137 rfl ?_
      refine zr_aald (n := 10) (k1 := 2) C dX10_cheese_139 (Nat.le_of_ble_eq_true rfl) rfl rfl rfl (fun hb139 => ?_)
      refine zr_iconst (v := -1) C dX10_cheese_140 rfl ?_
      refine zk_X10_362 C F hb139 (Nat.le_trans (by decide) hh) (by simp [Value.category]) dX10_cheese_141 (fun r141 m141 => ?_)
      refine zr_iinc (kk := 3) (v := (l4 + (-1))) (L1 := [(4, .int _), (5, .int _), (0, .ref _), (1, .int _)]) C dX10_cheese_144 rfl rfl (by decide) rfl ?_
      refine zr_goto (tgt := 116) C dX10_cheese_147 (by decide) ?_
      exact zr_sub [2, 3, 0] rfl (hrec116 m141 ((l1, (l4 + (-1)))))
def f_X10_cheese_88 (F : Nat) (rec88 : zMem → Int32 × Int32 × Int32 → Option (Int32 × zMem)) (σ : zMem) (x : Int32 × Int32 × Int32) : Option (Int32 × zMem) := if x.1 ≤ x.2.2 then (zit (f_X10_cheese_116 F) F σ ((x.1, x.2.1))) else (zb (f_X10_withMostRest F σ) fun r99 m99 => zg (inb r99 10) (zb (f_X2_takeWheels F m99 r99.toNatClampNeg 1) fun r104 m104 => rec88 m104 ((x.1, x.2.1, (x.2.2 + 1)))))
set_option maxHeartbeats 4000000 in
set_option maxRecDepth 100000 in
theorem c_X10_cheese_88 (F : Nat) {E : zEn} {h : Nat} {Z : zLay} (C : zCx E cX10_cheese RX10 6 (some .int) Z h) (hh : 3 ≤ h) : ∀ (n : Nat) (σ : zMem) (x : Int32 × Int32 × Int32), zKO E 6 Z (zMQ E Z (zQI Z)) 88 [(0, .ref (zad Z 0 0)), (1, .int x.1), (3, .int x.2.1), (4, .int x.2.2)] [] σ (zit (f_X10_cheese_88 F) n σ x) := by
  refine zr_loop (LL := fun (x : Int32 × Int32 × Int32) => [(0, .ref (zad Z 0 0)), (1, .int x.1), (3, .int x.2.1), (4, .int x.2.2)]) (ST := fun (x : Int32 × Int32 × Int32) => []) (fun rec88 hrec88 σ x => ?_)
  obtain ⟨l1, l3, l4⟩ := x
  show zKO E 6 Z (zMQ E Z (zQI Z)) 88 [(0, .ref (zad Z 0 0)), (1, .int l1), (3, .int l3), (4, .int l4)] [] σ (if l1 ≤ l4 then (zit (f_X10_cheese_116 F) F σ ((l1, l3))) else (zb (f_X10_withMostRest F σ) fun r99 m99 => zg (inb r99 10) (zb (f_X2_takeWheels F m99 r99.toNatClampNeg 1) fun r104 m104 => rec88 m104 ((l1, l3, (l4 + 1))))))
  refine zr_iload C dX10_cheese_88 rfl ?_
  refine zr_iload_n C dX10_cheese_90 rfl ?_
  refine zr_icmp_ge (tgt := 113) C dX10_cheese_91 (by decide) ?_ ?_
  · refine zr_iload_n C dX10_cheese_113 rfl ?_
    refine zr_istore (i := 4) (L1 := [(4, .int _), (0, .ref _), (1, .int _), (3, .int _)]) C dX10_cheese_114 (by decide) rfl ?_
    exact zr_sub [1, 2, 0] rfl (c_X10_cheese_116 F C hh F σ ((l1, l3)))
  · refine zr_aload_n C dX10_cheese_94 rfl ?_
    refine zf_X10_11 C (Nat.le_of_ble_eq_true rfl) dX10_cheese_95 ?_
    refine zr_aload_n C dX10_cheese_98 rfl ?_
    refine zk_X10_359 C F (Nat.le_of_ble_eq_true rfl) (Nat.le_trans (by decide) hh) (by simp [Value.category]) dX10_cheese_99 (fun r99 m99 => ?_)
    refine zr_aald (n := 10) (k1 := 2) C dX10_cheese_102 (Nat.le_of_ble_eq_true rfl) rfl rfl rfl (fun hb102 => ?_)
    refine zr_iconst (v := 1) C dX10_cheese_103 rfl ?_
    refine zk_X10_362 C F hb102 (Nat.le_trans (by decide) hh) (by simp [Value.category]) dX10_cheese_104 (fun r104 m104 => ?_)
    refine zr_iinc (kk := 3) (v := (l4 + 1)) (L1 := [(4, .int _), (0, .ref _), (1, .int _), (3, .int _)]) C dX10_cheese_107 rfl rfl (by decide) rfl ?_
    refine zr_goto (tgt := 88) C dX10_cheese_110 (by decide) ?_
    exact zr_sub [1, 2, 3, 0] rfl (hrec88 m104 ((l1, l3, (l4 + 1))))
def f_X10_cheese_55 (F : Nat) (rec55 : zMem → Int32 × Int32 × Int32 × Int32 → Option (Int32 × zMem)) (σ : zMem) (x : Int32 × Int32 × Int32 × Int32) : Option (Int32 × zMem) := if (σ.1 0 0 1) ≤ x.2.2.2 then (zit (f_X10_cheese_88 F) F σ ((x.1, x.2.2.1, x.2.2.1))) else (zg (inb x.2.2.2 10) (zb (f_X2_partWheels F σ x.2.2.2.toNatClampNeg x.1 x.2.1) fun r74 m74 => rec55 m74 ((x.1, x.2.1, (x.2.2.1 + r74), (x.2.2.2 + 1)))))
set_option maxHeartbeats 4000000 in
set_option maxRecDepth 100000 in
theorem c_X10_cheese_55 (F : Nat) {E : zEn} {h : Nat} {Z : zLay} (C : zCx E cX10_cheese RX10 6 (some .int) Z h) (hh : 3 ≤ h) : ∀ (n : Nat) (σ : zMem) (x : Int32 × Int32 × Int32 × Int32), zKO E 6 Z (zMQ E Z (zQI Z)) 55 [(0, .ref (zad Z 0 0)), (1, .int x.1), (2, .int x.2.1), (3, .int x.2.2.1), (4, .int x.2.2.2)] [] σ (zit (f_X10_cheese_55 F) n σ x) := by
  refine zr_loop (LL := fun (x : Int32 × Int32 × Int32 × Int32) => [(0, .ref (zad Z 0 0)), (1, .int x.1), (2, .int x.2.1), (3, .int x.2.2.1), (4, .int x.2.2.2)]) (ST := fun (x : Int32 × Int32 × Int32 × Int32) => []) (fun rec55 hrec55 σ x => ?_)
  obtain ⟨l1, l2, l3, l4⟩ := x
  show zKO E 6 Z (zMQ E Z (zQI Z)) 55 [(0, .ref (zad Z 0 0)), (1, .int l1), (2, .int l2), (3, .int l3), (4, .int l4)] [] σ (if (σ.1 0 0 1) ≤ l4 then (zit (f_X10_cheese_88 F) F σ ((l1, l3, l3))) else (zg (inb l4 10) (zb (f_X2_partWheels F σ l4.toNatClampNeg l1 l2) fun r74 m74 => rec55 m74 ((l1, l2, (l3 + r74), (l4 + 1))))))
  refine zr_iload C dX10_cheese_55 rfl ?_
  refine zr_aload_n C dX10_cheese_57 rfl ?_
  refine zf_X10_85 C (Nat.le_of_ble_eq_true rfl) dX10_cheese_58 ?_
  refine zr_icmp_ge (tgt := 85) C dX10_cheese_61 (by decide) ?_ ?_
  · refine zr_iload_n C dX10_cheese_85 rfl ?_
    refine zr_istore (i := 4) (L1 := [(4, .int _), (0, .ref _), (1, .int _), (2, .int _), (3, .int _)]) C dX10_cheese_86 (by decide) rfl ?_
    exact zr_sub [1, 2, 4, 0] rfl (c_X10_cheese_88 F C hh F σ ((l1, l3, l3)))
  · refine zr_iload_n C dX10_cheese_64 rfl ?_
    refine zr_aload_n C dX10_cheese_65 rfl ?_
    refine zf_X10_11 C (Nat.le_of_ble_eq_true rfl) dX10_cheese_66 ?_
    refine zr_iload C dX10_cheese_69 rfl ?_
    refine zr_aald (n := 10) (k1 := 2) C dX10_cheese_71 (Nat.le_of_ble_eq_true rfl) rfl rfl rfl (fun hb71 => ?_)
    refine zr_iload_n C dX10_cheese_72 rfl ?_
    refine zr_iload_n C dX10_cheese_73 rfl ?_
    refine zk_X10_356 C F hb71 (Nat.le_trans (by decide) hh) (by simp [Value.category]) dX10_cheese_74 (fun r74 m74 => ?_)
    refine zr_iadd C dX10_cheese_77 ?_
    refine zr_istore_n (i := 3) (L1 := [(3, .int _), (0, .ref _), (1, .int _), (2, .int _), (4, .int _)]) C dX10_cheese_78 rfl (by decide) rfl ?_
    refine zr_iinc (kk := 4) (v := (l4 + 1)) (L1 := [(4, .int _), (3, .int _), (0, .ref _), (1, .int _), (2, .int _)]) C dX10_cheese_79 rfl rfl (by decide) rfl ?_
    refine zr_goto (tgt := 55) C dX10_cheese_82 (by decide) ?_
    exact zr_sub [2, 3, 4, 1, 0] rfl (hrec55 m74 ((l1, l2, (l3 + r74), (l4 + 1))))
def f_X10_cheese_18 (F : Nat) (rec18 : zMem → Int32 × Int32 × Int32 → Option (Int32 × zMem)) (σ : zMem) (x : Int32 × Int32 × Int32) : Option (Int32 × zMem) := if (σ.1 0 0 1) ≤ x.2.2 then (if 0 < x.2.1 then (zit (f_X10_cheese_55 F) F σ ((x.1, x.2.1, 0, 0))) else (some (0, σ))) else (zg (inb x.2.2 10) (rec18 σ ((x.1, (x.2.1 + (σ.1 2 x.2.2.toNatClampNeg 5)), (x.2.2 + 1)))))
set_option maxHeartbeats 4000000 in
set_option maxRecDepth 100000 in
theorem c_X10_cheese_18 (F : Nat) {E : zEn} {h : Nat} {Z : zLay} (C : zCx E cX10_cheese RX10 6 (some .int) Z h) (hh : 3 ≤ h) : ∀ (n : Nat) (σ : zMem) (x : Int32 × Int32 × Int32), zKO E 6 Z (zMQ E Z (zQI Z)) 18 [(0, .ref (zad Z 0 0)), (1, .int x.1), (2, .int x.2.1), (3, .int x.2.2)] [] σ (zit (f_X10_cheese_18 F) n σ x) := by
  refine zr_loop (LL := fun (x : Int32 × Int32 × Int32) => [(0, .ref (zad Z 0 0)), (1, .int x.1), (2, .int x.2.1), (3, .int x.2.2)]) (ST := fun (x : Int32 × Int32 × Int32) => []) (fun rec18 hrec18 σ x => ?_)
  obtain ⟨l1, l2, l3⟩ := x
  show zKO E 6 Z (zMQ E Z (zQI Z)) 18 [(0, .ref (zad Z 0 0)), (1, .int l1), (2, .int l2), (3, .int l3)] [] σ (if (σ.1 0 0 1) ≤ l3 then (if 0 < l2 then (zit (f_X10_cheese_55 F) F σ ((l1, l2, 0, 0))) else (some (0, σ))) else (zg (inb l3 10) (rec18 σ ((l1, (l2 + (σ.1 2 l3.toNatClampNeg 5)), (l3 + 1))))))
  refine zr_iload_n C dX10_cheese_18 rfl ?_
  refine zr_aload_n C dX10_cheese_19 rfl ?_
  refine zf_X10_85 C (Nat.le_of_ble_eq_true rfl) dX10_cheese_20 ?_
  refine zr_icmp_ge (tgt := 44) C dX10_cheese_23 (by decide) ?_ ?_
  · refine zr_iload_n C dX10_cheese_44 rfl ?_
    refine zr_if_gt (tgt := 50) C dX10_cheese_45 (by decide) ?_ ?_
    · refine zr_iconst (v := 0) C dX10_cheese_50 rfl ?_
      refine zr_istore_n (i := 3) (L1 := [(3, .int _), (0, .ref _), (1, .int _), (2, .int _)]) C dX10_cheese_51 rfl (by decide) rfl ?_
      refine zr_iconst (v := 0) C dX10_cheese_52 rfl ?_
      refine zr_istore (i := 4) (L1 := [(4, .int _), (3, .int _), (0, .ref _), (1, .int _), (2, .int _)]) C dX10_cheese_53 (by decide) rfl ?_
      exact zr_sub [2, 3, 4, 1, 0] rfl (c_X10_cheese_55 F C hh F σ ((l1, l2, 0, 0)))
    · refine zr_iconst (v := 0) C dX10_cheese_48 rfl ?_
      exact zr_iret C dX10_cheese_49
  · refine zr_iload_n C dX10_cheese_26 rfl ?_
    refine zr_aload_n C dX10_cheese_27 rfl ?_
    refine zf_X10_11 C (Nat.le_of_ble_eq_true rfl) dX10_cheese_28 ?_
    refine zr_iload_n C dX10_cheese_31 rfl ?_
    refine zr_aald (n := 10) (k1 := 2) C dX10_cheese_32 (Nat.le_of_ble_eq_true rfl) rfl rfl rfl (fun hb32 => ?_)
    refine zf_X10_111 C hb32 dX10_cheese_33 ?_
    refine zr_iadd C dX10_cheese_36 ?_
    refine zr_istore_n (i := 2) (L1 := [(2, .int _), (0, .ref _), (1, .int _), (3, .int _)]) C dX10_cheese_37 rfl (by decide) rfl ?_
    refine zr_iinc (kk := 3) (v := (l3 + 1)) (L1 := [(3, .int _), (2, .int _), (0, .ref _), (1, .int _)]) C dX10_cheese_38 rfl rfl (by decide) rfl ?_
    refine zr_goto (tgt := 18) C dX10_cheese_41 (by decide) ?_
    exact zr_sub [2, 3, 1, 0] rfl (hrec18 σ ((l1, (l2 + (σ.1 2 l3.toNatClampNeg 5)), (l3 + 1))))
def f_X10_cheese (F : Nat) (σ : zMem) (a1 : Int32) : Option (Int32 × zMem) := if a1 < 0 then (some ((-2), σ)) else (if a1 ≤ 9999 then (zit (f_X10_cheese_18 F) F σ ((a1, 0, 0))) else (some ((-2), σ)))
set_option maxHeartbeats 4000000 in
set_option maxRecDepth 100000 in
theorem c_X10_cheese (l : Launch) (Z : zLay) (F : Nat) (σ : zMem) (a1 : Int32) (r : Int32) (σ1 : zMem) (ho : f_X10_cheese F σ a1 = some (r, σ1)) : zMet l yX10_cheese cX10_cheese 6 (some .int) 3 Z [.ref (zad Z 0 0), .int (a1)] σ (zQI Z r σ1) := by
  refine zMet_of (Qc := zQI Z) (by decide) (Nat.le_of_ble_eq_true rfl) [(0, .ref (zad Z 0 0)), (1, .int (a1))] rfl (fun E C => ?_) ho
  have hh : 3 ≤ 3 := Nat.le_refl _
  show zKO E 6 Z (zMQ E Z (zQI Z)) 0 [(0, .ref (zad Z 0 0)), (1, .int (a1))] [] σ _
  unfold f_X10_cheese
  refine zr_iload_n C dX10_cheese_0 rfl ?_
  refine zr_if_lt (tgt := 11) C dX10_cheese_1 (by decide) ?_ ?_
  · refine zr_bipush (v := -2) C dX10_cheese_11 rfl ?_
    exact zr_iret C dX10_cheese_13
  · refine zr_iload_n C dX10_cheese_4 rfl ?_
    refine zr_sipush (v := 9999) C dX10_cheese_5 rfl ?_
    refine zr_icmp_le (tgt := 14) C dX10_cheese_8 (by decide) ?_ ?_
    · refine zr_iconst (v := 0) C dX10_cheese_14 rfl ?_
      refine zr_istore_n (i := 2) (L1 := [(2, .int _), (0, .ref _), (1, .int _)]) C dX10_cheese_15 rfl (by decide) rfl ?_
      refine zr_iconst (v := 0) C dX10_cheese_16 rfl ?_
      refine zr_istore_n (i := 3) (L1 := [(3, .int _), (2, .int _), (0, .ref _), (1, .int _)]) C dX10_cheese_17 rfl (by decide) rfl ?_
      exact zr_sub [2, 3, 1, 0] rfl (c_X10_cheese_18 F C hh F σ ((a1, 0, 0)))
    · refine zr_bipush (v := -2) C dX10_cheese_11 rfl ?_
      exact zr_iret C dX10_cheese_13
def f_X10_rest (F : Nat) (σ : zMem) (a1 : Int32) : Option (Int32 × zMem) := zb (f_X10_isHouse F σ a1) fun r2 m2 => if r2 = 0 then (some ((-1000000), m2)) else (zg (inb a1 10) (some ((m2.1 2 a1.toNatClampNeg 9), m2)))
set_option maxHeartbeats 4000000 in
set_option maxRecDepth 100000 in
theorem c_X10_rest (l : Launch) (Z : zLay) (F : Nat) (σ : zMem) (a1 : Int32) (r : Int32) (σ1 : zMem) (ho : f_X10_rest F σ a1 = some (r, σ1)) : zMet l yX10_rest cX10_rest 2 (some .int) 2 Z [.ref (zad Z 0 0), .int (a1)] σ (zQI Z r σ1) := by
  refine zMet_of (Qc := zQI Z) (by decide) (Nat.le_of_ble_eq_true rfl) [(0, .ref (zad Z 0 0)), (1, .int (a1))] rfl (fun E C => ?_) ho
  have hh : 2 ≤ 2 := Nat.le_refl _
  show zKO E 2 Z (zMQ E Z (zQI Z)) 0 [(0, .ref (zad Z 0 0)), (1, .int (a1))] [] σ _
  unfold f_X10_rest
  refine zr_aload_n C dX10_rest_0 rfl ?_
  refine zr_iload_n C dX10_rest_1 rfl ?_
  refine zk_X10_91 C F (Nat.le_of_ble_eq_true rfl) (Nat.le_trans (by decide) hh) (by simp [Value.category]) dX10_rest_2 (fun r2 m2 => ?_)
  refine zr_if_eq (tgt := 20) C dX10_rest_5 (by decide) ?_ ?_
  · refine zr_ldc_w (v := -1000000) C dX10_rest_20 wz_917 ?_
    exact zr_iret C dX10_rest_23
  · refine zr_aload_n C dX10_rest_8 rfl ?_
    refine zf_X10_11 C (Nat.le_of_ble_eq_true rfl) dX10_rest_9 ?_
    refine zr_iload_n C dX10_rest_12 rfl ?_
    refine zr_aald (n := 10) (k1 := 2) C dX10_rest_13 (Nat.le_of_ble_eq_true rfl) rfl rfl rfl (fun hb13 => ?_)
    refine zf_X10_368 C hb13 dX10_rest_14 ?_
    refine zr_goto (tgt := 23) C dX10_rest_17 (by decide) ?_
    exact zr_iret C dX10_rest_23
def f_X10_handOutLogs_5 (F : Nat) (rec5 : zMem → Int32 × Int32 × Int32 → Option (Int32 × zMem)) (σ : zMem) (x : Int32 × Int32 × Int32) : Option (Int32 × zMem) := if (σ.1 0 0 1) ≤ x.2.2 then (some (x.2.1, σ)) else (zg (zni ((σ.1 0 0 1))) (zg (inb ((zrem ((x.1 + x.2.2)) ((σ.1 0 0 1)))) 10) (zb (f_X10_worthNow F σ (((zrem ((x.1 + x.2.2)) ((σ.1 0 0 1)))).toNatClampNeg) 6) fun r36 m36 => zg (inb 0 4) (rec5 (zwi m36 2 (((zrem ((x.1 + x.2.2)) ((σ.1 0 0 1)))).toNatClampNeg) 10 (((m36.1 2 (((zrem ((x.1 + x.2.2)) ((σ.1 0 0 1)))).toNatClampNeg) 10) + (zmin x.2.1 ((r36 * (m36.1 3 (((zrem ((x.1 + x.2.2)) ((σ.1 0 0 1)))).toNatClampNeg) 0))))))) ((x.1, (x.2.1 - (zmin x.2.1 ((r36 * (m36.1 3 (((zrem ((x.1 + x.2.2)) ((σ.1 0 0 1)))).toNatClampNeg) 0))))), (x.2.2 + 1)))))))
set_option maxHeartbeats 4000000 in
set_option maxRecDepth 100000 in
theorem c_X10_handOutLogs_5 (F : Nat) {E : zEn} {h : Nat} {Z : zLay} (C : zCx E cX10_handOutLogs RX10 7 (some .int) Z h) (hh : 5 ≤ h) : ∀ (n : Nat) (σ : zMem) (x : Int32 × Int32 × Int32), zKO E 7 Z (zMQ E Z (zQI Z)) 5 [(0, .ref (zad Z 0 0)), (2, .int x.1), (3, .int x.2.1), (4, .int x.2.2)] [] σ (zit (f_X10_handOutLogs_5 F) n σ x) := by
  refine zr_loop (LL := fun (x : Int32 × Int32 × Int32) => [(0, .ref (zad Z 0 0)), (2, .int x.1), (3, .int x.2.1), (4, .int x.2.2)]) (ST := fun (x : Int32 × Int32 × Int32) => []) (fun rec5 hrec5 σ x => ?_)
  obtain ⟨l2, l3, l4⟩ := x
  show zKO E 7 Z (zMQ E Z (zQI Z)) 5 [(0, .ref (zad Z 0 0)), (2, .int l2), (3, .int l3), (4, .int l4)] [] σ (if (σ.1 0 0 1) ≤ l4 then (some (l3, σ)) else (zg (zni ((σ.1 0 0 1))) (zg (inb ((zrem ((l2 + l4)) ((σ.1 0 0 1)))) 10) (zb (f_X10_worthNow F σ (((zrem ((l2 + l4)) ((σ.1 0 0 1)))).toNatClampNeg) 6) fun r36 m36 => zg (inb 0 4) (rec5 (zwi m36 2 (((zrem ((l2 + l4)) ((σ.1 0 0 1)))).toNatClampNeg) 10 (((m36.1 2 (((zrem ((l2 + l4)) ((σ.1 0 0 1)))).toNatClampNeg) 10) + (zmin l3 ((r36 * (m36.1 3 (((zrem ((l2 + l4)) ((σ.1 0 0 1)))).toNatClampNeg) 0))))))) ((l2, (l3 - (zmin l3 ((r36 * (m36.1 3 (((zrem ((l2 + l4)) ((σ.1 0 0 1)))).toNatClampNeg) 0))))), (l4 + 1))))))))
  refine zr_iload C dX10_handOutLogs_5 rfl ?_
  refine zr_aload_n C dX10_handOutLogs_7 rfl ?_
  refine zf_X10_85 C (Nat.le_of_ble_eq_true rfl) dX10_handOutLogs_8 ?_
  refine zr_icmp_ge (tgt := 75) C dX10_handOutLogs_11 (by decide) ?_ ?_
  · refine zr_iload_n C dX10_handOutLogs_75 rfl ?_
    exact zr_iret C dX10_handOutLogs_76
  · refine zr_aload_n C dX10_handOutLogs_14 rfl ?_
    refine zf_X10_11 C (Nat.le_of_ble_eq_true rfl) dX10_handOutLogs_15 ?_
    refine zr_iload_n C dX10_handOutLogs_18 rfl ?_
    refine zr_iload C dX10_handOutLogs_19 rfl ?_
    refine zr_iadd C dX10_handOutLogs_21 ?_
    refine zr_aload_n C dX10_handOutLogs_22 rfl ?_
    refine zf_X10_85 C (Nat.le_of_ble_eq_true rfl) dX10_handOutLogs_23 ?_
    refine zr_irem C dX10_handOutLogs_26 ?_
    refine zr_aald (n := 10) (k1 := 2) C dX10_handOutLogs_27 (Nat.le_of_ble_eq_true rfl) rfl rfl rfl (fun hb27 => ?_)
    refine zr_astore (i := 5) (L1 := [(5, .ref _), (0, .ref _), (2, .int _), (3, .int _), (4, .int _)]) C dX10_handOutLogs_28 (by decide) rfl ?_
    refine zr_iload_n C dX10_handOutLogs_30 rfl ?_
    refine zr_aload_n C dX10_handOutLogs_31 rfl ?_
    refine zr_aload C dX10_handOutLogs_32 rfl ?_
    refine zr_bipush (v := 6) C dX10_handOutLogs_34 rfl ?_
    refine zk_X10_287 C F (Nat.le_of_ble_eq_true rfl) (Nat.le_trans (by decide) hh) (by simp [Value.category]) dX10_handOutLogs_36 (fun r36 m36 => ?_)
    refine zr_aload C dX10_handOutLogs_39 rfl ?_
    refine zf_X10_88 C hb27 dX10_handOutLogs_41 ?_
    refine zr_iconst (v := 0) C dX10_handOutLogs_44 rfl ?_
    refine zr_iald (n := 4) C dX10_handOutLogs_45 hb27 rfl ?_
    refine zr_imul C dX10_handOutLogs_46 ?_
    refine zr_mmin C wz_926 wz_796 wz_17 wz_797 (Nat.le_trans (by decide) hh) (by simp [Value.category]) dX10_handOutLogs_47 ?_
    refine zr_istore (i := 6) (L1 := [(6, .int _), (5, .ref _), (0, .ref _), (2, .int _), (3, .int _), (4, .int _)]) C dX10_handOutLogs_50 (by decide) rfl ?_
    refine zr_aload C dX10_handOutLogs_52 rfl ?_
    refine zr_dup C dX10_handOutLogs_54 rfl ?_
    refine zf_X10_120 C hb27 dX10_handOutLogs_55 ?_
    refine zr_iload C dX10_handOutLogs_58 rfl ?_
    refine zr_iadd C dX10_handOutLogs_60 ?_
    refine zp_X10_120 C hb27 dX10_handOutLogs_61 ?_
    refine zr_iload_n C dX10_handOutLogs_64 rfl ?_
    refine zr_iload C dX10_handOutLogs_65 rfl ?_
    refine zr_isub C dX10_handOutLogs_67 ?_
    refine zr_istore_n (i := 3) (L1 := [(3, .int _), (6, .int _), (5, .ref _), (0, .ref _), (2, .int _), (4, .int _)]) C dX10_handOutLogs_68 rfl (by decide) rfl ?_
    refine zr_iinc (kk := 5) (v := (l4 + 1)) (L1 := [(4, .int _), (3, .int _), (6, .int _), (5, .ref _), (0, .ref _), (2, .int _)]) C dX10_handOutLogs_69 rfl rfl (by decide) rfl ?_
    refine zr_goto (tgt := 5) C dX10_handOutLogs_72 (by decide) ?_
    exact zr_sub [4, 5, 1, 0] rfl (hrec5 (zwi m36 2 (((zrem ((l2 + l4)) ((σ.1 0 0 1)))).toNatClampNeg) 10 (((m36.1 2 (((zrem ((l2 + l4)) ((σ.1 0 0 1)))).toNatClampNeg) 10) + (zmin l3 ((r36 * (m36.1 3 (((zrem ((l2 + l4)) ((σ.1 0 0 1)))).toNatClampNeg) 0))))))) ((l2, (l3 - (zmin l3 ((r36 * (m36.1 3 (((zrem ((l2 + l4)) ((σ.1 0 0 1)))).toNatClampNeg) 0))))), (l4 + 1))))
def f_X10_handOutLogs (F : Nat) (σ : zMem) (a1 : Int32) (a2 : Int32) : Option (Int32 × zMem) := zit (f_X10_handOutLogs_5 F) F σ ((a2, a1, 0))
set_option maxHeartbeats 4000000 in
set_option maxRecDepth 100000 in
theorem c_X10_handOutLogs (l : Launch) (Z : zLay) (F : Nat) (σ : zMem) (a1 : Int32) (a2 : Int32) (r : Int32) (σ1 : zMem) (ho : f_X10_handOutLogs F σ a1 a2 = some (r, σ1)) : zMet l yX10_handOutLogs cX10_handOutLogs 7 (some .int) 5 Z [.ref (zad Z 0 0), .int (a1), .int (a2)] σ (zQI Z r σ1) := by
  refine zMet_of (Qc := zQI Z) (by decide) (Nat.le_of_ble_eq_true rfl) [(0, .ref (zad Z 0 0)), (1, .int (a1)), (2, .int (a2))] rfl (fun E C => ?_) ho
  have hh : 5 ≤ 5 := Nat.le_refl _
  show zKO E 7 Z (zMQ E Z (zQI Z)) 0 [(0, .ref (zad Z 0 0)), (1, .int (a1)), (2, .int (a2))] [] σ _
  unfold f_X10_handOutLogs
  refine zr_iload_n C dX10_handOutLogs_0 rfl ?_
  refine zr_istore_n (i := 3) (L1 := [(3, .int _), (0, .ref _), (1, .int _), (2, .int _)]) C dX10_handOutLogs_1 rfl (by decide) rfl ?_
  refine zr_iconst (v := 0) C dX10_handOutLogs_2 rfl ?_
  refine zr_istore (i := 4) (L1 := [(4, .int _), (3, .int _), (0, .ref _), (1, .int _), (2, .int _)]) C dX10_handOutLogs_3 (by decide) rfl ?_
  exact zr_sub [2, 4, 1, 0] rfl (c_X10_handOutLogs_5 F C hh F σ ((a2, a1, 0)))
theorem zk_X10_378 (C : zCx E cc RX10 nL ret Z h) (F : Nat) {b0 : Int32} {b1 : Int32} (hk : 0 < zN 0) (hh : 5 + 1 ≤ h) (hst8 : (st.map fun v => v.category).sum ≤ 8) (hd : decode cc pc = .ok (.invokevirtual 378, 3)) {g : Int32 → zMem → Option (α × zMem)} (kk : ∀ (r : Int32) (σ1 : zMem), zKO E nL Z QQ (pc + 3) L (.int r :: st) σ1 (g r σ1)) : zKO E nL Z QQ pc L (.int b1 :: .int b0 :: .ref (zad Z 0 0) :: st) σ (zb (f_X10_handOutLogs F σ b0 b1) g) :=
  zr_callVI (As := [.int b0, .int b1]) (ia := 2) C (fun r σ1 ho => c_X10_handOutLogs (zla E) Z F σ b0 b1 r σ1 ho) wz_922 hk rfl rfl wz_p60 wz_924 wz_925 wz_1 (by decide +kernel) rfl (by decide) hh hd hst8 kk
end ZM
