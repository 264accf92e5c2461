section ZM
variable {E : zEn} {cc : ByteArray} {own : String} {nL h : Nat} {ret : Option FieldType} {Z : zLay} {α : Type} {QQ : α → zMem → State → Prop} {pc : Nat} {L : List (Nat × Value)} {st : List Value} {σ : zMem} {o o1 o2 : Option (α × zMem)}
def f_X9_readWord_106 (F : Nat) (σ : zMem) (l1 : Nat) (s0 : Int32) (s1 : Nat) : Option (Int32 × zMem) := zg (decide (l1 < 40)) (zg (decide (s1 < 40)) (zg (zbo s0) (zb (f_X9_readTests F (zwi σ 13 s1 5 s0) l1) fun r111 m111 => zg (zbo r111) (some (r111, m111)))))
set_option maxHeartbeats 4000000 in
set_option maxRecDepth 100000 in
theorem c_X9_readWord_106 (F : Nat) {E : zEn} {h : Nat} {Z : zLay} (C : zCx E cX9_readWord RX9 3 (some .boolean) Z h) (hh : 10 ≤ h) (σ : zMem) (l1 : Nat) (s0 : Int32) (s1 : Nat) : zKO E 3 Z (zMQ E Z (zQI Z)) 106 [(0, .ref (zad Z 11 0)), (1, .ref (zad Z 13 l1))] [.int s0, .ref (zad Z 13 s1)] σ (f_X9_readWord_106 F σ l1 s0 s1) := by
  unfold f_X9_readWord_106
  refine zr_g (fun hl1 => ?_)
  refine zr_g (fun hs1 => ?_)
  refine zp_X9_57 C (of_decide_eq_true hs1) dX9_readWord_106 ?_
  refine zr_aload_n C dX9_readWord_109 rfl ?_
  refine zr_aload_n C dX9_readWord_110 rfl ?_
  refine zk_X9_80 C F (Nat.le_of_ble_eq_true rfl) (Nat.le_trans (by decide) hh) (by simp [Value.category]) dX9_readWord_111 (fun r111 m111 => ?_)
  exact zr_zretg C dX9_readWord_114
def f_X9_readWord (F : Nat) (σ : zMem) (a1 : Nat) : Option (Int32 × zMem) := zg (decide (a1 < 40)) (zg (zbo 0) (zb (f_X9_readName F (zwi (zwi σ 13 a1 6 0) 13 a1 5 0) 0) fun r14 m14 => if ((zwi m14 13 a1 0 r14).1 13 a1 0) < 0 then (some (0, (zwi m14 13 a1 0 r14))) else (zb (f_X9_readBlank F (zwi m14 13 a1 0 r14)) fun r28 m28 => if r28 = 0 then (some (0, m28)) else (zb (f_X9_readNumber F m28) fun r38 m38 => if 0 ≤ ((zwi m38 13 a1 1 r38).1 13 a1 1) then (if ((zwi m38 13 a1 1 r38).1 11 0 4) = ((zwi m38 13 a1 1 r38).1 11 0 3) then (some (1, (zwi m38 13 a1 1 r38))) else (zb (f_X9_readBlank F (zwi m38 13 a1 1 r38)) fun r67 m67 => if r67 = 0 then (some (0, m67)) else (zb (f_X9_readName F m67 1) fun r78 m78 => if r78 < 0 then (some (0, m78)) else (zb (f_X9_readBlank F m78) fun r87 m87 => if r87 = 0 then (some (0, m87)) else (if r78 = 1 then (f_X9_readWord_106 F m87 a1 1 a1) else (f_X9_readWord_106 F m87 a1 0 a1)))))) else (some (0, (zwi m38 13 a1 1 r38)))))))
set_option maxHeartbeats 4000000 in
set_option maxRecDepth 100000 in
theorem c_X9_readWord (l : Launch) (Z : zLay) (F : Nat) (σ : zMem) (a1 : Nat) (r : Int32) (σ1 : zMem) (ho : f_X9_readWord F σ a1 = some (r, σ1)) : zMet l yX9_readWord cX9_readWord 3 (some .boolean) 10 Z [.ref (zad Z 11 0), .ref (zad Z 13 a1)] σ (zQI Z r σ1) := by
  refine zMet_of (Qc := zQI Z) (by decide) (Nat.le_of_ble_eq_true rfl) [(0, .ref (zad Z 11 0)), (1, .ref (zad Z 13 a1))] rfl (fun E C => ?_) ho
  have hh : 10 ≤ 10 := Nat.le_refl _
  show zKO E 3 Z (zMQ E Z (zQI Z)) 0 [(0, .ref (zad Z 11 0)), (1, .ref (zad Z 13 a1))] [] σ _
  unfold f_X9_readWord
  refine zr_g (fun ha1 => ?_)
  refine zr_aload_n C dX9_readWord_0 rfl ?_
  refine zr_iconst (v := 0) C dX9_readWord_1 rfl ?_
  refine zp_X9_54 C (of_decide_eq_true ha1) dX9_readWord_2 ?_
  refine zr_aload_n C dX9_readWord_5 rfl ?_
  refine zr_iconst (v := 0) C dX9_readWord_6 rfl ?_
  refine zp_X9_57 C (of_decide_eq_true ha1) dX9_readWord_7 ?_
  refine zr_aload_n C dX9_readWord_10 rfl ?_
  refine zr_aload_n C dX9_readWord_11 rfl ?_
  refine zr_lds C (q := ("AlpCommune$Words", 61, "rate feet from till heads fine lot watch ", 0)) (by decide +kernel) dX9_readWord_12 ?_
  refine zk_X9_63 C F (Nat.le_of_ble_eq_true rfl) (Nat.le_trans (by decide) hh) (by simp [Value.category]) dX9_readWord_14 (fun r14 m14 => ?_)
  refine zp_X9_67 C (of_decide_eq_true ha1) dX9_readWord_17 ?_
  refine zr_aload_n C dX9_readWord_20 rfl ?_
  refine zf_X9_67 C (of_decide_eq_true ha1) dX9_readWord_21 ?_
  refine zr_if_lt (tgt := 34) C dX9_readWord_24 (by decide) ?_ ?_
  · refine zr_iconst (v := 0) C dX9_readWord_34 rfl ?_
    exact zr_zret C dX9_readWord_35 rfl
  · refine zr_aload_n C dX9_readWord_27 rfl ?_
    refine zk_X9_70 C F (Nat.le_of_ble_eq_true rfl) (Nat.le_trans (by decide) hh) (by simp [Value.category]) dX9_readWord_28 (fun r28 m28 => ?_)
    refine zr_if_ne (tgt := 36) C dX9_readWord_31 (by decide) ?_ ?_
    · refine zr_aload_n C dX9_readWord_36 rfl ?_
      refine zr_aload_n C dX9_readWord_37 rfl ?_
      refine zk_X9_74 C F (Nat.le_of_ble_eq_true rfl) (Nat.le_trans (by decide) hh) (by simp [Value.category]) dX9_readWord_38 (fun r38 m38 => ?_)
      refine zp_X9_36 C (of_decide_eq_true ha1) dX9_readWord_41 ?_
      refine zr_aload_n C dX9_readWord_44 rfl ?_
      refine zf_X9_36 C (of_decide_eq_true ha1) dX9_readWord_45 ?_
      refine zr_if_ge (tgt := 53) C dX9_readWord_48 (by decide) ?_ ?_
      · refine zr_aload_n C dX9_readWord_53 rfl ?_
        refine zf_X9_47 C (Nat.le_of_ble_eq_true rfl) dX9_readWord_54 ?_
        refine zr_aload_n C dX9_readWord_57 rfl ?_
        refine zf_X9_26 C (Nat.le_of_ble_eq_true rfl) dX9_readWord_58 ?_
        refine zr_icmp_ne (tgt := 66) C dX9_readWord_61 (by decide) ?_ ?_
        · refine zr_aload_n C dX9_readWord_66 rfl ?_
          refine zk_X9_70 C F (Nat.le_of_ble_eq_true rfl) (Nat.le_trans (by decide) hh) (by simp [Value.category]) dX9_readWord_67 (fun r67 m67 => ?_)
          refine zr_if_ne (tgt := 75) C dX9_readWord_70 (by decide) ?_ ?_
          · refine zr_aload_n C dX9_readWord_75 rfl ?_
            refine zr_lds C (q := ("AlpCommune$Words", 78, "if unless ", 1)) (by decide +kernel) dX9_readWord_76 ?_
            refine zk_X9_63 C F (Nat.le_of_ble_eq_true rfl) (Nat.le_trans (by decide) hh) (by simp [Value.category]) dX9_readWord_78 (fun r78 m78 => ?_)
            refine zr_istore_n (i := 2) (L1 := [(2, .int _), (0, .ref _), (1, .ref _)]) C dX9_readWord_81 rfl (by decide) rfl ?_
            refine zr_iload_n C dX9_readWord_82 rfl ?_
            refine zr_if_lt (tgt := 93) C dX9_readWord_83 (by decide) ?_ ?_
            · refine zr_iconst (v := 0) C dX9_readWord_93 rfl ?_
              exact zr_zret C dX9_readWord_94 rfl
            · refine zr_aload_n C dX9_readWord_86 rfl ?_
              refine zk_X9_70 C F (Nat.le_of_ble_eq_true rfl) (Nat.le_trans (by decide) hh) (by simp [Value.category]) dX9_readWord_87 (fun r87 m87 => ?_)
              refine zr_if_ne (tgt := 95) C dX9_readWord_90 (by decide) ?_ ?_
              · refine zr_aload_n C dX9_readWord_95 rfl ?_
                refine zr_iload_n C dX9_readWord_96 rfl ?_
                refine zr_iconst (v := 1) C dX9_readWord_97 rfl ?_
                refine zr_icmp_ne (tgt := 105) C dX9_readWord_98 (by decide) ?_ ?_
                · refine zr_iconst (v := 0) C dX9_readWord_105 rfl ?_
                  exact zr_sub [1, 2] rfl (c_X9_readWord_106 F C hh m87 a1 0 a1)
                · refine zr_iconst (v := 1) C dX9_readWord_101 rfl ?_
                  refine zr_goto (tgt := 106) C dX9_readWord_102 (by decide) ?_
                  exact zr_sub [1, 2] rfl (c_X9_readWord_106 F C hh m87 a1 1 a1)
              · refine zr_iconst (v := 0) C dX9_readWord_93 rfl ?_
                exact zr_zret C dX9_readWord_94 rfl
          · refine zr_iconst (v := 0) C dX9_readWord_73 rfl ?_
            exact zr_zret C dX9_readWord_74 rfl
        · refine zr_iconst (v := 1) C dX9_readWord_64 rfl ?_
          exact zr_zret C dX9_readWord_65 rfl
      · refine zr_iconst (v := 0) C dX9_readWord_51 rfl ?_
        exact zr_zret C dX9_readWord_52 rfl
    · refine zr_iconst (v := 0) C dX9_readWord_34 rfl ?_
      exact zr_zret C dX9_readWord_35 rfl
theorem zk_X9_50 (C : zCx E cc RX9 nL ret Z h) (F : Nat) {b0 : Nat} (hk : 0 < zN 11) (hh : 10 + 1 ≤ h) (hst8 : (st.map fun v => v.category).sum ≤ 8) (hd : decode cc pc = .ok (.invokevirtual 50, 3)) {g : Int32 → zMem → Option (α × zMem)} (kk : ∀ (r : Int32) (σ1 : zMem), zKO E nL Z QQ (pc + 3) L (.int r :: st) σ1 (g r σ1)) : zKO E nL Z QQ pc L (.ref (zad Z 13 b0) :: .ref (zad Z 11 0) :: st) σ (zb (f_X9_readWord F σ b0) g) :=
  zr_callVI (As := [.ref (zad Z 13 b0)]) (ia := 1) C (fun r σ1 ho => c_X9_readWord (zla E) Z F σ b0 r σ1 ho) wz_548 hk rfl rfl wz_p14 wz_550 wz_551 wz_3 (by decide +kernel) rfl (by decide) hh hd hst8 kk
def f_X9_read (F : Nat) (σ : zMem) : Option (Int32 × zMem) := if (σ.1 11 0 1) < 40 then (zg (inb (((zwi σ 11 0 4 0).1 11 0 1)) 40) (zb (f_X9_readWord F (zwi σ 11 0 4 0) ((((zwi σ 11 0 4 0).1 11 0 1)).toNatClampNeg)) fun r26 m26 => if r26 = 0 then (some ((m26.1 11 0 4), m26)) else (some ((-1), m26)))) else (some (0, σ))
set_option maxHeartbeats 4000000 in
set_option maxRecDepth 100000 in
theorem c_X9_read (l : Launch) (Z : zLay) (F : Nat) (σ : zMem) (r : Int32) (σ1 : zMem) (ho : f_X9_read F σ = some (r, σ1)) : zMet l yX9_read cX9_read 1 (some .int) 11 Z [.ref (zad Z 11 0)] σ (zQI Z r σ1) := by
  refine zMet_of (Qc := zQI Z) (by decide) (Nat.le_of_ble_eq_true rfl) [(0, .ref (zad Z 11 0))] rfl (fun E C => ?_) ho
  have hh : 11 ≤ 11 := Nat.le_refl _
  show zKO E 1 Z (zMQ E Z (zQI Z)) 0 [(0, .ref (zad Z 11 0))] [] σ _
  unfold f_X9_read
  refine zr_aload_n C dX9_read_0 rfl ?_
  refine zf_X9_22 C (Nat.le_of_ble_eq_true rfl) dX9_read_1 ?_
  refine zr_bipush (v := 40) C dX9_read_4 rfl ?_
  refine zr_icmp_lt (tgt := 11) C dX9_read_6 (by decide) ?_ ?_
  · refine zr_aload_n C dX9_read_11 rfl ?_
    refine zr_iconst (v := 0) C dX9_read_12 rfl ?_
    refine zp_X9_47 C (Nat.le_of_ble_eq_true rfl) dX9_read_13 ?_
    refine zr_aload_n C dX9_read_16 rfl ?_
    refine zr_aload_n C dX9_read_17 rfl ?_
    refine zf_X9_11 C (Nat.le_of_ble_eq_true rfl) dX9_read_18 ?_
    refine zr_aload_n C dX9_read_21 rfl ?_
    refine zf_X9_22 C (Nat.le_of_ble_eq_true rfl) dX9_read_22 ?_
    refine zr_aald (n := 40) (k1 := 13) C dX9_read_25 (Nat.le_of_ble_eq_true rfl) rfl rfl rfl (fun hb25 => ?_)
    refine zk_X9_50 C F (Nat.le_of_ble_eq_true rfl) (Nat.le_trans (by decide) hh) (by simp [Value.category]) dX9_read_26 (fun r26 m26 => ?_)
    refine zr_if_eq (tgt := 36) C dX9_read_29 (by decide) ?_ ?_
    · refine zr_aload_n C dX9_read_36 rfl ?_
      refine zf_X9_47 C (Nat.le_of_ble_eq_true rfl) dX9_read_37 ?_
      exact zr_iret C dX9_read_40
    · refine zr_iconst (v := -1) C dX9_read_32 rfl ?_
      refine zr_goto (tgt := 40) C dX9_read_33 (by decide) ?_
      exact zr_iret C dX9_read_40
  · refine zr_iconst (v := 0) C dX9_read_9 rfl ?_
    exact zr_iret C dX9_read_10
end ZM
