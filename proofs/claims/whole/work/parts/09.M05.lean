section ZM
variable {E : zEn} {cc : ByteArray} {own : String} {nL h : Nat} {ret : Option FieldType} {Z : zLay} {α : Type} {QQ : α → zMem → State → Prop} {pc : Nat} {L : List (Nat × Value)} {st : List Value} {σ : zMem} {o o1 o2 : Option (α × zMem)}
def f_X11_act (F : Nat) (σ : zMem) (a1 : Int32) (a2 : Int32) (a3 : Int32) : Option (Int32 × zMem) := zb (f_X11_isRight F (zwi σ 60 0 57 0) a1) fun r7 m7 => if r7 = 0 then (some (0, m7)) else (zb (f_X11_in F m7 a2 0 2) fun r16 m16 => if r16 = 0 then (some (0, m16)) else (zg (inb a1 50) (zb (f_X11_run F m16 a1 ((m16.1 73 0 a1.toNatClampNeg)) a2 a3) fun r32 m32 => some (r32, m32))))
set_option maxHeartbeats 4000000 in
set_option maxRecDepth 100000 in
theorem c_X11_act (l : Launch) (Z : zLay) (F : Nat) (σ : zMem) (a1 : Int32) (a2 : Int32) (a3 : Int32) (r : Int32) (σ1 : zMem) (ho : f_X11_act F σ a1 a2 a3 = some (r, σ1)) : zMet l yX11_act cX11_act 4 (some .int) 10 Z [.ref (zad Z 60 0), .int (a1), .int (a2), .int (a3)] σ (zQI Z r σ1) := by
  refine zMet_of (Qc := zQI Z) (by decide) (Nat.le_of_ble_eq_true rfl) [(0, .ref (zad Z 60 0)), (1, .int (a1)), (2, .int (a2)), (3, .int (a3))] rfl (fun E C => ?_) ho
  have hh : 10 ≤ 10 := Nat.le_refl _
  show zKO E 4 Z (zMQ E Z (zQI Z)) 0 [(0, .ref (zad Z 60 0)), (1, .int (a1)), (2, .int (a2)), (3, .int (a3))] [] σ _
  unfold f_X11_act
  refine zr_aload_n C dX11_act_0 rfl ?_
  refine zr_iconst (v := 0) C dX11_act_1 rfl ?_
  refine zp_X11_469 C (Nat.le_of_ble_eq_true rfl) dX11_act_2 ?_
  refine zr_aload_n C dX11_act_5 rfl ?_
  refine zr_iload_n C dX11_act_6 rfl ?_
  refine zk_X11_199 C F (Nat.le_of_ble_eq_true rfl) (Nat.le_trans (by decide) hh) (by simp [Value.category]) dX11_act_7 (fun r7 m7 => ?_)
  refine zr_if_eq (tgt := 38) C dX11_act_10 (by decide) ?_ ?_
  · refine zr_iconst (v := 0) C dX11_act_38 rfl ?_
    exact zr_iret C dX11_act_39
  · refine zr_iload_n C dX11_act_13 rfl ?_
    refine zr_iconst (v := 0) C dX11_act_14 rfl ?_
    refine zr_iconst (v := 2) C dX11_act_15 rfl ?_
    refine zk_X11_163 C F (Nat.le_trans (by decide) hh) (by simp [Value.category]) dX11_act_16 (fun r16 m16 => ?_)
    refine zr_if_eq (tgt := 38) C dX11_act_19 (by decide) ?_ ?_
    · refine zr_iconst (v := 0) C dX11_act_38 rfl ?_
      exact zr_iret C dX11_act_39
    · refine zr_aload_n C dX11_act_22 rfl ?_
      refine zr_iload_n C dX11_act_23 rfl ?_
      refine zr_aload_n C dX11_act_24 rfl ?_
      refine zf_X11_42 C (Nat.le_of_ble_eq_true rfl) dX11_act_25 ?_
      refine zr_iload_n C dX11_act_28 rfl ?_
      refine zr_iald (n := 50) C dX11_act_29 (Nat.le_of_ble_eq_true rfl) rfl ?_
      refine zr_iload_n C dX11_act_30 rfl ?_
      refine zr_iload_n C dX11_act_31 rfl ?_
      refine zk_X11_472 C F (Nat.le_of_ble_eq_true rfl) (Nat.le_trans (by decide) hh) (by simp [Value.category]) dX11_act_32 (fun r32 m32 => ?_)
      refine zr_goto (tgt := 39) C dX11_act_35 (by decide) ?_
      exact zr_iret C dX11_act_39
def f_X11_trace (F : Nat) (σ : zMem) (a1 : Int32) : Option (Int32 × zMem) := zb (f_X11_in F σ a1 0 (((zmin ((σ.1 60 0 57)) 20) - 1))) fun r13 m13 => if r13 = 0 then (some ((-1), m13)) else (zg (inb a1 20) (some ((m13.1 110 0 a1.toNatClampNeg), m13)))
set_option maxHeartbeats 4000000 in
set_option maxRecDepth 100000 in
theorem c_X11_trace (l : Launch) (Z : zLay) (F : Nat) (σ : zMem) (a1 : Int32) (r : Int32) (σ1 : zMem) (ho : f_X11_trace F σ a1 = some (r, σ1)) : zMet l yX11_trace cX11_trace 2 (some .int) 2 Z [.ref (zad Z 60 0), .int (a1)] σ (zQI Z r σ1) := by
  refine zMet_of (Qc := zQI Z) (by decide) (Nat.le_of_ble_eq_true rfl) [(0, .ref (zad Z 60 0)), (1, .int (a1))] rfl (fun E C => ?_) ho
  have hh : 2 ≤ 2 := Nat.le_refl _
  show zKO E 2 Z (zMQ E Z (zQI Z)) 0 [(0, .ref (zad Z 60 0)), (1, .int (a1))] [] σ _
  unfold f_X11_trace
  refine zr_iload_n C dX11_trace_0 rfl ?_
  refine zr_iconst (v := 0) C dX11_trace_1 rfl ?_
  refine zr_aload_n C dX11_trace_2 rfl ?_
  refine zf_X11_469 C (Nat.le_of_ble_eq_true rfl) dX11_trace_3 ?_
  refine zr_bipush (v := 20) C dX11_trace_6 rfl ?_
  refine zr_mmin C wz_1449 wz_796 wz_17 wz_797 (Nat.le_trans (by decide) hh) (by simp [Value.category]) dX11_trace_8 ?_
  refine zr_iconst (v := 1) C dX11_trace_11 rfl ?_
  refine zr_isub C dX11_trace_12 ?_
  refine zk_X11_163 C F (Nat.le_trans (by decide) hh) (by simp [Value.category]) dX11_trace_13 (fun r13 m13 => ?_)
  refine zr_if_eq (tgt := 28) C dX11_trace_16 (by decide) ?_ ?_
  · refine zr_iconst (v := -1) C dX11_trace_28 rfl ?_
    exact zr_iret C dX11_trace_29
  · refine zr_aload_n C dX11_trace_19 rfl ?_
    refine zf_X11_136 C (Nat.le_of_ble_eq_true rfl) dX11_trace_20 ?_
    refine zr_iload_n C dX11_trace_23 rfl ?_
    refine zr_iald (n := 20) C dX11_trace_24 (Nat.le_of_ble_eq_true rfl) rfl ?_
    refine zr_goto (tgt := 29) C dX11_trace_25 (by decide) ?_
    exact zr_iret C dX11_trace_29
def f_X11_taken_30 (F : Nat) (rec30 : zMem → Int32 × Int32 × Int32 → Option (Int32 × zMem)) (σ : zMem) (x : Int32 × Int32 × Int32) : Option (Int32 × zMem) := if x.2.2 < 0 then (some ((-13), σ)) else (if x.2.2 = x.2.1 then (zg (inb x.1 50) (some ((σ.1 73 0 x.1.toNatClampNeg), σ))) else (zb (f_X11_above F σ x.2.2) fun r47 m47 => rec30 m47 ((x.1, x.2.1, r47))))
set_option maxHeartbeats 4000000 in
set_option maxRecDepth 100000 in
theorem c_X11_taken_30 (F : Nat) {E : zEn} {h : Nat} {Z : zLay} (C : zCx E cX11_taken RX11 4 (some .int) Z h) (hh : 3 ≤ h) : ∀ (n : Nat) (σ : zMem) (x : Int32 × Int32 × Int32), zKO E 4 Z (zMQ E Z (zQI Z)) 30 [(0, .ref (zad Z 60 0)), (1, .int x.1), (2, .int x.2.1), (3, .int x.2.2)] [] σ (zit (f_X11_taken_30 F) n σ x) := by
  refine zr_loop (LL := fun (x : Int32 × Int32 × Int32) => [(0, .ref (zad Z 60 0)), (1, .int x.1), (2, .int x.2.1), (3, .int x.2.2)]) (ST := fun (x : Int32 × Int32 × Int32) => []) (fun rec30 hrec30 σ x => ?_)
  obtain ⟨l1, l2, l3⟩ := x
  show zKO E 4 Z (zMQ E Z (zQI Z)) 30 [(0, .ref (zad Z 60 0)), (1, .int l1), (2, .int l2), (3, .int l3)] [] σ (if l3 < 0 then (some ((-13), σ)) else (if l3 = l2 then (zg (inb l1 50) (some ((σ.1 73 0 l1.toNatClampNeg), σ))) else (zb (f_X11_above F σ l3) fun r47 m47 => rec30 m47 ((l1, l2, r47)))))
  refine zr_iload_n C dX11_taken_30 rfl ?_
  refine zr_if_lt (tgt := 54) C dX11_taken_31 (by decide) ?_ ?_
  · refine zr_bipush (v := -13) C dX11_taken_54 rfl ?_
    exact zr_iret C dX11_taken_56
  · refine zr_iload_n C dX11_taken_34 rfl ?_
    refine zr_iload_n C dX11_taken_35 rfl ?_
    refine zr_icmp_ne (tgt := 46) C dX11_taken_36 (by decide) ?_ ?_
    · refine zr_iload_n C dX11_taken_46 rfl ?_
      refine zk_X11_466 C F (Nat.le_trans (by decide) hh) (by simp [Value.category]) dX11_taken_47 (fun r47 m47 => ?_)
      refine zr_istore_n (i := 3) (L1 := [(3, .int _), (0, .ref _), (1, .int _), (2, .int _)]) C dX11_taken_50 rfl (by decide) rfl ?_
      refine zr_goto (tgt := 30) C dX11_taken_51 (by decide) ?_
      exact zr_sub [1, 2, 3, 0] rfl (hrec30 m47 ((l1, l2, r47)))
    · refine zr_aload_n C dX11_taken_39 rfl ?_
      refine zf_X11_42 C (Nat.le_of_ble_eq_true rfl) dX11_taken_40 ?_
      refine zr_iload_n C dX11_taken_43 rfl ?_
      refine zr_iald (n := 50) C dX11_taken_44 (Nat.le_of_ble_eq_true rfl) rfl ?_
      exact zr_iret C dX11_taken_45
def f_X11_taken (F : Nat) (σ : zMem) (a1 : Int32) (a2 : Int32) : Option (Int32 × zMem) := zb (f_X11_in F σ a2 0 5) fun r3 m3 => if r3 = 0 then (some ((-2), m3)) else (zb (f_X11_isRight F m3 a1) fun r14 m14 => if r14 = 0 then (some ((-11), m14)) else (zg (inb a1 50) (zit (f_X11_taken_30 F) F m14 ((a1, a2, (m14.1 73 0 a1.toNatClampNeg))))))
set_option maxHeartbeats 4000000 in
set_option maxRecDepth 100000 in
theorem c_X11_taken (l : Launch) (Z : zLay) (F : Nat) (σ : zMem) (a1 : Int32) (a2 : Int32) (r : Int32) (σ1 : zMem) (ho : f_X11_taken F σ a1 a2 = some (r, σ1)) : zMet l yX11_taken cX11_taken 4 (some .int) 3 Z [.ref (zad Z 60 0), .int (a1), .int (a2)] σ (zQI Z r σ1) := by
  refine zMet_of (Qc := zQI Z) (by decide) (Nat.le_of_ble_eq_true rfl) [(0, .ref (zad Z 60 0)), (1, .int (a1)), (2, .int (a2))] rfl (fun E C => ?_) ho
  have hh : 3 ≤ 3 := Nat.le_refl _
  show zKO E 4 Z (zMQ E Z (zQI Z)) 0 [(0, .ref (zad Z 60 0)), (1, .int (a1)), (2, .int (a2))] [] σ _
  unfold f_X11_taken
  refine zr_iload_n C dX11_taken_0 rfl ?_
  refine zr_iconst (v := 0) C dX11_taken_1 rfl ?_
  refine zr_iconst (v := 5) C dX11_taken_2 rfl ?_
  refine zk_X11_163 C F (Nat.le_trans (by decide) hh) (by simp [Value.category]) dX11_taken_3 (fun r3 m3 => ?_)
  refine zr_if_ne (tgt := 12) C dX11_taken_6 (by decide) ?_ ?_
  · refine zr_aload_n C dX11_taken_12 rfl ?_
    refine zr_iload_n C dX11_taken_13 rfl ?_
    refine zk_X11_199 C F (Nat.le_of_ble_eq_true rfl) (Nat.le_trans (by decide) hh) (by simp [Value.category]) dX11_taken_14 (fun r14 m14 => ?_)
    refine zr_if_ne (tgt := 23) C dX11_taken_17 (by decide) ?_ ?_
    · refine zr_aload_n C dX11_taken_23 rfl ?_
      refine zf_X11_42 C (Nat.le_of_ble_eq_true rfl) dX11_taken_24 ?_
      refine zr_iload_n C dX11_taken_27 rfl ?_
      refine zr_iald (n := 50) C dX11_taken_28 (Nat.le_of_ble_eq_true rfl) rfl ?_
      refine zr_istore_n (i := 3) (L1 := [(3, .int _), (0, .ref _), (1, .int _), (2, .int _)]) C dX11_taken_29 rfl (by decide) rfl ?_
      exact zr_sub [1, 2, 3, 0] rfl (c_X11_taken_30 F C hh F m14 ((a1, a2, (m14.1 73 0 a1.toNatClampNeg))))
    · refine zr_bipush (v := -11) C dX11_taken_20 rfl ?_
      exact zr_iret C dX11_taken_22
  · refine zr_bipush (v := -2) C dX11_taken_9 rfl ?_
    exact zr_iret C dX11_taken_11
def f_X11_count (F : Nat) (σ : zMem) (a1 : Int32) : Option (Int32 × zMem) := if a1.toInt < 0 ∨ 14 < a1.toInt then (some ((-2), σ)) else (if a1 = 0 then (some ((σ.1 60 0 1), σ)) else (if a1 = 1 then (some ((σ.1 60 0 12), σ)) else (if a1 = 2 then (some ((σ.1 60 0 20), σ)) else (if a1 = 3 then (some ((σ.1 60 0 0), σ)) else (if a1 = 4 then (some ((σ.1 60 0 25), σ)) else (if a1 = 5 then (some ((σ.1 60 0 32), σ)) else (if a1 = 6 then (some ((σ.1 60 0 30), σ)) else (if a1 = 7 then (some ((σ.1 60 0 40), σ)) else (if a1 = 8 then (some ((σ.1 60 0 41), σ)) else (if a1 = 9 then (some ((σ.1 60 0 42), σ)) else (if a1 = 10 then (some ((σ.1 60 0 44), σ)) else (if a1 = 11 then (some ((σ.1 60 0 45), σ)) else (if a1 = 12 then (some ((σ.1 60 0 19), σ)) else (if a1 = 13 then (if (σ.1 60 0 39) = 0 then (some (0, σ)) else (some (1, σ))) else (if a1 = 14 then (some ((σ.1 60 0 57), σ)) else none)))))))))))))))
set_option maxHeartbeats 4000000 in
set_option maxRecDepth 100000 in
theorem c_X11_count (l : Launch) (Z : zLay) (F : Nat) (σ : zMem) (a1 : Int32) (r : Int32) (σ1 : zMem) (ho : f_X11_count F σ a1 = some (r, σ1)) : zMet l yX11_count cX11_count 2 (some .int) 1 Z [.ref (zad Z 60 0), .int (a1)] σ (zQI Z r σ1) := by
  refine zMet_of (Qc := zQI Z) (by decide) (Nat.le_of_ble_eq_true rfl) [(0, .ref (zad Z 60 0)), (1, .int (a1))] rfl (fun E C => ?_) ho
  have hh : 1 ≤ 1 := Nat.le_refl _
  show zKO E 2 Z (zMQ E Z (zQI Z)) 0 [(0, .ref (zad Z 60 0)), (1, .int (a1))] [] σ _
  unfold f_X11_count
  refine zr_iload_n C dX11_count_0 rfl ?_
  refine zr_if (fun hx => ?_) (fun _ => ?_)
  · refine zr_tabOut (tgt := 159) C dX11_count_1 hx (by decide) ?_
    refine zr_bipush (v := -2) C dX11_count_159 rfl ?_
    exact zr_iret C dX11_count_161
  · refine zr_if (fun hx => ?_) (fun _ => ?_)
    · refine zr_tabIn (tgt := 76) C dX11_count_1 (by rw [hx]; decide) (by rw [hx]; decide) (off := 75) (by rw [hx]; decide) (by decide) ?_
      refine zr_aload_n C dX11_count_76 rfl ?_
      refine zf_X11_160 C (Nat.le_of_ble_eq_true rfl) dX11_count_77 ?_
      exact zr_iret C dX11_count_80
    · refine zr_if (fun hx => ?_) (fun _ => ?_)
      · refine zr_tabIn (tgt := 81) C dX11_count_1 (by rw [hx]; decide) (by rw [hx]; decide) (off := 80) (by rw [hx]; decide) (by decide) ?_
        refine zr_aload_n C dX11_count_81 rfl ?_
        refine zf_X11_167 C (Nat.le_of_ble_eq_true rfl) dX11_count_82 ?_
        exact zr_iret C dX11_count_85
      · refine zr_if (fun hx => ?_) (fun _ => ?_)
        · refine zr_tabIn (tgt := 86) C dX11_count_1 (by rw [hx]; decide) (by rw [hx]; decide) (off := 85) (by rw [hx]; decide) (by decide) ?_
          refine zr_aload_n C dX11_count_86 rfl ?_
          refine zf_X11_289 C (Nat.le_of_ble_eq_true rfl) dX11_count_87 ?_
          exact zr_iret C dX11_count_90
        · refine zr_if (fun hx => ?_) (fun _ => ?_)
          · refine zr_tabIn (tgt := 91) C dX11_count_1 (by rw [hx]; decide) (by rw [hx]; decide) (off := 90) (by rw [hx]; decide) (by decide) ?_
            refine zr_aload_n C dX11_count_91 rfl ?_
            refine zf_X11_193 C (Nat.le_of_ble_eq_true rfl) dX11_count_92 ?_
            exact zr_iret C dX11_count_95
          · refine zr_if (fun hx => ?_) (fun _ => ?_)
            · refine zr_tabIn (tgt := 96) C dX11_count_1 (by rw [hx]; decide) (by rw [hx]; decide) (off := 95) (by rw [hx]; decide) (by decide) ?_
              refine zr_aload_n C dX11_count_96 rfl ?_
              refine zf_X11_170 C (Nat.le_of_ble_eq_true rfl) dX11_count_97 ?_
              exact zr_iret C dX11_count_100
            · refine zr_if (fun hx => ?_) (fun _ => ?_)
              · refine zr_tabIn (tgt := 101) C dX11_count_1 (by rw [hx]; decide) (by rw [hx]; decide) (off := 100) (by rw [hx]; decide) (by decide) ?_
                refine zr_aload_n C dX11_count_101 rfl ?_
                refine zf_X11_173 C (Nat.le_of_ble_eq_true rfl) dX11_count_102 ?_
                exact zr_iret C dX11_count_105
              · refine zr_if (fun hx => ?_) (fun _ => ?_)
                · refine zr_tabIn (tgt := 106) C dX11_count_1 (by rw [hx]; decide) (by rw [hx]; decide) (off := 105) (by rw [hx]; decide) (by decide) ?_
                  refine zr_aload_n C dX11_count_106 rfl ?_
                  refine zf_X11_342 C (Nat.le_of_ble_eq_true rfl) dX11_count_107 ?_
                  exact zr_iret C dX11_count_110
                · refine zr_if (fun hx => ?_) (fun _ => ?_)
                  · refine zr_tabIn (tgt := 111) C dX11_count_1 (by rw [hx]; decide) (by rw [hx]; decide) (off := 110) (by rw [hx]; decide) (by decide) ?_
                    refine zr_aload_n C dX11_count_111 rfl ?_
                    refine zf_X11_398 C (Nat.le_of_ble_eq_true rfl) dX11_count_112 ?_
                    exact zr_iret C dX11_count_115
                  · refine zr_if (fun hx => ?_) (fun _ => ?_)
                    · refine zr_tabIn (tgt := 116) C dX11_count_1 (by rw [hx]; decide) (by rw [hx]; decide) (off := 115) (by rw [hx]; decide) (by decide) ?_
                      refine zr_aload_n C dX11_count_116 rfl ?_
                      refine zf_X11_401 C (Nat.le_of_ble_eq_true rfl) dX11_count_117 ?_
                      exact zr_iret C dX11_count_120
                    · refine zr_if (fun hx => ?_) (fun _ => ?_)
                      · refine zr_tabIn (tgt := 121) C dX11_count_1 (by rw [hx]; decide) (by rw [hx]; decide) (off := 120) (by rw [hx]; decide) (by decide) ?_
                        refine zr_aload_n C dX11_count_121 rfl ?_
                        refine zf_X11_417 C (Nat.le_of_ble_eq_true rfl) dX11_count_122 ?_
                        exact zr_iret C dX11_count_125
                      · refine zr_if (fun hx => ?_) (fun _ => ?_)
                        · refine zr_tabIn (tgt := 126) C dX11_count_1 (by rw [hx]; decide) (by rw [hx]; decide) (off := 125) (by rw [hx]; decide) (by decide) ?_
                          refine zr_aload_n C dX11_count_126 rfl ?_
                          refine zf_X11_435 C (Nat.le_of_ble_eq_true rfl) dX11_count_127 ?_
                          exact zr_iret C dX11_count_130
                        · refine zr_if (fun hx => ?_) (fun _ => ?_)
                          · refine zr_tabIn (tgt := 131) C dX11_count_1 (by rw [hx]; decide) (by rw [hx]; decide) (off := 130) (by rw [hx]; decide) (by decide) ?_
                            refine zr_aload_n C dX11_count_131 rfl ?_
                            refine zf_X11_442 C (Nat.le_of_ble_eq_true rfl) dX11_count_132 ?_
                            exact zr_iret C dX11_count_135
                          · refine zr_if (fun hx => ?_) (fun _ => ?_)
                            · refine zr_tabIn (tgt := 136) C dX11_count_1 (by rw [hx]; decide) (by rw [hx]; decide) (off := 135) (by rw [hx]; decide) (by decide) ?_
                              refine zr_aload_n C dX11_count_136 rfl ?_
                              refine zf_X11_212 C (Nat.le_of_ble_eq_true rfl) dX11_count_137 ?_
                              exact zr_iret C dX11_count_140
                            · refine zr_if (fun hx => ?_) (fun _ => ?_)
                              · refine zr_tabIn (tgt := 141) C dX11_count_1 (by rw [hx]; decide) (by rw [hx]; decide) (off := 140) (by rw [hx]; decide) (by decide) ?_
                                refine zr_aload_n C dX11_count_141 rfl ?_
                                refine zf_X11_404 C (Nat.le_of_ble_eq_true rfl) dX11_count_142 ?_
                                refine zr_if_eq (tgt := 152) C dX11_count_145 (by decide) ?_ ?_
                                · refine zr_iconst (v := 0) C dX11_count_152 rfl ?_
                                  exact zr_iret C dX11_count_153
                                · refine zr_iconst (v := 1) C dX11_count_148 rfl ?_
                                  refine zr_goto (tgt := 153) C dX11_count_149 (by decide) ?_
                                  exact zr_iret C dX11_count_153
                              · refine zr_if (fun hx => ?_) (fun _ => ?_)
                                · refine zr_tabIn (tgt := 154) C dX11_count_1 (by rw [hx]; decide) (by rw [hx]; decide) (off := 153) (by rw [hx]; decide) (by decide) ?_
                                  refine zr_aload_n C dX11_count_154 rfl ?_
                                  refine zf_X11_469 C (Nat.le_of_ble_eq_true rfl) dX11_count_155 ?_
                                  exact zr_iret C dX11_count_158
                                · exact zr_none
def f_X11_sheet_67 (F : Nat) (rec67 : zMem → Int32 × Int32 → Option (Int32 × zMem)) (σ : zMem) (x : Int32 × Int32) : Option (Int32 × zMem) := if 60 ≤ x.2 then (some (1, σ)) else (zg (inb x.1 3) (zg (inb x.2 60) (zg (inb x.1 3) (zg (zbo 0 && inb x.2 60) (rec67 (zwi (zwi σ 107 x.1.toNatClampNeg x.2.toNatClampNeg 0) 109 x.1.toNatClampNeg x.2.toNatClampNeg 0) ((x.1, (x.2 + 1))))))))
set_option maxHeartbeats 4000000 in
set_option maxRecDepth 100000 in
theorem c_X11_sheet_67 (F : Nat) {E : zEn} {h : Nat} {Z : zLay} (C : zCx E cX11_sheet RX11 5 (some .int) Z h) (hh : 2 ≤ h) : ∀ (n : Nat) (σ : zMem) (x : Int32 × Int32), zKO E 5 Z (zMQ E Z (zQI Z)) 67 [(0, .ref (zad Z 60 0)), (1, .int x.1), (4, .int x.2)] [] σ (zit (f_X11_sheet_67 F) n σ x) := by
  refine zr_loop (LL := fun (x : Int32 × Int32) => [(0, .ref (zad Z 60 0)), (1, .int x.1), (4, .int x.2)]) (ST := fun (x : Int32 × Int32) => []) (fun rec67 hrec67 σ x => ?_)
  obtain ⟨l1, l4⟩ := x
  show zKO E 5 Z (zMQ E Z (zQI Z)) 67 [(0, .ref (zad Z 60 0)), (1, .int l1), (4, .int l4)] [] σ (if 60 ≤ l4 then (some (1, σ)) else (zg (inb l1 3) (zg (inb l4 60) (zg (inb l1 3) (zg (zbo 0 && inb l4 60) (rec67 (zwi (zwi σ 107 l1.toNatClampNeg l4.toNatClampNeg 0) 109 l1.toNatClampNeg l4.toNatClampNeg 0) ((l1, (l4 + 1)))))))))
  refine zr_iload C dX11_sheet_67 rfl ?_
  refine zr_bipush (v := 60) C dX11_sheet_69 rfl ?_
  refine zr_icmp_ge (tgt := 100) C dX11_sheet_71 (by decide) ?_ ?_
  · refine zr_iconst (v := 1) C dX11_sheet_100 rfl ?_
    exact zr_iret C dX11_sheet_101
  · refine zr_aload_n C dX11_sheet_74 rfl ?_
    refine zf_X11_130 C (Nat.le_of_ble_eq_true rfl) dX11_sheet_75 ?_
    refine zr_iload_n C dX11_sheet_78 rfl ?_
    refine zr_aald (n := 3) (k1 := 107) C dX11_sheet_79 (Nat.le_of_ble_eq_true rfl) rfl rfl rfl (fun hb79 => ?_)
    refine zr_iload C dX11_sheet_80 rfl ?_
    refine zr_iconst (v := 0) C dX11_sheet_82 rfl ?_
    refine zr_iast (n := 60) C dX11_sheet_83 hb79 (fun _ _ => rfl) ?_
    refine zr_aload_n C dX11_sheet_84 rfl ?_
    refine zf_X11_133 C (Nat.le_of_ble_eq_true rfl) dX11_sheet_85 ?_
    refine zr_iload_n C dX11_sheet_88 rfl ?_
    refine zr_aald (n := 3) (k1 := 109) C dX11_sheet_89 (Nat.le_of_ble_eq_true rfl) rfl rfl rfl (fun hb89 => ?_)
    refine zr_iload C dX11_sheet_90 rfl ?_
    refine zr_iconst (v := 0) C dX11_sheet_92 rfl ?_
    refine zr_zast (n := 60) C dX11_sheet_93 hb89 (fun _ _ => rfl) ?_
    refine zr_iinc (kk := 2) (v := (l4 + 1)) (L1 := [(4, .int _), (0, .ref _), (1, .int _)]) C dX11_sheet_94 rfl rfl (by decide) rfl ?_
    refine zr_goto (tgt := 67) C dX11_sheet_97 (by decide) ?_
    exact zr_sub [1, 2, 0] rfl (hrec67 (zwi (zwi σ 107 l1.toNatClampNeg l4.toNatClampNeg 0) 109 l1.toNatClampNeg l4.toNatClampNeg 0) ((l1, (l4 + 1))))
def f_X11_sheet_63 (F : Nat) (σ : zMem) (l1 : Int32) (s0 : Int32) (s1 : Int32) : Option (Int32 × zMem) := zg (inb s1 3) (zit (f_X11_sheet_67 F) F (zwi σ 105 0 s1.toNatClampNeg s0) ((l1, 0)))
set_option maxHeartbeats 4000000 in
set_option maxRecDepth 100000 in
theorem c_X11_sheet_63 (F : Nat) {E : zEn} {h : Nat} {Z : zLay} (C : zCx E cX11_sheet RX11 5 (some .int) Z h) (hh : 2 ≤ h) (σ : zMem) (l1 : Int32) (s0 : Int32) (s1 : Int32) : zKO E 5 Z (zMQ E Z (zQI Z)) 63 [(0, .ref (zad Z 60 0)), (1, .int l1)] [.int s0, .int s1, .ref (zad Z 105 0)] σ (f_X11_sheet_63 F σ l1 s0 s1) := by
  unfold f_X11_sheet_63
  refine zr_iast (n := 3) C dX11_sheet_63 (Nat.le_of_ble_eq_true rfl) (fun _ _ => rfl) ?_
  refine zr_iconst (v := 0) C dX11_sheet_64 rfl ?_
  refine zr_istore (i := 4) (L1 := [(4, .int _), (0, .ref _), (1, .int _)]) C dX11_sheet_65 (by decide) rfl ?_
  exact zr_sub [1, 2, 0] rfl (c_X11_sheet_67 F C hh F (zwi σ 105 0 s1.toNatClampNeg s0) ((l1, 0)))
def f_X11_sheet_42 (F : Nat) (σ : zMem) (l1 : Int32) (l2 : Int32) (l3 : Int32) : Option (Int32 × zMem) := zg (inb l1 3) (if 0 ≤ l2 then (f_X11_sheet_63 F (zwi σ 104 0 l1.toNatClampNeg l2) l1 l3 l1) else (f_X11_sheet_63 F (zwi σ 104 0 l1.toNatClampNeg l2) l1 0 l1))
set_option maxHeartbeats 4000000 in
set_option maxRecDepth 100000 in
theorem c_X11_sheet_42 (F : Nat) {E : zEn} {h : Nat} {Z : zLay} (C : zCx E cX11_sheet RX11 5 (some .int) Z h) (hh : 2 ≤ h) (σ : zMem) (l1 : Int32) (l2 : Int32) (l3 : Int32) : zKO E 5 Z (zMQ E Z (zQI Z)) 42 [(0, .ref (zad Z 60 0)), (1, .int l1), (2, .int l2), (3, .int l3)] [] σ (f_X11_sheet_42 F σ l1 l2 l3) := by
  unfold f_X11_sheet_42
  refine zr_aload_n C dX11_sheet_42 rfl ?_
  refine zf_X11_124 C (Nat.le_of_ble_eq_true rfl) dX11_sheet_43 ?_
  refine zr_iload_n C dX11_sheet_46 rfl ?_
  refine zr_iload_n C dX11_sheet_47 rfl ?_
  refine zr_iast (n := 3) C dX11_sheet_48 (Nat.le_of_ble_eq_true rfl) (fun _ _ => rfl) ?_
  refine zr_aload_n C dX11_sheet_49 rfl ?_
  refine zf_X11_127 C (Nat.le_of_ble_eq_true rfl) dX11_sheet_50 ?_
  refine zr_iload_n C dX11_sheet_53 rfl ?_
  refine zr_iload_n C dX11_sheet_54 rfl ?_
  refine zr_if_ge (tgt := 62) C dX11_sheet_55 (by decide) ?_ ?_
  · refine zr_iload_n C dX11_sheet_62 rfl ?_
    exact zr_sub [0, 1] rfl (c_X11_sheet_63 F C hh (zwi σ 104 0 l1.toNatClampNeg l2) l1 l3 l1)
  · refine zr_iconst (v := 0) C dX11_sheet_58 rfl ?_
    refine zr_goto (tgt := 63) C dX11_sheet_59 (by decide) ?_
    exact zr_sub [0, 1] rfl (c_X11_sheet_63 F C hh (zwi σ 104 0 l1.toNatClampNeg l2) l1 0 l1)
def f_X11_sheet_31 (F : Nat) (σ : zMem) (l1 : Int32) (l2 : Int32) (l3 : Int32) : Option (Int32 × zMem) := if l2 < 0 then (f_X11_sheet_42 F σ l1 l2 l3) else (if 0 ≤ l3 then (f_X11_sheet_42 F σ l1 l2 l3) else (some ((-14), σ)))
set_option maxHeartbeats 4000000 in
set_option maxRecDepth 100000 in
theorem c_X11_sheet_31 (F : Nat) {E : zEn} {h : Nat} {Z : zLay} (C : zCx E cX11_sheet RX11 5 (some .int) Z h) (hh : 2 ≤ h) (σ : zMem) (l1 : Int32) (l2 : Int32) (l3 : Int32) : zKO E 5 Z (zMQ E Z (zQI Z)) 31 [(0, .ref (zad Z 60 0)), (1, .int l1), (2, .int l2), (3, .int l3)] [] σ (f_X11_sheet_31 F σ l1 l2 l3) := by
  unfold f_X11_sheet_31
  refine zr_iload_n C dX11_sheet_31 rfl ?_
  refine zr_if_lt (tgt := 42) C dX11_sheet_32 (by decide) ?_ ?_
  · exact zr_sub [0, 1, 2, 3] rfl (c_X11_sheet_42 F C hh σ l1 l2 l3)
  · refine zr_iload_n C dX11_sheet_35 rfl ?_
    refine zr_if_ge (tgt := 42) C dX11_sheet_36 (by decide) ?_ ?_
    · exact zr_sub [0, 1, 2, 3] rfl (c_X11_sheet_42 F C hh σ l1 l2 l3)
    · refine zr_bipush (v := -14) C dX11_sheet_39 rfl ?_
      exact zr_iret C dX11_sheet_41
def f_X11_sheet (F : Nat) (σ : zMem) (a1 : Int32) (a2 : Int32) (a3 : Int32) : Option (Int32 × zMem) := zb (f_X11_in F σ a1 0 2) fun r3 m3 => if r3 = 0 then (some ((-2), m3)) else (zb (f_X11_in F m3 a2 ((-1)) 2) fun r12 m12 => if r12 = 0 then (some ((-2), m12)) else (if a2 < 0 then (f_X11_sheet_31 F m12 a1 a2 a3) else (if a3 ≤ 60 then (f_X11_sheet_31 F m12 a1 a2 a3) else (some ((-2), m12)))))
set_option maxHeartbeats 4000000 in
set_option maxRecDepth 100000 in
theorem c_X11_sheet (l : Launch) (Z : zLay) (F : Nat) (σ : zMem) (a1 : Int32) (a2 : Int32) (a3 : Int32) (r : Int32) (σ1 : zMem) (ho : f_X11_sheet F σ a1 a2 a3 = some (r, σ1)) : zMet l yX11_sheet cX11_sheet 5 (some .int) 2 Z [.ref (zad Z 60 0), .int (a1), .int (a2), .int (a3)] σ (zQI Z r σ1) := by
  refine zMet_of (Qc := zQI Z) (by decide) (Nat.le_of_ble_eq_true rfl) [(0, .ref (zad Z 60 0)), (1, .int (a1)), (2, .int (a2)), (3, .int (a3))] rfl (fun E C => ?_) ho
  have hh : 2 ≤ 2 := Nat.le_refl _
  show zKO E 5 Z (zMQ E Z (zQI Z)) 0 [(0, .ref (zad Z 60 0)), (1, .int (a1)), (2, .int (a2)), (3, .int (a3))] [] σ _
  unfold f_X11_sheet
  refine zr_iload_n C dX11_sheet_0 rfl ?_
  refine zr_iconst (v := 0) C dX11_sheet_1 rfl ?_
  refine zr_iconst (v := 2) C dX11_sheet_2 rfl ?_
  refine zk_X11_163 C F (Nat.le_trans (by decide) hh) (by simp [Value.category]) dX11_sheet_3 (fun r3 m3 => ?_)
  refine zr_if_eq (tgt := 28) C dX11_sheet_6 (by decide) ?_ ?_
  · refine zr_bipush (v := -2) C dX11_sheet_28 rfl ?_
    exact zr_iret C dX11_sheet_30
  · refine zr_iload_n C dX11_sheet_9 rfl ?_
    refine zr_iconst (v := -1) C dX11_sheet_10 rfl ?_
    refine zr_iconst (v := 2) C dX11_sheet_11 rfl ?_
    refine zk_X11_163 C F (Nat.le_trans (by decide) hh) (by simp [Value.category]) dX11_sheet_12 (fun r12 m12 => ?_)
    refine zr_if_eq (tgt := 28) C dX11_sheet_15 (by decide) ?_ ?_
    · refine zr_bipush (v := -2) C dX11_sheet_28 rfl ?_
      exact zr_iret C dX11_sheet_30
    · refine zr_iload_n C dX11_sheet_18 rfl ?_
      refine zr_if_lt (tgt := 31) C dX11_sheet_19 (by decide) ?_ ?_
      · exact zr_sub [0, 1, 2, 3] rfl (c_X11_sheet_31 F C hh m12 a1 a2 a3)
      · refine zr_iload_n C dX11_sheet_22 rfl ?_
        refine zr_bipush (v := 60) C dX11_sheet_23 rfl ?_
        refine zr_icmp_le (tgt := 31) C dX11_sheet_25 (by decide) ?_ ?_
        · exact zr_sub [0, 1, 2, 3] rfl (c_X11_sheet_31 F C hh m12 a1 a2 a3)
        · refine zr_bipush (v := -2) C dX11_sheet_28 rfl ?_
          exact zr_iret C dX11_sheet_30
def f_X11_cell_80 (F : Nat) (σ : zMem) (l1 : Int32) (l2 : Int32) (s0 : Int32) (s1 : Int32) (s2 : Nat) : Option (Int32 × zMem) := zg (decide (s2 < 3)) (zg (inb s1 60) (zg (inb l1 3) (zg (zbo 0 && inb l2 60) (some (1, (zwi (zwi σ 107 s2 s1.toNatClampNeg s0) 109 l1.toNatClampNeg l2.toNatClampNeg 0))))))
set_option maxHeartbeats 4000000 in
set_option maxRecDepth 100000 in
theorem c_X11_cell_80 (F : Nat) {E : zEn} {h : Nat} {Z : zLay} (C : zCx E cX11_cell RX11 4 (some .int) Z h) (hh : 2 ≤ h) (σ : zMem) (l1 : Int32) (l2 : Int32) (s0 : Int32) (s1 : Int32) (s2 : Nat) : zKO E 4 Z (zMQ E Z (zQI Z)) 80 [(0, .ref (zad Z 60 0)), (1, .int l1), (2, .int l2)] [.int s0, .int s1, .ref (zad Z 107 s2)] σ (f_X11_cell_80 F σ l1 l2 s0 s1 s2) := by
  unfold f_X11_cell_80
  refine zr_g (fun hs2 => ?_)
  refine zr_iast (n := 60) C dX11_cell_80 (of_decide_eq_true hs2) (fun _ _ => rfl) ?_
  refine zr_aload_n C dX11_cell_81 rfl ?_
  refine zf_X11_133 C (Nat.le_of_ble_eq_true rfl) dX11_cell_82 ?_
  refine zr_iload_n C dX11_cell_85 rfl ?_
  refine zr_aald (n := 3) (k1 := 109) C dX11_cell_86 (Nat.le_of_ble_eq_true rfl) rfl rfl rfl (fun hb86 => ?_)
  refine zr_iload_n C dX11_cell_87 rfl ?_
  refine zr_iconst (v := 0) C dX11_cell_88 rfl ?_
  refine zr_zast (n := 60) C dX11_cell_89 hb86 (fun _ _ => rfl) ?_
  refine zr_iconst (v := 1) C dX11_cell_90 rfl ?_
  exact zr_iret C dX11_cell_91
def f_X11_cell (F : Nat) (σ : zMem) (a1 : Int32) (a2 : Int32) (a3 : Int32) : Option (Int32 × zMem) := zb (f_X11_in F σ a1 0 2) fun r3 m3 => if r3 = 0 then (some ((-2), m3)) else (zg (inb a1 3) (if 0 ≤ (m3.1 104 0 a1.toNatClampNeg) then (zg (inb a1 3) (zb (f_X11_in F m3 a2 0 (((m3.1 105 0 a1.toNatClampNeg) - 1))) fun r34 m34 => if r34 = 0 then (some ((-12), m34)) else (zg (inb a1 3) (zg (inb a1 3) (if (m34.1 104 0 a1.toNatClampNeg) = 0 then (f_X11_cell_80 F m34 a1 a2 ((a3.toInt8.toInt32)) a2 a1.toNatClampNeg) else (zg (inb a1 3) (if (m34.1 104 0 a1.toNatClampNeg) = 1 then (f_X11_cell_80 F m34 a1 a2 ((a3.toInt16.toInt32)) a2 a1.toNatClampNeg) else (f_X11_cell_80 F m34 a1 a2 a3 a2 a1.toNatClampNeg)))))))) else (some ((-11), m3))))
set_option maxHeartbeats 4000000 in
set_option maxRecDepth 100000 in
theorem c_X11_cell (l : Launch) (Z : zLay) (F : Nat) (σ : zMem) (a1 : Int32) (a2 : Int32) (a3 : Int32) (r : Int32) (σ1 : zMem) (ho : f_X11_cell F σ a1 a2 a3 = some (r, σ1)) : zMet l yX11_cell cX11_cell 4 (some .int) 2 Z [.ref (zad Z 60 0), .int (a1), .int (a2), .int (a3)] σ (zQI Z r σ1) := by
  refine zMet_of (Qc := zQI Z) (by decide) (Nat.le_of_ble_eq_true rfl) [(0, .ref (zad Z 60 0)), (1, .int (a1)), (2, .int (a2)), (3, .int (a3))] rfl (fun E C => ?_) ho
  have hh : 2 ≤ 2 := Nat.le_refl _
  show zKO E 4 Z (zMQ E Z (zQI Z)) 0 [(0, .ref (zad Z 60 0)), (1, .int (a1)), (2, .int (a2)), (3, .int (a3))] [] σ _
  unfold f_X11_cell
  refine zr_iload_n C dX11_cell_0 rfl ?_
  refine zr_iconst (v := 0) C dX11_cell_1 rfl ?_
  refine zr_iconst (v := 2) C dX11_cell_2 rfl ?_
  refine zk_X11_163 C F (Nat.le_trans (by decide) hh) (by simp [Value.category]) dX11_cell_3 (fun r3 m3 => ?_)
  refine zr_if_ne (tgt := 12) C dX11_cell_6 (by decide) ?_ ?_
  · refine zr_aload_n C dX11_cell_12 rfl ?_
    refine zf_X11_124 C (Nat.le_of_ble_eq_true rfl) dX11_cell_13 ?_
    refine zr_iload_n C dX11_cell_16 rfl ?_
    refine zr_iald (n := 3) C dX11_cell_17 (Nat.le_of_ble_eq_true rfl) rfl ?_
    refine zr_if_ge (tgt := 24) C dX11_cell_18 (by decide) ?_ ?_
    · refine zr_iload_n C dX11_cell_24 rfl ?_
      refine zr_iconst (v := 0) C dX11_cell_25 rfl ?_
      refine zr_aload_n C dX11_cell_26 rfl ?_
      refine zf_X11_127 C (Nat.le_of_ble_eq_true rfl) dX11_cell_27 ?_
      refine zr_iload_n C dX11_cell_30 rfl ?_
      refine zr_iald (n := 3) C dX11_cell_31 (Nat.le_of_ble_eq_true rfl) rfl ?_
      refine zr_iconst (v := 1) C dX11_cell_32 rfl ?_
      refine zr_isub C dX11_cell_33 ?_
      refine zk_X11_163 C F (Nat.le_trans (by decide) hh) (by simp [Value.category]) dX11_cell_34 (fun r34 m34 => ?_)
      refine zr_if_ne (tgt := 43) C dX11_cell_37 (by decide) ?_ ?_
      · refine zr_aload_n C dX11_cell_43 rfl ?_
        refine zf_X11_130 C (Nat.le_of_ble_eq_true rfl) dX11_cell_44 ?_
        refine zr_iload_n C dX11_cell_47 rfl ?_
        refine zr_aald (n := 3) (k1 := 107) C dX11_cell_48 (Nat.le_of_ble_eq_true rfl) rfl rfl rfl (fun hb48 => ?_)
        refine zr_iload_n C dX11_cell_49 rfl ?_
        refine zr_aload_n C dX11_cell_50 rfl ?_
        refine zf_X11_124 C (Nat.le_of_ble_eq_true rfl) dX11_cell_51 ?_
        refine zr_iload_n C dX11_cell_54 rfl ?_
        refine zr_iald (n := 3) C dX11_cell_55 (Nat.le_of_ble_eq_true rfl) rfl ?_
        refine zr_if_ne (tgt := 64) C dX11_cell_56 (by decide) ?_ ?_
        · refine zr_aload_n C dX11_cell_64 rfl ?_
          refine zf_X11_124 C (Nat.le_of_ble_eq_true rfl) dX11_cell_65 ?_
          refine zr_iload_n C dX11_cell_68 rfl ?_
          refine zr_iald (n := 3) C dX11_cell_69 (Nat.le_of_ble_eq_true rfl) rfl ?_
          refine zr_iconst (v := 1) C dX11_cell_70 rfl ?_
          refine zr_icmp_ne (tgt := 79) C dX11_cell_71 (by decide) ?_ ?_
          · refine zr_iload_n C dX11_cell_79 rfl ?_
            exact zr_sub [0, 1, 2] rfl (c_X11_cell_80 F C hh m34 a1 a2 a3 a2 a1.toNatClampNeg)
          · refine zr_iload_n C dX11_cell_74 rfl ?_
            refine zr_i2s C dX11_cell_75 ?_
            refine zr_goto (tgt := 80) C dX11_cell_76 (by decide) ?_
            exact zr_sub [0, 1, 2] rfl (c_X11_cell_80 F C hh m34 a1 a2 ((a3.toInt16.toInt32)) a2 a1.toNatClampNeg)
        · refine zr_iload_n C dX11_cell_59 rfl ?_
          refine zr_i2b C dX11_cell_60 ?_
          refine zr_goto (tgt := 80) C dX11_cell_61 (by decide) ?_
          exact zr_sub [0, 1, 2] rfl (c_X11_cell_80 F C hh m34 a1 a2 ((a3.toInt8.toInt32)) a2 a1.toNatClampNeg)
      · refine zr_bipush (v := -12) C dX11_cell_40 rfl ?_
        exact zr_iret C dX11_cell_42
    · refine zr_bipush (v := -11) C dX11_cell_21 rfl ?_
      exact zr_iret C dX11_cell_23
  · refine zr_bipush (v := -2) C dX11_cell_9 rfl ?_
    exact zr_iret C dX11_cell_11
def f_X11_lose (F : Nat) (σ : zMem) (a1 : Int32) (a2 : Int32) : Option (Int32 × zMem) := zb (f_X11_in F σ a1 0 2) fun r3 m3 => if r3 = 0 then (some ((-2), m3)) else (zg (inb a1 3) (if 0 ≤ (m3.1 104 0 a1.toNatClampNeg) then (zg (inb a1 3) (if (m3.1 104 0 a1.toNatClampNeg) = 2 then (zg (inb a1 3) (zb (f_X11_in F m3 a2 0 (((m3.1 105 0 a1.toNatClampNeg) - 1))) fun r47 m47 => if r47 = 0 then (some ((-12), m47)) else (zg (inb a1 3) (zg (zbo 1 && inb a2 60) (some (1, (zwi m47 109 a1.toNatClampNeg a2.toNatClampNeg 1))))))) else (some ((-13), m3)))) else (some ((-11), m3))))
set_option maxHeartbeats 4000000 in
set_option maxRecDepth 100000 in
theorem c_X11_lose (l : Launch) (Z : zLay) (F : Nat) (σ : zMem) (a1 : Int32) (a2 : Int32) (r : Int32) (σ1 : zMem) (ho : f_X11_lose F σ a1 a2 = some (r, σ1)) : zMet l yX11_lose cX11_lose 3 (some .int) 2 Z [.ref (zad Z 60 0), .int (a1), .int (a2)] σ (zQI Z r σ1) := by
  refine zMet_of (Qc := zQI Z) (by decide) (Nat.le_of_ble_eq_true rfl) [(0, .ref (zad Z 60 0)), (1, .int (a1)), (2, .int (a2))] rfl (fun E C => ?_) ho
  have hh : 2 ≤ 2 := Nat.le_refl _
  show zKO E 3 Z (zMQ E Z (zQI Z)) 0 [(0, .ref (zad Z 60 0)), (1, .int (a1)), (2, .int (a2))] [] σ _
  unfold f_X11_lose
  refine zr_iload_n C dX11_lose_0 rfl ?_
  refine zr_iconst (v := 0) C dX11_lose_1 rfl ?_
  refine zr_iconst (v := 2) C dX11_lose_2 rfl ?_
  refine zk_X11_163 C F (Nat.le_trans (by decide) hh) (by simp [Value.category]) dX11_lose_3 (fun r3 m3 => ?_)
  refine zr_if_ne (tgt := 12) C dX11_lose_6 (by decide) ?_ ?_
  · refine zr_aload_n C dX11_lose_12 rfl ?_
    refine zf_X11_124 C (Nat.le_of_ble_eq_true rfl) dX11_lose_13 ?_
    refine zr_iload_n C dX11_lose_16 rfl ?_
    refine zr_iald (n := 3) C dX11_lose_17 (Nat.le_of_ble_eq_true rfl) rfl ?_
    refine zr_if_ge (tgt := 24) C dX11_lose_18 (by decide) ?_ ?_
    · refine zr_aload_n C dX11_lose_24 rfl ?_
      refine zf_X11_124 C (Nat.le_of_ble_eq_true rfl) dX11_lose_25 ?_
      refine zr_iload_n C dX11_lose_28 rfl ?_
      refine zr_iald (n := 3) C dX11_lose_29 (Nat.le_of_ble_eq_true rfl) rfl ?_
      refine zr_iconst (v := 2) C dX11_lose_30 rfl ?_
      refine zr_icmp_eq (tgt := 37) C dX11_lose_31 (by decide) ?_ ?_
      · refine zr_iload_n C dX11_lose_37 rfl ?_
        refine zr_iconst (v := 0) C dX11_lose_38 rfl ?_
        refine zr_aload_n C dX11_lose_39 rfl ?_
        refine zf_X11_127 C (Nat.le_of_ble_eq_true rfl) dX11_lose_40 ?_
        refine zr_iload_n C dX11_lose_43 rfl ?_
        refine zr_iald (n := 3) C dX11_lose_44 (Nat.le_of_ble_eq_true rfl) rfl ?_
        refine zr_iconst (v := 1) C dX11_lose_45 rfl ?_
        refine zr_isub C dX11_lose_46 ?_
        refine zk_X11_163 C F (Nat.le_trans (by decide) hh) (by simp [Value.category]) dX11_lose_47 (fun r47 m47 => ?_)
        refine zr_if_ne (tgt := 56) C dX11_lose_50 (by decide) ?_ ?_
        · refine zr_aload_n C dX11_lose_56 rfl ?_
          refine zf_X11_133 C (Nat.le_of_ble_eq_true rfl) dX11_lose_57 ?_
          refine zr_iload_n C dX11_lose_60 rfl ?_
          refine zr_aald (n := 3) (k1 := 109) C dX11_lose_61 (Nat.le_of_ble_eq_true rfl) rfl rfl rfl (fun hb61 => ?_)
          refine zr_iload_n C dX11_lose_62 rfl ?_
          refine zr_iconst (v := 1) C dX11_lose_63 rfl ?_
          refine zr_zast (n := 60) C dX11_lose_64 hb61 (fun _ _ => rfl) ?_
          refine zr_iconst (v := 1) C dX11_lose_65 rfl ?_
          exact zr_iret C dX11_lose_66
        · refine zr_bipush (v := -12) C dX11_lose_53 rfl ?_
          exact zr_iret C dX11_lose_55
      · refine zr_bipush (v := -13) C dX11_lose_34 rfl ?_
        exact zr_iret C dX11_lose_36
    · refine zr_bipush (v := -11) C dX11_lose_21 rfl ?_
      exact zr_iret C dX11_lose_23
  · refine zr_bipush (v := -2) C dX11_lose_9 rfl ?_
    exact zr_iret C dX11_lose_11
def f_X11_copy (F : Nat) (σ : zMem) (a1 : Int32) (a2 : Int32) (a3 : Int32) (a4 : Int32) (a5 : Int32) : Option (Int32 × zMem) := zb (f_X11_in F σ a1 0 2) fun r3 m3 => if r3 = 0 then (some ((-2), m3)) else (zb (f_X11_in F m3 a3 0 2) fun r12 m12 => if r12 = 0 then (some ((-2), m12)) else (zg (inb a1 3) (if (m12.1 104 0 a1.toNatClampNeg) < 0 then (some ((-11), m12)) else (zg (inb a3 3) (if 0 ≤ (m12.1 104 0 a3.toNatClampNeg) then (zg (inb a1 3) (zg (inb a3 3) (if (m12.1 104 0 a1.toNatClampNeg) = (m12.1 104 0 a3.toNatClampNeg) then (if a5 < 0 then (some ((-12), m12)) else (if a2 < 0 then (some ((-12), m12)) else (if a4 < 0 then (some ((-12), m12)) else (zg (inb a1 3) (if 0 < (lg_cmp (((a2.toInt64) + (a5.toInt64))) ((((m12.1 105 0 a1.toNatClampNeg)).toInt64))) then (some ((-12), m12)) else (zg (inb a3 3) (if (lg_cmp (((a4.toInt64) + (a5.toInt64))) ((((m12.1 105 0 a3.toNatClampNeg)).toInt64))) ≤ 0 then (zg (inb a1 3) (zg (inb a3 3) (zg (zck a2 a4 a5 60 60) (zg (inb a1 3) (zg (inb a3 3) (zg (zck a2 a4 a5 60 60 && zcz (zcpi m12 107 a1.toNatClampNeg a2 107 a3.toNatClampNeg a4 a5) 109 a1.toNatClampNeg a2 a5) (some (a5, (zcpi (zcpi m12 107 a1.toNatClampNeg a2 107 a3.toNatClampNeg a4 a5) 109 a1.toNatClampNeg a2 109 a3.toNatClampNeg a4 a5))))))))) else (some ((-12), m12))))))))) else (some ((-13), m12))))) else (some ((-11), m12)))))))
set_option maxHeartbeats 4000000 in
set_option maxRecDepth 100000 in
theorem c_X11_copy (l : Launch) (Z : zLay) (F : Nat) (σ : zMem) (a1 : Int32) (a2 : Int32) (a3 : Int32) (a4 : Int32) (a5 : Int32) (r : Int32) (σ1 : zMem) (ho : f_X11_copy F σ a1 a2 a3 a4 a5 = some (r, σ1)) : zMet l yX11_copy cX11_copy 6 (some .int) 2 Z [.ref (zad Z 60 0), .int (a1), .int (a2), .int (a3), .int (a4), .int (a5)] σ (zQI Z r σ1) := by
  refine zMet_of (Qc := zQI Z) (by decide) (Nat.le_of_ble_eq_true rfl) [(0, .ref (zad Z 60 0)), (1, .int (a1)), (2, .int (a2)), (3, .int (a3)), (4, .int (a4)), (5, .int (a5))] rfl (fun E C => ?_) ho
  have hh : 2 ≤ 2 := Nat.le_refl _
  show zKO E 6 Z (zMQ E Z (zQI Z)) 0 [(0, .ref (zad Z 60 0)), (1, .int (a1)), (2, .int (a2)), (3, .int (a3)), (4, .int (a4)), (5, .int (a5))] [] σ _
  unfold f_X11_copy
  refine zr_iload_n C dX11_copy_0 rfl ?_
  refine zr_iconst (v := 0) C dX11_copy_1 rfl ?_
  refine zr_iconst (v := 2) C dX11_copy_2 rfl ?_
  refine zk_X11_163 C F (Nat.le_trans (by decide) hh) (by simp [Value.category]) dX11_copy_3 (fun r3 m3 => ?_)
  refine zr_if_eq (tgt := 18) C dX11_copy_6 (by decide) ?_ ?_
  · refine zr_bipush (v := -2) C dX11_copy_18 rfl ?_
    exact zr_iret C dX11_copy_20
  · refine zr_iload_n C dX11_copy_9 rfl ?_
    refine zr_iconst (v := 0) C dX11_copy_10 rfl ?_
    refine zr_iconst (v := 2) C dX11_copy_11 rfl ?_
    refine zk_X11_163 C F (Nat.le_trans (by decide) hh) (by simp [Value.category]) dX11_copy_12 (fun r12 m12 => ?_)
    refine zr_if_ne (tgt := 21) C dX11_copy_15 (by decide) ?_ ?_
    · refine zr_aload_n C dX11_copy_21 rfl ?_
      refine zf_X11_124 C (Nat.le_of_ble_eq_true rfl) dX11_copy_22 ?_
      refine zr_iload_n C dX11_copy_25 rfl ?_
      refine zr_iald (n := 3) C dX11_copy_26 (Nat.le_of_ble_eq_true rfl) rfl ?_
      refine zr_if_lt (tgt := 39) C dX11_copy_27 (by decide) ?_ ?_
      · refine zr_bipush (v := -11) C dX11_copy_39 rfl ?_
        exact zr_iret C dX11_copy_41
      · refine zr_aload_n C dX11_copy_30 rfl ?_
        refine zf_X11_124 C (Nat.le_of_ble_eq_true rfl) dX11_copy_31 ?_
        refine zr_iload_n C dX11_copy_34 rfl ?_
        refine zr_iald (n := 3) C dX11_copy_35 (Nat.le_of_ble_eq_true rfl) rfl ?_
        refine zr_if_ge (tgt := 42) C dX11_copy_36 (by decide) ?_ ?_
        · refine zr_aload_n C dX11_copy_42 rfl ?_
          refine zf_X11_124 C (Nat.le_of_ble_eq_true rfl) dX11_copy_43 ?_
          refine zr_iload_n C dX11_copy_46 rfl ?_
          refine zr_iald (n := 3) C dX11_copy_47 (Nat.le_of_ble_eq_true rfl) rfl ?_
          refine zr_aload_n C dX11_copy_48 rfl ?_
          refine zf_X11_124 C (Nat.le_of_ble_eq_true rfl) dX11_copy_49 ?_
          refine zr_iload_n C dX11_copy_52 rfl ?_
          refine zr_iald (n := 3) C dX11_copy_53 (Nat.le_of_ble_eq_true rfl) rfl ?_
          refine zr_icmp_eq (tgt := 60) C dX11_copy_54 (by decide) ?_ ?_
          · refine zr_iload C dX11_copy_60 rfl ?_
            refine zr_if_lt (tgt := 109) C dX11_copy_62 (by decide) ?_ ?_
            · refine zr_bipush (v := -12) C dX11_copy_109 rfl ?_
              exact zr_iret C dX11_copy_111
            · refine zr_iload_n C dX11_copy_65 rfl ?_
              refine zr_if_lt (tgt := 109) C dX11_copy_66 (by decide) ?_ ?_
              · refine zr_bipush (v := -12) C dX11_copy_109 rfl ?_
                exact zr_iret C dX11_copy_111
              · refine zr_iload C dX11_copy_69 rfl ?_
                refine zr_if_lt (tgt := 109) C dX11_copy_71 (by decide) ?_ ?_
                · refine zr_bipush (v := -12) C dX11_copy_109 rfl ?_
                  exact zr_iret C dX11_copy_111
                · refine zr_iload_n C dX11_copy_74 rfl ?_
                  refine zr_i2l C dX11_copy_75 ?_
                  refine zr_iload C dX11_copy_76 rfl ?_
                  refine zr_i2l C dX11_copy_78 ?_
                  refine zr_ladd C dX11_copy_79 ?_
                  refine zr_aload_n C dX11_copy_80 rfl ?_
                  refine zf_X11_127 C (Nat.le_of_ble_eq_true rfl) dX11_copy_81 ?_
                  refine zr_iload_n C dX11_copy_84 rfl ?_
                  refine zr_iald (n := 3) C dX11_copy_85 (Nat.le_of_ble_eq_true rfl) rfl ?_
                  refine zr_i2l C dX11_copy_86 ?_
                  refine zr_lcmp C dX11_copy_87 ?_
                  refine zr_if_gt (tgt := 109) C dX11_copy_88 (by decide) ?_ ?_
                  · refine zr_bipush (v := -12) C dX11_copy_109 rfl ?_
                    exact zr_iret C dX11_copy_111
                  · refine zr_iload C dX11_copy_91 rfl ?_
                    refine zr_i2l C dX11_copy_93 ?_
                    refine zr_iload C dX11_copy_94 rfl ?_
                    refine zr_i2l C dX11_copy_96 ?_
                    refine zr_ladd C dX11_copy_97 ?_
                    refine zr_aload_n C dX11_copy_98 rfl ?_
                    refine zf_X11_127 C (Nat.le_of_ble_eq_true rfl) dX11_copy_99 ?_
                    refine zr_iload_n C dX11_copy_102 rfl ?_
                    refine zr_iald (n := 3) C dX11_copy_103 (Nat.le_of_ble_eq_true rfl) rfl ?_
                    refine zr_i2l C dX11_copy_104 ?_
                    refine zr_lcmp C dX11_copy_105 ?_
                    refine zr_if_le (tgt := 112) C dX11_copy_106 (by decide) ?_ ?_
                    · refine zr_aload_n C dX11_copy_112 rfl ?_
                      refine zf_X11_130 C (Nat.le_of_ble_eq_true rfl) dX11_copy_113 ?_
                      refine zr_iload_n C dX11_copy_116 rfl ?_
                      refine zr_aald (n := 3) (k1 := 107) C dX11_copy_117 (Nat.le_of_ble_eq_true rfl) rfl rfl rfl (fun hb117 => ?_)
                      refine zr_iload_n C dX11_copy_118 rfl ?_
                      refine zr_aload_n C dX11_copy_119 rfl ?_
                      refine zf_X11_130 C (Nat.le_of_ble_eq_true rfl) dX11_copy_120 ?_
                      refine zr_iload_n C dX11_copy_123 rfl ?_
                      refine zr_aald (n := 3) (k1 := 107) C dX11_copy_124 (Nat.le_of_ble_eq_true rfl) rfl rfl rfl (fun hb124 => ?_)
                      refine zr_iload C dX11_copy_125 rfl ?_
                      refine zr_iload C dX11_copy_127 rfl ?_
                      refine zr_cpi (n0 := 60) (n1 := 60) C wz_1441 wz_1078 wz_1077 wz_19 hb117 hb124 (fun _ _ => rfl) (fun _ _ => rfl) (Nat.le_trans (by decide) hh) (by simp [Value.category]) dX11_copy_129 ?_
                      refine zr_aload_n C dX11_copy_132 rfl ?_
                      refine zf_X11_133 C (Nat.le_of_ble_eq_true rfl) dX11_copy_133 ?_
                      refine zr_iload_n C dX11_copy_136 rfl ?_
                      refine zr_aald (n := 3) (k1 := 109) C dX11_copy_137 (Nat.le_of_ble_eq_true rfl) rfl rfl rfl (fun hb137 => ?_)
                      refine zr_iload_n C dX11_copy_138 rfl ?_
                      refine zr_aload_n C dX11_copy_139 rfl ?_
                      refine zf_X11_133 C (Nat.le_of_ble_eq_true rfl) dX11_copy_140 ?_
                      refine zr_iload_n C dX11_copy_143 rfl ?_
                      refine zr_aald (n := 3) (k1 := 109) C dX11_copy_144 (Nat.le_of_ble_eq_true rfl) rfl rfl rfl (fun hb144 => ?_)
                      refine zr_iload C dX11_copy_145 rfl ?_
                      refine zr_iload C dX11_copy_147 rfl ?_
                      refine zr_cpz (n0 := 60) (n1 := 60) C wz_1441 wz_1078 wz_1077 wz_19 hb137 hb144 (fun _ _ => rfl) (fun _ _ => rfl) (Nat.le_trans (by decide) hh) (by simp [Value.category]) dX11_copy_149 ?_
                      refine zr_iload C dX11_copy_152 rfl ?_
                      exact zr_iret C dX11_copy_154
                    · refine zr_bipush (v := -12) C dX11_copy_109 rfl ?_
                      exact zr_iret C dX11_copy_111
          · refine zr_bipush (v := -13) C dX11_copy_57 rfl ?_
            exact zr_iret C dX11_copy_59
        · refine zr_bipush (v := -11) C dX11_copy_39 rfl ?_
          exact zr_iret C dX11_copy_41
    · refine zr_bipush (v := -2) C dX11_copy_18 rfl ?_
      exact zr_iret C dX11_copy_20
end ZM
