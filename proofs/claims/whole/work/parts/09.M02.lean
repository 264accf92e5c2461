section ZM
variable {E : zEn} {cc : ByteArray} {own : String} {nL h : Nat} {ret : Option FieldType} {Z : zLay} {α : Type} {QQ : α → zMem → State → Prop} {pc : Nat} {L : List (Nat × Value)} {st : List Value} {σ : zMem} {o o1 o2 : Option (α × zMem)}
def f_X11_weather (F : Nat) (σ : zMem) (a1 : Int32) (a2 : Int32) (a3 : Int32) : Option (Int32 × zMem) := zb (f_X11_in F σ a1 0 7199) fun r5 m5 => if r5 = 0 then (some ((-1), m5)) else (zb (f_X11_in F m5 a2 0 1) fun r14 m14 => if r14 = 0 then (some ((-1), m14)) else (zb (f_X11_isSky F m14 a2 a3) fun r24 m24 => if r24 = 0 then (some ((-2), m24)) else (zg (inb a2 2) (zg (inb a1 7200) (zg (inb a2 2) (zg (zbo 1 && inb a1 7200) (some (1, (zwi (zwi m24 84 a2.toNatClampNeg a1.toNatClampNeg a3) 86 a2.toNatClampNeg a1.toNatClampNeg 1)))))))))
set_option maxHeartbeats 4000000 in
set_option maxRecDepth 100000 in
theorem c_X11_weather (l : Launch) (Z : zLay) (F : Nat) (σ : zMem) (a1 : Int32) (a2 : Int32) (a3 : Int32) (r : Int32) (σ1 : zMem) (ho : f_X11_weather F σ a1 a2 a3 = some (r, σ1)) : zMet l yX11_weather cX11_weather 4 (some .int) 3 Z [.ref (zad Z 60 0), .int (a1), .int (a2), .int (a3)] σ (zQI Z r σ1) := by
  refine zMet_of (Qc := zQI Z) (by decide) (Nat.le_of_ble_eq_true rfl) [(0, .ref (zad Z 60 0)), (1, .int (a1)), (2, .int (a2)), (3, .int (a3))] rfl (fun E C => ?_) ho
  have hh : 3 ≤ 3 := Nat.le_refl _
  show zKO E 4 Z (zMQ E Z (zQI Z)) 0 [(0, .ref (zad Z 60 0)), (1, .int (a1)), (2, .int (a2)), (3, .int (a3))] [] σ _
  unfold f_X11_weather
  refine zr_iload_n C dX11_weather_0 rfl ?_
  refine zr_iconst (v := 0) C dX11_weather_1 rfl ?_
  refine zr_sipush (v := 7199) C dX11_weather_2 rfl ?_
  refine zk_X11_163 C F (Nat.le_trans (by decide) hh) (by simp [Value.category]) dX11_weather_5 (fun r5 m5 => ?_)
  refine zr_if_eq (tgt := 20) C dX11_weather_8 (by decide) ?_ ?_
  · refine zr_iconst (v := -1) C dX11_weather_20 rfl ?_
    exact zr_iret C dX11_weather_21
  · refine zr_iload_n C dX11_weather_11 rfl ?_
    refine zr_iconst (v := 0) C dX11_weather_12 rfl ?_
    refine zr_iconst (v := 1) C dX11_weather_13 rfl ?_
    refine zk_X11_163 C F (Nat.le_trans (by decide) hh) (by simp [Value.category]) dX11_weather_14 (fun r14 m14 => ?_)
    refine zr_if_ne (tgt := 22) C dX11_weather_17 (by decide) ?_ ?_
    · refine zr_iload_n C dX11_weather_22 rfl ?_
      refine zr_iload_n C dX11_weather_23 rfl ?_
      refine zk_X11_354 C F (Nat.le_trans (by decide) hh) (by simp [Value.category]) dX11_weather_24 (fun r24 m24 => ?_)
      refine zr_if_ne (tgt := 33) C dX11_weather_27 (by decide) ?_ ?_
      · refine zr_aload_n C dX11_weather_33 rfl ?_
        refine zf_X11_66 C (Nat.le_of_ble_eq_true rfl) dX11_weather_34 ?_
        refine zr_iload_n C dX11_weather_37 rfl ?_
        refine zr_aald (n := 2) (k1 := 84) C dX11_weather_38 (Nat.le_of_ble_eq_true rfl) rfl rfl rfl (fun hb38 => ?_)
        refine zr_iload_n C dX11_weather_39 rfl ?_
        refine zr_iload_n C dX11_weather_40 rfl ?_
        refine zr_iast (n := 7200) C dX11_weather_41 hb38 (fun _ _ => rfl) ?_
        refine zr_aload_n C dX11_weather_42 rfl ?_
        refine zf_X11_71 C (Nat.le_of_ble_eq_true rfl) dX11_weather_43 ?_
        refine zr_iload_n C dX11_weather_46 rfl ?_
        refine zr_aald (n := 2) (k1 := 86) C dX11_weather_47 (Nat.le_of_ble_eq_true rfl) rfl rfl rfl (fun hb47 => ?_)
        refine zr_iload_n C dX11_weather_48 rfl ?_
        refine zr_iconst (v := 1) C dX11_weather_49 rfl ?_
        refine zr_zast (n := 7200) C dX11_weather_50 hb47 (fun _ _ => rfl) ?_
        refine zr_iconst (v := 1) C dX11_weather_51 rfl ?_
        exact zr_iret C dX11_weather_52
      · refine zr_bipush (v := -2) C dX11_weather_30 rfl ?_
        exact zr_iret C dX11_weather_32
    · refine zr_iconst (v := -1) C dX11_weather_20 rfl ?_
      exact zr_iret C dX11_weather_21
def f_X11_sky_114 (F : Nat) (rec114 : zMem → Int32 × Int32 × Int32 × Int32 × Int32 × Int32 × Int32 → Option (Int32 × zMem)) (σ : zMem) (x : Int32 × Int32 × Int32 × Int32 × Int32 × Int32 × Int32) : Option (Int32 × zMem) := if x.2.2.2.2.1 ≤ x.2.2.2.2.2.2 then (some (x.2.2.2.2.2.1, σ)) else (zg (inb x.2.2.1 3) (zg (inb ((x.2.2.2.1 + x.2.2.2.2.2.2)) 60) (zg (zni 4) (zg (inb x.2.2.1 3) (zg (inb ((x.2.2.2.1 + x.2.2.2.2.2.2)) 60) (if (σ.1 109 x.2.2.1.toNatClampNeg ((x.2.2.2.1 + x.2.2.2.2.2.2)).toNatClampNeg) = 0 then (zb (f_X11_isSky F σ x.2.1 (((σ.1 107 x.2.2.1.toNatClampNeg ((x.2.2.2.1 + x.2.2.2.2.2.2)).toNatClampNeg) / 4))) fun r155 m155 => if r155 = 0 then (rec114 m155 ((x.1, x.2.1, x.2.2.1, x.2.2.2.1, x.2.2.2.2.1, x.2.2.2.2.2.1, (x.2.2.2.2.2.2 + 1)))) else (zg (inb x.2.1 2) (zg (inb ((x.1 + x.2.2.2.2.2.2)) 7200) (zg (inb x.2.1 2) (zg (zbo 1 && inb ((x.1 + x.2.2.2.2.2.2)) 7200) (rec114 (zwi (zwi m155 84 x.2.1.toNatClampNeg ((x.1 + x.2.2.2.2.2.2)).toNatClampNeg (((σ.1 107 x.2.2.1.toNatClampNeg ((x.2.2.2.1 + x.2.2.2.2.2.2)).toNatClampNeg) / 4))) 86 x.2.1.toNatClampNeg ((x.1 + x.2.2.2.2.2.2)).toNatClampNeg 1) ((x.1, x.2.1, x.2.2.1, x.2.2.2.1, x.2.2.2.2.1, (x.2.2.2.2.2.1 + 1), (x.2.2.2.2.2.2 + 1))))))))) else (rec114 σ ((x.1, x.2.1, x.2.2.1, x.2.2.2.1, x.2.2.2.2.1, x.2.2.2.2.2.1, (x.2.2.2.2.2.2 + 1))))))))))
set_option maxHeartbeats 4000000 in
set_option maxRecDepth 100000 in
theorem c_X11_sky_114 (F : Nat) {E : zEn} {h : Nat} {Z : zLay} (C : zCx E cX11_sky RX11 9 (some .int) Z h) (hh : 3 ≤ h) : ∀ (n : Nat) (σ : zMem) (x : Int32 × Int32 × Int32 × Int32 × Int32 × Int32 × Int32), zKO E 9 Z (zMQ E Z (zQI Z)) 114 [(0, .ref (zad Z 60 0)), (1, .int x.1), (2, .int x.2.1), (3, .int x.2.2.1), (4, .int x.2.2.2.1), (5, .int x.2.2.2.2.1), (6, .int x.2.2.2.2.2.1), (7, .int x.2.2.2.2.2.2)] [] σ (zit (f_X11_sky_114 F) n σ x) := by
  refine zr_loop (LL := fun (x : Int32 × Int32 × Int32 × Int32 × Int32 × Int32 × Int32) => [(0, .ref (zad Z 60 0)), (1, .int x.1), (2, .int x.2.1), (3, .int x.2.2.1), (4, .int x.2.2.2.1), (5, .int x.2.2.2.2.1), (6, .int x.2.2.2.2.2.1), (7, .int x.2.2.2.2.2.2)]) (ST := fun (x : Int32 × Int32 × Int32 × Int32 × Int32 × Int32 × Int32) => []) (fun rec114 hrec114 σ x => ?_)
  obtain ⟨l1, l2, l3, l4, l5, l6, l7⟩ := x
  show zKO E 9 Z (zMQ E Z (zQI Z)) 114 [(0, .ref (zad Z 60 0)), (1, .int l1), (2, .int l2), (3, .int l3), (4, .int l4), (5, .int l5), (6, .int l6), (7, .int l7)] [] σ (if l5 ≤ l7 then (some (l6, σ)) else (zg (inb l3 3) (zg (inb ((l4 + l7)) 60) (zg (zni 4) (zg (inb l3 3) (zg (inb ((l4 + l7)) 60) (if (σ.1 109 l3.toNatClampNeg ((l4 + l7)).toNatClampNeg) = 0 then (zb (f_X11_isSky F σ l2 (((σ.1 107 l3.toNatClampNeg ((l4 + l7)).toNatClampNeg) / 4))) fun r155 m155 => if r155 = 0 then (rec114 m155 ((l1, l2, l3, l4, l5, l6, (l7 + 1)))) else (zg (inb l2 2) (zg (inb ((l1 + l7)) 7200) (zg (inb l2 2) (zg (zbo 1 && inb ((l1 + l7)) 7200) (rec114 (zwi (zwi m155 84 l2.toNatClampNeg ((l1 + l7)).toNatClampNeg (((σ.1 107 l3.toNatClampNeg ((l4 + l7)).toNatClampNeg) / 4))) 86 l2.toNatClampNeg ((l1 + l7)).toNatClampNeg 1) ((l1, l2, l3, l4, l5, (l6 + 1), (l7 + 1))))))))) else (rec114 σ ((l1, l2, l3, l4, l5, l6, (l7 + 1)))))))))))
  refine zr_iload C dX11_sky_114 rfl ?_
  refine zr_iload C dX11_sky_116 rfl ?_
  refine zr_icmp_ge (tgt := 195) C dX11_sky_118 (by decide) ?_ ?_
  · refine zr_iload C dX11_sky_195 rfl ?_
    exact zr_iret C dX11_sky_197
  · refine zr_aload_n C dX11_sky_121 rfl ?_
    refine zf_X11_130 C (Nat.le_of_ble_eq_true rfl) dX11_sky_122 ?_
    refine zr_iload_n C dX11_sky_125 rfl ?_
    refine zr_aald (n := 3) (k1 := 107) C dX11_sky_126 (Nat.le_of_ble_eq_true rfl) rfl rfl rfl (fun hb126 => ?_)
    refine zr_iload C dX11_sky_127 rfl ?_
    refine zr_iload C dX11_sky_129 rfl ?_
    refine zr_iadd C dX11_sky_131 ?_
    refine zr_iald (n := 60) C dX11_sky_132 hb126 rfl ?_
    refine zr_iconst (v := 4) C dX11_sky_133 rfl ?_
    refine zr_idiv C dX11_sky_134 ?_
    refine zr_istore (i := 8) (L1 := [(8, .int _), (0, .ref _), (1, .int _), (2, .int _), (3, .int _), (4, .int _), (5, .int _), (6, .int _), (7, .int _)]) C dX11_sky_135 (by decide) rfl ?_
    refine zr_aload_n C dX11_sky_137 rfl ?_
    refine zf_X11_133 C (Nat.le_of_ble_eq_true rfl) dX11_sky_138 ?_
    refine zr_iload_n C dX11_sky_141 rfl ?_
    refine zr_aald (n := 3) (k1 := 109) C dX11_sky_142 (Nat.le_of_ble_eq_true rfl) rfl rfl rfl (fun hb142 => ?_)
    refine zr_iload C dX11_sky_143 rfl ?_
    refine zr_iload C dX11_sky_145 rfl ?_
    refine zr_iadd C dX11_sky_147 ?_
    refine zr_zald (n := 60) C dX11_sky_148 hb142 rfl ?_
    refine zr_if_ne (tgt := 189) C dX11_sky_149 (by decide) ?_ ?_
    · refine zr_iinc (kk := 8) (v := (l7 + 1)) (L1 := [(7, .int _), (8, .int _), (0, .ref _), (1, .int _), (2, .int _), (3, .int _), (4, .int _), (5, .int _), (6, .int _)]) C dX11_sky_189 rfl rfl (by decide) rfl ?_
      refine zr_goto (tgt := 114) C dX11_sky_192 (by decide) ?_
      exact zr_sub [2, 3, 4, 5, 6, 7, 8, 0] rfl (hrec114 σ ((l1, l2, l3, l4, l5, l6, (l7 + 1))))
    · refine zr_iload_n C dX11_sky_152 rfl ?_
      refine zr_iload C dX11_sky_153 rfl ?_
      refine zk_X11_354 C F (Nat.le_trans (by decide) hh) (by simp [Value.category]) dX11_sky_155 (fun r155 m155 => ?_)
      refine zr_if_eq (tgt := 189) C dX11_sky_158 (by decide) ?_ ?_
      · refine zr_iinc (kk := 8) (v := (l7 + 1)) (L1 := [(7, .int _), (8, .int _), (0, .ref _), (1, .int _), (2, .int _), (3, .int _), (4, .int _), (5, .int _), (6, .int _)]) C dX11_sky_189 rfl rfl (by decide) rfl ?_
        refine zr_goto (tgt := 114) C dX11_sky_192 (by decide) ?_
        exact zr_sub [2, 3, 4, 5, 6, 7, 8, 0] rfl (hrec114 m155 ((l1, l2, l3, l4, l5, l6, (l7 + 1))))
      · refine zr_aload_n C dX11_sky_161 rfl ?_
        refine zf_X11_66 C (Nat.le_of_ble_eq_true rfl) dX11_sky_162 ?_
        refine zr_iload_n C dX11_sky_165 rfl ?_
        refine zr_aald (n := 2) (k1 := 84) C dX11_sky_166 (Nat.le_of_ble_eq_true rfl) rfl rfl rfl (fun hb166 => ?_)
        refine zr_iload_n C dX11_sky_167 rfl ?_
        refine zr_iload C dX11_sky_168 rfl ?_
        refine zr_iadd C dX11_sky_170 ?_
        refine zr_iload C dX11_sky_171 rfl ?_
        refine zr_iast (n := 7200) C dX11_sky_173 hb166 (fun _ _ => rfl) ?_
        refine zr_aload_n C dX11_sky_174 rfl ?_
        refine zf_X11_71 C (Nat.le_of_ble_eq_true rfl) dX11_sky_175 ?_
        refine zr_iload_n C dX11_sky_178 rfl ?_
        refine zr_aald (n := 2) (k1 := 86) C dX11_sky_179 (Nat.le_of_ble_eq_true rfl) rfl rfl rfl (fun hb179 => ?_)
        refine zr_iload_n C dX11_sky_180 rfl ?_
        refine zr_iload C dX11_sky_181 rfl ?_
        refine zr_iadd C dX11_sky_183 ?_
        refine zr_iconst (v := 1) C dX11_sky_184 rfl ?_
        refine zr_zast (n := 7200) C dX11_sky_185 hb179 (fun _ _ => rfl) ?_
        refine zr_iinc (kk := 7) (v := (l6 + 1)) (L1 := [(6, .int _), (8, .int _), (0, .ref _), (1, .int _), (2, .int _), (3, .int _), (4, .int _), (5, .int _), (7, .int _)]) C dX11_sky_186 rfl rfl (by decide) rfl ?_
        refine zr_iinc (kk := 8) (v := (l7 + 1)) (L1 := [(7, .int _), (6, .int _), (8, .int _), (0, .ref _), (1, .int _), (2, .int _), (3, .int _), (4, .int _), (5, .int _)]) C dX11_sky_189 rfl rfl (by decide) rfl ?_
        refine zr_goto (tgt := 114) C dX11_sky_192 (by decide) ?_
        exact zr_sub [3, 4, 5, 6, 7, 8, 1, 0] rfl (hrec114 (zwi (zwi m155 84 l2.toNatClampNeg ((l1 + l7)).toNatClampNeg (((σ.1 107 l3.toNatClampNeg ((l4 + l7)).toNatClampNeg) / 4))) 86 l2.toNatClampNeg ((l1 + l7)).toNatClampNeg 1) ((l1, l2, l3, l4, l5, (l6 + 1), (l7 + 1))))
def f_X11_sky (F : Nat) (σ : zMem) (a1 : Int32) (a2 : Int32) (a3 : Int32) (a4 : Int32) (a5 : Int32) : Option (Int32 × zMem) := zb (f_X11_in F σ a1 0 7199) fun r5 m5 => if r5 = 0 then (some ((-1), m5)) else (zb (f_X11_in F m5 a2 0 1) fun r14 m14 => if r14 = 0 then (some ((-1), m14)) else (zb (f_X11_in F m14 a3 0 2) fun r23 m23 => if r23 = 0 then (some ((-1), m23)) else (if a5 < 0 then (some ((-2), m23)) else (if a5 ≤ (7200 - a1) then (if a5 = 0 then (some (0, m23)) else (zg (inb a3 3) (if (m23.1 104 0 a3.toNatClampNeg) = (-1) then (some ((-11), m23)) else (zg (inb a3 3) (if (m23.1 104 0 a3.toNatClampNeg) = 2 then (if a4 < 0 then (some ((-12), m23)) else (zg (inb a3 3) (if (lg_cmp (((a4.toInt64) + (a5.toInt64))) ((((m23.1 105 0 a3.toNatClampNeg)).toInt64))) ≤ 0 then (zit (f_X11_sky_114 F) F m23 ((a1, a2, a3, a4, a5, 0, 0))) else (some ((-12), m23))))) else (some ((-13), m23))))))) else (some ((-2), m23))))))
set_option maxHeartbeats 4000000 in
set_option maxRecDepth 100000 in
theorem c_X11_sky (l : Launch) (Z : zLay) (F : Nat) (σ : zMem) (a1 : Int32) (a2 : Int32) (a3 : Int32) (a4 : Int32) (a5 : Int32) (r : Int32) (σ1 : zMem) (ho : f_X11_sky F σ a1 a2 a3 a4 a5 = some (r, σ1)) : zMet l yX11_sky cX11_sky 9 (some .int) 3 Z [.ref (zad Z 60 0), .int (a1), .int (a2), .int (a3), .int (a4), .int (a5)] σ (zQI Z r σ1) := by
  refine zMet_of (Qc := zQI Z) (by decide) (Nat.le_of_ble_eq_true rfl) [(0, .ref (zad Z 60 0)), (1, .int (a1)), (2, .int (a2)), (3, .int (a3)), (4, .int (a4)), (5, .int (a5))] rfl (fun E C => ?_) ho
  have hh : 3 ≤ 3 := Nat.le_refl _
  show zKO E 9 Z (zMQ E Z (zQI Z)) 0 [(0, .ref (zad Z 60 0)), (1, .int (a1)), (2, .int (a2)), (3, .int (a3)), (4, .int (a4)), (5, .int (a5))] [] σ _
  unfold f_X11_sky
  refine zr_iload_n C dX11_sky_0 rfl ?_
  refine zr_iconst (v := 0) C dX11_sky_1 rfl ?_
  refine zr_sipush (v := 7199) C dX11_sky_2 rfl ?_
  refine zk_X11_163 C F (Nat.le_trans (by decide) hh) (by simp [Value.category]) dX11_sky_5 (fun r5 m5 => ?_)
  refine zr_if_eq (tgt := 29) C dX11_sky_8 (by decide) ?_ ?_
  · refine zr_iconst (v := -1) C dX11_sky_29 rfl ?_
    exact zr_iret C dX11_sky_30
  · refine zr_iload_n C dX11_sky_11 rfl ?_
    refine zr_iconst (v := 0) C dX11_sky_12 rfl ?_
    refine zr_iconst (v := 1) C dX11_sky_13 rfl ?_
    refine zk_X11_163 C F (Nat.le_trans (by decide) hh) (by simp [Value.category]) dX11_sky_14 (fun r14 m14 => ?_)
    refine zr_if_eq (tgt := 29) C dX11_sky_17 (by decide) ?_ ?_
    · refine zr_iconst (v := -1) C dX11_sky_29 rfl ?_
      exact zr_iret C dX11_sky_30
    · refine zr_iload_n C dX11_sky_20 rfl ?_
      refine zr_iconst (v := 0) C dX11_sky_21 rfl ?_
      refine zr_iconst (v := 2) C dX11_sky_22 rfl ?_
      refine zk_X11_163 C F (Nat.le_trans (by decide) hh) (by simp [Value.category]) dX11_sky_23 (fun r23 m23 => ?_)
      refine zr_if_ne (tgt := 31) C dX11_sky_26 (by decide) ?_ ?_
      · refine zr_iload C dX11_sky_31 rfl ?_
        refine zr_if_lt (tgt := 46) C dX11_sky_33 (by decide) ?_ ?_
        · refine zr_bipush (v := -2) C dX11_sky_46 rfl ?_
          exact zr_iret C dX11_sky_48
        · refine zr_iload C dX11_sky_36 rfl ?_
          refine zr_sipush (v := 7200) C dX11_sky_38 rfl ?_
          refine zr_iload_n C dX11_sky_41 rfl ?_
          refine zr_isub C dX11_sky_42 ?_
          refine zr_icmp_le (tgt := 49) C dX11_sky_43 (by decide) ?_ ?_
          · refine zr_iload C dX11_sky_49 rfl ?_
            refine zr_if_ne (tgt := 56) C dX11_sky_51 (by decide) ?_ ?_
            · refine zr_aload_n C dX11_sky_56 rfl ?_
              refine zf_X11_124 C (Nat.le_of_ble_eq_true rfl) dX11_sky_57 ?_
              refine zr_iload_n C dX11_sky_60 rfl ?_
              refine zr_iald (n := 3) C dX11_sky_61 (Nat.le_of_ble_eq_true rfl) rfl ?_
              refine zr_iconst (v := -1) C dX11_sky_62 rfl ?_
              refine zr_icmp_ne (tgt := 69) C dX11_sky_63 (by decide) ?_ ?_
              · refine zr_aload_n C dX11_sky_69 rfl ?_
                refine zf_X11_124 C (Nat.le_of_ble_eq_true rfl) dX11_sky_70 ?_
                refine zr_iload_n C dX11_sky_73 rfl ?_
                refine zr_iald (n := 3) C dX11_sky_74 (Nat.le_of_ble_eq_true rfl) rfl ?_
                refine zr_iconst (v := 2) C dX11_sky_75 rfl ?_
                refine zr_icmp_eq (tgt := 82) C dX11_sky_76 (by decide) ?_ ?_
                · refine zr_iload C dX11_sky_82 rfl ?_
                  refine zr_if_lt (tgt := 105) C dX11_sky_84 (by decide) ?_ ?_
                  · refine zr_bipush (v := -12) C dX11_sky_105 rfl ?_
                    exact zr_iret C dX11_sky_107
                  · refine zr_iload C dX11_sky_87 rfl ?_
                    refine zr_i2l C dX11_sky_89 ?_
                    refine zr_iload C dX11_sky_90 rfl ?_
                    refine zr_i2l C dX11_sky_92 ?_
                    refine zr_ladd C dX11_sky_93 ?_
                    refine zr_aload_n C dX11_sky_94 rfl ?_
                    refine zf_X11_127 C (Nat.le_of_ble_eq_true rfl) dX11_sky_95 ?_
                    refine zr_iload_n C dX11_sky_98 rfl ?_
                    refine zr_iald (n := 3) C dX11_sky_99 (Nat.le_of_ble_eq_true rfl) rfl ?_
                    refine zr_i2l C dX11_sky_100 ?_
                    refine zr_lcmp C dX11_sky_101 ?_
                    refine zr_if_le (tgt := 108) C dX11_sky_102 (by decide) ?_ ?_
                    · refine zr_iconst (v := 0) C dX11_sky_108 rfl ?_
                      refine zr_istore (i := 6) (L1 := [(6, .int _), (0, .ref _), (1, .int _), (2, .int _), (3, .int _), (4, .int _), (5, .int _)]) C dX11_sky_109 (by decide) rfl ?_
                      refine zr_iconst (v := 0) C dX11_sky_111 rfl ?_
                      refine zr_istore (i := 7) (L1 := [(7, .int _), (6, .int _), (0, .ref _), (1, .int _), (2, .int _), (3, .int _), (4, .int _), (5, .int _)]) C dX11_sky_112 (by decide) rfl ?_
                      exact zr_sub [2, 3, 4, 5, 6, 7, 1, 0] rfl (c_X11_sky_114 F C hh F m23 ((a1, a2, a3, a4, a5, 0, 0)))
                    · refine zr_bipush (v := -12) C dX11_sky_105 rfl ?_
                      exact zr_iret C dX11_sky_107
                · refine zr_bipush (v := -13) C dX11_sky_79 rfl ?_
                  exact zr_iret C dX11_sky_81
              · refine zr_bipush (v := -11) C dX11_sky_66 rfl ?_
                exact zr_iret C dX11_sky_68
            · refine zr_iconst (v := 0) C dX11_sky_54 rfl ?_
              exact zr_iret C dX11_sky_55
          · refine zr_bipush (v := -2) C dX11_sky_46 rfl ?_
            exact zr_iret C dX11_sky_48
      · refine zr_iconst (v := -1) C dX11_sky_29 rfl ?_
        exact zr_iret C dX11_sky_30
def f_X11_skyAt_2 (F : Nat) (rec2 : zMem → Int32 × Int32 → Option (Int32 × zMem)) (σ : zMem) (x : Int32 × Int32) : Option (Int32 × zMem) := if x.2 < 0 then (if x.1 = 0 then (some (5, σ)) else (some (0, σ))) else (zg (inb x.1 2) (zg (inb x.2 7200) (if (σ.1 86 x.1.toNatClampNeg x.2.toNatClampNeg) = 0 then (rec2 σ ((x.1, (x.2 + (-1))))) else (zg (inb x.1 2) (zg (inb x.2 7200) (some ((σ.1 84 x.1.toNatClampNeg x.2.toNatClampNeg), σ)))))))
set_option maxHeartbeats 4000000 in
set_option maxRecDepth 100000 in
theorem c_X11_skyAt_2 (F : Nat) {E : zEn} {h : Nat} {Z : zLay} (C : zCx E cX11_skyAt RX11 4 (some .int) Z h) (hh : 1 ≤ h) : ∀ (n : Nat) (σ : zMem) (x : Int32 × Int32), zKO E 4 Z (zMQ E Z (zQI Z)) 2 [(0, .ref (zad Z 60 0)), (2, .int x.1), (3, .int x.2)] [] σ (zit (f_X11_skyAt_2 F) n σ x) := by
  refine zr_loop (LL := fun (x : Int32 × Int32) => [(0, .ref (zad Z 60 0)), (2, .int x.1), (3, .int x.2)]) (ST := fun (x : Int32 × Int32) => []) (fun rec2 hrec2 σ x => ?_)
  obtain ⟨l2, l3⟩ := x
  show zKO E 4 Z (zMQ E Z (zQI Z)) 2 [(0, .ref (zad Z 60 0)), (2, .int l2), (3, .int l3)] [] σ (if l3 < 0 then (if l2 = 0 then (some (5, σ)) else (some (0, σ))) else (zg (inb l2 2) (zg (inb l3 7200) (if (σ.1 86 l2.toNatClampNeg l3.toNatClampNeg) = 0 then (rec2 σ ((l2, (l3 + (-1))))) else (zg (inb l2 2) (zg (inb l3 7200) (some ((σ.1 84 l2.toNatClampNeg l3.toNatClampNeg), σ))))))))
  refine zr_iload_n C dX11_skyAt_2 rfl ?_
  refine zr_if_lt (tgt := 32) C dX11_skyAt_3 (by decide) ?_ ?_
  · refine zr_iload_n C dX11_skyAt_32 rfl ?_
    refine zr_if_ne (tgt := 40) C dX11_skyAt_33 (by decide) ?_ ?_
    · refine zr_iconst (v := 0) C dX11_skyAt_40 rfl ?_
      exact zr_iret C dX11_skyAt_41
    · refine zr_iconst (v := 5) C dX11_skyAt_36 rfl ?_
      refine zr_goto (tgt := 41) C dX11_skyAt_37 (by decide) ?_
      exact zr_iret C dX11_skyAt_41
  · refine zr_aload_n C dX11_skyAt_6 rfl ?_
    refine zf_X11_71 C (Nat.le_of_ble_eq_true rfl) dX11_skyAt_7 ?_
    refine zr_iload_n C dX11_skyAt_10 rfl ?_
    refine zr_aald (n := 2) (k1 := 86) C dX11_skyAt_11 (Nat.le_of_ble_eq_true rfl) rfl rfl rfl (fun hb11 => ?_)
    refine zr_iload_n C dX11_skyAt_12 rfl ?_
    refine zr_zald (n := 7200) C dX11_skyAt_13 hb11 rfl ?_
    refine zr_if_eq (tgt := 26) C dX11_skyAt_14 (by decide) ?_ ?_
    · refine zr_iinc (kk := 2) (v := (l3 + (-1))) (L1 := [(3, .int _), (0, .ref _), (2, .int _)]) C dX11_skyAt_26 rfl rfl (by decide) rfl ?_
      refine zr_goto (tgt := 2) C dX11_skyAt_29 (by decide) ?_
      exact zr_sub [1, 2, 0] rfl (hrec2 σ ((l2, (l3 + (-1)))))
    · refine zr_aload_n C dX11_skyAt_17 rfl ?_
      refine zf_X11_66 C (Nat.le_of_ble_eq_true rfl) dX11_skyAt_18 ?_
      refine zr_iload_n C dX11_skyAt_21 rfl ?_
      refine zr_aald (n := 2) (k1 := 84) C dX11_skyAt_22 (Nat.le_of_ble_eq_true rfl) rfl rfl rfl (fun hb22 => ?_)
      refine zr_iload_n C dX11_skyAt_23 rfl ?_
      refine zr_iald (n := 7200) C dX11_skyAt_24 hb22 rfl ?_
      exact zr_iret C dX11_skyAt_25
def f_X11_skyAt (F : Nat) (σ : zMem) (a1 : Int32) (a2 : Int32) : Option (Int32 × zMem) := zit (f_X11_skyAt_2 F) F σ ((a2, a1))
set_option maxHeartbeats 4000000 in
set_option maxRecDepth 100000 in
theorem c_X11_skyAt (l : Launch) (Z : zLay) (F : Nat) (σ : zMem) (a1 : Int32) (a2 : Int32) (r : Int32) (σ1 : zMem) (ho : f_X11_skyAt F σ a1 a2 = some (r, σ1)) : zMet l yX11_skyAt cX11_skyAt 4 (some .int) 1 Z [.ref (zad Z 60 0), .int (a1), .int (a2)] σ (zQI Z r σ1) := by
  refine zMet_of (Qc := zQI Z) (by decide) (Nat.le_of_ble_eq_true rfl) [(0, .ref (zad Z 60 0)), (1, .int (a1)), (2, .int (a2))] rfl (fun E C => ?_) ho
  have hh : 1 ≤ 1 := Nat.le_refl _
  show zKO E 4 Z (zMQ E Z (zQI Z)) 0 [(0, .ref (zad Z 60 0)), (1, .int (a1)), (2, .int (a2))] [] σ _
  unfold f_X11_skyAt
  refine zr_iload_n C dX11_skyAt_0 rfl ?_
  refine zr_istore_n (i := 3) (L1 := [(3, .int _), (0, .ref _), (1, .int _), (2, .int _)]) C dX11_skyAt_1 rfl (by decide) rfl ?_
  exact zr_sub [1, 3, 0] rfl (c_X11_skyAt_2 F C hh F σ ((a2, a1)))
theorem zk_X11_357 (C : zCx E cc RX11 nL ret Z h) (F : Nat) {b0 : Int32} {b1 : Int32} (hk : 0 < zN 60) (hh : 1 + 1 ≤ h) (hst8 : (st.map fun v => v.category).sum ≤ 8) (hd : decode cc pc = .ok (.invokevirtual 357, 3)) {g : Int32 → zMem → Option (α × zMem)} (kk : ∀ (r : Int32) (σ1 : zMem), zKO E nL Z QQ (pc + 3) L (.int r :: st) σ1 (g r σ1)) : zKO E nL Z QQ pc L (.int b1 :: .int b0 :: .ref (zad Z 60 0) :: st) σ (zb (f_X11_skyAt F σ b0 b1) g) :=
  zr_callVI (As := [.int b0, .int b1]) (ia := 2) C (fun r σ1 ho => c_X11_skyAt (zla E) Z F σ b0 b1 r σ1 ho) wz_1499 hk rfl rfl wz_p103 wz_1501 wz_1502 wz_12 (by decide +kernel) rfl (by decide) hh hd hst8 kk
def f_X11_skyOf (F : Nat) (σ : zMem) (a1 : Int32) (a2 : Int32) : Option (Int32 × zMem) := zb (f_X11_in F σ a1 0 7199) fun r5 m5 => if r5 = 0 then (some ((-1000), m5)) else (zb (f_X11_in F m5 a2 0 1) fun r14 m14 => if r14 = 0 then (some ((-1000), m14)) else (zb (f_X11_skyAt F m14 a1 a2) fun r23 m23 => some (r23, m23)))
set_option maxHeartbeats 4000000 in
set_option maxRecDepth 100000 in
theorem c_X11_skyOf (l : Launch) (Z : zLay) (F : Nat) (σ : zMem) (a1 : Int32) (a2 : Int32) (r : Int32) (σ1 : zMem) (ho : f_X11_skyOf F σ a1 a2 = some (r, σ1)) : zMet l yX11_skyOf cX11_skyOf 3 (some .int) 2 Z [.ref (zad Z 60 0), .int (a1), .int (a2)] σ (zQI Z r σ1) := by
  refine zMet_of (Qc := zQI Z) (by decide) (Nat.le_of_ble_eq_true rfl) [(0, .ref (zad Z 60 0)), (1, .int (a1)), (2, .int (a2))] rfl (fun E C => ?_) ho
  have hh : 2 ≤ 2 := Nat.le_refl _
  show zKO E 3 Z (zMQ E Z (zQI Z)) 0 [(0, .ref (zad Z 60 0)), (1, .int (a1)), (2, .int (a2))] [] σ _
  unfold f_X11_skyOf
  refine zr_iload_n C dX11_skyOf_0 rfl ?_
  refine zr_iconst (v := 0) C dX11_skyOf_1 rfl ?_
  refine zr_sipush (v := 7199) C dX11_skyOf_2 rfl ?_
  refine zk_X11_163 C F (Nat.le_trans (by decide) hh) (by simp [Value.category]) dX11_skyOf_5 (fun r5 m5 => ?_)
  refine zr_if_eq (tgt := 29) C dX11_skyOf_8 (by decide) ?_ ?_
  · refine zr_sipush (v := -1000) C dX11_skyOf_29 rfl ?_
    exact zr_iret C dX11_skyOf_32
  · refine zr_iload_n C dX11_skyOf_11 rfl ?_
    refine zr_iconst (v := 0) C dX11_skyOf_12 rfl ?_
    refine zr_iconst (v := 1) C dX11_skyOf_13 rfl ?_
    refine zk_X11_163 C F (Nat.le_trans (by decide) hh) (by simp [Value.category]) dX11_skyOf_14 (fun r14 m14 => ?_)
    refine zr_if_eq (tgt := 29) C dX11_skyOf_17 (by decide) ?_ ?_
    · refine zr_sipush (v := -1000) C dX11_skyOf_29 rfl ?_
      exact zr_iret C dX11_skyOf_32
    · refine zr_aload_n C dX11_skyOf_20 rfl ?_
      refine zr_iload_n C dX11_skyOf_21 rfl ?_
      refine zr_iload_n C dX11_skyOf_22 rfl ?_
      refine zk_X11_357 C F (Nat.le_of_ble_eq_true rfl) (Nat.le_trans (by decide) hh) (by simp [Value.category]) dX11_skyOf_23 (fun r23 m23 => ?_)
      refine zr_goto (tgt := 32) C dX11_skyOf_26 (by decide) ?_
      exact zr_iret C dX11_skyOf_32
def f_X11_alp (F : Nat) (σ : zMem) (a1 : Int32) (a2 : Int32) : Option (Int32 × zMem) := zb (f_X11_in F σ a1 0 3) fun r3 m3 => if r3 = 0 then (some ((-2), m3)) else (zb (f_X11_in F m3 a2 1 99) fun r13 m13 => if r13 = 0 then (some ((-2), m13)) else (if (m13.1 60 0 25) = 4 then (some ((-4), m13)) else (zg (inb ((m13.1 60 0 25)) 4) (zg (inb (((zwi m13 87 0 ((m13.1 60 0 25)).toNatClampNeg a1).1 60 0 25)) 4) (some (((zwi (zwi m13 87 0 ((m13.1 60 0 25)).toNatClampNeg a1) 88 0 (((zwi m13 87 0 ((m13.1 60 0 25)).toNatClampNeg a1).1 60 0 25)).toNatClampNeg a2).1 60 0 25), (zwi (zwi (zwi m13 87 0 ((m13.1 60 0 25)).toNatClampNeg a1) 88 0 (((zwi m13 87 0 ((m13.1 60 0 25)).toNatClampNeg a1).1 60 0 25)).toNatClampNeg a2) 60 0 25 ((((zwi (zwi m13 87 0 ((m13.1 60 0 25)).toNatClampNeg a1) 88 0 (((zwi m13 87 0 ((m13.1 60 0 25)).toNatClampNeg a1).1 60 0 25)).toNatClampNeg a2).1 60 0 25) + 1)))))))))
set_option maxHeartbeats 4000000 in
set_option maxRecDepth 100000 in
theorem c_X11_alp (l : Launch) (Z : zLay) (F : Nat) (σ : zMem) (a1 : Int32) (a2 : Int32) (r : Int32) (σ1 : zMem) (ho : f_X11_alp F σ a1 a2 = some (r, σ1)) : zMet l yX11_alp cX11_alp 3 (some .int) 2 Z [.ref (zad Z 60 0), .int (a1), .int (a2)] σ (zQI Z r σ1) := by
  refine zMet_of (Qc := zQI Z) (by decide) (Nat.le_of_ble_eq_true rfl) [(0, .ref (zad Z 60 0)), (1, .int (a1)), (2, .int (a2))] rfl (fun E C => ?_) ho
  have hh : 2 ≤ 2 := Nat.le_refl _
  show zKO E 3 Z (zMQ E Z (zQI Z)) 0 [(0, .ref (zad Z 60 0)), (1, .int (a1)), (2, .int (a2))] [] σ _
  unfold f_X11_alp
  refine zr_iload_n C dX11_alp_0 rfl ?_
  refine zr_iconst (v := 0) C dX11_alp_1 rfl ?_
  refine zr_iconst (v := 3) C dX11_alp_2 rfl ?_
  refine zk_X11_163 C F (Nat.le_trans (by decide) hh) (by simp [Value.category]) dX11_alp_3 (fun r3 m3 => ?_)
  refine zr_if_eq (tgt := 19) C dX11_alp_6 (by decide) ?_ ?_
  · refine zr_bipush (v := -2) C dX11_alp_19 rfl ?_
    exact zr_iret C dX11_alp_21
  · refine zr_iload_n C dX11_alp_9 rfl ?_
    refine zr_iconst (v := 1) C dX11_alp_10 rfl ?_
    refine zr_bipush (v := 99) C dX11_alp_11 rfl ?_
    refine zk_X11_163 C F (Nat.le_trans (by decide) hh) (by simp [Value.category]) dX11_alp_13 (fun r13 m13 => ?_)
    refine zr_if_ne (tgt := 22) C dX11_alp_16 (by decide) ?_ ?_
    · refine zr_aload_n C dX11_alp_22 rfl ?_
      refine zf_X11_170 C (Nat.le_of_ble_eq_true rfl) dX11_alp_23 ?_
      refine zr_iconst (v := 4) C dX11_alp_26 rfl ?_
      refine zr_icmp_ne (tgt := 33) C dX11_alp_27 (by decide) ?_ ?_
      · refine zr_aload_n C dX11_alp_33 rfl ?_
        refine zf_X11_74 C (Nat.le_of_ble_eq_true rfl) dX11_alp_34 ?_
        refine zr_aload_n C dX11_alp_37 rfl ?_
        refine zf_X11_170 C (Nat.le_of_ble_eq_true rfl) dX11_alp_38 ?_
        refine zr_iload_n C dX11_alp_41 rfl ?_
        refine zr_iast (n := 4) C dX11_alp_42 (Nat.le_of_ble_eq_true rfl) (fun _ _ => rfl) ?_
        refine zr_aload_n C dX11_alp_43 rfl ?_
        refine zf_X11_77 C (Nat.le_of_ble_eq_true rfl) dX11_alp_44 ?_
        refine zr_aload_n C dX11_alp_47 rfl ?_
        refine zf_X11_170 C (Nat.le_of_ble_eq_true rfl) dX11_alp_48 ?_
        refine zr_iload_n C dX11_alp_51 rfl ?_
        refine zr_iast (n := 4) C dX11_alp_52 (Nat.le_of_ble_eq_true rfl) (fun _ _ => rfl) ?_
        refine zr_aload_n C dX11_alp_53 rfl ?_
        refine zr_dup C dX11_alp_54 rfl ?_
        refine zf_X11_170 C (Nat.le_of_ble_eq_true rfl) dX11_alp_55 ?_
        refine zr_dup_x1 C dX11_alp_58 rfl rfl ?_
        refine zr_iconst (v := 1) C dX11_alp_59 rfl ?_
        refine zr_iadd C dX11_alp_60 ?_
        refine zp_X11_170 C (Nat.le_of_ble_eq_true rfl) dX11_alp_61 ?_
        exact zr_iret C dX11_alp_64
      · refine zr_bipush (v := -4) C dX11_alp_30 rfl ?_
        exact zr_iret C dX11_alp_32
    · refine zr_bipush (v := -2) C dX11_alp_19 rfl ?_
      exact zr_iret C dX11_alp_21
def f_X11_cowsOn_4 (F : Nat) (rec4 : zMem → Int32 × Int32 × Int32 → Option (Int32 × zMem)) (σ : zMem) (x : Int32 × Int32 × Int32) : Option (Int32 × zMem) := if (σ.1 60 0 1) ≤ x.2.2 then (some (x.2.1, σ)) else (zg (zdU ((σ.1 60 0 11).toNatClampNeg)) (zg (inb x.1 4) (zg (inb x.2.2 10) (rec4 σ ((x.1, (x.2.1 + (σ.1 (((σ.1 60 0 11).toNatClampNeg + 1)) x.1.toNatClampNeg x.2.2.toNatClampNeg)), (x.2.2 + 1)))))))
set_option maxHeartbeats 4000000 in
set_option maxRecDepth 100000 in
theorem c_X11_cowsOn_4 (F : Nat) {E : zEn} {h : Nat} {Z : zLay} (C : zCx E cX11_cowsOn RX11 4 (some .int) Z h) (hh : 1 ≤ h) : ∀ (n : Nat) (σ : zMem) (x : Int32 × Int32 × Int32), zKO E 4 Z (zMQ E Z (zQI Z)) 4 [(0, .ref (zad Z 60 0)), (1, .int x.1), (2, .int x.2.1), (3, .int x.2.2)] [] σ (zit (f_X11_cowsOn_4 F) n σ x) := by
  refine zr_loop (LL := fun (x : Int32 × Int32 × Int32) => [(0, .ref (zad Z 60 0)), (1, .int x.1), (2, .int x.2.1), (3, .int x.2.2)]) (ST := fun (x : Int32 × Int32 × Int32) => []) (fun rec4 hrec4 σ x => ?_)
  obtain ⟨l1, l2, l3⟩ := x
  show zKO E 4 Z (zMQ E Z (zQI Z)) 4 [(0, .ref (zad Z 60 0)), (1, .int l1), (2, .int l2), (3, .int l3)] [] σ (if (σ.1 60 0 1) ≤ l3 then (some (l2, σ)) else (zg (zdU ((σ.1 60 0 11).toNatClampNeg)) (zg (inb l1 4) (zg (inb l3 10) (rec4 σ ((l1, (l2 + (σ.1 (((σ.1 60 0 11).toNatClampNeg + 1)) l1.toNatClampNeg l3.toNatClampNeg)), (l3 + 1))))))))
  refine zr_iload_n C dX11_cowsOn_4 rfl ?_
  refine zr_aload_n C dX11_cowsOn_5 rfl ?_
  refine zf_X11_160 C (Nat.le_of_ble_eq_true rfl) dX11_cowsOn_6 ?_
  refine zr_icmp_ge (tgt := 29) C dX11_cowsOn_9 (by decide) ?_ ?_
  · refine zr_iload_n C dX11_cowsOn_29 rfl ?_
    exact zr_iret C dX11_cowsOn_30
  · refine zr_iload_n C dX11_cowsOn_12 rfl ?_
    refine zr_aload_n C dX11_cowsOn_13 rfl ?_
    refine zf_X11_39 C (Nat.le_of_ble_eq_true rfl) dX11_cowsOn_14 ?_
    refine zr_g (fun hk14 => ?_)
    refine zr_iload_n C dX11_cowsOn_17 rfl ?_
    refine zr_aald (n := 4) (k1 := ((σ.1 60 0 11).toNatClampNeg) + 1) C dX11_cowsOn_18 (zN_up hk14 (by decide)) (zE_up hk14) rfl rfl (fun hb18 => ?_)
    refine zr_iload_n C dX11_cowsOn_19 rfl ?_
    refine zr_iald (n := 10) C dX11_cowsOn_20 (zN_upE (zdE_of hk14) hb18) (zE_upE (zdE_of hk14)) ?_
    refine zr_iadd C dX11_cowsOn_21 ?_
    refine zr_istore_n (i := 2) (L1 := [(2, .int _), (0, .ref _), (1, .int _), (3, .int _)]) C dX11_cowsOn_22 rfl (by decide) rfl ?_
    refine zr_iinc (kk := 3) (v := (l3 + 1)) (L1 := [(3, .int _), (2, .int _), (0, .ref _), (1, .int _)]) C dX11_cowsOn_23 rfl rfl (by decide) rfl ?_
    refine zr_goto (tgt := 4) C dX11_cowsOn_26 (by decide) ?_
    exact zr_sub [2, 3, 1, 0] rfl (hrec4 σ ((l1, (l2 + (σ.1 (((σ.1 60 0 11).toNatClampNeg + 1)) l1.toNatClampNeg l3.toNatClampNeg)), (l3 + 1))))
def f_X11_cowsOn (F : Nat) (σ : zMem) (a1 : Int32) : Option (Int32 × zMem) := zit (f_X11_cowsOn_4 F) F σ ((a1, 0, 0))
set_option maxHeartbeats 4000000 in
set_option maxRecDepth 100000 in
theorem c_X11_cowsOn (l : Launch) (Z : zLay) (F : Nat) (σ : zMem) (a1 : Int32) (r : Int32) (σ1 : zMem) (ho : f_X11_cowsOn F σ a1 = some (r, σ1)) : zMet l yX11_cowsOn cX11_cowsOn 4 (some .int) 1 Z [.ref (zad Z 60 0), .int (a1)] σ (zQI Z r σ1) := by
  refine zMet_of (Qc := zQI Z) (by decide) (Nat.le_of_ble_eq_true rfl) [(0, .ref (zad Z 60 0)), (1, .int (a1))] rfl (fun E C => ?_) ho
  have hh : 1 ≤ 1 := Nat.le_refl _
  show zKO E 4 Z (zMQ E Z (zQI Z)) 0 [(0, .ref (zad Z 60 0)), (1, .int (a1))] [] σ _
  unfold f_X11_cowsOn
  refine zr_iconst (v := 0) C dX11_cowsOn_0 rfl ?_
  refine zr_istore_n (i := 2) (L1 := [(2, .int _), (0, .ref _), (1, .int _)]) C dX11_cowsOn_1 rfl (by decide) rfl ?_
  refine zr_iconst (v := 0) C dX11_cowsOn_2 rfl ?_
  refine zr_istore_n (i := 3) (L1 := [(3, .int _), (2, .int _), (0, .ref _), (1, .int _)]) C dX11_cowsOn_3 rfl (by decide) rfl ?_
  exact zr_sub [2, 3, 1, 0] rfl (c_X11_cowsOn_4 F C hh F σ ((a1, 0, 0)))
theorem zk_X11_363 (C : zCx E cc RX11 nL ret Z h) (F : Nat) {b0 : Int32} (hk : 0 < zN 60) (hh : 1 + 1 ≤ h) (hst8 : (st.map fun v => v.category).sum ≤ 8) (hd : decode cc pc = .ok (.invokevirtual 363, 3)) {g : Int32 → zMem → Option (α × zMem)} (kk : ∀ (r : Int32) (σ1 : zMem), zKO E nL Z QQ (pc + 3) L (.int r :: st) σ1 (g r σ1)) : zKO E nL Z QQ pc L (.int b0 :: .ref (zad Z 60 0) :: st) σ (zb (f_X11_cowsOn F σ b0) g) :=
  zr_callVI (As := [.int b0]) (ia := 1) C (fun r σ1 ho => c_X11_cowsOn (zla E) Z F σ b0 r σ1 ho) wz_1515 hk rfl rfl wz_p105 wz_1517 wz_1518 wz_12 (by decide +kernel) rfl (by decide) hh hd hst8 kk
def f_X11_alpOf (F : Nat) (σ : zMem) (a1 : Int32) (a2 : Int32) : Option (Int32 × zMem) := zb (f_X11_isAlp F σ a1) fun r2 m2 => if r2 = 0 then (some ((-5), m2)) else (if a2.toInt < 0 ∨ 4 < a2.toInt then (zb (f_X11_isHouse F m2 ((a2 - 5))) fun r86 m86 => if r86 = 0 then (some ((-5), m86)) else (if a2 < 5 then (some ((-5), m86)) else (zg (zdU ((m86.1 60 0 11).toNatClampNeg)) (zg (inb a1 4) (zg (inb ((a2 - 5)) 10) (some ((m86.1 (((m86.1 60 0 11).toNatClampNeg + 1)) a1.toNatClampNeg ((a2 - 5)).toNatClampNeg), m86))))))) else (if a2 = 0 then (zg (inb a1 4) (some ((m2.1 87 0 a1.toNatClampNeg), m2))) else (if a2 = 1 then (zg (inb a1 4) (some ((m2.1 88 0 a1.toNatClampNeg), m2))) else (if a2 = 2 then (zg (zdG ((m2.1 60 0 28).toNatClampNeg)) (zg (inb a1 4) (some ((m2.1 ((m2.1 60 0 28).toNatClampNeg) 0 a1.toNatClampNeg), m2)))) else (if a2 = 3 then (zg (zdS ((m2.1 60 0 29).toNatClampNeg)) (zg (inb a1 4) (some ((m2.1 ((m2.1 60 0 29).toNatClampNeg) 0 a1.toNatClampNeg), m2)))) else (if a2 = 4 then (zb (f_X11_cowsOn F m2 a1) fun r78 m78 => some (r78, m78)) else none))))))
set_option maxHeartbeats 4000000 in
set_option maxRecDepth 100000 in
theorem c_X11_alpOf (l : Launch) (Z : zLay) (F : Nat) (σ : zMem) (a1 : Int32) (a2 : Int32) (r : Int32) (σ1 : zMem) (ho : f_X11_alpOf F σ a1 a2 = some (r, σ1)) : zMet l yX11_alpOf cX11_alpOf 3 (some .int) 3 Z [.ref (zad Z 60 0), .int (a1), .int (a2)] σ (zQI Z r σ1) := by
  refine zMet_of (Qc := zQI Z) (by decide) (Nat.le_of_ble_eq_true rfl) [(0, .ref (zad Z 60 0)), (1, .int (a1)), (2, .int (a2))] rfl (fun E C => ?_) ho
  have hh : 3 ≤ 3 := Nat.le_refl _
  show zKO E 3 Z (zMQ E Z (zQI Z)) 0 [(0, .ref (zad Z 60 0)), (1, .int (a1)), (2, .int (a2))] [] σ _
  unfold f_X11_alpOf
  refine zr_aload_n C dX11_alpOf_0 rfl ?_
  refine zr_iload_n C dX11_alpOf_1 rfl ?_
  refine zk_X11_360 C F (Nat.le_of_ble_eq_true rfl) (Nat.le_trans (by decide) hh) (by simp [Value.category]) dX11_alpOf_2 (fun r2 m2 => ?_)
  refine zr_if_ne (tgt := 11) C dX11_alpOf_5 (by decide) ?_ ?_
  · refine zr_iload_n C dX11_alpOf_11 rfl ?_
    refine zr_if (fun hx => ?_) (fun _ => ?_)
    · refine zr_tabOut (tgt := 82) C dX11_alpOf_12 hx (by decide) ?_
      refine zr_aload_n C dX11_alpOf_82 rfl ?_
      refine zr_iload_n C dX11_alpOf_83 rfl ?_
      refine zr_iconst (v := 5) C dX11_alpOf_84 rfl ?_
      refine zr_isub C dX11_alpOf_85 ?_
      refine zk_X11_181 C F (Nat.le_of_ble_eq_true rfl) (Nat.le_trans (by decide) hh) (by simp [Value.category]) dX11_alpOf_86 (fun r86 m86 => ?_)
      refine zr_if_eq (tgt := 110) C dX11_alpOf_89 (by decide) ?_ ?_
      · refine zr_bipush (v := -5) C dX11_alpOf_110 rfl ?_
        exact zr_iret C dX11_alpOf_112
      · refine zr_iload_n C dX11_alpOf_92 rfl ?_
        refine zr_iconst (v := 5) C dX11_alpOf_93 rfl ?_
        refine zr_icmp_lt (tgt := 110) C dX11_alpOf_94 (by decide) ?_ ?_
        · refine zr_bipush (v := -5) C dX11_alpOf_110 rfl ?_
          exact zr_iret C dX11_alpOf_112
        · refine zr_aload_n C dX11_alpOf_97 rfl ?_
          refine zf_X11_39 C (Nat.le_of_ble_eq_true rfl) dX11_alpOf_98 ?_
          refine zr_g (fun hk98 => ?_)
          refine zr_iload_n C dX11_alpOf_101 rfl ?_
          refine zr_aald (n := 4) (k1 := ((m86.1 60 0 11).toNatClampNeg) + 1) C dX11_alpOf_102 (zN_up hk98 (by decide)) (zE_up hk98) rfl rfl (fun hb102 => ?_)
          refine zr_iload_n C dX11_alpOf_103 rfl ?_
          refine zr_iconst (v := 5) C dX11_alpOf_104 rfl ?_
          refine zr_isub C dX11_alpOf_105 ?_
          refine zr_iald (n := 10) C dX11_alpOf_106 (zN_upE (zdE_of hk98) hb102) (zE_upE (zdE_of hk98)) ?_
          refine zr_goto (tgt := 112) C dX11_alpOf_107 (by decide) ?_
          exact zr_iret C dX11_alpOf_112
    · refine zr_if (fun hx => ?_) (fun _ => ?_)
      · refine zr_tabIn (tgt := 48) C dX11_alpOf_12 (by rw [hx]; decide) (by rw [hx]; decide) (off := 36) (by rw [hx]; decide) (by decide) ?_
        refine zr_aload_n C dX11_alpOf_48 rfl ?_
        refine zf_X11_74 C (Nat.le_of_ble_eq_true rfl) dX11_alpOf_49 ?_
        refine zr_iload_n C dX11_alpOf_52 rfl ?_
        refine zr_iald (n := 4) C dX11_alpOf_53 (Nat.le_of_ble_eq_true rfl) rfl ?_
        exact zr_iret C dX11_alpOf_54
      · refine zr_if (fun hx => ?_) (fun _ => ?_)
        · refine zr_tabIn (tgt := 55) C dX11_alpOf_12 (by rw [hx]; decide) (by rw [hx]; decide) (off := 43) (by rw [hx]; decide) (by decide) ?_
          refine zr_aload_n C dX11_alpOf_55 rfl ?_
          refine zf_X11_77 C (Nat.le_of_ble_eq_true rfl) dX11_alpOf_56 ?_
          refine zr_iload_n C dX11_alpOf_59 rfl ?_
          refine zr_iald (n := 4) C dX11_alpOf_60 (Nat.le_of_ble_eq_true rfl) rfl ?_
          exact zr_iret C dX11_alpOf_61
        · refine zr_if (fun hx => ?_) (fun _ => ?_)
          · refine zr_tabIn (tgt := 62) C dX11_alpOf_12 (by rw [hx]; decide) (by rw [hx]; decide) (off := 50) (by rw [hx]; decide) (by decide) ?_
            refine zr_aload_n C dX11_alpOf_62 rfl ?_
            refine zf_X11_80 C (Nat.le_of_ble_eq_true rfl) dX11_alpOf_63 ?_
            refine zr_g (fun hk63 => ?_)
            refine zr_iload_n C dX11_alpOf_66 rfl ?_
            refine zr_iald (n := 4) C dX11_alpOf_67 (zN_grass hk63 (by decide)) (zE_grass hk63) ?_
            exact zr_iret C dX11_alpOf_68
          · refine zr_if (fun hx => ?_) (fun _ => ?_)
            · refine zr_tabIn (tgt := 69) C dX11_alpOf_12 (by rw [hx]; decide) (by rw [hx]; decide) (off := 57) (by rw [hx]; decide) (by decide) ?_
              refine zr_aload_n C dX11_alpOf_69 rfl ?_
              refine zf_X11_83 C (Nat.le_of_ble_eq_true rfl) dX11_alpOf_70 ?_
              refine zr_g (fun hk70 => ?_)
              refine zr_iload_n C dX11_alpOf_73 rfl ?_
              refine zr_iald (n := 4) C dX11_alpOf_74 (zN_snow hk70 (by decide)) (zE_snow hk70) ?_
              exact zr_iret C dX11_alpOf_75
            · refine zr_if (fun hx => ?_) (fun _ => ?_)
              · refine zr_tabIn (tgt := 76) C dX11_alpOf_12 (by rw [hx]; decide) (by rw [hx]; decide) (off := 64) (by rw [hx]; decide) (by decide) ?_
                refine zr_aload_n C dX11_alpOf_76 rfl ?_
                refine zr_iload_n C dX11_alpOf_77 rfl ?_
                refine zk_X11_363 C F (Nat.le_of_ble_eq_true rfl) (Nat.le_trans (by decide) hh) (by simp [Value.category]) dX11_alpOf_78 (fun r78 m78 => ?_)
                exact zr_iret C dX11_alpOf_81
              · exact zr_none
  · refine zr_bipush (v := -5) C dX11_alpOf_8 rfl ?_
    exact zr_iret C dX11_alpOf_10
def f_X11_whyNot (F : Nat) (σ : zMem) (a1 : Int32) (a2 : Int32) : Option (Int32 × zMem) := zg (zni 360) (zg (inb a1 10) (zg (inb 2 5) (zb (f_X11_upOf F σ a1) fun r19 m19 => if a2 ≤ ((σ.1 62 a1.toNatClampNeg 2) - r19) then (zb (f_X11_now F m19 a1 2) fun r33 m33 => if (zrem ((σ.1 60 0 0)) 360) < r33 then (some (2, m33)) else (zb (f_X11_now F m33 a1 3) fun r43 m43 => if (zrem ((σ.1 60 0 0)) 360) < r43 then (zb (f_X11_upOf F m43 a1) fun r53 m53 => zb (f_X11_now F m53 a1 1) fun r66 m66 => zb (f_X11_partsOf F m66 a1 0) fun r74 m74 => if (lg_cmp (((((r53 + a2)).toInt64) * (r66.toInt64))) ((r74.toInt64))) ≤ 0 then (zb (f_X11_now F m74 a1 0) fun r87 m87 => if r87 ≤ 0 then (some (0, m87)) else (zg (inb a1 10) (zg (zni r87) (if (r53 + a2) ≤ ((m87.1 67 0 a1.toNatClampNeg) / r87) then (some (0, m87)) else (some (4, m87)))))) else (some (3, m74))) else (some (2, m43)))) else (some (1, m19)))))
set_option maxHeartbeats 4000000 in
set_option maxRecDepth 100000 in
theorem c_X11_whyNot (l : Launch) (Z : zLay) (F : Nat) (σ : zMem) (a1 : Int32) (a2 : Int32) (r : Int32) (σ1 : zMem) (ho : f_X11_whyNot F σ a1 a2 = some (r, σ1)) : zMet l yX11_whyNot cX11_whyNot 6 (some .int) 7 Z [.ref (zad Z 60 0), .int (a1), .int (a2)] σ (zQI Z r σ1) := by
  refine zMet_of (Qc := zQI Z) (by decide) (Nat.le_of_ble_eq_true rfl) [(0, .ref (zad Z 60 0)), (1, .int (a1)), (2, .int (a2))] rfl (fun E C => ?_) ho
  have hh : 7 ≤ 7 := Nat.le_refl _
  show zKO E 6 Z (zMQ E Z (zQI Z)) 0 [(0, .ref (zad Z 60 0)), (1, .int (a1)), (2, .int (a2))] [] σ _
  unfold f_X11_whyNot
  refine zr_aload_n C dX11_whyNot_0 rfl ?_
  refine zf_X11_193 C (Nat.le_of_ble_eq_true rfl) dX11_whyNot_1 ?_
  refine zr_sipush (v := 360) C dX11_whyNot_4 rfl ?_
  refine zr_irem C dX11_whyNot_7 ?_
  refine zr_istore_n (i := 3) (L1 := [(3, .int _), (0, .ref _), (1, .int _), (2, .int _)]) C dX11_whyNot_8 rfl (by decide) rfl ?_
  refine zr_aload_n C dX11_whyNot_9 rfl ?_
  refine zf_X11_9 C (Nat.le_of_ble_eq_true rfl) dX11_whyNot_10 ?_
  refine zr_iload_n C dX11_whyNot_13 rfl ?_
  refine zr_aald (n := 10) (k1 := 62) C dX11_whyNot_14 (Nat.le_of_ble_eq_true rfl) rfl rfl rfl (fun hb14 => ?_)
  refine zr_iconst (v := 2) C dX11_whyNot_15 rfl ?_
  refine zr_iald (n := 5) C dX11_whyNot_16 hb14 rfl ?_
  refine zr_aload_n C dX11_whyNot_17 rfl ?_
  refine zr_iload_n C dX11_whyNot_18 rfl ?_
  refine zk_X11_185 C F (Nat.le_of_ble_eq_true rfl) (Nat.le_trans (by decide) hh) (by simp [Value.category]) dX11_whyNot_19 (fun r19 m19 => ?_)
  refine zr_isub C dX11_whyNot_22 ?_
  refine zr_iload_n C dX11_whyNot_23 rfl ?_
  refine zr_icmp_ge (tgt := 29) C dX11_whyNot_24 (by decide) ?_ ?_
  · refine zr_iload_n C dX11_whyNot_29 rfl ?_
    refine zr_aload_n C dX11_whyNot_30 rfl ?_
    refine zr_iload_n C dX11_whyNot_31 rfl ?_
    refine zr_iconst (v := 2) C dX11_whyNot_32 rfl ?_
    refine zk_X11_366 C F (Nat.le_of_ble_eq_true rfl) (Nat.le_trans (by decide) hh) (by simp [Value.category]) dX11_whyNot_33 (fun r33 m33 => ?_)
    refine zr_icmp_lt (tgt := 49) C dX11_whyNot_36 (by decide) ?_ ?_
    · refine zr_iconst (v := 2) C dX11_whyNot_49 rfl ?_
      exact zr_iret C dX11_whyNot_50
    · refine zr_iload_n C dX11_whyNot_39 rfl ?_
      refine zr_aload_n C dX11_whyNot_40 rfl ?_
      refine zr_iload_n C dX11_whyNot_41 rfl ?_
      refine zr_iconst (v := 3) C dX11_whyNot_42 rfl ?_
      refine zk_X11_366 C F (Nat.le_of_ble_eq_true rfl) (Nat.le_trans (by decide) hh) (by simp [Value.category]) dX11_whyNot_43 (fun r43 m43 => ?_)
      refine zr_icmp_lt (tgt := 51) C dX11_whyNot_46 (by decide) ?_ ?_
      · refine zr_aload_n C dX11_whyNot_51 rfl ?_
        refine zr_iload_n C dX11_whyNot_52 rfl ?_
        refine zk_X11_185 C F (Nat.le_of_ble_eq_true rfl) (Nat.le_trans (by decide) hh) (by simp [Value.category]) dX11_whyNot_53 (fun r53 m53 => ?_)
        refine zr_iload_n C dX11_whyNot_56 rfl ?_
        refine zr_iadd C dX11_whyNot_57 ?_
        refine zr_istore (i := 4) (L1 := [(4, .int _), (3, .int _), (0, .ref _), (1, .int _), (2, .int _)]) C dX11_whyNot_58 (by decide) rfl ?_
        refine zr_iload C dX11_whyNot_60 rfl ?_
        refine zr_i2l C dX11_whyNot_62 ?_
        refine zr_aload_n C dX11_whyNot_63 rfl ?_
        refine zr_iload_n C dX11_whyNot_64 rfl ?_
        refine zr_iconst (v := 1) C dX11_whyNot_65 rfl ?_
        refine zk_X11_366 C F (Nat.le_of_ble_eq_true rfl) (Nat.le_trans (by decide) hh) (by simp [Value.category]) dX11_whyNot_66 (fun r66 m66 => ?_)
        refine zr_i2l C dX11_whyNot_69 ?_
        refine zr_lmul C dX11_whyNot_70 ?_
        refine zr_aload_n C dX11_whyNot_71 rfl ?_
        refine zr_iload_n C dX11_whyNot_72 rfl ?_
        refine zr_iconst (v := 0) C dX11_whyNot_73 rfl ?_
        refine zk_X11_208 C F (Nat.le_of_ble_eq_true rfl) (Nat.le_trans (by decide) hh) (by simp [Value.category]) dX11_whyNot_74 (fun r74 m74 => ?_)
        refine zr_i2l C dX11_whyNot_77 ?_
        refine zr_lcmp C dX11_whyNot_78 ?_
        refine zr_if_le (tgt := 84) C dX11_whyNot_79 (by decide) ?_ ?_
        · refine zr_aload_n C dX11_whyNot_84 rfl ?_
          refine zr_iload_n C dX11_whyNot_85 rfl ?_
          refine zr_iconst (v := 0) C dX11_whyNot_86 rfl ?_
          refine zk_X11_366 C F (Nat.le_of_ble_eq_true rfl) (Nat.le_trans (by decide) hh) (by simp [Value.category]) dX11_whyNot_87 (fun r87 m87 => ?_)
          refine zr_istore (i := 5) (L1 := [(5, .int _), (4, .int _), (3, .int _), (0, .ref _), (1, .int _), (2, .int _)]) C dX11_whyNot_90 (by decide) rfl ?_
          refine zr_iload C dX11_whyNot_92 rfl ?_
          refine zr_if_le (tgt := 115) C dX11_whyNot_94 (by decide) ?_ ?_
          · refine zr_iconst (v := 0) C dX11_whyNot_115 rfl ?_
            exact zr_iret C dX11_whyNot_116
          · refine zr_iload C dX11_whyNot_97 rfl ?_
            refine zr_aload_n C dX11_whyNot_99 rfl ?_
            refine zf_X11_27 C (Nat.le_of_ble_eq_true rfl) dX11_whyNot_100 ?_
            refine zr_iload_n C dX11_whyNot_103 rfl ?_
            refine zr_iald (n := 10) C dX11_whyNot_104 (Nat.le_of_ble_eq_true rfl) rfl ?_
            refine zr_iload C dX11_whyNot_105 rfl ?_
            refine zr_idiv C dX11_whyNot_107 ?_
            refine zr_icmp_le (tgt := 115) C dX11_whyNot_108 (by decide) ?_ ?_
            · refine zr_iconst (v := 0) C dX11_whyNot_115 rfl ?_
              exact zr_iret C dX11_whyNot_116
            · refine zr_iconst (v := 4) C dX11_whyNot_111 rfl ?_
              refine zr_goto (tgt := 116) C dX11_whyNot_112 (by decide) ?_
              exact zr_iret C dX11_whyNot_116
        · refine zr_iconst (v := 3) C dX11_whyNot_82 rfl ?_
          exact zr_iret C dX11_whyNot_83
      · refine zr_iconst (v := 2) C dX11_whyNot_49 rfl ?_
        exact zr_iret C dX11_whyNot_50
  · refine zr_iconst (v := 1) C dX11_whyNot_27 rfl ?_
    exact zr_iret C dX11_whyNot_28
theorem zk_X11_368 (C : zCx E cc RX11 nL ret Z h) (F : Nat) {b0 : Int32} {b1 : Int32} (hk : 0 < zN 60) (hh : 7 + 1 ≤ h) (hst8 : (st.map fun v => v.category).sum ≤ 8) (hd : decode cc pc = .ok (.invokevirtual 368, 3)) {g : Int32 → zMem → Option (α × zMem)} (kk : ∀ (r : Int32) (σ1 : zMem), zKO E nL Z QQ (pc + 3) L (.int r :: st) σ1 (g r σ1)) : zKO E nL Z QQ pc L (.int b1 :: .int b0 :: .ref (zad Z 60 0) :: st) σ (zb (f_X11_whyNot F σ b0 b1) g) :=
  zr_callVI (As := [.int b0, .int b1]) (ia := 2) C (fun r σ1 ho => c_X11_whyNot (zla E) Z F σ b0 b1 r σ1 ho) wz_1523 hk rfl rfl wz_p106 wz_1525 wz_1526 wz_12 (by decide +kernel) rfl (by decide) hh hd hst8 kk
def f_X11_drive_142 (F : Nat) (σ : zMem) (l1 : Int32) (l2 : Int32) : Option (Int32 × zMem) := zg (zdU (((zwi σ 60 0 30 (((σ.1 60 0 30) + 1))).1 60 0 11).toNatClampNeg)) (zg (inb l2 4) (zg (inb l1 10) (some (((zwi σ 60 0 30 (((σ.1 60 0 30) + 1))).1 ((((zwi σ 60 0 30 (((σ.1 60 0 30) + 1))).1 60 0 11).toNatClampNeg + 1)) l2.toNatClampNeg l1.toNatClampNeg), (zwi σ 60 0 30 (((σ.1 60 0 30) + 1)))))))
set_option maxHeartbeats 4000000 in
set_option maxRecDepth 100000 in
theorem c_X11_drive_142 (F : Nat) {E : zEn} {h : Nat} {Z : zLay} (C : zCx E cX11_drive RX11 6 (some .int) Z h) (hh : 8 ≤ h) (σ : zMem) (l1 : Int32) (l2 : Int32) : zKO E 6 Z (zMQ E Z (zQI Z)) 142 [(0, .ref (zad Z 60 0)), (1, .int l1), (2, .int l2)] [] σ (f_X11_drive_142 F σ l1 l2) := by
  unfold f_X11_drive_142
  refine zr_aload_n C dX11_drive_142 rfl ?_
  refine zr_dup C dX11_drive_143 rfl ?_
  refine zf_X11_342 C (Nat.le_of_ble_eq_true rfl) dX11_drive_144 ?_
  refine zr_iconst (v := 1) C dX11_drive_147 rfl ?_
  refine zr_iadd C dX11_drive_148 ?_
  refine zp_X11_342 C (Nat.le_of_ble_eq_true rfl) dX11_drive_149 ?_
  refine zr_aload_n C dX11_drive_152 rfl ?_
  refine zf_X11_39 C (Nat.le_of_ble_eq_true rfl) dX11_drive_153 ?_
  refine zr_g (fun hk153 => ?_)
  refine zr_iload_n C dX11_drive_156 rfl ?_
  refine zr_aald (n := 4) (k1 := (((zwi σ 60 0 30 (((σ.1 60 0 30) + 1))).1 60 0 11).toNatClampNeg) + 1) C dX11_drive_157 (zN_up hk153 (by decide)) (zE_up hk153) rfl rfl (fun hb157 => ?_)
  refine zr_iload_n C dX11_drive_158 rfl ?_
  refine zr_iald (n := 10) C dX11_drive_159 (zN_upE (zdE_of hk153) hb157) (zE_upE (zdE_of hk153)) ?_
  exact zr_iret C dX11_drive_160
def f_X11_drive (F : Nat) (σ : zMem) (a1 : Int32) (a2 : Int32) (a3 : Int32) : Option (Int32 × zMem) := zb (f_X11_isHouse F σ a1) fun r2 m2 => if r2 = 0 then (some ((-1), m2)) else (zb (f_X11_isAlp F m2 a2) fun r10 m10 => if r10 = 0 then (some ((-1), m10)) else (zb (f_X11_in F m10 a3 1 99) fun r22 m22 => if r22 = 0 then (some ((-2), m22)) else (zb (f_X11_whyNot F m22 a1 a3) fun r34 m34 => if r34 ≤ 0 then (zg (zdU ((m34.1 60 0 11).toNatClampNeg)) (zg (inb a2 4) (zg (inb a1 10) (zg (inb a1 10) (if 200 ≤ ((zwi m34 (((m34.1 60 0 11).toNatClampNeg + 1)) a2.toNatClampNeg a1.toNatClampNeg (((m34.1 (((m34.1 60 0 11).toNatClampNeg + 1)) a2.toNatClampNeg a1.toNatClampNeg) + a3))).1 60 0 30) then (f_X11_drive_142 F (zwi m34 (((m34.1 60 0 11).toNatClampNeg + 1)) a2.toNatClampNeg a1.toNatClampNeg (((m34.1 (((m34.1 60 0 11).toNatClampNeg + 1)) a2.toNatClampNeg a1.toNatClampNeg) + a3))) a1 a2) else (zg (inb (((zwi m34 (((m34.1 60 0 11).toNatClampNeg + 1)) a2.toNatClampNeg a1.toNatClampNeg (((m34.1 (((m34.1 60 0 11).toNatClampNeg + 1)) a2.toNatClampNeg a1.toNatClampNeg) + a3))).1 60 0 30)) 200) (zg (inb 0 6) (zg (inb 1 6) (zg (inb 2 6) (zg (inb 3 6) (zb (f_X11_whyOf F (zwi (zwi (zwi (zwi (zwi m34 (((m34.1 60 0 11).toNatClampNeg + 1)) a2.toNatClampNeg a1.toNatClampNeg (((m34.1 (((m34.1 60 0 11).toNatClampNeg + 1)) a2.toNatClampNeg a1.toNatClampNeg) + a3))) 92 ((((zwi m34 (((m34.1 60 0 11).toNatClampNeg + 1)) a2.toNatClampNeg a1.toNatClampNeg (((m34.1 (((m34.1 60 0 11).toNatClampNeg + 1)) a2.toNatClampNeg a1.toNatClampNeg) + a3))).1 60 0 30)).toNatClampNeg) 0 (((zwi m34 (((m34.1 60 0 11).toNatClampNeg + 1)) a2.toNatClampNeg a1.toNatClampNeg (((m34.1 (((m34.1 60 0 11).toNatClampNeg + 1)) a2.toNatClampNeg a1.toNatClampNeg) + a3))).1 60 0 0))) 92 ((((zwi m34 (((m34.1 60 0 11).toNatClampNeg + 1)) a2.toNatClampNeg a1.toNatClampNeg (((m34.1 (((m34.1 60 0 11).toNatClampNeg + 1)) a2.toNatClampNeg a1.toNatClampNeg) + a3))).1 60 0 30)).toNatClampNeg) 1 a1) 92 ((((zwi m34 (((m34.1 60 0 11).toNatClampNeg + 1)) a2.toNatClampNeg a1.toNatClampNeg (((m34.1 (((m34.1 60 0 11).toNatClampNeg + 1)) a2.toNatClampNeg a1.toNatClampNeg) + a3))).1 60 0 30)).toNatClampNeg) 2 a2) 92 ((((zwi m34 (((m34.1 60 0 11).toNatClampNeg + 1)) a2.toNatClampNeg a1.toNatClampNeg (((m34.1 (((m34.1 60 0 11).toNatClampNeg + 1)) a2.toNatClampNeg a1.toNatClampNeg) + a3))).1 60 0 30)).toNatClampNeg) 3 a3) a1 1 (((zwi (zwi (zwi (zwi (zwi m34 (((m34.1 60 0 11).toNatClampNeg + 1)) a2.toNatClampNeg a1.toNatClampNeg (((m34.1 (((m34.1 60 0 11).toNatClampNeg + 1)) a2.toNatClampNeg a1.toNatClampNeg) + a3))) 92 ((((zwi m34 (((m34.1 60 0 11).toNatClampNeg + 1)) a2.toNatClampNeg a1.toNatClampNeg (((m34.1 (((m34.1 60 0 11).toNatClampNeg + 1)) a2.toNatClampNeg a1.toNatClampNeg) + a3))).1 60 0 30)).toNatClampNeg) 0 (((zwi m34 (((m34.1 60 0 11).toNatClampNeg + 1)) a2.toNatClampNeg a1.toNatClampNeg (((m34.1 (((m34.1 60 0 11).toNatClampNeg + 1)) a2.toNatClampNeg a1.toNatClampNeg) + a3))).1 60 0 0))) 92 ((((zwi m34 (((m34.1 60 0 11).toNatClampNeg + 1)) a2.toNatClampNeg a1.toNatClampNeg (((m34.1 (((m34.1 60 0 11).toNatClampNeg + 1)) a2.toNatClampNeg a1.toNatClampNeg) + a3))).1 60 0 30)).toNatClampNeg) 1 a1) 92 ((((zwi m34 (((m34.1 60 0 11).toNatClampNeg + 1)) a2.toNatClampNeg a1.toNatClampNeg (((m34.1 (((m34.1 60 0 11).toNatClampNeg + 1)) a2.toNatClampNeg a1.toNatClampNeg) + a3))).1 60 0 30)).toNatClampNeg) 2 a2) 92 ((((zwi m34 (((m34.1 60 0 11).toNatClampNeg + 1)) a2.toNatClampNeg a1.toNatClampNeg (((m34.1 (((m34.1 60 0 11).toNatClampNeg + 1)) a2.toNatClampNeg a1.toNatClampNeg) + a3))).1 60 0 30)).toNatClampNeg) 3 a3).1 60 0 0)) (((zwi (zwi (zwi (zwi (zwi m34 (((m34.1 60 0 11).toNatClampNeg + 1)) a2.toNatClampNeg a1.toNatClampNeg (((m34.1 (((m34.1 60 0 11).toNatClampNeg + 1)) a2.toNatClampNeg a1.toNatClampNeg) + a3))) 92 ((((zwi m34 (((m34.1 60 0 11).toNatClampNeg + 1)) a2.toNatClampNeg a1.toNatClampNeg (((m34.1 (((m34.1 60 0 11).toNatClampNeg + 1)) a2.toNatClampNeg a1.toNatClampNeg) + a3))).1 60 0 30)).toNatClampNeg) 0 (((zwi m34 (((m34.1 60 0 11).toNatClampNeg + 1)) a2.toNatClampNeg a1.toNatClampNeg (((m34.1 (((m34.1 60 0 11).toNatClampNeg + 1)) a2.toNatClampNeg a1.toNatClampNeg) + a3))).1 60 0 0))) 92 ((((zwi m34 (((m34.1 60 0 11).toNatClampNeg + 1)) a2.toNatClampNeg a1.toNatClampNeg (((m34.1 (((m34.1 60 0 11).toNatClampNeg + 1)) a2.toNatClampNeg a1.toNatClampNeg) + a3))).1 60 0 30)).toNatClampNeg) 1 a1) 92 ((((zwi m34 (((m34.1 60 0 11).toNatClampNeg + 1)) a2.toNatClampNeg a1.toNatClampNeg (((m34.1 (((m34.1 60 0 11).toNatClampNeg + 1)) a2.toNatClampNeg a1.toNatClampNeg) + a3))).1 60 0 30)).toNatClampNeg) 2 a2) 92 ((((zwi m34 (((m34.1 60 0 11).toNatClampNeg + 1)) a2.toNatClampNeg a1.toNatClampNeg (((m34.1 (((m34.1 60 0 11).toNatClampNeg + 1)) a2.toNatClampNeg a1.toNatClampNeg) + a3))).1 60 0 30)).toNatClampNeg) 3 a3).1 60 0 0))) fun r120 m120 => zg (inb 4 6) (zb (f_X11_whyOf F (zwi m120 92 ((((zwi m34 (((m34.1 60 0 11).toNatClampNeg + 1)) a2.toNatClampNeg a1.toNatClampNeg (((m34.1 (((m34.1 60 0 11).toNatClampNeg + 1)) a2.toNatClampNeg a1.toNatClampNeg) + a3))).1 60 0 30)).toNatClampNeg) 4 r120) a1 0 (((zwi m120 92 ((((zwi m34 (((m34.1 60 0 11).toNatClampNeg + 1)) a2.toNatClampNeg a1.toNatClampNeg (((m34.1 (((m34.1 60 0 11).toNatClampNeg + 1)) a2.toNatClampNeg a1.toNatClampNeg) + a3))).1 60 0 30)).toNatClampNeg) 4 r120).1 60 0 0)) (((zwi m120 92 ((((zwi m34 (((m34.1 60 0 11).toNatClampNeg + 1)) a2.toNatClampNeg a1.toNatClampNeg (((m34.1 (((m34.1 60 0 11).toNatClampNeg + 1)) a2.toNatClampNeg a1.toNatClampNeg) + a3))).1 60 0 30)).toNatClampNeg) 4 r120).1 60 0 0))) fun r138 m138 => zg (inb 5 6) (f_X11_drive_142 F (zwi m138 92 ((((zwi m34 (((m34.1 60 0 11).toNatClampNeg + 1)) a2.toNatClampNeg a1.toNatClampNeg (((m34.1 (((m34.1 60 0 11).toNatClampNeg + 1)) a2.toNatClampNeg a1.toNatClampNeg) + a3))).1 60 0 30)).toNatClampNeg) 5 r138) a1 a2))))))))))))) else (some (((-20) - r34), m34)))))
set_option maxHeartbeats 4000000 in
set_option maxRecDepth 100000 in
theorem c_X11_drive (l : Launch) (Z : zLay) (F : Nat) (σ : zMem) (a1 : Int32) (a2 : Int32) (a3 : Int32) (r : Int32) (σ1 : zMem) (ho : f_X11_drive F σ a1 a2 a3 = some (r, σ1)) : zMet l yX11_drive cX11_drive 6 (some .int) 8 Z [.ref (zad Z 60 0), .int (a1), .int (a2), .int (a3)] σ (zQI Z r σ1) := by
  refine zMet_of (Qc := zQI Z) (by decide) (Nat.le_of_ble_eq_true rfl) [(0, .ref (zad Z 60 0)), (1, .int (a1)), (2, .int (a2)), (3, .int (a3))] rfl (fun E C => ?_) ho
  have hh : 8 ≤ 8 := Nat.le_refl _
  show zKO E 6 Z (zMQ E Z (zQI Z)) 0 [(0, .ref (zad Z 60 0)), (1, .int (a1)), (2, .int (a2)), (3, .int (a3))] [] σ _
  unfold f_X11_drive
  refine zr_aload_n C dX11_drive_0 rfl ?_
  refine zr_iload_n C dX11_drive_1 rfl ?_
  refine zk_X11_181 C F (Nat.le_of_ble_eq_true rfl) (Nat.le_trans (by decide) hh) (by simp [Value.category]) dX11_drive_2 (fun r2 m2 => ?_)
  refine zr_if_eq (tgt := 16) C dX11_drive_5 (by decide) ?_ ?_
  · refine zr_iconst (v := -1) C dX11_drive_16 rfl ?_
    exact zr_iret C dX11_drive_17
  · refine zr_aload_n C dX11_drive_8 rfl ?_
    refine zr_iload_n C dX11_drive_9 rfl ?_
    refine zk_X11_360 C F (Nat.le_of_ble_eq_true rfl) (Nat.le_trans (by decide) hh) (by simp [Value.category]) dX11_drive_10 (fun r10 m10 => ?_)
    refine zr_if_ne (tgt := 18) C dX11_drive_13 (by decide) ?_ ?_
    · refine zr_iload_n C dX11_drive_18 rfl ?_
      refine zr_iconst (v := 1) C dX11_drive_19 rfl ?_
      refine zr_bipush (v := 99) C dX11_drive_20 rfl ?_
      refine zk_X11_163 C F (Nat.le_trans (by decide) hh) (by simp [Value.category]) dX11_drive_22 (fun r22 m22 => ?_)
      refine zr_if_ne (tgt := 31) C dX11_drive_25 (by decide) ?_ ?_
      · refine zr_aload_n C dX11_drive_31 rfl ?_
        refine zr_iload_n C dX11_drive_32 rfl ?_
        refine zr_iload_n C dX11_drive_33 rfl ?_
        refine zk_X11_368 C F (Nat.le_of_ble_eq_true rfl) (Nat.le_trans (by decide) hh) (by simp [Value.category]) dX11_drive_34 (fun r34 m34 => ?_)
        refine zr_istore (i := 4) (L1 := [(4, .int _), (0, .ref _), (1, .int _), (2, .int _), (3, .int _)]) C dX11_drive_37 (by decide) rfl ?_
        refine zr_iload C dX11_drive_39 rfl ?_
        refine zr_if_le (tgt := 50) C dX11_drive_41 (by decide) ?_ ?_
        · refine zr_aload_n C dX11_drive_50 rfl ?_
          refine zf_X11_39 C (Nat.le_of_ble_eq_true rfl) dX11_drive_51 ?_
          refine zr_g (fun hk51 => ?_)
          refine zr_iload_n C dX11_drive_54 rfl ?_
          refine zr_aald (n := 4) (k1 := ((m34.1 60 0 11).toNatClampNeg) + 1) C dX11_drive_55 (zN_up hk51 (by decide)) (zE_up hk51) rfl rfl (fun hb55 => ?_)
          refine zr_iload_n C dX11_drive_56 rfl ?_
          refine zr_dup2 C dX11_drive_57 rfl rfl ?_
          refine zr_iald (n := 10) C dX11_drive_58 (zN_upE (zdE_of hk51) hb55) (zE_upE (zdE_of hk51)) ?_
          refine zr_iload_n C dX11_drive_59 rfl ?_
          refine zr_iadd C dX11_drive_60 ?_
          refine zr_iast (n := 10) C dX11_drive_61 (zN_upE (zdE_of hk51) hb55) (fun _ _ => zE_upE (zdE_of hk51)) ?_
          refine zr_aload_n C dX11_drive_62 rfl ?_
          refine zf_X11_342 C (Nat.le_of_ble_eq_true rfl) dX11_drive_63 ?_
          refine zr_sipush (v := 200) C dX11_drive_66 rfl ?_
          refine zr_icmp_ge (tgt := 142) C dX11_drive_69 (by decide) ?_ ?_
          · exact zr_sub [1, 2, 3] rfl (c_X11_drive_142 F C hh (zwi m34 (((m34.1 60 0 11).toNatClampNeg + 1)) a2.toNatClampNeg a1.toNatClampNeg (((m34.1 (((m34.1 60 0 11).toNatClampNeg + 1)) a2.toNatClampNeg a1.toNatClampNeg) + a3))) a1 a2)
          · refine zr_aload_n C dX11_drive_72 rfl ?_
            refine zf_X11_86 C (Nat.le_of_ble_eq_true rfl) dX11_drive_73 ?_
            refine zr_aload_n C dX11_drive_76 rfl ?_
            refine zf_X11_342 C (Nat.le_of_ble_eq_true rfl) dX11_drive_77 ?_
            refine zr_aald (n := 200) (k1 := 92) C dX11_drive_80 (Nat.le_of_ble_eq_true rfl) rfl rfl rfl (fun hb80 => ?_)
            refine zr_astore (i := 5) (L1 := [(5, .ref _), (4, .int _), (0, .ref _), (1, .int _), (2, .int _), (3, .int _)]) C dX11_drive_81 (by decide) rfl ?_
            refine zr_aload C dX11_drive_83 rfl ?_
            refine zr_iconst (v := 0) C dX11_drive_85 rfl ?_
            refine zr_aload_n C dX11_drive_86 rfl ?_
            refine zf_X11_193 C (Nat.le_of_ble_eq_true rfl) dX11_drive_87 ?_
            refine zr_iast (n := 6) C dX11_drive_90 hb80 (fun _ _ => rfl) ?_
            refine zr_aload C dX11_drive_91 rfl ?_
            refine zr_iconst (v := 1) C dX11_drive_93 rfl ?_
            refine zr_iload_n C dX11_drive_94 rfl ?_
            refine zr_iast (n := 6) C dX11_drive_95 hb80 (fun _ _ => rfl) ?_
            refine zr_aload C dX11_drive_96 rfl ?_
            refine zr_iconst (v := 2) C dX11_drive_98 rfl ?_
            refine zr_iload_n C dX11_drive_99 rfl ?_
            refine zr_iast (n := 6) C dX11_drive_100 hb80 (fun _ _ => rfl) ?_
            refine zr_aload C dX11_drive_101 rfl ?_
            refine zr_iconst (v := 3) C dX11_drive_103 rfl ?_
            refine zr_iload_n C dX11_drive_104 rfl ?_
            refine zr_iast (n := 6) C dX11_drive_105 hb80 (fun _ _ => rfl) ?_
            refine zr_aload C dX11_drive_106 rfl ?_
            refine zr_iconst (v := 4) C dX11_drive_108 rfl ?_
            refine zr_aload_n C dX11_drive_109 rfl ?_
            refine zr_iload_n C dX11_drive_110 rfl ?_
            refine zr_iconst (v := 1) C dX11_drive_111 rfl ?_
            refine zr_aload_n C dX11_drive_112 rfl ?_
            refine zf_X11_193 C (Nat.le_of_ble_eq_true rfl) dX11_drive_113 ?_
            refine zr_aload_n C dX11_drive_116 rfl ?_
            refine zf_X11_193 C (Nat.le_of_ble_eq_true rfl) dX11_drive_117 ?_
            refine zk_X11_332 C F (Nat.le_of_ble_eq_true rfl) (Nat.le_trans (by decide) hh) (by simp [Value.category]) dX11_drive_120 (fun r120 m120 => ?_)
            refine zr_iast (n := 6) C dX11_drive_123 hb80 (fun _ _ => rfl) ?_
            refine zr_aload C dX11_drive_124 rfl ?_
            refine zr_iconst (v := 5) C dX11_drive_126 rfl ?_
            refine zr_aload_n C dX11_drive_127 rfl ?_
            refine zr_iload_n C dX11_drive_128 rfl ?_
            refine zr_iconst (v := 0) C dX11_drive_129 rfl ?_
            refine zr_aload_n C dX11_drive_130 rfl ?_
            refine zf_X11_193 C (Nat.le_of_ble_eq_true rfl) dX11_drive_131 ?_
            refine zr_aload_n C dX11_drive_134 rfl ?_
            refine zf_X11_193 C (Nat.le_of_ble_eq_true rfl) dX11_drive_135 ?_
            refine zk_X11_332 C F (Nat.le_of_ble_eq_true rfl) (Nat.le_trans (by decide) hh) (by simp [Value.category]) dX11_drive_138 (fun r138 m138 => ?_)
            refine zr_iast (n := 6) C dX11_drive_141 hb80 (fun _ _ => rfl) ?_
            exact zr_sub [2, 3, 4] rfl (c_X11_drive_142 F C hh (zwi m138 92 ((((zwi m34 (((m34.1 60 0 11).toNatClampNeg + 1)) a2.toNatClampNeg a1.toNatClampNeg (((m34.1 (((m34.1 60 0 11).toNatClampNeg + 1)) a2.toNatClampNeg a1.toNatClampNeg) + a3))).1 60 0 30)).toNatClampNeg) 5 r138) a1 a2)
        · refine zr_bipush (v := -20) C dX11_drive_44 rfl ?_
          refine zr_iload C dX11_drive_46 rfl ?_
          refine zr_isub C dX11_drive_48 ?_
          exact zr_iret C dX11_drive_49
      · refine zr_bipush (v := -2) C dX11_drive_28 rfl ?_
        exact zr_iret C dX11_drive_30
    · refine zr_iconst (v := -1) C dX11_drive_16 rfl ?_
      exact zr_iret C dX11_drive_17
def f_X11_home (F : Nat) (σ : zMem) (a1 : Int32) (a2 : Int32) (a3 : Int32) : Option (Int32 × zMem) := zb (f_X11_isHouse F σ a1) fun r2 m2 => if r2 = 0 then (some ((-1), m2)) else (zb (f_X11_isAlp F m2 a2) fun r10 m10 => if r10 = 0 then (some ((-1), m10)) else (zb (f_X11_in F m10 a3 1 99) fun r22 m22 => if r22 = 0 then (some ((-2), m22)) else (zg (zdU ((m22.1 60 0 11).toNatClampNeg)) (zg (inb a2 4) (zg (inb a1 10) (if a3 ≤ (m22.1 (((m22.1 60 0 11).toNatClampNeg + 1)) a2.toNatClampNeg a1.toNatClampNeg) then (zg (zdU ((m22.1 60 0 11).toNatClampNeg)) (zg (inb a2 4) (zg (inb a1 10) (zg (inb a1 10) (zg (zdU (((zwi m22 (((m22.1 60 0 11).toNatClampNeg + 1)) a2.toNatClampNeg a1.toNatClampNeg (((m22.1 (((m22.1 60 0 11).toNatClampNeg + 1)) a2.toNatClampNeg a1.toNatClampNeg) - a3))).1 60 0 11).toNatClampNeg)) (zg (inb a2 4) (zg (inb a1 10) (some (((zwi m22 (((m22.1 60 0 11).toNatClampNeg + 1)) a2.toNatClampNeg a1.toNatClampNeg (((m22.1 (((m22.1 60 0 11).toNatClampNeg + 1)) a2.toNatClampNeg a1.toNatClampNeg) - a3))).1 ((((zwi m22 (((m22.1 60 0 11).toNatClampNeg + 1)) a2.toNatClampNeg a1.toNatClampNeg (((m22.1 (((m22.1 60 0 11).toNatClampNeg + 1)) a2.toNatClampNeg a1.toNatClampNeg) - a3))).1 60 0 11).toNatClampNeg + 1)) a2.toNatClampNeg a1.toNatClampNeg), (zwi m22 (((m22.1 60 0 11).toNatClampNeg + 1)) a2.toNatClampNeg a1.toNatClampNeg (((m22.1 (((m22.1 60 0 11).toNatClampNeg + 1)) a2.toNatClampNeg a1.toNatClampNeg) - a3)))))))))))) else (some ((-2), m22))))))))
set_option maxHeartbeats 4000000 in
set_option maxRecDepth 100000 in
theorem c_X11_home (l : Launch) (Z : zLay) (F : Nat) (σ : zMem) (a1 : Int32) (a2 : Int32) (a3 : Int32) (r : Int32) (σ1 : zMem) (ho : f_X11_home F σ a1 a2 a3 = some (r, σ1)) : zMet l yX11_home cX11_home 4 (some .int) 3 Z [.ref (zad Z 60 0), .int (a1), .int (a2), .int (a3)] σ (zQI Z r σ1) := by
  refine zMet_of (Qc := zQI Z) (by decide) (Nat.le_of_ble_eq_true rfl) [(0, .ref (zad Z 60 0)), (1, .int (a1)), (2, .int (a2)), (3, .int (a3))] rfl (fun E C => ?_) ho
  have hh : 3 ≤ 3 := Nat.le_refl _
  show zKO E 4 Z (zMQ E Z (zQI Z)) 0 [(0, .ref (zad Z 60 0)), (1, .int (a1)), (2, .int (a2)), (3, .int (a3))] [] σ _
  unfold f_X11_home
  refine zr_aload_n C dX11_home_0 rfl ?_
  refine zr_iload_n C dX11_home_1 rfl ?_
  refine zk_X11_181 C F (Nat.le_of_ble_eq_true rfl) (Nat.le_trans (by decide) hh) (by simp [Value.category]) dX11_home_2 (fun r2 m2 => ?_)
  refine zr_if_eq (tgt := 16) C dX11_home_5 (by decide) ?_ ?_
  · refine zr_iconst (v := -1) C dX11_home_16 rfl ?_
    exact zr_iret C dX11_home_17
  · refine zr_aload_n C dX11_home_8 rfl ?_
    refine zr_iload_n C dX11_home_9 rfl ?_
    refine zk_X11_360 C F (Nat.le_of_ble_eq_true rfl) (Nat.le_trans (by decide) hh) (by simp [Value.category]) dX11_home_10 (fun r10 m10 => ?_)
    refine zr_if_ne (tgt := 18) C dX11_home_13 (by decide) ?_ ?_
    · refine zr_iload_n C dX11_home_18 rfl ?_
      refine zr_iconst (v := 1) C dX11_home_19 rfl ?_
      refine zr_bipush (v := 99) C dX11_home_20 rfl ?_
      refine zk_X11_163 C F (Nat.le_trans (by decide) hh) (by simp [Value.category]) dX11_home_22 (fun r22 m22 => ?_)
      refine zr_if_eq (tgt := 40) C dX11_home_25 (by decide) ?_ ?_
      · refine zr_bipush (v := -2) C dX11_home_40 rfl ?_
        exact zr_iret C dX11_home_42
      · refine zr_iload_n C dX11_home_28 rfl ?_
        refine zr_aload_n C dX11_home_29 rfl ?_
        refine zf_X11_39 C (Nat.le_of_ble_eq_true rfl) dX11_home_30 ?_
        refine zr_g (fun hk30 => ?_)
        refine zr_iload_n C dX11_home_33 rfl ?_
        refine zr_aald (n := 4) (k1 := ((m22.1 60 0 11).toNatClampNeg) + 1) C dX11_home_34 (zN_up hk30 (by decide)) (zE_up hk30) rfl rfl (fun hb34 => ?_)
        refine zr_iload_n C dX11_home_35 rfl ?_
        refine zr_iald (n := 10) C dX11_home_36 (zN_upE (zdE_of hk30) hb34) (zE_upE (zdE_of hk30)) ?_
        refine zr_icmp_le (tgt := 43) C dX11_home_37 (by decide) ?_ ?_
        · refine zr_aload_n C dX11_home_43 rfl ?_
          refine zf_X11_39 C (Nat.le_of_ble_eq_true rfl) dX11_home_44 ?_
          refine zr_g (fun hk44 => ?_)
          refine zr_iload_n C dX11_home_47 rfl ?_
          refine zr_aald (n := 4) (k1 := ((m22.1 60 0 11).toNatClampNeg) + 1) C dX11_home_48 (zN_up hk44 (by decide)) (zE_up hk44) rfl rfl (fun hb48 => ?_)
          refine zr_iload_n C dX11_home_49 rfl ?_
          refine zr_dup2 C dX11_home_50 rfl rfl ?_
          refine zr_iald (n := 10) C dX11_home_51 (zN_upE (zdE_of hk44) hb48) (zE_upE (zdE_of hk44)) ?_
          refine zr_iload_n C dX11_home_52 rfl ?_
          refine zr_isub C dX11_home_53 ?_
          refine zr_iast (n := 10) C dX11_home_54 (zN_upE (zdE_of hk44) hb48) (fun _ _ => zE_upE (zdE_of hk44)) ?_
          refine zr_aload_n C dX11_home_55 rfl ?_
          refine zf_X11_39 C (Nat.le_of_ble_eq_true rfl) dX11_home_56 ?_
          refine zr_g (fun hk56 => ?_)
          refine zr_iload_n C dX11_home_59 rfl ?_
          refine zr_aald (n := 4) (k1 := (((zwi m22 (((m22.1 60 0 11).toNatClampNeg + 1)) a2.toNatClampNeg a1.toNatClampNeg (((m22.1 (((m22.1 60 0 11).toNatClampNeg + 1)) a2.toNatClampNeg a1.toNatClampNeg) - a3))).1 60 0 11).toNatClampNeg) + 1) C dX11_home_60 (zN_up hk56 (by decide)) (zE_up hk56) rfl rfl (fun hb60 => ?_)
          refine zr_iload_n C dX11_home_61 rfl ?_
          refine zr_iald (n := 10) C dX11_home_62 (zN_upE (zdE_of hk56) hb60) (zE_upE (zdE_of hk56)) ?_
          exact zr_iret C dX11_home_63
        · refine zr_bipush (v := -2) C dX11_home_40 rfl ?_
          exact zr_iret C dX11_home_42
    · refine zr_iconst (v := -1) C dX11_home_16 rfl ?_
      exact zr_iret C dX11_home_17
def f_X11_book (F : Nat) (σ : zMem) (a1 : Int32) (a2 : Int32) : Option (Int32 × zMem) := zb (f_X11_in F σ a1 0 (((zmin ((σ.1 60 0 30)) 200) - 1))) fun r14 m14 => if r14 = 0 then (some ((-5), m14)) else (zb (f_X11_in F m14 a2 0 5) fun r23 m23 => if r23 = 0 then (some ((-5), m23)) else (zg (inb a1 200) (zg (inb a2 6) (some ((m23.1 92 a1.toNatClampNeg a2.toNatClampNeg), m23)))))
set_option maxHeartbeats 4000000 in
set_option maxRecDepth 100000 in
theorem c_X11_book (l : Launch) (Z : zLay) (F : Nat) (σ : zMem) (a1 : Int32) (a2 : Int32) (r : Int32) (σ1 : zMem) (ho : f_X11_book F σ a1 a2 = some (r, σ1)) : zMet l yX11_book cX11_book 3 (some .int) 2 Z [.ref (zad Z 60 0), .int (a1), .int (a2)] σ (zQI Z r σ1) := by
  refine zMet_of (Qc := zQI Z) (by decide) (Nat.le_of_ble_eq_true rfl) [(0, .ref (zad Z 60 0)), (1, .int (a1)), (2, .int (a2))] rfl (fun E C => ?_) ho
  have hh : 2 ≤ 2 := Nat.le_refl _
  show zKO E 3 Z (zMQ E Z (zQI Z)) 0 [(0, .ref (zad Z 60 0)), (1, .int (a1)), (2, .int (a2))] [] σ _
  unfold f_X11_book
  refine zr_iload_n C dX11_book_0 rfl ?_
  refine zr_iconst (v := 0) C dX11_book_1 rfl ?_
  refine zr_aload_n C dX11_book_2 rfl ?_
  refine zf_X11_342 C (Nat.le_of_ble_eq_true rfl) dX11_book_3 ?_
  refine zr_sipush (v := 200) C dX11_book_6 rfl ?_
  refine zr_mmin C wz_1449 wz_796 wz_17 wz_797 (Nat.le_trans (by decide) hh) (by simp [Value.category]) dX11_book_9 ?_
  refine zr_iconst (v := 1) C dX11_book_12 rfl ?_
  refine zr_isub C dX11_book_13 ?_
  refine zk_X11_163 C F (Nat.le_trans (by decide) hh) (by simp [Value.category]) dX11_book_14 (fun r14 m14 => ?_)
  refine zr_if_eq (tgt := 40) C dX11_book_17 (by decide) ?_ ?_
  · refine zr_bipush (v := -5) C dX11_book_40 rfl ?_
    exact zr_iret C dX11_book_42
  · refine zr_iload_n C dX11_book_20 rfl ?_
    refine zr_iconst (v := 0) C dX11_book_21 rfl ?_
    refine zr_iconst (v := 5) C dX11_book_22 rfl ?_
    refine zk_X11_163 C F (Nat.le_trans (by decide) hh) (by simp [Value.category]) dX11_book_23 (fun r23 m23 => ?_)
    refine zr_if_eq (tgt := 40) C dX11_book_26 (by decide) ?_ ?_
    · refine zr_bipush (v := -5) C dX11_book_40 rfl ?_
      exact zr_iret C dX11_book_42
    · refine zr_aload_n C dX11_book_29 rfl ?_
      refine zf_X11_86 C (Nat.le_of_ble_eq_true rfl) dX11_book_30 ?_
      refine zr_iload_n C dX11_book_33 rfl ?_
      refine zr_aald (n := 200) (k1 := 92) C dX11_book_34 (Nat.le_of_ble_eq_true rfl) rfl rfl rfl (fun hb34 => ?_)
      refine zr_iload_n C dX11_book_35 rfl ?_
      refine zr_iald (n := 6) C dX11_book_36 hb34 rfl ?_
      refine zr_goto (tgt := 42) C dX11_book_37 (by decide) ?_
      exact zr_iret C dX11_book_42
def f_X11_grow_59 (F : Nat) (σ : zMem) (l1 : Int32) (l3 : Int32) : Option (Unit × zMem) := zg (zdS ((σ.1 60 0 29).toNatClampNeg)) (zg (inb l1 4) (if (σ.1 ((σ.1 60 0 29).toNatClampNeg) 0 l1.toNatClampNeg) = 0 then (if l3 ≤ 0 then (some ((), σ)) else (zg (zdG ((σ.1 60 0 28).toNatClampNeg)) (zg (inb l1 4) (zg (zdG ((σ.1 60 0 28).toNatClampNeg)) (zg (inb l1 4) (zg (inb l1 4) (zg (zni 10) (zg (inb l1 4) (some ((), (zwi σ ((σ.1 60 0 28).toNatClampNeg) 0 l1.toNatClampNeg ((zmin ((10 * (σ.1 88 0 l1.toNatClampNeg))) (((σ.1 ((σ.1 60 0 28).toNatClampNeg) 0 l1.toNatClampNeg) + (((zmin l3 20) * (σ.1 88 0 l1.toNatClampNeg)) / 10)))))))))))))))) else (some ((), σ))))
set_option maxHeartbeats 4000000 in
set_option maxRecDepth 100000 in
theorem c_X11_grow_59 (F : Nat) {E : zEn} {h : Nat} {Z : zLay} (C : zCx E cX11_grow RX11 4 none Z h) (hh : 2 ≤ h) (σ : zMem) (l1 : Int32) (l3 : Int32) : zKO E 4 Z (zMQ E Z (zQV Z)) 59 [(0, .ref (zad Z 60 0)), (1, .int l1), (3, .int l3)] [] σ (f_X11_grow_59 F σ l1 l3) := by
  unfold f_X11_grow_59
  refine zr_aload_n C dX11_grow_59 rfl ?_
  refine zf_X11_83 C (Nat.le_of_ble_eq_true rfl) dX11_grow_60 ?_
  refine zr_g (fun hk60 => ?_)
  refine zr_iload_n C dX11_grow_63 rfl ?_
  refine zr_iald (n := 4) C dX11_grow_64 (zN_snow hk60 (by decide)) (zE_snow hk60) ?_
  refine zr_if_ne (tgt := 113) C dX11_grow_65 (by decide) ?_ ?_
  · exact zr_vret C dX11_grow_113
  · refine zr_iload_n C dX11_grow_68 rfl ?_
    refine zr_if_le (tgt := 113) C dX11_grow_69 (by decide) ?_ ?_
    · exact zr_vret C dX11_grow_113
    · refine zr_aload_n C dX11_grow_72 rfl ?_
      refine zf_X11_80 C (Nat.le_of_ble_eq_true rfl) dX11_grow_73 ?_
      refine zr_g (fun hk73 => ?_)
      refine zr_iload_n C dX11_grow_76 rfl ?_
      refine zr_bipush (v := 10) C dX11_grow_77 rfl ?_
      refine zr_aload_n C dX11_grow_79 rfl ?_
      refine zf_X11_77 C (Nat.le_of_ble_eq_true rfl) dX11_grow_80 ?_
      refine zr_iload_n C dX11_grow_83 rfl ?_
      refine zr_iald (n := 4) C dX11_grow_84 (Nat.le_of_ble_eq_true rfl) rfl ?_
      refine zr_imul C dX11_grow_85 ?_
      refine zr_aload_n C dX11_grow_86 rfl ?_
      refine zf_X11_80 C (Nat.le_of_ble_eq_true rfl) dX11_grow_87 ?_
      refine zr_g (fun hk87 => ?_)
      refine zr_iload_n C dX11_grow_90 rfl ?_
      refine zr_iald (n := 4) C dX11_grow_91 (zN_grass hk87 (by decide)) (zE_grass hk87) ?_
      refine zr_iload_n C dX11_grow_92 rfl ?_
      refine zr_bipush (v := 20) C dX11_grow_93 rfl ?_
      refine zr_mmin C wz_1449 wz_796 wz_17 wz_797 (Nat.le_trans (by decide) hh) (by simp [Value.category]) dX11_grow_95 ?_
      refine zr_aload_n C dX11_grow_98 rfl ?_
      refine zf_X11_77 C (Nat.le_of_ble_eq_true rfl) dX11_grow_99 ?_
      refine zr_iload_n C dX11_grow_102 rfl ?_
      refine zr_iald (n := 4) C dX11_grow_103 (Nat.le_of_ble_eq_true rfl) rfl ?_
      refine zr_imul C dX11_grow_104 ?_
      refine zr_bipush (v := 10) C dX11_grow_105 rfl ?_
      refine zr_idiv C dX11_grow_107 ?_
      refine zr_iadd C dX11_grow_108 ?_
      refine zr_mmin C wz_1449 wz_796 wz_17 wz_797 (Nat.le_trans (by decide) hh) (by simp [Value.category]) dX11_grow_109 ?_
      refine zr_iast (n := 4) C dX11_grow_112 (zN_grass hk73 (by decide)) (fun _ _ => zE_grass hk73) ?_
      exact zr_vret C dX11_grow_113
def f_X11_grow (F : Nat) (σ : zMem) (a1 : Int32) (a2 : Int32) : Option (Unit × zMem) := zb (f_X11_skyAt F σ a2 0) fun r3 m3 => zg (inb a1 4) (if 2 < (r3 - (5 * (m3.1 87 0 a1.toNatClampNeg))) then (zg (zdS ((m3.1 60 0 29).toNatClampNeg)) (zg (zdS ((m3.1 60 0 29).toNatClampNeg)) (zg (inb a1 4) (zg (inb a1 4) (f_X11_grow_59 F (zwi m3 ((m3.1 60 0 29).toNatClampNeg) 0 a1.toNatClampNeg ((zmax 0 (((m3.1 ((m3.1 60 0 29).toNatClampNeg) 0 a1.toNatClampNeg) - (2 * (r3 - (5 * (m3.1 87 0 a1.toNatClampNeg))))))))) a1 ((r3 - (5 * (m3.1 87 0 a1.toNatClampNeg))))))))) else (zg (zdS ((m3.1 60 0 29).toNatClampNeg)) (zg (inb a1 4) (zb (f_X11_skyAt F m3 a2 1) fun r31 m31 => zg (inb a1 4) (f_X11_grow_59 F (zwi m31 ((m3.1 60 0 29).toNatClampNeg) 0 a1.toNatClampNeg (((m3.1 ((m3.1 60 0 29).toNatClampNeg) 0 a1.toNatClampNeg) + r31))) a1 ((r3 - (5 * (m3.1 87 0 a1.toNatClampNeg)))))))))
set_option maxHeartbeats 4000000 in
set_option maxRecDepth 100000 in
theorem c_X11_grow (l : Launch) (Z : zLay) (F : Nat) (σ : zMem) (a1 : Int32) (a2 : Int32) (r : Unit) (σ1 : zMem) (ho : f_X11_grow F σ a1 a2 = some (r, σ1)) : zMet l yX11_grow cX11_grow 4 none 2 Z [.ref (zad Z 60 0), .int (a1), .int (a2)] σ (zQV Z r σ1) := by
  refine zMet_of (Qc := zQV Z) (by decide) (Nat.le_of_ble_eq_true rfl) [(0, .ref (zad Z 60 0)), (1, .int (a1)), (2, .int (a2))] rfl (fun E C => ?_) ho
  have hh : 2 ≤ 2 := Nat.le_refl _
  show zKO E 4 Z (zMQ E Z (zQV Z)) 0 [(0, .ref (zad Z 60 0)), (1, .int (a1)), (2, .int (a2))] [] σ _
  unfold f_X11_grow
  refine zr_aload_n C dX11_grow_0 rfl ?_
  refine zr_iload_n C dX11_grow_1 rfl ?_
  refine zr_iconst (v := 0) C dX11_grow_2 rfl ?_
  refine zk_X11_357 C F (Nat.le_of_ble_eq_true rfl) (Nat.le_trans (by decide) hh) (by simp [Value.category]) dX11_grow_3 (fun r3 m3 => ?_)
  refine zr_iconst (v := 5) C dX11_grow_6 rfl ?_
  refine zr_aload_n C dX11_grow_7 rfl ?_
  refine zf_X11_74 C (Nat.le_of_ble_eq_true rfl) dX11_grow_8 ?_
  refine zr_iload_n C dX11_grow_11 rfl ?_
  refine zr_iald (n := 4) C dX11_grow_12 (Nat.le_of_ble_eq_true rfl) rfl ?_
  refine zr_imul C dX11_grow_13 ?_
  refine zr_isub C dX11_grow_14 ?_
  refine zr_istore_n (i := 3) (L1 := [(3, .int _), (0, .ref _), (1, .int _), (2, .int _)]) C dX11_grow_15 rfl (by decide) rfl ?_
  refine zr_iload_n C dX11_grow_16 rfl ?_
  refine zr_iconst (v := 2) C dX11_grow_17 rfl ?_
  refine zr_icmp_gt (tgt := 39) C dX11_grow_18 (by decide) ?_ ?_
  · refine zr_aload_n C dX11_grow_39 rfl ?_
    refine zf_X11_83 C (Nat.le_of_ble_eq_true rfl) dX11_grow_40 ?_
    refine zr_g (fun hk40 => ?_)
    refine zr_iload_n C dX11_grow_43 rfl ?_
    refine zr_iconst (v := 0) C dX11_grow_44 rfl ?_
    refine zr_aload_n C dX11_grow_45 rfl ?_
    refine zf_X11_83 C (Nat.le_of_ble_eq_true rfl) dX11_grow_46 ?_
    refine zr_g (fun hk46 => ?_)
    refine zr_iload_n C dX11_grow_49 rfl ?_
    refine zr_iald (n := 4) C dX11_grow_50 (zN_snow hk46 (by decide)) (zE_snow hk46) ?_
    refine zr_iconst (v := 2) C dX11_grow_51 rfl ?_
    refine zr_iload_n C dX11_grow_52 rfl ?_
    refine zr_imul C dX11_grow_53 ?_
    refine zr_isub C dX11_grow_54 ?_
    refine zr_mmax C wz_1555 wz_606 wz_17 wz_607 (Nat.le_trans (by decide) hh) (by simp [Value.category]) dX11_grow_55 ?_
    refine zr_iast (n := 4) C dX11_grow_58 (zN_snow hk40 (by decide)) (fun _ _ => zE_snow hk40) ?_
    exact zr_sub [1, 2, 0] rfl (c_X11_grow_59 F C hh (zwi m3 ((m3.1 60 0 29).toNatClampNeg) 0 a1.toNatClampNeg ((zmax 0 (((m3.1 ((m3.1 60 0 29).toNatClampNeg) 0 a1.toNatClampNeg) - (2 * (r3 - (5 * (m3.1 87 0 a1.toNatClampNeg))))))))) a1 ((r3 - (5 * (m3.1 87 0 a1.toNatClampNeg)))))
  · refine zr_aload_n C dX11_grow_21 rfl ?_
    refine zf_X11_83 C (Nat.le_of_ble_eq_true rfl) dX11_grow_22 ?_
    refine zr_g (fun hk22 => ?_)
    refine zr_iload_n C dX11_grow_25 rfl ?_
    refine zr_dup2 C dX11_grow_26 rfl rfl ?_
    refine zr_iald (n := 4) C dX11_grow_27 (zN_snow hk22 (by decide)) (zE_snow hk22) ?_
    refine zr_aload_n C dX11_grow_28 rfl ?_
    refine zr_iload_n C dX11_grow_29 rfl ?_
    refine zr_iconst (v := 1) C dX11_grow_30 rfl ?_
    refine zk_X11_357 C F (Nat.le_of_ble_eq_true rfl) (Nat.le_trans (by decide) hh) (by simp [Value.category]) dX11_grow_31 (fun r31 m31 => ?_)
    refine zr_iadd C dX11_grow_34 ?_
    refine zr_iast (n := 4) C dX11_grow_35 (zN_snow hk22 (by decide)) (fun _ _ => zE_snow hk22) ?_
    refine zr_goto (tgt := 59) C dX11_grow_36 (by decide) ?_
    exact zr_sub [1, 2, 0] rfl (c_X11_grow_59 F C hh (zwi m31 ((m3.1 60 0 29).toNatClampNeg) 0 a1.toNatClampNeg (((m3.1 ((m3.1 60 0 29).toNatClampNeg) 0 a1.toNatClampNeg) + r31))) a1 ((r3 - (5 * (m3.1 87 0 a1.toNatClampNeg)))))
theorem zk_X11_374 (C : zCx E cc RX11 nL ret Z h) (F : Nat) {b0 : Int32} {b1 : Int32} (hk : 0 < zN 60) (hh : 2 + 1 ≤ h) (hst8 : (st.map fun v => v.category).sum ≤ 8) (hd : decode cc pc = .ok (.invokevirtual 374, 3)) {g : Unit → zMem → Option (α × zMem)} (kk : ∀ (r : Unit) (σ1 : zMem), zKO E nL Z QQ (pc + 3) L (st) σ1 (g r σ1)) : zKO E nL Z QQ pc L (.int b1 :: .int b0 :: .ref (zad Z 60 0) :: st) σ (zb (f_X11_grow F σ b0 b1) g) :=
  zr_callVU (As := [.int b0, .int b1]) (ia := 2) C (fun r σ1 ho => c_X11_grow (zla E) Z F σ b0 b1 r σ1 ho) wz_1551 hk rfl rfl wz_p110 wz_1553 wz_1554 wz_12 (by decide +kernel) rfl (by decide) hh hd hst8 kk
def f_X11_feedOn (F : Nat) (σ : zMem) (a1 : Int32) (a2 : Int32) : Option (Int32 × zMem) := zg (zdU ((σ.1 60 0 11).toNatClampNeg)) (zg (inb a1 4) (zg (inb a2 10) (zg (zdG ((σ.1 60 0 28).toNatClampNeg)) (zg (inb a1 4) (zg (zni 3) (zg (zdG ((σ.1 60 0 28).toNatClampNeg)) (zg (inb a1 4) (zg (inb a1 4) (some ((zmin ((σ.1 (((σ.1 60 0 11).toNatClampNeg + 1)) a1.toNatClampNeg a2.toNatClampNeg)) (((σ.1 ((σ.1 60 0 28).toNatClampNeg) 0 a1.toNatClampNeg) / 3))), (zwi σ ((σ.1 60 0 28).toNatClampNeg) 0 a1.toNatClampNeg (((σ.1 ((σ.1 60 0 28).toNatClampNeg) 0 a1.toNatClampNeg) - (3 * (zmin ((σ.1 (((σ.1 60 0 11).toNatClampNeg + 1)) a1.toNatClampNeg a2.toNatClampNeg)) (((σ.1 ((σ.1 60 0 28).toNatClampNeg) 0 a1.toNatClampNeg) / 3)))))))))))))))))
set_option maxHeartbeats 4000000 in
set_option maxRecDepth 100000 in
theorem c_X11_feedOn (l : Launch) (Z : zLay) (F : Nat) (σ : zMem) (a1 : Int32) (a2 : Int32) (r : Int32) (σ1 : zMem) (ho : f_X11_feedOn F σ a1 a2 = some (r, σ1)) : zMet l yX11_feedOn cX11_feedOn 4 (some .int) 1 Z [.ref (zad Z 60 0), .int (a1), .int (a2)] σ (zQI Z r σ1) := by
  refine zMet_of (Qc := zQI Z) (by decide) (Nat.le_of_ble_eq_true rfl) [(0, .ref (zad Z 60 0)), (1, .int (a1)), (2, .int (a2))] rfl (fun E C => ?_) ho
  have hh : 1 ≤ 1 := Nat.le_refl _
  show zKO E 4 Z (zMQ E Z (zQI Z)) 0 [(0, .ref (zad Z 60 0)), (1, .int (a1)), (2, .int (a2))] [] σ _
  unfold f_X11_feedOn
  refine zr_aload_n C dX11_feedOn_0 rfl ?_
  refine zf_X11_39 C (Nat.le_of_ble_eq_true rfl) dX11_feedOn_1 ?_
  refine zr_g (fun hk1 => ?_)
  refine zr_iload_n C dX11_feedOn_4 rfl ?_
  refine zr_aald (n := 4) (k1 := ((σ.1 60 0 11).toNatClampNeg) + 1) C dX11_feedOn_5 (zN_up hk1 (by decide)) (zE_up hk1) rfl rfl (fun hb5 => ?_)
  refine zr_iload_n C dX11_feedOn_6 rfl ?_
  refine zr_iald (n := 10) C dX11_feedOn_7 (zN_upE (zdE_of hk1) hb5) (zE_upE (zdE_of hk1)) ?_
  refine zr_aload_n C dX11_feedOn_8 rfl ?_
  refine zf_X11_80 C (Nat.le_of_ble_eq_true rfl) dX11_feedOn_9 ?_
  refine zr_g (fun hk9 => ?_)
  refine zr_iload_n C dX11_feedOn_12 rfl ?_
  refine zr_iald (n := 4) C dX11_feedOn_13 (zN_grass hk9 (by decide)) (zE_grass hk9) ?_
  refine zr_iconst (v := 3) C dX11_feedOn_14 rfl ?_
  refine zr_idiv C dX11_feedOn_15 ?_
  refine zr_mmin C wz_1449 wz_796 wz_17 wz_797 (Nat.le_trans (by decide) hh) (by simp [Value.category]) dX11_feedOn_16 ?_
  refine zr_istore_n (i := 3) (L1 := [(3, .int _), (0, .ref _), (1, .int _), (2, .int _)]) C dX11_feedOn_19 rfl (by decide) rfl ?_
  refine zr_aload_n C dX11_feedOn_20 rfl ?_
  refine zf_X11_80 C (Nat.le_of_ble_eq_true rfl) dX11_feedOn_21 ?_
  refine zr_g (fun hk21 => ?_)
  refine zr_iload_n C dX11_feedOn_24 rfl ?_
  refine zr_dup2 C dX11_feedOn_25 rfl rfl ?_
  refine zr_iald (n := 4) C dX11_feedOn_26 (zN_grass hk21 (by decide)) (zE_grass hk21) ?_
  refine zr_iconst (v := 3) C dX11_feedOn_27 rfl ?_
  refine zr_iload_n C dX11_feedOn_28 rfl ?_
  refine zr_imul C dX11_feedOn_29 ?_
  refine zr_isub C dX11_feedOn_30 ?_
  refine zr_iast (n := 4) C dX11_feedOn_31 (zN_grass hk21 (by decide)) (fun _ _ => zE_grass hk21) ?_
  refine zr_iload_n C dX11_feedOn_32 rfl ?_
  exact zr_iret C dX11_feedOn_33
theorem zk_X11_378 (C : zCx E cc RX11 nL ret Z h) (F : Nat) {b0 : Int32} {b1 : Int32} (hk : 0 < zN 60) (hh : 1 + 1 ≤ h) (hst8 : (st.map fun v => v.category).sum ≤ 8) (hd : decode cc pc = .ok (.invokevirtual 378, 3)) {g : Int32 → zMem → Option (α × zMem)} (kk : ∀ (r : Int32) (σ1 : zMem), zKO E nL Z QQ (pc + 3) L (.int r :: st) σ1 (g r σ1)) : zKO E nL Z QQ pc L (.int b1 :: .int b0 :: .ref (zad Z 60 0) :: st) σ (zb (f_X11_feedOn F σ b0 b1) g) :=
  zr_callVI (As := [.int b0, .int b1]) (ia := 2) C (fun r σ1 ho => c_X11_feedOn (zla E) Z F σ b0 b1 r σ1 ho) wz_1556 hk rfl rfl wz_p111 wz_1558 wz_1559 wz_12 (by decide +kernel) rfl (by decide) hh hd hst8 kk
def f_X11_fields_60 (F : Nat) (rec50 : zMem → Int32 → Option (Unit × zMem)) (rec60 : zMem → Int32 × Int32 → Option (Unit × zMem)) (σ : zMem) (x : Int32 × Int32) : Option (Unit × zMem) := if (σ.1 60 0 1) ≤ x.2 then (rec50 σ ((x.1 + 1))) else (zb (f_X11_feedOn F σ x.1 x.2) fun r71 m71 => zg (inb x.2 10) (zg (inb x.2 10) (zg (inb x.2 10) (zg (zdU (((zwi m71 64 0 x.2.toNatClampNeg (((m71.1 64 0 x.2.toNatClampNeg) + (8 * r71)))).1 60 0 11).toNatClampNeg)) (zg (inb x.1 4) (zg (inb x.2 10) (zg (inb x.2 10) (rec60 (zwi (zwi m71 64 0 x.2.toNatClampNeg (((m71.1 64 0 x.2.toNatClampNeg) + (8 * r71)))) 63 0 x.2.toNatClampNeg ((((zwi m71 64 0 x.2.toNatClampNeg (((m71.1 64 0 x.2.toNatClampNeg) + (8 * r71)))).1 63 0 x.2.toNatClampNeg) + (((zwi m71 64 0 x.2.toNatClampNeg (((m71.1 64 0 x.2.toNatClampNeg) + (8 * r71)))).1 ((((zwi m71 64 0 x.2.toNatClampNeg (((m71.1 64 0 x.2.toNatClampNeg) + (8 * r71)))).1 60 0 11).toNatClampNeg + 1)) x.1.toNatClampNeg x.2.toNatClampNeg) - r71)))) ((x.1, (x.2 + 1)))))))))))
set_option maxHeartbeats 4000000 in
set_option maxRecDepth 100000 in
theorem c_X11_fields_60 (F : Nat) (rec50 : zMem → Int32 → Option (Unit × zMem)) {E : zEn} {h : Nat} {Z : zLay} (C : zCx E cX11_fields RX11 4 none Z h) (hh : 3 ≤ h) (hrec50 : ∀ (σ : zMem) (x : Int32), zKO E 4 Z (zMQ E Z (zQV Z)) 50 [(0, .ref (zad Z 60 0)), (1, .int x)] [] σ (rec50 σ x)) : ∀ (n : Nat) (σ : zMem) (x : Int32 × Int32), zKO E 4 Z (zMQ E Z (zQV Z)) 60 [(0, .ref (zad Z 60 0)), (1, .int x.1), (2, .int x.2)] [] σ (zit (f_X11_fields_60 F rec50) n σ x) := by
  refine zr_loop (LL := fun (x : Int32 × Int32) => [(0, .ref (zad Z 60 0)), (1, .int x.1), (2, .int x.2)]) (ST := fun (x : Int32 × Int32) => []) (fun rec60 hrec60 σ x => ?_)
  obtain ⟨l1, l2⟩ := x
  show zKO E 4 Z (zMQ E Z (zQV Z)) 60 [(0, .ref (zad Z 60 0)), (1, .int l1), (2, .int l2)] [] σ (if (σ.1 60 0 1) ≤ l2 then (rec50 σ ((l1 + 1))) else (zb (f_X11_feedOn F σ l1 l2) fun r71 m71 => zg (inb l2 10) (zg (inb l2 10) (zg (inb l2 10) (zg (zdU (((zwi m71 64 0 l2.toNatClampNeg (((m71.1 64 0 l2.toNatClampNeg) + (8 * r71)))).1 60 0 11).toNatClampNeg)) (zg (inb l1 4) (zg (inb l2 10) (zg (inb l2 10) (rec60 (zwi (zwi m71 64 0 l2.toNatClampNeg (((m71.1 64 0 l2.toNatClampNeg) + (8 * r71)))) 63 0 l2.toNatClampNeg ((((zwi m71 64 0 l2.toNatClampNeg (((m71.1 64 0 l2.toNatClampNeg) + (8 * r71)))).1 63 0 l2.toNatClampNeg) + (((zwi m71 64 0 l2.toNatClampNeg (((m71.1 64 0 l2.toNatClampNeg) + (8 * r71)))).1 ((((zwi m71 64 0 l2.toNatClampNeg (((m71.1 64 0 l2.toNatClampNeg) + (8 * r71)))).1 60 0 11).toNatClampNeg + 1)) l1.toNatClampNeg l2.toNatClampNeg) - r71)))) ((l1, (l2 + 1))))))))))))
  refine zr_iload_n C dX11_fields_60 rfl ?_
  refine zr_aload_n C dX11_fields_61 rfl ?_
  refine zf_X11_160 C (Nat.le_of_ble_eq_true rfl) dX11_fields_62 ?_
  refine zr_icmp_ge (tgt := 113) C dX11_fields_65 (by decide) ?_ ?_
  · refine zr_iinc (kk := 1) (v := (l1 + 1)) (L1 := [(1, .int _), (0, .ref _), (2, .int _)]) C dX11_fields_113 rfl rfl (by decide) rfl ?_
    refine zr_goto (tgt := 50) C dX11_fields_116 (by decide) ?_
    exact zr_sub [1, 0] rfl (hrec50 σ ((l1 + 1)))
  · refine zr_aload_n C dX11_fields_68 rfl ?_
    refine zr_iload_n C dX11_fields_69 rfl ?_
    refine zr_iload_n C dX11_fields_70 rfl ?_
    refine zk_X11_378 C F (Nat.le_of_ble_eq_true rfl) (Nat.le_trans (by decide) hh) (by simp [Value.category]) dX11_fields_71 (fun r71 m71 => ?_)
    refine zr_istore_n (i := 3) (L1 := [(3, .int _), (0, .ref _), (1, .int _), (2, .int _)]) C dX11_fields_74 rfl (by decide) rfl ?_
    refine zr_aload_n C dX11_fields_75 rfl ?_
    refine zf_X11_18 C (Nat.le_of_ble_eq_true rfl) dX11_fields_76 ?_
    refine zr_iload_n C dX11_fields_79 rfl ?_
    refine zr_dup2 C dX11_fields_80 rfl rfl ?_
    refine zr_iald (n := 10) C dX11_fields_81 (Nat.le_of_ble_eq_true rfl) rfl ?_
    refine zr_bipush (v := 8) C dX11_fields_82 rfl ?_
    refine zr_iload_n C dX11_fields_84 rfl ?_
    refine zr_imul C dX11_fields_85 ?_
    refine zr_iadd C dX11_fields_86 ?_
    refine zr_iast (n := 10) C dX11_fields_87 (Nat.le_of_ble_eq_true rfl) (fun _ _ => rfl) ?_
    refine zr_aload_n C dX11_fields_88 rfl ?_
    refine zf_X11_14 C (Nat.le_of_ble_eq_true rfl) dX11_fields_89 ?_
    refine zr_iload_n C dX11_fields_92 rfl ?_
    refine zr_dup2 C dX11_fields_93 rfl rfl ?_
    refine zr_iald (n := 10) C dX11_fields_94 (Nat.le_of_ble_eq_true rfl) rfl ?_
    refine zr_aload_n C dX11_fields_95 rfl ?_
    refine zf_X11_39 C (Nat.le_of_ble_eq_true rfl) dX11_fields_96 ?_
    refine zr_g (fun hk96 => ?_)
    refine zr_iload_n C dX11_fields_99 rfl ?_
    refine zr_aald (n := 4) (k1 := (((zwi m71 64 0 l2.toNatClampNeg (((m71.1 64 0 l2.toNatClampNeg) + (8 * r71)))).1 60 0 11).toNatClampNeg) + 1) C dX11_fields_100 (zN_up hk96 (by decide)) (zE_up hk96) rfl rfl (fun hb100 => ?_)
    refine zr_iload_n C dX11_fields_101 rfl ?_
    refine zr_iald (n := 10) C dX11_fields_102 (zN_upE (zdE_of hk96) hb100) (zE_upE (zdE_of hk96)) ?_
    refine zr_iload_n C dX11_fields_103 rfl ?_
    refine zr_isub C dX11_fields_104 ?_
    refine zr_iadd C dX11_fields_105 ?_
    refine zr_iast (n := 10) C dX11_fields_106 (Nat.le_of_ble_eq_true rfl) (fun _ _ => rfl) ?_
    refine zr_iinc (kk := 3) (v := (l2 + 1)) (L1 := [(2, .int _), (3, .int _), (0, .ref _), (1, .int _)]) C dX11_fields_107 rfl rfl (by decide) rfl ?_
    refine zr_goto (tgt := 60) C dX11_fields_110 (by decide) ?_
    exact zr_sub [2, 3, 0] rfl (hrec60 (zwi (zwi m71 64 0 l2.toNatClampNeg (((m71.1 64 0 l2.toNatClampNeg) + (8 * r71)))) 63 0 l2.toNatClampNeg ((((zwi m71 64 0 l2.toNatClampNeg (((m71.1 64 0 l2.toNatClampNeg) + (8 * r71)))).1 63 0 l2.toNatClampNeg) + (((zwi m71 64 0 l2.toNatClampNeg (((m71.1 64 0 l2.toNatClampNeg) + (8 * r71)))).1 ((((zwi m71 64 0 l2.toNatClampNeg (((m71.1 64 0 l2.toNatClampNeg) + (8 * r71)))).1 60 0 11).toNatClampNeg + 1)) l1.toNatClampNeg l2.toNatClampNeg) - r71)))) ((l1, (l2 + 1))))
def f_X11_fields_50 (F : Nat) (rec50 : zMem → Int32 → Option (Unit × zMem)) (σ : zMem) (x : Int32) : Option (Unit × zMem) := if (σ.1 60 0 25) ≤ x then (some ((), σ)) else (zit (f_X11_fields_60 F rec50) F σ ((x, 0)))
set_option maxHeartbeats 4000000 in
set_option maxRecDepth 100000 in
theorem c_X11_fields_50 (F : Nat) {E : zEn} {h : Nat} {Z : zLay} (C : zCx E cX11_fields RX11 4 none Z h) (hh : 3 ≤ h) : ∀ (n : Nat) (σ : zMem) (x : Int32), zKO E 4 Z (zMQ E Z (zQV Z)) 50 [(0, .ref (zad Z 60 0)), (1, .int x)] [] σ (zit (f_X11_fields_50 F) n σ x) := by
  refine zr_loop (LL := fun (x : Int32) => [(0, .ref (zad Z 60 0)), (1, .int x)]) (ST := fun (x : Int32) => []) (fun rec50 hrec50 σ x => ?_)
  obtain ⟨l1, h9⟩ : ∃ y, y = x := ⟨x, rfl⟩
  subst h9
  show zKO E 4 Z (zMQ E Z (zQV Z)) 50 [(0, .ref (zad Z 60 0)), (1, .int l1)] [] σ (if (σ.1 60 0 25) ≤ l1 then (some ((), σ)) else (zit (f_X11_fields_60 F rec50) F σ ((l1, 0))))
  refine zr_iload_n C dX11_fields_50 rfl ?_
  refine zr_aload_n C dX11_fields_51 rfl ?_
  refine zf_X11_170 C (Nat.le_of_ble_eq_true rfl) dX11_fields_52 ?_
  refine zr_icmp_ge (tgt := 119) C dX11_fields_55 (by decide) ?_ ?_
  · exact zr_vret C dX11_fields_119
  · refine zr_iconst (v := 0) C dX11_fields_58 rfl ?_
    refine zr_istore_n (i := 2) (L1 := [(2, .int _), (0, .ref _), (1, .int _)]) C dX11_fields_59 rfl (by decide) rfl ?_
    exact zr_sub [1, 2, 0] rfl (c_X11_fields_60 F rec50 C hh hrec50 F σ ((l1, 0)))
def f_X11_fields_25 (F : Nat) (rec25 : zMem → Int32 → Option (Unit × zMem)) (σ : zMem) (x : Int32) : Option (Unit × zMem) := if (σ.1 60 0 25) ≤ x then (zit (f_X11_fields_50 F) F σ 0) else (zb (f_X11_grow F σ x ((σ.1 60 0 0))) fun r39 m39 => rec25 m39 ((x + 1)))
set_option maxHeartbeats 4000000 in
set_option maxRecDepth 100000 in
theorem c_X11_fields_25 (F : Nat) {E : zEn} {h : Nat} {Z : zLay} (C : zCx E cX11_fields RX11 4 none Z h) (hh : 3 ≤ h) : ∀ (n : Nat) (σ : zMem) (x : Int32), zKO E 4 Z (zMQ E Z (zQV Z)) 25 [(0, .ref (zad Z 60 0)), (1, .int x)] [] σ (zit (f_X11_fields_25 F) n σ x) := by
  refine zr_loop (LL := fun (x : Int32) => [(0, .ref (zad Z 60 0)), (1, .int x)]) (ST := fun (x : Int32) => []) (fun rec25 hrec25 σ x => ?_)
  obtain ⟨l1, h9⟩ : ∃ y, y = x := ⟨x, rfl⟩
  subst h9
  show zKO E 4 Z (zMQ E Z (zQV Z)) 25 [(0, .ref (zad Z 60 0)), (1, .int l1)] [] σ (if (σ.1 60 0 25) ≤ l1 then (zit (f_X11_fields_50 F) F σ 0) else (zb (f_X11_grow F σ l1 ((σ.1 60 0 0))) fun r39 m39 => rec25 m39 ((l1 + 1))))
  refine zr_iload_n C dX11_fields_25 rfl ?_
  refine zr_aload_n C dX11_fields_26 rfl ?_
  refine zf_X11_170 C (Nat.le_of_ble_eq_true rfl) dX11_fields_27 ?_
  refine zr_icmp_ge (tgt := 48) C dX11_fields_30 (by decide) ?_ ?_
  · refine zr_iconst (v := 0) C dX11_fields_48 rfl ?_
    refine zr_istore_n (i := 1) (L1 := [(1, .int _), (0, .ref _)]) C dX11_fields_49 rfl (by decide) rfl ?_
    exact zr_sub [1, 0] rfl (c_X11_fields_50 F C hh F σ 0)
  · refine zr_aload_n C dX11_fields_33 rfl ?_
    refine zr_iload_n C dX11_fields_34 rfl ?_
    refine zr_aload_n C dX11_fields_35 rfl ?_
    refine zf_X11_193 C (Nat.le_of_ble_eq_true rfl) dX11_fields_36 ?_
    refine zk_X11_374 C F (Nat.le_of_ble_eq_true rfl) (Nat.le_trans (by decide) hh) (by simp [Value.category]) dX11_fields_39 (fun r39 m39 => ?_)
    refine zr_iinc (kk := 1) (v := (l1 + 1)) (L1 := [(1, .int _), (0, .ref _)]) C dX11_fields_42 rfl rfl (by decide) rfl ?_
    refine zr_goto (tgt := 25) C dX11_fields_45 (by decide) ?_
    exact zr_sub [1, 0] rfl (hrec25 m39 ((l1 + 1)))
def f_X11_fields_2 (F : Nat) (rec2 : zMem → Int32 → Option (Unit × zMem)) (σ : zMem) (x : Int32) : Option (Unit × zMem) := if (σ.1 60 0 1) ≤ x then (zit (f_X11_fields_25 F) F σ 0) else (zg (inb x 10) (rec2 (zwi σ 64 0 x.toNatClampNeg 0) ((x + 1))))
set_option maxHeartbeats 4000000 in
set_option maxRecDepth 100000 in
theorem c_X11_fields_2 (F : Nat) {E : zEn} {h : Nat} {Z : zLay} (C : zCx E cX11_fields RX11 4 none Z h) (hh : 3 ≤ h) : ∀ (n : Nat) (σ : zMem) (x : Int32), zKO E 4 Z (zMQ E Z (zQV Z)) 2 [(0, .ref (zad Z 60 0)), (1, .int x)] [] σ (zit (f_X11_fields_2 F) n σ x) := by
  refine zr_loop (LL := fun (x : Int32) => [(0, .ref (zad Z 60 0)), (1, .int x)]) (ST := fun (x : Int32) => []) (fun rec2 hrec2 σ x => ?_)
  obtain ⟨l1, h9⟩ : ∃ y, y = x := ⟨x, rfl⟩
  subst h9
  show zKO E 4 Z (zMQ E Z (zQV Z)) 2 [(0, .ref (zad Z 60 0)), (1, .int l1)] [] σ (if (σ.1 60 0 1) ≤ l1 then (zit (f_X11_fields_25 F) F σ 0) else (zg (inb l1 10) (rec2 (zwi σ 64 0 l1.toNatClampNeg 0) ((l1 + 1)))))
  refine zr_iload_n C dX11_fields_2 rfl ?_
  refine zr_aload_n C dX11_fields_3 rfl ?_
  refine zf_X11_160 C (Nat.le_of_ble_eq_true rfl) dX11_fields_4 ?_
  refine zr_icmp_ge (tgt := 23) C dX11_fields_7 (by decide) ?_ ?_
  · refine zr_iconst (v := 0) C dX11_fields_23 rfl ?_
    refine zr_istore_n (i := 1) (L1 := [(1, .int _), (0, .ref _)]) C dX11_fields_24 rfl (by decide) rfl ?_
    exact zr_sub [1, 0] rfl (c_X11_fields_25 F C hh F σ 0)
  · refine zr_aload_n C dX11_fields_10 rfl ?_
    refine zf_X11_18 C (Nat.le_of_ble_eq_true rfl) dX11_fields_11 ?_
    refine zr_iload_n C dX11_fields_14 rfl ?_
    refine zr_iconst (v := 0) C dX11_fields_15 rfl ?_
    refine zr_iast (n := 10) C dX11_fields_16 (Nat.le_of_ble_eq_true rfl) (fun _ _ => rfl) ?_
    refine zr_iinc (kk := 1) (v := (l1 + 1)) (L1 := [(1, .int _), (0, .ref _)]) C dX11_fields_17 rfl rfl (by decide) rfl ?_
    refine zr_goto (tgt := 2) C dX11_fields_20 (by decide) ?_
    exact zr_sub [1, 0] rfl (hrec2 (zwi σ 64 0 l1.toNatClampNeg 0) ((l1 + 1)))
def f_X11_fields (F : Nat) (σ : zMem) : Option (Unit × zMem) := zit (f_X11_fields_2 F) F σ 0
set_option maxHeartbeats 4000000 in
set_option maxRecDepth 100000 in
theorem c_X11_fields (l : Launch) (Z : zLay) (F : Nat) (σ : zMem) (r : Unit) (σ1 : zMem) (ho : f_X11_fields F σ = some (r, σ1)) : zMet l yX11_fields cX11_fields 4 none 3 Z [.ref (zad Z 60 0)] σ (zQV Z r σ1) := by
  refine zMet_of (Qc := zQV Z) (by decide) (Nat.le_of_ble_eq_true rfl) [(0, .ref (zad Z 60 0))] rfl (fun E C => ?_) ho
  have hh : 3 ≤ 3 := Nat.le_refl _
  show zKO E 4 Z (zMQ E Z (zQV Z)) 0 [(0, .ref (zad Z 60 0))] [] σ _
  unfold f_X11_fields
  refine zr_iconst (v := 0) C dX11_fields_0 rfl ?_
  refine zr_istore_n (i := 1) (L1 := [(1, .int _), (0, .ref _)]) C dX11_fields_1 rfl (by decide) rfl ?_
  exact zr_sub [1, 0] rfl (c_X11_fields_2 F C hh F σ 0)
theorem zk_X11_408 (C : zCx E cc RX11 nL ret Z h) (F : Nat)  (hk : 0 < zN 60) (hh : 3 + 1 ≤ h) (hst8 : (st.map fun v => v.category).sum ≤ 8) (hd : decode cc pc = .ok (.invokevirtual 408, 3)) {g : Unit → zMem → Option (α × zMem)} (kk : ∀ (r : Unit) (σ1 : zMem), zKO E nL Z QQ (pc + 3) L (st) σ1 (g r σ1)) : zKO E nL Z QQ pc L (.ref (zad Z 60 0) :: st) σ (zb (f_X11_fields F σ) g) :=
  zr_callVU (As := []) (ia := 0) C (fun r σ1 ho => c_X11_fields (zla E) Z F σ r σ1 ho) wz_1547 hk rfl rfl wz_p109 wz_1549 wz_1550 wz_12 (by decide +kernel) rfl (by decide) hh hd hst8 kk
def f_X11_owes (F : Nat) (σ : zMem) (a1 : Int32) (a2 : Int64) : Option (Int32 × zMem) := zg (inb a1 10) (zg (inb 4 5) (zg (inb a1 10) (zg (inb 4 5) (zg (inb a1 10) (zg (inb 4 5) (some ((((zwi σ 62 a1.toNatClampNeg 4 ((((zminl 99999999 (((((σ.1 62 a1.toNatClampNeg 4)).toInt64) + a2)))).toInt32))).1 62 a1.toNatClampNeg 4) - (σ.1 62 a1.toNatClampNeg 4)), (zwi σ 62 a1.toNatClampNeg 4 ((((zminl 99999999 (((((σ.1 62 a1.toNatClampNeg 4)).toInt64) + a2)))).toInt32))))))))))
set_option maxHeartbeats 4000000 in
set_option maxRecDepth 100000 in
theorem c_X11_owes (l : Launch) (Z : zLay) (F : Nat) (σ : zMem) (a1 : Int32) (a2 : Int64) (r : Int32) (σ1 : zMem) (ho : f_X11_owes F σ a1 a2 = some (r, σ1)) : zMet l yX11_owes cX11_owes 5 (some .int) 1 Z [.ref (zad Z 60 0), .int (a1), .long (a2)] σ (zQI Z r σ1) := by
  refine zMet_of (Qc := zQI Z) (by decide) (Nat.le_of_ble_eq_true rfl) [(0, .ref (zad Z 60 0)), (1, .int (a1)), (2, .long (a2))] rfl (fun E C => ?_) ho
  have hh : 1 ≤ 1 := Nat.le_refl _
  show zKO E 5 Z (zMQ E Z (zQI Z)) 0 [(0, .ref (zad Z 60 0)), (1, .int (a1)), (2, .long (a2))] [] σ _
  unfold f_X11_owes
  refine zr_aload_n C dX11_owes_0 rfl ?_
  refine zf_X11_9 C (Nat.le_of_ble_eq_true rfl) dX11_owes_1 ?_
  refine zr_iload_n C dX11_owes_4 rfl ?_
  refine zr_aald (n := 10) (k1 := 62) C dX11_owes_5 (Nat.le_of_ble_eq_true rfl) rfl rfl rfl (fun hb5 => ?_)
  refine zr_iconst (v := 4) C dX11_owes_6 rfl ?_
  refine zr_iald (n := 5) C dX11_owes_7 hb5 rfl ?_
  refine zr_istore (i := 4) (L1 := [(4, .int _), (0, .ref _), (1, .int _), (2, .long _)]) C dX11_owes_8 (by decide) rfl ?_
  refine zr_aload_n C dX11_owes_10 rfl ?_
  refine zf_X11_9 C (Nat.le_of_ble_eq_true rfl) dX11_owes_11 ?_
  refine zr_iload_n C dX11_owes_14 rfl ?_
  refine zr_aald (n := 10) (k1 := 62) C dX11_owes_15 (Nat.le_of_ble_eq_true rfl) rfl rfl rfl (fun hb15 => ?_)
  refine zr_iconst (v := 4) C dX11_owes_16 rfl ?_
  refine zr_ldc2 (v := 99999999) C dX11_owes_17 wz_1568 ?_
  refine zr_iload C dX11_owes_20 rfl ?_
  refine zr_i2l C dX11_owes_22 ?_
  refine zr_lload_n C dX11_owes_23 rfl ?_
  refine zr_ladd C dX11_owes_24 ?_
  refine zr_mminl C wz_1569 wz_818 wz_17 wz_819 (Nat.le_trans (by decide) hh) (by simp [Value.category]) dX11_owes_25 ?_
  refine zr_l2i C dX11_owes_28 ?_
  refine zr_iast (n := 5) C dX11_owes_29 hb15 (fun _ _ => rfl) ?_
  refine zr_aload_n C dX11_owes_30 rfl ?_
  refine zf_X11_9 C (Nat.le_of_ble_eq_true rfl) dX11_owes_31 ?_
  refine zr_iload_n C dX11_owes_34 rfl ?_
  refine zr_aald (n := 10) (k1 := 62) C dX11_owes_35 (Nat.le_of_ble_eq_true rfl) rfl rfl rfl (fun hb35 => ?_)
  refine zr_iconst (v := 4) C dX11_owes_36 rfl ?_
  refine zr_iald (n := 5) C dX11_owes_37 hb35 rfl ?_
  refine zr_iload C dX11_owes_38 rfl ?_
  refine zr_isub C dX11_owes_40 ?_
  exact zr_iret C dX11_owes_41
theorem zk_X11_381 (C : zCx E cc RX11 nL ret Z h) (F : Nat) {b0 : Int32} {b1 : Int64} (hk : 0 < zN 60) (hh : 1 + 1 ≤ h) (hst8 : (st.map fun v => v.category).sum ≤ 8) (hd : decode cc pc = .ok (.invokevirtual 381, 3)) {g : Int32 → zMem → Option (α × zMem)} (kk : ∀ (r : Int32) (σ1 : zMem), zKO E nL Z QQ (pc + 3) L (.int r :: st) σ1 (g r σ1)) : zKO E nL Z QQ pc L (.long b1 :: .int b0 :: .ref (zad Z 60 0) :: st) σ (zb (f_X11_owes F σ b0 b1) g) :=
  zr_callVI (As := [.int b0, .long b1]) (ia := 2) C (fun r σ1 ho => c_X11_owes (zla E) Z F σ b0 b1 r σ1 ho) wz_1564 hk rfl rfl wz_p113 wz_1566 wz_1567 wz_12 (by decide +kernel) rfl (by decide) hh hd hst8 kk
def f_X11_stables_32 (F : Nat) (rec11 : zMem → Int32 × Int32 → Option (Unit × zMem)) (σ : zMem) (l1 : Int32) (l2 : Int32) : Option (Unit × zMem) := zg (inb l2 10) (zg (inb 2 5) (zb (f_X11_upOf F σ l2) fun r42 m42 => zg (inb l2 10) (zg (inb 3 5) (zg (inb l2 10) (zg (inb 3 5) (zg (inb 3 5) (zg (inb l2 10) (zg (inb l2 10) (rec11 (zwi (zwi m42 62 l2.toNatClampNeg 3 (((m42.1 62 l2.toNatClampNeg 3) - (zmin (((σ.1 62 l2.toNatClampNeg 2) - r42)) ((m42.1 62 l2.toNatClampNeg 3)))))) 63 0 l2.toNatClampNeg ((((zwi m42 62 l2.toNatClampNeg 3 (((m42.1 62 l2.toNatClampNeg 3) - (zmin (((σ.1 62 l2.toNatClampNeg 2) - r42)) ((m42.1 62 l2.toNatClampNeg 3)))))).1 63 0 l2.toNatClampNeg) + (((σ.1 62 l2.toNatClampNeg 2) - r42) - (zmin (((σ.1 62 l2.toNatClampNeg 2) - r42)) ((m42.1 62 l2.toNatClampNeg 3))))))) ((l1, (l2 + 1))))))))))))
set_option maxHeartbeats 4000000 in
set_option maxRecDepth 100000 in
theorem c_X11_stables_32 (F : Nat) (rec11 : zMem → Int32 × Int32 → Option (Unit × zMem)) {E : zEn} {h : Nat} {Z : zLay} (C : zCx E cX11_stables RX11 5 none Z h) (hh : 7 ≤ h) (hrec11 : ∀ (σ : zMem) (x : Int32 × Int32), zKO E 5 Z (zMQ E Z (zQV Z)) 11 [(0, .ref (zad Z 60 0)), (1, .int x.1), (2, .int x.2)] [] σ (rec11 σ x)) (σ : zMem) (l1 : Int32) (l2 : Int32) : zKO E 5 Z (zMQ E Z (zQV Z)) 32 [(0, .ref (zad Z 60 0)), (1, .int l1), (2, .int l2)] [] σ (f_X11_stables_32 F rec11 σ l1 l2) := by
  unfold f_X11_stables_32
  refine zr_aload_n C dX11_stables_32 rfl ?_
  refine zf_X11_9 C (Nat.le_of_ble_eq_true rfl) dX11_stables_33 ?_
  refine zr_iload_n C dX11_stables_36 rfl ?_
  refine zr_aald (n := 10) (k1 := 62) C dX11_stables_37 (Nat.le_of_ble_eq_true rfl) rfl rfl rfl (fun hb37 => ?_)
  refine zr_iconst (v := 2) C dX11_stables_38 rfl ?_
  refine zr_iald (n := 5) C dX11_stables_39 hb37 rfl ?_
  refine zr_aload_n C dX11_stables_40 rfl ?_
  refine zr_iload_n C dX11_stables_41 rfl ?_
  refine zk_X11_185 C F (Nat.le_of_ble_eq_true rfl) (Nat.le_trans (by decide) hh) (by simp [Value.category]) dX11_stables_42 (fun r42 m42 => ?_)
  refine zr_isub C dX11_stables_45 ?_
  refine zr_istore_n (i := 3) (L1 := [(3, .int _), (0, .ref _), (1, .int _), (2, .int _)]) C dX11_stables_46 rfl (by decide) rfl ?_
  refine zr_iload_n C dX11_stables_47 rfl ?_
  refine zr_aload_n C dX11_stables_48 rfl ?_
  refine zf_X11_9 C (Nat.le_of_ble_eq_true rfl) dX11_stables_49 ?_
  refine zr_iload_n C dX11_stables_52 rfl ?_
  refine zr_aald (n := 10) (k1 := 62) C dX11_stables_53 (Nat.le_of_ble_eq_true rfl) rfl rfl rfl (fun hb53 => ?_)
  refine zr_iconst (v := 3) C dX11_stables_54 rfl ?_
  refine zr_iald (n := 5) C dX11_stables_55 hb53 rfl ?_
  refine zr_mmin C wz_1449 wz_796 wz_17 wz_797 (Nat.le_trans (by decide) hh) (by simp [Value.category]) dX11_stables_56 ?_
  refine zr_istore (i := 4) (L1 := [(4, .int _), (3, .int _), (0, .ref _), (1, .int _), (2, .int _)]) C dX11_stables_59 (by decide) rfl ?_
  refine zr_aload_n C dX11_stables_61 rfl ?_
  refine zf_X11_9 C (Nat.le_of_ble_eq_true rfl) dX11_stables_62 ?_
  refine zr_iload_n C dX11_stables_65 rfl ?_
  refine zr_aald (n := 10) (k1 := 62) C dX11_stables_66 (Nat.le_of_ble_eq_true rfl) rfl rfl rfl (fun hb66 => ?_)
  refine zr_iconst (v := 3) C dX11_stables_67 rfl ?_
  refine zr_dup2 C dX11_stables_68 rfl rfl ?_
  refine zr_iald (n := 5) C dX11_stables_69 hb66 rfl ?_
  refine zr_iload C dX11_stables_70 rfl ?_
  refine zr_isub C dX11_stables_72 ?_
  refine zr_iast (n := 5) C dX11_stables_73 hb66 (fun _ _ => rfl) ?_
  refine zr_aload_n C dX11_stables_74 rfl ?_
  refine zf_X11_14 C (Nat.le_of_ble_eq_true rfl) dX11_stables_75 ?_
  refine zr_iload_n C dX11_stables_78 rfl ?_
  refine zr_dup2 C dX11_stables_79 rfl rfl ?_
  refine zr_iald (n := 10) C dX11_stables_80 (Nat.le_of_ble_eq_true rfl) rfl ?_
  refine zr_iload_n C dX11_stables_81 rfl ?_
  refine zr_iload C dX11_stables_82 rfl ?_
  refine zr_isub C dX11_stables_84 ?_
  refine zr_iadd C dX11_stables_85 ?_
  refine zr_iast (n := 10) C dX11_stables_86 (Nat.le_of_ble_eq_true rfl) (fun _ _ => rfl) ?_
  refine zr_iinc (kk := 4) (v := (l2 + 1)) (L1 := [(2, .int _), (4, .int _), (3, .int _), (0, .ref _), (1, .int _)]) C dX11_stables_87 rfl rfl (by decide) rfl ?_
  refine zr_goto (tgt := 11) C dX11_stables_90 (by decide) ?_
  exact zr_sub [3, 4, 0] rfl (hrec11 (zwi (zwi m42 62 l2.toNatClampNeg 3 (((m42.1 62 l2.toNatClampNeg 3) - (zmin (((σ.1 62 l2.toNatClampNeg 2) - r42)) ((m42.1 62 l2.toNatClampNeg 3)))))) 63 0 l2.toNatClampNeg ((((zwi m42 62 l2.toNatClampNeg 3 (((m42.1 62 l2.toNatClampNeg 3) - (zmin (((σ.1 62 l2.toNatClampNeg 2) - r42)) ((m42.1 62 l2.toNatClampNeg 3)))))).1 63 0 l2.toNatClampNeg) + (((σ.1 62 l2.toNatClampNeg 2) - r42) - (zmin (((σ.1 62 l2.toNatClampNeg 2) - r42)) ((m42.1 62 l2.toNatClampNeg 3))))))) ((l1, (l2 + 1))))
def f_X11_stables_123 (F : Nat) (rec95 : zMem → Int32 × Int32 → Option (Unit × zMem)) (σ : zMem) (l1 : Int32) (l2 : Int32) : Option (Unit × zMem) := zb (f_X11_now F σ l2 5) fun r128 m128 => zb (f_X11_upOf F m128 l2) fun r134 m134 => zb (f_X11_owes F m134 l2 (((r128.toInt64) * (r134.toInt64)))) fun r139 m139 => rec95 m139 ((l1, (l2 + 1)))
set_option maxHeartbeats 4000000 in
set_option maxRecDepth 100000 in
theorem c_X11_stables_123 (F : Nat) (rec95 : zMem → Int32 × Int32 → Option (Unit × zMem)) {E : zEn} {h : Nat} {Z : zLay} (C : zCx E cX11_stables RX11 5 none Z h) (hh : 7 ≤ h) (hrec95 : ∀ (σ : zMem) (x : Int32 × Int32), zKO E 5 Z (zMQ E Z (zQV Z)) 95 [(0, .ref (zad Z 60 0)), (1, .int x.1), (2, .int x.2)] [] σ (rec95 σ x)) (σ : zMem) (l1 : Int32) (l2 : Int32) : zKO E 5 Z (zMQ E Z (zQV Z)) 123 [(0, .ref (zad Z 60 0)), (1, .int l1), (2, .int l2)] [] σ (f_X11_stables_123 F rec95 σ l1 l2) := by
  unfold f_X11_stables_123
  refine zr_aload_n C dX11_stables_123 rfl ?_
  refine zr_iload_n C dX11_stables_124 rfl ?_
  refine zr_aload_n C dX11_stables_125 rfl ?_
  refine zr_iload_n C dX11_stables_126 rfl ?_
  refine zr_iconst (v := 5) C dX11_stables_127 rfl ?_
  refine zk_X11_366 C F (Nat.le_of_ble_eq_true rfl) (Nat.le_trans (by decide) hh) (by simp [Value.category]) dX11_stables_128 (fun r128 m128 => ?_)
  refine zr_i2l C dX11_stables_131 ?_
  refine zr_aload_n C dX11_stables_132 rfl ?_
  refine zr_iload_n C dX11_stables_133 rfl ?_
  refine zk_X11_185 C F (Nat.le_of_ble_eq_true rfl) (Nat.le_trans (by decide) hh) (by simp [Value.category]) dX11_stables_134 (fun r134 m134 => ?_)
  refine zr_i2l C dX11_stables_137 ?_
  refine zr_lmul C dX11_stables_138 ?_
  refine zk_X11_381 C F (Nat.le_of_ble_eq_true rfl) (Nat.le_trans (by decide) hh) (by simp [Value.category]) dX11_stables_139 (fun r139 m139 => ?_)
  refine zr_pop C dX11_stables_142 rfl ?_
  refine zr_iinc (kk := 2) (v := (l2 + 1)) (L1 := [(2, .int _), (0, .ref _), (1, .int _)]) C dX11_stables_143 rfl rfl (by decide) rfl ?_
  refine zr_goto (tgt := 95) C dX11_stables_146 (by decide) ?_
  exact zr_sub [1, 2, 0] rfl (hrec95 m139 ((l1, (l2 + 1))))
def f_X11_stables_95 (F : Nat) (rec95 : zMem → Int32 × Int32 → Option (Unit × zMem)) (σ : zMem) (x : Int32 × Int32) : Option (Unit × zMem) := if (σ.1 60 0 1) ≤ x.2 then (some ((), σ)) else (zb (f_X11_now F σ x.2 3) fun r107 m107 => if r107 ≤ x.1 then (f_X11_stables_123 F rec95 m107 x.1 x.2) else (zb (f_X11_now F m107 x.2 2) fun r117 m117 => if r117 ≤ x.1 then (rec95 m117 ((x.1, (x.2 + 1)))) else (f_X11_stables_123 F rec95 m117 x.1 x.2)))
set_option maxHeartbeats 4000000 in
set_option maxRecDepth 100000 in
theorem c_X11_stables_95 (F : Nat) {E : zEn} {h : Nat} {Z : zLay} (C : zCx E cX11_stables RX11 5 none Z h) (hh : 7 ≤ h) : ∀ (n : Nat) (σ : zMem) (x : Int32 × Int32), zKO E 5 Z (zMQ E Z (zQV Z)) 95 [(0, .ref (zad Z 60 0)), (1, .int x.1), (2, .int x.2)] [] σ (zit (f_X11_stables_95 F) n σ x) := by
  refine zr_loop (LL := fun (x : Int32 × Int32) => [(0, .ref (zad Z 60 0)), (1, .int x.1), (2, .int x.2)]) (ST := fun (x : Int32 × Int32) => []) (fun rec95 hrec95 σ x => ?_)
  obtain ⟨l1, l2⟩ := x
  show zKO E 5 Z (zMQ E Z (zQV Z)) 95 [(0, .ref (zad Z 60 0)), (1, .int l1), (2, .int l2)] [] σ (if (σ.1 60 0 1) ≤ l2 then (some ((), σ)) else (zb (f_X11_now F σ l2 3) fun r107 m107 => if r107 ≤ l1 then (f_X11_stables_123 F rec95 m107 l1 l2) else (zb (f_X11_now F m107 l2 2) fun r117 m117 => if r117 ≤ l1 then (rec95 m117 ((l1, (l2 + 1)))) else (f_X11_stables_123 F rec95 m117 l1 l2))))
  refine zr_iload_n C dX11_stables_95 rfl ?_
  refine zr_aload_n C dX11_stables_96 rfl ?_
  refine zf_X11_160 C (Nat.le_of_ble_eq_true rfl) dX11_stables_97 ?_
  refine zr_icmp_ge (tgt := 149) C dX11_stables_100 (by decide) ?_ ?_
  · exact zr_vret C dX11_stables_149
  · refine zr_iload_n C dX11_stables_103 rfl ?_
    refine zr_aload_n C dX11_stables_104 rfl ?_
    refine zr_iload_n C dX11_stables_105 rfl ?_
    refine zr_iconst (v := 3) C dX11_stables_106 rfl ?_
    refine zk_X11_366 C F (Nat.le_of_ble_eq_true rfl) (Nat.le_trans (by decide) hh) (by simp [Value.category]) dX11_stables_107 (fun r107 m107 => ?_)
    refine zr_icmp_ge (tgt := 123) C dX11_stables_110 (by decide) ?_ ?_
    · exact zr_sub [0, 1, 2] rfl (c_X11_stables_123 F rec95 C hh hrec95 m107 l1 l2)
    · refine zr_iload_n C dX11_stables_113 rfl ?_
      refine zr_aload_n C dX11_stables_114 rfl ?_
      refine zr_iload_n C dX11_stables_115 rfl ?_
      refine zr_iconst (v := 2) C dX11_stables_116 rfl ?_
      refine zk_X11_366 C F (Nat.le_of_ble_eq_true rfl) (Nat.le_trans (by decide) hh) (by simp [Value.category]) dX11_stables_117 (fun r117 m117 => ?_)
      refine zr_icmp_ge (tgt := 143) C dX11_stables_120 (by decide) ?_ ?_
      · refine zr_iinc (kk := 2) (v := (l2 + 1)) (L1 := [(2, .int _), (0, .ref _), (1, .int _)]) C dX11_stables_143 rfl rfl (by decide) rfl ?_
        refine zr_goto (tgt := 95) C dX11_stables_146 (by decide) ?_
        exact zr_sub [1, 2, 0] rfl (hrec95 m117 ((l1, (l2 + 1))))
      · exact zr_sub [0, 1, 2] rfl (c_X11_stables_123 F rec95 C hh hrec95 m117 l1 l2)
def f_X11_stables_11 (F : Nat) (rec11 : zMem → Int32 × Int32 → Option (Unit × zMem)) (σ : zMem) (x : Int32 × Int32) : Option (Unit × zMem) := if (σ.1 60 0 1) ≤ x.2 then (zit (f_X11_stables_95 F) F σ ((x.1, 0))) else (if x.1 < 120 then (f_X11_stables_32 F rec11 σ x.1 x.2) else (if x.1 < 300 then (zit (f_X11_stables_95 F) F σ ((x.1, 0))) else (f_X11_stables_32 F rec11 σ x.1 x.2)))
set_option maxHeartbeats 4000000 in
set_option maxRecDepth 100000 in
theorem c_X11_stables_11 (F : Nat) {E : zEn} {h : Nat} {Z : zLay} (C : zCx E cX11_stables RX11 5 none Z h) (hh : 7 ≤ h) : ∀ (n : Nat) (σ : zMem) (x : Int32 × Int32), zKO E 5 Z (zMQ E Z (zQV Z)) 11 [(0, .ref (zad Z 60 0)), (1, .int x.1), (2, .int x.2)] [] σ (zit (f_X11_stables_11 F) n σ x) := by
  refine zr_loop (LL := fun (x : Int32 × Int32) => [(0, .ref (zad Z 60 0)), (1, .int x.1), (2, .int x.2)]) (ST := fun (x : Int32 × Int32) => []) (fun rec11 hrec11 σ x => ?_)
  obtain ⟨l1, l2⟩ := x
  show zKO E 5 Z (zMQ E Z (zQV Z)) 11 [(0, .ref (zad Z 60 0)), (1, .int l1), (2, .int l2)] [] σ (if (σ.1 60 0 1) ≤ l2 then (zit (f_X11_stables_95 F) F σ ((l1, 0))) else (if l1 < 120 then (f_X11_stables_32 F rec11 σ l1 l2) else (if l1 < 300 then (zit (f_X11_stables_95 F) F σ ((l1, 0))) else (f_X11_stables_32 F rec11 σ l1 l2))))
  refine zr_iload_n C dX11_stables_11 rfl ?_
  refine zr_aload_n C dX11_stables_12 rfl ?_
  refine zf_X11_160 C (Nat.le_of_ble_eq_true rfl) dX11_stables_13 ?_
  refine zr_icmp_ge (tgt := 93) C dX11_stables_16 (by decide) ?_ ?_
  · refine zr_iconst (v := 0) C dX11_stables_93 rfl ?_
    refine zr_istore_n (i := 2) (L1 := [(2, .int _), (0, .ref _), (1, .int _)]) C dX11_stables_94 rfl (by decide) rfl ?_
    exact zr_sub [1, 2, 0] rfl (c_X11_stables_95 F C hh F σ ((l1, 0)))
  · refine zr_iload_n C dX11_stables_19 rfl ?_
    refine zr_bipush (v := 120) C dX11_stables_20 rfl ?_
    refine zr_icmp_lt (tgt := 32) C dX11_stables_22 (by decide) ?_ ?_
    · exact zr_sub [0, 1, 2] rfl (c_X11_stables_32 F rec11 C hh hrec11 σ l1 l2)
    · refine zr_iload_n C dX11_stables_25 rfl ?_
      refine zr_sipush (v := 300) C dX11_stables_26 rfl ?_
      refine zr_icmp_lt (tgt := 93) C dX11_stables_29 (by decide) ?_ ?_
      · refine zr_iconst (v := 0) C dX11_stables_93 rfl ?_
        refine zr_istore_n (i := 2) (L1 := [(2, .int _), (0, .ref _), (1, .int _)]) C dX11_stables_94 rfl (by decide) rfl ?_
        exact zr_sub [1, 2, 0] rfl (c_X11_stables_95 F C hh F σ ((l1, 0)))
      · exact zr_sub [0, 1, 2] rfl (c_X11_stables_32 F rec11 C hh hrec11 σ l1 l2)
def f_X11_stables (F : Nat) (σ : zMem) : Option (Unit × zMem) := zg (zni 360) (zit (f_X11_stables_11 F) F σ (((zrem ((σ.1 60 0 0)) 360), 0)))
set_option maxHeartbeats 4000000 in
set_option maxRecDepth 100000 in
theorem c_X11_stables (l : Launch) (Z : zLay) (F : Nat) (σ : zMem) (r : Unit) (σ1 : zMem) (ho : f_X11_stables F σ = some (r, σ1)) : zMet l yX11_stables cX11_stables 5 none 7 Z [.ref (zad Z 60 0)] σ (zQV Z r σ1) := by
  refine zMet_of (Qc := zQV Z) (by decide) (Nat.le_of_ble_eq_true rfl) [(0, .ref (zad Z 60 0))] rfl (fun E C => ?_) ho
  have hh : 7 ≤ 7 := Nat.le_refl _
  show zKO E 5 Z (zMQ E Z (zQV Z)) 0 [(0, .ref (zad Z 60 0))] [] σ _
  unfold f_X11_stables
  refine zr_aload_n C dX11_stables_0 rfl ?_
  refine zf_X11_193 C (Nat.le_of_ble_eq_true rfl) dX11_stables_1 ?_
  refine zr_sipush (v := 360) C dX11_stables_4 rfl ?_
  refine zr_irem C dX11_stables_7 ?_
  refine zr_istore_n (i := 1) (L1 := [(1, .int _), (0, .ref _)]) C dX11_stables_8 rfl (by decide) rfl ?_
  refine zr_iconst (v := 0) C dX11_stables_9 rfl ?_
  refine zr_istore_n (i := 2) (L1 := [(2, .int _), (1, .int _), (0, .ref _)]) C dX11_stables_10 rfl (by decide) rfl ?_
  exact zr_sub [2, 1, 0] rfl (c_X11_stables_11 F C hh F σ (((zrem ((σ.1 60 0 0)) 360), 0)))
theorem zk_X11_411 (C : zCx E cc RX11 nL ret Z h) (F : Nat)  (hk : 0 < zN 60) (hh : 7 + 1 ≤ h) (hst8 : (st.map fun v => v.category).sum ≤ 8) (hd : decode cc pc = .ok (.invokevirtual 411, 3)) {g : Unit → zMem → Option (α × zMem)} (kk : ∀ (r : Unit) (σ1 : zMem), zKO E nL Z QQ (pc + 3) L (st) σ1 (g r σ1)) : zKO E nL Z QQ pc L (.ref (zad Z 60 0) :: st) σ (zb (f_X11_stables F σ) g) :=
  zr_callVU (As := []) (ia := 0) C (fun r σ1 ho => c_X11_stables (zla E) Z F σ r σ1 ho) wz_1560 hk rfl rfl wz_p112 wz_1562 wz_1563 wz_12 (by decide +kernel) rfl (by decide) hh hd hst8 kk
def f_X11_newLayer_90 (F : Nat) (rec90 : zMem → Int32 × Int32 → Option (Unit × zMem)) (σ : zMem) (x : Int32 × Int32) : Option (Unit × zMem) := if 6 ≤ x.2 then (zg (inb x.1 6) (some ((), (zwi σ 95 0 x.1.toNatClampNeg 6)))) else (zg (inb x.1 6) (zg (inb x.1 6) (zg (inb ((x.2 + 1)) 8) (zg (inb x.2 8) (zg (inb x.1 6) (zg (inb x.1 6) (zg (inb ((x.2 + 1)) 8) (zg (zbo (((zwi σ 97 x.1.toNatClampNeg x.2.toNatClampNeg ((σ.1 97 x.1.toNatClampNeg ((x.2 + 1)).toNatClampNeg))).1 99 x.1.toNatClampNeg ((x.2 + 1)).toNatClampNeg)) && inb x.2 8) (rec90 (zwi (zwi σ 97 x.1.toNatClampNeg x.2.toNatClampNeg ((σ.1 97 x.1.toNatClampNeg ((x.2 + 1)).toNatClampNeg))) 99 x.1.toNatClampNeg x.2.toNatClampNeg (((zwi σ 97 x.1.toNatClampNeg x.2.toNatClampNeg ((σ.1 97 x.1.toNatClampNeg ((x.2 + 1)).toNatClampNeg))).1 99 x.1.toNatClampNeg ((x.2 + 1)).toNatClampNeg))) ((x.1, (x.2 + 1))))))))))))
set_option maxHeartbeats 4000000 in
set_option maxRecDepth 100000 in
theorem c_X11_newLayer_90 (F : Nat) {E : zEn} {h : Nat} {Z : zLay} (C : zCx E cX11_newLayer RX11 5 none Z h) (hh : 1 ≤ h) : ∀ (n : Nat) (σ : zMem) (x : Int32 × Int32), zKO E 5 Z (zMQ E Z (zQV Z)) 90 [(0, .ref (zad Z 60 0)), (1, .int x.1), (4, .int x.2)] [] σ (zit (f_X11_newLayer_90 F) n σ x) := by
  refine zr_loop (LL := fun (x : Int32 × Int32) => [(0, .ref (zad Z 60 0)), (1, .int x.1), (4, .int x.2)]) (ST := fun (x : Int32 × Int32) => []) (fun rec90 hrec90 σ x => ?_)
  obtain ⟨l1, l4⟩ := x
  show zKO E 5 Z (zMQ E Z (zQV Z)) 90 [(0, .ref (zad Z 60 0)), (1, .int l1), (4, .int l4)] [] σ (if 6 ≤ l4 then (zg (inb l1 6) (some ((), (zwi σ 95 0 l1.toNatClampNeg 6)))) else (zg (inb l1 6) (zg (inb l1 6) (zg (inb ((l4 + 1)) 8) (zg (inb l4 8) (zg (inb l1 6) (zg (inb l1 6) (zg (inb ((l4 + 1)) 8) (zg (zbo (((zwi σ 97 l1.toNatClampNeg l4.toNatClampNeg ((σ.1 97 l1.toNatClampNeg ((l4 + 1)).toNatClampNeg))).1 99 l1.toNatClampNeg ((l4 + 1)).toNatClampNeg)) && inb l4 8) (rec90 (zwi (zwi σ 97 l1.toNatClampNeg l4.toNatClampNeg ((σ.1 97 l1.toNatClampNeg ((l4 + 1)).toNatClampNeg))) 99 l1.toNatClampNeg l4.toNatClampNeg (((zwi σ 97 l1.toNatClampNeg l4.toNatClampNeg ((σ.1 97 l1.toNatClampNeg ((l4 + 1)).toNatClampNeg))).1 99 l1.toNatClampNeg ((l4 + 1)).toNatClampNeg))) ((l1, (l4 + 1)))))))))))))
  refine zr_iload C dX11_newLayer_90 rfl ?_
  refine zr_bipush (v := 6) C dX11_newLayer_92 rfl ?_
  refine zr_icmp_ge (tgt := 143) C dX11_newLayer_94 (by decide) ?_ ?_
  · refine zr_aload_n C dX11_newLayer_143 rfl ?_
    refine zf_X11_96 C (Nat.le_of_ble_eq_true rfl) dX11_newLayer_144 ?_
    refine zr_iload_n C dX11_newLayer_147 rfl ?_
    refine zr_bipush (v := 6) C dX11_newLayer_148 rfl ?_
    refine zr_iast (n := 6) C dX11_newLayer_150 (Nat.le_of_ble_eq_true rfl) (fun _ _ => rfl) ?_
    exact zr_vret C dX11_newLayer_151
  · refine zr_aload_n C dX11_newLayer_97 rfl ?_
    refine zf_X11_99 C (Nat.le_of_ble_eq_true rfl) dX11_newLayer_98 ?_
    refine zr_iload_n C dX11_newLayer_101 rfl ?_
    refine zr_aald (n := 6) (k1 := 97) C dX11_newLayer_102 (Nat.le_of_ble_eq_true rfl) rfl rfl rfl (fun hb102 => ?_)
    refine zr_iload C dX11_newLayer_103 rfl ?_
    refine zr_aload_n C dX11_newLayer_105 rfl ?_
    refine zf_X11_99 C (Nat.le_of_ble_eq_true rfl) dX11_newLayer_106 ?_
    refine zr_iload_n C dX11_newLayer_109 rfl ?_
    refine zr_aald (n := 6) (k1 := 97) C dX11_newLayer_110 (Nat.le_of_ble_eq_true rfl) rfl rfl rfl (fun hb110 => ?_)
    refine zr_iload C dX11_newLayer_111 rfl ?_
    refine zr_iconst (v := 1) C dX11_newLayer_113 rfl ?_
    refine zr_iadd C dX11_newLayer_114 ?_
    refine zr_iald (n := 8) C dX11_newLayer_115 hb110 rfl ?_
    refine zr_iast (n := 8) C dX11_newLayer_116 hb102 (fun _ _ => rfl) ?_
    refine zr_aload_n C dX11_newLayer_117 rfl ?_
    refine zf_X11_102 C (Nat.le_of_ble_eq_true rfl) dX11_newLayer_118 ?_
    refine zr_iload_n C dX11_newLayer_121 rfl ?_
    refine zr_aald (n := 6) (k1 := 99) C dX11_newLayer_122 (Nat.le_of_ble_eq_true rfl) rfl rfl rfl (fun hb122 => ?_)
    refine zr_iload C dX11_newLayer_123 rfl ?_
    refine zr_aload_n C dX11_newLayer_125 rfl ?_
    refine zf_X11_102 C (Nat.le_of_ble_eq_true rfl) dX11_newLayer_126 ?_
    refine zr_iload_n C dX11_newLayer_129 rfl ?_
    refine zr_aald (n := 6) (k1 := 99) C dX11_newLayer_130 (Nat.le_of_ble_eq_true rfl) rfl rfl rfl (fun hb130 => ?_)
    refine zr_iload C dX11_newLayer_131 rfl ?_
    refine zr_iconst (v := 1) C dX11_newLayer_133 rfl ?_
    refine zr_iadd C dX11_newLayer_134 ?_
    refine zr_zald (n := 8) C dX11_newLayer_135 hb130 rfl ?_
    refine zr_zast (n := 8) C dX11_newLayer_136 hb122 (fun _ _ => rfl) ?_
    refine zr_iinc (kk := 2) (v := (l4 + 1)) (L1 := [(4, .int _), (0, .ref _), (1, .int _)]) C dX11_newLayer_137 rfl rfl (by decide) rfl ?_
    refine zr_goto (tgt := 90) C dX11_newLayer_140 (by decide) ?_
    exact zr_sub [1, 2, 0] rfl (hrec90 (zwi (zwi σ 97 l1.toNatClampNeg l4.toNatClampNeg ((σ.1 97 l1.toNatClampNeg ((l4 + 1)).toNatClampNeg))) 99 l1.toNatClampNeg l4.toNatClampNeg (((zwi σ 97 l1.toNatClampNeg l4.toNatClampNeg ((σ.1 97 l1.toNatClampNeg ((l4 + 1)).toNatClampNeg))).1 99 l1.toNatClampNeg ((l4 + 1)).toNatClampNeg))) ((l1, (l4 + 1))))
def f_X11_newLayer (F : Nat) (σ : zMem) (a1 : Int32) (a2 : Int32) (a3 : Int32) : Option (Unit × zMem) := zg (inb a1 6) (zg (inb a1 6) (zg (inb ((σ.1 95 0 a1.toNatClampNeg)) 8) (zg (inb a1 6) (zg (inb a1 6) (zg (zbo a3 && inb (((zwi σ 97 a1.toNatClampNeg ((σ.1 95 0 a1.toNatClampNeg)).toNatClampNeg a2).1 95 0 a1.toNatClampNeg)) 8) (zg (inb a1 6) (zg (inb a1 6) (zg (inb a1 6) (if ((zwi (zwi (zwi σ 97 a1.toNatClampNeg ((σ.1 95 0 a1.toNatClampNeg)).toNatClampNeg a2) 99 a1.toNatClampNeg (((zwi σ 97 a1.toNatClampNeg ((σ.1 95 0 a1.toNatClampNeg)).toNatClampNeg a2).1 95 0 a1.toNatClampNeg)).toNatClampNeg a3) 95 0 a1.toNatClampNeg ((((zwi (zwi σ 97 a1.toNatClampNeg ((σ.1 95 0 a1.toNatClampNeg)).toNatClampNeg a2) 99 a1.toNatClampNeg (((zwi σ 97 a1.toNatClampNeg ((σ.1 95 0 a1.toNatClampNeg)).toNatClampNeg a2).1 95 0 a1.toNatClampNeg)).toNatClampNeg a3).1 95 0 a1.toNatClampNeg) + 1))).1 95 0 a1.toNatClampNeg) ≤ 6 then (some ((), (zwi (zwi (zwi σ 97 a1.toNatClampNeg ((σ.1 95 0 a1.toNatClampNeg)).toNatClampNeg a2) 99 a1.toNatClampNeg (((zwi σ 97 a1.toNatClampNeg ((σ.1 95 0 a1.toNatClampNeg)).toNatClampNeg a2).1 95 0 a1.toNatClampNeg)).toNatClampNeg a3) 95 0 a1.toNatClampNeg ((((zwi (zwi σ 97 a1.toNatClampNeg ((σ.1 95 0 a1.toNatClampNeg)).toNatClampNeg a2) 99 a1.toNatClampNeg (((zwi σ 97 a1.toNatClampNeg ((σ.1 95 0 a1.toNatClampNeg)).toNatClampNeg a2).1 95 0 a1.toNatClampNeg)).toNatClampNeg a3).1 95 0 a1.toNatClampNeg) + 1))))) else (zg (inb a1 6) (zg (inb 0 8) (zg (inb a1 6) (zg (inb 1 8) (zg (inb 0 8) (zg (inb a1 6) (zg (inb 0 8) (zg (inb a1 6) (zg (inb 1 8) (zg (zbo ((((zwi (zwi (zwi (zwi σ 97 a1.toNatClampNeg ((σ.1 95 0 a1.toNatClampNeg)).toNatClampNeg a2) 99 a1.toNatClampNeg (((zwi σ 97 a1.toNatClampNeg ((σ.1 95 0 a1.toNatClampNeg)).toNatClampNeg a2).1 95 0 a1.toNatClampNeg)).toNatClampNeg a3) 95 0 a1.toNatClampNeg ((((zwi (zwi σ 97 a1.toNatClampNeg ((σ.1 95 0 a1.toNatClampNeg)).toNatClampNeg a2) 99 a1.toNatClampNeg (((zwi σ 97 a1.toNatClampNeg ((σ.1 95 0 a1.toNatClampNeg)).toNatClampNeg a2).1 95 0 a1.toNatClampNeg)).toNatClampNeg a3).1 95 0 a1.toNatClampNeg) + 1))) 97 a1.toNatClampNeg 0 ((((zwi (zwi (zwi σ 97 a1.toNatClampNeg ((σ.1 95 0 a1.toNatClampNeg)).toNatClampNeg a2) 99 a1.toNatClampNeg (((zwi σ 97 a1.toNatClampNeg ((σ.1 95 0 a1.toNatClampNeg)).toNatClampNeg a2).1 95 0 a1.toNatClampNeg)).toNatClampNeg a3) 95 0 a1.toNatClampNeg ((((zwi (zwi σ 97 a1.toNatClampNeg ((σ.1 95 0 a1.toNatClampNeg)).toNatClampNeg a2) 99 a1.toNatClampNeg (((zwi σ 97 a1.toNatClampNeg ((σ.1 95 0 a1.toNatClampNeg)).toNatClampNeg a2).1 95 0 a1.toNatClampNeg)).toNatClampNeg a3).1 95 0 a1.toNatClampNeg) + 1))).1 97 a1.toNatClampNeg 0) + ((zwi (zwi (zwi σ 97 a1.toNatClampNeg ((σ.1 95 0 a1.toNatClampNeg)).toNatClampNeg a2) 99 a1.toNatClampNeg (((zwi σ 97 a1.toNatClampNeg ((σ.1 95 0 a1.toNatClampNeg)).toNatClampNeg a2).1 95 0 a1.toNatClampNeg)).toNatClampNeg a3) 95 0 a1.toNatClampNeg ((((zwi (zwi σ 97 a1.toNatClampNeg ((σ.1 95 0 a1.toNatClampNeg)).toNatClampNeg a2) 99 a1.toNatClampNeg (((zwi σ 97 a1.toNatClampNeg ((σ.1 95 0 a1.toNatClampNeg)).toNatClampNeg a2).1 95 0 a1.toNatClampNeg)).toNatClampNeg a3).1 95 0 a1.toNatClampNeg) + 1))).1 97 a1.toNatClampNeg 1)))).1 99 a1.toNatClampNeg 0) ||| ((zwi (zwi (zwi (zwi σ 97 a1.toNatClampNeg ((σ.1 95 0 a1.toNatClampNeg)).toNatClampNeg a2) 99 a1.toNatClampNeg (((zwi σ 97 a1.toNatClampNeg ((σ.1 95 0 a1.toNatClampNeg)).toNatClampNeg a2).1 95 0 a1.toNatClampNeg)).toNatClampNeg a3) 95 0 a1.toNatClampNeg ((((zwi (zwi σ 97 a1.toNatClampNeg ((σ.1 95 0 a1.toNatClampNeg)).toNatClampNeg a2) 99 a1.toNatClampNeg (((zwi σ 97 a1.toNatClampNeg ((σ.1 95 0 a1.toNatClampNeg)).toNatClampNeg a2).1 95 0 a1.toNatClampNeg)).toNatClampNeg a3).1 95 0 a1.toNatClampNeg) + 1))) 97 a1.toNatClampNeg 0 ((((zwi (zwi (zwi σ 97 a1.toNatClampNeg ((σ.1 95 0 a1.toNatClampNeg)).toNatClampNeg a2) 99 a1.toNatClampNeg (((zwi σ 97 a1.toNatClampNeg ((σ.1 95 0 a1.toNatClampNeg)).toNatClampNeg a2).1 95 0 a1.toNatClampNeg)).toNatClampNeg a3) 95 0 a1.toNatClampNeg ((((zwi (zwi σ 97 a1.toNatClampNeg ((σ.1 95 0 a1.toNatClampNeg)).toNatClampNeg a2) 99 a1.toNatClampNeg (((zwi σ 97 a1.toNatClampNeg ((σ.1 95 0 a1.toNatClampNeg)).toNatClampNeg a2).1 95 0 a1.toNatClampNeg)).toNatClampNeg a3).1 95 0 a1.toNatClampNeg) + 1))).1 97 a1.toNatClampNeg 0) + ((zwi (zwi (zwi σ 97 a1.toNatClampNeg ((σ.1 95 0 a1.toNatClampNeg)).toNatClampNeg a2) 99 a1.toNatClampNeg (((zwi σ 97 a1.toNatClampNeg ((σ.1 95 0 a1.toNatClampNeg)).toNatClampNeg a2).1 95 0 a1.toNatClampNeg)).toNatClampNeg a3) 95 0 a1.toNatClampNeg ((((zwi (zwi σ 97 a1.toNatClampNeg ((σ.1 95 0 a1.toNatClampNeg)).toNatClampNeg a2) 99 a1.toNatClampNeg (((zwi σ 97 a1.toNatClampNeg ((σ.1 95 0 a1.toNatClampNeg)).toNatClampNeg a2).1 95 0 a1.toNatClampNeg)).toNatClampNeg a3).1 95 0 a1.toNatClampNeg) + 1))).1 97 a1.toNatClampNeg 1)))).1 99 a1.toNatClampNeg 1))) && inb 0 8) (zit (f_X11_newLayer_90 F) F (zwi (zwi (zwi (zwi (zwi σ 97 a1.toNatClampNeg ((σ.1 95 0 a1.toNatClampNeg)).toNatClampNeg a2) 99 a1.toNatClampNeg (((zwi σ 97 a1.toNatClampNeg ((σ.1 95 0 a1.toNatClampNeg)).toNatClampNeg a2).1 95 0 a1.toNatClampNeg)).toNatClampNeg a3) 95 0 a1.toNatClampNeg ((((zwi (zwi σ 97 a1.toNatClampNeg ((σ.1 95 0 a1.toNatClampNeg)).toNatClampNeg a2) 99 a1.toNatClampNeg (((zwi σ 97 a1.toNatClampNeg ((σ.1 95 0 a1.toNatClampNeg)).toNatClampNeg a2).1 95 0 a1.toNatClampNeg)).toNatClampNeg a3).1 95 0 a1.toNatClampNeg) + 1))) 97 a1.toNatClampNeg 0 ((((zwi (zwi (zwi σ 97 a1.toNatClampNeg ((σ.1 95 0 a1.toNatClampNeg)).toNatClampNeg a2) 99 a1.toNatClampNeg (((zwi σ 97 a1.toNatClampNeg ((σ.1 95 0 a1.toNatClampNeg)).toNatClampNeg a2).1 95 0 a1.toNatClampNeg)).toNatClampNeg a3) 95 0 a1.toNatClampNeg ((((zwi (zwi σ 97 a1.toNatClampNeg ((σ.1 95 0 a1.toNatClampNeg)).toNatClampNeg a2) 99 a1.toNatClampNeg (((zwi σ 97 a1.toNatClampNeg ((σ.1 95 0 a1.toNatClampNeg)).toNatClampNeg a2).1 95 0 a1.toNatClampNeg)).toNatClampNeg a3).1 95 0 a1.toNatClampNeg) + 1))).1 97 a1.toNatClampNeg 0) + ((zwi (zwi (zwi σ 97 a1.toNatClampNeg ((σ.1 95 0 a1.toNatClampNeg)).toNatClampNeg a2) 99 a1.toNatClampNeg (((zwi σ 97 a1.toNatClampNeg ((σ.1 95 0 a1.toNatClampNeg)).toNatClampNeg a2).1 95 0 a1.toNatClampNeg)).toNatClampNeg a3) 95 0 a1.toNatClampNeg ((((zwi (zwi σ 97 a1.toNatClampNeg ((σ.1 95 0 a1.toNatClampNeg)).toNatClampNeg a2) 99 a1.toNatClampNeg (((zwi σ 97 a1.toNatClampNeg ((σ.1 95 0 a1.toNatClampNeg)).toNatClampNeg a2).1 95 0 a1.toNatClampNeg)).toNatClampNeg a3).1 95 0 a1.toNatClampNeg) + 1))).1 97 a1.toNatClampNeg 1)))) 99 a1.toNatClampNeg 0 ((((zwi (zwi (zwi (zwi σ 97 a1.toNatClampNeg ((σ.1 95 0 a1.toNatClampNeg)).toNatClampNeg a2) 99 a1.toNatClampNeg (((zwi σ 97 a1.toNatClampNeg ((σ.1 95 0 a1.toNatClampNeg)).toNatClampNeg a2).1 95 0 a1.toNatClampNeg)).toNatClampNeg a3) 95 0 a1.toNatClampNeg ((((zwi (zwi σ 97 a1.toNatClampNeg ((σ.1 95 0 a1.toNatClampNeg)).toNatClampNeg a2) 99 a1.toNatClampNeg (((zwi σ 97 a1.toNatClampNeg ((σ.1 95 0 a1.toNatClampNeg)).toNatClampNeg a2).1 95 0 a1.toNatClampNeg)).toNatClampNeg a3).1 95 0 a1.toNatClampNeg) + 1))) 97 a1.toNatClampNeg 0 ((((zwi (zwi (zwi σ 97 a1.toNatClampNeg ((σ.1 95 0 a1.toNatClampNeg)).toNatClampNeg a2) 99 a1.toNatClampNeg (((zwi σ 97 a1.toNatClampNeg ((σ.1 95 0 a1.toNatClampNeg)).toNatClampNeg a2).1 95 0 a1.toNatClampNeg)).toNatClampNeg a3) 95 0 a1.toNatClampNeg ((((zwi (zwi σ 97 a1.toNatClampNeg ((σ.1 95 0 a1.toNatClampNeg)).toNatClampNeg a2) 99 a1.toNatClampNeg (((zwi σ 97 a1.toNatClampNeg ((σ.1 95 0 a1.toNatClampNeg)).toNatClampNeg a2).1 95 0 a1.toNatClampNeg)).toNatClampNeg a3).1 95 0 a1.toNatClampNeg) + 1))).1 97 a1.toNatClampNeg 0) + ((zwi (zwi (zwi σ 97 a1.toNatClampNeg ((σ.1 95 0 a1.toNatClampNeg)).toNatClampNeg a2) 99 a1.toNatClampNeg (((zwi σ 97 a1.toNatClampNeg ((σ.1 95 0 a1.toNatClampNeg)).toNatClampNeg a2).1 95 0 a1.toNatClampNeg)).toNatClampNeg a3) 95 0 a1.toNatClampNeg ((((zwi (zwi σ 97 a1.toNatClampNeg ((σ.1 95 0 a1.toNatClampNeg)).toNatClampNeg a2) 99 a1.toNatClampNeg (((zwi σ 97 a1.toNatClampNeg ((σ.1 95 0 a1.toNatClampNeg)).toNatClampNeg a2).1 95 0 a1.toNatClampNeg)).toNatClampNeg a3).1 95 0 a1.toNatClampNeg) + 1))).1 97 a1.toNatClampNeg 1)))).1 99 a1.toNatClampNeg 0) ||| ((zwi (zwi (zwi (zwi σ 97 a1.toNatClampNeg ((σ.1 95 0 a1.toNatClampNeg)).toNatClampNeg a2) 99 a1.toNatClampNeg (((zwi σ 97 a1.toNatClampNeg ((σ.1 95 0 a1.toNatClampNeg)).toNatClampNeg a2).1 95 0 a1.toNatClampNeg)).toNatClampNeg a3) 95 0 a1.toNatClampNeg ((((zwi (zwi σ 97 a1.toNatClampNeg ((σ.1 95 0 a1.toNatClampNeg)).toNatClampNeg a2) 99 a1.toNatClampNeg (((zwi σ 97 a1.toNatClampNeg ((σ.1 95 0 a1.toNatClampNeg)).toNatClampNeg a2).1 95 0 a1.toNatClampNeg)).toNatClampNeg a3).1 95 0 a1.toNatClampNeg) + 1))) 97 a1.toNatClampNeg 0 ((((zwi (zwi (zwi σ 97 a1.toNatClampNeg ((σ.1 95 0 a1.toNatClampNeg)).toNatClampNeg a2) 99 a1.toNatClampNeg (((zwi σ 97 a1.toNatClampNeg ((σ.1 95 0 a1.toNatClampNeg)).toNatClampNeg a2).1 95 0 a1.toNatClampNeg)).toNatClampNeg a3) 95 0 a1.toNatClampNeg ((((zwi (zwi σ 97 a1.toNatClampNeg ((σ.1 95 0 a1.toNatClampNeg)).toNatClampNeg a2) 99 a1.toNatClampNeg (((zwi σ 97 a1.toNatClampNeg ((σ.1 95 0 a1.toNatClampNeg)).toNatClampNeg a2).1 95 0 a1.toNatClampNeg)).toNatClampNeg a3).1 95 0 a1.toNatClampNeg) + 1))).1 97 a1.toNatClampNeg 0) + ((zwi (zwi (zwi σ 97 a1.toNatClampNeg ((σ.1 95 0 a1.toNatClampNeg)).toNatClampNeg a2) 99 a1.toNatClampNeg (((zwi σ 97 a1.toNatClampNeg ((σ.1 95 0 a1.toNatClampNeg)).toNatClampNeg a2).1 95 0 a1.toNatClampNeg)).toNatClampNeg a3) 95 0 a1.toNatClampNeg ((((zwi (zwi σ 97 a1.toNatClampNeg ((σ.1 95 0 a1.toNatClampNeg)).toNatClampNeg a2) 99 a1.toNatClampNeg (((zwi σ 97 a1.toNatClampNeg ((σ.1 95 0 a1.toNatClampNeg)).toNatClampNeg a2).1 95 0 a1.toNatClampNeg)).toNatClampNeg a3).1 95 0 a1.toNatClampNeg) + 1))).1 97 a1.toNatClampNeg 1)))).1 99 a1.toNatClampNeg 1)))) ((a1, 1))))))))))))))))))))))
set_option maxHeartbeats 4000000 in
set_option maxRecDepth 100000 in
theorem c_X11_newLayer (l : Launch) (Z : zLay) (F : Nat) (σ : zMem) (a1 : Int32) (a2 : Int32) (a3 : Int32) (r : Unit) (σ1 : zMem) (ho : f_X11_newLayer F σ a1 a2 a3 = some (r, σ1)) : zMet l yX11_newLayer cX11_newLayer 5 none 1 Z [.ref (zad Z 60 0), .int (a1), .int (a2), .int (a3)] σ (zQV Z r σ1) := by
  refine zMet_of (Qc := zQV Z) (by decide) (Nat.le_of_ble_eq_true rfl) [(0, .ref (zad Z 60 0)), (1, .int (a1)), (2, .int (a2)), (3, .int (a3))] rfl (fun E C => ?_) ho
  have hh : 1 ≤ 1 := Nat.le_refl _
  show zKO E 5 Z (zMQ E Z (zQV Z)) 0 [(0, .ref (zad Z 60 0)), (1, .int (a1)), (2, .int (a2)), (3, .int (a3))] [] σ _
  unfold f_X11_newLayer
  refine zr_aload_n C dX11_newLayer_0 rfl ?_
  refine zf_X11_99 C (Nat.le_of_ble_eq_true rfl) dX11_newLayer_1 ?_
  refine zr_iload_n C dX11_newLayer_4 rfl ?_
  refine zr_aald (n := 6) (k1 := 97) C dX11_newLayer_5 (Nat.le_of_ble_eq_true rfl) rfl rfl rfl (fun hb5 => ?_)
  refine zr_aload_n C dX11_newLayer_6 rfl ?_
  refine zf_X11_96 C (Nat.le_of_ble_eq_true rfl) dX11_newLayer_7 ?_
  refine zr_iload_n C dX11_newLayer_10 rfl ?_
  refine zr_iald (n := 6) C dX11_newLayer_11 (Nat.le_of_ble_eq_true rfl) rfl ?_
  refine zr_iload_n C dX11_newLayer_12 rfl ?_
  refine zr_iast (n := 8) C dX11_newLayer_13 hb5 (fun _ _ => rfl) ?_
  refine zr_aload_n C dX11_newLayer_14 rfl ?_
  refine zf_X11_102 C (Nat.le_of_ble_eq_true rfl) dX11_newLayer_15 ?_
  refine zr_iload_n C dX11_newLayer_18 rfl ?_
  refine zr_aald (n := 6) (k1 := 99) C dX11_newLayer_19 (Nat.le_of_ble_eq_true rfl) rfl rfl rfl (fun hb19 => ?_)
  refine zr_aload_n C dX11_newLayer_20 rfl ?_
  refine zf_X11_96 C (Nat.le_of_ble_eq_true rfl) dX11_newLayer_21 ?_
  refine zr_iload_n C dX11_newLayer_24 rfl ?_
  refine zr_iald (n := 6) C dX11_newLayer_25 (Nat.le_of_ble_eq_true rfl) rfl ?_
  refine zr_iload_n C dX11_newLayer_26 rfl ?_
  refine zr_zast (n := 8) C dX11_newLayer_27 hb19 (fun _ _ => rfl) ?_
  refine zr_aload_n C dX11_newLayer_28 rfl ?_
  refine zf_X11_96 C (Nat.le_of_ble_eq_true rfl) dX11_newLayer_29 ?_
  refine zr_iload_n C dX11_newLayer_32 rfl ?_
  refine zr_dup2 C dX11_newLayer_33 rfl rfl ?_
  refine zr_iald (n := 6) C dX11_newLayer_34 (Nat.le_of_ble_eq_true rfl) rfl ?_
  refine zr_iconst (v := 1) C dX11_newLayer_35 rfl ?_
  refine zr_iadd C dX11_newLayer_36 ?_
  refine zr_iast (n := 6) C dX11_newLayer_37 (Nat.le_of_ble_eq_true rfl) (fun _ _ => rfl) ?_
  refine zr_aload_n C dX11_newLayer_38 rfl ?_
  refine zf_X11_96 C (Nat.le_of_ble_eq_true rfl) dX11_newLayer_39 ?_
  refine zr_iload_n C dX11_newLayer_42 rfl ?_
  refine zr_iald (n := 6) C dX11_newLayer_43 (Nat.le_of_ble_eq_true rfl) rfl ?_
  refine zr_bipush (v := 6) C dX11_newLayer_44 rfl ?_
  refine zr_icmp_le (tgt := 151) C dX11_newLayer_46 (by decide) ?_ ?_
  · exact zr_vret C dX11_newLayer_151
  · refine zr_aload_n C dX11_newLayer_49 rfl ?_
    refine zf_X11_99 C (Nat.le_of_ble_eq_true rfl) dX11_newLayer_50 ?_
    refine zr_iload_n C dX11_newLayer_53 rfl ?_
    refine zr_aald (n := 6) (k1 := 97) C dX11_newLayer_54 (Nat.le_of_ble_eq_true rfl) rfl rfl rfl (fun hb54 => ?_)
    refine zr_iconst (v := 0) C dX11_newLayer_55 rfl ?_
    refine zr_dup2 C dX11_newLayer_56 rfl rfl ?_
    refine zr_iald (n := 8) C dX11_newLayer_57 hb54 rfl ?_
    refine zr_aload_n C dX11_newLayer_58 rfl ?_
    refine zf_X11_99 C (Nat.le_of_ble_eq_true rfl) dX11_newLayer_59 ?_
    refine zr_iload_n C dX11_newLayer_62 rfl ?_
    refine zr_aald (n := 6) (k1 := 97) C dX11_newLayer_63 (Nat.le_of_ble_eq_true rfl) rfl rfl rfl (fun hb63 => ?_)
    refine zr_iconst (v := 1) C dX11_newLayer_64 rfl ?_
    refine zr_iald (n := 8) C dX11_newLayer_65 hb63 rfl ?_
    refine zr_iadd C dX11_newLayer_66 ?_
    refine zr_iast (n := 8) C dX11_newLayer_67 hb54 (fun _ _ => rfl) ?_
    refine zr_aload_n C dX11_newLayer_68 rfl ?_
    refine zf_X11_102 C (Nat.le_of_ble_eq_true rfl) dX11_newLayer_69 ?_
    refine zr_iload_n C dX11_newLayer_72 rfl ?_
    refine zr_aald (n := 6) (k1 := 99) C dX11_newLayer_73 (Nat.le_of_ble_eq_true rfl) rfl rfl rfl (fun hb73 => ?_)
    refine zr_iconst (v := 0) C dX11_newLayer_74 rfl ?_
    refine zr_dup2 C dX11_newLayer_75 rfl rfl ?_
    refine zr_zald (n := 8) C dX11_newLayer_76 hb73 rfl ?_
    refine zr_aload_n C dX11_newLayer_77 rfl ?_
    refine zf_X11_102 C (Nat.le_of_ble_eq_true rfl) dX11_newLayer_78 ?_
    refine zr_iload_n C dX11_newLayer_81 rfl ?_
    refine zr_aald (n := 6) (k1 := 99) C dX11_newLayer_82 (Nat.le_of_ble_eq_true rfl) rfl rfl rfl (fun hb82 => ?_)
    refine zr_iconst (v := 1) C dX11_newLayer_83 rfl ?_
    refine zr_zald (n := 8) C dX11_newLayer_84 hb82 rfl ?_
    refine zr_ior C dX11_newLayer_85 ?_
    refine zr_zast (n := 8) C dX11_newLayer_86 hb73 (fun _ _ => rfl) ?_
    refine zr_iconst (v := 1) C dX11_newLayer_87 rfl ?_
    refine zr_istore (i := 4) (L1 := [(4, .int _), (0, .ref _), (1, .int _), (2, .int _), (3, .int _)]) C dX11_newLayer_88 (by decide) rfl ?_
    exact zr_sub [1, 2, 0] rfl (c_X11_newLayer_90 F C hh F (zwi (zwi (zwi (zwi (zwi σ 97 a1.toNatClampNeg ((σ.1 95 0 a1.toNatClampNeg)).toNatClampNeg a2) 99 a1.toNatClampNeg (((zwi σ 97 a1.toNatClampNeg ((σ.1 95 0 a1.toNatClampNeg)).toNatClampNeg a2).1 95 0 a1.toNatClampNeg)).toNatClampNeg a3) 95 0 a1.toNatClampNeg ((((zwi (zwi σ 97 a1.toNatClampNeg ((σ.1 95 0 a1.toNatClampNeg)).toNatClampNeg a2) 99 a1.toNatClampNeg (((zwi σ 97 a1.toNatClampNeg ((σ.1 95 0 a1.toNatClampNeg)).toNatClampNeg a2).1 95 0 a1.toNatClampNeg)).toNatClampNeg a3).1 95 0 a1.toNatClampNeg) + 1))) 97 a1.toNatClampNeg 0 ((((zwi (zwi (zwi σ 97 a1.toNatClampNeg ((σ.1 95 0 a1.toNatClampNeg)).toNatClampNeg a2) 99 a1.toNatClampNeg (((zwi σ 97 a1.toNatClampNeg ((σ.1 95 0 a1.toNatClampNeg)).toNatClampNeg a2).1 95 0 a1.toNatClampNeg)).toNatClampNeg a3) 95 0 a1.toNatClampNeg ((((zwi (zwi σ 97 a1.toNatClampNeg ((σ.1 95 0 a1.toNatClampNeg)).toNatClampNeg a2) 99 a1.toNatClampNeg (((zwi σ 97 a1.toNatClampNeg ((σ.1 95 0 a1.toNatClampNeg)).toNatClampNeg a2).1 95 0 a1.toNatClampNeg)).toNatClampNeg a3).1 95 0 a1.toNatClampNeg) + 1))).1 97 a1.toNatClampNeg 0) + ((zwi (zwi (zwi σ 97 a1.toNatClampNeg ((σ.1 95 0 a1.toNatClampNeg)).toNatClampNeg a2) 99 a1.toNatClampNeg (((zwi σ 97 a1.toNatClampNeg ((σ.1 95 0 a1.toNatClampNeg)).toNatClampNeg a2).1 95 0 a1.toNatClampNeg)).toNatClampNeg a3) 95 0 a1.toNatClampNeg ((((zwi (zwi σ 97 a1.toNatClampNeg ((σ.1 95 0 a1.toNatClampNeg)).toNatClampNeg a2) 99 a1.toNatClampNeg (((zwi σ 97 a1.toNatClampNeg ((σ.1 95 0 a1.toNatClampNeg)).toNatClampNeg a2).1 95 0 a1.toNatClampNeg)).toNatClampNeg a3).1 95 0 a1.toNatClampNeg) + 1))).1 97 a1.toNatClampNeg 1)))) 99 a1.toNatClampNeg 0 ((((zwi (zwi (zwi (zwi σ 97 a1.toNatClampNeg ((σ.1 95 0 a1.toNatClampNeg)).toNatClampNeg a2) 99 a1.toNatClampNeg (((zwi σ 97 a1.toNatClampNeg ((σ.1 95 0 a1.toNatClampNeg)).toNatClampNeg a2).1 95 0 a1.toNatClampNeg)).toNatClampNeg a3) 95 0 a1.toNatClampNeg ((((zwi (zwi σ 97 a1.toNatClampNeg ((σ.1 95 0 a1.toNatClampNeg)).toNatClampNeg a2) 99 a1.toNatClampNeg (((zwi σ 97 a1.toNatClampNeg ((σ.1 95 0 a1.toNatClampNeg)).toNatClampNeg a2).1 95 0 a1.toNatClampNeg)).toNatClampNeg a3).1 95 0 a1.toNatClampNeg) + 1))) 97 a1.toNatClampNeg 0 ((((zwi (zwi (zwi σ 97 a1.toNatClampNeg ((σ.1 95 0 a1.toNatClampNeg)).toNatClampNeg a2) 99 a1.toNatClampNeg (((zwi σ 97 a1.toNatClampNeg ((σ.1 95 0 a1.toNatClampNeg)).toNatClampNeg a2).1 95 0 a1.toNatClampNeg)).toNatClampNeg a3) 95 0 a1.toNatClampNeg ((((zwi (zwi σ 97 a1.toNatClampNeg ((σ.1 95 0 a1.toNatClampNeg)).toNatClampNeg a2) 99 a1.toNatClampNeg (((zwi σ 97 a1.toNatClampNeg ((σ.1 95 0 a1.toNatClampNeg)).toNatClampNeg a2).1 95 0 a1.toNatClampNeg)).toNatClampNeg a3).1 95 0 a1.toNatClampNeg) + 1))).1 97 a1.toNatClampNeg 0) + ((zwi (zwi (zwi σ 97 a1.toNatClampNeg ((σ.1 95 0 a1.toNatClampNeg)).toNatClampNeg a2) 99 a1.toNatClampNeg (((zwi σ 97 a1.toNatClampNeg ((σ.1 95 0 a1.toNatClampNeg)).toNatClampNeg a2).1 95 0 a1.toNatClampNeg)).toNatClampNeg a3) 95 0 a1.toNatClampNeg ((((zwi (zwi σ 97 a1.toNatClampNeg ((σ.1 95 0 a1.toNatClampNeg)).toNatClampNeg a2) 99 a1.toNatClampNeg (((zwi σ 97 a1.toNatClampNeg ((σ.1 95 0 a1.toNatClampNeg)).toNatClampNeg a2).1 95 0 a1.toNatClampNeg)).toNatClampNeg a3).1 95 0 a1.toNatClampNeg) + 1))).1 97 a1.toNatClampNeg 1)))).1 99 a1.toNatClampNeg 0) ||| ((zwi (zwi (zwi (zwi σ 97 a1.toNatClampNeg ((σ.1 95 0 a1.toNatClampNeg)).toNatClampNeg a2) 99 a1.toNatClampNeg (((zwi σ 97 a1.toNatClampNeg ((σ.1 95 0 a1.toNatClampNeg)).toNatClampNeg a2).1 95 0 a1.toNatClampNeg)).toNatClampNeg a3) 95 0 a1.toNatClampNeg ((((zwi (zwi σ 97 a1.toNatClampNeg ((σ.1 95 0 a1.toNatClampNeg)).toNatClampNeg a2) 99 a1.toNatClampNeg (((zwi σ 97 a1.toNatClampNeg ((σ.1 95 0 a1.toNatClampNeg)).toNatClampNeg a2).1 95 0 a1.toNatClampNeg)).toNatClampNeg a3).1 95 0 a1.toNatClampNeg) + 1))) 97 a1.toNatClampNeg 0 ((((zwi (zwi (zwi σ 97 a1.toNatClampNeg ((σ.1 95 0 a1.toNatClampNeg)).toNatClampNeg a2) 99 a1.toNatClampNeg (((zwi σ 97 a1.toNatClampNeg ((σ.1 95 0 a1.toNatClampNeg)).toNatClampNeg a2).1 95 0 a1.toNatClampNeg)).toNatClampNeg a3) 95 0 a1.toNatClampNeg ((((zwi (zwi σ 97 a1.toNatClampNeg ((σ.1 95 0 a1.toNatClampNeg)).toNatClampNeg a2) 99 a1.toNatClampNeg (((zwi σ 97 a1.toNatClampNeg ((σ.1 95 0 a1.toNatClampNeg)).toNatClampNeg a2).1 95 0 a1.toNatClampNeg)).toNatClampNeg a3).1 95 0 a1.toNatClampNeg) + 1))).1 97 a1.toNatClampNeg 0) + ((zwi (zwi (zwi σ 97 a1.toNatClampNeg ((σ.1 95 0 a1.toNatClampNeg)).toNatClampNeg a2) 99 a1.toNatClampNeg (((zwi σ 97 a1.toNatClampNeg ((σ.1 95 0 a1.toNatClampNeg)).toNatClampNeg a2).1 95 0 a1.toNatClampNeg)).toNatClampNeg a3) 95 0 a1.toNatClampNeg ((((zwi (zwi σ 97 a1.toNatClampNeg ((σ.1 95 0 a1.toNatClampNeg)).toNatClampNeg a2) 99 a1.toNatClampNeg (((zwi σ 97 a1.toNatClampNeg ((σ.1 95 0 a1.toNatClampNeg)).toNatClampNeg a2).1 95 0 a1.toNatClampNeg)).toNatClampNeg a3).1 95 0 a1.toNatClampNeg) + 1))).1 97 a1.toNatClampNeg 1)))).1 99 a1.toNatClampNeg 1)))) ((a1, 1)))
theorem zk_X11_394 (C : zCx E cc RX11 nL ret Z h) (F : Nat) {b0 : Int32} {b1 : Int32} {b2 : Int32} (hk : 0 < zN 60) (hh : 1 + 1 ≤ h) (hst8 : (st.map fun v => v.category).sum ≤ 8) (hd : decode cc pc = .ok (.invokevirtual 394, 3)) {g : Unit → zMem → Option (α × zMem)} (kk : ∀ (r : Unit) (σ1 : zMem), zKO E nL Z QQ (pc + 3) L (st) σ1 (g r σ1)) : zKO E nL Z QQ pc L (.int b2 :: .int b1 :: .int b0 :: .ref (zad Z 60 0) :: st) σ (zb (f_X11_newLayer F σ b0 b1 b2) g) :=
  zr_callVU (As := [.int b0, .int b1, .int b2]) (ia := 3) C (fun r σ1 ho => c_X11_newLayer (zla E) Z F σ b0 b1 b2 r σ1 ho) wz_1574 hk rfl rfl wz_p115 wz_1576 wz_1577 wz_12 (by decide +kernel) rfl (by decide) hh hd hst8 kk
end ZM
