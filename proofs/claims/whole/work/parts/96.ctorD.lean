theorem wq_1094 : Cond.methodLink "AlpCommuneModel" (1 : Nat) ({ cls := "java/lang/Object", name := "<init>", desc := "()V" } : MethodName) ∈ zTB := zTB_mem 1221 (by decide +kernel) (by decide +kernel)
theorem wq_1100 : Cond.fieldLink "AlpCommuneModel" (9 : Nat) "AlpCommuneModel" "has" "[[I" ∈ zTB := zTB_mem 1227 (by decide +kernel) (by decide +kernel)
theorem wq_1095 : Cond.classLink "AlpCommuneModel" (7 : Nat) "[[I" ∈ zTB := zTB_mem 1222 (by decide +kernel) (by decide +kernel)
theorem wq_1101 : Cond.fieldLink "AlpCommuneModel" (14 : Nat) "AlpCommuneModel" "hungry" "[I" ∈ zTB := zTB_mem 1228 (by decide +kernel) (by decide +kernel)
theorem wq_1102 : Cond.fieldLink "AlpCommuneModel" (18 : Nat) "AlpCommuneModel" "milk" "[I" ∈ zTB := zTB_mem 1229 (by decide +kernel) (by decide +kernel)
theorem wq_1103 : Cond.fieldLink "AlpCommuneModel" (21 : Nat) "AlpCommuneModel" "sum" "[I" ∈ zTB := zTB_mem 1230 (by decide +kernel) (by decide +kernel)
theorem wq_1104 : Cond.fieldLink "AlpCommuneModel" (24 : Nat) "AlpCommuneModel" "rest" "[I" ∈ zTB := zTB_mem 1231 (by decide +kernel) (by decide +kernel)
theorem wq_1105 : Cond.fieldLink "AlpCommuneModel" (27 : Nat) "AlpCommuneModel" "countedHay" "[I" ∈ zTB := zTB_mem 1232 (by decide +kernel) (by decide +kernel)
theorem wq_1106 : Cond.fieldLink "AlpCommuneModel" (30 : Nat) "AlpCommuneModel" "wheels" "[I" ∈ zTB := zTB_mem 1233 (by decide +kernel) (by decide +kernel)
theorem wq_1107 : Cond.fieldLink "AlpCommuneModel" (33 : Nat) "AlpCommuneModel" "logs" "[I" ∈ zTB := zTB_mem 1234 (by decide +kernel) (by decide +kernel)
theorem wq_1108 : Cond.fieldLink "AlpCommuneModel" (36 : Nat) "AlpCommuneModel" "worked" "[I" ∈ zTB := zTB_mem 1235 (by decide +kernel) (by decide +kernel)
theorem wq_1109 : Cond.fieldLink "AlpCommuneModel" (39 : Nat) "AlpCommuneModel" "up" "[[I" ∈ zTB := zTB_mem 1236 (by decide +kernel) (by decide +kernel)
theorem wq_1111 : Cond.fieldLink "AlpCommuneModel" (42 : Nat) "AlpCommuneModel" "kind" "[I" ∈ zTB := zTB_mem 1238 (by decide +kernel) (by decide +kernel)
theorem wq_1112 : Cond.fieldLink "AlpCommuneModel" (45 : Nat) "AlpCommuneModel" "owner" "[I" ∈ zTB := zTB_mem 1239 (by decide +kernel) (by decide +kernel)
theorem wq_1113 : Cond.fieldLink "AlpCommuneModel" (48 : Nat) "AlpCommuneModel" "part" "[I" ∈ zTB := zTB_mem 1240 (by decide +kernel) (by decide +kernel)
theorem wq_1114 : Cond.fieldLink "AlpCommuneModel" (51 : Nat) "AlpCommuneModel" "lentTo" "[I" ∈ zTB := zTB_mem 1241 (by decide +kernel) (by decide +kernel)
theorem wq_1115 : Cond.fieldLink "AlpCommuneModel" (54 : Nat) "AlpCommuneModel" "lentTill" "[I" ∈ zTB := zTB_mem 1242 (by decide +kernel) (by decide +kernel)
theorem wq_1116 : Cond.fieldLink "AlpCommuneModel" (57 : Nat) "AlpCommuneModel" "tape" "[I" ∈ zTB := zTB_mem 1243 (by decide +kernel) (by decide +kernel)
theorem wq_1119 : Cond.fieldLink "AlpCommuneModel" (60 : Nat) "AlpCommuneModel" "word" "[[I" ∈ zTB := zTB_mem 1246 (by decide +kernel) (by decide +kernel)
theorem wq_1120 : Cond.fieldLink "AlpCommuneModel" (63 : Nat) "AlpCommuneModel" "tests" "[[I" ∈ zTB := zTB_mem 1247 (by decide +kernel) (by decide +kernel)
theorem wq_1121 : Cond.fieldLink "AlpCommuneModel" (66 : Nat) "AlpCommuneModel" "told" "[[I" ∈ zTB := zTB_mem 1248 (by decide +kernel) (by decide +kernel)
theorem wq_1122 : Cond.fieldLink "AlpCommuneModel" (71 : Nat) "AlpCommuneModel" "isTold" "[[Z" ∈ zTB := zTB_mem 1249 (by decide +kernel) (by decide +kernel)
theorem wq_1096 : Cond.classLink "AlpCommuneModel" (69 : Nat) "[[Z" ∈ zTB := zTB_mem 1223 (by decide +kernel) (by decide +kernel)
theorem wq_1124 : Cond.fieldLink "AlpCommuneModel" (74 : Nat) "AlpCommuneModel" "high" "[I" ∈ zTB := zTB_mem 1251 (by decide +kernel) (by decide +kernel)
theorem wq_1125 : Cond.fieldLink "AlpCommuneModel" (77 : Nat) "AlpCommuneModel" "area" "[I" ∈ zTB := zTB_mem 1252 (by decide +kernel) (by decide +kernel)
theorem wq_1126 : Cond.fieldLink "AlpCommuneModel" (80 : Nat) "AlpCommuneModel" "grass" "[I" ∈ zTB := zTB_mem 1253 (by decide +kernel) (by decide +kernel)
theorem wq_1127 : Cond.fieldLink "AlpCommuneModel" (83 : Nat) "AlpCommuneModel" "snow" "[I" ∈ zTB := zTB_mem 1254 (by decide +kernel) (by decide +kernel)
theorem wq_1129 : Cond.fieldLink "AlpCommuneModel" (86 : Nat) "AlpCommuneModel" "book" "[[I" ∈ zTB := zTB_mem 1256 (by decide +kernel) (by decide +kernel)
theorem wq_1131 : Cond.fieldLink "AlpCommuneModel" (89 : Nat) "AlpCommuneModel" "age" "[I" ∈ zTB := zTB_mem 1258 (by decide +kernel) (by decide +kernel)
theorem wq_1132 : Cond.fieldLink "AlpCommuneModel" (92 : Nat) "AlpCommuneModel" "works" "[Z" ∈ zTB := zTB_mem 1259 (by decide +kernel) (by decide +kernel)
theorem wq_1133 : Cond.fieldLink "AlpCommuneModel" (96 : Nat) "AlpCommuneModel" "layers" "[I" ∈ zTB := zTB_mem 1260 (by decide +kernel) (by decide +kernel)
theorem wq_1134 : Cond.fieldLink "AlpCommuneModel" (99 : Nat) "AlpCommuneModel" "lies" "[[I" ∈ zTB := zTB_mem 1261 (by decide +kernel) (by decide +kernel)
theorem wq_1135 : Cond.fieldLink "AlpCommuneModel" (102 : Nat) "AlpCommuneModel" "soft" "[[Z" ∈ zTB := zTB_mem 1262 (by decide +kernel) (by decide +kernel)
theorem wq_1136 : Cond.fieldLink "AlpCommuneModel" (105 : Nat) "AlpCommuneModel" "slid" "[I" ∈ zTB := zTB_mem 1263 (by decide +kernel) (by decide +kernel)
theorem wq_1141 : Cond.fieldLink "AlpCommuneModel" (108 : Nat) "AlpCommuneModel" "measured" "I" ∈ zTB := zTB_mem 1268 (by decide +kernel) (by decide +kernel)
theorem wq_1145 : Cond.fieldLink "AlpCommuneModel" (112 : Nat) "AlpCommuneModel" "channelHouse" "[I" ∈ zTB := zTB_mem 1272 (by decide +kernel) (by decide +kernel)
theorem wq_1146 : Cond.fieldLink "AlpCommuneModel" (115 : Nat) "AlpCommuneModel" "channelLeak" "[I" ∈ zTB := zTB_mem 1273 (by decide +kernel) (by decide +kernel)
theorem wq_1147 : Cond.fieldLink "AlpCommuneModel" (118 : Nat) "AlpCommuneModel" "lastTurn" "[I" ∈ zTB := zTB_mem 1274 (by decide +kernel) (by decide +kernel)
theorem wq_1149 : Cond.fieldLink "AlpCommuneModel" (121 : Nat) "AlpCommuneModel" "lastYear" "I" ∈ zTB := zTB_mem 1276 (by decide +kernel) (by decide +kernel)
theorem wq_1150 : Cond.fieldLink "AlpCommuneModel" (124 : Nat) "AlpCommuneModel" "sheetSort" "[I" ∈ zTB := zTB_mem 1277 (by decide +kernel) (by decide +kernel)
theorem wq_1151 : Cond.fieldLink "AlpCommuneModel" (127 : Nat) "AlpCommuneModel" "sheetSize" "[I" ∈ zTB := zTB_mem 1278 (by decide +kernel) (by decide +kernel)
theorem wq_1152 : Cond.fieldLink "AlpCommuneModel" (130 : Nat) "AlpCommuneModel" "sheet" "[[I" ∈ zTB := zTB_mem 1279 (by decide +kernel) (by decide +kernel)
theorem wq_1153 : Cond.fieldLink "AlpCommuneModel" (133 : Nat) "AlpCommuneModel" "noNumber" "[[Z" ∈ zTB := zTB_mem 1280 (by decide +kernel) (by decide +kernel)
theorem wq_1154 : Cond.fieldLink "AlpCommuneModel" (136 : Nat) "AlpCommuneModel" "trace" "[I" ∈ zTB := zTB_mem 1281 (by decide +kernel) (by decide +kernel)
theorem wq_1159 : Cond.fieldLink "AlpCommuneModel" (139 : Nat) "AlpCommuneModel" "test" "[I" ∈ zTB := zTB_mem 1286 (by decide +kernel) (by decide +kernel)
theorem wq_1160 : Cond.fieldLink "AlpCommuneModel" (142 : Nat) "AlpCommuneModel" "now" "[I" ∈ zTB := zTB_mem 1287 (by decide +kernel) (by decide +kernel)
theorem wq_1161 : Cond.fieldLink "AlpCommuneModel" (145 : Nat) "AlpCommuneModel" "mindGrass" "[I" ∈ zTB := zTB_mem 1288 (by decide +kernel) (by decide +kernel)
theorem wq_1162 : Cond.fieldLink "AlpCommuneModel" (148 : Nat) "AlpCommuneModel" "mindSnow" "[I" ∈ zTB := zTB_mem 1289 (by decide +kernel) (by decide +kernel)
theorem wq_1163 : Cond.fieldLink "AlpCommuneModel" (151 : Nat) "AlpCommuneModel" "mindUp" "[[I" ∈ zTB := zTB_mem 1290 (by decide +kernel) (by decide +kernel)
theorem wq_1164 : Cond.fieldLink "AlpCommuneModel" (154 : Nat) "AlpCommuneModel" "chosen" "[I" ∈ zTB := zTB_mem 1291 (by decide +kernel) (by decide +kernel)
theorem wq_1165 : Cond.fieldLink "AlpCommuneModel" (157 : Nat) "AlpCommuneModel" "bestChosen" "[I" ∈ zTB := zTB_mem 1292 (by decide +kernel) (by decide +kernel)
section YX11
variable {E : zEn} {nL h n0 c0 mc ms : Nat} {Z : zLay} {D : zDm} {Q : State → Prop}
def fX11_0 : List Value := [.int 0, .int 0, .null, .null, .null, .null, .null, .null, .null, .null, .null, .null, .int 0, .null, .null, .null, .null, .null, .null, .int 0, .int 0, .null, .null, .null, .null, .int 0, .null, .null, .null, .null, .int 0, .null, .int 0, .null, .null, .null, .null, .null, .null, .int 0, .int 0, .int 0, .int 0, .int 0, .int 0, .int 0, .int 0, .null, .null, .null, .int 0, .int 0, .null, .null, .null, .null, .null, .int 0, .int 0, .int 0, .int 0, .null, .null, .null, .null, .null, .null, .null]
theorem nfX11 : ∀ j, j < 68 → defaultValue (tyX11 j) = vp_V fX11_0 j := by decide +kernel
def eX11_0 (Z : zLay) (D : zDm) : zDm := D
theorem sX11_0 (C : zCN E cX11_init RX11 2 Z h n0 c0 368 32691) (hh : 1 ≤ h) (hc : c0 = 344) (kk : zNN E 2 Z n0 Q 4 [(0, .ref (zad Z 60 0))] [] (zDu (eX11_0 Z D) 60 0 (.inr (11, fX11_0))) 0 0) : zNN E 2 Z n0 Q 0 [(0, .ref (zad Z 60 0))] [] (zDu (eX11_0 Z D) 60 0 (.inr (11, fX11_0))) 0 0 := by
  subst hc
  refine zn_aload_n C dX11_init_0 rfl ?_
  refine zn_obj C wq_1094 wq_26 wq_27 dX11_init_1 (by omega) (Nat.le_of_ble_eq_true rfl) ?_
  exact kk
def fX11_1 (Z : zLay) : List Value := [.int 0, .int 0, .ref (zad Z 61 0), .null, .null, .null, .null, .null, .null, .null, .null, .null, .int 0, .null, .null, .null, .null, .null, .null, .int 0, .int 0, .null, .null, .null, .null, .int 0, .null, .null, .null, .null, .int 0, .null, .int 0, .null, .null, .null, .null, .null, .null, .int 0, .int 0, .int 0, .int 0, .int 0, .int 0, .int 0, .int 0, .null, .null, .null, .int 0, .int 0, .null, .null, .null, .null, .null, .int 0, .int 0, .int 0, .int 0, .null, .null, .null, .null, .null, .null, .null]
def eX11_1 (Z : zLay) (D : zDm) : zDm := (zDr (zDu (zDu (eX11_0 Z D) 60 0 (.inr (11, fX11_0))) 61 0 (.inl (zca Z 9, 10, .inr (.inr (.inr (.inr (fun i => if i < 10 then some (zad Z 62 i) else none))))))) 62 10 (.inl (zca Z 0, (5, .inl fun _ => 0))))
theorem sX11_4 (C : zCN E cX11_init RX11 2 Z h n0 c0 368 32691) (hh : 1 ≤ h) (hc : c0 = 344) (kk : zNN E 2 Z n0 Q 15 [(0, .ref (zad Z 60 0))] [] (zDu (eX11_1 Z D) 60 0 (.inr (11, fX11_1 Z))) 11 60) : zNN E 2 Z n0 Q 4 [(0, .ref (zad Z 60 0))] [] (zDu (eX11_0 Z D) 60 0 (.inr (11, fX11_0))) 0 0 := by
  subst hc
  refine zn_aload_n C dX11_init_4 rfl ?_
  refine zn_bipush C dX11_init_5 (v := 10) (by decide) ?_
  refine zn_iconst C dX11_init_7 (v := 5) (by decide) ?_
  refine zn_mna C (ty := .int) (N := 10) (M := 5) (t0 := 9) (t1 := 0) (k := 61) (k1 := 62) (a0 := (5, .inl fun _ => 0)) wq_1095 (by unfold zOvL; simp) wq_61 rfl rfl (fun _ _ q => q) dX11_init_8 (by decide) (by decide) (by decide) (by decide) (by decide) (by decide) (by decide) rfl rfl (fun _ => rfl) (by decide) (by decide) rfl (fun j _ => by show 345 + 1 * j = 344 + 0 + 1 + j; omega) (by omega) (by omega) ?_
  refine zn_putF C (by decide +kernel) 2 zin_X11 rfl (Nat.le_of_ble_eq_true rfl) rfl rfl tyX11_ok nmX11 rfl (ty := tyX11 2) (by decide +kernel) wq_1100 dX11_init_12 (zDr_o (by decide) (zDu_o (by decide) (zDu_i _ _ _ _))) (Nat.le_of_ble_eq_true rfl) rfl rfl ?_
  exact kk
def fX11_2 (Z : zLay) : List Value := [.int 0, .int 0, .ref (zad Z 61 0), .ref (zad Z 63 0), .null, .null, .null, .null, .null, .null, .null, .null, .int 0, .null, .null, .null, .null, .null, .null, .int 0, .int 0, .null, .null, .null, .null, .int 0, .null, .null, .null, .null, .int 0, .null, .int 0, .null, .null, .null, .null, .null, .null, .int 0, .int 0, .int 0, .int 0, .int 0, .int 0, .int 0, .int 0, .null, .null, .null, .int 0, .int 0, .null, .null, .null, .null, .null, .int 0, .int 0, .int 0, .int 0, .null, .null, .null, .null, .null, .null, .null]
def eX11_2 (Z : zLay) (D : zDm) : zDm := (zDu (zDu (eX11_1 Z D) 60 0 (.inr (11, fX11_1 Z))) 63 0 (.inl (zca Z 0, 10, .inl fun _ => 0)))
theorem sX11_15 (C : zCN E cX11_init RX11 2 Z h n0 c0 368 32691) (hh : 1 ≤ h) (hc : c0 = 344) (kk : zNN E 2 Z n0 Q 23 [(0, .ref (zad Z 60 0))] [] (zDu (eX11_2 Z D) 60 0 (.inr (11, fX11_2 Z))) 12 70) : zNN E 2 Z n0 Q 15 [(0, .ref (zad Z 60 0))] [] (zDu (eX11_1 Z D) 60 0 (.inr (11, fX11_1 Z))) 11 60 := by
  subst hc
  refine zn_aload_n C dX11_init_15 rfl ?_
  refine zn_bipush C dX11_init_16 (v := 10) (by decide) ?_
  refine zn_newa C (atype := .int) (k := 63) (i := 0) (t0 := 0) (N := 10) (a0 := (10, .inl fun _ => 0)) wq_61 rfl dX11_init_18 (by decide) (by decide) (by decide) (fun _ => rfl) (by decide) rfl (by omega) (by omega) ?_
  refine zn_putF C (by decide +kernel) 3 zin_X11 rfl (Nat.le_of_ble_eq_true rfl) rfl rfl tyX11_ok nmX11 rfl (ty := tyX11 3) (by decide +kernel) wq_1101 dX11_init_20 (zDu_o (by decide) (zDu_i _ _ _ _)) (Nat.le_of_ble_eq_true rfl) rfl rfl ?_
  exact kk
def fX11_3 (Z : zLay) : List Value := [.int 0, .int 0, .ref (zad Z 61 0), .ref (zad Z 63 0), .ref (zad Z 64 0), .null, .null, .null, .null, .null, .null, .null, .int 0, .null, .null, .null, .null, .null, .null, .int 0, .int 0, .null, .null, .null, .null, .int 0, .null, .null, .null, .null, .int 0, .null, .int 0, .null, .null, .null, .null, .null, .null, .int 0, .int 0, .int 0, .int 0, .int 0, .int 0, .int 0, .int 0, .null, .null, .null, .int 0, .int 0, .null, .null, .null, .null, .null, .int 0, .int 0, .int 0, .int 0, .null, .null, .null, .null, .null, .null, .null]
def eX11_3 (Z : zLay) (D : zDm) : zDm := (zDu (zDu (eX11_2 Z D) 60 0 (.inr (11, fX11_2 Z))) 64 0 (.inl (zca Z 0, 10, .inl fun _ => 0)))
theorem sX11_23 (C : zCN E cX11_init RX11 2 Z h n0 c0 368 32691) (hh : 1 ≤ h) (hc : c0 = 344) (kk : zNN E 2 Z n0 Q 31 [(0, .ref (zad Z 60 0))] [] (zDu (eX11_3 Z D) 60 0 (.inr (11, fX11_3 Z))) 13 80) : zNN E 2 Z n0 Q 23 [(0, .ref (zad Z 60 0))] [] (zDu (eX11_2 Z D) 60 0 (.inr (11, fX11_2 Z))) 12 70 := by
  subst hc
  refine zn_aload_n C dX11_init_23 rfl ?_
  refine zn_bipush C dX11_init_24 (v := 10) (by decide) ?_
  refine zn_newa C (atype := .int) (k := 64) (i := 0) (t0 := 0) (N := 10) (a0 := (10, .inl fun _ => 0)) wq_61 rfl dX11_init_26 (by decide) (by decide) (by decide) (fun _ => rfl) (by decide) rfl (by omega) (by omega) ?_
  refine zn_putF C (by decide +kernel) 4 zin_X11 rfl (Nat.le_of_ble_eq_true rfl) rfl rfl tyX11_ok nmX11 rfl (ty := tyX11 4) (by decide +kernel) wq_1102 dX11_init_28 (zDu_o (by decide) (zDu_i _ _ _ _)) (Nat.le_of_ble_eq_true rfl) rfl rfl ?_
  exact kk
def fX11_4 (Z : zLay) : List Value := [.int 0, .int 0, .ref (zad Z 61 0), .ref (zad Z 63 0), .ref (zad Z 64 0), .ref (zad Z 65 0), .null, .null, .null, .null, .null, .null, .int 0, .null, .null, .null, .null, .null, .null, .int 0, .int 0, .null, .null, .null, .null, .int 0, .null, .null, .null, .null, .int 0, .null, .int 0, .null, .null, .null, .null, .null, .null, .int 0, .int 0, .int 0, .int 0, .int 0, .int 0, .int 0, .int 0, .null, .null, .null, .int 0, .int 0, .null, .null, .null, .null, .null, .int 0, .int 0, .int 0, .int 0, .null, .null, .null, .null, .null, .null, .null]
def eX11_4 (Z : zLay) (D : zDm) : zDm := (zDu (zDu (eX11_3 Z D) 60 0 (.inr (11, fX11_3 Z))) 65 0 (.inl (zca Z 0, 10, .inl fun _ => 0)))
theorem sX11_31 (C : zCN E cX11_init RX11 2 Z h n0 c0 368 32691) (hh : 1 ≤ h) (hc : c0 = 344) (kk : zNN E 2 Z n0 Q 39 [(0, .ref (zad Z 60 0))] [] (zDu (eX11_4 Z D) 60 0 (.inr (11, fX11_4 Z))) 14 90) : zNN E 2 Z n0 Q 31 [(0, .ref (zad Z 60 0))] [] (zDu (eX11_3 Z D) 60 0 (.inr (11, fX11_3 Z))) 13 80 := by
  subst hc
  refine zn_aload_n C dX11_init_31 rfl ?_
  refine zn_bipush C dX11_init_32 (v := 10) (by decide) ?_
  refine zn_newa C (atype := .int) (k := 65) (i := 0) (t0 := 0) (N := 10) (a0 := (10, .inl fun _ => 0)) wq_61 rfl dX11_init_34 (by decide) (by decide) (by decide) (fun _ => rfl) (by decide) rfl (by omega) (by omega) ?_
  refine zn_putF C (by decide +kernel) 5 zin_X11 rfl (Nat.le_of_ble_eq_true rfl) rfl rfl tyX11_ok nmX11 rfl (ty := tyX11 5) (by decide +kernel) wq_1103 dX11_init_36 (zDu_o (by decide) (zDu_i _ _ _ _)) (Nat.le_of_ble_eq_true rfl) rfl rfl ?_
  exact kk
def fX11_5 (Z : zLay) : List Value := [.int 0, .int 0, .ref (zad Z 61 0), .ref (zad Z 63 0), .ref (zad Z 64 0), .ref (zad Z 65 0), .ref (zad Z 66 0), .null, .null, .null, .null, .null, .int 0, .null, .null, .null, .null, .null, .null, .int 0, .int 0, .null, .null, .null, .null, .int 0, .null, .null, .null, .null, .int 0, .null, .int 0, .null, .null, .null, .null, .null, .null, .int 0, .int 0, .int 0, .int 0, .int 0, .int 0, .int 0, .int 0, .null, .null, .null, .int 0, .int 0, .null, .null, .null, .null, .null, .int 0, .int 0, .int 0, .int 0, .null, .null, .null, .null, .null, .null, .null]
def eX11_5 (Z : zLay) (D : zDm) : zDm := (zDu (zDu (eX11_4 Z D) 60 0 (.inr (11, fX11_4 Z))) 66 0 (.inl (zca Z 0, 10, .inl fun _ => 0)))
theorem sX11_39 (C : zCN E cX11_init RX11 2 Z h n0 c0 368 32691) (hh : 1 ≤ h) (hc : c0 = 344) (kk : zNN E 2 Z n0 Q 47 [(0, .ref (zad Z 60 0))] [] (zDu (eX11_5 Z D) 60 0 (.inr (11, fX11_5 Z))) 15 100) : zNN E 2 Z n0 Q 39 [(0, .ref (zad Z 60 0))] [] (zDu (eX11_4 Z D) 60 0 (.inr (11, fX11_4 Z))) 14 90 := by
  subst hc
  refine zn_aload_n C dX11_init_39 rfl ?_
  refine zn_bipush C dX11_init_40 (v := 10) (by decide) ?_
  refine zn_newa C (atype := .int) (k := 66) (i := 0) (t0 := 0) (N := 10) (a0 := (10, .inl fun _ => 0)) wq_61 rfl dX11_init_42 (by decide) (by decide) (by decide) (fun _ => rfl) (by decide) rfl (by omega) (by omega) ?_
  refine zn_putF C (by decide +kernel) 6 zin_X11 rfl (Nat.le_of_ble_eq_true rfl) rfl rfl tyX11_ok nmX11 rfl (ty := tyX11 6) (by decide +kernel) wq_1104 dX11_init_44 (zDu_o (by decide) (zDu_i _ _ _ _)) (Nat.le_of_ble_eq_true rfl) rfl rfl ?_
  exact kk
def fX11_6 (Z : zLay) : List Value := [.int 0, .int 0, .ref (zad Z 61 0), .ref (zad Z 63 0), .ref (zad Z 64 0), .ref (zad Z 65 0), .ref (zad Z 66 0), .ref (zad Z 67 0), .null, .null, .null, .null, .int 0, .null, .null, .null, .null, .null, .null, .int 0, .int 0, .null, .null, .null, .null, .int 0, .null, .null, .null, .null, .int 0, .null, .int 0, .null, .null, .null, .null, .null, .null, .int 0, .int 0, .int 0, .int 0, .int 0, .int 0, .int 0, .int 0, .null, .null, .null, .int 0, .int 0, .null, .null, .null, .null, .null, .int 0, .int 0, .int 0, .int 0, .null, .null, .null, .null, .null, .null, .null]
def eX11_6 (Z : zLay) (D : zDm) : zDm := (zDu (zDu (eX11_5 Z D) 60 0 (.inr (11, fX11_5 Z))) 67 0 (.inl (zca Z 0, 10, .inl fun _ => 0)))
theorem sX11_47 (C : zCN E cX11_init RX11 2 Z h n0 c0 368 32691) (hh : 1 ≤ h) (hc : c0 = 344) (kk : zNN E 2 Z n0 Q 55 [(0, .ref (zad Z 60 0))] [] (zDu (eX11_6 Z D) 60 0 (.inr (11, fX11_6 Z))) 16 110) : zNN E 2 Z n0 Q 47 [(0, .ref (zad Z 60 0))] [] (zDu (eX11_5 Z D) 60 0 (.inr (11, fX11_5 Z))) 15 100 := by
  subst hc
  refine zn_aload_n C dX11_init_47 rfl ?_
  refine zn_bipush C dX11_init_48 (v := 10) (by decide) ?_
  refine zn_newa C (atype := .int) (k := 67) (i := 0) (t0 := 0) (N := 10) (a0 := (10, .inl fun _ => 0)) wq_61 rfl dX11_init_50 (by decide) (by decide) (by decide) (fun _ => rfl) (by decide) rfl (by omega) (by omega) ?_
  refine zn_putF C (by decide +kernel) 7 zin_X11 rfl (Nat.le_of_ble_eq_true rfl) rfl rfl tyX11_ok nmX11 rfl (ty := tyX11 7) (by decide +kernel) wq_1105 dX11_init_52 (zDu_o (by decide) (zDu_i _ _ _ _)) (Nat.le_of_ble_eq_true rfl) rfl rfl ?_
  exact kk
def fX11_7 (Z : zLay) : List Value := [.int 0, .int 0, .ref (zad Z 61 0), .ref (zad Z 63 0), .ref (zad Z 64 0), .ref (zad Z 65 0), .ref (zad Z 66 0), .ref (zad Z 67 0), .ref (zad Z 68 0), .null, .null, .null, .int 0, .null, .null, .null, .null, .null, .null, .int 0, .int 0, .null, .null, .null, .null, .int 0, .null, .null, .null, .null, .int 0, .null, .int 0, .null, .null, .null, .null, .null, .null, .int 0, .int 0, .int 0, .int 0, .int 0, .int 0, .int 0, .int 0, .null, .null, .null, .int 0, .int 0, .null, .null, .null, .null, .null, .int 0, .int 0, .int 0, .int 0, .null, .null, .null, .null, .null, .null, .null]
def eX11_7 (Z : zLay) (D : zDm) : zDm := (zDu (zDu (eX11_6 Z D) 60 0 (.inr (11, fX11_6 Z))) 68 0 (.inl (zca Z 0, 10, .inl fun _ => 0)))
theorem sX11_55 (C : zCN E cX11_init RX11 2 Z h n0 c0 368 32691) (hh : 1 ≤ h) (hc : c0 = 344) (kk : zNN E 2 Z n0 Q 63 [(0, .ref (zad Z 60 0))] [] (zDu (eX11_7 Z D) 60 0 (.inr (11, fX11_7 Z))) 17 120) : zNN E 2 Z n0 Q 55 [(0, .ref (zad Z 60 0))] [] (zDu (eX11_6 Z D) 60 0 (.inr (11, fX11_6 Z))) 16 110 := by
  subst hc
  refine zn_aload_n C dX11_init_55 rfl ?_
  refine zn_bipush C dX11_init_56 (v := 10) (by decide) ?_
  refine zn_newa C (atype := .int) (k := 68) (i := 0) (t0 := 0) (N := 10) (a0 := (10, .inl fun _ => 0)) wq_61 rfl dX11_init_58 (by decide) (by decide) (by decide) (fun _ => rfl) (by decide) rfl (by omega) (by omega) ?_
  refine zn_putF C (by decide +kernel) 8 zin_X11 rfl (Nat.le_of_ble_eq_true rfl) rfl rfl tyX11_ok nmX11 rfl (ty := tyX11 8) (by decide +kernel) wq_1106 dX11_init_60 (zDu_o (by decide) (zDu_i _ _ _ _)) (Nat.le_of_ble_eq_true rfl) rfl rfl ?_
  exact kk
def fX11_8 (Z : zLay) : List Value := [.int 0, .int 0, .ref (zad Z 61 0), .ref (zad Z 63 0), .ref (zad Z 64 0), .ref (zad Z 65 0), .ref (zad Z 66 0), .ref (zad Z 67 0), .ref (zad Z 68 0), .ref (zad Z 69 0), .null, .null, .int 0, .null, .null, .null, .null, .null, .null, .int 0, .int 0, .null, .null, .null, .null, .int 0, .null, .null, .null, .null, .int 0, .null, .int 0, .null, .null, .null, .null, .null, .null, .int 0, .int 0, .int 0, .int 0, .int 0, .int 0, .int 0, .int 0, .null, .null, .null, .int 0, .int 0, .null, .null, .null, .null, .null, .int 0, .int 0, .int 0, .int 0, .null, .null, .null, .null, .null, .null, .null]
def eX11_8 (Z : zLay) (D : zDm) : zDm := (zDu (zDu (eX11_7 Z D) 60 0 (.inr (11, fX11_7 Z))) 69 0 (.inl (zca Z 0, 10, .inl fun _ => 0)))
theorem sX11_63 (C : zCN E cX11_init RX11 2 Z h n0 c0 368 32691) (hh : 1 ≤ h) (hc : c0 = 344) (kk : zNN E 2 Z n0 Q 71 [(0, .ref (zad Z 60 0))] [] (zDu (eX11_8 Z D) 60 0 (.inr (11, fX11_8 Z))) 18 130) : zNN E 2 Z n0 Q 63 [(0, .ref (zad Z 60 0))] [] (zDu (eX11_7 Z D) 60 0 (.inr (11, fX11_7 Z))) 17 120 := by
  subst hc
  refine zn_aload_n C dX11_init_63 rfl ?_
  refine zn_bipush C dX11_init_64 (v := 10) (by decide) ?_
  refine zn_newa C (atype := .int) (k := 69) (i := 0) (t0 := 0) (N := 10) (a0 := (10, .inl fun _ => 0)) wq_61 rfl dX11_init_66 (by decide) (by decide) (by decide) (fun _ => rfl) (by decide) rfl (by omega) (by omega) ?_
  refine zn_putF C (by decide +kernel) 9 zin_X11 rfl (Nat.le_of_ble_eq_true rfl) rfl rfl tyX11_ok nmX11 rfl (ty := tyX11 9) (by decide +kernel) wq_1107 dX11_init_68 (zDu_o (by decide) (zDu_i _ _ _ _)) (Nat.le_of_ble_eq_true rfl) rfl rfl ?_
  exact kk
def fX11_9 (Z : zLay) : List Value := [.int 0, .int 0, .ref (zad Z 61 0), .ref (zad Z 63 0), .ref (zad Z 64 0), .ref (zad Z 65 0), .ref (zad Z 66 0), .ref (zad Z 67 0), .ref (zad Z 68 0), .ref (zad Z 69 0), .ref (zad Z 70 0), .null, .int 0, .null, .null, .null, .null, .null, .null, .int 0, .int 0, .null, .null, .null, .null, .int 0, .null, .null, .null, .null, .int 0, .null, .int 0, .null, .null, .null, .null, .null, .null, .int 0, .int 0, .int 0, .int 0, .int 0, .int 0, .int 0, .int 0, .null, .null, .null, .int 0, .int 0, .null, .null, .null, .null, .null, .int 0, .int 0, .int 0, .int 0, .null, .null, .null, .null, .null, .null, .null]
def eX11_9 (Z : zLay) (D : zDm) : zDm := (zDu (zDu (eX11_8 Z D) 60 0 (.inr (11, fX11_8 Z))) 70 0 (.inl (zca Z 0, 10, .inl fun _ => 0)))
theorem sX11_71 (C : zCN E cX11_init RX11 2 Z h n0 c0 368 32691) (hh : 1 ≤ h) (hc : c0 = 344) (kk : zNN E 2 Z n0 Q 79 [(0, .ref (zad Z 60 0))] [] (zDu (eX11_9 Z D) 60 0 (.inr (11, fX11_9 Z))) 19 140) : zNN E 2 Z n0 Q 71 [(0, .ref (zad Z 60 0))] [] (zDu (eX11_8 Z D) 60 0 (.inr (11, fX11_8 Z))) 18 130 := by
  subst hc
  refine zn_aload_n C dX11_init_71 rfl ?_
  refine zn_bipush C dX11_init_72 (v := 10) (by decide) ?_
  refine zn_newa C (atype := .int) (k := 70) (i := 0) (t0 := 0) (N := 10) (a0 := (10, .inl fun _ => 0)) wq_61 rfl dX11_init_74 (by decide) (by decide) (by decide) (fun _ => rfl) (by decide) rfl (by omega) (by omega) ?_
  refine zn_putF C (by decide +kernel) 10 zin_X11 rfl (Nat.le_of_ble_eq_true rfl) rfl rfl tyX11_ok nmX11 rfl (ty := tyX11 10) (by decide +kernel) wq_1108 dX11_init_76 (zDu_o (by decide) (zDu_i _ _ _ _)) (Nat.le_of_ble_eq_true rfl) rfl rfl ?_
  exact kk
def fX11_10 (Z : zLay) : List Value := [.int 0, .int 0, .ref (zad Z 61 0), .ref (zad Z 63 0), .ref (zad Z 64 0), .ref (zad Z 65 0), .ref (zad Z 66 0), .ref (zad Z 67 0), .ref (zad Z 68 0), .ref (zad Z 69 0), .ref (zad Z 70 0), .ref (zad Z 71 0), .int 0, .null, .null, .null, .null, .null, .null, .int 0, .int 0, .null, .null, .null, .null, .int 0, .null, .null, .null, .null, .int 0, .null, .int 0, .null, .null, .null, .null, .null, .null, .int 0, .int 0, .int 0, .int 0, .int 0, .int 0, .int 0, .int 0, .null, .null, .null, .int 0, .int 0, .null, .null, .null, .null, .null, .int 0, .int 0, .int 0, .int 0, .null, .null, .null, .null, .null, .null, .null]
def eX11_10 (Z : zLay) (D : zDm) : zDm := (zDr (zDu (zDu (eX11_9 Z D) 60 0 (.inr (11, fX11_9 Z))) 71 0 (.inl (zca Z 9, 4, .inr (.inr (.inr (.inr (fun i => if i < 4 then some (zad Z 72 i) else none))))))) 72 4 (.inl (zca Z 0, (10, .inl fun _ => 0))))
theorem sX11_79 (C : zCN E cX11_init RX11 2 Z h n0 c0 368 32691) (hh : 1 ≤ h) (hc : c0 = 344) (kk : zNN E 2 Z n0 Q 90 [(0, .ref (zad Z 60 0))] [] (zDu (eX11_10 Z D) 60 0 (.inr (11, fX11_10 Z))) 24 184) : zNN E 2 Z n0 Q 79 [(0, .ref (zad Z 60 0))] [] (zDu (eX11_9 Z D) 60 0 (.inr (11, fX11_9 Z))) 19 140 := by
  subst hc
  refine zn_aload_n C dX11_init_79 rfl ?_
  refine zn_iconst C dX11_init_80 (v := 4) (by decide) ?_
  refine zn_bipush C dX11_init_81 (v := 10) (by decide) ?_
  refine zn_mna C (ty := .int) (N := 4) (M := 10) (t0 := 9) (t1 := 0) (k := 71) (k1 := 72) (a0 := (10, .inl fun _ => 0)) wq_1095 (by unfold zOvL; simp) wq_61 rfl rfl (fun _ _ q => q) dX11_init_83 (by decide) (by decide) (by decide) (by decide) (by decide) (by decide) (by decide) rfl rfl (fun _ => rfl) (by decide) (by decide) rfl (fun j _ => by show 364 + 1 * j = 344 + 19 + 1 + j; omega) (by omega) (by omega) ?_
  refine zn_put C 11 zin_X11 rfl (Nat.le_of_ble_eq_true rfl) rfl tyX11_ok nmX11 rfl (ty := tyX11 11) (by decide +kernel) wq_1109 dX11_init_87 (zDr_o (by decide) (zDu_o (by decide) (zDu_i _ _ _ _))) (Nat.le_of_ble_eq_true rfl) rfl rfl ?_
  exact kk
def fX11_11 (Z : zLay) : List Value := [.int 0, .int 0, .ref (zad Z 61 0), .ref (zad Z 63 0), .ref (zad Z 64 0), .ref (zad Z 65 0), .ref (zad Z 66 0), .ref (zad Z 67 0), .ref (zad Z 68 0), .ref (zad Z 69 0), .ref (zad Z 70 0), .ref (zad Z 71 0), .int 0, .ref (zad Z 73 0), .null, .null, .null, .null, .null, .int 0, .int 0, .null, .null, .null, .null, .int 0, .null, .null, .null, .null, .int 0, .null, .int 0, .null, .null, .null, .null, .null, .null, .int 0, .int 0, .int 0, .int 0, .int 0, .int 0, .int 0, .int 0, .null, .null, .null, .int 0, .int 0, .null, .null, .null, .null, .null, .int 0, .int 0, .int 0, .int 0, .null, .null, .null, .null, .null, .null, .null]
def eX11_11 (Z : zLay) (D : zDm) : zDm := (zDu (zDu (eX11_10 Z D) 60 0 (.inr (11, fX11_10 Z))) 73 0 (.inl (zca Z 0, 50, .inl fun _ => 0)))
theorem sX11_90 (C : zCN E cX11_init RX11 2 Z h n0 c0 368 32691) (hh : 1 ≤ h) (hc : c0 = 344) (kk : zNN E 2 Z n0 Q 98 [(0, .ref (zad Z 60 0))] [] (zDu (eX11_11 Z D) 60 0 (.inr (11, fX11_11 Z))) 25 234) : zNN E 2 Z n0 Q 90 [(0, .ref (zad Z 60 0))] [] (zDu (eX11_10 Z D) 60 0 (.inr (11, fX11_10 Z))) 24 184 := by
  subst hc
  refine zn_aload_n C dX11_init_90 rfl ?_
  refine zn_bipush C dX11_init_91 (v := 50) (by decide) ?_
  refine zn_newa C (atype := .int) (k := 73) (i := 0) (t0 := 0) (N := 50) (a0 := (50, .inl fun _ => 0)) wq_61 rfl dX11_init_93 (by decide) (by decide) (by decide) (fun _ => rfl) (by decide) rfl (by omega) (by omega) ?_
  refine zn_putF C (by decide +kernel) 13 zin_X11 rfl (Nat.le_of_ble_eq_true rfl) rfl rfl tyX11_ok nmX11 rfl (ty := tyX11 13) (by decide +kernel) wq_1111 dX11_init_95 (zDu_o (by decide) (zDu_i _ _ _ _)) (Nat.le_of_ble_eq_true rfl) rfl rfl ?_
  exact kk
def fX11_12 (Z : zLay) : List Value := [.int 0, .int 0, .ref (zad Z 61 0), .ref (zad Z 63 0), .ref (zad Z 64 0), .ref (zad Z 65 0), .ref (zad Z 66 0), .ref (zad Z 67 0), .ref (zad Z 68 0), .ref (zad Z 69 0), .ref (zad Z 70 0), .ref (zad Z 71 0), .int 0, .ref (zad Z 73 0), .ref (zad Z 74 0), .null, .null, .null, .null, .int 0, .int 0, .null, .null, .null, .null, .int 0, .null, .null, .null, .null, .int 0, .null, .int 0, .null, .null, .null, .null, .null, .null, .int 0, .int 0, .int 0, .int 0, .int 0, .int 0, .int 0, .int 0, .null, .null, .null, .int 0, .int 0, .null, .null, .null, .null, .null, .int 0, .int 0, .int 0, .int 0, .null, .null, .null, .null, .null, .null, .null]
def eX11_12 (Z : zLay) (D : zDm) : zDm := (zDu (zDu (eX11_11 Z D) 60 0 (.inr (11, fX11_11 Z))) 74 0 (.inl (zca Z 0, 50, .inl fun _ => 0)))
theorem sX11_98 (C : zCN E cX11_init RX11 2 Z h n0 c0 368 32691) (hh : 1 ≤ h) (hc : c0 = 344) (kk : zNN E 2 Z n0 Q 106 [(0, .ref (zad Z 60 0))] [] (zDu (eX11_12 Z D) 60 0 (.inr (11, fX11_12 Z))) 26 284) : zNN E 2 Z n0 Q 98 [(0, .ref (zad Z 60 0))] [] (zDu (eX11_11 Z D) 60 0 (.inr (11, fX11_11 Z))) 25 234 := by
  subst hc
  refine zn_aload_n C dX11_init_98 rfl ?_
  refine zn_bipush C dX11_init_99 (v := 50) (by decide) ?_
  refine zn_newa C (atype := .int) (k := 74) (i := 0) (t0 := 0) (N := 50) (a0 := (50, .inl fun _ => 0)) wq_61 rfl dX11_init_101 (by decide) (by decide) (by decide) (fun _ => rfl) (by decide) rfl (by omega) (by omega) ?_
  refine zn_putF C (by decide +kernel) 14 zin_X11 rfl (Nat.le_of_ble_eq_true rfl) rfl rfl tyX11_ok nmX11 rfl (ty := tyX11 14) (by decide +kernel) wq_1112 dX11_init_103 (zDu_o (by decide) (zDu_i _ _ _ _)) (Nat.le_of_ble_eq_true rfl) rfl rfl ?_
  exact kk
def fX11_13 (Z : zLay) : List Value := [.int 0, .int 0, .ref (zad Z 61 0), .ref (zad Z 63 0), .ref (zad Z 64 0), .ref (zad Z 65 0), .ref (zad Z 66 0), .ref (zad Z 67 0), .ref (zad Z 68 0), .ref (zad Z 69 0), .ref (zad Z 70 0), .ref (zad Z 71 0), .int 0, .ref (zad Z 73 0), .ref (zad Z 74 0), .ref (zad Z 75 0), .null, .null, .null, .int 0, .int 0, .null, .null, .null, .null, .int 0, .null, .null, .null, .null, .int 0, .null, .int 0, .null, .null, .null, .null, .null, .null, .int 0, .int 0, .int 0, .int 0, .int 0, .int 0, .int 0, .int 0, .null, .null, .null, .int 0, .int 0, .null, .null, .null, .null, .null, .int 0, .int 0, .int 0, .int 0, .null, .null, .null, .null, .null, .null, .null]
def eX11_13 (Z : zLay) (D : zDm) : zDm := (zDu (zDu (eX11_12 Z D) 60 0 (.inr (11, fX11_12 Z))) 75 0 (.inl (zca Z 0, 50, .inl fun _ => 0)))
theorem sX11_106 (C : zCN E cX11_init RX11 2 Z h n0 c0 368 32691) (hh : 1 ≤ h) (hc : c0 = 344) (kk : zNN E 2 Z n0 Q 114 [(0, .ref (zad Z 60 0))] [] (zDu (eX11_13 Z D) 60 0 (.inr (11, fX11_13 Z))) 27 334) : zNN E 2 Z n0 Q 106 [(0, .ref (zad Z 60 0))] [] (zDu (eX11_12 Z D) 60 0 (.inr (11, fX11_12 Z))) 26 284 := by
  subst hc
  refine zn_aload_n C dX11_init_106 rfl ?_
  refine zn_bipush C dX11_init_107 (v := 50) (by decide) ?_
  refine zn_newa C (atype := .int) (k := 75) (i := 0) (t0 := 0) (N := 50) (a0 := (50, .inl fun _ => 0)) wq_61 rfl dX11_init_109 (by decide) (by decide) (by decide) (fun _ => rfl) (by decide) rfl (by omega) (by omega) ?_
  refine zn_putF C (by decide +kernel) 15 zin_X11 rfl (Nat.le_of_ble_eq_true rfl) rfl rfl tyX11_ok nmX11 rfl (ty := tyX11 15) (by decide +kernel) wq_1113 dX11_init_111 (zDu_o (by decide) (zDu_i _ _ _ _)) (Nat.le_of_ble_eq_true rfl) rfl rfl ?_
  exact kk
def fX11_14 (Z : zLay) : List Value := [.int 0, .int 0, .ref (zad Z 61 0), .ref (zad Z 63 0), .ref (zad Z 64 0), .ref (zad Z 65 0), .ref (zad Z 66 0), .ref (zad Z 67 0), .ref (zad Z 68 0), .ref (zad Z 69 0), .ref (zad Z 70 0), .ref (zad Z 71 0), .int 0, .ref (zad Z 73 0), .ref (zad Z 74 0), .ref (zad Z 75 0), .ref (zad Z 76 0), .null, .null, .int 0, .int 0, .null, .null, .null, .null, .int 0, .null, .null, .null, .null, .int 0, .null, .int 0, .null, .null, .null, .null, .null, .null, .int 0, .int 0, .int 0, .int 0, .int 0, .int 0, .int 0, .int 0, .null, .null, .null, .int 0, .int 0, .null, .null, .null, .null, .null, .int 0, .int 0, .int 0, .int 0, .null, .null, .null, .null, .null, .null, .null]
def eX11_14 (Z : zLay) (D : zDm) : zDm := (zDu (zDu (eX11_13 Z D) 60 0 (.inr (11, fX11_13 Z))) 76 0 (.inl (zca Z 0, 50, .inl fun _ => 0)))
theorem sX11_114 (C : zCN E cX11_init RX11 2 Z h n0 c0 368 32691) (hh : 1 ≤ h) (hc : c0 = 344) (kk : zNN E 2 Z n0 Q 122 [(0, .ref (zad Z 60 0))] [] (zDu (eX11_14 Z D) 60 0 (.inr (11, fX11_14 Z))) 28 384) : zNN E 2 Z n0 Q 114 [(0, .ref (zad Z 60 0))] [] (zDu (eX11_13 Z D) 60 0 (.inr (11, fX11_13 Z))) 27 334 := by
  subst hc
  refine zn_aload_n C dX11_init_114 rfl ?_
  refine zn_bipush C dX11_init_115 (v := 50) (by decide) ?_
  refine zn_newa C (atype := .int) (k := 76) (i := 0) (t0 := 0) (N := 50) (a0 := (50, .inl fun _ => 0)) wq_61 rfl dX11_init_117 (by decide) (by decide) (by decide) (fun _ => rfl) (by decide) rfl (by omega) (by omega) ?_
  refine zn_putF C (by decide +kernel) 16 zin_X11 rfl (Nat.le_of_ble_eq_true rfl) rfl rfl tyX11_ok nmX11 rfl (ty := tyX11 16) (by decide +kernel) wq_1114 dX11_init_119 (zDu_o (by decide) (zDu_i _ _ _ _)) (Nat.le_of_ble_eq_true rfl) rfl rfl ?_
  exact kk
def fX11_15 (Z : zLay) : List Value := [.int 0, .int 0, .ref (zad Z 61 0), .ref (zad Z 63 0), .ref (zad Z 64 0), .ref (zad Z 65 0), .ref (zad Z 66 0), .ref (zad Z 67 0), .ref (zad Z 68 0), .ref (zad Z 69 0), .ref (zad Z 70 0), .ref (zad Z 71 0), .int 0, .ref (zad Z 73 0), .ref (zad Z 74 0), .ref (zad Z 75 0), .ref (zad Z 76 0), .ref (zad Z 77 0), .null, .int 0, .int 0, .null, .null, .null, .null, .int 0, .null, .null, .null, .null, .int 0, .null, .int 0, .null, .null, .null, .null, .null, .null, .int 0, .int 0, .int 0, .int 0, .int 0, .int 0, .int 0, .int 0, .null, .null, .null, .int 0, .int 0, .null, .null, .null, .null, .null, .int 0, .int 0, .int 0, .int 0, .null, .null, .null, .null, .null, .null, .null]
def eX11_15 (Z : zLay) (D : zDm) : zDm := (zDu (zDu (eX11_14 Z D) 60 0 (.inr (11, fX11_14 Z))) 77 0 (.inl (zca Z 0, 50, .inl fun _ => 0)))
theorem sX11_122 (C : zCN E cX11_init RX11 2 Z h n0 c0 368 32691) (hh : 1 ≤ h) (hc : c0 = 344) (kk : zNN E 2 Z n0 Q 130 [(0, .ref (zad Z 60 0))] [] (zDu (eX11_15 Z D) 60 0 (.inr (11, fX11_15 Z))) 29 434) : zNN E 2 Z n0 Q 122 [(0, .ref (zad Z 60 0))] [] (zDu (eX11_14 Z D) 60 0 (.inr (11, fX11_14 Z))) 28 384 := by
  subst hc
  refine zn_aload_n C dX11_init_122 rfl ?_
  refine zn_bipush C dX11_init_123 (v := 50) (by decide) ?_
  refine zn_newa C (atype := .int) (k := 77) (i := 0) (t0 := 0) (N := 50) (a0 := (50, .inl fun _ => 0)) wq_61 rfl dX11_init_125 (by decide) (by decide) (by decide) (fun _ => rfl) (by decide) rfl (by omega) (by omega) ?_
  refine zn_putF C (by decide +kernel) 17 zin_X11 rfl (Nat.le_of_ble_eq_true rfl) rfl rfl tyX11_ok nmX11 rfl (ty := tyX11 17) (by decide +kernel) wq_1115 dX11_init_127 (zDu_o (by decide) (zDu_i _ _ _ _)) (Nat.le_of_ble_eq_true rfl) rfl rfl ?_
  exact kk
def fX11_16 (Z : zLay) : List Value := [.int 0, .int 0, .ref (zad Z 61 0), .ref (zad Z 63 0), .ref (zad Z 64 0), .ref (zad Z 65 0), .ref (zad Z 66 0), .ref (zad Z 67 0), .ref (zad Z 68 0), .ref (zad Z 69 0), .ref (zad Z 70 0), .ref (zad Z 71 0), .int 0, .ref (zad Z 73 0), .ref (zad Z 74 0), .ref (zad Z 75 0), .ref (zad Z 76 0), .ref (zad Z 77 0), .ref (zad Z 78 0), .int 0, .int 0, .null, .null, .null, .null, .int 0, .null, .null, .null, .null, .int 0, .null, .int 0, .null, .null, .null, .null, .null, .null, .int 0, .int 0, .int 0, .int 0, .int 0, .int 0, .int 0, .int 0, .null, .null, .null, .int 0, .int 0, .null, .null, .null, .null, .null, .int 0, .int 0, .int 0, .int 0, .null, .null, .null, .null, .null, .null, .null]
def eX11_16 (Z : zLay) (D : zDm) : zDm := (zDu (zDu (eX11_15 Z D) 60 0 (.inr (11, fX11_15 Z))) 78 0 (.inl (zca Z 0, 100, .inl fun _ => 0)))
theorem sX11_130 (C : zCN E cX11_init RX11 2 Z h n0 c0 368 32691) (hh : 1 ≤ h) (hc : c0 = 344) (kk : zNN E 2 Z n0 Q 138 [(0, .ref (zad Z 60 0))] [] (zDu (eX11_16 Z D) 60 0 (.inr (11, fX11_16 Z))) 30 534) : zNN E 2 Z n0 Q 130 [(0, .ref (zad Z 60 0))] [] (zDu (eX11_15 Z D) 60 0 (.inr (11, fX11_15 Z))) 29 434 := by
  subst hc
  refine zn_aload_n C dX11_init_130 rfl ?_
  refine zn_bipush C dX11_init_131 (v := 100) (by decide) ?_
  refine zn_newa C (atype := .int) (k := 78) (i := 0) (t0 := 0) (N := 100) (a0 := (100, .inl fun _ => 0)) wq_61 rfl dX11_init_133 (by decide) (by decide) (by decide) (fun _ => rfl) (by decide) rfl (by omega) (by omega) ?_
  refine zn_putF C (by decide +kernel) 18 zin_X11 rfl (Nat.le_of_ble_eq_true rfl) rfl rfl tyX11_ok nmX11 rfl (ty := tyX11 18) (by decide +kernel) wq_1116 dX11_init_135 (zDu_o (by decide) (zDu_i _ _ _ _)) (Nat.le_of_ble_eq_true rfl) rfl rfl ?_
  exact kk
def fX11_17 (Z : zLay) : List Value := [.int 0, .int 0, .ref (zad Z 61 0), .ref (zad Z 63 0), .ref (zad Z 64 0), .ref (zad Z 65 0), .ref (zad Z 66 0), .ref (zad Z 67 0), .ref (zad Z 68 0), .ref (zad Z 69 0), .ref (zad Z 70 0), .ref (zad Z 71 0), .int 0, .ref (zad Z 73 0), .ref (zad Z 74 0), .ref (zad Z 75 0), .ref (zad Z 76 0), .ref (zad Z 77 0), .ref (zad Z 78 0), .int 0, .int 0, .ref (zad Z 79 0), .null, .null, .null, .int 0, .null, .null, .null, .null, .int 0, .null, .int 0, .null, .null, .null, .null, .null, .null, .int 0, .int 0, .int 0, .int 0, .int 0, .int 0, .int 0, .int 0, .null, .null, .null, .int 0, .int 0, .null, .null, .null, .null, .null, .int 0, .int 0, .int 0, .int 0, .null, .null, .null, .null, .null, .null, .null]
def eX11_17 (Z : zLay) (D : zDm) : zDm := (zDr (zDu (zDu (eX11_16 Z D) 60 0 (.inr (11, fX11_16 Z))) 79 0 (.inl (zca Z 9, 41, .inr (.inr (.inr (.inr (fun i => if i < 41 then some (zad Z 80 i) else none))))))) 80 41 (.inl (zca Z 0, (6, .inl fun _ => 0))))
theorem sX11_138 (C : zCN E cX11_init RX11 2 Z h n0 c0 368 32691) (hh : 1 ≤ h) (hc : c0 = 344) (kk : zNN E 2 Z n0 Q 150 [(0, .ref (zad Z 60 0))] [] (zDu (eX11_17 Z D) 60 0 (.inr (11, fX11_17 Z))) 72 821) : zNN E 2 Z n0 Q 138 [(0, .ref (zad Z 60 0))] [] (zDu (eX11_16 Z D) 60 0 (.inr (11, fX11_16 Z))) 30 534 := by
  subst hc
  refine zn_aload_n C dX11_init_138 rfl ?_
  refine zn_bipush C dX11_init_139 (v := 41) (by decide) ?_
  refine zn_bipush C dX11_init_141 (v := 6) (by decide) ?_
  refine zn_mna C (ty := .int) (N := 41) (M := 6) (t0 := 9) (t1 := 0) (k := 79) (k1 := 80) (a0 := (6, .inl fun _ => 0)) wq_1095 (by unfold zOvL; simp) wq_61 rfl rfl (fun _ _ q => q) dX11_init_143 (by decide) (by decide) (by decide) (by decide) (by decide) (by decide) (by decide) rfl rfl (fun _ => rfl) (by decide) (by decide) rfl (fun j _ => by show 375 + 1 * j = 344 + 30 + 1 + j; omega) (by omega) (by omega) ?_
  refine zn_putF C (by decide +kernel) 21 zin_X11 rfl (Nat.le_of_ble_eq_true rfl) rfl rfl tyX11_ok nmX11 rfl (ty := tyX11 21) (by decide +kernel) wq_1119 dX11_init_147 (zDr_o (by decide) (zDu_o (by decide) (zDu_i _ _ _ _))) (Nat.le_of_ble_eq_true rfl) rfl rfl ?_
  exact kk
def fX11_18 (Z : zLay) : List Value := [.int 0, .int 0, .ref (zad Z 61 0), .ref (zad Z 63 0), .ref (zad Z 64 0), .ref (zad Z 65 0), .ref (zad Z 66 0), .ref (zad Z 67 0), .ref (zad Z 68 0), .ref (zad Z 69 0), .ref (zad Z 70 0), .ref (zad Z 71 0), .int 0, .ref (zad Z 73 0), .ref (zad Z 74 0), .ref (zad Z 75 0), .ref (zad Z 76 0), .ref (zad Z 77 0), .ref (zad Z 78 0), .int 0, .int 0, .ref (zad Z 79 0), .ref (zad Z 81 0), .null, .null, .int 0, .null, .null, .null, .null, .int 0, .null, .int 0, .null, .null, .null, .null, .null, .null, .int 0, .int 0, .int 0, .int 0, .int 0, .int 0, .int 0, .int 0, .null, .null, .null, .int 0, .int 0, .null, .null, .null, .null, .null, .int 0, .int 0, .int 0, .int 0, .null, .null, .null, .null, .null, .null, .null]
def eX11_18 (Z : zLay) (D : zDm) : zDm := (zDr (zDu (zDu (eX11_17 Z D) 60 0 (.inr (11, fX11_17 Z))) 81 0 (.inl (zca Z 9, 41, .inr (.inr (.inr (.inr (fun i => if i < 41 then some (zad Z 82 i) else none))))))) 82 41 (.inl (zca Z 0, (24, .inl fun _ => 0))))
theorem sX11_150 (C : zCN E cX11_init RX11 2 Z h n0 c0 368 32691) (hh : 1 ≤ h) (hc : c0 = 344) (kk : zNN E 2 Z n0 Q 162 [(0, .ref (zad Z 60 0))] [] (zDu (eX11_18 Z D) 60 0 (.inr (11, fX11_18 Z))) 114 1846) : zNN E 2 Z n0 Q 150 [(0, .ref (zad Z 60 0))] [] (zDu (eX11_17 Z D) 60 0 (.inr (11, fX11_17 Z))) 72 821 := by
  subst hc
  refine zn_aload_n C dX11_init_150 rfl ?_
  refine zn_bipush C dX11_init_151 (v := 41) (by decide) ?_
  refine zn_bipush C dX11_init_153 (v := 24) (by decide) ?_
  refine zn_mna C (ty := .int) (N := 41) (M := 24) (t0 := 9) (t1 := 0) (k := 81) (k1 := 82) (a0 := (24, .inl fun _ => 0)) wq_1095 (by unfold zOvL; simp) wq_61 rfl rfl (fun _ _ q => q) dX11_init_155 (by decide) (by decide) (by decide) (by decide) (by decide) (by decide) (by decide) rfl rfl (fun _ => rfl) (by decide) (by decide) rfl (fun j _ => by show 417 + 1 * j = 344 + 72 + 1 + j; omega) (by omega) (by omega) ?_
  refine zn_putF C (by decide +kernel) 22 zin_X11 rfl (Nat.le_of_ble_eq_true rfl) rfl rfl tyX11_ok nmX11 rfl (ty := tyX11 22) (by decide +kernel) wq_1120 dX11_init_159 (zDr_o (by decide) (zDu_o (by decide) (zDu_i _ _ _ _))) (Nat.le_of_ble_eq_true rfl) rfl rfl ?_
  exact kk
def fX11_19 (Z : zLay) : List Value := [.int 0, .int 0, .ref (zad Z 61 0), .ref (zad Z 63 0), .ref (zad Z 64 0), .ref (zad Z 65 0), .ref (zad Z 66 0), .ref (zad Z 67 0), .ref (zad Z 68 0), .ref (zad Z 69 0), .ref (zad Z 70 0), .ref (zad Z 71 0), .int 0, .ref (zad Z 73 0), .ref (zad Z 74 0), .ref (zad Z 75 0), .ref (zad Z 76 0), .ref (zad Z 77 0), .ref (zad Z 78 0), .int 0, .int 0, .ref (zad Z 79 0), .ref (zad Z 81 0), .ref (zad Z 83 0), .null, .int 0, .null, .null, .null, .null, .int 0, .null, .int 0, .null, .null, .null, .null, .null, .null, .int 0, .int 0, .int 0, .int 0, .int 0, .int 0, .int 0, .int 0, .null, .null, .null, .int 0, .int 0, .null, .null, .null, .null, .null, .int 0, .int 0, .int 0, .int 0, .null, .null, .null, .null, .null, .null, .null]
def eX11_19 (Z : zLay) (D : zDm) : zDm := (zDr (zDu (zDu (eX11_18 Z D) 60 0 (.inr (11, fX11_18 Z))) 83 0 (.inl (zca Z 9, 2, .inr (.inr (.inr (.inr (fun i => if i < 2 then some (zad Z 84 i) else none))))))) 84 2 (.inl (zca Z 0, (7200, .inl fun _ => 0))))
theorem sX11_162 (C : zCN E cX11_init RX11 2 Z h n0 c0 368 32691) (hh : 1 ≤ h) (hc : c0 = 344) (kk : zNN E 2 Z n0 Q 174 [(0, .ref (zad Z 60 0))] [] (zDu (eX11_19 Z D) 60 0 (.inr (11, fX11_19 Z))) 117 16248) : zNN E 2 Z n0 Q 162 [(0, .ref (zad Z 60 0))] [] (zDu (eX11_18 Z D) 60 0 (.inr (11, fX11_18 Z))) 114 1846 := by
  subst hc
  refine zn_aload_n C dX11_init_162 rfl ?_
  refine zn_iconst C dX11_init_163 (v := 2) (by decide) ?_
  refine zn_sipush C dX11_init_164 (v := 7200) (by decide) ?_
  refine zn_mna C (ty := .int) (N := 2) (M := 7200) (t0 := 9) (t1 := 0) (k := 83) (k1 := 84) (a0 := (7200, .inl fun _ => 0)) wq_1095 (by unfold zOvL; simp) wq_61 rfl rfl (fun _ _ q => q) dX11_init_167 (by decide) (by decide) (by decide) (by decide) (by decide) (by decide) (by decide) rfl rfl (fun _ => rfl) (by decide) (by decide) rfl (fun j _ => by show 459 + 1 * j = 344 + 114 + 1 + j; omega) (by omega) (by omega) ?_
  refine zn_putF C (by decide +kernel) 23 zin_X11 rfl (Nat.le_of_ble_eq_true rfl) rfl rfl tyX11_ok nmX11 rfl (ty := tyX11 23) (by decide +kernel) wq_1121 dX11_init_171 (zDr_o (by decide) (zDu_o (by decide) (zDu_i _ _ _ _))) (Nat.le_of_ble_eq_true rfl) rfl rfl ?_
  exact kk
def fX11_20 (Z : zLay) : List Value := [.int 0, .int 0, .ref (zad Z 61 0), .ref (zad Z 63 0), .ref (zad Z 64 0), .ref (zad Z 65 0), .ref (zad Z 66 0), .ref (zad Z 67 0), .ref (zad Z 68 0), .ref (zad Z 69 0), .ref (zad Z 70 0), .ref (zad Z 71 0), .int 0, .ref (zad Z 73 0), .ref (zad Z 74 0), .ref (zad Z 75 0), .ref (zad Z 76 0), .ref (zad Z 77 0), .ref (zad Z 78 0), .int 0, .int 0, .ref (zad Z 79 0), .ref (zad Z 81 0), .ref (zad Z 83 0), .ref (zad Z 85 0), .int 0, .null, .null, .null, .null, .int 0, .null, .int 0, .null, .null, .null, .null, .null, .null, .int 0, .int 0, .int 0, .int 0, .int 0, .int 0, .int 0, .int 0, .null, .null, .null, .int 0, .int 0, .null, .null, .null, .null, .null, .int 0, .int 0, .int 0, .int 0, .null, .null, .null, .null, .null, .null, .null]
def eX11_20 (Z : zLay) (D : zDm) : zDm := (zDr (zDu (zDu (eX11_19 Z D) 60 0 (.inr (11, fX11_19 Z))) 85 0 (.inl (zca Z 11, 2, .inr (.inr (.inr (.inr (fun i => if i < 2 then some (zad Z 86 i) else none))))))) 86 2 (.inl (zca Z 4, (7200, .inl fun _ => 0))))
theorem sX11_174 (C : zCN E cX11_init RX11 2 Z h n0 c0 368 32691) (hh : 1 ≤ h) (hc : c0 = 344) (kk : zNN E 2 Z n0 Q 186 [(0, .ref (zad Z 60 0))] [] (zDu (eX11_20 Z D) 60 0 (.inr (11, fX11_20 Z))) 120 30650) : zNN E 2 Z n0 Q 174 [(0, .ref (zad Z 60 0))] [] (zDu (eX11_19 Z D) 60 0 (.inr (11, fX11_19 Z))) 117 16248 := by
  subst hc
  refine zn_aload_n C dX11_init_174 rfl ?_
  refine zn_iconst C dX11_init_175 (v := 2) (by decide) ?_
  refine zn_sipush C dX11_init_176 (v := 7200) (by decide) ?_
  refine zn_mna C (ty := .boolean) (N := 2) (M := 7200) (t0 := 11) (t1 := 4) (k := 85) (k1 := 86) (a0 := (7200, .inl fun _ => 0)) wq_1096 (by unfold zOvL; simp) wq_124 rfl rfl (fun _ _ q => q) dX11_init_179 (by decide) (by decide) (by decide) (by decide) (by decide) (by decide) (by decide) rfl rfl (fun _ => rfl) (by decide) (by decide) rfl (fun j _ => by show 462 + 1 * j = 344 + 117 + 1 + j; omega) (by omega) (by omega) ?_
  refine zn_putF C (by decide +kernel) 24 zin_X11 rfl (Nat.le_of_ble_eq_true rfl) rfl rfl tyX11_ok nmX11 rfl (ty := tyX11 24) (by decide +kernel) wq_1122 dX11_init_183 (zDr_o (by decide) (zDu_o (by decide) (zDu_i _ _ _ _))) (Nat.le_of_ble_eq_true rfl) rfl rfl ?_
  exact kk
def fX11_21 (Z : zLay) : List Value := [.int 0, .int 0, .ref (zad Z 61 0), .ref (zad Z 63 0), .ref (zad Z 64 0), .ref (zad Z 65 0), .ref (zad Z 66 0), .ref (zad Z 67 0), .ref (zad Z 68 0), .ref (zad Z 69 0), .ref (zad Z 70 0), .ref (zad Z 71 0), .int 0, .ref (zad Z 73 0), .ref (zad Z 74 0), .ref (zad Z 75 0), .ref (zad Z 76 0), .ref (zad Z 77 0), .ref (zad Z 78 0), .int 0, .int 0, .ref (zad Z 79 0), .ref (zad Z 81 0), .ref (zad Z 83 0), .ref (zad Z 85 0), .int 0, .ref (zad Z 87 0), .null, .null, .null, .int 0, .null, .int 0, .null, .null, .null, .null, .null, .null, .int 0, .int 0, .int 0, .int 0, .int 0, .int 0, .int 0, .int 0, .null, .null, .null, .int 0, .int 0, .null, .null, .null, .null, .null, .int 0, .int 0, .int 0, .int 0, .null, .null, .null, .null, .null, .null, .null]
def eX11_21 (Z : zLay) (D : zDm) : zDm := (zDu (zDu (eX11_20 Z D) 60 0 (.inr (11, fX11_20 Z))) 87 0 (.inl (zca Z 0, 4, .inl fun _ => 0)))
theorem sX11_186 (C : zCN E cX11_init RX11 2 Z h n0 c0 368 32691) (hh : 1 ≤ h) (hc : c0 = 344) (kk : zNN E 2 Z n0 Q 193 [(0, .ref (zad Z 60 0))] [] (zDu (eX11_21 Z D) 60 0 (.inr (11, fX11_21 Z))) 121 30654) : zNN E 2 Z n0 Q 186 [(0, .ref (zad Z 60 0))] [] (zDu (eX11_20 Z D) 60 0 (.inr (11, fX11_20 Z))) 120 30650 := by
  subst hc
  refine zn_aload_n C dX11_init_186 rfl ?_
  refine zn_iconst C dX11_init_187 (v := 4) (by decide) ?_
  refine zn_newa C (atype := .int) (k := 87) (i := 0) (t0 := 0) (N := 4) (a0 := (4, .inl fun _ => 0)) wq_61 rfl dX11_init_188 (by decide) (by decide) (by decide) (fun _ => rfl) (by decide) rfl (by omega) (by omega) ?_
  refine zn_putF C (by decide +kernel) 26 zin_X11 rfl (Nat.le_of_ble_eq_true rfl) rfl rfl tyX11_ok nmX11 rfl (ty := tyX11 26) (by decide +kernel) wq_1124 dX11_init_190 (zDu_o (by decide) (zDu_i _ _ _ _)) (Nat.le_of_ble_eq_true rfl) rfl rfl ?_
  exact kk
def fX11_22 (Z : zLay) : List Value := [.int 0, .int 0, .ref (zad Z 61 0), .ref (zad Z 63 0), .ref (zad Z 64 0), .ref (zad Z 65 0), .ref (zad Z 66 0), .ref (zad Z 67 0), .ref (zad Z 68 0), .ref (zad Z 69 0), .ref (zad Z 70 0), .ref (zad Z 71 0), .int 0, .ref (zad Z 73 0), .ref (zad Z 74 0), .ref (zad Z 75 0), .ref (zad Z 76 0), .ref (zad Z 77 0), .ref (zad Z 78 0), .int 0, .int 0, .ref (zad Z 79 0), .ref (zad Z 81 0), .ref (zad Z 83 0), .ref (zad Z 85 0), .int 0, .ref (zad Z 87 0), .ref (zad Z 88 0), .null, .null, .int 0, .null, .int 0, .null, .null, .null, .null, .null, .null, .int 0, .int 0, .int 0, .int 0, .int 0, .int 0, .int 0, .int 0, .null, .null, .null, .int 0, .int 0, .null, .null, .null, .null, .null, .int 0, .int 0, .int 0, .int 0, .null, .null, .null, .null, .null, .null, .null]
def eX11_22 (Z : zLay) (D : zDm) : zDm := (zDu (zDu (eX11_21 Z D) 60 0 (.inr (11, fX11_21 Z))) 88 0 (.inl (zca Z 0, 4, .inl fun _ => 0)))
theorem sX11_193 (C : zCN E cX11_init RX11 2 Z h n0 c0 368 32691) (hh : 1 ≤ h) (hc : c0 = 344) (kk : zNN E 2 Z n0 Q 200 [(0, .ref (zad Z 60 0))] [] (zDu (eX11_22 Z D) 60 0 (.inr (11, fX11_22 Z))) 122 30658) : zNN E 2 Z n0 Q 193 [(0, .ref (zad Z 60 0))] [] (zDu (eX11_21 Z D) 60 0 (.inr (11, fX11_21 Z))) 121 30654 := by
  subst hc
  refine zn_aload_n C dX11_init_193 rfl ?_
  refine zn_iconst C dX11_init_194 (v := 4) (by decide) ?_
  refine zn_newa C (atype := .int) (k := 88) (i := 0) (t0 := 0) (N := 4) (a0 := (4, .inl fun _ => 0)) wq_61 rfl dX11_init_195 (by decide) (by decide) (by decide) (fun _ => rfl) (by decide) rfl (by omega) (by omega) ?_
  refine zn_putF C (by decide +kernel) 27 zin_X11 rfl (Nat.le_of_ble_eq_true rfl) rfl rfl tyX11_ok nmX11 rfl (ty := tyX11 27) (by decide +kernel) wq_1125 dX11_init_197 (zDu_o (by decide) (zDu_i _ _ _ _)) (Nat.le_of_ble_eq_true rfl) rfl rfl ?_
  exact kk
def fX11_23 (Z : zLay) : List Value := [.int 0, .int 0, .ref (zad Z 61 0), .ref (zad Z 63 0), .ref (zad Z 64 0), .ref (zad Z 65 0), .ref (zad Z 66 0), .ref (zad Z 67 0), .ref (zad Z 68 0), .ref (zad Z 69 0), .ref (zad Z 70 0), .ref (zad Z 71 0), .int 0, .ref (zad Z 73 0), .ref (zad Z 74 0), .ref (zad Z 75 0), .ref (zad Z 76 0), .ref (zad Z 77 0), .ref (zad Z 78 0), .int 0, .int 0, .ref (zad Z 79 0), .ref (zad Z 81 0), .ref (zad Z 83 0), .ref (zad Z 85 0), .int 0, .ref (zad Z 87 0), .ref (zad Z 88 0), .ref (zad Z 89 0), .null, .int 0, .null, .int 0, .null, .null, .null, .null, .null, .null, .int 0, .int 0, .int 0, .int 0, .int 0, .int 0, .int 0, .int 0, .null, .null, .null, .int 0, .int 0, .null, .null, .null, .null, .null, .int 0, .int 0, .int 0, .int 0, .null, .null, .null, .null, .null, .null, .null]
def eX11_23 (Z : zLay) (D : zDm) : zDm := (zDu (zDu (eX11_22 Z D) 60 0 (.inr (11, fX11_22 Z))) 89 0 (.inl (zca Z 0, 4, .inl fun _ => 0)))
theorem sX11_200 (C : zCN E cX11_init RX11 2 Z h n0 c0 368 32691) (hh : 1 ≤ h) (hc : c0 = 344) (kk : zNN E 2 Z n0 Q 207 [(0, .ref (zad Z 60 0))] [] (zDu (eX11_23 Z D) 60 0 (.inr (11, fX11_23 Z))) 123 30662) : zNN E 2 Z n0 Q 200 [(0, .ref (zad Z 60 0))] [] (zDu (eX11_22 Z D) 60 0 (.inr (11, fX11_22 Z))) 122 30658 := by
  subst hc
  refine zn_aload_n C dX11_init_200 rfl ?_
  refine zn_iconst C dX11_init_201 (v := 4) (by decide) ?_
  refine zn_newa C (atype := .int) (k := 89) (i := 0) (t0 := 0) (N := 4) (a0 := (4, .inl fun _ => 0)) wq_61 rfl dX11_init_202 (by decide) (by decide) (by decide) (fun _ => rfl) (by decide) rfl (by omega) (by omega) ?_
  refine zn_put C 28 zin_X11 rfl (Nat.le_of_ble_eq_true rfl) rfl tyX11_ok nmX11 rfl (ty := tyX11 28) (by decide +kernel) wq_1126 dX11_init_204 (zDu_o (by decide) (zDu_i _ _ _ _)) (Nat.le_of_ble_eq_true rfl) rfl rfl ?_
  exact kk
def fX11_24 (Z : zLay) : List Value := [.int 0, .int 0, .ref (zad Z 61 0), .ref (zad Z 63 0), .ref (zad Z 64 0), .ref (zad Z 65 0), .ref (zad Z 66 0), .ref (zad Z 67 0), .ref (zad Z 68 0), .ref (zad Z 69 0), .ref (zad Z 70 0), .ref (zad Z 71 0), .int 0, .ref (zad Z 73 0), .ref (zad Z 74 0), .ref (zad Z 75 0), .ref (zad Z 76 0), .ref (zad Z 77 0), .ref (zad Z 78 0), .int 0, .int 0, .ref (zad Z 79 0), .ref (zad Z 81 0), .ref (zad Z 83 0), .ref (zad Z 85 0), .int 0, .ref (zad Z 87 0), .ref (zad Z 88 0), .ref (zad Z 89 0), .ref (zad Z 90 0), .int 0, .null, .int 0, .null, .null, .null, .null, .null, .null, .int 0, .int 0, .int 0, .int 0, .int 0, .int 0, .int 0, .int 0, .null, .null, .null, .int 0, .int 0, .null, .null, .null, .null, .null, .int 0, .int 0, .int 0, .int 0, .null, .null, .null, .null, .null, .null, .null]
def eX11_24 (Z : zLay) (D : zDm) : zDm := (zDu (zDu (eX11_23 Z D) 60 0 (.inr (11, fX11_23 Z))) 90 0 (.inl (zca Z 0, 4, .inl fun _ => 0)))
theorem sX11_207 (C : zCN E cX11_init RX11 2 Z h n0 c0 368 32691) (hh : 1 ≤ h) (hc : c0 = 344) (kk : zNN E 2 Z n0 Q 214 [(0, .ref (zad Z 60 0))] [] (zDu (eX11_24 Z D) 60 0 (.inr (11, fX11_24 Z))) 124 30666) : zNN E 2 Z n0 Q 207 [(0, .ref (zad Z 60 0))] [] (zDu (eX11_23 Z D) 60 0 (.inr (11, fX11_23 Z))) 123 30662 := by
  subst hc
  refine zn_aload_n C dX11_init_207 rfl ?_
  refine zn_iconst C dX11_init_208 (v := 4) (by decide) ?_
  refine zn_newa C (atype := .int) (k := 90) (i := 0) (t0 := 0) (N := 4) (a0 := (4, .inl fun _ => 0)) wq_61 rfl dX11_init_209 (by decide) (by decide) (by decide) (fun _ => rfl) (by decide) rfl (by omega) (by omega) ?_
  refine zn_put C 29 zin_X11 rfl (Nat.le_of_ble_eq_true rfl) rfl tyX11_ok nmX11 rfl (ty := tyX11 29) (by decide +kernel) wq_1127 dX11_init_211 (zDu_o (by decide) (zDu_i _ _ _ _)) (Nat.le_of_ble_eq_true rfl) rfl rfl ?_
  exact kk
def fX11_25 (Z : zLay) : List Value := [.int 0, .int 0, .ref (zad Z 61 0), .ref (zad Z 63 0), .ref (zad Z 64 0), .ref (zad Z 65 0), .ref (zad Z 66 0), .ref (zad Z 67 0), .ref (zad Z 68 0), .ref (zad Z 69 0), .ref (zad Z 70 0), .ref (zad Z 71 0), .int 0, .ref (zad Z 73 0), .ref (zad Z 74 0), .ref (zad Z 75 0), .ref (zad Z 76 0), .ref (zad Z 77 0), .ref (zad Z 78 0), .int 0, .int 0, .ref (zad Z 79 0), .ref (zad Z 81 0), .ref (zad Z 83 0), .ref (zad Z 85 0), .int 0, .ref (zad Z 87 0), .ref (zad Z 88 0), .ref (zad Z 89 0), .ref (zad Z 90 0), .int 0, .ref (zad Z 91 0), .int 0, .null, .null, .null, .null, .null, .null, .int 0, .int 0, .int 0, .int 0, .int 0, .int 0, .int 0, .int 0, .null, .null, .null, .int 0, .int 0, .null, .null, .null, .null, .null, .int 0, .int 0, .int 0, .int 0, .null, .null, .null, .null, .null, .null, .null]
def eX11_25 (Z : zLay) (D : zDm) : zDm := (zDr (zDu (zDu (eX11_24 Z D) 60 0 (.inr (11, fX11_24 Z))) 91 0 (.inl (zca Z 9, 200, .inr (.inr (.inr (.inr (fun i => if i < 200 then some (zad Z 92 i) else none))))))) 92 200 (.inl (zca Z 0, (6, .inl fun _ => 0))))
theorem sX11_214 (C : zCN E cX11_init RX11 2 Z h n0 c0 368 32691) (hh : 1 ≤ h) (hc : c0 = 344) (kk : zNN E 2 Z n0 Q 227 [(0, .ref (zad Z 60 0))] [] (zDu (eX11_25 Z D) 60 0 (.inr (11, fX11_25 Z))) 325 32066) : zNN E 2 Z n0 Q 214 [(0, .ref (zad Z 60 0))] [] (zDu (eX11_24 Z D) 60 0 (.inr (11, fX11_24 Z))) 124 30666 := by
  subst hc
  refine zn_aload_n C dX11_init_214 rfl ?_
  refine zn_sipush C dX11_init_215 (v := 200) (by decide) ?_
  refine zn_bipush C dX11_init_218 (v := 6) (by decide) ?_
  refine zn_mna C (ty := .int) (N := 200) (M := 6) (t0 := 9) (t1 := 0) (k := 91) (k1 := 92) (a0 := (6, .inl fun _ => 0)) wq_1095 (by unfold zOvL; simp) wq_61 rfl rfl (fun _ _ q => q) dX11_init_220 (by decide) (by decide) (by decide) (by decide) (by decide) (by decide) (by decide) rfl rfl (fun _ => rfl) (by decide) (by decide) rfl (fun j _ => by show 469 + 1 * j = 344 + 124 + 1 + j; omega) (by omega) (by omega) ?_
  refine zn_putF C (by decide +kernel) 31 zin_X11 rfl (Nat.le_of_ble_eq_true rfl) rfl rfl tyX11_ok nmX11 rfl (ty := tyX11 31) (by decide +kernel) wq_1129 dX11_init_224 (zDr_o (by decide) (zDu_o (by decide) (zDu_i _ _ _ _))) (Nat.le_of_ble_eq_true rfl) rfl rfl ?_
  exact kk
def fX11_26 (Z : zLay) : List Value := [.int 0, .int 0, .ref (zad Z 61 0), .ref (zad Z 63 0), .ref (zad Z 64 0), .ref (zad Z 65 0), .ref (zad Z 66 0), .ref (zad Z 67 0), .ref (zad Z 68 0), .ref (zad Z 69 0), .ref (zad Z 70 0), .ref (zad Z 71 0), .int 0, .ref (zad Z 73 0), .ref (zad Z 74 0), .ref (zad Z 75 0), .ref (zad Z 76 0), .ref (zad Z 77 0), .ref (zad Z 78 0), .int 0, .int 0, .ref (zad Z 79 0), .ref (zad Z 81 0), .ref (zad Z 83 0), .ref (zad Z 85 0), .int 0, .ref (zad Z 87 0), .ref (zad Z 88 0), .ref (zad Z 89 0), .ref (zad Z 90 0), .int 0, .ref (zad Z 91 0), .int 0, .ref (zad Z 93 0), .null, .null, .null, .null, .null, .int 0, .int 0, .int 0, .int 0, .int 0, .int 0, .int 0, .int 0, .null, .null, .null, .int 0, .int 0, .null, .null, .null, .null, .null, .int 0, .int 0, .int 0, .int 0, .null, .null, .null, .null, .null, .null, .null]
def eX11_26 (Z : zLay) (D : zDm) : zDm := (zDu (zDu (eX11_25 Z D) 60 0 (.inr (11, fX11_25 Z))) 93 0 (.inl (zca Z 0, 6, .inl fun _ => 0)))
theorem sX11_227 (C : zCN E cX11_init RX11 2 Z h n0 c0 368 32691) (hh : 1 ≤ h) (hc : c0 = 344) (kk : zNN E 2 Z n0 Q 235 [(0, .ref (zad Z 60 0))] [] (zDu (eX11_26 Z D) 60 0 (.inr (11, fX11_26 Z))) 326 32072) : zNN E 2 Z n0 Q 227 [(0, .ref (zad Z 60 0))] [] (zDu (eX11_25 Z D) 60 0 (.inr (11, fX11_25 Z))) 325 32066 := by
  subst hc
  refine zn_aload_n C dX11_init_227 rfl ?_
  refine zn_bipush C dX11_init_228 (v := 6) (by decide) ?_
  refine zn_newa C (atype := .int) (k := 93) (i := 0) (t0 := 0) (N := 6) (a0 := (6, .inl fun _ => 0)) wq_61 rfl dX11_init_230 (by decide) (by decide) (by decide) (fun _ => rfl) (by decide) rfl (by omega) (by omega) ?_
  refine zn_putF C (by decide +kernel) 33 zin_X11 rfl (Nat.le_of_ble_eq_true rfl) rfl rfl tyX11_ok nmX11 rfl (ty := tyX11 33) (by decide +kernel) wq_1131 dX11_init_232 (zDu_o (by decide) (zDu_i _ _ _ _)) (Nat.le_of_ble_eq_true rfl) rfl rfl ?_
  exact kk
def fX11_27 (Z : zLay) : List Value := [.int 0, .int 0, .ref (zad Z 61 0), .ref (zad Z 63 0), .ref (zad Z 64 0), .ref (zad Z 65 0), .ref (zad Z 66 0), .ref (zad Z 67 0), .ref (zad Z 68 0), .ref (zad Z 69 0), .ref (zad Z 70 0), .ref (zad Z 71 0), .int 0, .ref (zad Z 73 0), .ref (zad Z 74 0), .ref (zad Z 75 0), .ref (zad Z 76 0), .ref (zad Z 77 0), .ref (zad Z 78 0), .int 0, .int 0, .ref (zad Z 79 0), .ref (zad Z 81 0), .ref (zad Z 83 0), .ref (zad Z 85 0), .int 0, .ref (zad Z 87 0), .ref (zad Z 88 0), .ref (zad Z 89 0), .ref (zad Z 90 0), .int 0, .ref (zad Z 91 0), .int 0, .ref (zad Z 93 0), .ref (zad Z 94 0), .null, .null, .null, .null, .int 0, .int 0, .int 0, .int 0, .int 0, .int 0, .int 0, .int 0, .null, .null, .null, .int 0, .int 0, .null, .null, .null, .null, .null, .int 0, .int 0, .int 0, .int 0, .null, .null, .null, .null, .null, .null, .null]
def eX11_27 (Z : zLay) (D : zDm) : zDm := (zDu (zDu (eX11_26 Z D) 60 0 (.inr (11, fX11_26 Z))) 94 0 (.inl (zca Z 4, 6, .inl fun _ => 0)))
theorem sX11_235 (C : zCN E cX11_init RX11 2 Z h n0 c0 368 32691) (hh : 1 ≤ h) (hc : c0 = 344) (kk : zNN E 2 Z n0 Q 243 [(0, .ref (zad Z 60 0))] [] (zDu (eX11_27 Z D) 60 0 (.inr (11, fX11_27 Z))) 327 32078) : zNN E 2 Z n0 Q 235 [(0, .ref (zad Z 60 0))] [] (zDu (eX11_26 Z D) 60 0 (.inr (11, fX11_26 Z))) 326 32072 := by
  subst hc
  refine zn_aload_n C dX11_init_235 rfl ?_
  refine zn_bipush C dX11_init_236 (v := 6) (by decide) ?_
  refine zn_newa C (atype := .boolean) (k := 94) (i := 0) (t0 := 4) (N := 6) (a0 := (6, .inl fun _ => 0)) wq_124 rfl dX11_init_238 (by decide) (by decide) (by decide) (fun _ => rfl) (by decide) rfl (by omega) (by omega) ?_
  refine zn_putF C (by decide +kernel) 34 zin_X11 rfl (Nat.le_of_ble_eq_true rfl) rfl rfl tyX11_ok nmX11 rfl (ty := tyX11 34) (by decide +kernel) wq_1132 dX11_init_240 (zDu_o (by decide) (zDu_i _ _ _ _)) (Nat.le_of_ble_eq_true rfl) rfl rfl ?_
  exact kk
def fX11_28 (Z : zLay) : List Value := [.int 0, .int 0, .ref (zad Z 61 0), .ref (zad Z 63 0), .ref (zad Z 64 0), .ref (zad Z 65 0), .ref (zad Z 66 0), .ref (zad Z 67 0), .ref (zad Z 68 0), .ref (zad Z 69 0), .ref (zad Z 70 0), .ref (zad Z 71 0), .int 0, .ref (zad Z 73 0), .ref (zad Z 74 0), .ref (zad Z 75 0), .ref (zad Z 76 0), .ref (zad Z 77 0), .ref (zad Z 78 0), .int 0, .int 0, .ref (zad Z 79 0), .ref (zad Z 81 0), .ref (zad Z 83 0), .ref (zad Z 85 0), .int 0, .ref (zad Z 87 0), .ref (zad Z 88 0), .ref (zad Z 89 0), .ref (zad Z 90 0), .int 0, .ref (zad Z 91 0), .int 0, .ref (zad Z 93 0), .ref (zad Z 94 0), .ref (zad Z 95 0), .null, .null, .null, .int 0, .int 0, .int 0, .int 0, .int 0, .int 0, .int 0, .int 0, .null, .null, .null, .int 0, .int 0, .null, .null, .null, .null, .null, .int 0, .int 0, .int 0, .int 0, .null, .null, .null, .null, .null, .null, .null]
def eX11_28 (Z : zLay) (D : zDm) : zDm := (zDu (zDu (eX11_27 Z D) 60 0 (.inr (11, fX11_27 Z))) 95 0 (.inl (zca Z 0, 6, .inl fun _ => 0)))
theorem sX11_243 (C : zCN E cX11_init RX11 2 Z h n0 c0 368 32691) (hh : 1 ≤ h) (hc : c0 = 344) (kk : zNN E 2 Z n0 Q 251 [(0, .ref (zad Z 60 0))] [] (zDu (eX11_28 Z D) 60 0 (.inr (11, fX11_28 Z))) 328 32084) : zNN E 2 Z n0 Q 243 [(0, .ref (zad Z 60 0))] [] (zDu (eX11_27 Z D) 60 0 (.inr (11, fX11_27 Z))) 327 32078 := by
  subst hc
  refine zn_aload_n C dX11_init_243 rfl ?_
  refine zn_bipush C dX11_init_244 (v := 6) (by decide) ?_
  refine zn_newa C (atype := .int) (k := 95) (i := 0) (t0 := 0) (N := 6) (a0 := (6, .inl fun _ => 0)) wq_61 rfl dX11_init_246 (by decide) (by decide) (by decide) (fun _ => rfl) (by decide) rfl (by omega) (by omega) ?_
  refine zn_putF C (by decide +kernel) 35 zin_X11 rfl (Nat.le_of_ble_eq_true rfl) rfl rfl tyX11_ok nmX11 rfl (ty := tyX11 35) (by decide +kernel) wq_1133 dX11_init_248 (zDu_o (by decide) (zDu_i _ _ _ _)) (Nat.le_of_ble_eq_true rfl) rfl rfl ?_
  exact kk
def fX11_29 (Z : zLay) : List Value := [.int 0, .int 0, .ref (zad Z 61 0), .ref (zad Z 63 0), .ref (zad Z 64 0), .ref (zad Z 65 0), .ref (zad Z 66 0), .ref (zad Z 67 0), .ref (zad Z 68 0), .ref (zad Z 69 0), .ref (zad Z 70 0), .ref (zad Z 71 0), .int 0, .ref (zad Z 73 0), .ref (zad Z 74 0), .ref (zad Z 75 0), .ref (zad Z 76 0), .ref (zad Z 77 0), .ref (zad Z 78 0), .int 0, .int 0, .ref (zad Z 79 0), .ref (zad Z 81 0), .ref (zad Z 83 0), .ref (zad Z 85 0), .int 0, .ref (zad Z 87 0), .ref (zad Z 88 0), .ref (zad Z 89 0), .ref (zad Z 90 0), .int 0, .ref (zad Z 91 0), .int 0, .ref (zad Z 93 0), .ref (zad Z 94 0), .ref (zad Z 95 0), .ref (zad Z 96 0), .null, .null, .int 0, .int 0, .int 0, .int 0, .int 0, .int 0, .int 0, .int 0, .null, .null, .null, .int 0, .int 0, .null, .null, .null, .null, .null, .int 0, .int 0, .int 0, .int 0, .null, .null, .null, .null, .null, .null, .null]
def eX11_29 (Z : zLay) (D : zDm) : zDm := (zDr (zDu (zDu (eX11_28 Z D) 60 0 (.inr (11, fX11_28 Z))) 96 0 (.inl (zca Z 9, 6, .inr (.inr (.inr (.inr (fun i => if i < 6 then some (zad Z 97 i) else none))))))) 97 6 (.inl (zca Z 0, (8, .inl fun _ => 0))))
theorem sX11_251 (C : zCN E cX11_init RX11 2 Z h n0 c0 368 32691) (hh : 1 ≤ h) (hc : c0 = 344) (kk : zNN E 2 Z n0 Q 263 [(0, .ref (zad Z 60 0))] [] (zDu (eX11_29 Z D) 60 0 (.inr (11, fX11_29 Z))) 335 32138) : zNN E 2 Z n0 Q 251 [(0, .ref (zad Z 60 0))] [] (zDu (eX11_28 Z D) 60 0 (.inr (11, fX11_28 Z))) 328 32084 := by
  subst hc
  refine zn_aload_n C dX11_init_251 rfl ?_
  refine zn_bipush C dX11_init_252 (v := 6) (by decide) ?_
  refine zn_bipush C dX11_init_254 (v := 8) (by decide) ?_
  refine zn_mna C (ty := .int) (N := 6) (M := 8) (t0 := 9) (t1 := 0) (k := 96) (k1 := 97) (a0 := (8, .inl fun _ => 0)) wq_1095 (by unfold zOvL; simp) wq_61 rfl rfl (fun _ _ q => q) dX11_init_256 (by decide) (by decide) (by decide) (by decide) (by decide) (by decide) (by decide) rfl rfl (fun _ => rfl) (by decide) (by decide) rfl (fun j _ => by show 673 + 1 * j = 344 + 328 + 1 + j; omega) (by omega) (by omega) ?_
  refine zn_putF C (by decide +kernel) 36 zin_X11 rfl (Nat.le_of_ble_eq_true rfl) rfl rfl tyX11_ok nmX11 rfl (ty := tyX11 36) (by decide +kernel) wq_1134 dX11_init_260 (zDr_o (by decide) (zDu_o (by decide) (zDu_i _ _ _ _))) (Nat.le_of_ble_eq_true rfl) rfl rfl ?_
  exact kk
def fX11_30 (Z : zLay) : List Value := [.int 0, .int 0, .ref (zad Z 61 0), .ref (zad Z 63 0), .ref (zad Z 64 0), .ref (zad Z 65 0), .ref (zad Z 66 0), .ref (zad Z 67 0), .ref (zad Z 68 0), .ref (zad Z 69 0), .ref (zad Z 70 0), .ref (zad Z 71 0), .int 0, .ref (zad Z 73 0), .ref (zad Z 74 0), .ref (zad Z 75 0), .ref (zad Z 76 0), .ref (zad Z 77 0), .ref (zad Z 78 0), .int 0, .int 0, .ref (zad Z 79 0), .ref (zad Z 81 0), .ref (zad Z 83 0), .ref (zad Z 85 0), .int 0, .ref (zad Z 87 0), .ref (zad Z 88 0), .ref (zad Z 89 0), .ref (zad Z 90 0), .int 0, .ref (zad Z 91 0), .int 0, .ref (zad Z 93 0), .ref (zad Z 94 0), .ref (zad Z 95 0), .ref (zad Z 96 0), .ref (zad Z 98 0), .null, .int 0, .int 0, .int 0, .int 0, .int 0, .int 0, .int 0, .int 0, .null, .null, .null, .int 0, .int 0, .null, .null, .null, .null, .null, .int 0, .int 0, .int 0, .int 0, .null, .null, .null, .null, .null, .null, .null]
def eX11_30 (Z : zLay) (D : zDm) : zDm := (zDr (zDu (zDu (eX11_29 Z D) 60 0 (.inr (11, fX11_29 Z))) 98 0 (.inl (zca Z 11, 6, .inr (.inr (.inr (.inr (fun i => if i < 6 then some (zad Z 99 i) else none))))))) 99 6 (.inl (zca Z 4, (8, .inl fun _ => 0))))
theorem sX11_263 (C : zCN E cX11_init RX11 2 Z h n0 c0 368 32691) (hh : 1 ≤ h) (hc : c0 = 344) (kk : zNN E 2 Z n0 Q 275 [(0, .ref (zad Z 60 0))] [] (zDu (eX11_30 Z D) 60 0 (.inr (11, fX11_30 Z))) 342 32192) : zNN E 2 Z n0 Q 263 [(0, .ref (zad Z 60 0))] [] (zDu (eX11_29 Z D) 60 0 (.inr (11, fX11_29 Z))) 335 32138 := by
  subst hc
  refine zn_aload_n C dX11_init_263 rfl ?_
  refine zn_bipush C dX11_init_264 (v := 6) (by decide) ?_
  refine zn_bipush C dX11_init_266 (v := 8) (by decide) ?_
  refine zn_mna C (ty := .boolean) (N := 6) (M := 8) (t0 := 11) (t1 := 4) (k := 98) (k1 := 99) (a0 := (8, .inl fun _ => 0)) wq_1096 (by unfold zOvL; simp) wq_124 rfl rfl (fun _ _ q => q) dX11_init_268 (by decide) (by decide) (by decide) (by decide) (by decide) (by decide) (by decide) rfl rfl (fun _ => rfl) (by decide) (by decide) rfl (fun j _ => by show 680 + 1 * j = 344 + 335 + 1 + j; omega) (by omega) (by omega) ?_
  refine zn_putF C (by decide +kernel) 37 zin_X11 rfl (Nat.le_of_ble_eq_true rfl) rfl rfl tyX11_ok nmX11 rfl (ty := tyX11 37) (by decide +kernel) wq_1135 dX11_init_272 (zDr_o (by decide) (zDu_o (by decide) (zDu_i _ _ _ _))) (Nat.le_of_ble_eq_true rfl) rfl rfl ?_
  exact kk
def fX11_31 (Z : zLay) : List Value := [.int 0, .int 0, .ref (zad Z 61 0), .ref (zad Z 63 0), .ref (zad Z 64 0), .ref (zad Z 65 0), .ref (zad Z 66 0), .ref (zad Z 67 0), .ref (zad Z 68 0), .ref (zad Z 69 0), .ref (zad Z 70 0), .ref (zad Z 71 0), .int 0, .ref (zad Z 73 0), .ref (zad Z 74 0), .ref (zad Z 75 0), .ref (zad Z 76 0), .ref (zad Z 77 0), .ref (zad Z 78 0), .int 0, .int 0, .ref (zad Z 79 0), .ref (zad Z 81 0), .ref (zad Z 83 0), .ref (zad Z 85 0), .int 0, .ref (zad Z 87 0), .ref (zad Z 88 0), .ref (zad Z 89 0), .ref (zad Z 90 0), .int 0, .ref (zad Z 91 0), .int 0, .ref (zad Z 93 0), .ref (zad Z 94 0), .ref (zad Z 95 0), .ref (zad Z 96 0), .ref (zad Z 98 0), .ref (zad Z 100 0), .int 0, .int 0, .int 0, .int 0, .int 0, .int 0, .int 0, .int 0, .null, .null, .null, .int 0, .int 0, .null, .null, .null, .null, .null, .int 0, .int 0, .int 0, .int 0, .null, .null, .null, .null, .null, .null, .null]
def eX11_31 (Z : zLay) (D : zDm) : zDm := (zDu (zDu (eX11_30 Z D) 60 0 (.inr (11, fX11_30 Z))) 100 0 (.inl (zca Z 0, 6, .inl fun _ => 0)))
theorem sX11_275 (C : zCN E cX11_init RX11 2 Z h n0 c0 368 32691) (hh : 1 ≤ h) (hc : c0 = 344) (kk : zNN E 2 Z n0 Q 283 [(0, .ref (zad Z 60 0))] [] (zDu (eX11_31 Z D) 60 0 (.inr (11, fX11_31 Z))) 343 32198) : zNN E 2 Z n0 Q 275 [(0, .ref (zad Z 60 0))] [] (zDu (eX11_30 Z D) 60 0 (.inr (11, fX11_30 Z))) 342 32192 := by
  subst hc
  refine zn_aload_n C dX11_init_275 rfl ?_
  refine zn_bipush C dX11_init_276 (v := 6) (by decide) ?_
  refine zn_newa C (atype := .int) (k := 100) (i := 0) (t0 := 0) (N := 6) (a0 := (6, .inl fun _ => 0)) wq_61 rfl dX11_init_278 (by decide) (by decide) (by decide) (fun _ => rfl) (by decide) rfl (by omega) (by omega) ?_
  refine zn_putF C (by decide +kernel) 38 zin_X11 rfl (Nat.le_of_ble_eq_true rfl) rfl rfl tyX11_ok nmX11 rfl (ty := tyX11 38) (by decide +kernel) wq_1136 dX11_init_280 (zDu_o (by decide) (zDu_i _ _ _ _)) (Nat.le_of_ble_eq_true rfl) rfl rfl ?_
  exact kk
def fX11_32 (Z : zLay) : List Value := [.int 0, .int 0, .ref (zad Z 61 0), .ref (zad Z 63 0), .ref (zad Z 64 0), .ref (zad Z 65 0), .ref (zad Z 66 0), .ref (zad Z 67 0), .ref (zad Z 68 0), .ref (zad Z 69 0), .ref (zad Z 70 0), .ref (zad Z 71 0), .int 0, .ref (zad Z 73 0), .ref (zad Z 74 0), .ref (zad Z 75 0), .ref (zad Z 76 0), .ref (zad Z 77 0), .ref (zad Z 78 0), .int 0, .int 0, .ref (zad Z 79 0), .ref (zad Z 81 0), .ref (zad Z 83 0), .ref (zad Z 85 0), .int 0, .ref (zad Z 87 0), .ref (zad Z 88 0), .ref (zad Z 89 0), .ref (zad Z 90 0), .int 0, .ref (zad Z 91 0), .int 0, .ref (zad Z 93 0), .ref (zad Z 94 0), .ref (zad Z 95 0), .ref (zad Z 96 0), .ref (zad Z 98 0), .ref (zad Z 100 0), .int 0, .int 0, .int 0, .int 0, .int (-1), .int 0, .int 0, .int 0, .null, .null, .null, .int 0, .int 0, .null, .null, .null, .null, .null, .int 0, .int 0, .int 0, .int 0, .null, .null, .null, .null, .null, .null, .null]
def eX11_32 (Z : zLay) (D : zDm) : zDm := (zDu (eX11_31 Z D) 60 0 (.inr (11, fX11_31 Z)))
theorem sX11_283 (C : zCN E cX11_init RX11 2 Z h n0 c0 368 32691) (hh : 1 ≤ h) (hc : c0 = 344) (kk : zNN E 2 Z n0 Q 288 [(0, .ref (zad Z 60 0))] [] (zDu (eX11_32 Z D) 60 0 (.inr (11, fX11_32 Z))) 343 32198) : zNN E 2 Z n0 Q 283 [(0, .ref (zad Z 60 0))] [] (zDu (eX11_31 Z D) 60 0 (.inr (11, fX11_31 Z))) 343 32198 := by
  subst hc
  refine zn_aload_n C dX11_init_283 rfl ?_
  refine zn_iconst C dX11_init_284 (v := (-1)) (by decide) ?_
  refine zn_put C 43 zin_X11 rfl (Nat.le_of_ble_eq_true rfl) rfl tyX11_ok nmX11 rfl (ty := tyX11 43) (by decide +kernel) wq_1141 dX11_init_285 (zDu_i _ _ _ _) (Nat.le_of_ble_eq_true rfl) rfl rfl ?_
  exact kk
def fX11_33 (Z : zLay) : List Value := [.int 0, .int 0, .ref (zad Z 61 0), .ref (zad Z 63 0), .ref (zad Z 64 0), .ref (zad Z 65 0), .ref (zad Z 66 0), .ref (zad Z 67 0), .ref (zad Z 68 0), .ref (zad Z 69 0), .ref (zad Z 70 0), .ref (zad Z 71 0), .int 0, .ref (zad Z 73 0), .ref (zad Z 74 0), .ref (zad Z 75 0), .ref (zad Z 76 0), .ref (zad Z 77 0), .ref (zad Z 78 0), .int 0, .int 0, .ref (zad Z 79 0), .ref (zad Z 81 0), .ref (zad Z 83 0), .ref (zad Z 85 0), .int 0, .ref (zad Z 87 0), .ref (zad Z 88 0), .ref (zad Z 89 0), .ref (zad Z 90 0), .int 0, .ref (zad Z 91 0), .int 0, .ref (zad Z 93 0), .ref (zad Z 94 0), .ref (zad Z 95 0), .ref (zad Z 96 0), .ref (zad Z 98 0), .ref (zad Z 100 0), .int 0, .int 0, .int 0, .int 0, .int (-1), .int 0, .int 0, .int 0, .ref (zad Z 101 0), .null, .null, .int 0, .int 0, .null, .null, .null, .null, .null, .int 0, .int 0, .int 0, .int 0, .null, .null, .null, .null, .null, .null, .null]
def eX11_33 (Z : zLay) (D : zDm) : zDm := (zDu (zDu (eX11_32 Z D) 60 0 (.inr (11, fX11_32 Z))) 101 0 (.inl (zca Z 0, 10, .inl fun _ => 0)))
theorem sX11_288 (C : zCN E cX11_init RX11 2 Z h n0 c0 368 32691) (hh : 1 ≤ h) (hc : c0 = 344) (kk : zNN E 2 Z n0 Q 296 [(0, .ref (zad Z 60 0))] [] (zDu (eX11_33 Z D) 60 0 (.inr (11, fX11_33 Z))) 344 32208) : zNN E 2 Z n0 Q 288 [(0, .ref (zad Z 60 0))] [] (zDu (eX11_32 Z D) 60 0 (.inr (11, fX11_32 Z))) 343 32198 := by
  subst hc
  refine zn_aload_n C dX11_init_288 rfl ?_
  refine zn_bipush C dX11_init_289 (v := 10) (by decide) ?_
  refine zn_newa C (atype := .int) (k := 101) (i := 0) (t0 := 0) (N := 10) (a0 := (10, .inl fun _ => 0)) wq_61 rfl dX11_init_291 (by decide) (by decide) (by decide) (fun _ => rfl) (by decide) rfl (by omega) (by omega) ?_
  refine zn_putF C (by decide +kernel) 47 zin_X11 rfl (Nat.le_of_ble_eq_true rfl) rfl rfl tyX11_ok nmX11 rfl (ty := tyX11 47) (by decide +kernel) wq_1145 dX11_init_293 (zDu_o (by decide) (zDu_i _ _ _ _)) (Nat.le_of_ble_eq_true rfl) rfl rfl ?_
  exact kk
def fX11_34 (Z : zLay) : List Value := [.int 0, .int 0, .ref (zad Z 61 0), .ref (zad Z 63 0), .ref (zad Z 64 0), .ref (zad Z 65 0), .ref (zad Z 66 0), .ref (zad Z 67 0), .ref (zad Z 68 0), .ref (zad Z 69 0), .ref (zad Z 70 0), .ref (zad Z 71 0), .int 0, .ref (zad Z 73 0), .ref (zad Z 74 0), .ref (zad Z 75 0), .ref (zad Z 76 0), .ref (zad Z 77 0), .ref (zad Z 78 0), .int 0, .int 0, .ref (zad Z 79 0), .ref (zad Z 81 0), .ref (zad Z 83 0), .ref (zad Z 85 0), .int 0, .ref (zad Z 87 0), .ref (zad Z 88 0), .ref (zad Z 89 0), .ref (zad Z 90 0), .int 0, .ref (zad Z 91 0), .int 0, .ref (zad Z 93 0), .ref (zad Z 94 0), .ref (zad Z 95 0), .ref (zad Z 96 0), .ref (zad Z 98 0), .ref (zad Z 100 0), .int 0, .int 0, .int 0, .int 0, .int (-1), .int 0, .int 0, .int 0, .ref (zad Z 101 0), .ref (zad Z 102 0), .null, .int 0, .int 0, .null, .null, .null, .null, .null, .int 0, .int 0, .int 0, .int 0, .null, .null, .null, .null, .null, .null, .null]
def eX11_34 (Z : zLay) (D : zDm) : zDm := (zDu (zDu (eX11_33 Z D) 60 0 (.inr (11, fX11_33 Z))) 102 0 (.inl (zca Z 0, 10, .inl fun _ => 0)))
theorem sX11_296 (C : zCN E cX11_init RX11 2 Z h n0 c0 368 32691) (hh : 1 ≤ h) (hc : c0 = 344) (kk : zNN E 2 Z n0 Q 304 [(0, .ref (zad Z 60 0))] [] (zDu (eX11_34 Z D) 60 0 (.inr (11, fX11_34 Z))) 345 32218) : zNN E 2 Z n0 Q 296 [(0, .ref (zad Z 60 0))] [] (zDu (eX11_33 Z D) 60 0 (.inr (11, fX11_33 Z))) 344 32208 := by
  subst hc
  refine zn_aload_n C dX11_init_296 rfl ?_
  refine zn_bipush C dX11_init_297 (v := 10) (by decide) ?_
  refine zn_newa C (atype := .int) (k := 102) (i := 0) (t0 := 0) (N := 10) (a0 := (10, .inl fun _ => 0)) wq_61 rfl dX11_init_299 (by decide) (by decide) (by decide) (fun _ => rfl) (by decide) rfl (by omega) (by omega) ?_
  refine zn_putF C (by decide +kernel) 48 zin_X11 rfl (Nat.le_of_ble_eq_true rfl) rfl rfl tyX11_ok nmX11 rfl (ty := tyX11 48) (by decide +kernel) wq_1146 dX11_init_301 (zDu_o (by decide) (zDu_i _ _ _ _)) (Nat.le_of_ble_eq_true rfl) rfl rfl ?_
  exact kk
def fX11_35 (Z : zLay) : List Value := [.int 0, .int 0, .ref (zad Z 61 0), .ref (zad Z 63 0), .ref (zad Z 64 0), .ref (zad Z 65 0), .ref (zad Z 66 0), .ref (zad Z 67 0), .ref (zad Z 68 0), .ref (zad Z 69 0), .ref (zad Z 70 0), .ref (zad Z 71 0), .int 0, .ref (zad Z 73 0), .ref (zad Z 74 0), .ref (zad Z 75 0), .ref (zad Z 76 0), .ref (zad Z 77 0), .ref (zad Z 78 0), .int 0, .int 0, .ref (zad Z 79 0), .ref (zad Z 81 0), .ref (zad Z 83 0), .ref (zad Z 85 0), .int 0, .ref (zad Z 87 0), .ref (zad Z 88 0), .ref (zad Z 89 0), .ref (zad Z 90 0), .int 0, .ref (zad Z 91 0), .int 0, .ref (zad Z 93 0), .ref (zad Z 94 0), .ref (zad Z 95 0), .ref (zad Z 96 0), .ref (zad Z 98 0), .ref (zad Z 100 0), .int 0, .int 0, .int 0, .int 0, .int (-1), .int 0, .int 0, .int 0, .ref (zad Z 101 0), .ref (zad Z 102 0), .ref (zad Z 103 0), .int 0, .int 0, .null, .null, .null, .null, .null, .int 0, .int 0, .int 0, .int 0, .null, .null, .null, .null, .null, .null, .null]
def eX11_35 (Z : zLay) (D : zDm) : zDm := (zDu (zDu (zDu (zDu (zDu (eX11_34 Z D) 60 0 (.inr (11, fX11_34 Z))) 103 0 (.inl (zca Z 0, 3, .inl fun _ => 0))) 103 0 (.inl (zca Z 0, 3, .inl (fun j => if j = (0 : Int32).toNatClampNeg then (-1) else 0)))) 103 0 (.inl (zca Z 0, 3, .inl (fun j => if j = (1 : Int32).toNatClampNeg then (-1) else (fun j => if j = (0 : Int32).toNatClampNeg then (-1) else 0) j)))) 103 0 (.inl (zca Z 0, 3, .inl (fun j => if j = (2 : Int32).toNatClampNeg then (-1) else (fun j => if j = (1 : Int32).toNatClampNeg then (-1) else (fun j => if j = (0 : Int32).toNatClampNeg then (-1) else 0) j) j))))
theorem sX11_304 (C : zCN E cX11_init RX11 2 Z h n0 c0 368 32691) (hh : 1 ≤ h) (hc : c0 = 344) (kk : zNN E 2 Z n0 Q 323 [(0, .ref (zad Z 60 0))] [] (zDu (eX11_35 Z D) 60 0 (.inr (11, fX11_35 Z))) 346 32221) : zNN E 2 Z n0 Q 304 [(0, .ref (zad Z 60 0))] [] (zDu (eX11_34 Z D) 60 0 (.inr (11, fX11_34 Z))) 345 32218 := by
  subst hc
  refine zn_aload_n C dX11_init_304 rfl ?_
  refine zn_iconst C dX11_init_305 (v := 3) (by decide) ?_
  refine zn_newa C (atype := .int) (k := 103) (i := 0) (t0 := 0) (N := 3) (a0 := (3, .inl fun _ => 0)) wq_61 rfl dX11_init_306 (by decide) (by decide) (by decide) (fun _ => rfl) (by decide) rfl (by omega) (by omega) ?_
  refine zn_dup C dX11_init_308 rfl ?_
  refine zn_iconst C dX11_init_309 (v := 0) (by decide) ?_
  refine zn_iconst C dX11_init_310 (v := (-1)) (by decide) ?_
  refine zn_iast C (k := 103) (i := 0) (zDu_i _ _ _ _) (by decide) (by decide) dX11_init_311 ?_
  refine zn_dup C dX11_init_312 rfl ?_
  refine zn_iconst C dX11_init_313 (v := 1) (by decide) ?_
  refine zn_iconst C dX11_init_314 (v := (-1)) (by decide) ?_
  refine zn_iast C (k := 103) (i := 0) (zDu_i _ _ _ _) (by decide) (by decide) dX11_init_315 ?_
  refine zn_dup C dX11_init_316 rfl ?_
  refine zn_iconst C dX11_init_317 (v := 2) (by decide) ?_
  refine zn_iconst C dX11_init_318 (v := (-1)) (by decide) ?_
  refine zn_iast C (k := 103) (i := 0) (zDu_i _ _ _ _) (by decide) (by decide) dX11_init_319 ?_
  refine zn_putF C (by decide +kernel) 49 zin_X11 rfl (Nat.le_of_ble_eq_true rfl) rfl rfl tyX11_ok nmX11 rfl (ty := tyX11 49) (by decide +kernel) wq_1147 dX11_init_320 (zDu_o (by decide) (zDu_o (by decide) (zDu_o (by decide) (zDu_o (by decide) (zDu_i _ _ _ _))))) (Nat.le_of_ble_eq_true rfl) rfl rfl ?_
  exact kk
def fX11_36 (Z : zLay) : List Value := [.int 0, .int 0, .ref (zad Z 61 0), .ref (zad Z 63 0), .ref (zad Z 64 0), .ref (zad Z 65 0), .ref (zad Z 66 0), .ref (zad Z 67 0), .ref (zad Z 68 0), .ref (zad Z 69 0), .ref (zad Z 70 0), .ref (zad Z 71 0), .int 0, .ref (zad Z 73 0), .ref (zad Z 74 0), .ref (zad Z 75 0), .ref (zad Z 76 0), .ref (zad Z 77 0), .ref (zad Z 78 0), .int 0, .int 0, .ref (zad Z 79 0), .ref (zad Z 81 0), .ref (zad Z 83 0), .ref (zad Z 85 0), .int 0, .ref (zad Z 87 0), .ref (zad Z 88 0), .ref (zad Z 89 0), .ref (zad Z 90 0), .int 0, .ref (zad Z 91 0), .int 0, .ref (zad Z 93 0), .ref (zad Z 94 0), .ref (zad Z 95 0), .ref (zad Z 96 0), .ref (zad Z 98 0), .ref (zad Z 100 0), .int 0, .int 0, .int 0, .int 0, .int (-1), .int 0, .int 0, .int 0, .ref (zad Z 101 0), .ref (zad Z 102 0), .ref (zad Z 103 0), .int 0, .int (-1), .null, .null, .null, .null, .null, .int 0, .int 0, .int 0, .int 0, .null, .null, .null, .null, .null, .null, .null]
def eX11_36 (Z : zLay) (D : zDm) : zDm := (zDu (eX11_35 Z D) 60 0 (.inr (11, fX11_35 Z)))
theorem sX11_323 (C : zCN E cX11_init RX11 2 Z h n0 c0 368 32691) (hh : 1 ≤ h) (hc : c0 = 344) (kk : zNN E 2 Z n0 Q 328 [(0, .ref (zad Z 60 0))] [] (zDu (eX11_36 Z D) 60 0 (.inr (11, fX11_36 Z))) 346 32221) : zNN E 2 Z n0 Q 323 [(0, .ref (zad Z 60 0))] [] (zDu (eX11_35 Z D) 60 0 (.inr (11, fX11_35 Z))) 346 32221 := by
  subst hc
  refine zn_aload_n C dX11_init_323 rfl ?_
  refine zn_iconst C dX11_init_324 (v := (-1)) (by decide) ?_
  refine zn_put C 51 zin_X11 rfl (Nat.le_of_ble_eq_true rfl) rfl tyX11_ok nmX11 rfl (ty := tyX11 51) (by decide +kernel) wq_1149 dX11_init_325 (zDu_i _ _ _ _) (Nat.le_of_ble_eq_true rfl) rfl rfl ?_
  exact kk
def fX11_37 (Z : zLay) : List Value := [.int 0, .int 0, .ref (zad Z 61 0), .ref (zad Z 63 0), .ref (zad Z 64 0), .ref (zad Z 65 0), .ref (zad Z 66 0), .ref (zad Z 67 0), .ref (zad Z 68 0), .ref (zad Z 69 0), .ref (zad Z 70 0), .ref (zad Z 71 0), .int 0, .ref (zad Z 73 0), .ref (zad Z 74 0), .ref (zad Z 75 0), .ref (zad Z 76 0), .ref (zad Z 77 0), .ref (zad Z 78 0), .int 0, .int 0, .ref (zad Z 79 0), .ref (zad Z 81 0), .ref (zad Z 83 0), .ref (zad Z 85 0), .int 0, .ref (zad Z 87 0), .ref (zad Z 88 0), .ref (zad Z 89 0), .ref (zad Z 90 0), .int 0, .ref (zad Z 91 0), .int 0, .ref (zad Z 93 0), .ref (zad Z 94 0), .ref (zad Z 95 0), .ref (zad Z 96 0), .ref (zad Z 98 0), .ref (zad Z 100 0), .int 0, .int 0, .int 0, .int 0, .int (-1), .int 0, .int 0, .int 0, .ref (zad Z 101 0), .ref (zad Z 102 0), .ref (zad Z 103 0), .int 0, .int (-1), .ref (zad Z 104 0), .null, .null, .null, .null, .int 0, .int 0, .int 0, .int 0, .null, .null, .null, .null, .null, .null, .null]
def eX11_37 (Z : zLay) (D : zDm) : zDm := (zDu (zDu (zDu (zDu (zDu (eX11_36 Z D) 60 0 (.inr (11, fX11_36 Z))) 104 0 (.inl (zca Z 0, 3, .inl fun _ => 0))) 104 0 (.inl (zca Z 0, 3, .inl (fun j => if j = (0 : Int32).toNatClampNeg then (-1) else 0)))) 104 0 (.inl (zca Z 0, 3, .inl (fun j => if j = (1 : Int32).toNatClampNeg then (-1) else (fun j => if j = (0 : Int32).toNatClampNeg then (-1) else 0) j)))) 104 0 (.inl (zca Z 0, 3, .inl (fun j => if j = (2 : Int32).toNatClampNeg then (-1) else (fun j => if j = (1 : Int32).toNatClampNeg then (-1) else (fun j => if j = (0 : Int32).toNatClampNeg then (-1) else 0) j) j))))
theorem sX11_328 (C : zCN E cX11_init RX11 2 Z h n0 c0 368 32691) (hh : 1 ≤ h) (hc : c0 = 344) (kk : zNN E 2 Z n0 Q 347 [(0, .ref (zad Z 60 0))] [] (zDu (eX11_37 Z D) 60 0 (.inr (11, fX11_37 Z))) 347 32224) : zNN E 2 Z n0 Q 328 [(0, .ref (zad Z 60 0))] [] (zDu (eX11_36 Z D) 60 0 (.inr (11, fX11_36 Z))) 346 32221 := by
  subst hc
  refine zn_aload_n C dX11_init_328 rfl ?_
  refine zn_iconst C dX11_init_329 (v := 3) (by decide) ?_
  refine zn_newa C (atype := .int) (k := 104) (i := 0) (t0 := 0) (N := 3) (a0 := (3, .inl fun _ => 0)) wq_61 rfl dX11_init_330 (by decide) (by decide) (by decide) (fun _ => rfl) (by decide) rfl (by omega) (by omega) ?_
  refine zn_dup C dX11_init_332 rfl ?_
  refine zn_iconst C dX11_init_333 (v := 0) (by decide) ?_
  refine zn_iconst C dX11_init_334 (v := (-1)) (by decide) ?_
  refine zn_iast C (k := 104) (i := 0) (zDu_i _ _ _ _) (by decide) (by decide) dX11_init_335 ?_
  refine zn_dup C dX11_init_336 rfl ?_
  refine zn_iconst C dX11_init_337 (v := 1) (by decide) ?_
  refine zn_iconst C dX11_init_338 (v := (-1)) (by decide) ?_
  refine zn_iast C (k := 104) (i := 0) (zDu_i _ _ _ _) (by decide) (by decide) dX11_init_339 ?_
  refine zn_dup C dX11_init_340 rfl ?_
  refine zn_iconst C dX11_init_341 (v := 2) (by decide) ?_
  refine zn_iconst C dX11_init_342 (v := (-1)) (by decide) ?_
  refine zn_iast C (k := 104) (i := 0) (zDu_i _ _ _ _) (by decide) (by decide) dX11_init_343 ?_
  refine zn_putF C (by decide +kernel) 52 zin_X11 rfl (Nat.le_of_ble_eq_true rfl) rfl rfl tyX11_ok nmX11 rfl (ty := tyX11 52) (by decide +kernel) wq_1150 dX11_init_344 (zDu_o (by decide) (zDu_o (by decide) (zDu_o (by decide) (zDu_o (by decide) (zDu_i _ _ _ _))))) (Nat.le_of_ble_eq_true rfl) rfl rfl ?_
  exact kk
def fX11_38 (Z : zLay) : List Value := [.int 0, .int 0, .ref (zad Z 61 0), .ref (zad Z 63 0), .ref (zad Z 64 0), .ref (zad Z 65 0), .ref (zad Z 66 0), .ref (zad Z 67 0), .ref (zad Z 68 0), .ref (zad Z 69 0), .ref (zad Z 70 0), .ref (zad Z 71 0), .int 0, .ref (zad Z 73 0), .ref (zad Z 74 0), .ref (zad Z 75 0), .ref (zad Z 76 0), .ref (zad Z 77 0), .ref (zad Z 78 0), .int 0, .int 0, .ref (zad Z 79 0), .ref (zad Z 81 0), .ref (zad Z 83 0), .ref (zad Z 85 0), .int 0, .ref (zad Z 87 0), .ref (zad Z 88 0), .ref (zad Z 89 0), .ref (zad Z 90 0), .int 0, .ref (zad Z 91 0), .int 0, .ref (zad Z 93 0), .ref (zad Z 94 0), .ref (zad Z 95 0), .ref (zad Z 96 0), .ref (zad Z 98 0), .ref (zad Z 100 0), .int 0, .int 0, .int 0, .int 0, .int (-1), .int 0, .int 0, .int 0, .ref (zad Z 101 0), .ref (zad Z 102 0), .ref (zad Z 103 0), .int 0, .int (-1), .ref (zad Z 104 0), .ref (zad Z 105 0), .null, .null, .null, .int 0, .int 0, .int 0, .int 0, .null, .null, .null, .null, .null, .null, .null]
def eX11_38 (Z : zLay) (D : zDm) : zDm := (zDu (zDu (eX11_37 Z D) 60 0 (.inr (11, fX11_37 Z))) 105 0 (.inl (zca Z 0, 3, .inl fun _ => 0)))
theorem sX11_347 (C : zCN E cX11_init RX11 2 Z h n0 c0 368 32691) (hh : 1 ≤ h) (hc : c0 = 344) (kk : zNN E 2 Z n0 Q 354 [(0, .ref (zad Z 60 0))] [] (zDu (eX11_38 Z D) 60 0 (.inr (11, fX11_38 Z))) 348 32227) : zNN E 2 Z n0 Q 347 [(0, .ref (zad Z 60 0))] [] (zDu (eX11_37 Z D) 60 0 (.inr (11, fX11_37 Z))) 347 32224 := by
  subst hc
  refine zn_aload_n C dX11_init_347 rfl ?_
  refine zn_iconst C dX11_init_348 (v := 3) (by decide) ?_
  refine zn_newa C (atype := .int) (k := 105) (i := 0) (t0 := 0) (N := 3) (a0 := (3, .inl fun _ => 0)) wq_61 rfl dX11_init_349 (by decide) (by decide) (by decide) (fun _ => rfl) (by decide) rfl (by omega) (by omega) ?_
  refine zn_putF C (by decide +kernel) 53 zin_X11 rfl (Nat.le_of_ble_eq_true rfl) rfl rfl tyX11_ok nmX11 rfl (ty := tyX11 53) (by decide +kernel) wq_1151 dX11_init_351 (zDu_o (by decide) (zDu_i _ _ _ _)) (Nat.le_of_ble_eq_true rfl) rfl rfl ?_
  exact kk
def fX11_39 (Z : zLay) : List Value := [.int 0, .int 0, .ref (zad Z 61 0), .ref (zad Z 63 0), .ref (zad Z 64 0), .ref (zad Z 65 0), .ref (zad Z 66 0), .ref (zad Z 67 0), .ref (zad Z 68 0), .ref (zad Z 69 0), .ref (zad Z 70 0), .ref (zad Z 71 0), .int 0, .ref (zad Z 73 0), .ref (zad Z 74 0), .ref (zad Z 75 0), .ref (zad Z 76 0), .ref (zad Z 77 0), .ref (zad Z 78 0), .int 0, .int 0, .ref (zad Z 79 0), .ref (zad Z 81 0), .ref (zad Z 83 0), .ref (zad Z 85 0), .int 0, .ref (zad Z 87 0), .ref (zad Z 88 0), .ref (zad Z 89 0), .ref (zad Z 90 0), .int 0, .ref (zad Z 91 0), .int 0, .ref (zad Z 93 0), .ref (zad Z 94 0), .ref (zad Z 95 0), .ref (zad Z 96 0), .ref (zad Z 98 0), .ref (zad Z 100 0), .int 0, .int 0, .int 0, .int 0, .int (-1), .int 0, .int 0, .int 0, .ref (zad Z 101 0), .ref (zad Z 102 0), .ref (zad Z 103 0), .int 0, .int (-1), .ref (zad Z 104 0), .ref (zad Z 105 0), .ref (zad Z 106 0), .null, .null, .int 0, .int 0, .int 0, .int 0, .null, .null, .null, .null, .null, .null, .null]
def eX11_39 (Z : zLay) (D : zDm) : zDm := (zDr (zDu (zDu (eX11_38 Z D) 60 0 (.inr (11, fX11_38 Z))) 106 0 (.inl (zca Z 9, 3, .inr (.inr (.inr (.inr (fun i => if i < 3 then some (zad Z 107 i) else none))))))) 107 3 (.inl (zca Z 0, (60, .inl fun _ => 0))))
theorem sX11_354 (C : zCN E cX11_init RX11 2 Z h n0 c0 368 32691) (hh : 1 ≤ h) (hc : c0 = 344) (kk : zNN E 2 Z n0 Q 365 [(0, .ref (zad Z 60 0))] [] (zDu (eX11_39 Z D) 60 0 (.inr (11, fX11_39 Z))) 352 32410) : zNN E 2 Z n0 Q 354 [(0, .ref (zad Z 60 0))] [] (zDu (eX11_38 Z D) 60 0 (.inr (11, fX11_38 Z))) 348 32227 := by
  subst hc
  refine zn_aload_n C dX11_init_354 rfl ?_
  refine zn_iconst C dX11_init_355 (v := 3) (by decide) ?_
  refine zn_bipush C dX11_init_356 (v := 60) (by decide) ?_
  refine zn_mna C (ty := .int) (N := 3) (M := 60) (t0 := 9) (t1 := 0) (k := 106) (k1 := 107) (a0 := (60, .inl fun _ => 0)) wq_1095 (by unfold zOvL; simp) wq_61 rfl rfl (fun _ _ q => q) dX11_init_358 (by decide) (by decide) (by decide) (by decide) (by decide) (by decide) (by decide) rfl rfl (fun _ => rfl) (by decide) (by decide) rfl (fun j _ => by show 693 + 1 * j = 344 + 348 + 1 + j; omega) (by omega) (by omega) ?_
  refine zn_putF C (by decide +kernel) 54 zin_X11 rfl (Nat.le_of_ble_eq_true rfl) rfl rfl tyX11_ok nmX11 rfl (ty := tyX11 54) (by decide +kernel) wq_1152 dX11_init_362 (zDr_o (by decide) (zDu_o (by decide) (zDu_i _ _ _ _))) (Nat.le_of_ble_eq_true rfl) rfl rfl ?_
  exact kk
def fX11_40 (Z : zLay) : List Value := [.int 0, .int 0, .ref (zad Z 61 0), .ref (zad Z 63 0), .ref (zad Z 64 0), .ref (zad Z 65 0), .ref (zad Z 66 0), .ref (zad Z 67 0), .ref (zad Z 68 0), .ref (zad Z 69 0), .ref (zad Z 70 0), .ref (zad Z 71 0), .int 0, .ref (zad Z 73 0), .ref (zad Z 74 0), .ref (zad Z 75 0), .ref (zad Z 76 0), .ref (zad Z 77 0), .ref (zad Z 78 0), .int 0, .int 0, .ref (zad Z 79 0), .ref (zad Z 81 0), .ref (zad Z 83 0), .ref (zad Z 85 0), .int 0, .ref (zad Z 87 0), .ref (zad Z 88 0), .ref (zad Z 89 0), .ref (zad Z 90 0), .int 0, .ref (zad Z 91 0), .int 0, .ref (zad Z 93 0), .ref (zad Z 94 0), .ref (zad Z 95 0), .ref (zad Z 96 0), .ref (zad Z 98 0), .ref (zad Z 100 0), .int 0, .int 0, .int 0, .int 0, .int (-1), .int 0, .int 0, .int 0, .ref (zad Z 101 0), .ref (zad Z 102 0), .ref (zad Z 103 0), .int 0, .int (-1), .ref (zad Z 104 0), .ref (zad Z 105 0), .ref (zad Z 106 0), .ref (zad Z 108 0), .null, .int 0, .int 0, .int 0, .int 0, .null, .null, .null, .null, .null, .null, .null]
def eX11_40 (Z : zLay) (D : zDm) : zDm := (zDr (zDu (zDu (eX11_39 Z D) 60 0 (.inr (11, fX11_39 Z))) 108 0 (.inl (zca Z 11, 3, .inr (.inr (.inr (.inr (fun i => if i < 3 then some (zad Z 109 i) else none))))))) 109 3 (.inl (zca Z 4, (60, .inl fun _ => 0))))
theorem sX11_365 (C : zCN E cX11_init RX11 2 Z h n0 c0 368 32691) (hh : 1 ≤ h) (hc : c0 = 344) (kk : zNN E 2 Z n0 Q 376 [(0, .ref (zad Z 60 0))] [] (zDu (eX11_40 Z D) 60 0 (.inr (11, fX11_40 Z))) 356 32593) : zNN E 2 Z n0 Q 365 [(0, .ref (zad Z 60 0))] [] (zDu (eX11_39 Z D) 60 0 (.inr (11, fX11_39 Z))) 352 32410 := by
  subst hc
  refine zn_aload_n C dX11_init_365 rfl ?_
  refine zn_iconst C dX11_init_366 (v := 3) (by decide) ?_
  refine zn_bipush C dX11_init_367 (v := 60) (by decide) ?_
  refine zn_mna C (ty := .boolean) (N := 3) (M := 60) (t0 := 11) (t1 := 4) (k := 108) (k1 := 109) (a0 := (60, .inl fun _ => 0)) wq_1096 (by unfold zOvL; simp) wq_124 rfl rfl (fun _ _ q => q) dX11_init_369 (by decide) (by decide) (by decide) (by decide) (by decide) (by decide) (by decide) rfl rfl (fun _ => rfl) (by decide) (by decide) rfl (fun j _ => by show 697 + 1 * j = 344 + 352 + 1 + j; omega) (by omega) (by omega) ?_
  refine zn_putF C (by decide +kernel) 55 zin_X11 rfl (Nat.le_of_ble_eq_true rfl) rfl rfl tyX11_ok nmX11 rfl (ty := tyX11 55) (by decide +kernel) wq_1153 dX11_init_373 (zDr_o (by decide) (zDu_o (by decide) (zDu_i _ _ _ _))) (Nat.le_of_ble_eq_true rfl) rfl rfl ?_
  exact kk
def fX11_41 (Z : zLay) : List Value := [.int 0, .int 0, .ref (zad Z 61 0), .ref (zad Z 63 0), .ref (zad Z 64 0), .ref (zad Z 65 0), .ref (zad Z 66 0), .ref (zad Z 67 0), .ref (zad Z 68 0), .ref (zad Z 69 0), .ref (zad Z 70 0), .ref (zad Z 71 0), .int 0, .ref (zad Z 73 0), .ref (zad Z 74 0), .ref (zad Z 75 0), .ref (zad Z 76 0), .ref (zad Z 77 0), .ref (zad Z 78 0), .int 0, .int 0, .ref (zad Z 79 0), .ref (zad Z 81 0), .ref (zad Z 83 0), .ref (zad Z 85 0), .int 0, .ref (zad Z 87 0), .ref (zad Z 88 0), .ref (zad Z 89 0), .ref (zad Z 90 0), .int 0, .ref (zad Z 91 0), .int 0, .ref (zad Z 93 0), .ref (zad Z 94 0), .ref (zad Z 95 0), .ref (zad Z 96 0), .ref (zad Z 98 0), .ref (zad Z 100 0), .int 0, .int 0, .int 0, .int 0, .int (-1), .int 0, .int 0, .int 0, .ref (zad Z 101 0), .ref (zad Z 102 0), .ref (zad Z 103 0), .int 0, .int (-1), .ref (zad Z 104 0), .ref (zad Z 105 0), .ref (zad Z 106 0), .ref (zad Z 108 0), .ref (zad Z 110 0), .int 0, .int 0, .int 0, .int 0, .null, .null, .null, .null, .null, .null, .null]
def eX11_41 (Z : zLay) (D : zDm) : zDm := (zDu (zDu (eX11_40 Z D) 60 0 (.inr (11, fX11_40 Z))) 110 0 (.inl (zca Z 0, 20, .inl fun _ => 0)))
theorem sX11_376 (C : zCN E cX11_init RX11 2 Z h n0 c0 368 32691) (hh : 1 ≤ h) (hc : c0 = 344) (kk : zNN E 2 Z n0 Q 384 [(0, .ref (zad Z 60 0))] [] (zDu (eX11_41 Z D) 60 0 (.inr (11, fX11_41 Z))) 357 32613) : zNN E 2 Z n0 Q 376 [(0, .ref (zad Z 60 0))] [] (zDu (eX11_40 Z D) 60 0 (.inr (11, fX11_40 Z))) 356 32593 := by
  subst hc
  refine zn_aload_n C dX11_init_376 rfl ?_
  refine zn_bipush C dX11_init_377 (v := 20) (by decide) ?_
  refine zn_newa C (atype := .int) (k := 110) (i := 0) (t0 := 0) (N := 20) (a0 := (20, .inl fun _ => 0)) wq_61 rfl dX11_init_379 (by decide) (by decide) (by decide) (fun _ => rfl) (by decide) rfl (by omega) (by omega) ?_
  refine zn_putF C (by decide +kernel) 56 zin_X11 rfl (Nat.le_of_ble_eq_true rfl) rfl rfl tyX11_ok nmX11 rfl (ty := tyX11 56) (by decide +kernel) wq_1154 dX11_init_381 (zDu_o (by decide) (zDu_i _ _ _ _)) (Nat.le_of_ble_eq_true rfl) rfl rfl ?_
  exact kk
def fX11_42 (Z : zLay) : List Value := [.int 0, .int 0, .ref (zad Z 61 0), .ref (zad Z 63 0), .ref (zad Z 64 0), .ref (zad Z 65 0), .ref (zad Z 66 0), .ref (zad Z 67 0), .ref (zad Z 68 0), .ref (zad Z 69 0), .ref (zad Z 70 0), .ref (zad Z 71 0), .int 0, .ref (zad Z 73 0), .ref (zad Z 74 0), .ref (zad Z 75 0), .ref (zad Z 76 0), .ref (zad Z 77 0), .ref (zad Z 78 0), .int 0, .int 0, .ref (zad Z 79 0), .ref (zad Z 81 0), .ref (zad Z 83 0), .ref (zad Z 85 0), .int 0, .ref (zad Z 87 0), .ref (zad Z 88 0), .ref (zad Z 89 0), .ref (zad Z 90 0), .int 0, .ref (zad Z 91 0), .int 0, .ref (zad Z 93 0), .ref (zad Z 94 0), .ref (zad Z 95 0), .ref (zad Z 96 0), .ref (zad Z 98 0), .ref (zad Z 100 0), .int 0, .int 0, .int 0, .int 0, .int (-1), .int 0, .int 0, .int 0, .ref (zad Z 101 0), .ref (zad Z 102 0), .ref (zad Z 103 0), .int 0, .int (-1), .ref (zad Z 104 0), .ref (zad Z 105 0), .ref (zad Z 106 0), .ref (zad Z 108 0), .ref (zad Z 110 0), .int 0, .int 0, .int 0, .int 0, .ref (zad Z 111 0), .null, .null, .null, .null, .null, .null]
def eX11_42 (Z : zLay) (D : zDm) : zDm := (zDu (zDu (eX11_41 Z D) 60 0 (.inr (11, fX11_41 Z))) 111 0 (.inl (zca Z 0, 6, .inl fun _ => 0)))
theorem sX11_384 (C : zCN E cX11_init RX11 2 Z h n0 c0 368 32691) (hh : 1 ≤ h) (hc : c0 = 344) (kk : zNN E 2 Z n0 Q 392 [(0, .ref (zad Z 60 0))] [] (zDu (eX11_42 Z D) 60 0 (.inr (11, fX11_42 Z))) 358 32619) : zNN E 2 Z n0 Q 384 [(0, .ref (zad Z 60 0))] [] (zDu (eX11_41 Z D) 60 0 (.inr (11, fX11_41 Z))) 357 32613 := by
  subst hc
  refine zn_aload_n C dX11_init_384 rfl ?_
  refine zn_bipush C dX11_init_385 (v := 6) (by decide) ?_
  refine zn_newa C (atype := .int) (k := 111) (i := 0) (t0 := 0) (N := 6) (a0 := (6, .inl fun _ => 0)) wq_61 rfl dX11_init_387 (by decide) (by decide) (by decide) (fun _ => rfl) (by decide) rfl (by omega) (by omega) ?_
  refine zn_putF C (by decide +kernel) 61 zin_X11 rfl (Nat.le_of_ble_eq_true rfl) rfl rfl tyX11_ok nmX11 rfl (ty := tyX11 61) (by decide +kernel) wq_1159 dX11_init_389 (zDu_o (by decide) (zDu_i _ _ _ _)) (Nat.le_of_ble_eq_true rfl) rfl rfl ?_
  exact kk
def fX11_43 (Z : zLay) : List Value := [.int 0, .int 0, .ref (zad Z 61 0), .ref (zad Z 63 0), .ref (zad Z 64 0), .ref (zad Z 65 0), .ref (zad Z 66 0), .ref (zad Z 67 0), .ref (zad Z 68 0), .ref (zad Z 69 0), .ref (zad Z 70 0), .ref (zad Z 71 0), .int 0, .ref (zad Z 73 0), .ref (zad Z 74 0), .ref (zad Z 75 0), .ref (zad Z 76 0), .ref (zad Z 77 0), .ref (zad Z 78 0), .int 0, .int 0, .ref (zad Z 79 0), .ref (zad Z 81 0), .ref (zad Z 83 0), .ref (zad Z 85 0), .int 0, .ref (zad Z 87 0), .ref (zad Z 88 0), .ref (zad Z 89 0), .ref (zad Z 90 0), .int 0, .ref (zad Z 91 0), .int 0, .ref (zad Z 93 0), .ref (zad Z 94 0), .ref (zad Z 95 0), .ref (zad Z 96 0), .ref (zad Z 98 0), .ref (zad Z 100 0), .int 0, .int 0, .int 0, .int 0, .int (-1), .int 0, .int 0, .int 0, .ref (zad Z 101 0), .ref (zad Z 102 0), .ref (zad Z 103 0), .int 0, .int (-1), .ref (zad Z 104 0), .ref (zad Z 105 0), .ref (zad Z 106 0), .ref (zad Z 108 0), .ref (zad Z 110 0), .int 0, .int 0, .int 0, .int 0, .ref (zad Z 111 0), .ref (zad Z 112 0), .null, .null, .null, .null, .null]
def eX11_43 (Z : zLay) (D : zDm) : zDm := (zDu (zDu (eX11_42 Z D) 60 0 (.inr (11, fX11_42 Z))) 112 0 (.inl (zca Z 0, 10, .inl fun _ => 0)))
theorem sX11_392 (C : zCN E cX11_init RX11 2 Z h n0 c0 368 32691) (hh : 1 ≤ h) (hc : c0 = 344) (kk : zNN E 2 Z n0 Q 400 [(0, .ref (zad Z 60 0))] [] (zDu (eX11_43 Z D) 60 0 (.inr (11, fX11_43 Z))) 359 32629) : zNN E 2 Z n0 Q 392 [(0, .ref (zad Z 60 0))] [] (zDu (eX11_42 Z D) 60 0 (.inr (11, fX11_42 Z))) 358 32619 := by
  subst hc
  refine zn_aload_n C dX11_init_392 rfl ?_
  refine zn_bipush C dX11_init_393 (v := 10) (by decide) ?_
  refine zn_newa C (atype := .int) (k := 112) (i := 0) (t0 := 0) (N := 10) (a0 := (10, .inl fun _ => 0)) wq_61 rfl dX11_init_395 (by decide) (by decide) (by decide) (fun _ => rfl) (by decide) rfl (by omega) (by omega) ?_
  refine zn_putF C (by decide +kernel) 62 zin_X11 rfl (Nat.le_of_ble_eq_true rfl) rfl rfl tyX11_ok nmX11 rfl (ty := tyX11 62) (by decide +kernel) wq_1160 dX11_init_397 (zDu_o (by decide) (zDu_i _ _ _ _)) (Nat.le_of_ble_eq_true rfl) rfl rfl ?_
  exact kk
def fX11_44 (Z : zLay) : List Value := [.int 0, .int 0, .ref (zad Z 61 0), .ref (zad Z 63 0), .ref (zad Z 64 0), .ref (zad Z 65 0), .ref (zad Z 66 0), .ref (zad Z 67 0), .ref (zad Z 68 0), .ref (zad Z 69 0), .ref (zad Z 70 0), .ref (zad Z 71 0), .int 0, .ref (zad Z 73 0), .ref (zad Z 74 0), .ref (zad Z 75 0), .ref (zad Z 76 0), .ref (zad Z 77 0), .ref (zad Z 78 0), .int 0, .int 0, .ref (zad Z 79 0), .ref (zad Z 81 0), .ref (zad Z 83 0), .ref (zad Z 85 0), .int 0, .ref (zad Z 87 0), .ref (zad Z 88 0), .ref (zad Z 89 0), .ref (zad Z 90 0), .int 0, .ref (zad Z 91 0), .int 0, .ref (zad Z 93 0), .ref (zad Z 94 0), .ref (zad Z 95 0), .ref (zad Z 96 0), .ref (zad Z 98 0), .ref (zad Z 100 0), .int 0, .int 0, .int 0, .int 0, .int (-1), .int 0, .int 0, .int 0, .ref (zad Z 101 0), .ref (zad Z 102 0), .ref (zad Z 103 0), .int 0, .int (-1), .ref (zad Z 104 0), .ref (zad Z 105 0), .ref (zad Z 106 0), .ref (zad Z 108 0), .ref (zad Z 110 0), .int 0, .int 0, .int 0, .int 0, .ref (zad Z 111 0), .ref (zad Z 112 0), .ref (zad Z 113 0), .null, .null, .null, .null]
def eX11_44 (Z : zLay) (D : zDm) : zDm := (zDu (zDu (eX11_43 Z D) 60 0 (.inr (11, fX11_43 Z))) 113 0 (.inl (zca Z 0, 4, .inl fun _ => 0)))
theorem sX11_400 (C : zCN E cX11_init RX11 2 Z h n0 c0 368 32691) (hh : 1 ≤ h) (hc : c0 = 344) (kk : zNN E 2 Z n0 Q 407 [(0, .ref (zad Z 60 0))] [] (zDu (eX11_44 Z D) 60 0 (.inr (11, fX11_44 Z))) 360 32633) : zNN E 2 Z n0 Q 400 [(0, .ref (zad Z 60 0))] [] (zDu (eX11_43 Z D) 60 0 (.inr (11, fX11_43 Z))) 359 32629 := by
  subst hc
  refine zn_aload_n C dX11_init_400 rfl ?_
  refine zn_iconst C dX11_init_401 (v := 4) (by decide) ?_
  refine zn_newa C (atype := .int) (k := 113) (i := 0) (t0 := 0) (N := 4) (a0 := (4, .inl fun _ => 0)) wq_61 rfl dX11_init_402 (by decide) (by decide) (by decide) (fun _ => rfl) (by decide) rfl (by omega) (by omega) ?_
  refine zn_putF C (by decide +kernel) 63 zin_X11 rfl (Nat.le_of_ble_eq_true rfl) rfl rfl tyX11_ok nmX11 rfl (ty := tyX11 63) (by decide +kernel) wq_1161 dX11_init_404 (zDu_o (by decide) (zDu_i _ _ _ _)) (Nat.le_of_ble_eq_true rfl) rfl rfl ?_
  exact kk
def fX11_45 (Z : zLay) : List Value := [.int 0, .int 0, .ref (zad Z 61 0), .ref (zad Z 63 0), .ref (zad Z 64 0), .ref (zad Z 65 0), .ref (zad Z 66 0), .ref (zad Z 67 0), .ref (zad Z 68 0), .ref (zad Z 69 0), .ref (zad Z 70 0), .ref (zad Z 71 0), .int 0, .ref (zad Z 73 0), .ref (zad Z 74 0), .ref (zad Z 75 0), .ref (zad Z 76 0), .ref (zad Z 77 0), .ref (zad Z 78 0), .int 0, .int 0, .ref (zad Z 79 0), .ref (zad Z 81 0), .ref (zad Z 83 0), .ref (zad Z 85 0), .int 0, .ref (zad Z 87 0), .ref (zad Z 88 0), .ref (zad Z 89 0), .ref (zad Z 90 0), .int 0, .ref (zad Z 91 0), .int 0, .ref (zad Z 93 0), .ref (zad Z 94 0), .ref (zad Z 95 0), .ref (zad Z 96 0), .ref (zad Z 98 0), .ref (zad Z 100 0), .int 0, .int 0, .int 0, .int 0, .int (-1), .int 0, .int 0, .int 0, .ref (zad Z 101 0), .ref (zad Z 102 0), .ref (zad Z 103 0), .int 0, .int (-1), .ref (zad Z 104 0), .ref (zad Z 105 0), .ref (zad Z 106 0), .ref (zad Z 108 0), .ref (zad Z 110 0), .int 0, .int 0, .int 0, .int 0, .ref (zad Z 111 0), .ref (zad Z 112 0), .ref (zad Z 113 0), .ref (zad Z 114 0), .null, .null, .null]
def eX11_45 (Z : zLay) (D : zDm) : zDm := (zDu (zDu (eX11_44 Z D) 60 0 (.inr (11, fX11_44 Z))) 114 0 (.inl (zca Z 0, 4, .inl fun _ => 0)))
theorem sX11_407 (C : zCN E cX11_init RX11 2 Z h n0 c0 368 32691) (hh : 1 ≤ h) (hc : c0 = 344) (kk : zNN E 2 Z n0 Q 414 [(0, .ref (zad Z 60 0))] [] (zDu (eX11_45 Z D) 60 0 (.inr (11, fX11_45 Z))) 361 32637) : zNN E 2 Z n0 Q 407 [(0, .ref (zad Z 60 0))] [] (zDu (eX11_44 Z D) 60 0 (.inr (11, fX11_44 Z))) 360 32633 := by
  subst hc
  refine zn_aload_n C dX11_init_407 rfl ?_
  refine zn_iconst C dX11_init_408 (v := 4) (by decide) ?_
  refine zn_newa C (atype := .int) (k := 114) (i := 0) (t0 := 0) (N := 4) (a0 := (4, .inl fun _ => 0)) wq_61 rfl dX11_init_409 (by decide) (by decide) (by decide) (fun _ => rfl) (by decide) rfl (by omega) (by omega) ?_
  refine zn_putF C (by decide +kernel) 64 zin_X11 rfl (Nat.le_of_ble_eq_true rfl) rfl rfl tyX11_ok nmX11 rfl (ty := tyX11 64) (by decide +kernel) wq_1162 dX11_init_411 (zDu_o (by decide) (zDu_i _ _ _ _)) (Nat.le_of_ble_eq_true rfl) rfl rfl ?_
  exact kk
def fX11_46 (Z : zLay) : List Value := [.int 0, .int 0, .ref (zad Z 61 0), .ref (zad Z 63 0), .ref (zad Z 64 0), .ref (zad Z 65 0), .ref (zad Z 66 0), .ref (zad Z 67 0), .ref (zad Z 68 0), .ref (zad Z 69 0), .ref (zad Z 70 0), .ref (zad Z 71 0), .int 0, .ref (zad Z 73 0), .ref (zad Z 74 0), .ref (zad Z 75 0), .ref (zad Z 76 0), .ref (zad Z 77 0), .ref (zad Z 78 0), .int 0, .int 0, .ref (zad Z 79 0), .ref (zad Z 81 0), .ref (zad Z 83 0), .ref (zad Z 85 0), .int 0, .ref (zad Z 87 0), .ref (zad Z 88 0), .ref (zad Z 89 0), .ref (zad Z 90 0), .int 0, .ref (zad Z 91 0), .int 0, .ref (zad Z 93 0), .ref (zad Z 94 0), .ref (zad Z 95 0), .ref (zad Z 96 0), .ref (zad Z 98 0), .ref (zad Z 100 0), .int 0, .int 0, .int 0, .int 0, .int (-1), .int 0, .int 0, .int 0, .ref (zad Z 101 0), .ref (zad Z 102 0), .ref (zad Z 103 0), .int 0, .int (-1), .ref (zad Z 104 0), .ref (zad Z 105 0), .ref (zad Z 106 0), .ref (zad Z 108 0), .ref (zad Z 110 0), .int 0, .int 0, .int 0, .int 0, .ref (zad Z 111 0), .ref (zad Z 112 0), .ref (zad Z 113 0), .ref (zad Z 114 0), .ref (zad Z 115 0), .null, .null]
def eX11_46 (Z : zLay) (D : zDm) : zDm := (zDr (zDu (zDu (eX11_45 Z D) 60 0 (.inr (11, fX11_45 Z))) 115 0 (.inl (zca Z 9, 4, .inr (.inr (.inr (.inr (fun i => if i < 4 then some (zad Z 116 i) else none))))))) 116 4 (.inl (zca Z 0, (10, .inl fun _ => 0))))
theorem sX11_414 (C : zCN E cX11_init RX11 2 Z h n0 c0 368 32691) (hh : 1 ≤ h) (hc : c0 = 344) (kk : zNN E 2 Z n0 Q 425 [(0, .ref (zad Z 60 0))] [] (zDu (eX11_46 Z D) 60 0 (.inr (11, fX11_46 Z))) 366 32681) : zNN E 2 Z n0 Q 414 [(0, .ref (zad Z 60 0))] [] (zDu (eX11_45 Z D) 60 0 (.inr (11, fX11_45 Z))) 361 32637 := by
  subst hc
  refine zn_aload_n C dX11_init_414 rfl ?_
  refine zn_iconst C dX11_init_415 (v := 4) (by decide) ?_
  refine zn_bipush C dX11_init_416 (v := 10) (by decide) ?_
  refine zn_mna C (ty := .int) (N := 4) (M := 10) (t0 := 9) (t1 := 0) (k := 115) (k1 := 116) (a0 := (10, .inl fun _ => 0)) wq_1095 (by unfold zOvL; simp) wq_61 rfl rfl (fun _ _ q => q) dX11_init_418 (by decide) (by decide) (by decide) (by decide) (by decide) (by decide) (by decide) rfl rfl (fun _ => rfl) (by decide) (by decide) rfl (fun j _ => by show 706 + 1 * j = 344 + 361 + 1 + j; omega) (by omega) (by omega) ?_
  refine zn_putF C (by decide +kernel) 65 zin_X11 rfl (Nat.le_of_ble_eq_true rfl) rfl rfl tyX11_ok nmX11 rfl (ty := tyX11 65) (by decide +kernel) wq_1163 dX11_init_422 (zDr_o (by decide) (zDu_o (by decide) (zDu_i _ _ _ _))) (Nat.le_of_ble_eq_true rfl) rfl rfl ?_
  exact kk
def fX11_47 (Z : zLay) : List Value := [.int 0, .int 0, .ref (zad Z 61 0), .ref (zad Z 63 0), .ref (zad Z 64 0), .ref (zad Z 65 0), .ref (zad Z 66 0), .ref (zad Z 67 0), .ref (zad Z 68 0), .ref (zad Z 69 0), .ref (zad Z 70 0), .ref (zad Z 71 0), .int 0, .ref (zad Z 73 0), .ref (zad Z 74 0), .ref (zad Z 75 0), .ref (zad Z 76 0), .ref (zad Z 77 0), .ref (zad Z 78 0), .int 0, .int 0, .ref (zad Z 79 0), .ref (zad Z 81 0), .ref (zad Z 83 0), .ref (zad Z 85 0), .int 0, .ref (zad Z 87 0), .ref (zad Z 88 0), .ref (zad Z 89 0), .ref (zad Z 90 0), .int 0, .ref (zad Z 91 0), .int 0, .ref (zad Z 93 0), .ref (zad Z 94 0), .ref (zad Z 95 0), .ref (zad Z 96 0), .ref (zad Z 98 0), .ref (zad Z 100 0), .int 0, .int 0, .int 0, .int 0, .int (-1), .int 0, .int 0, .int 0, .ref (zad Z 101 0), .ref (zad Z 102 0), .ref (zad Z 103 0), .int 0, .int (-1), .ref (zad Z 104 0), .ref (zad Z 105 0), .ref (zad Z 106 0), .ref (zad Z 108 0), .ref (zad Z 110 0), .int 0, .int 0, .int 0, .int 0, .ref (zad Z 111 0), .ref (zad Z 112 0), .ref (zad Z 113 0), .ref (zad Z 114 0), .ref (zad Z 115 0), .ref (zad Z 117 0), .null]
def eX11_47 (Z : zLay) (D : zDm) : zDm := (zDu (zDu (eX11_46 Z D) 60 0 (.inr (11, fX11_46 Z))) 117 0 (.inl (zca Z 0, 5, .inl fun _ => 0)))
theorem sX11_425 (C : zCN E cX11_init RX11 2 Z h n0 c0 368 32691) (hh : 1 ≤ h) (hc : c0 = 344) (kk : zNN E 2 Z n0 Q 432 [(0, .ref (zad Z 60 0))] [] (zDu (eX11_47 Z D) 60 0 (.inr (11, fX11_47 Z))) 367 32686) : zNN E 2 Z n0 Q 425 [(0, .ref (zad Z 60 0))] [] (zDu (eX11_46 Z D) 60 0 (.inr (11, fX11_46 Z))) 366 32681 := by
  subst hc
  refine zn_aload_n C dX11_init_425 rfl ?_
  refine zn_iconst C dX11_init_426 (v := 5) (by decide) ?_
  refine zn_newa C (atype := .int) (k := 117) (i := 0) (t0 := 0) (N := 5) (a0 := (5, .inl fun _ => 0)) wq_61 rfl dX11_init_427 (by decide) (by decide) (by decide) (fun _ => rfl) (by decide) rfl (by omega) (by omega) ?_
  refine zn_putF C (by decide +kernel) 66 zin_X11 rfl (Nat.le_of_ble_eq_true rfl) rfl rfl tyX11_ok nmX11 rfl (ty := tyX11 66) (by decide +kernel) wq_1164 dX11_init_429 (zDu_o (by decide) (zDu_i _ _ _ _)) (Nat.le_of_ble_eq_true rfl) rfl rfl ?_
  exact kk
def fX11_48 (Z : zLay) : List Value := [.int 0, .int 0, .ref (zad Z 61 0), .ref (zad Z 63 0), .ref (zad Z 64 0), .ref (zad Z 65 0), .ref (zad Z 66 0), .ref (zad Z 67 0), .ref (zad Z 68 0), .ref (zad Z 69 0), .ref (zad Z 70 0), .ref (zad Z 71 0), .int 0, .ref (zad Z 73 0), .ref (zad Z 74 0), .ref (zad Z 75 0), .ref (zad Z 76 0), .ref (zad Z 77 0), .ref (zad Z 78 0), .int 0, .int 0, .ref (zad Z 79 0), .ref (zad Z 81 0), .ref (zad Z 83 0), .ref (zad Z 85 0), .int 0, .ref (zad Z 87 0), .ref (zad Z 88 0), .ref (zad Z 89 0), .ref (zad Z 90 0), .int 0, .ref (zad Z 91 0), .int 0, .ref (zad Z 93 0), .ref (zad Z 94 0), .ref (zad Z 95 0), .ref (zad Z 96 0), .ref (zad Z 98 0), .ref (zad Z 100 0), .int 0, .int 0, .int 0, .int 0, .int (-1), .int 0, .int 0, .int 0, .ref (zad Z 101 0), .ref (zad Z 102 0), .ref (zad Z 103 0), .int 0, .int (-1), .ref (zad Z 104 0), .ref (zad Z 105 0), .ref (zad Z 106 0), .ref (zad Z 108 0), .ref (zad Z 110 0), .int 0, .int 0, .int 0, .int 0, .ref (zad Z 111 0), .ref (zad Z 112 0), .ref (zad Z 113 0), .ref (zad Z 114 0), .ref (zad Z 115 0), .ref (zad Z 117 0), .ref (zad Z 118 0)]
def eX11_48 (Z : zLay) (D : zDm) : zDm := (zDu (zDu (eX11_47 Z D) 60 0 (.inr (11, fX11_47 Z))) 118 0 (.inl (zca Z 0, 5, .inl fun _ => 0)))
theorem sX11_432 (C : zCN E cX11_init RX11 2 Z h n0 c0 368 32691) (hh : 1 ≤ h) (hc : c0 = 344) (kk : zNN E 2 Z n0 Q 439 [(0, .ref (zad Z 60 0))] [] (zDu (eX11_48 Z D) 60 0 (.inr (11, fX11_48 Z))) 368 32691) : zNN E 2 Z n0 Q 432 [(0, .ref (zad Z 60 0))] [] (zDu (eX11_47 Z D) 60 0 (.inr (11, fX11_47 Z))) 367 32686 := by
  subst hc
  refine zn_aload_n C dX11_init_432 rfl ?_
  refine zn_iconst C dX11_init_433 (v := 5) (by decide) ?_
  refine zn_newa C (atype := .int) (k := 118) (i := 0) (t0 := 0) (N := 5) (a0 := (5, .inl fun _ => 0)) wq_61 rfl dX11_init_434 (by decide) (by decide) (by decide) (fun _ => rfl) (by decide) rfl (by omega) (by omega) ?_
  refine zn_putF C (by decide +kernel) 67 zin_X11 rfl (Nat.le_of_ble_eq_true rfl) rfl rfl tyX11_ok nmX11 rfl (ty := tyX11 67) (by decide +kernel) wq_1165 dX11_init_436 (zDu_o (by decide) (zDu_i _ _ _ _)) (Nat.le_of_ble_eq_true rfl) rfl rfl ?_
  exact kk
end YX11
theorem eX11_0_o {Z : zLay} {D : zDm} {a b : Nat} {y : va_E} (h : D a b = some y) : eX11_0 Z D a b = some y := h
theorem eX11_1_o {Z : zLay} {D : zDm} {a b : Nat} {y : va_E} (w : a < 60 ∨ 118 < a) (h : D a b = some y) : eX11_1 Z D a b = some y := zDr_o (by omega) (zDu_o (by omega) (zDu_o (by omega) (eX11_0_o h)))
theorem eX11_2_o {Z : zLay} {D : zDm} {a b : Nat} {y : va_E} (w : a < 60 ∨ 118 < a) (h : D a b = some y) : eX11_2 Z D a b = some y := zDu_o (by omega) (zDu_o (by omega) (eX11_1_o w h))
theorem eX11_3_o {Z : zLay} {D : zDm} {a b : Nat} {y : va_E} (w : a < 60 ∨ 118 < a) (h : D a b = some y) : eX11_3 Z D a b = some y := zDu_o (by omega) (zDu_o (by omega) (eX11_2_o w h))
theorem eX11_4_o {Z : zLay} {D : zDm} {a b : Nat} {y : va_E} (w : a < 60 ∨ 118 < a) (h : D a b = some y) : eX11_4 Z D a b = some y := zDu_o (by omega) (zDu_o (by omega) (eX11_3_o w h))
theorem eX11_5_o {Z : zLay} {D : zDm} {a b : Nat} {y : va_E} (w : a < 60 ∨ 118 < a) (h : D a b = some y) : eX11_5 Z D a b = some y := zDu_o (by omega) (zDu_o (by omega) (eX11_4_o w h))
theorem eX11_6_o {Z : zLay} {D : zDm} {a b : Nat} {y : va_E} (w : a < 60 ∨ 118 < a) (h : D a b = some y) : eX11_6 Z D a b = some y := zDu_o (by omega) (zDu_o (by omega) (eX11_5_o w h))
theorem eX11_7_o {Z : zLay} {D : zDm} {a b : Nat} {y : va_E} (w : a < 60 ∨ 118 < a) (h : D a b = some y) : eX11_7 Z D a b = some y := zDu_o (by omega) (zDu_o (by omega) (eX11_6_o w h))
theorem eX11_8_o {Z : zLay} {D : zDm} {a b : Nat} {y : va_E} (w : a < 60 ∨ 118 < a) (h : D a b = some y) : eX11_8 Z D a b = some y := zDu_o (by omega) (zDu_o (by omega) (eX11_7_o w h))
theorem eX11_9_o {Z : zLay} {D : zDm} {a b : Nat} {y : va_E} (w : a < 60 ∨ 118 < a) (h : D a b = some y) : eX11_9 Z D a b = some y := zDu_o (by omega) (zDu_o (by omega) (eX11_8_o w h))
theorem eX11_10_o {Z : zLay} {D : zDm} {a b : Nat} {y : va_E} (w : a < 60 ∨ 118 < a) (h : D a b = some y) : eX11_10 Z D a b = some y := zDr_o (by omega) (zDu_o (by omega) (zDu_o (by omega) (eX11_9_o w h)))
theorem eX11_11_o {Z : zLay} {D : zDm} {a b : Nat} {y : va_E} (w : a < 60 ∨ 118 < a) (h : D a b = some y) : eX11_11 Z D a b = some y := zDu_o (by omega) (zDu_o (by omega) (eX11_10_o w h))
theorem eX11_12_o {Z : zLay} {D : zDm} {a b : Nat} {y : va_E} (w : a < 60 ∨ 118 < a) (h : D a b = some y) : eX11_12 Z D a b = some y := zDu_o (by omega) (zDu_o (by omega) (eX11_11_o w h))
theorem eX11_13_o {Z : zLay} {D : zDm} {a b : Nat} {y : va_E} (w : a < 60 ∨ 118 < a) (h : D a b = some y) : eX11_13 Z D a b = some y := zDu_o (by omega) (zDu_o (by omega) (eX11_12_o w h))
theorem eX11_14_o {Z : zLay} {D : zDm} {a b : Nat} {y : va_E} (w : a < 60 ∨ 118 < a) (h : D a b = some y) : eX11_14 Z D a b = some y := zDu_o (by omega) (zDu_o (by omega) (eX11_13_o w h))
theorem eX11_15_o {Z : zLay} {D : zDm} {a b : Nat} {y : va_E} (w : a < 60 ∨ 118 < a) (h : D a b = some y) : eX11_15 Z D a b = some y := zDu_o (by omega) (zDu_o (by omega) (eX11_14_o w h))
theorem eX11_16_o {Z : zLay} {D : zDm} {a b : Nat} {y : va_E} (w : a < 60 ∨ 118 < a) (h : D a b = some y) : eX11_16 Z D a b = some y := zDu_o (by omega) (zDu_o (by omega) (eX11_15_o w h))
theorem eX11_17_o {Z : zLay} {D : zDm} {a b : Nat} {y : va_E} (w : a < 60 ∨ 118 < a) (h : D a b = some y) : eX11_17 Z D a b = some y := zDr_o (by omega) (zDu_o (by omega) (zDu_o (by omega) (eX11_16_o w h)))
theorem eX11_18_o {Z : zLay} {D : zDm} {a b : Nat} {y : va_E} (w : a < 60 ∨ 118 < a) (h : D a b = some y) : eX11_18 Z D a b = some y := zDr_o (by omega) (zDu_o (by omega) (zDu_o (by omega) (eX11_17_o w h)))
theorem eX11_19_o {Z : zLay} {D : zDm} {a b : Nat} {y : va_E} (w : a < 60 ∨ 118 < a) (h : D a b = some y) : eX11_19 Z D a b = some y := zDr_o (by omega) (zDu_o (by omega) (zDu_o (by omega) (eX11_18_o w h)))
theorem eX11_20_o {Z : zLay} {D : zDm} {a b : Nat} {y : va_E} (w : a < 60 ∨ 118 < a) (h : D a b = some y) : eX11_20 Z D a b = some y := zDr_o (by omega) (zDu_o (by omega) (zDu_o (by omega) (eX11_19_o w h)))
theorem eX11_21_o {Z : zLay} {D : zDm} {a b : Nat} {y : va_E} (w : a < 60 ∨ 118 < a) (h : D a b = some y) : eX11_21 Z D a b = some y := zDu_o (by omega) (zDu_o (by omega) (eX11_20_o w h))
theorem eX11_22_o {Z : zLay} {D : zDm} {a b : Nat} {y : va_E} (w : a < 60 ∨ 118 < a) (h : D a b = some y) : eX11_22 Z D a b = some y := zDu_o (by omega) (zDu_o (by omega) (eX11_21_o w h))
theorem eX11_23_o {Z : zLay} {D : zDm} {a b : Nat} {y : va_E} (w : a < 60 ∨ 118 < a) (h : D a b = some y) : eX11_23 Z D a b = some y := zDu_o (by omega) (zDu_o (by omega) (eX11_22_o w h))
theorem eX11_24_o {Z : zLay} {D : zDm} {a b : Nat} {y : va_E} (w : a < 60 ∨ 118 < a) (h : D a b = some y) : eX11_24 Z D a b = some y := zDu_o (by omega) (zDu_o (by omega) (eX11_23_o w h))
theorem eX11_25_o {Z : zLay} {D : zDm} {a b : Nat} {y : va_E} (w : a < 60 ∨ 118 < a) (h : D a b = some y) : eX11_25 Z D a b = some y := zDr_o (by omega) (zDu_o (by omega) (zDu_o (by omega) (eX11_24_o w h)))
theorem eX11_26_o {Z : zLay} {D : zDm} {a b : Nat} {y : va_E} (w : a < 60 ∨ 118 < a) (h : D a b = some y) : eX11_26 Z D a b = some y := zDu_o (by omega) (zDu_o (by omega) (eX11_25_o w h))
theorem eX11_27_o {Z : zLay} {D : zDm} {a b : Nat} {y : va_E} (w : a < 60 ∨ 118 < a) (h : D a b = some y) : eX11_27 Z D a b = some y := zDu_o (by omega) (zDu_o (by omega) (eX11_26_o w h))
theorem eX11_28_o {Z : zLay} {D : zDm} {a b : Nat} {y : va_E} (w : a < 60 ∨ 118 < a) (h : D a b = some y) : eX11_28 Z D a b = some y := zDu_o (by omega) (zDu_o (by omega) (eX11_27_o w h))
theorem eX11_29_o {Z : zLay} {D : zDm} {a b : Nat} {y : va_E} (w : a < 60 ∨ 118 < a) (h : D a b = some y) : eX11_29 Z D a b = some y := zDr_o (by omega) (zDu_o (by omega) (zDu_o (by omega) (eX11_28_o w h)))
theorem eX11_30_o {Z : zLay} {D : zDm} {a b : Nat} {y : va_E} (w : a < 60 ∨ 118 < a) (h : D a b = some y) : eX11_30 Z D a b = some y := zDr_o (by omega) (zDu_o (by omega) (zDu_o (by omega) (eX11_29_o w h)))
theorem eX11_31_o {Z : zLay} {D : zDm} {a b : Nat} {y : va_E} (w : a < 60 ∨ 118 < a) (h : D a b = some y) : eX11_31 Z D a b = some y := zDu_o (by omega) (zDu_o (by omega) (eX11_30_o w h))
theorem eX11_32_o {Z : zLay} {D : zDm} {a b : Nat} {y : va_E} (w : a < 60 ∨ 118 < a) (h : D a b = some y) : eX11_32 Z D a b = some y := zDu_o (by omega) (eX11_31_o w h)
theorem eX11_33_o {Z : zLay} {D : zDm} {a b : Nat} {y : va_E} (w : a < 60 ∨ 118 < a) (h : D a b = some y) : eX11_33 Z D a b = some y := zDu_o (by omega) (zDu_o (by omega) (eX11_32_o w h))
theorem eX11_34_o {Z : zLay} {D : zDm} {a b : Nat} {y : va_E} (w : a < 60 ∨ 118 < a) (h : D a b = some y) : eX11_34 Z D a b = some y := zDu_o (by omega) (zDu_o (by omega) (eX11_33_o w h))
theorem eX11_35_o {Z : zLay} {D : zDm} {a b : Nat} {y : va_E} (w : a < 60 ∨ 118 < a) (h : D a b = some y) : eX11_35 Z D a b = some y := zDu_o (by omega) (zDu_o (by omega) (zDu_o (by omega) (zDu_o (by omega) (zDu_o (by omega) (eX11_34_o w h)))))
theorem eX11_36_o {Z : zLay} {D : zDm} {a b : Nat} {y : va_E} (w : a < 60 ∨ 118 < a) (h : D a b = some y) : eX11_36 Z D a b = some y := zDu_o (by omega) (eX11_35_o w h)
theorem eX11_37_o {Z : zLay} {D : zDm} {a b : Nat} {y : va_E} (w : a < 60 ∨ 118 < a) (h : D a b = some y) : eX11_37 Z D a b = some y := zDu_o (by omega) (zDu_o (by omega) (zDu_o (by omega) (zDu_o (by omega) (zDu_o (by omega) (eX11_36_o w h)))))
theorem eX11_38_o {Z : zLay} {D : zDm} {a b : Nat} {y : va_E} (w : a < 60 ∨ 118 < a) (h : D a b = some y) : eX11_38 Z D a b = some y := zDu_o (by omega) (zDu_o (by omega) (eX11_37_o w h))
theorem eX11_39_o {Z : zLay} {D : zDm} {a b : Nat} {y : va_E} (w : a < 60 ∨ 118 < a) (h : D a b = some y) : eX11_39 Z D a b = some y := zDr_o (by omega) (zDu_o (by omega) (zDu_o (by omega) (eX11_38_o w h)))
theorem eX11_40_o {Z : zLay} {D : zDm} {a b : Nat} {y : va_E} (w : a < 60 ∨ 118 < a) (h : D a b = some y) : eX11_40 Z D a b = some y := zDr_o (by omega) (zDu_o (by omega) (zDu_o (by omega) (eX11_39_o w h)))
theorem eX11_41_o {Z : zLay} {D : zDm} {a b : Nat} {y : va_E} (w : a < 60 ∨ 118 < a) (h : D a b = some y) : eX11_41 Z D a b = some y := zDu_o (by omega) (zDu_o (by omega) (eX11_40_o w h))
theorem eX11_42_o {Z : zLay} {D : zDm} {a b : Nat} {y : va_E} (w : a < 60 ∨ 118 < a) (h : D a b = some y) : eX11_42 Z D a b = some y := zDu_o (by omega) (zDu_o (by omega) (eX11_41_o w h))
theorem eX11_43_o {Z : zLay} {D : zDm} {a b : Nat} {y : va_E} (w : a < 60 ∨ 118 < a) (h : D a b = some y) : eX11_43 Z D a b = some y := zDu_o (by omega) (zDu_o (by omega) (eX11_42_o w h))
theorem eX11_44_o {Z : zLay} {D : zDm} {a b : Nat} {y : va_E} (w : a < 60 ∨ 118 < a) (h : D a b = some y) : eX11_44 Z D a b = some y := zDu_o (by omega) (zDu_o (by omega) (eX11_43_o w h))
theorem eX11_45_o {Z : zLay} {D : zDm} {a b : Nat} {y : va_E} (w : a < 60 ∨ 118 < a) (h : D a b = some y) : eX11_45 Z D a b = some y := zDu_o (by omega) (zDu_o (by omega) (eX11_44_o w h))
theorem eX11_46_o {Z : zLay} {D : zDm} {a b : Nat} {y : va_E} (w : a < 60 ∨ 118 < a) (h : D a b = some y) : eX11_46 Z D a b = some y := zDr_o (by omega) (zDu_o (by omega) (zDu_o (by omega) (eX11_45_o w h)))
theorem eX11_47_o {Z : zLay} {D : zDm} {a b : Nat} {y : va_E} (w : a < 60 ∨ 118 < a) (h : D a b = some y) : eX11_47 Z D a b = some y := zDu_o (by omega) (zDu_o (by omega) (eX11_46_o w h))
theorem eX11_48_o {Z : zLay} {D : zDm} {a b : Nat} {y : va_E} (w : a < 60 ∨ 118 < a) (h : D a b = some y) : eX11_48 Z D a b = some y := zDu_o (by omega) (zDu_o (by omega) (eX11_47_o w h))
theorem eX11_48_c {Z : zLay} {D : zDm} {a b : Nat} {y : va_E} (w : a ≠ 60) (v : a < 118) (h : eX11_47 Z D a b = some y) : eX11_48 Z D a b = some y := zDu_o (by omega) (zDu_o (by omega) (h))
theorem eX11_47_c {Z : zLay} {D : zDm} {a b : Nat} {y : va_E} (w : a ≠ 60) (v : a < 117) (h : eX11_46 Z D a b = some y) : eX11_48 Z D a b = some y := eX11_48_c w (by omega) (zDu_o (by omega) (zDu_o (by omega) (h)))
theorem eX11_46_c {Z : zLay} {D : zDm} {a b : Nat} {y : va_E} (w : a ≠ 60) (v : a < 115) (h : eX11_45 Z D a b = some y) : eX11_48 Z D a b = some y := eX11_47_c w (by omega) (zDr_o (by omega) (zDu_o (by omega) (zDu_o (by omega) (h))))
theorem eX11_45_c {Z : zLay} {D : zDm} {a b : Nat} {y : va_E} (w : a ≠ 60) (v : a < 114) (h : eX11_44 Z D a b = some y) : eX11_48 Z D a b = some y := eX11_46_c w (by omega) (zDu_o (by omega) (zDu_o (by omega) (h)))
theorem eX11_44_c {Z : zLay} {D : zDm} {a b : Nat} {y : va_E} (w : a ≠ 60) (v : a < 113) (h : eX11_43 Z D a b = some y) : eX11_48 Z D a b = some y := eX11_45_c w (by omega) (zDu_o (by omega) (zDu_o (by omega) (h)))
theorem eX11_43_c {Z : zLay} {D : zDm} {a b : Nat} {y : va_E} (w : a ≠ 60) (v : a < 112) (h : eX11_42 Z D a b = some y) : eX11_48 Z D a b = some y := eX11_44_c w (by omega) (zDu_o (by omega) (zDu_o (by omega) (h)))
theorem eX11_42_c {Z : zLay} {D : zDm} {a b : Nat} {y : va_E} (w : a ≠ 60) (v : a < 111) (h : eX11_41 Z D a b = some y) : eX11_48 Z D a b = some y := eX11_43_c w (by omega) (zDu_o (by omega) (zDu_o (by omega) (h)))
theorem eX11_41_c {Z : zLay} {D : zDm} {a b : Nat} {y : va_E} (w : a ≠ 60) (v : a < 110) (h : eX11_40 Z D a b = some y) : eX11_48 Z D a b = some y := eX11_42_c w (by omega) (zDu_o (by omega) (zDu_o (by omega) (h)))
theorem eX11_40_c {Z : zLay} {D : zDm} {a b : Nat} {y : va_E} (w : a ≠ 60) (v : a < 108) (h : eX11_39 Z D a b = some y) : eX11_48 Z D a b = some y := eX11_41_c w (by omega) (zDr_o (by omega) (zDu_o (by omega) (zDu_o (by omega) (h))))
theorem eX11_39_c {Z : zLay} {D : zDm} {a b : Nat} {y : va_E} (w : a ≠ 60) (v : a < 106) (h : eX11_38 Z D a b = some y) : eX11_48 Z D a b = some y := eX11_40_c w (by omega) (zDr_o (by omega) (zDu_o (by omega) (zDu_o (by omega) (h))))
theorem eX11_38_c {Z : zLay} {D : zDm} {a b : Nat} {y : va_E} (w : a ≠ 60) (v : a < 105) (h : eX11_37 Z D a b = some y) : eX11_48 Z D a b = some y := eX11_39_c w (by omega) (zDu_o (by omega) (zDu_o (by omega) (h)))
theorem eX11_37_c {Z : zLay} {D : zDm} {a b : Nat} {y : va_E} (w : a ≠ 60) (v : a < 104) (h : eX11_36 Z D a b = some y) : eX11_48 Z D a b = some y := eX11_38_c w (by omega) (zDu_o (by omega) (zDu_o (by omega) (zDu_o (by omega) (zDu_o (by omega) (zDu_o (by omega) (h))))))
theorem eX11_36_c {Z : zLay} {D : zDm} {a b : Nat} {y : va_E} (w : a ≠ 60) (v : a < 104) (h : eX11_35 Z D a b = some y) : eX11_48 Z D a b = some y := eX11_37_c w (by omega) (zDu_o (by omega) (h))
theorem eX11_35_c {Z : zLay} {D : zDm} {a b : Nat} {y : va_E} (w : a ≠ 60) (v : a < 103) (h : eX11_34 Z D a b = some y) : eX11_48 Z D a b = some y := eX11_36_c w (by omega) (zDu_o (by omega) (zDu_o (by omega) (zDu_o (by omega) (zDu_o (by omega) (zDu_o (by omega) (h))))))
theorem eX11_34_c {Z : zLay} {D : zDm} {a b : Nat} {y : va_E} (w : a ≠ 60) (v : a < 102) (h : eX11_33 Z D a b = some y) : eX11_48 Z D a b = some y := eX11_35_c w (by omega) (zDu_o (by omega) (zDu_o (by omega) (h)))
theorem eX11_33_c {Z : zLay} {D : zDm} {a b : Nat} {y : va_E} (w : a ≠ 60) (v : a < 101) (h : eX11_32 Z D a b = some y) : eX11_48 Z D a b = some y := eX11_34_c w (by omega) (zDu_o (by omega) (zDu_o (by omega) (h)))
theorem eX11_32_c {Z : zLay} {D : zDm} {a b : Nat} {y : va_E} (w : a ≠ 60) (v : a < 101) (h : eX11_31 Z D a b = some y) : eX11_48 Z D a b = some y := eX11_33_c w (by omega) (zDu_o (by omega) (h))
theorem eX11_31_c {Z : zLay} {D : zDm} {a b : Nat} {y : va_E} (w : a ≠ 60) (v : a < 100) (h : eX11_30 Z D a b = some y) : eX11_48 Z D a b = some y := eX11_32_c w (by omega) (zDu_o (by omega) (zDu_o (by omega) (h)))
theorem eX11_30_c {Z : zLay} {D : zDm} {a b : Nat} {y : va_E} (w : a ≠ 60) (v : a < 98) (h : eX11_29 Z D a b = some y) : eX11_48 Z D a b = some y := eX11_31_c w (by omega) (zDr_o (by omega) (zDu_o (by omega) (zDu_o (by omega) (h))))
theorem eX11_29_c {Z : zLay} {D : zDm} {a b : Nat} {y : va_E} (w : a ≠ 60) (v : a < 96) (h : eX11_28 Z D a b = some y) : eX11_48 Z D a b = some y := eX11_30_c w (by omega) (zDr_o (by omega) (zDu_o (by omega) (zDu_o (by omega) (h))))
theorem eX11_28_c {Z : zLay} {D : zDm} {a b : Nat} {y : va_E} (w : a ≠ 60) (v : a < 95) (h : eX11_27 Z D a b = some y) : eX11_48 Z D a b = some y := eX11_29_c w (by omega) (zDu_o (by omega) (zDu_o (by omega) (h)))
theorem eX11_27_c {Z : zLay} {D : zDm} {a b : Nat} {y : va_E} (w : a ≠ 60) (v : a < 94) (h : eX11_26 Z D a b = some y) : eX11_48 Z D a b = some y := eX11_28_c w (by omega) (zDu_o (by omega) (zDu_o (by omega) (h)))
theorem eX11_26_c {Z : zLay} {D : zDm} {a b : Nat} {y : va_E} (w : a ≠ 60) (v : a < 93) (h : eX11_25 Z D a b = some y) : eX11_48 Z D a b = some y := eX11_27_c w (by omega) (zDu_o (by omega) (zDu_o (by omega) (h)))
theorem eX11_25_c {Z : zLay} {D : zDm} {a b : Nat} {y : va_E} (w : a ≠ 60) (v : a < 91) (h : eX11_24 Z D a b = some y) : eX11_48 Z D a b = some y := eX11_26_c w (by omega) (zDr_o (by omega) (zDu_o (by omega) (zDu_o (by omega) (h))))
theorem eX11_24_c {Z : zLay} {D : zDm} {a b : Nat} {y : va_E} (w : a ≠ 60) (v : a < 90) (h : eX11_23 Z D a b = some y) : eX11_48 Z D a b = some y := eX11_25_c w (by omega) (zDu_o (by omega) (zDu_o (by omega) (h)))
theorem eX11_23_c {Z : zLay} {D : zDm} {a b : Nat} {y : va_E} (w : a ≠ 60) (v : a < 89) (h : eX11_22 Z D a b = some y) : eX11_48 Z D a b = some y := eX11_24_c w (by omega) (zDu_o (by omega) (zDu_o (by omega) (h)))
theorem eX11_22_c {Z : zLay} {D : zDm} {a b : Nat} {y : va_E} (w : a ≠ 60) (v : a < 88) (h : eX11_21 Z D a b = some y) : eX11_48 Z D a b = some y := eX11_23_c w (by omega) (zDu_o (by omega) (zDu_o (by omega) (h)))
theorem eX11_21_c {Z : zLay} {D : zDm} {a b : Nat} {y : va_E} (w : a ≠ 60) (v : a < 87) (h : eX11_20 Z D a b = some y) : eX11_48 Z D a b = some y := eX11_22_c w (by omega) (zDu_o (by omega) (zDu_o (by omega) (h)))
theorem eX11_20_c {Z : zLay} {D : zDm} {a b : Nat} {y : va_E} (w : a ≠ 60) (v : a < 85) (h : eX11_19 Z D a b = some y) : eX11_48 Z D a b = some y := eX11_21_c w (by omega) (zDr_o (by omega) (zDu_o (by omega) (zDu_o (by omega) (h))))
theorem eX11_19_c {Z : zLay} {D : zDm} {a b : Nat} {y : va_E} (w : a ≠ 60) (v : a < 83) (h : eX11_18 Z D a b = some y) : eX11_48 Z D a b = some y := eX11_20_c w (by omega) (zDr_o (by omega) (zDu_o (by omega) (zDu_o (by omega) (h))))
theorem eX11_18_c {Z : zLay} {D : zDm} {a b : Nat} {y : va_E} (w : a ≠ 60) (v : a < 81) (h : eX11_17 Z D a b = some y) : eX11_48 Z D a b = some y := eX11_19_c w (by omega) (zDr_o (by omega) (zDu_o (by omega) (zDu_o (by omega) (h))))
theorem eX11_17_c {Z : zLay} {D : zDm} {a b : Nat} {y : va_E} (w : a ≠ 60) (v : a < 79) (h : eX11_16 Z D a b = some y) : eX11_48 Z D a b = some y := eX11_18_c w (by omega) (zDr_o (by omega) (zDu_o (by omega) (zDu_o (by omega) (h))))
theorem eX11_16_c {Z : zLay} {D : zDm} {a b : Nat} {y : va_E} (w : a ≠ 60) (v : a < 78) (h : eX11_15 Z D a b = some y) : eX11_48 Z D a b = some y := eX11_17_c w (by omega) (zDu_o (by omega) (zDu_o (by omega) (h)))
theorem eX11_15_c {Z : zLay} {D : zDm} {a b : Nat} {y : va_E} (w : a ≠ 60) (v : a < 77) (h : eX11_14 Z D a b = some y) : eX11_48 Z D a b = some y := eX11_16_c w (by omega) (zDu_o (by omega) (zDu_o (by omega) (h)))
theorem eX11_14_c {Z : zLay} {D : zDm} {a b : Nat} {y : va_E} (w : a ≠ 60) (v : a < 76) (h : eX11_13 Z D a b = some y) : eX11_48 Z D a b = some y := eX11_15_c w (by omega) (zDu_o (by omega) (zDu_o (by omega) (h)))
theorem eX11_13_c {Z : zLay} {D : zDm} {a b : Nat} {y : va_E} (w : a ≠ 60) (v : a < 75) (h : eX11_12 Z D a b = some y) : eX11_48 Z D a b = some y := eX11_14_c w (by omega) (zDu_o (by omega) (zDu_o (by omega) (h)))
theorem eX11_12_c {Z : zLay} {D : zDm} {a b : Nat} {y : va_E} (w : a ≠ 60) (v : a < 74) (h : eX11_11 Z D a b = some y) : eX11_48 Z D a b = some y := eX11_13_c w (by omega) (zDu_o (by omega) (zDu_o (by omega) (h)))
theorem eX11_11_c {Z : zLay} {D : zDm} {a b : Nat} {y : va_E} (w : a ≠ 60) (v : a < 73) (h : eX11_10 Z D a b = some y) : eX11_48 Z D a b = some y := eX11_12_c w (by omega) (zDu_o (by omega) (zDu_o (by omega) (h)))
theorem eX11_10_c {Z : zLay} {D : zDm} {a b : Nat} {y : va_E} (w : a ≠ 60) (v : a < 71) (h : eX11_9 Z D a b = some y) : eX11_48 Z D a b = some y := eX11_11_c w (by omega) (zDr_o (by omega) (zDu_o (by omega) (zDu_o (by omega) (h))))
theorem eX11_9_c {Z : zLay} {D : zDm} {a b : Nat} {y : va_E} (w : a ≠ 60) (v : a < 70) (h : eX11_8 Z D a b = some y) : eX11_48 Z D a b = some y := eX11_10_c w (by omega) (zDu_o (by omega) (zDu_o (by omega) (h)))
theorem eX11_8_c {Z : zLay} {D : zDm} {a b : Nat} {y : va_E} (w : a ≠ 60) (v : a < 69) (h : eX11_7 Z D a b = some y) : eX11_48 Z D a b = some y := eX11_9_c w (by omega) (zDu_o (by omega) (zDu_o (by omega) (h)))
theorem eX11_7_c {Z : zLay} {D : zDm} {a b : Nat} {y : va_E} (w : a ≠ 60) (v : a < 68) (h : eX11_6 Z D a b = some y) : eX11_48 Z D a b = some y := eX11_8_c w (by omega) (zDu_o (by omega) (zDu_o (by omega) (h)))
theorem eX11_6_c {Z : zLay} {D : zDm} {a b : Nat} {y : va_E} (w : a ≠ 60) (v : a < 67) (h : eX11_5 Z D a b = some y) : eX11_48 Z D a b = some y := eX11_7_c w (by omega) (zDu_o (by omega) (zDu_o (by omega) (h)))
theorem eX11_5_c {Z : zLay} {D : zDm} {a b : Nat} {y : va_E} (w : a ≠ 60) (v : a < 66) (h : eX11_4 Z D a b = some y) : eX11_48 Z D a b = some y := eX11_6_c w (by omega) (zDu_o (by omega) (zDu_o (by omega) (h)))
theorem eX11_4_c {Z : zLay} {D : zDm} {a b : Nat} {y : va_E} (w : a ≠ 60) (v : a < 65) (h : eX11_3 Z D a b = some y) : eX11_48 Z D a b = some y := eX11_5_c w (by omega) (zDu_o (by omega) (zDu_o (by omega) (h)))
theorem eX11_3_c {Z : zLay} {D : zDm} {a b : Nat} {y : va_E} (w : a ≠ 60) (v : a < 64) (h : eX11_2 Z D a b = some y) : eX11_48 Z D a b = some y := eX11_4_c w (by omega) (zDu_o (by omega) (zDu_o (by omega) (h)))
theorem eX11_2_c {Z : zLay} {D : zDm} {a b : Nat} {y : va_E} (w : a ≠ 60) (v : a < 63) (h : eX11_1 Z D a b = some y) : eX11_48 Z D a b = some y := eX11_3_c w (by omega) (zDu_o (by omega) (zDu_o (by omega) (h)))
theorem eX11_1_c {Z : zLay} {D : zDm} {a b : Nat} {y : va_E} (w : a ≠ 60) (v : a < 61) (h : eX11_0 Z D a b = some y) : eX11_48 Z D a b = some y := eX11_2_c w (by omega) (zDr_o (by omega) (zDu_o (by omega) (zDu_o (by omega) (h))))
theorem pX11_62 {Z : zLay} {D : zDm} {b : Nat} (hb : b < 10) : eX11_48 Z D 62 b = some (.inl (zca Z 0, (5, .inl fun _ => 0))) := eX11_2_c (by decide) (by decide) (zDr_i _ hb)
theorem pX11_61 {Z : zLay} {D : zDm} : eX11_48 Z D 61 0 = some (.inl (zca Z 9, 10, .inr (.inr (.inr (.inr (fun i => if i < 10 then some (zad Z 62 i) else none)))))) := eX11_2_c (by decide) (by decide) (zDr_o (by decide) (zDu_i _ _ _ _))
theorem pX11_63 {Z : zLay} {D : zDm} : eX11_48 Z D 63 0 = some (.inl (zca Z 0, 10, .inl fun _ => 0)) := eX11_3_c (by decide) (by decide) (zDu_i _ _ _ _)
theorem pX11_64 {Z : zLay} {D : zDm} : eX11_48 Z D 64 0 = some (.inl (zca Z 0, 10, .inl fun _ => 0)) := eX11_4_c (by decide) (by decide) (zDu_i _ _ _ _)
theorem pX11_65 {Z : zLay} {D : zDm} : eX11_48 Z D 65 0 = some (.inl (zca Z 0, 10, .inl fun _ => 0)) := eX11_5_c (by decide) (by decide) (zDu_i _ _ _ _)
theorem pX11_66 {Z : zLay} {D : zDm} : eX11_48 Z D 66 0 = some (.inl (zca Z 0, 10, .inl fun _ => 0)) := eX11_6_c (by decide) (by decide) (zDu_i _ _ _ _)
theorem pX11_67 {Z : zLay} {D : zDm} : eX11_48 Z D 67 0 = some (.inl (zca Z 0, 10, .inl fun _ => 0)) := eX11_7_c (by decide) (by decide) (zDu_i _ _ _ _)
theorem pX11_68 {Z : zLay} {D : zDm} : eX11_48 Z D 68 0 = some (.inl (zca Z 0, 10, .inl fun _ => 0)) := eX11_8_c (by decide) (by decide) (zDu_i _ _ _ _)
theorem pX11_69 {Z : zLay} {D : zDm} : eX11_48 Z D 69 0 = some (.inl (zca Z 0, 10, .inl fun _ => 0)) := eX11_9_c (by decide) (by decide) (zDu_i _ _ _ _)
theorem pX11_70 {Z : zLay} {D : zDm} : eX11_48 Z D 70 0 = some (.inl (zca Z 0, 10, .inl fun _ => 0)) := eX11_10_c (by decide) (by decide) (zDu_i _ _ _ _)
theorem pX11_72 {Z : zLay} {D : zDm} {b : Nat} (hb : b < 4) : eX11_48 Z D 72 b = some (.inl (zca Z 0, (10, .inl fun _ => 0))) := eX11_11_c (by decide) (by decide) (zDr_i _ hb)
theorem pX11_71 {Z : zLay} {D : zDm} : eX11_48 Z D 71 0 = some (.inl (zca Z 9, 4, .inr (.inr (.inr (.inr (fun i => if i < 4 then some (zad Z 72 i) else none)))))) := eX11_11_c (by decide) (by decide) (zDr_o (by decide) (zDu_i _ _ _ _))
theorem pX11_73 {Z : zLay} {D : zDm} : eX11_48 Z D 73 0 = some (.inl (zca Z 0, 50, .inl fun _ => 0)) := eX11_12_c (by decide) (by decide) (zDu_i _ _ _ _)
theorem pX11_74 {Z : zLay} {D : zDm} : eX11_48 Z D 74 0 = some (.inl (zca Z 0, 50, .inl fun _ => 0)) := eX11_13_c (by decide) (by decide) (zDu_i _ _ _ _)
theorem pX11_75 {Z : zLay} {D : zDm} : eX11_48 Z D 75 0 = some (.inl (zca Z 0, 50, .inl fun _ => 0)) := eX11_14_c (by decide) (by decide) (zDu_i _ _ _ _)
theorem pX11_76 {Z : zLay} {D : zDm} : eX11_48 Z D 76 0 = some (.inl (zca Z 0, 50, .inl fun _ => 0)) := eX11_15_c (by decide) (by decide) (zDu_i _ _ _ _)
theorem pX11_77 {Z : zLay} {D : zDm} : eX11_48 Z D 77 0 = some (.inl (zca Z 0, 50, .inl fun _ => 0)) := eX11_16_c (by decide) (by decide) (zDu_i _ _ _ _)
theorem pX11_78 {Z : zLay} {D : zDm} : eX11_48 Z D 78 0 = some (.inl (zca Z 0, 100, .inl fun _ => 0)) := eX11_17_c (by decide) (by decide) (zDu_i _ _ _ _)
theorem pX11_80 {Z : zLay} {D : zDm} {b : Nat} (hb : b < 41) : eX11_48 Z D 80 b = some (.inl (zca Z 0, (6, .inl fun _ => 0))) := eX11_18_c (by decide) (by decide) (zDr_i _ hb)
theorem pX11_79 {Z : zLay} {D : zDm} : eX11_48 Z D 79 0 = some (.inl (zca Z 9, 41, .inr (.inr (.inr (.inr (fun i => if i < 41 then some (zad Z 80 i) else none)))))) := eX11_18_c (by decide) (by decide) (zDr_o (by decide) (zDu_i _ _ _ _))
theorem pX11_82 {Z : zLay} {D : zDm} {b : Nat} (hb : b < 41) : eX11_48 Z D 82 b = some (.inl (zca Z 0, (24, .inl fun _ => 0))) := eX11_19_c (by decide) (by decide) (zDr_i _ hb)
theorem pX11_81 {Z : zLay} {D : zDm} : eX11_48 Z D 81 0 = some (.inl (zca Z 9, 41, .inr (.inr (.inr (.inr (fun i => if i < 41 then some (zad Z 82 i) else none)))))) := eX11_19_c (by decide) (by decide) (zDr_o (by decide) (zDu_i _ _ _ _))
theorem pX11_84 {Z : zLay} {D : zDm} {b : Nat} (hb : b < 2) : eX11_48 Z D 84 b = some (.inl (zca Z 0, (7200, .inl fun _ => 0))) := eX11_20_c (by decide) (by decide) (zDr_i _ hb)
theorem pX11_83 {Z : zLay} {D : zDm} : eX11_48 Z D 83 0 = some (.inl (zca Z 9, 2, .inr (.inr (.inr (.inr (fun i => if i < 2 then some (zad Z 84 i) else none)))))) := eX11_20_c (by decide) (by decide) (zDr_o (by decide) (zDu_i _ _ _ _))
theorem pX11_86 {Z : zLay} {D : zDm} {b : Nat} (hb : b < 2) : eX11_48 Z D 86 b = some (.inl (zca Z 4, (7200, .inl fun _ => 0))) := eX11_21_c (by decide) (by decide) (zDr_i _ hb)
theorem pX11_85 {Z : zLay} {D : zDm} : eX11_48 Z D 85 0 = some (.inl (zca Z 11, 2, .inr (.inr (.inr (.inr (fun i => if i < 2 then some (zad Z 86 i) else none)))))) := eX11_21_c (by decide) (by decide) (zDr_o (by decide) (zDu_i _ _ _ _))
theorem pX11_87 {Z : zLay} {D : zDm} : eX11_48 Z D 87 0 = some (.inl (zca Z 0, 4, .inl fun _ => 0)) := eX11_22_c (by decide) (by decide) (zDu_i _ _ _ _)
theorem pX11_88 {Z : zLay} {D : zDm} : eX11_48 Z D 88 0 = some (.inl (zca Z 0, 4, .inl fun _ => 0)) := eX11_23_c (by decide) (by decide) (zDu_i _ _ _ _)
theorem pX11_89 {Z : zLay} {D : zDm} : eX11_48 Z D 89 0 = some (.inl (zca Z 0, 4, .inl fun _ => 0)) := eX11_24_c (by decide) (by decide) (zDu_i _ _ _ _)
theorem pX11_90 {Z : zLay} {D : zDm} : eX11_48 Z D 90 0 = some (.inl (zca Z 0, 4, .inl fun _ => 0)) := eX11_25_c (by decide) (by decide) (zDu_i _ _ _ _)
theorem pX11_92 {Z : zLay} {D : zDm} {b : Nat} (hb : b < 200) : eX11_48 Z D 92 b = some (.inl (zca Z 0, (6, .inl fun _ => 0))) := eX11_26_c (by decide) (by decide) (zDr_i _ hb)
theorem pX11_91 {Z : zLay} {D : zDm} : eX11_48 Z D 91 0 = some (.inl (zca Z 9, 200, .inr (.inr (.inr (.inr (fun i => if i < 200 then some (zad Z 92 i) else none)))))) := eX11_26_c (by decide) (by decide) (zDr_o (by decide) (zDu_i _ _ _ _))
theorem pX11_93 {Z : zLay} {D : zDm} : eX11_48 Z D 93 0 = some (.inl (zca Z 0, 6, .inl fun _ => 0)) := eX11_27_c (by decide) (by decide) (zDu_i _ _ _ _)
theorem pX11_94 {Z : zLay} {D : zDm} : eX11_48 Z D 94 0 = some (.inl (zca Z 4, 6, .inl fun _ => 0)) := eX11_28_c (by decide) (by decide) (zDu_i _ _ _ _)
theorem pX11_95 {Z : zLay} {D : zDm} : eX11_48 Z D 95 0 = some (.inl (zca Z 0, 6, .inl fun _ => 0)) := eX11_29_c (by decide) (by decide) (zDu_i _ _ _ _)
theorem pX11_97 {Z : zLay} {D : zDm} {b : Nat} (hb : b < 6) : eX11_48 Z D 97 b = some (.inl (zca Z 0, (8, .inl fun _ => 0))) := eX11_30_c (by decide) (by decide) (zDr_i _ hb)
theorem pX11_96 {Z : zLay} {D : zDm} : eX11_48 Z D 96 0 = some (.inl (zca Z 9, 6, .inr (.inr (.inr (.inr (fun i => if i < 6 then some (zad Z 97 i) else none)))))) := eX11_30_c (by decide) (by decide) (zDr_o (by decide) (zDu_i _ _ _ _))
theorem pX11_99 {Z : zLay} {D : zDm} {b : Nat} (hb : b < 6) : eX11_48 Z D 99 b = some (.inl (zca Z 4, (8, .inl fun _ => 0))) := eX11_31_c (by decide) (by decide) (zDr_i _ hb)
theorem pX11_98 {Z : zLay} {D : zDm} : eX11_48 Z D 98 0 = some (.inl (zca Z 11, 6, .inr (.inr (.inr (.inr (fun i => if i < 6 then some (zad Z 99 i) else none)))))) := eX11_31_c (by decide) (by decide) (zDr_o (by decide) (zDu_i _ _ _ _))
theorem pX11_100 {Z : zLay} {D : zDm} : eX11_48 Z D 100 0 = some (.inl (zca Z 0, 6, .inl fun _ => 0)) := eX11_32_c (by decide) (by decide) (zDu_i _ _ _ _)
theorem pX11_101 {Z : zLay} {D : zDm} : eX11_48 Z D 101 0 = some (.inl (zca Z 0, 10, .inl fun _ => 0)) := eX11_34_c (by decide) (by decide) (zDu_i _ _ _ _)
theorem pX11_102 {Z : zLay} {D : zDm} : eX11_48 Z D 102 0 = some (.inl (zca Z 0, 10, .inl fun _ => 0)) := eX11_35_c (by decide) (by decide) (zDu_i _ _ _ _)
theorem pX11_103 {Z : zLay} {D : zDm} : eX11_48 Z D 103 0 = some (.inl (zca Z 0, 3, .inl (fun j => if j = (2 : Int32).toNatClampNeg then (-1) else (fun j => if j = (1 : Int32).toNatClampNeg then (-1) else (fun j => if j = (0 : Int32).toNatClampNeg then (-1) else 0) j) j))) := eX11_36_c (by decide) (by decide) (zDu_i _ _ _ _)
theorem pX11_104 {Z : zLay} {D : zDm} : eX11_48 Z D 104 0 = some (.inl (zca Z 0, 3, .inl (fun j => if j = (2 : Int32).toNatClampNeg then (-1) else (fun j => if j = (1 : Int32).toNatClampNeg then (-1) else (fun j => if j = (0 : Int32).toNatClampNeg then (-1) else 0) j) j))) := eX11_38_c (by decide) (by decide) (zDu_i _ _ _ _)
theorem pX11_105 {Z : zLay} {D : zDm} : eX11_48 Z D 105 0 = some (.inl (zca Z 0, 3, .inl fun _ => 0)) := eX11_39_c (by decide) (by decide) (zDu_i _ _ _ _)
theorem pX11_107 {Z : zLay} {D : zDm} {b : Nat} (hb : b < 3) : eX11_48 Z D 107 b = some (.inl (zca Z 0, (60, .inl fun _ => 0))) := eX11_40_c (by decide) (by decide) (zDr_i _ hb)
theorem pX11_106 {Z : zLay} {D : zDm} : eX11_48 Z D 106 0 = some (.inl (zca Z 9, 3, .inr (.inr (.inr (.inr (fun i => if i < 3 then some (zad Z 107 i) else none)))))) := eX11_40_c (by decide) (by decide) (zDr_o (by decide) (zDu_i _ _ _ _))
theorem pX11_109 {Z : zLay} {D : zDm} {b : Nat} (hb : b < 3) : eX11_48 Z D 109 b = some (.inl (zca Z 4, (60, .inl fun _ => 0))) := eX11_41_c (by decide) (by decide) (zDr_i _ hb)
theorem pX11_108 {Z : zLay} {D : zDm} : eX11_48 Z D 108 0 = some (.inl (zca Z 11, 3, .inr (.inr (.inr (.inr (fun i => if i < 3 then some (zad Z 109 i) else none)))))) := eX11_41_c (by decide) (by decide) (zDr_o (by decide) (zDu_i _ _ _ _))
theorem pX11_110 {Z : zLay} {D : zDm} : eX11_48 Z D 110 0 = some (.inl (zca Z 0, 20, .inl fun _ => 0)) := eX11_42_c (by decide) (by decide) (zDu_i _ _ _ _)
theorem pX11_111 {Z : zLay} {D : zDm} : eX11_48 Z D 111 0 = some (.inl (zca Z 0, 6, .inl fun _ => 0)) := eX11_43_c (by decide) (by decide) (zDu_i _ _ _ _)
theorem pX11_112 {Z : zLay} {D : zDm} : eX11_48 Z D 112 0 = some (.inl (zca Z 0, 10, .inl fun _ => 0)) := eX11_44_c (by decide) (by decide) (zDu_i _ _ _ _)
theorem pX11_113 {Z : zLay} {D : zDm} : eX11_48 Z D 113 0 = some (.inl (zca Z 0, 4, .inl fun _ => 0)) := eX11_45_c (by decide) (by decide) (zDu_i _ _ _ _)
theorem pX11_114 {Z : zLay} {D : zDm} : eX11_48 Z D 114 0 = some (.inl (zca Z 0, 4, .inl fun _ => 0)) := eX11_46_c (by decide) (by decide) (zDu_i _ _ _ _)
theorem pX11_116 {Z : zLay} {D : zDm} {b : Nat} (hb : b < 4) : eX11_48 Z D 116 b = some (.inl (zca Z 0, (10, .inl fun _ => 0))) := eX11_47_c (by decide) (by decide) (zDr_i _ hb)
theorem pX11_115 {Z : zLay} {D : zDm} : eX11_48 Z D 115 0 = some (.inl (zca Z 9, 4, .inr (.inr (.inr (.inr (fun i => if i < 4 then some (zad Z 116 i) else none)))))) := eX11_47_c (by decide) (by decide) (zDr_o (by decide) (zDu_i _ _ _ _))
theorem pX11_117 {Z : zLay} {D : zDm} : eX11_48 Z D 117 0 = some (.inl (zca Z 0, 5, .inl fun _ => 0)) := eX11_48_c (by decide) (by decide) (zDu_i _ _ _ _)
theorem pX11_118 {Z : zLay} {D : zDm} : eX11_48 Z D 118 0 = some (.inl (zca Z 0, 5, .inl fun _ => 0)) := zDu_i _ _ _ _
def wX11 (Z : zLay) (D : zDm) : Nat → zDm
  | 0 => D
  | n + 1 => zDu (wX11 Z D n) 80 n (.inl (zca Z 0, 6, .inl (fun j => if j = (5 : Int32).toNatClampNeg then -1 else 0)))
theorem wX11_o {Z : zLay} {D : zDm} {a b : Nat} {y : va_E} (v : a ≠ 80) (h : D a b = some y) (n : Nat) : wX11 Z D n a b = some y := by
  induction n with
  | zero => exact h
  | succ n ih => exact zDu_o v ih
theorem wX11_n {Z : zLay} {D : zDm} {b : Nat} {y : va_E} (h : D 80 b = some y) (n : Nat) (hb : n ≤ b) : wX11 Z D n 80 b = some y := by
  induction n with
  | zero => exact h
  | succ n ih => exact zDu_ob (by omega) (ih (by omega))
theorem wX11_80 {Z : zLay} {D : zDm} (n : Nat) : ∀ j, j < n → wX11 Z D n 80 j = some (.inl (zca Z 0, 6, .inl (fun j => if j = (5 : Int32).toNatClampNeg then -1 else 0))) := by
  induction n with
  | zero => exact fun j h => absurd h (Nat.not_lt_zero _)
  | succ n ih =>
    intro j h
    by_cases q : j = n
    · subst q
      exact zDu_i _ _ _ _
    · exact zDu_ob q (ih j (by omega))
theorem sX11_h80 {E : zEn} {h n0 : Nat} {Z : zLay} {D : zDm} {Q : State → Prop} (C : zCN E cX11_init RX11 2 Z h n0 344 368 32691) (hD : D 60 0 = some (.inr (11, fX11_48 Z))) (hA : D 79 0 = some (.inl (zca Z 9, 41, .inr (.inr (.inr (.inr (fun i => if i < 41 then some (zad Z 80 i) else none))))))) (hB : ∀ b, b < 41 → D 80 b = some (.inl (zca Z 0, (6, .inl fun _ => 0)))) (kk : zNN E 2 Z n0 Q 462 [(1, .int (nI 41)), (0, .ref (zad Z 60 0))] [] (wX11 Z D 41) 368 32691) : ∀ m n, n + m = 41 → zNN E 2 Z n0 Q 441 [(1, .int (nI n)), (0, .ref (zad Z 60 0))] [] (wX11 Z D n) 368 32691 := by
  intro m
  induction m with
  | zero =>
    intro n e1
    obtain rfl : n = 41 := e1
    refine zn_iload_n C dX11_init_441 rfl ?_
    refine zn_bipush C dX11_init_442 (v := 40) (by decide) ?_
    refine zn_icmpg C dX11_init_444 (tgt := 462) (by decide) (fun _ => kk) (fun q => absurd (by decide +kernel) q)
  | succ m ih =>
    intro n e1
    have hn : n < 41 := by omega
    obtain ⟨n1, n2, n3⟩ := nI41_c n (by omega)
    refine zn_iload_n C dX11_init_441 rfl ?_
    refine zn_bipush C dX11_init_442 (v := 40) (by decide) ?_
    refine zn_icmpg C dX11_init_444 (tgt := 462) (by decide) (fun q => absurd q ((by decide +kernel : ∀ n, n < 41 → ¬ (40 : Int32) < nI n) n hn)) (fun _ => ?_)
    refine zn_aload_n C dX11_init_447 rfl ?_
    refine zn_get C 21 zin_X11 rfl (Nat.le_of_ble_eq_true rfl) rfl wq_1119 dX11_init_448 (wX11_o (by decide) hD n) (v := .ref (zad Z 79 0)) rfl ?_
    refine zn_iload_n C dX11_init_451 rfl ?_
    refine zn_aald C (t0 := 9) (ty := .array .int) (a := zad Z 80 n) (wX11_o (by decide) hA n) rfl rfl n2 (by rw [n3]; exact hn) (by rw [n3]; exact if_pos hn) dX11_init_452 ?_
    refine zn_iconst C dX11_init_453 (v := 5) (by decide) ?_
    refine zn_iconst C dX11_init_454 (v := -1) (by decide) ?_
    refine zn_iast C (k := 80) (i := n) (wX11_n (hB n hn) n (Nat.le_refl _)) (by decide) (by decide) dX11_init_455 ?_
    refine zn_iinc C (kk := 0) dX11_init_456 rfl n1 (by decide) rfl ?_
    refine zn_goto C dX11_init_459 (tgt := 441) (by decide) ?_
    exact ih (n + 1) (by omega)
def gX11 (Z : zLay) (D : zDm) : zDm := wX11 Z (zDu (eX11_48 Z D) 60 0 (.inr (11, fX11_48 Z))) 41
theorem gX11_o {Z : zLay} {D : zDm} {a b : Nat} {y : va_E} (w : a < 60 ∨ 118 < a) (h : D a b = some y) : gX11 Z D a b = some y := wX11_o (by omega) (zDu_o (by omega) (eX11_48_o w h)) _
theorem mX11 {l : Launch} {Z : zLay} {D : zDm} {n0 c0 : Nat} (hc : c0 = 344) : zMetN l yX11_init cX11_init 2 1 Z n0 c0 368 32691 [.ref (zad Z 60 0)] (zDu D 60 0 (.inr (11, fX11_0))) (gX11 Z D) := by
  subst hc
  exact zMetN_of (by decide +kernel) rfl (Nat.le_of_ble_eq_true rfl) [(0, .ref (zad Z 60 0))] rfl fun E h1 h2 C => sX11_0 C (Nat.le_refl _) rfl (sX11_4 C (Nat.le_refl _) rfl (sX11_15 C (Nat.le_refl _) rfl (sX11_23 C (Nat.le_refl _) rfl (sX11_31 C (Nat.le_refl _) rfl (sX11_39 C (Nat.le_refl _) rfl (sX11_47 C (Nat.le_refl _) rfl (sX11_55 C (Nat.le_refl _) rfl (sX11_63 C (Nat.le_refl _) rfl (sX11_71 C (Nat.le_refl _) rfl (sX11_79 C (Nat.le_refl _) rfl (sX11_90 C (Nat.le_refl _) rfl (sX11_98 C (Nat.le_refl _) rfl (sX11_106 C (Nat.le_refl _) rfl (sX11_114 C (Nat.le_refl _) rfl (sX11_122 C (Nat.le_refl _) rfl (sX11_130 C (Nat.le_refl _) rfl (sX11_138 C (Nat.le_refl _) rfl (sX11_150 C (Nat.le_refl _) rfl (sX11_162 C (Nat.le_refl _) rfl (sX11_174 C (Nat.le_refl _) rfl (sX11_186 C (Nat.le_refl _) rfl (sX11_193 C (Nat.le_refl _) rfl (sX11_200 C (Nat.le_refl _) rfl (sX11_207 C (Nat.le_refl _) rfl (sX11_214 C (Nat.le_refl _) rfl (sX11_227 C (Nat.le_refl _) rfl (sX11_235 C (Nat.le_refl _) rfl (sX11_243 C (Nat.le_refl _) rfl (sX11_251 C (Nat.le_refl _) rfl (sX11_263 C (Nat.le_refl _) rfl (sX11_275 C (Nat.le_refl _) rfl (sX11_283 C (Nat.le_refl _) rfl (sX11_288 C (Nat.le_refl _) rfl (sX11_296 C (Nat.le_refl _) rfl (sX11_304 C (Nat.le_refl _) rfl (sX11_323 C (Nat.le_refl _) rfl (sX11_328 C (Nat.le_refl _) rfl (sX11_347 C (Nat.le_refl _) rfl (sX11_354 C (Nat.le_refl _) rfl (sX11_365 C (Nat.le_refl _) rfl (sX11_376 C (Nat.le_refl _) rfl (sX11_384 C (Nat.le_refl _) rfl (sX11_392 C (Nat.le_refl _) rfl (sX11_400 C (Nat.le_refl _) rfl (sX11_407 C (Nat.le_refl _) rfl (sX11_414 C (Nat.le_refl _) rfl (sX11_425 C (Nat.le_refl _) rfl (sX11_432 C (Nat.le_refl _) rfl (zn_iconst C dX11_init_439 (v := nI 0) (by decide +kernel) (zn_istore_n C dX11_init_440 (i := 1) rfl (by decide) rfl (sX11_h80 C (zDu_i _ _ _ _) (zDu_o (by decide) pX11_79) (fun b hb => zDu_o (by decide) (pX11_80 hb)) (zn_ret C (by decide +kernel) h1 h2 rfl (Nat.le_refl _) dX11_init_462) 41 0 rfl)))))))))))))))))))))))))))))))))))))))))))))))))))
theorem qX11_62 {Z : zLay} {D : zDm} {b : Nat} (hb : b < 10) : gX11 Z D 62 b = some (.inl (zca Z 0, (5, .inl fun _ => 0))) := wX11_o (by decide) (zDu_o (by decide) (pX11_62 hb)) _
theorem qX11_61 {Z : zLay} {D : zDm} : gX11 Z D 61 0 = some (.inl (zca Z 9, 10, .inr (.inr (.inr (.inr (fun i => if i < 10 then some (zad Z 62 i) else none)))))) := wX11_o (by decide) (zDu_o (by decide) pX11_61) _
theorem qX11_63 {Z : zLay} {D : zDm} : gX11 Z D 63 0 = some (.inl (zca Z 0, 10, .inl fun _ => 0)) := wX11_o (by decide) (zDu_o (by decide) pX11_63) _
theorem qX11_64 {Z : zLay} {D : zDm} : gX11 Z D 64 0 = some (.inl (zca Z 0, 10, .inl fun _ => 0)) := wX11_o (by decide) (zDu_o (by decide) pX11_64) _
theorem qX11_65 {Z : zLay} {D : zDm} : gX11 Z D 65 0 = some (.inl (zca Z 0, 10, .inl fun _ => 0)) := wX11_o (by decide) (zDu_o (by decide) pX11_65) _
theorem qX11_66 {Z : zLay} {D : zDm} : gX11 Z D 66 0 = some (.inl (zca Z 0, 10, .inl fun _ => 0)) := wX11_o (by decide) (zDu_o (by decide) pX11_66) _
theorem qX11_67 {Z : zLay} {D : zDm} : gX11 Z D 67 0 = some (.inl (zca Z 0, 10, .inl fun _ => 0)) := wX11_o (by decide) (zDu_o (by decide) pX11_67) _
theorem qX11_68 {Z : zLay} {D : zDm} : gX11 Z D 68 0 = some (.inl (zca Z 0, 10, .inl fun _ => 0)) := wX11_o (by decide) (zDu_o (by decide) pX11_68) _
theorem qX11_69 {Z : zLay} {D : zDm} : gX11 Z D 69 0 = some (.inl (zca Z 0, 10, .inl fun _ => 0)) := wX11_o (by decide) (zDu_o (by decide) pX11_69) _
theorem qX11_70 {Z : zLay} {D : zDm} : gX11 Z D 70 0 = some (.inl (zca Z 0, 10, .inl fun _ => 0)) := wX11_o (by decide) (zDu_o (by decide) pX11_70) _
theorem qX11_72 {Z : zLay} {D : zDm} {b : Nat} (hb : b < 4) : gX11 Z D 72 b = some (.inl (zca Z 0, (10, .inl fun _ => 0))) := wX11_o (by decide) (zDu_o (by decide) (pX11_72 hb)) _
theorem qX11_71 {Z : zLay} {D : zDm} : gX11 Z D 71 0 = some (.inl (zca Z 9, 4, .inr (.inr (.inr (.inr (fun i => if i < 4 then some (zad Z 72 i) else none)))))) := wX11_o (by decide) (zDu_o (by decide) pX11_71) _
theorem qX11_73 {Z : zLay} {D : zDm} : gX11 Z D 73 0 = some (.inl (zca Z 0, 50, .inl fun _ => 0)) := wX11_o (by decide) (zDu_o (by decide) pX11_73) _
theorem qX11_74 {Z : zLay} {D : zDm} : gX11 Z D 74 0 = some (.inl (zca Z 0, 50, .inl fun _ => 0)) := wX11_o (by decide) (zDu_o (by decide) pX11_74) _
theorem qX11_75 {Z : zLay} {D : zDm} : gX11 Z D 75 0 = some (.inl (zca Z 0, 50, .inl fun _ => 0)) := wX11_o (by decide) (zDu_o (by decide) pX11_75) _
theorem qX11_76 {Z : zLay} {D : zDm} : gX11 Z D 76 0 = some (.inl (zca Z 0, 50, .inl fun _ => 0)) := wX11_o (by decide) (zDu_o (by decide) pX11_76) _
theorem qX11_77 {Z : zLay} {D : zDm} : gX11 Z D 77 0 = some (.inl (zca Z 0, 50, .inl fun _ => 0)) := wX11_o (by decide) (zDu_o (by decide) pX11_77) _
theorem qX11_78 {Z : zLay} {D : zDm} : gX11 Z D 78 0 = some (.inl (zca Z 0, 100, .inl fun _ => 0)) := wX11_o (by decide) (zDu_o (by decide) pX11_78) _
theorem qX11_80 {Z : zLay} {D : zDm} {b : Nat} (hb : b < 41) : gX11 Z D 80 b = some (.inl (zca Z 0, 6, .inl (fun j => if j = (5 : Int32).toNatClampNeg then -1 else 0))) := wX11_80 41 b hb
theorem qX11_79 {Z : zLay} {D : zDm} : gX11 Z D 79 0 = some (.inl (zca Z 9, 41, .inr (.inr (.inr (.inr (fun i => if i < 41 then some (zad Z 80 i) else none)))))) := wX11_o (by decide) (zDu_o (by decide) pX11_79) _
theorem qX11_82 {Z : zLay} {D : zDm} {b : Nat} (hb : b < 41) : gX11 Z D 82 b = some (.inl (zca Z 0, (24, .inl fun _ => 0))) := wX11_o (by decide) (zDu_o (by decide) (pX11_82 hb)) _
theorem qX11_81 {Z : zLay} {D : zDm} : gX11 Z D 81 0 = some (.inl (zca Z 9, 41, .inr (.inr (.inr (.inr (fun i => if i < 41 then some (zad Z 82 i) else none)))))) := wX11_o (by decide) (zDu_o (by decide) pX11_81) _
theorem qX11_84 {Z : zLay} {D : zDm} {b : Nat} (hb : b < 2) : gX11 Z D 84 b = some (.inl (zca Z 0, (7200, .inl fun _ => 0))) := wX11_o (by decide) (zDu_o (by decide) (pX11_84 hb)) _
theorem qX11_83 {Z : zLay} {D : zDm} : gX11 Z D 83 0 = some (.inl (zca Z 9, 2, .inr (.inr (.inr (.inr (fun i => if i < 2 then some (zad Z 84 i) else none)))))) := wX11_o (by decide) (zDu_o (by decide) pX11_83) _
theorem qX11_86 {Z : zLay} {D : zDm} {b : Nat} (hb : b < 2) : gX11 Z D 86 b = some (.inl (zca Z 4, (7200, .inl fun _ => 0))) := wX11_o (by decide) (zDu_o (by decide) (pX11_86 hb)) _
theorem qX11_85 {Z : zLay} {D : zDm} : gX11 Z D 85 0 = some (.inl (zca Z 11, 2, .inr (.inr (.inr (.inr (fun i => if i < 2 then some (zad Z 86 i) else none)))))) := wX11_o (by decide) (zDu_o (by decide) pX11_85) _
theorem qX11_87 {Z : zLay} {D : zDm} : gX11 Z D 87 0 = some (.inl (zca Z 0, 4, .inl fun _ => 0)) := wX11_o (by decide) (zDu_o (by decide) pX11_87) _
theorem qX11_88 {Z : zLay} {D : zDm} : gX11 Z D 88 0 = some (.inl (zca Z 0, 4, .inl fun _ => 0)) := wX11_o (by decide) (zDu_o (by decide) pX11_88) _
theorem qX11_89 {Z : zLay} {D : zDm} : gX11 Z D 89 0 = some (.inl (zca Z 0, 4, .inl fun _ => 0)) := wX11_o (by decide) (zDu_o (by decide) pX11_89) _
theorem qX11_90 {Z : zLay} {D : zDm} : gX11 Z D 90 0 = some (.inl (zca Z 0, 4, .inl fun _ => 0)) := wX11_o (by decide) (zDu_o (by decide) pX11_90) _
theorem qX11_92 {Z : zLay} {D : zDm} {b : Nat} (hb : b < 200) : gX11 Z D 92 b = some (.inl (zca Z 0, (6, .inl fun _ => 0))) := wX11_o (by decide) (zDu_o (by decide) (pX11_92 hb)) _
theorem qX11_91 {Z : zLay} {D : zDm} : gX11 Z D 91 0 = some (.inl (zca Z 9, 200, .inr (.inr (.inr (.inr (fun i => if i < 200 then some (zad Z 92 i) else none)))))) := wX11_o (by decide) (zDu_o (by decide) pX11_91) _
theorem qX11_93 {Z : zLay} {D : zDm} : gX11 Z D 93 0 = some (.inl (zca Z 0, 6, .inl fun _ => 0)) := wX11_o (by decide) (zDu_o (by decide) pX11_93) _
theorem qX11_94 {Z : zLay} {D : zDm} : gX11 Z D 94 0 = some (.inl (zca Z 4, 6, .inl fun _ => 0)) := wX11_o (by decide) (zDu_o (by decide) pX11_94) _
theorem qX11_95 {Z : zLay} {D : zDm} : gX11 Z D 95 0 = some (.inl (zca Z 0, 6, .inl fun _ => 0)) := wX11_o (by decide) (zDu_o (by decide) pX11_95) _
theorem qX11_97 {Z : zLay} {D : zDm} {b : Nat} (hb : b < 6) : gX11 Z D 97 b = some (.inl (zca Z 0, (8, .inl fun _ => 0))) := wX11_o (by decide) (zDu_o (by decide) (pX11_97 hb)) _
theorem qX11_96 {Z : zLay} {D : zDm} : gX11 Z D 96 0 = some (.inl (zca Z 9, 6, .inr (.inr (.inr (.inr (fun i => if i < 6 then some (zad Z 97 i) else none)))))) := wX11_o (by decide) (zDu_o (by decide) pX11_96) _
theorem qX11_99 {Z : zLay} {D : zDm} {b : Nat} (hb : b < 6) : gX11 Z D 99 b = some (.inl (zca Z 4, (8, .inl fun _ => 0))) := wX11_o (by decide) (zDu_o (by decide) (pX11_99 hb)) _
theorem qX11_98 {Z : zLay} {D : zDm} : gX11 Z D 98 0 = some (.inl (zca Z 11, 6, .inr (.inr (.inr (.inr (fun i => if i < 6 then some (zad Z 99 i) else none)))))) := wX11_o (by decide) (zDu_o (by decide) pX11_98) _
theorem qX11_100 {Z : zLay} {D : zDm} : gX11 Z D 100 0 = some (.inl (zca Z 0, 6, .inl fun _ => 0)) := wX11_o (by decide) (zDu_o (by decide) pX11_100) _
theorem qX11_101 {Z : zLay} {D : zDm} : gX11 Z D 101 0 = some (.inl (zca Z 0, 10, .inl fun _ => 0)) := wX11_o (by decide) (zDu_o (by decide) pX11_101) _
theorem qX11_102 {Z : zLay} {D : zDm} : gX11 Z D 102 0 = some (.inl (zca Z 0, 10, .inl fun _ => 0)) := wX11_o (by decide) (zDu_o (by decide) pX11_102) _
theorem qX11_103 {Z : zLay} {D : zDm} : gX11 Z D 103 0 = some (.inl (zca Z 0, 3, .inl (fun j => if j = (2 : Int32).toNatClampNeg then (-1) else (fun j => if j = (1 : Int32).toNatClampNeg then (-1) else (fun j => if j = (0 : Int32).toNatClampNeg then (-1) else 0) j) j))) := wX11_o (by decide) (zDu_o (by decide) pX11_103) _
theorem qX11_104 {Z : zLay} {D : zDm} : gX11 Z D 104 0 = some (.inl (zca Z 0, 3, .inl (fun j => if j = (2 : Int32).toNatClampNeg then (-1) else (fun j => if j = (1 : Int32).toNatClampNeg then (-1) else (fun j => if j = (0 : Int32).toNatClampNeg then (-1) else 0) j) j))) := wX11_o (by decide) (zDu_o (by decide) pX11_104) _
theorem qX11_105 {Z : zLay} {D : zDm} : gX11 Z D 105 0 = some (.inl (zca Z 0, 3, .inl fun _ => 0)) := wX11_o (by decide) (zDu_o (by decide) pX11_105) _
theorem qX11_107 {Z : zLay} {D : zDm} {b : Nat} (hb : b < 3) : gX11 Z D 107 b = some (.inl (zca Z 0, (60, .inl fun _ => 0))) := wX11_o (by decide) (zDu_o (by decide) (pX11_107 hb)) _
theorem qX11_106 {Z : zLay} {D : zDm} : gX11 Z D 106 0 = some (.inl (zca Z 9, 3, .inr (.inr (.inr (.inr (fun i => if i < 3 then some (zad Z 107 i) else none)))))) := wX11_o (by decide) (zDu_o (by decide) pX11_106) _
theorem qX11_109 {Z : zLay} {D : zDm} {b : Nat} (hb : b < 3) : gX11 Z D 109 b = some (.inl (zca Z 4, (60, .inl fun _ => 0))) := wX11_o (by decide) (zDu_o (by decide) (pX11_109 hb)) _
theorem qX11_108 {Z : zLay} {D : zDm} : gX11 Z D 108 0 = some (.inl (zca Z 11, 3, .inr (.inr (.inr (.inr (fun i => if i < 3 then some (zad Z 109 i) else none)))))) := wX11_o (by decide) (zDu_o (by decide) pX11_108) _
theorem qX11_110 {Z : zLay} {D : zDm} : gX11 Z D 110 0 = some (.inl (zca Z 0, 20, .inl fun _ => 0)) := wX11_o (by decide) (zDu_o (by decide) pX11_110) _
theorem qX11_111 {Z : zLay} {D : zDm} : gX11 Z D 111 0 = some (.inl (zca Z 0, 6, .inl fun _ => 0)) := wX11_o (by decide) (zDu_o (by decide) pX11_111) _
theorem qX11_112 {Z : zLay} {D : zDm} : gX11 Z D 112 0 = some (.inl (zca Z 0, 10, .inl fun _ => 0)) := wX11_o (by decide) (zDu_o (by decide) pX11_112) _
theorem qX11_113 {Z : zLay} {D : zDm} : gX11 Z D 113 0 = some (.inl (zca Z 0, 4, .inl fun _ => 0)) := wX11_o (by decide) (zDu_o (by decide) pX11_113) _
theorem qX11_114 {Z : zLay} {D : zDm} : gX11 Z D 114 0 = some (.inl (zca Z 0, 4, .inl fun _ => 0)) := wX11_o (by decide) (zDu_o (by decide) pX11_114) _
theorem qX11_116 {Z : zLay} {D : zDm} {b : Nat} (hb : b < 4) : gX11 Z D 116 b = some (.inl (zca Z 0, (10, .inl fun _ => 0))) := wX11_o (by decide) (zDu_o (by decide) (pX11_116 hb)) _
theorem qX11_115 {Z : zLay} {D : zDm} : gX11 Z D 115 0 = some (.inl (zca Z 9, 4, .inr (.inr (.inr (.inr (fun i => if i < 4 then some (zad Z 116 i) else none)))))) := wX11_o (by decide) (zDu_o (by decide) pX11_115) _
theorem qX11_117 {Z : zLay} {D : zDm} : gX11 Z D 117 0 = some (.inl (zca Z 0, 5, .inl fun _ => 0)) := wX11_o (by decide) (zDu_o (by decide) pX11_117) _
theorem qX11_118 {Z : zLay} {D : zDm} : gX11 Z D 118 0 = some (.inl (zca Z 0, 5, .inl fun _ => 0)) := wX11_o (by decide) (zDu_o (by decide) pX11_118) _
theorem qX11_60 {Z : zLay} {D : zDm} : gX11 Z D 60 0 = some (.inr (11, fX11_48 Z)) := wX11_o (by decide) (zDu_i _ _ _ _) _
