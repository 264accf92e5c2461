theorem wq_25 : Cond.methodLink "AlpCommune" (1 : Nat) ({ cls := "java/lang/Object", name := "<init>", desc := "()V" } : MethodName) ∈ zTB := zTB_mem 152 (by decide +kernel) (by decide +kernel)
theorem wq_372 : Cond.fieldLink "AlpCommune" (11 : Nat) "AlpCommune" "houses" "[LAlpCommune$House;" ∈ zTB := zTB_mem 499 (by decide +kernel) (by decide +kernel)
theorem wq_28 : Cond.classLink "AlpCommune" (9 : Nat) "AlpCommune$House" ∈ zTB := zTB_mem 155 (by decide +kernel) (by decide +kernel)
theorem wq_374 : Cond.fieldLink "AlpCommune" (18 : Nat) "AlpCommune" "rights" "LAlpCommune$Rights;" ∈ zTB := zTB_mem 501 (by decide +kernel) (by decide +kernel)
theorem wq_30 : Cond.classLink "AlpCommune" (15 : Nat) "AlpCommune$Rights" ∈ zTB := zTB_mem 157 (by decide +kernel) (by decide +kernel)
theorem wq_31 : Cond.instantiable "AlpCommune$Rights" (6 : Nat) ∈ zTB := zTB_mem 158 (by decide +kernel) (by decide +kernel)
theorem wq_2 : Cond.initialized "AlpCommune$Rights" ∈ zTB := zTB_mem 129 (by decide +kernel) (by decide +kernel)
theorem wq_n32 : Cond.methodLinkNest RX10 17 yX3_init "AlpCommune" ∈ zNest := zNest_mem 32 (by decide +kernel) (by decide +kernel)
theorem wq_33 : Cond.instanceMethod ({ cls := "AlpCommune$Rights", name := "<init>", desc := "()V" } : MethodName) ∈ zTB := zTB_mem 160 (by decide +kernel) (by decide +kernel)
theorem wq_34 : Cond.code yX3_init cX3_init 1 none ∈ zTB := zTB_mem 161 (by decide +kernel) (by decide +kernel)
theorem wq_375 : Cond.fieldLink "AlpCommune" (25 : Nat) "AlpCommune" "words" "LAlpCommune$Words;" ∈ zTB := zTB_mem 502 (by decide +kernel) (by decide +kernel)
theorem wq_62 : Cond.classLink "AlpCommune" (22 : Nat) "AlpCommune$Words" ∈ zTB := zTB_mem 189 (by decide +kernel) (by decide +kernel)
theorem wq_63 : Cond.instantiable "AlpCommune$Words" (5 : Nat) ∈ zTB := zTB_mem 190 (by decide +kernel) (by decide +kernel)
theorem wq_3 : Cond.initialized "AlpCommune$Words" ∈ zTB := zTB_mem 130 (by decide +kernel) (by decide +kernel)
theorem wq_n64 : Cond.methodLinkNest RX10 24 yX9_init "AlpCommune" ∈ zNest := zNest_mem 64 (by decide +kernel) (by decide +kernel)
theorem wq_65 : Cond.instanceMethod ({ cls := "AlpCommune$Words", name := "<init>", desc := "()V" } : MethodName) ∈ zTB := zTB_mem 192 (by decide +kernel) (by decide +kernel)
theorem wq_66 : Cond.code yX9_init cX9_init 2 none ∈ zTB := zTB_mem 193 (by decide +kernel) (by decide +kernel)
theorem wq_376 : Cond.fieldLink "AlpCommune" (32 : Nat) "AlpCommune" "skies" "LAlpCommune$Sky;" ∈ zTB := zTB_mem 503 (by decide +kernel) (by decide +kernel)
theorem wq_144 : Cond.classLink "AlpCommune" (29 : Nat) "AlpCommune$Sky" ∈ zTB := zTB_mem 271 (by decide +kernel) (by decide +kernel)
theorem wq_145 : Cond.instantiable "AlpCommune$Sky" (2 : Nat) ∈ zTB := zTB_mem 272 (by decide +kernel) (by decide +kernel)
theorem wq_5 : Cond.initialized "AlpCommune$Sky" ∈ zTB := zTB_mem 132 (by decide +kernel) (by decide +kernel)
theorem wq_n146 : Cond.methodLinkNest RX10 31 yX5_init "AlpCommune" ∈ zNest := zNest_mem 146 (by decide +kernel) (by decide +kernel)
theorem wq_147 : Cond.instanceMethod ({ cls := "AlpCommune$Sky", name := "<init>", desc := "()V" } : MethodName) ∈ zTB := zTB_mem 274 (by decide +kernel) (by decide +kernel)
theorem wq_148 : Cond.code yX5_init cX5_init 1 none ∈ zTB := zTB_mem 275 (by decide +kernel) (by decide +kernel)
theorem wq_377 : Cond.fieldLink "AlpCommune" (39 : Nat) "AlpCommune" "alps" "LAlpCommune$Alps;" ∈ zTB := zTB_mem 504 (by decide +kernel) (by decide +kernel)
theorem wq_162 : Cond.classLink "AlpCommune" (36 : Nat) "AlpCommune$Alps" ∈ zTB := zTB_mem 289 (by decide +kernel) (by decide +kernel)
theorem wq_163 : Cond.instantiable "AlpCommune$Alps" (12 : Nat) ∈ zTB := zTB_mem 290 (by decide +kernel) (by decide +kernel)
theorem wq_6 : Cond.initialized "AlpCommune$Alps" ∈ zTB := zTB_mem 133 (by decide +kernel) (by decide +kernel)
theorem wq_n164 : Cond.methodLinkNest RX10 38 yX0_init "AlpCommune" ∈ zNest := zNest_mem 164 (by decide +kernel) (by decide +kernel)
theorem wq_165 : Cond.instanceMethod ({ cls := "AlpCommune$Alps", name := "<init>", desc := "()V" } : MethodName) ∈ zTB := zTB_mem 292 (by decide +kernel) (by decide +kernel)
theorem wq_166 : Cond.code yX0_init cX0_init 1 none ∈ zTB := zTB_mem 293 (by decide +kernel) (by decide +kernel)
theorem wq_378 : Cond.fieldLink "AlpCommune" (46 : Nat) "AlpCommune" "way" "LAlpCommune$Way;" ∈ zTB := zTB_mem 505 (by decide +kernel) (by decide +kernel)
theorem wq_216 : Cond.classLink "AlpCommune" (43 : Nat) "AlpCommune$Way" ∈ zTB := zTB_mem 343 (by decide +kernel) (by decide +kernel)
theorem wq_217 : Cond.instantiable "AlpCommune$Way" (7 : Nat) ∈ zTB := zTB_mem 344 (by decide +kernel) (by decide +kernel)
theorem wq_7 : Cond.initialized "AlpCommune$Way" ∈ zTB := zTB_mem 134 (by decide +kernel) (by decide +kernel)
theorem wq_n218 : Cond.methodLinkNest RX10 45 yX7_init "AlpCommune" ∈ zNest := zNest_mem 218 (by decide +kernel) (by decide +kernel)
theorem wq_219 : Cond.instanceMethod ({ cls := "AlpCommune$Way", name := "<init>", desc := "()V" } : MethodName) ∈ zTB := zTB_mem 346 (by decide +kernel) (by decide +kernel)
theorem wq_220 : Cond.code yX7_init cX7_init 2 none ∈ zTB := zTB_mem 347 (by decide +kernel) (by decide +kernel)
theorem wq_379 : Cond.fieldLink "AlpCommune" (53 : Nat) "AlpCommune" "water" "LAlpCommune$Channel;" ∈ zTB := zTB_mem 506 (by decide +kernel) (by decide +kernel)
theorem wq_281 : Cond.classLink "AlpCommune" (50 : Nat) "AlpCommune$Channel" ∈ zTB := zTB_mem 408 (by decide +kernel) (by decide +kernel)
theorem wq_282 : Cond.instantiable "AlpCommune$Channel" (3 : Nat) ∈ zTB := zTB_mem 409 (by decide +kernel) (by decide +kernel)
theorem wq_9 : Cond.initialized "AlpCommune$Channel" ∈ zTB := zTB_mem 136 (by decide +kernel) (by decide +kernel)
theorem wq_n283 : Cond.methodLinkNest RX10 52 yX1_init "AlpCommune" ∈ zNest := zNest_mem 283 (by decide +kernel) (by decide +kernel)
theorem wq_284 : Cond.instanceMethod ({ cls := "AlpCommune$Channel", name := "<init>", desc := "()V" } : MethodName) ∈ zTB := zTB_mem 411 (by decide +kernel) (by decide +kernel)
theorem wq_285 : Cond.code yX1_init cX1_init 1 none ∈ zTB := zTB_mem 412 (by decide +kernel) (by decide +kernel)
theorem wq_380 : Cond.fieldLink "AlpCommune" (59 : Nat) "AlpCommune" "sheets" "[LAlpCommune$Sheet;" ∈ zTB := zTB_mem 507 (by decide +kernel) (by decide +kernel)
theorem wq_300 : Cond.classLink "AlpCommune" (57 : Nat) "AlpCommune$Sheet" ∈ zTB := zTB_mem 427 (by decide +kernel) (by decide +kernel)
theorem wq_381 : Cond.fieldLink "AlpCommune" (65 : Nat) "AlpCommune" "drives" "[[I" ∈ zTB := zTB_mem 508 (by decide +kernel) (by decide +kernel)
theorem wq_302 : Cond.classLink "AlpCommune" (63 : Nat) "[[I" ∈ zTB := zTB_mem 429 (by decide +kernel) (by decide +kernel)
theorem wq_385 : Cond.fieldLink "AlpCommune" (68 : Nat) "AlpCommune" "yearTold" "I" ∈ zTB := zTB_mem 512 (by decide +kernel) (by decide +kernel)
theorem wq_386 : Cond.fieldLink "AlpCommune" (72 : Nat) "AlpCommune" "lastTurn" "[I" ∈ zTB := zTB_mem 513 (by decide +kernel) (by decide +kernel)
theorem wq_388 : Cond.fieldLink "AlpCommune" (76 : Nat) "AlpCommune" "bodies" "[I" ∈ zTB := zTB_mem 515 (by decide +kernel) (by decide +kernel)
section YX10
variable {E : zEn} {nL h n0 c0 mc ms : Nat} {Z : zLay} {D : zDm} {Q : State → Prop}
def fX10_0 : List Value := [.null, .int 0, .null, .null, .null, .null, .null, .null, .null, .null, .int 0, .int 0, .int 0, .int 0, .null, .int 0, .null, .int 0]
theorem nfX10 : ∀ j, j < 18 → defaultValue (tyX10 j) = vp_V fX10_0 j := by decide +kernel
def eX10_0 (Z : zLay) (D : zDm) : zDm := D
theorem sX10_0 (C : zCN E cX10_init RX10 2 Z h n0 c0 342 18353) (hh : 3 ≤ h) (hc : c0 = 1) (kk : zNN E 2 Z n0 Q 4 [(0, .ref (zad Z 0 0))] [] (zDu (eX10_0 Z D) 0 0 (.inr (10, fX10_0))) 0 0) : zNN E 2 Z n0 Q 0 [(0, .ref (zad Z 0 0))] [] (zDu (eX10_0 Z D) 0 0 (.inr (10, fX10_0))) 0 0 := by
  subst hc
  refine zn_aload_n C dX10_init_0 rfl ?_
  refine zn_obj C wq_25 wq_26 wq_27 dX10_init_1 (by omega) (Nat.le_of_ble_eq_true rfl) ?_
  exact kk
def fX10_1 (Z : zLay) : List Value := [.ref (zad Z 1 0), .int 0, .null, .null, .null, .null, .null, .null, .null, .null, .int 0, .int 0, .int 0, .int 0, .null, .int 0, .null, .int 0]
def eX10_1 (Z : zLay) (D : zDm) : zDm := (zDu (zDu (eX10_0 Z D) 0 0 (.inr (10, fX10_0))) 1 0 (.inl (zca Z 5, 10, .inr (.inr (.inr (.inr (fun _ => none)))))))
theorem sX10_4 (C : zCN E cX10_init RX10 2 Z h n0 c0 342 18353) (hh : 3 ≤ h) (hc : c0 = 1) (kk : zNN E 2 Z n0 Q 13 [(0, .ref (zad Z 0 0))] [] (zDu (eX10_1 Z D) 0 0 (.inr (10, fX10_1 Z))) 1 10) : zNN E 2 Z n0 Q 4 [(0, .ref (zad Z 0 0))] [] (zDu (eX10_0 Z D) 0 0 (.inr (10, fX10_0))) 0 0 := by
  subst hc
  refine zn_aload_n C dX10_init_4 rfl ?_
  refine zn_bipush C dX10_init_5 (v := 10) (by decide) ?_
  refine zn_anew C (Cn := RX2) (k := 1) (i := 0) (t0 := 5) (N := 10) wq_28 (by unfold zOvL; simp [RX2]) rfl dX10_init_7 (by decide) (by decide) (by decide) (by decide) rfl (by omega) (by omega) ?_
  refine zn_putF C (by decide +kernel) 0 zin_X10 rfl (Nat.le_of_ble_eq_true rfl) rfl rfl tyX10_ok nmX10 rfl (ty := tyX10 0) (by decide +kernel) wq_372 dX10_init_10 (zDu_o (by decide) (zDu_i _ _ _ _)) (Nat.le_of_ble_eq_true rfl) rfl rfl ?_
  exact kk
def fX10_2 (Z : zLay) : List Value := [.ref (zad Z 1 0), .int 0, .ref (zad Z 5 0), .null, .null, .null, .null, .null, .null, .null, .int 0, .int 0, .int 0, .int 0, .null, .int 0, .null, .int 0]
def eX10_2 (Z : zLay) (D : zDm) : zDm := (gX3 Z (zDu (eX10_1 Z D) 0 0 (.inr (10, fX10_1 Z))))
theorem sX10_13 (C : zCN E cX10_init RX10 2 Z h n0 c0 342 18353) (hh : 3 ≤ h) (hc : c0 = 1) (kk : zNN E 2 Z n0 Q 24 [(0, .ref (zad Z 0 0))] [] (zDu (eX10_2 Z D) 0 0 (.inr (10, fX10_2 Z))) 7 266) : zNN E 2 Z n0 Q 13 [(0, .ref (zad Z 0 0))] [] (zDu (eX10_1 Z D) 0 0 (.inr (10, fX10_1 Z))) 1 10 := by
  subst hc
  refine zn_aload_n C dX10_init_13 rfl ?_
  refine zn_new C (Cn := RX3) (T := TX3) (N := 6) (ci := 3) (fs := fX3_0) (k := 5) (i := 0) zin_X3 tyX3_ok rfl nfX3 wq_30 wq_31 wq_2 dX10_init_14 (by decide) rfl (by omega) (by omega) ?_
  refine zn_dup C dX10_init_17 rfl ?_
  refine zn_callN C (mX3 (D := (zDu (eX10_1 Z D) 0 0 (.inr (10, fX10_1 Z)))) rfl) rfl wq_n32 wq_33 wq_34 wq_2 (by decide +kernel) (by decide) (by omega) (by omega) (by omega) dX10_init_18 (Nat.le_of_ble_eq_true rfl) ?_
  refine zn_putF C (by decide +kernel) 2 zin_X10 rfl (Nat.le_of_ble_eq_true rfl) rfl rfl tyX10_ok nmX10 rfl (ty := tyX10 2) (by decide +kernel) wq_374 dX10_init_21 (gX3_o (by decide) (zDu_i _ _ _ _)) (Nat.le_of_ble_eq_true rfl) rfl rfl ?_
  exact kk
def fX10_3 (Z : zLay) : List Value := [.ref (zad Z 1 0), .int 0, .ref (zad Z 5 0), .ref (zad Z 11 0), .null, .null, .null, .null, .null, .null, .int 0, .int 0, .int 0, .int 0, .null, .int 0, .null, .int 0]
def eX10_3 (Z : zLay) (D : zDm) : zDm := (gX9 Z (zDu (eX10_2 Z D) 0 0 (.inr (10, fX10_2 Z))))
theorem sX10_24 (C : zCN E cX10_init RX10 2 Z h n0 c0 342 18353) (hh : 3 ≤ h) (hc : c0 = 1) (kk : zNN E 2 Z n0 Q 35 [(0, .ref (zad Z 0 0))] [] (zDu (eX10_3 Z D) 0 0 (.inr (10, fX10_3 Z))) 250 1691) : zNN E 2 Z n0 Q 24 [(0, .ref (zad Z 0 0))] [] (zDu (eX10_2 Z D) 0 0 (.inr (10, fX10_2 Z))) 7 266 := by
  subst hc
  refine zn_aload_n C dX10_init_24 rfl ?_
  refine zn_new C (Cn := RX9) (T := TX9) (N := 5) (ci := 9) (fs := fX9_0) (k := 11) (i := 0) zin_X9 tyX9_ok rfl nfX9 wq_62 wq_63 wq_3 dX10_init_25 (by decide) rfl (by omega) (by omega) ?_
  refine zn_dup C dX10_init_28 rfl ?_
  refine zn_callN C (mX9 (D := (zDu (eX10_2 Z D) 0 0 (.inr (10, fX10_2 Z)))) rfl) rfl wq_n64 wq_65 wq_66 wq_3 (by decide +kernel) (by decide) (by omega) (by omega) (by omega) dX10_init_29 (Nat.le_of_ble_eq_true rfl) ?_
  refine zn_putF C (by decide +kernel) 3 zin_X10 rfl (Nat.le_of_ble_eq_true rfl) rfl rfl tyX10_ok nmX10 rfl (ty := tyX10 3) (by decide +kernel) wq_375 dX10_init_32 (gX9_o (by decide) (zDu_i _ _ _ _)) (Nat.le_of_ble_eq_true rfl) rfl rfl ?_
  exact kk
def fX10_4 (Z : zLay) : List Value := [.ref (zad Z 1 0), .int 0, .ref (zad Z 5 0), .ref (zad Z 11 0), .ref (zad Z 20 0), .null, .null, .null, .null, .null, .int 0, .int 0, .int 0, .int 0, .null, .int 0, .null, .int 0]
def eX10_4 (Z : zLay) (D : zDm) : zDm := (gX5 Z (zDu (eX10_3 Z D) 0 0 (.inr (10, fX10_3 Z))))
theorem sX10_35 (C : zCN E cX10_init RX10 2 Z h n0 c0 342 18353) (hh : 3 ≤ h) (hc : c0 = 1) (kk : zNN E 2 Z n0 Q 46 [(0, .ref (zad Z 0 0))] [] (zDu (eX10_4 Z D) 0 0 (.inr (10, fX10_4 Z))) 257 16337) : zNN E 2 Z n0 Q 35 [(0, .ref (zad Z 0 0))] [] (zDu (eX10_3 Z D) 0 0 (.inr (10, fX10_3 Z))) 250 1691 := by
  subst hc
  refine zn_aload_n C dX10_init_35 rfl ?_
  refine zn_new C (Cn := RX5) (T := TX5) (N := 2) (ci := 5) (fs := fX5_0) (k := 20) (i := 0) zin_X5 tyX5_ok rfl nfX5 wq_144 wq_145 wq_5 dX10_init_36 (by decide) rfl (by omega) (by omega) ?_
  refine zn_dup C dX10_init_39 rfl ?_
  refine zn_callN C (mX5 (D := (zDu (eX10_3 Z D) 0 0 (.inr (10, fX10_3 Z)))) rfl) rfl wq_n146 wq_147 wq_148 wq_5 (by decide +kernel) (by decide) (by omega) (by omega) (by omega) dX10_init_40 (Nat.le_of_ble_eq_true rfl) ?_
  refine zn_putF C (by decide +kernel) 4 zin_X10 rfl (Nat.le_of_ble_eq_true rfl) rfl rfl tyX10_ok nmX10 rfl (ty := tyX10 4) (by decide +kernel) wq_376 dX10_init_43 (gX5_o (by decide) (zDu_i _ _ _ _)) (Nat.le_of_ble_eq_true rfl) rfl rfl ?_
  exact kk
def fX10_5 (Z : zLay) : List Value := [.ref (zad Z 1 0), .int 0, .ref (zad Z 5 0), .ref (zad Z 11 0), .ref (zad Z 20 0), .ref (zad Z 25 0), .null, .null, .null, .null, .int 0, .int 0, .int 0, .int 0, .null, .int 0, .null, .int 0]
def eX10_5 (Z : zLay) (D : zDm) : zDm := (gX0 Z (zDu (eX10_4 Z D) 0 0 (.inr (10, fX10_4 Z))))
theorem sX10_46 (C : zCN E cX10_init RX10 2 Z h n0 c0 342 18353) (hh : 3 ≤ h) (hc : c0 = 1) (kk : zNN E 2 Z n0 Q 57 [(0, .ref (zad Z 0 0))] [] (zDu (eX10_5 Z D) 0 0 (.inr (10, fX10_5 Z))) 273 16576) : zNN E 2 Z n0 Q 46 [(0, .ref (zad Z 0 0))] [] (zDu (eX10_4 Z D) 0 0 (.inr (10, fX10_4 Z))) 257 16337 := by
  subst hc
  refine zn_aload_n C dX10_init_46 rfl ?_
  refine zn_new C (Cn := RX0) (T := TX0) (N := 12) (ci := 0) (fs := fX0_0) (k := 25) (i := 0) zin_X0 tyX0_ok rfl nfX0 wq_162 wq_163 wq_6 dX10_init_47 (by decide) rfl (by omega) (by omega) ?_
  refine zn_dup C dX10_init_50 rfl ?_
  refine zn_callN C (mX0 (D := (zDu (eX10_4 Z D) 0 0 (.inr (10, fX10_4 Z)))) rfl) rfl wq_n164 wq_165 wq_166 wq_6 (by decide +kernel) (by decide) (by omega) (by omega) (by omega) dX10_init_51 (Nat.le_of_ble_eq_true rfl) ?_
  refine zn_putF C (by decide +kernel) 5 zin_X10 rfl (Nat.le_of_ble_eq_true rfl) rfl rfl tyX10_ok nmX10 rfl (ty := tyX10 5) (by decide +kernel) wq_377 dX10_init_54 (gX0_o (by decide) (zDu_i _ _ _ _)) (Nat.le_of_ble_eq_true rfl) rfl rfl ?_
  exact kk
def fX10_6 (Z : zLay) : List Value := [.ref (zad Z 1 0), .int 0, .ref (zad Z 5 0), .ref (zad Z 11 0), .ref (zad Z 20 0), .ref (zad Z 25 0), .ref (zad Z 38 0), .null, .null, .null, .int 0, .int 0, .int 0, .int 0, .null, .int 0, .null, .int 0]
def eX10_6 (Z : zLay) (D : zDm) : zDm := (gX7 Z (zDu (eX10_5 Z D) 0 0 (.inr (10, fX10_5 Z))))
theorem sX10_57 (C : zCN E cX10_init RX10 2 Z h n0 c0 342 18353) (hh : 3 ≤ h) (hc : c0 = 1) (kk : zNN E 2 Z n0 Q 68 [(0, .ref (zad Z 0 0))] [] (zDu (eX10_6 Z D) 0 0 (.inr (10, fX10_6 Z))) 293 16709) : zNN E 2 Z n0 Q 57 [(0, .ref (zad Z 0 0))] [] (zDu (eX10_5 Z D) 0 0 (.inr (10, fX10_5 Z))) 273 16576 := by
  subst hc
  refine zn_aload_n C dX10_init_57 rfl ?_
  refine zn_new C (Cn := RX7) (T := TX7) (N := 7) (ci := 7) (fs := fX7_0) (k := 38) (i := 0) zin_X7 tyX7_ok rfl nfX7 wq_216 wq_217 wq_7 dX10_init_58 (by decide) rfl (by omega) (by omega) ?_
  refine zn_dup C dX10_init_61 rfl ?_
  refine zn_callN C (mX7 (D := (zDu (eX10_5 Z D) 0 0 (.inr (10, fX10_5 Z)))) rfl) rfl wq_n218 wq_219 wq_220 wq_7 (by decide +kernel) (by decide) (by omega) (by omega) (by omega) dX10_init_62 (Nat.le_of_ble_eq_true rfl) ?_
  refine zn_putF C (by decide +kernel) 6 zin_X10 rfl (Nat.le_of_ble_eq_true rfl) rfl rfl tyX10_ok nmX10 rfl (ty := tyX10 6) (by decide +kernel) wq_378 dX10_init_65 (gX7_o (by decide) (zDu_i _ _ _ _)) (Nat.le_of_ble_eq_true rfl) rfl rfl ?_
  exact kk
def fX10_7 (Z : zLay) : List Value := [.ref (zad Z 1 0), .int 0, .ref (zad Z 5 0), .ref (zad Z 11 0), .ref (zad Z 20 0), .ref (zad Z 25 0), .ref (zad Z 38 0), .ref (zad Z 43 0), .null, .null, .int 0, .int 0, .int 0, .int 0, .null, .int 0, .null, .int 0]
def eX10_7 (Z : zLay) (D : zDm) : zDm := (gX1 Z (zDu (eX10_6 Z D) 0 0 (.inr (10, fX10_6 Z))))
theorem sX10_68 (C : zCN E cX10_init RX10 2 Z h n0 c0 342 18353) (hh : 3 ≤ h) (hc : c0 = 1) (kk : zNN E 2 Z n0 Q 79 [(0, .ref (zad Z 0 0))] [] (zDu (eX10_7 Z D) 0 0 (.inr (10, fX10_7 Z))) 296 16732) : zNN E 2 Z n0 Q 68 [(0, .ref (zad Z 0 0))] [] (zDu (eX10_6 Z D) 0 0 (.inr (10, fX10_6 Z))) 293 16709 := by
  subst hc
  refine zn_aload_n C dX10_init_68 rfl ?_
  refine zn_new C (Cn := RX1) (T := TX1) (N := 3) (ci := 1) (fs := fX1_0) (k := 43) (i := 0) zin_X1 tyX1_ok rfl nfX1 wq_281 wq_282 wq_9 dX10_init_69 (by decide) rfl (by omega) (by omega) ?_
  refine zn_dup C dX10_init_72 rfl ?_
  refine zn_callN C (mX1 (D := (zDu (eX10_6 Z D) 0 0 (.inr (10, fX10_6 Z)))) rfl) rfl wq_n283 wq_284 wq_285 wq_9 (by decide +kernel) (by decide) (by omega) (by omega) (by omega) dX10_init_73 (Nat.le_of_ble_eq_true rfl) ?_
  refine zn_putF C (by decide +kernel) 7 zin_X10 rfl (Nat.le_of_ble_eq_true rfl) rfl rfl tyX10_ok nmX10 rfl (ty := tyX10 7) (by decide +kernel) wq_379 dX10_init_76 (gX1_o (by decide) (zDu_i _ _ _ _)) (Nat.le_of_ble_eq_true rfl) rfl rfl ?_
  exact kk
def fX10_8 (Z : zLay) : List Value := [.ref (zad Z 1 0), .int 0, .ref (zad Z 5 0), .ref (zad Z 11 0), .ref (zad Z 20 0), .ref (zad Z 25 0), .ref (zad Z 38 0), .ref (zad Z 43 0), .ref (zad Z 46 0), .null, .int 0, .int 0, .int 0, .int 0, .null, .int 0, .null, .int 0]
def eX10_8 (Z : zLay) (D : zDm) : zDm := (zDu (zDu (eX10_7 Z D) 0 0 (.inr (10, fX10_7 Z))) 46 0 (.inl (zca Z 8, 3, .inr (.inr (.inr (.inr (fun _ => none)))))))
theorem sX10_79 (C : zCN E cX10_init RX10 2 Z h n0 c0 342 18353) (hh : 3 ≤ h) (hc : c0 = 1) (kk : zNN E 2 Z n0 Q 87 [(0, .ref (zad Z 0 0))] [] (zDu (eX10_8 Z D) 0 0 (.inr (10, fX10_8 Z))) 297 16735) : zNN E 2 Z n0 Q 79 [(0, .ref (zad Z 0 0))] [] (zDu (eX10_7 Z D) 0 0 (.inr (10, fX10_7 Z))) 296 16732 := by
  subst hc
  refine zn_aload_n C dX10_init_79 rfl ?_
  refine zn_iconst C dX10_init_80 (v := 3) (by decide) ?_
  refine zn_anew C (Cn := RX4) (k := 46) (i := 0) (t0 := 8) (N := 3) wq_300 (by unfold zOvL; simp [RX4]) rfl dX10_init_81 (by decide) (by decide) (by decide) (by decide) rfl (by omega) (by omega) ?_
  refine zn_putF C (by decide +kernel) 8 zin_X10 rfl (Nat.le_of_ble_eq_true rfl) rfl rfl tyX10_ok nmX10 rfl (ty := tyX10 8) (by decide +kernel) wq_380 dX10_init_84 (zDu_o (by decide) (zDu_i _ _ _ _)) (Nat.le_of_ble_eq_true rfl) rfl rfl ?_
  exact kk
def fX10_9 (Z : zLay) : List Value := [.ref (zad Z 1 0), .int 0, .ref (zad Z 5 0), .ref (zad Z 11 0), .ref (zad Z 20 0), .ref (zad Z 25 0), .ref (zad Z 38 0), .ref (zad Z 43 0), .ref (zad Z 46 0), .ref (zad Z 49 0), .int 0, .int 0, .int 0, .int 0, .null, .int 0, .null, .int 0]
def eX10_9 (Z : zLay) (D : zDm) : zDm := (zDr (zDu (zDu (eX10_8 Z D) 0 0 (.inr (10, fX10_8 Z))) 49 0 (.inl (zca Z 9, 6, .inr (.inr (.inr (.inr (fun i => if i < 6 then some (zad Z 50 i) else none))))))) 50 6 (.inl (zca Z 0, (200, .inl fun _ => 0))))
theorem sX10_87 (C : zCN E cX10_init RX10 2 Z h n0 c0 342 18353) (hh : 3 ≤ h) (hc : c0 = 1) (kk : zNN E 2 Z n0 Q 100 [(0, .ref (zad Z 0 0))] [] (zDu (eX10_9 Z D) 0 0 (.inr (10, fX10_9 Z))) 304 17941) : zNN E 2 Z n0 Q 87 [(0, .ref (zad Z 0 0))] [] (zDu (eX10_8 Z D) 0 0 (.inr (10, fX10_8 Z))) 297 16735 := by
  subst hc
  refine zn_aload_n C dX10_init_87 rfl ?_
  refine zn_bipush C dX10_init_88 (v := 6) (by decide) ?_
  refine zn_sipush C dX10_init_90 (v := 200) (by decide) ?_
  refine zn_mna C (ty := .int) (N := 6) (M := 200) (t0 := 9) (t1 := 0) (k := 49) (k1 := 50) (a0 := (200, .inl fun _ => 0)) wq_302 (by unfold zOvL; simp) wq_61 rfl rfl (fun _ _ q => q) dX10_init_93 (by decide) (by decide) (by decide) (by decide) (by decide) (by decide) (by decide) rfl rfl (fun _ => rfl) (by decide) (by decide) rfl (fun j _ => by show 299 + 1 * j = 1 + 297 + 1 + j; omega) (by omega) (by omega) ?_
  refine zn_putF C (by decide +kernel) 9 zin_X10 rfl (Nat.le_of_ble_eq_true rfl) rfl rfl tyX10_ok nmX10 rfl (ty := tyX10 9) (by decide +kernel) wq_381 dX10_init_97 (zDr_o (by decide) (zDu_o (by decide) (zDu_i _ _ _ _))) (Nat.le_of_ble_eq_true rfl) rfl rfl ?_
  exact kk
def fX10_10 (Z : zLay) : List Value := [.ref (zad Z 1 0), .int 0, .ref (zad Z 5 0), .ref (zad Z 11 0), .ref (zad Z 20 0), .ref (zad Z 25 0), .ref (zad Z 38 0), .ref (zad Z 43 0), .ref (zad Z 46 0), .ref (zad Z 49 0), .int 0, .int 0, .int 0, .int (-1), .null, .int 0, .null, .int 0]
def eX10_10 (Z : zLay) (D : zDm) : zDm := (zDu (eX10_9 Z D) 0 0 (.inr (10, fX10_9 Z)))
theorem sX10_100 (C : zCN E cX10_init RX10 2 Z h n0 c0 342 18353) (hh : 3 ≤ h) (hc : c0 = 1) (kk : zNN E 2 Z n0 Q 105 [(0, .ref (zad Z 0 0))] [] (zDu (eX10_10 Z D) 0 0 (.inr (10, fX10_10 Z))) 304 17941) : zNN E 2 Z n0 Q 100 [(0, .ref (zad Z 0 0))] [] (zDu (eX10_9 Z D) 0 0 (.inr (10, fX10_9 Z))) 304 17941 := by
  subst hc
  refine zn_aload_n C dX10_init_100 rfl ?_
  refine zn_iconst C dX10_init_101 (v := (-1)) (by decide) ?_
  refine zn_put C 13 zin_X10 rfl (Nat.le_of_ble_eq_true rfl) rfl tyX10_ok nmX10 rfl (ty := tyX10 13) (by decide +kernel) wq_385 dX10_init_102 (zDu_i _ _ _ _) (Nat.le_of_ble_eq_true rfl) rfl rfl ?_
  exact kk
def fX10_11 (Z : zLay) : List Value := [.ref (zad Z 1 0), .int 0, .ref (zad Z 5 0), .ref (zad Z 11 0), .ref (zad Z 20 0), .ref (zad Z 25 0), .ref (zad Z 38 0), .ref (zad Z 43 0), .ref (zad Z 46 0), .ref (zad Z 49 0), .int 0, .int 0, .int 0, .int (-1), .ref (zad Z 51 0), .int 0, .null, .int 0]
def eX10_11 (Z : zLay) (D : zDm) : zDm := (zDu (zDu (zDu (zDu (zDu (eX10_10 Z D) 0 0 (.inr (10, fX10_10 Z))) 51 0 (.inl (zca Z 0, 3, .inl fun _ => 0))) 51 0 (.inl (zca Z 0, 3, .inl (fun j => if j = (0 : Int32).toNatClampNeg then (-1) else 0)))) 51 0 (.inl (zca Z 0, 3, .inl (fun j => if j = (1 : Int32).toNatClampNeg then (-1) else (fun j => if j = (0 : Int32).toNatClampNeg then (-1) else 0) j)))) 51 0 (.inl (zca Z 0, 3, .inl (fun j => if j = (2 : Int32).toNatClampNeg then (-1) else (fun j => if j = (1 : Int32).toNatClampNeg then (-1) else (fun j => if j = (0 : Int32).toNatClampNeg then (-1) else 0) j) j))))
theorem sX10_105 (C : zCN E cX10_init RX10 2 Z h n0 c0 342 18353) (hh : 3 ≤ h) (hc : c0 = 1) (kk : zNN E 2 Z n0 Q 124 [(0, .ref (zad Z 0 0))] [] (zDu (eX10_11 Z D) 0 0 (.inr (10, fX10_11 Z))) 305 17944) : zNN E 2 Z n0 Q 105 [(0, .ref (zad Z 0 0))] [] (zDu (eX10_10 Z D) 0 0 (.inr (10, fX10_10 Z))) 304 17941 := by
  subst hc
  refine zn_aload_n C dX10_init_105 rfl ?_
  refine zn_iconst C dX10_init_106 (v := 3) (by decide) ?_
  refine zn_newa C (atype := .int) (k := 51) (i := 0) (t0 := 0) (N := 3) (a0 := (3, .inl fun _ => 0)) wq_61 rfl dX10_init_107 (by decide) (by decide) (by decide) (fun _ => rfl) (by decide) rfl (by omega) (by omega) ?_
  refine zn_dup C dX10_init_109 rfl ?_
  refine zn_iconst C dX10_init_110 (v := 0) (by decide) ?_
  refine zn_iconst C dX10_init_111 (v := (-1)) (by decide) ?_
  refine zn_iast C (k := 51) (i := 0) (zDu_i _ _ _ _) (by decide) (by decide) dX10_init_112 ?_
  refine zn_dup C dX10_init_113 rfl ?_
  refine zn_iconst C dX10_init_114 (v := 1) (by decide) ?_
  refine zn_iconst C dX10_init_115 (v := (-1)) (by decide) ?_
  refine zn_iast C (k := 51) (i := 0) (zDu_i _ _ _ _) (by decide) (by decide) dX10_init_116 ?_
  refine zn_dup C dX10_init_117 rfl ?_
  refine zn_iconst C dX10_init_118 (v := 2) (by decide) ?_
  refine zn_iconst C dX10_init_119 (v := (-1)) (by decide) ?_
  refine zn_iast C (k := 51) (i := 0) (zDu_i _ _ _ _) (by decide) (by decide) dX10_init_120 ?_
  refine zn_putF C (by decide +kernel) 14 zin_X10 rfl (Nat.le_of_ble_eq_true rfl) rfl rfl tyX10_ok nmX10 rfl (ty := tyX10 14) (by decide +kernel) wq_386 dX10_init_121 (zDu_o (by decide) (zDu_o (by decide) (zDu_o (by decide) (zDu_o (by decide) (zDu_i _ _ _ _))))) (Nat.le_of_ble_eq_true rfl) rfl rfl ?_
  exact kk
def fX10_12 (Z : zLay) : List Value := [.ref (zad Z 1 0), .int 0, .ref (zad Z 5 0), .ref (zad Z 11 0), .ref (zad Z 20 0), .ref (zad Z 25 0), .ref (zad Z 38 0), .ref (zad Z 43 0), .ref (zad Z 46 0), .ref (zad Z 49 0), .int 0, .int 0, .int 0, .int (-1), .ref (zad Z 51 0), .int 0, .ref (zad Z 52 0), .int 0]
def eX10_12 (Z : zLay) (D : zDm) : zDm := (zDu (zDu (eX10_11 Z D) 0 0 (.inr (10, fX10_11 Z))) 52 0 (.inl (zca Z 0, 20, .inl fun _ => 0)))
theorem sX10_124 (C : zCN E cX10_init RX10 2 Z h n0 c0 342 18353) (hh : 3 ≤ h) (hc : c0 = 1) (kk : zNN E 2 Z n0 Q 132 [(0, .ref (zad Z 0 0))] [] (zDu (eX10_12 Z D) 0 0 (.inr (10, fX10_12 Z))) 306 17964) : zNN E 2 Z n0 Q 124 [(0, .ref (zad Z 0 0))] [] (zDu (eX10_11 Z D) 0 0 (.inr (10, fX10_11 Z))) 305 17944 := by
  subst hc
  refine zn_aload_n C dX10_init_124 rfl ?_
  refine zn_bipush C dX10_init_125 (v := 20) (by decide) ?_
  refine zn_newa C (atype := .int) (k := 52) (i := 0) (t0 := 0) (N := 20) (a0 := (20, .inl fun _ => 0)) wq_61 rfl dX10_init_127 (by decide) (by decide) (by decide) (fun _ => rfl) (by decide) rfl (by omega) (by omega) ?_
  refine zn_putF C (by decide +kernel) 16 zin_X10 rfl (Nat.le_of_ble_eq_true rfl) rfl rfl tyX10_ok nmX10 rfl (ty := tyX10 16) (by decide +kernel) wq_388 dX10_init_129 (zDu_o (by decide) (zDu_i _ _ _ _)) (Nat.le_of_ble_eq_true rfl) rfl rfl ?_
  exact kk
end YX10
theorem eX10_0_o {Z : zLay} {D : zDm} {a b : Nat} {y : va_E} (h : D a b = some y) : eX10_0 Z D a b = some y := h
theorem eX10_1_o {Z : zLay} {D : zDm} {a b : Nat} {y : va_E} (w : a < 0 ∨ 52 < a) (h : D a b = some y) : eX10_1 Z D a b = some y := zDu_o (by omega) (zDu_o (by omega) (eX10_0_o h))
theorem eX10_2_o {Z : zLay} {D : zDm} {a b : Nat} {y : va_E} (w : a < 0 ∨ 52 < a) (h : D a b = some y) : eX10_2 Z D a b = some y := gX3_o (by omega) (zDu_o (by omega) (eX10_1_o w h))
theorem eX10_3_o {Z : zLay} {D : zDm} {a b : Nat} {y : va_E} (w : a < 0 ∨ 52 < a) (h : D a b = some y) : eX10_3 Z D a b = some y := gX9_o (by omega) (zDu_o (by omega) (eX10_2_o w h))
theorem eX10_4_o {Z : zLay} {D : zDm} {a b : Nat} {y : va_E} (w : a < 0 ∨ 52 < a) (h : D a b = some y) : eX10_4 Z D a b = some y := gX5_o (by omega) (zDu_o (by omega) (eX10_3_o w h))
theorem eX10_5_o {Z : zLay} {D : zDm} {a b : Nat} {y : va_E} (w : a < 0 ∨ 52 < a) (h : D a b = some y) : eX10_5 Z D a b = some y := gX0_o (by omega) (zDu_o (by omega) (eX10_4_o w h))
theorem eX10_6_o {Z : zLay} {D : zDm} {a b : Nat} {y : va_E} (w : a < 0 ∨ 52 < a) (h : D a b = some y) : eX10_6 Z D a b = some y := gX7_o (by omega) (zDu_o (by omega) (eX10_5_o w h))
theorem eX10_7_o {Z : zLay} {D : zDm} {a b : Nat} {y : va_E} (w : a < 0 ∨ 52 < a) (h : D a b = some y) : eX10_7 Z D a b = some y := gX1_o (by omega) (zDu_o (by omega) (eX10_6_o w h))
theorem eX10_8_o {Z : zLay} {D : zDm} {a b : Nat} {y : va_E} (w : a < 0 ∨ 52 < a) (h : D a b = some y) : eX10_8 Z D a b = some y := zDu_o (by omega) (zDu_o (by omega) (eX10_7_o w h))
theorem eX10_9_o {Z : zLay} {D : zDm} {a b : Nat} {y : va_E} (w : a < 0 ∨ 52 < a) (h : D a b = some y) : eX10_9 Z D a b = some y := zDr_o (by omega) (zDu_o (by omega) (zDu_o (by omega) (eX10_8_o w h)))
theorem eX10_10_o {Z : zLay} {D : zDm} {a b : Nat} {y : va_E} (w : a < 0 ∨ 52 < a) (h : D a b = some y) : eX10_10 Z D a b = some y := zDu_o (by omega) (eX10_9_o w h)
theorem eX10_11_o {Z : zLay} {D : zDm} {a b : Nat} {y : va_E} (w : a < 0 ∨ 52 < a) (h : D a b = some y) : eX10_11 Z D a b = some y := zDu_o (by omega) (zDu_o (by omega) (zDu_o (by omega) (zDu_o (by omega) (zDu_o (by omega) (eX10_10_o w h)))))
theorem eX10_12_o {Z : zLay} {D : zDm} {a b : Nat} {y : va_E} (w : a < 0 ∨ 52 < a) (h : D a b = some y) : eX10_12 Z D a b = some y := zDu_o (by omega) (zDu_o (by omega) (eX10_11_o w h))
theorem eX10_12_c {Z : zLay} {D : zDm} {a b : Nat} {y : va_E} (w : a ≠ 0) (v : a < 52) (h : eX10_11 Z D a b = some y) : eX10_12 Z D a b = some y := zDu_o (by omega) (zDu_o (by omega) (h))
theorem eX10_11_c {Z : zLay} {D : zDm} {a b : Nat} {y : va_E} (w : a ≠ 0) (v : a < 51) (h : eX10_10 Z D a b = some y) : eX10_12 Z D a b = some y := eX10_12_c w (by omega) (zDu_o (by omega) (zDu_o (by omega) (zDu_o (by omega) (zDu_o (by omega) (zDu_o (by omega) (h))))))
theorem eX10_10_c {Z : zLay} {D : zDm} {a b : Nat} {y : va_E} (w : a ≠ 0) (v : a < 51) (h : eX10_9 Z D a b = some y) : eX10_12 Z D a b = some y := eX10_11_c w (by omega) (zDu_o (by omega) (h))
theorem eX10_9_c {Z : zLay} {D : zDm} {a b : Nat} {y : va_E} (w : a ≠ 0) (v : a < 49) (h : eX10_8 Z D a b = some y) : eX10_12 Z D a b = some y := eX10_10_c w (by omega) (zDr_o (by omega) (zDu_o (by omega) (zDu_o (by omega) (h))))
theorem eX10_8_c {Z : zLay} {D : zDm} {a b : Nat} {y : va_E} (w : a ≠ 0) (v : a < 46) (h : eX10_7 Z D a b = some y) : eX10_12 Z D a b = some y := eX10_9_c w (by omega) (zDu_o (by omega) (zDu_o (by omega) (h)))
theorem eX10_7_c {Z : zLay} {D : zDm} {a b : Nat} {y : va_E} (w : a ≠ 0) (v : a < 43) (h : eX10_6 Z D a b = some y) : eX10_12 Z D a b = some y := eX10_8_c w (by omega) (gX1_o (by omega) (zDu_o (by omega) (h)))
theorem eX10_6_c {Z : zLay} {D : zDm} {a b : Nat} {y : va_E} (w : a ≠ 0) (v : a < 38) (h : eX10_5 Z D a b = some y) : eX10_12 Z D a b = some y := eX10_7_c w (by omega) (gX7_o (by omega) (zDu_o (by omega) (h)))
theorem eX10_5_c {Z : zLay} {D : zDm} {a b : Nat} {y : va_E} (w : a ≠ 0) (v : a < 25) (h : eX10_4 Z D a b = some y) : eX10_12 Z D a b = some y := eX10_6_c w (by omega) (gX0_o (by omega) (zDu_o (by omega) (h)))
theorem eX10_4_c {Z : zLay} {D : zDm} {a b : Nat} {y : va_E} (w : a ≠ 0) (v : a < 20) (h : eX10_3 Z D a b = some y) : eX10_12 Z D a b = some y := eX10_5_c w (by omega) (gX5_o (by omega) (zDu_o (by omega) (h)))
theorem eX10_3_c {Z : zLay} {D : zDm} {a b : Nat} {y : va_E} (w : a ≠ 0) (v : a < 11) (h : eX10_2 Z D a b = some y) : eX10_12 Z D a b = some y := eX10_4_c w (by omega) (gX9_o (by omega) (zDu_o (by omega) (h)))
theorem eX10_2_c {Z : zLay} {D : zDm} {a b : Nat} {y : va_E} (w : a ≠ 0) (v : a < 5) (h : eX10_1 Z D a b = some y) : eX10_12 Z D a b = some y := eX10_3_c w (by omega) (gX3_o (by omega) (zDu_o (by omega) (h)))
theorem eX10_1_c {Z : zLay} {D : zDm} {a b : Nat} {y : va_E} (w : a ≠ 0) (v : a < 1) (h : eX10_0 Z D a b = some y) : eX10_12 Z D a b = some y := eX10_2_c w (by omega) (zDu_o (by omega) (zDu_o (by omega) (h)))
theorem pX10_1 {Z : zLay} {D : zDm} : eX10_12 Z D 1 0 = some (.inl (zca Z 5, 10, .inr (.inr (.inr (.inr (fun _ => none)))))) := eX10_2_c (by decide) (by decide) (zDu_i _ _ _ _)
theorem pX10_6 {Z : zLay} {D : zDm} : eX10_12 Z D 6 0 = some (.inl (zca Z 0, 50, .inl fun _ => 0)) := eX10_3_c (by decide) (by decide) (qX3_6)
theorem pX10_7 {Z : zLay} {D : zDm} : eX10_12 Z D 7 0 = some (.inl (zca Z 0, 50, .inl fun _ => 0)) := eX10_3_c (by decide) (by decide) (qX3_7)
theorem pX10_8 {Z : zLay} {D : zDm} : eX10_12 Z D 8 0 = some (.inl (zca Z 0, 50, .inl fun _ => 0)) := eX10_3_c (by decide) (by decide) (qX3_8)
theorem pX10_9 {Z : zLay} {D : zDm} : eX10_12 Z D 9 0 = some (.inl (zca Z 0, 50, .inl fun _ => 0)) := eX10_3_c (by decide) (by decide) (qX3_9)
theorem pX10_10 {Z : zLay} {D : zDm} : eX10_12 Z D 10 0 = some (.inl (zca Z 0, 50, .inl fun _ => 0)) := eX10_3_c (by decide) (by decide) (qX3_10)
theorem pX10_5 {Z : zLay} {D : zDm} : eX10_12 Z D 5 0 = some (.inr (3, fX3_5 Z)) := eX10_3_c (by decide) (by decide) (qX3_5)
theorem pX10_19 {Z : zLay} {D : zDm} : eX10_12 Z D 19 0 = some (.inl (zca Z 2, 100, .inl fun _ => 0)) := eX10_4_c (by decide) (by decide) (qX9_19)
theorem pX10_11 {Z : zLay} {D : zDm} : eX10_12 Z D 11 0 = some (.inr (9, fX9_2 Z)) := eX10_4_c (by decide) (by decide) (qX9_11)
theorem pX10_12 {Z : zLay} {D : zDm} : eX10_12 Z D 12 0 = some (.inl (zca Z 6, 40, .inr (.inr (.inr (.inr (zfill Z 13 40)))))) := eX10_4_c (by decide) (by decide) (qX9_12)
theorem pX10_14 {Z : zLay} {D : zDm} {b : Nat} (hb : b < 40) : eX10_12 Z D 14 b = some (.inl (zca Z 0, 4, .inl fun _ => 0)) := eX10_4_c (by decide) (by decide) (qX9_14 hb)
theorem pX10_15 {Z : zLay} {D : zDm} {b : Nat} (hb : b < 40) : eX10_12 Z D 15 b = some (.inl (zca Z 0, 4, .inl fun _ => 0)) := eX10_4_c (by decide) (by decide) (qX9_15 hb)
theorem pX10_16 {Z : zLay} {D : zDm} {b : Nat} (hb : b < 40) : eX10_12 Z D 16 b = some (.inl (zca Z 0, 4, .inl fun _ => 0)) := eX10_4_c (by decide) (by decide) (qX9_16 hb)
theorem pX10_17 {Z : zLay} {D : zDm} {b : Nat} (hb : b < 40) : eX10_12 Z D 17 b = some (.inl (zca Z 4, 4, .inl fun _ => 0)) := eX10_4_c (by decide) (by decide) (qX9_17 hb)
theorem pX10_18 {Z : zLay} {D : zDm} {b : Nat} (hb : b < 40) : eX10_12 Z D 18 b = some (.inl (zca Z 4, 4, .inl fun _ => 0)) := eX10_4_c (by decide) (by decide) (qX9_18 hb)
theorem pX10_13 {Z : zLay} {D : zDm} {b : Nat} (hb : b < 40) : eX10_12 Z D 13 b = some (.inr (8, fX8_5 Z b)) := eX10_4_c (by decide) (by decide) (qX9_13 hb)
theorem pX10_22 {Z : zLay} {D : zDm} {b : Nat} (hb : b < 2) : eX10_12 Z D 22 b = some (.inl (zca Z 3, (7200, .inl fun _ => 0))) := eX10_5_c (by decide) (by decide) (qX5_22 hb)
theorem pX10_21 {Z : zLay} {D : zDm} : eX10_12 Z D 21 0 = some (.inl (zca Z 10, 2, .inr (.inr (.inr (.inr (fun i => if i < 2 then some (zad Z 22 i) else none)))))) := eX10_5_c (by decide) (by decide) (qX5_21)
theorem pX10_24 {Z : zLay} {D : zDm} {b : Nat} (hb : b < 2) : eX10_12 Z D 24 b = some (.inl (zca Z 0, (120, .inl fun _ => 0))) := eX10_5_c (by decide) (by decide) (qX5_24 hb)
theorem pX10_23 {Z : zLay} {D : zDm} : eX10_12 Z D 23 0 = some (.inl (zca Z 9, 2, .inr (.inr (.inr (.inr (fun i => if i < 2 then some (zad Z 24 i) else none)))))) := eX10_5_c (by decide) (by decide) (qX5_23)
theorem pX10_20 {Z : zLay} {D : zDm} : eX10_12 Z D 20 0 = some (.inr (5, fX5_2 Z)) := eX10_5_c (by decide) (by decide) (qX5_20)
theorem pX10_26 {Z : zLay} {D : zDm} : eX10_12 Z D 26 0 = some (.inl (zca Z 0, 4, .inl fun _ => 0)) := eX10_6_c (by decide) (by decide) (qX0_26)
theorem pX10_27 {Z : zLay} {D : zDm} : eX10_12 Z D 27 0 = some (.inl (zca Z 0, 4, .inl fun _ => 0)) := eX10_6_c (by decide) (by decide) (qX0_27)
theorem pX10_28 {Z : zLay} {D : zDm} : eX10_12 Z D 28 0 = some (.inl (zca Z 0, 4, .inl fun _ => 0)) := eX10_6_c (by decide) (by decide) (qX0_28)
theorem pX10_29 {Z : zLay} {D : zDm} : eX10_12 Z D 29 0 = some (.inl (zca Z 0, 4, .inl fun _ => 0)) := eX10_6_c (by decide) (by decide) (qX0_29)
theorem pX10_30 {Z : zLay} {D : zDm} : eX10_12 Z D 30 0 = some (.inl (zca Z 0, 30, .inl fun _ => 0)) := eX10_6_c (by decide) (by decide) (qX0_30)
theorem pX10_31 {Z : zLay} {D : zDm} : eX10_12 Z D 31 0 = some (.inl (zca Z 0, 30, .inl fun _ => 0)) := eX10_6_c (by decide) (by decide) (qX0_31)
theorem pX10_32 {Z : zLay} {D : zDm} : eX10_12 Z D 32 0 = some (.inl (zca Z 0, 5, .inl fun _ => 0)) := eX10_6_c (by decide) (by decide) (qX0_32)
theorem pX10_34 {Z : zLay} {D : zDm} {b : Nat} (hb : b < 4) : eX10_12 Z D 34 b = some (.inl (zca Z 0, (32, .inl fun _ => 0))) := eX10_6_c (by decide) (by decide) (qX0_34 hb)
theorem pX10_33 {Z : zLay} {D : zDm} : eX10_12 Z D 33 0 = some (.inl (zca Z 9, 4, .inr (.inr (.inr (.inr (fun i => if i < 4 then some (zad Z 34 i) else none)))))) := eX10_6_c (by decide) (by decide) (qX0_33)
theorem pX10_35 {Z : zLay} {D : zDm} : eX10_12 Z D 35 0 = some (.inl (zca Z 0, 5, .inl fun _ => 0)) := eX10_6_c (by decide) (by decide) (qX0_35)
theorem pX10_36 {Z : zLay} {D : zDm} : eX10_12 Z D 36 0 = some (.inl (zca Z 0, 4, .inl fun _ => 0)) := eX10_6_c (by decide) (by decide) (qX0_36)
theorem pX10_37 {Z : zLay} {D : zDm} : eX10_12 Z D 37 0 = some (.inl (zca Z 0, 5, .inl fun _ => 0)) := eX10_6_c (by decide) (by decide) (qX0_37)
theorem pX10_25 {Z : zLay} {D : zDm} : eX10_12 Z D 25 0 = some (.inr (0, fX0_11 Z)) := eX10_6_c (by decide) (by decide) (qX0_25)
theorem pX10_38 {Z : zLay} {D : zDm} : eX10_12 Z D 38 0 = some (.inr (7, fX7_1 Z)) := eX10_7_c (by decide) (by decide) (qX7_38)
theorem pX10_39 {Z : zLay} {D : zDm} : eX10_12 Z D 39 0 = some (.inl (zca Z 7, 6, .inr (.inr (.inr (.inr (zfill Z 40 6)))))) := eX10_7_c (by decide) (by decide) (qX7_39)
theorem pX10_41 {Z : zLay} {D : zDm} {b : Nat} (hb : b < 6) : eX10_12 Z D 41 b = some (.inl (zca Z 0, 7, .inl fun _ => 0)) := eX10_7_c (by decide) (by decide) (qX7_41 hb)
theorem pX10_42 {Z : zLay} {D : zDm} {b : Nat} (hb : b < 6) : eX10_12 Z D 42 b = some (.inl (zca Z 4, 7, .inl fun _ => 0)) := eX10_7_c (by decide) (by decide) (qX7_42 hb)
theorem pX10_40 {Z : zLay} {D : zDm} {b : Nat} (hb : b < 6) : eX10_12 Z D 40 b = some (.inr (6, fX6_2 Z b)) := eX10_7_c (by decide) (by decide) (qX7_40 hb)
theorem pX10_44 {Z : zLay} {D : zDm} : eX10_12 Z D 44 0 = some (.inl (zca Z 0, 10, .inl fun _ => 0)) := eX10_8_c (by decide) (by decide) (qX1_44)
theorem pX10_45 {Z : zLay} {D : zDm} : eX10_12 Z D 45 0 = some (.inl (zca Z 0, 10, .inl fun _ => 0)) := eX10_8_c (by decide) (by decide) (qX1_45)
theorem pX10_43 {Z : zLay} {D : zDm} : eX10_12 Z D 43 0 = some (.inr (1, fX1_2 Z)) := eX10_8_c (by decide) (by decide) (qX1_43)
theorem pX10_46 {Z : zLay} {D : zDm} : eX10_12 Z D 46 0 = some (.inl (zca Z 8, 3, .inr (.inr (.inr (.inr (fun _ => none)))))) := eX10_9_c (by decide) (by decide) (zDu_i _ _ _ _)
theorem pX10_50 {Z : zLay} {D : zDm} {b : Nat} (hb : b < 6) : eX10_12 Z D 50 b = some (.inl (zca Z 0, (200, .inl fun _ => 0))) := eX10_10_c (by decide) (by decide) (zDr_i _ hb)
theorem pX10_49 {Z : zLay} {D : zDm} : eX10_12 Z D 49 0 = some (.inl (zca Z 9, 6, .inr (.inr (.inr (.inr (fun i => if i < 6 then some (zad Z 50 i) else none)))))) := eX10_10_c (by decide) (by decide) (zDr_o (by decide) (zDu_i _ _ _ _))
theorem pX10_51 {Z : zLay} {D : zDm} : eX10_12 Z D 51 0 = some (.inl (zca Z 0, 3, .inl (fun j => if j = (2 : Int32).toNatClampNeg then (-1) else (fun j => if j = (1 : Int32).toNatClampNeg then (-1) else (fun j => if j = (0 : Int32).toNatClampNeg then (-1) else 0) j) j))) := eX10_12_c (by decide) (by decide) (zDu_i _ _ _ _)
theorem pX10_52 {Z : zLay} {D : zDm} : eX10_12 Z D 52 0 = some (.inl (zca Z 0, 20, .inl fun _ => 0)) := zDu_i _ _ _ _
def wX10_1 (Z : zLay) (D : zDm) : Nat → zDm
  | 0 => D
  | n + 1 => zDu (gX2 Z n (wX10_1 Z D n)) 1 0 (.inl (zca Z 5, 10, .inr (.inr (.inr (.inr (zfill Z 2 (n + 1)))))))
theorem wX10_1_o {Z : zLay} {D : zDm} {a b : Nat} {y : va_E} (v : a ≠ 1) (u : a < 2 ∨ 4 < a) (h : D a b = some y) (n : Nat) : wX10_1 Z D n a b = some y := by
  induction n with
  | zero => exact h
  | succ n ih => exact zDu_o v (gX2_o u ih)
theorem wX10_1_A {Z : zLay} {D : zDm} (h : D 1 0 = some (.inl (zca Z 5, 10, .inr (.inr (.inr (.inr (fun _ => none))))))) (n : Nat) : wX10_1 Z D n 1 0 = some (.inl (zca Z 5, 10, .inr (.inr (.inr (.inr (zfill Z 2 n)))))) := by
  cases n with
  | zero => exact h
  | succ n => exact zDu_i _ _ _ _
theorem wX10_1_3 {Z : zLay} {D : zDm} (n : Nat) : ∀ j, j < n → wX10_1 Z D n 3 j = some (.inl (zca Z 0, 4, .inl fun _ => 0)) := by
  induction n with
  | zero => exact fun j h => absurd h (Nat.not_lt_zero _)
  | succ n ih =>
    intro j h
    by_cases q : j = n
    · subst q
      exact zDu_o (by decide) qX2_3
    · exact zDu_o (by decide) (gX2_b q (ih j (by omega)))
theorem wX10_1_4 {Z : zLay} {D : zDm} (n : Nat) : ∀ j, j < n → wX10_1 Z D n 4 j = some (.inl (zca Z 0, 4, .inl fun _ => 0)) := by
  induction n with
  | zero => exact fun j h => absurd h (Nat.not_lt_zero _)
  | succ n ih =>
    intro j h
    by_cases q : j = n
    · subst q
      exact zDu_o (by decide) qX2_4
    · exact zDu_o (by decide) (gX2_b q (ih j (by omega)))
theorem wX10_1_2 {Z : zLay} {D : zDm} (n : Nat) : ∀ j, j < n → wX10_1 Z D n 2 j = some (.inr (2, fX2_2 Z j)) := by
  induction n with
  | zero => exact fun j h => absurd h (Nat.not_lt_zero _)
  | succ n ih =>
    intro j h
    by_cases q : j = n
    · subst q
      exact zDu_o (by decide) qX2_2
    · exact zDu_o (by decide) (gX2_b q (ih j (by omega)))
theorem wq_n304 : Cond.methodLinkNest RX10 79 yX2_init "AlpCommune" ∈ zNest := zNest_mem 304 (by decide +kernel) (by decide +kernel)
theorem wq_303 : Cond.instantiable "AlpCommune$House" (12 : Nat) ∈ zTB := zTB_mem 430 (by decide +kernel) (by decide +kernel)
theorem wq_10 : Cond.initialized "AlpCommune$House" ∈ zTB := zTB_mem 137 (by decide +kernel) (by decide +kernel)
theorem wq_305 : Cond.instanceMethod ({ cls := "AlpCommune$House", name := "<init>", desc := "()V" } : MethodName) ∈ zTB := zTB_mem 432 (by decide +kernel) (by decide +kernel)
theorem wq_306 : Cond.code yX2_init cX2_init 1 none ∈ zTB := zTB_mem 433 (by decide +kernel) (by decide +kernel)
theorem sX10_h1 {E : zEn} {h n0 : Nat} {Z : zLay} {D : zDm} {Q : State → Prop} (C : zCN E cX10_init RX10 2 Z h n0 1 342 18353) (hh : 3 ≤ h) (hD : D 0 0 = some (.inr (10, fX10_12 Z))) (hA : D 1 0 = some (.inl (zca Z 5, 10, .inr (.inr (.inr (.inr (fun _ => none))))))) (kk : zNN E 2 Z n0 Q 159 [(1, .int (nI 10)), (0, .ref (zad Z 0 0))] [] (wX10_1 Z D 10) 336 18164) : ∀ m n cn bn, n + m = 10 → cn = 306 + 3 * n → bn = 17964 + 20 * n → zNN E 2 Z n0 Q 134 [(1, .int (nI n)), (0, .ref (zad Z 0 0))] [] (wX10_1 Z D n) cn bn := by
  intro m
  induction m with
  | zero =>
    intro n cn bn e1 e2 e3
    obtain rfl : n = 10 := e1
    subst e2 e3
    refine zn_iload_n C dX10_init_134 rfl ?_
    refine zn_bipush C dX10_init_135 (v := 10) (by decide) ?_
    refine zn_icmp C dX10_init_137 (tgt := 159) (by decide) (fun _ => kk) (fun q => absurd (by decide +kernel) q)
  | succ m ih =>
    intro n cn bn e1 e2 e3
    have hn : n < 10 := by omega
    obtain ⟨n1, n2, n3⟩ := nI41_c n (by omega)
    refine zn_iload_n C dX10_init_134 rfl ?_
    refine zn_bipush C dX10_init_135 (v := 10) (by decide) ?_
    refine zn_icmp C dX10_init_137 (tgt := 159) (by decide) (fun q => absurd q ((by decide +kernel : ∀ n, n < 10 → ¬ (10 : Int32) ≤ nI n) n hn)) (fun _ => ?_)
    refine zn_aload_n C dX10_init_140 rfl ?_
    refine zn_get C 0 zin_X10 rfl (Nat.le_of_ble_eq_true rfl) rfl wq_372 dX10_init_141 (wX10_1_o (by decide) (by decide) hD n) (v := .ref (zad Z 1 0)) rfl ?_
    refine zn_iload_n C dX10_init_144 rfl ?_
    refine zn_new C (Cn := RX2) (T := TX2) (N := 12) (ci := 2) (fs := fX2_0) (k := 2) (i := n) zin_X2 tyX2_ok rfl nfX2 wq_28 wq_303 wq_10 dX10_init_145 hn (by show 307 + 3 * n = 1 + cn; omega) (by omega) (by omega) ?_
    refine zn_dup C dX10_init_148 rfl ?_
    refine zn_callN C (mX2 (D := wX10_1 Z D n) (i := n) hn (by omega)) rfl wq_n304 wq_305 wq_306 wq_10 (by decide +kernel) (by decide) (by omega) (by omega) (by omega) dX10_init_149 (Nat.le_of_ble_eq_true rfl) ?_
    refine zn_aast C (k := 1) (i := 0) (k1 := 2) (i1 := n) (N := 10) (t0 := 5) (ci := 2) (f := zfill Z 2 n) (gX2_o (by decide) (wX10_1_A hA n)) rfl qX2_2 rfl n2 (by rw [n3]; exact hn) dX10_init_152 ?_
    rw [n3]
    refine zn_iinc C (kk := 0) dX10_init_153 rfl n1 (by decide) rfl ?_
    refine zn_goto C dX10_init_156 (tgt := 134) (by decide) ?_
    exact ih (n + 1) _ _ (by omega) (by omega) (by omega)
def wX10_46 (Z : zLay) (D : zDm) : Nat → zDm
  | 0 => D
  | n + 1 => zDu (gX4 Z n (wX10_46 Z D n)) 46 0 (.inl (zca Z 8, 3, .inr (.inr (.inr (.inr (zfill Z 47 (n + 1)))))))
theorem wX10_46_o {Z : zLay} {D : zDm} {a b : Nat} {y : va_E} (v : a ≠ 46) (u : a < 47 ∨ 48 < a) (h : D a b = some y) (n : Nat) : wX10_46 Z D n a b = some y := by
  induction n with
  | zero => exact h
  | succ n ih => exact zDu_o v (gX4_o u ih)
theorem wX10_46_A {Z : zLay} {D : zDm} (h : D 46 0 = some (.inl (zca Z 8, 3, .inr (.inr (.inr (.inr (fun _ => none))))))) (n : Nat) : wX10_46 Z D n 46 0 = some (.inl (zca Z 8, 3, .inr (.inr (.inr (.inr (zfill Z 47 n)))))) := by
  cases n with
  | zero => exact h
  | succ n => exact zDu_i _ _ _ _
theorem wX10_46_48 {Z : zLay} {D : zDm} (n : Nat) : ∀ j, j < n → wX10_46 Z D n 48 j = some (.inl (zca Z 1, 60, .inr (.inl fun _ => 0))) := by
  induction n with
  | zero => exact fun j h => absurd h (Nat.not_lt_zero _)
  | succ n ih =>
    intro j h
    by_cases q : j = n
    · subst q
      exact zDu_o (by decide) qX4_48
    · exact zDu_o (by decide) (gX4_b q (ih j (by omega)))
theorem wX10_46_47 {Z : zLay} {D : zDm} (n : Nat) : ∀ j, j < n → wX10_46 Z D n 47 j = some (.inr (4, fX4_2 Z j)) := by
  induction n with
  | zero => exact fun j h => absurd h (Nat.not_lt_zero _)
  | succ n ih =>
    intro j h
    by_cases q : j = n
    · subst q
      exact zDu_o (by decide) qX4_47
    · exact zDu_o (by decide) (gX4_b q (ih j (by omega)))
theorem wq_n355 : Cond.methodLinkNest RX10 80 yX4_init "AlpCommune" ∈ zNest := zNest_mem 355 (by decide +kernel) (by decide +kernel)
theorem wq_354 : Cond.instantiable "AlpCommune$Sheet" (3 : Nat) ∈ zTB := zTB_mem 481 (by decide +kernel) (by decide +kernel)
theorem wq_11 : Cond.initialized "AlpCommune$Sheet" ∈ zTB := zTB_mem 138 (by decide +kernel) (by decide +kernel)
theorem wq_356 : Cond.instanceMethod ({ cls := "AlpCommune$Sheet", name := "<init>", desc := "()V" } : MethodName) ∈ zTB := zTB_mem 483 (by decide +kernel) (by decide +kernel)
theorem wq_357 : Cond.code yX4_init cX4_init 1 none ∈ zTB := zTB_mem 484 (by decide +kernel) (by decide +kernel)
theorem sX10_h46 {E : zEn} {h n0 : Nat} {Z : zLay} {D : zDm} {Q : State → Prop} (C : zCN E cX10_init RX10 2 Z h n0 1 342 18353) (hh : 3 ≤ h) (hD : D 0 0 = some (.inr (10, fX10_12 Z))) (hA : D 46 0 = some (.inl (zca Z 8, 3, .inr (.inr (.inr (.inr (fun _ => none))))))) (kk : zNN E 2 Z n0 Q 185 [(1, .int (nI 3)), (0, .ref (zad Z 0 0))] [] (wX10_46 Z D 3) 342 18353) : ∀ m n cn bn, n + m = 3 → cn = 336 + 2 * n → bn = 18164 + 63 * n → zNN E 2 Z n0 Q 161 [(1, .int (nI n)), (0, .ref (zad Z 0 0))] [] (wX10_46 Z D n) cn bn := by
  intro m
  induction m with
  | zero =>
    intro n cn bn e1 e2 e3
    obtain rfl : n = 3 := e1
    subst e2 e3
    refine zn_iload_n C dX10_init_161 rfl ?_
    refine zn_iconst C dX10_init_162 (v := 3) (by decide) ?_
    refine zn_icmp C dX10_init_163 (tgt := 185) (by decide) (fun _ => kk) (fun q => absurd (by decide +kernel) q)
  | succ m ih =>
    intro n cn bn e1 e2 e3
    have hn : n < 3 := by omega
    obtain ⟨n1, n2, n3⟩ := nI41_c n (by omega)
    refine zn_iload_n C dX10_init_161 rfl ?_
    refine zn_iconst C dX10_init_162 (v := 3) (by decide) ?_
    refine zn_icmp C dX10_init_163 (tgt := 185) (by decide) (fun q => absurd q ((by decide +kernel : ∀ n, n < 3 → ¬ (3 : Int32) ≤ nI n) n hn)) (fun _ => ?_)
    refine zn_aload_n C dX10_init_166 rfl ?_
    refine zn_get C 8 zin_X10 rfl (Nat.le_of_ble_eq_true rfl) rfl wq_380 dX10_init_167 (wX10_46_o (by decide) (by decide) hD n) (v := .ref (zad Z 46 0)) rfl ?_
    refine zn_iload_n C dX10_init_170 rfl ?_
    refine zn_new C (Cn := RX4) (T := TX4) (N := 3) (ci := 4) (fs := fX4_0) (k := 47) (i := n) zin_X4 tyX4_ok rfl nfX4 wq_300 wq_354 wq_11 dX10_init_171 hn (by show 337 + 2 * n = 1 + cn; omega) (by omega) (by omega) ?_
    refine zn_dup C dX10_init_174 rfl ?_
    refine zn_callN C (mX4 (D := wX10_46 Z D n) (i := n) hn (by omega)) rfl wq_n355 wq_356 wq_357 wq_11 (by decide +kernel) (by decide) (by omega) (by omega) (by omega) dX10_init_175 (Nat.le_of_ble_eq_true rfl) ?_
    refine zn_aast C (k := 46) (i := 0) (k1 := 47) (i1 := n) (N := 3) (t0 := 8) (ci := 4) (f := zfill Z 47 n) (gX4_o (by decide) (wX10_46_A hA n)) rfl qX4_47 rfl n2 (by rw [n3]; exact hn) dX10_init_178 ?_
    rw [n3]
    refine zn_iinc C (kk := 0) dX10_init_179 rfl n1 (by decide) rfl ?_
    refine zn_goto C dX10_init_182 (tgt := 161) (by decide) ?_
    exact ih (n + 1) _ _ (by omega) (by omega) (by omega)
def gX10 (Z : zLay) (D : zDm) : zDm := (wX10_46 Z (wX10_1 Z (zDu (eX10_12 Z D) 0 0 (.inr (10, fX10_12 Z))) 10) 3)
theorem gX10_o {Z : zLay} {D : zDm} {a b : Nat} {y : va_E} (w : a < 0 ∨ 52 < a) (h : D a b = some y) : gX10 Z D a b = some y := wX10_46_o (by omega) (by omega) (wX10_1_o (by omega) (by omega) (zDu_o (by omega) (eX10_12_o w h)) _) _
theorem mX10 {l : Launch} {Z : zLay} {D : zDm} {n0 c0 : Nat} (hc : c0 = 1) : zMetN l yX10_init cX10_init 2 3 Z n0 c0 342 18353 [.ref (zad Z 0 0)] (zDu D 0 0 (.inr (10, fX10_0))) (gX10 Z D) := by
  subst hc
  exact zMetN_of (by decide +kernel) rfl (Nat.le_of_ble_eq_true rfl) [(0, .ref (zad Z 0 0))] rfl fun E h1 h2 C => sX10_0 C (Nat.le_refl _) rfl (sX10_4 C (Nat.le_refl _) rfl (sX10_13 C (Nat.le_refl _) rfl (sX10_24 C (Nat.le_refl _) rfl (sX10_35 C (Nat.le_refl _) rfl (sX10_46 C (Nat.le_refl _) rfl (sX10_57 C (Nat.le_refl _) rfl (sX10_68 C (Nat.le_refl _) rfl (sX10_79 C (Nat.le_refl _) rfl (sX10_87 C (Nat.le_refl _) rfl (sX10_100 C (Nat.le_refl _) rfl (sX10_105 C (Nat.le_refl _) rfl (sX10_124 C (Nat.le_refl _) rfl (zn_iconst C dX10_init_132 (v := nI 0) (by decide +kernel) (zn_istore_n C dX10_init_133 (i := 1) rfl (by decide) rfl (sX10_h1 C (Nat.le_refl _) (zDu_i _ _ _ _) (zDu_o (by decide) pX10_1) (zn_iconst C dX10_init_159 (v := nI 0) (by decide +kernel) (zn_istore_n C dX10_init_160 (i := 1) rfl (by decide) rfl (sX10_h46 C (Nat.le_refl _) (wX10_1_o (by decide) (by decide) (zDu_i _ _ _ _) _) (wX10_1_o (by decide) (by decide) (zDu_o (by decide) pX10_46) _) (zn_ret C (by decide +kernel) h1 h2 rfl (Nat.le_refl _) dX10_init_185) 3 0 _ _ rfl rfl rfl))) 10 0 _ _ rfl rfl rfl)))))))))))))))
theorem qX10_6 {Z : zLay} {D : zDm} : gX10 Z D 6 0 = some (.inl (zca Z 0, 50, .inl fun _ => 0)) := wX10_46_o (by decide) (by decide) (wX10_1_o (by decide) (by decide) (zDu_o (by decide) pX10_6) _) _
theorem qX10_7 {Z : zLay} {D : zDm} : gX10 Z D 7 0 = some (.inl (zca Z 0, 50, .inl fun _ => 0)) := wX10_46_o (by decide) (by decide) (wX10_1_o (by decide) (by decide) (zDu_o (by decide) pX10_7) _) _
theorem qX10_8 {Z : zLay} {D : zDm} : gX10 Z D 8 0 = some (.inl (zca Z 0, 50, .inl fun _ => 0)) := wX10_46_o (by decide) (by decide) (wX10_1_o (by decide) (by decide) (zDu_o (by decide) pX10_8) _) _
theorem qX10_9 {Z : zLay} {D : zDm} : gX10 Z D 9 0 = some (.inl (zca Z 0, 50, .inl fun _ => 0)) := wX10_46_o (by decide) (by decide) (wX10_1_o (by decide) (by decide) (zDu_o (by decide) pX10_9) _) _
theorem qX10_10 {Z : zLay} {D : zDm} : gX10 Z D 10 0 = some (.inl (zca Z 0, 50, .inl fun _ => 0)) := wX10_46_o (by decide) (by decide) (wX10_1_o (by decide) (by decide) (zDu_o (by decide) pX10_10) _) _
theorem qX10_5 {Z : zLay} {D : zDm} : gX10 Z D 5 0 = some (.inr (3, fX3_5 Z)) := wX10_46_o (by decide) (by decide) (wX10_1_o (by decide) (by decide) (zDu_o (by decide) pX10_5) _) _
theorem qX10_19 {Z : zLay} {D : zDm} : gX10 Z D 19 0 = some (.inl (zca Z 2, 100, .inl fun _ => 0)) := wX10_46_o (by decide) (by decide) (wX10_1_o (by decide) (by decide) (zDu_o (by decide) pX10_19) _) _
theorem qX10_11 {Z : zLay} {D : zDm} : gX10 Z D 11 0 = some (.inr (9, fX9_2 Z)) := wX10_46_o (by decide) (by decide) (wX10_1_o (by decide) (by decide) (zDu_o (by decide) pX10_11) _) _
theorem qX10_12 {Z : zLay} {D : zDm} : gX10 Z D 12 0 = some (.inl (zca Z 6, 40, .inr (.inr (.inr (.inr (zfill Z 13 40)))))) := wX10_46_o (by decide) (by decide) (wX10_1_o (by decide) (by decide) (zDu_o (by decide) pX10_12) _) _
theorem qX10_14 {Z : zLay} {D : zDm} {b : Nat} (hb : b < 40) : gX10 Z D 14 b = some (.inl (zca Z 0, 4, .inl fun _ => 0)) := wX10_46_o (by decide) (by decide) (wX10_1_o (by decide) (by decide) (zDu_o (by decide) (pX10_14 hb)) _) _
theorem qX10_15 {Z : zLay} {D : zDm} {b : Nat} (hb : b < 40) : gX10 Z D 15 b = some (.inl (zca Z 0, 4, .inl fun _ => 0)) := wX10_46_o (by decide) (by decide) (wX10_1_o (by decide) (by decide) (zDu_o (by decide) (pX10_15 hb)) _) _
theorem qX10_16 {Z : zLay} {D : zDm} {b : Nat} (hb : b < 40) : gX10 Z D 16 b = some (.inl (zca Z 0, 4, .inl fun _ => 0)) := wX10_46_o (by decide) (by decide) (wX10_1_o (by decide) (by decide) (zDu_o (by decide) (pX10_16 hb)) _) _
theorem qX10_17 {Z : zLay} {D : zDm} {b : Nat} (hb : b < 40) : gX10 Z D 17 b = some (.inl (zca Z 4, 4, .inl fun _ => 0)) := wX10_46_o (by decide) (by decide) (wX10_1_o (by decide) (by decide) (zDu_o (by decide) (pX10_17 hb)) _) _
theorem qX10_18 {Z : zLay} {D : zDm} {b : Nat} (hb : b < 40) : gX10 Z D 18 b = some (.inl (zca Z 4, 4, .inl fun _ => 0)) := wX10_46_o (by decide) (by decide) (wX10_1_o (by decide) (by decide) (zDu_o (by decide) (pX10_18 hb)) _) _
theorem qX10_13 {Z : zLay} {D : zDm} {b : Nat} (hb : b < 40) : gX10 Z D 13 b = some (.inr (8, fX8_5 Z b)) := wX10_46_o (by decide) (by decide) (wX10_1_o (by decide) (by decide) (zDu_o (by decide) (pX10_13 hb)) _) _
theorem qX10_22 {Z : zLay} {D : zDm} {b : Nat} (hb : b < 2) : gX10 Z D 22 b = some (.inl (zca Z 3, (7200, .inl fun _ => 0))) := wX10_46_o (by decide) (by decide) (wX10_1_o (by decide) (by decide) (zDu_o (by decide) (pX10_22 hb)) _) _
theorem qX10_21 {Z : zLay} {D : zDm} : gX10 Z D 21 0 = some (.inl (zca Z 10, 2, .inr (.inr (.inr (.inr (fun i => if i < 2 then some (zad Z 22 i) else none)))))) := wX10_46_o (by decide) (by decide) (wX10_1_o (by decide) (by decide) (zDu_o (by decide) pX10_21) _) _
theorem qX10_24 {Z : zLay} {D : zDm} {b : Nat} (hb : b < 2) : gX10 Z D 24 b = some (.inl (zca Z 0, (120, .inl fun _ => 0))) := wX10_46_o (by decide) (by decide) (wX10_1_o (by decide) (by decide) (zDu_o (by decide) (pX10_24 hb)) _) _
theorem qX10_23 {Z : zLay} {D : zDm} : gX10 Z D 23 0 = some (.inl (zca Z 9, 2, .inr (.inr (.inr (.inr (fun i => if i < 2 then some (zad Z 24 i) else none)))))) := wX10_46_o (by decide) (by decide) (wX10_1_o (by decide) (by decide) (zDu_o (by decide) pX10_23) _) _
theorem qX10_20 {Z : zLay} {D : zDm} : gX10 Z D 20 0 = some (.inr (5, fX5_2 Z)) := wX10_46_o (by decide) (by decide) (wX10_1_o (by decide) (by decide) (zDu_o (by decide) pX10_20) _) _
theorem qX10_26 {Z : zLay} {D : zDm} : gX10 Z D 26 0 = some (.inl (zca Z 0, 4, .inl fun _ => 0)) := wX10_46_o (by decide) (by decide) (wX10_1_o (by decide) (by decide) (zDu_o (by decide) pX10_26) _) _
theorem qX10_27 {Z : zLay} {D : zDm} : gX10 Z D 27 0 = some (.inl (zca Z 0, 4, .inl fun _ => 0)) := wX10_46_o (by decide) (by decide) (wX10_1_o (by decide) (by decide) (zDu_o (by decide) pX10_27) _) _
theorem qX10_28 {Z : zLay} {D : zDm} : gX10 Z D 28 0 = some (.inl (zca Z 0, 4, .inl fun _ => 0)) := wX10_46_o (by decide) (by decide) (wX10_1_o (by decide) (by decide) (zDu_o (by decide) pX10_28) _) _
theorem qX10_29 {Z : zLay} {D : zDm} : gX10 Z D 29 0 = some (.inl (zca Z 0, 4, .inl fun _ => 0)) := wX10_46_o (by decide) (by decide) (wX10_1_o (by decide) (by decide) (zDu_o (by decide) pX10_29) _) _
theorem qX10_30 {Z : zLay} {D : zDm} : gX10 Z D 30 0 = some (.inl (zca Z 0, 30, .inl fun _ => 0)) := wX10_46_o (by decide) (by decide) (wX10_1_o (by decide) (by decide) (zDu_o (by decide) pX10_30) _) _
theorem qX10_31 {Z : zLay} {D : zDm} : gX10 Z D 31 0 = some (.inl (zca Z 0, 30, .inl fun _ => 0)) := wX10_46_o (by decide) (by decide) (wX10_1_o (by decide) (by decide) (zDu_o (by decide) pX10_31) _) _
theorem qX10_32 {Z : zLay} {D : zDm} : gX10 Z D 32 0 = some (.inl (zca Z 0, 5, .inl fun _ => 0)) := wX10_46_o (by decide) (by decide) (wX10_1_o (by decide) (by decide) (zDu_o (by decide) pX10_32) _) _
theorem qX10_34 {Z : zLay} {D : zDm} {b : Nat} (hb : b < 4) : gX10 Z D 34 b = some (.inl (zca Z 0, (32, .inl fun _ => 0))) := wX10_46_o (by decide) (by decide) (wX10_1_o (by decide) (by decide) (zDu_o (by decide) (pX10_34 hb)) _) _
theorem qX10_33 {Z : zLay} {D : zDm} : gX10 Z D 33 0 = some (.inl (zca Z 9, 4, .inr (.inr (.inr (.inr (fun i => if i < 4 then some (zad Z 34 i) else none)))))) := wX10_46_o (by decide) (by decide) (wX10_1_o (by decide) (by decide) (zDu_o (by decide) pX10_33) _) _
theorem qX10_35 {Z : zLay} {D : zDm} : gX10 Z D 35 0 = some (.inl (zca Z 0, 5, .inl fun _ => 0)) := wX10_46_o (by decide) (by decide) (wX10_1_o (by decide) (by decide) (zDu_o (by decide) pX10_35) _) _
theorem qX10_36 {Z : zLay} {D : zDm} : gX10 Z D 36 0 = some (.inl (zca Z 0, 4, .inl fun _ => 0)) := wX10_46_o (by decide) (by decide) (wX10_1_o (by decide) (by decide) (zDu_o (by decide) pX10_36) _) _
theorem qX10_37 {Z : zLay} {D : zDm} : gX10 Z D 37 0 = some (.inl (zca Z 0, 5, .inl fun _ => 0)) := wX10_46_o (by decide) (by decide) (wX10_1_o (by decide) (by decide) (zDu_o (by decide) pX10_37) _) _
theorem qX10_25 {Z : zLay} {D : zDm} : gX10 Z D 25 0 = some (.inr (0, fX0_11 Z)) := wX10_46_o (by decide) (by decide) (wX10_1_o (by decide) (by decide) (zDu_o (by decide) pX10_25) _) _
theorem qX10_38 {Z : zLay} {D : zDm} : gX10 Z D 38 0 = some (.inr (7, fX7_1 Z)) := wX10_46_o (by decide) (by decide) (wX10_1_o (by decide) (by decide) (zDu_o (by decide) pX10_38) _) _
theorem qX10_39 {Z : zLay} {D : zDm} : gX10 Z D 39 0 = some (.inl (zca Z 7, 6, .inr (.inr (.inr (.inr (zfill Z 40 6)))))) := wX10_46_o (by decide) (by decide) (wX10_1_o (by decide) (by decide) (zDu_o (by decide) pX10_39) _) _
theorem qX10_41 {Z : zLay} {D : zDm} {b : Nat} (hb : b < 6) : gX10 Z D 41 b = some (.inl (zca Z 0, 7, .inl fun _ => 0)) := wX10_46_o (by decide) (by decide) (wX10_1_o (by decide) (by decide) (zDu_o (by decide) (pX10_41 hb)) _) _
theorem qX10_42 {Z : zLay} {D : zDm} {b : Nat} (hb : b < 6) : gX10 Z D 42 b = some (.inl (zca Z 4, 7, .inl fun _ => 0)) := wX10_46_o (by decide) (by decide) (wX10_1_o (by decide) (by decide) (zDu_o (by decide) (pX10_42 hb)) _) _
theorem qX10_40 {Z : zLay} {D : zDm} {b : Nat} (hb : b < 6) : gX10 Z D 40 b = some (.inr (6, fX6_2 Z b)) := wX10_46_o (by decide) (by decide) (wX10_1_o (by decide) (by decide) (zDu_o (by decide) (pX10_40 hb)) _) _
theorem qX10_44 {Z : zLay} {D : zDm} : gX10 Z D 44 0 = some (.inl (zca Z 0, 10, .inl fun _ => 0)) := wX10_46_o (by decide) (by decide) (wX10_1_o (by decide) (by decide) (zDu_o (by decide) pX10_44) _) _
theorem qX10_45 {Z : zLay} {D : zDm} : gX10 Z D 45 0 = some (.inl (zca Z 0, 10, .inl fun _ => 0)) := wX10_46_o (by decide) (by decide) (wX10_1_o (by decide) (by decide) (zDu_o (by decide) pX10_45) _) _
theorem qX10_43 {Z : zLay} {D : zDm} : gX10 Z D 43 0 = some (.inr (1, fX1_2 Z)) := wX10_46_o (by decide) (by decide) (wX10_1_o (by decide) (by decide) (zDu_o (by decide) pX10_43) _) _
theorem qX10_50 {Z : zLay} {D : zDm} {b : Nat} (hb : b < 6) : gX10 Z D 50 b = some (.inl (zca Z 0, (200, .inl fun _ => 0))) := wX10_46_o (by decide) (by decide) (wX10_1_o (by decide) (by decide) (zDu_o (by decide) (pX10_50 hb)) _) _
theorem qX10_49 {Z : zLay} {D : zDm} : gX10 Z D 49 0 = some (.inl (zca Z 9, 6, .inr (.inr (.inr (.inr (fun i => if i < 6 then some (zad Z 50 i) else none)))))) := wX10_46_o (by decide) (by decide) (wX10_1_o (by decide) (by decide) (zDu_o (by decide) pX10_49) _) _
theorem qX10_51 {Z : zLay} {D : zDm} : gX10 Z D 51 0 = some (.inl (zca Z 0, 3, .inl (fun j => if j = (2 : Int32).toNatClampNeg then (-1) else (fun j => if j = (1 : Int32).toNatClampNeg then (-1) else (fun j => if j = (0 : Int32).toNatClampNeg then (-1) else 0) j) j))) := wX10_46_o (by decide) (by decide) (wX10_1_o (by decide) (by decide) (zDu_o (by decide) pX10_51) _) _
theorem qX10_52 {Z : zLay} {D : zDm} : gX10 Z D 52 0 = some (.inl (zca Z 0, 20, .inl fun _ => 0)) := wX10_46_o (by decide) (by decide) (wX10_1_o (by decide) (by decide) (zDu_o (by decide) pX10_52) _) _
theorem qX10_0 {Z : zLay} {D : zDm} : gX10 Z D 0 0 = some (.inr (10, fX10_12 Z)) := wX10_46_o (by decide) (by decide) (wX10_1_o (by decide) (by decide) (zDu_i _ _ _ _) _) _
theorem qX10_1 {Z : zLay} {D : zDm} : gX10 Z D 1 0 = some (.inl (zca Z 5, 10, .inr (.inr (.inr (.inr (zfill Z 2 10)))))) := wX10_46_o (by decide) (by decide) (wX10_1_A (zDu_o (by decide) pX10_1) 10) _
theorem qX10_3 {Z : zLay} {D : zDm} {b : Nat} (hb : b < 10) : gX10 Z D 3 b = some (.inl (zca Z 0, 4, .inl fun _ => 0)) := wX10_46_o (by decide) (by decide) (wX10_1_3 10 b hb) _
theorem qX10_4 {Z : zLay} {D : zDm} {b : Nat} (hb : b < 10) : gX10 Z D 4 b = some (.inl (zca Z 0, 4, .inl fun _ => 0)) := wX10_46_o (by decide) (by decide) (wX10_1_4 10 b hb) _
theorem qX10_2 {Z : zLay} {D : zDm} {b : Nat} (hb : b < 10) : gX10 Z D 2 b = some (.inr (2, fX2_2 Z b)) := wX10_46_o (by decide) (by decide) (wX10_1_2 10 b hb) _
theorem qX10_46 {Z : zLay} {D : zDm} : gX10 Z D 46 0 = some (.inl (zca Z 8, 3, .inr (.inr (.inr (.inr (zfill Z 47 3)))))) := wX10_46_A (wX10_1_o (by decide) (by decide) (zDu_o (by decide) pX10_46) _) 3
theorem qX10_48 {Z : zLay} {D : zDm} {b : Nat} (hb : b < 3) : gX10 Z D 48 b = some (.inl (zca Z 1, 60, .inr (.inl fun _ => 0))) := wX10_46_48 3 b hb
theorem qX10_47 {Z : zLay} {D : zDm} {b : Nat} (hb : b < 3) : gX10 Z D 47 b = some (.inr (4, fX4_2 Z b)) := wX10_46_47 3 b hb
