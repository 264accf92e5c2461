section ZL
variable {E : zEn} {cc : ByteArray} {own : String} {nL h : Nat} {ret : Option FieldType} {Z : zLay} {α : Type} {QQ : α → zMem → State → Prop} {pc : Nat} {L : List (Nat × Value)} {st : List Value} {σ : zMem} {o o1 o2 : Option (α × zMem)}
theorem wz_177 : Cond.fieldLink "AlpCommune$Alps" (47 : Nat) "AlpCommune$Alps" "count" "I" ∈ zTB := zTB_mem 304 (by decide +kernel) (by decide +kernel)
set_option maxRecDepth 100000 in
theorem zin_X0 : ∀ w ∈ u_ws RX0 TX0 12, w ∈ zTB := by decide +kernel
theorem zf_X0_47 (C : zCx E cc RX0 nL ret Z h) {i : Nat} (hk : i < zN 25) (hd : decode cc pc = .ok (.getfield 47, 3)) (kk : zKO E nL Z QQ (pc + 3) L (.int (σ.1 25 i 4) :: st) σ o) : zKO E nL Z QQ pc L (.ref (zad Z 25 i) :: st) σ o := zr_get C 4 zin_X0 rfl (Nat.le_of_ble_eq_true rfl) rfl wz_177 hd hk rfl rfl kk
theorem wz_169 : Cond.fieldLink "AlpCommune$Alps" (9 : Nat) "AlpCommune$Alps" "height" "[I" ∈ zTB := zTB_mem 296 (by decide +kernel) (by decide +kernel)
theorem zf_X0_9 (C : zCx E cc RX0 nL ret Z h) {i : Nat} (hk : i < zN 25) (hd : decode cc pc = .ok (.getfield 9, 3)) (kk : zKO E nL Z QQ (pc + 3) L (.ref (zad Z 26 0) :: st) σ o) : zKO E nL Z QQ pc L (.ref (zad Z 25 i) :: st) σ o := zr_get C 0 zin_X0 rfl (Nat.le_of_ble_eq_true rfl) rfl wz_169 hd hk rfl rfl kk
theorem wz_171 : Cond.fieldLink "AlpCommune$Alps" (15 : Nat) "AlpCommune$Alps" "area" "[I" ∈ zTB := zTB_mem 298 (by decide +kernel) (by decide +kernel)
theorem zf_X0_15 (C : zCx E cc RX0 nL ret Z h) {i : Nat} (hk : i < zN 25) (hd : decode cc pc = .ok (.getfield 15, 3)) (kk : zKO E nL Z QQ (pc + 3) L (.ref (zad Z 27 0) :: st) σ o) : zKO E nL Z QQ pc L (.ref (zad Z 25 i) :: st) σ o := zr_get C 1 zin_X0 rfl (Nat.le_of_ble_eq_true rfl) rfl wz_171 hd hk rfl rfl kk
theorem zp_X0_47 (C : zCx E cc RX0 nL ret Z h) {i : Nat} {x : Int32} (hk : i < zN 25) (hd : decode cc pc = .ok (.putfield 47, 3)) (kk : zKO E nL Z QQ (pc + 3) L st (zwi σ 25 i 4 x) o) : zKO E nL Z QQ pc L (.int x :: .ref (zad Z 25 i) :: st) σ o :=
  zr_put C 4 zin_X0 rfl (Nat.le_of_ble_eq_true rfl) rfl tyX0_ok nmX0 rfl (ty := .int) (σ1 := zwi σ 25 i 4 x) (by decide +kernel) wz_177 hd hk rfl (Nat.le_of_ble_eq_true rfl) rfl rfl (fun a b q => zu_off _ _ _ q) (fun a b q => rfl) (by
    show zE Z 25 i (zu σ.1 25 i 4 x 25 i) _ = _
    rw [zu_at]
    rfl) kk
theorem wz_801 : Cond.methodLink "AlpCommune$Alps" (58 : Nat) ({ cls := "java/lang/Math", name := "max", desc := "(II)I" } : MethodName) ∈ zTB := zTB_mem 928 (by decide +kernel) (by decide +kernel)
theorem wz_613 : Cond.static ({ cls := "java/lang/Math", name := "max", desc := "(II)I" } : MethodName) ∈ zTB := zTB_mem 740 (by decide +kernel) (by decide +kernel)
theorem wz_17 : Cond.initialized "java/lang/Math" ∈ zTB := zTB_mem 144 (by decide +kernel) (by decide +kernel)
theorem wz_614 : Cond.code Lib.Math.max.name Lib.Math.max.code 2 (some .int) ∈ zTB := zTB_mem 741 (by decide +kernel) (by decide +kernel)
theorem wz_805 : Cond.methodLink "AlpCommune$Alps" (64 : Nat) ({ cls := "java/lang/Math", name := "min", desc := "(II)I" } : MethodName) ∈ zTB := zTB_mem 932 (by decide +kernel) (by decide +kernel)
theorem wz_806 : Cond.static ({ cls := "java/lang/Math", name := "min", desc := "(II)I" } : MethodName) ∈ zTB := zTB_mem 933 (by decide +kernel) (by decide +kernel)
theorem wz_807 : Cond.code Lib.Math.min.name Lib.Math.min.code 2 (some .int) ∈ zTB := zTB_mem 934 (by decide +kernel) (by decide +kernel)
theorem wz_175 : Cond.fieldLink "AlpCommune$Alps" (21 : Nat) "AlpCommune$Alps" "snow" "[I" ∈ zTB := zTB_mem 302 (by decide +kernel) (by decide +kernel)
theorem zf_X0_21 (C : zCx E cc RX0 nL ret Z h) {i : Nat} (hk : i < zN 25) (hd : decode cc pc = .ok (.getfield 21, 3)) (kk : zKO E nL Z QQ (pc + 3) L (.ref (zad Z 29 0) :: st) σ o) : zKO E nL Z QQ pc L (.ref (zad Z 25 i) :: st) σ o := zr_get C 3 zin_X0 rfl (Nat.le_of_ble_eq_true rfl) rfl wz_175 hd hk rfl rfl kk
theorem wz_173 : Cond.fieldLink "AlpCommune$Alps" (18 : Nat) "AlpCommune$Alps" "grass" "[I" ∈ zTB := zTB_mem 300 (by decide +kernel) (by decide +kernel)
theorem zf_X0_18 (C : zCx E cc RX0 nL ret Z h) {i : Nat} (hk : i < zN 25) (hd : decode cc pc = .ok (.getfield 18, 3)) (kk : zKO E nL Z QQ (pc + 3) L (.ref (zad Z 28 0) :: st) σ o) : zKO E nL Z QQ pc L (.ref (zad Z 25 i) :: st) σ o := zr_get C 2 zin_X0 rfl (Nat.le_of_ble_eq_true rfl) rfl wz_173 hd hk rfl rfl kk
theorem wz_802 : Cond.methodLink "AlpCommune$Alps" (55 : Nat) ({ cls := "AlpCommune$Alps", name := "grassAfter", desc := "(III)I" } : MethodName) ∈ zTB := zTB_mem 929 (by decide +kernel) (by decide +kernel)
theorem wz_803 : Cond.static ({ cls := "AlpCommune$Alps", name := "grassAfter", desc := "(III)I" } : MethodName) ∈ zTB := zTB_mem 930 (by decide +kernel) (by decide +kernel)
theorem wz_804 : Cond.code yX0_grassAfter cX0_grassAfter 3 (some .int) ∈ zTB := zTB_mem 931 (by decide +kernel) (by decide +kernel)
theorem wz_6 : Cond.initialized "AlpCommune$Alps" ∈ zTB := zTB_mem 133 (by decide +kernel) (by decide +kernel)
theorem wz_798 : Cond.methodLink "AlpCommune$Alps" (51 : Nat) ({ cls := "AlpCommune$Alps", name := "snowAfter", desc := "(III)I" } : MethodName) ∈ zTB := zTB_mem 925 (by decide +kernel) (by decide +kernel)
theorem wz_799 : Cond.static ({ cls := "AlpCommune$Alps", name := "snowAfter", desc := "(III)I" } : MethodName) ∈ zTB := zTB_mem 926 (by decide +kernel) (by decide +kernel)
theorem wz_800 : Cond.code yX0_snowAfter cX0_snowAfter 3 (some .int) ∈ zTB := zTB_mem 927 (by decide +kernel) (by decide +kernel)
theorem wz_179 : Cond.fieldLink "AlpCommune$Alps" (24 : Nat) "AlpCommune$Alps" "planWarm" "[I" ∈ zTB := zTB_mem 306 (by decide +kernel) (by decide +kernel)
theorem zf_X0_24 (C : zCx E cc RX0 nL ret Z h) {i : Nat} (hk : i < zN 25) (hd : decode cc pc = .ok (.getfield 24, 3)) (kk : zKO E nL Z QQ (pc + 3) L (.ref (zad Z 30 0) :: st) σ o) : zKO E nL Z QQ pc L (.ref (zad Z 25 i) :: st) σ o := zr_get C 5 zin_X0 rfl (Nat.le_of_ble_eq_true rfl) rfl wz_179 hd hk rfl rfl kk
theorem wz_181 : Cond.fieldLink "AlpCommune$Alps" (27 : Nat) "AlpCommune$Alps" "planFall" "[I" ∈ zTB := zTB_mem 308 (by decide +kernel) (by decide +kernel)
theorem zf_X0_27 (C : zCx E cc RX0 nL ret Z h) {i : Nat} (hk : i < zN 25) (hd : decode cc pc = .ok (.getfield 27, 3)) (kk : zKO E nL Z QQ (pc + 3) L (.ref (zad Z 31 0) :: st) σ o) : zKO E nL Z QQ pc L (.ref (zad Z 25 i) :: st) σ o := zr_get C 6 zin_X0 rfl (Nat.le_of_ble_eq_true rfl) rfl wz_181 hd hk rfl rfl kk
theorem wz_183 : Cond.fieldLink "AlpCommune$Alps" (30 : Nat) "AlpCommune$Alps" "planCows" "[I" ∈ zTB := zTB_mem 310 (by decide +kernel) (by decide +kernel)
theorem zf_X0_30 (C : zCx E cc RX0 nL ret Z h) {i : Nat} (hk : i < zN 25) (hd : decode cc pc = .ok (.getfield 30, 3)) (kk : zKO E nL Z QQ (pc + 3) L (.ref (zad Z 32 0) :: st) σ o) : zKO E nL Z QQ pc L (.ref (zad Z 25 i) :: st) σ o := zr_get C 7 zin_X0 rfl (Nat.le_of_ble_eq_true rfl) rfl wz_183 hd hk rfl rfl kk
theorem wz_189 : Cond.fieldLink "AlpCommune$Alps" (44 : Nat) "AlpCommune$Alps" "planBest" "[I" ∈ zTB := zTB_mem 316 (by decide +kernel) (by decide +kernel)
theorem zf_X0_44 (C : zCx E cc RX0 nL ret Z h) {i : Nat} (hk : i < zN 25) (hd : decode cc pc = .ok (.getfield 44, 3)) (kk : zKO E nL Z QQ (pc + 3) L (.ref (zad Z 37 0) :: st) σ o) : zKO E nL Z QQ pc L (.ref (zad Z 25 i) :: st) σ o := zr_get C 11 zin_X0 rfl (Nat.le_of_ble_eq_true rfl) rfl wz_189 hd hk rfl rfl kk
theorem wz_187 : Cond.fieldLink "AlpCommune$Alps" (38 : Nat) "AlpCommune$Alps" "planAlp" "[I" ∈ zTB := zTB_mem 314 (by decide +kernel) (by decide +kernel)
theorem zf_X0_38 (C : zCx E cc RX0 nL ret Z h) {i : Nat} (hk : i < zN 25) (hd : decode cc pc = .ok (.getfield 38, 3)) (kk : zKO E nL Z QQ (pc + 3) L (.ref (zad Z 35 0) :: st) σ o) : zKO E nL Z QQ pc L (.ref (zad Z 25 i) :: st) σ o := zr_get C 9 zin_X0 rfl (Nat.le_of_ble_eq_true rfl) rfl wz_187 hd hk rfl rfl kk
theorem wz_188 : Cond.fieldLink "AlpCommune$Alps" (41 : Nat) "AlpCommune$Alps" "planOn" "[I" ∈ zTB := zTB_mem 315 (by decide +kernel) (by decide +kernel)
theorem zf_X0_41 (C : zCx E cc RX0 nL ret Z h) {i : Nat} (hk : i < zN 25) (hd : decode cc pc = .ok (.getfield 41, 3)) (kk : zKO E nL Z QQ (pc + 3) L (.ref (zad Z 36 0) :: st) σ o) : zKO E nL Z QQ pc L (.ref (zad Z 25 i) :: st) σ o := zr_get C 10 zin_X0 rfl (Nat.le_of_ble_eq_true rfl) rfl wz_188 hd hk rfl rfl kk
theorem wz_1009 : Cond.methodLink "AlpCommune$Alps" (79 : Nat) ({ cls := "AlpCommune$Alps", name := "keepPlan", desc := "(I)V" } : MethodName) ∈ zTB := zTB_mem 1136 (by decide +kernel) (by decide +kernel)
theorem wz_p72 : Cond.selects yX0_keepPlan.cls yX0_keepPlan yX0_keepPlan ∈ zTB := zTB_mem 72 (by decide +kernel) (by decide +kernel)
theorem wz_1011 : Cond.instanceMethod ({ cls := "AlpCommune$Alps", name := "keepPlan", desc := "(I)V" } : MethodName) ∈ zTB := zTB_mem 1138 (by decide +kernel) (by decide +kernel)
theorem wz_1012 : Cond.code yX0_keepPlan cX0_keepPlan 3 none ∈ zTB := zTB_mem 1139 (by decide +kernel) (by decide +kernel)
theorem wz_185 : Cond.fieldLink "AlpCommune$Alps" (35 : Nat) "AlpCommune$Alps" "planHunger" "[[I" ∈ zTB := zTB_mem 312 (by decide +kernel) (by decide +kernel)
theorem zf_X0_35 (C : zCx E cc RX0 nL ret Z h) {i : Nat} (hk : i < zN 25) (hd : decode cc pc = .ok (.getfield 35, 3)) (kk : zKO E nL Z QQ (pc + 3) L (.ref (zad Z 33 0) :: st) σ o) : zKO E nL Z QQ pc L (.ref (zad Z 25 i) :: st) σ o := zr_get C 8 zin_X0 rfl (Nat.le_of_ble_eq_true rfl) rfl wz_185 hd hk rfl rfl kk
theorem wz_1013 : Cond.methodLink "AlpCommune$Alps" (71 : Nat) ({ cls := "AlpCommune$Alps", name := "hungerNow", desc := "()I" } : MethodName) ∈ zTB := zTB_mem 1140 (by decide +kernel) (by decide +kernel)
theorem wz_p73 : Cond.selects yX0_hungerNow.cls yX0_hungerNow yX0_hungerNow ∈ zTB := zTB_mem 73 (by decide +kernel) (by decide +kernel)
theorem wz_1015 : Cond.instanceMethod ({ cls := "AlpCommune$Alps", name := "hungerNow", desc := "()I" } : MethodName) ∈ zTB := zTB_mem 1142 (by decide +kernel) (by decide +kernel)
theorem wz_1016 : Cond.code yX0_hungerNow cX0_hungerNow 3 (some .int) ∈ zTB := zTB_mem 1143 (by decide +kernel) (by decide +kernel)
theorem wz_1017 : Cond.methodLink "AlpCommune$Alps" (75 : Nat) ({ cls := "AlpCommune$Alps", name := "turnPlan", desc := "(I)V" } : MethodName) ∈ zTB := zTB_mem 1144 (by decide +kernel) (by decide +kernel)
theorem wz_p74 : Cond.selects yX0_turnPlan.cls yX0_turnPlan yX0_turnPlan ∈ zTB := zTB_mem 74 (by decide +kernel) (by decide +kernel)
theorem wz_1019 : Cond.instanceMethod ({ cls := "AlpCommune$Alps", name := "turnPlan", desc := "(I)V" } : MethodName) ∈ zTB := zTB_mem 1146 (by decide +kernel) (by decide +kernel)
theorem wz_1020 : Cond.code yX0_turnPlan cX0_turnPlan 4 none ∈ zTB := zTB_mem 1147 (by decide +kernel) (by decide +kernel)
theorem wz_1005 : Cond.methodLink "AlpCommune$Alps" (67 : Nat) ({ cls := "AlpCommune$Alps", name := "beginPlans", desc := "(I)I" } : MethodName) ∈ zTB := zTB_mem 1132 (by decide +kernel) (by decide +kernel)
theorem wz_p71 : Cond.selects yX0_beginPlans.cls yX0_beginPlans yX0_beginPlans ∈ zTB := zTB_mem 71 (by decide +kernel) (by decide +kernel)
theorem wz_1007 : Cond.instanceMethod ({ cls := "AlpCommune$Alps", name := "beginPlans", desc := "(I)I" } : MethodName) ∈ zTB := zTB_mem 1134 (by decide +kernel) (by decide +kernel)
theorem wz_1008 : Cond.code yX0_beginPlans cX0_beginPlans 4 (some .int) ∈ zTB := zTB_mem 1135 (by decide +kernel) (by decide +kernel)
theorem wz_291 : Cond.fieldLink "AlpCommune$Channel" (18 : Nat) "AlpCommune$Channel" "count" "I" ∈ zTB := zTB_mem 418 (by decide +kernel) (by decide +kernel)
set_option maxRecDepth 100000 in
theorem zin_X1 : ∀ w ∈ u_ws RX1 TX1 3, w ∈ zTB := by decide +kernel
theorem zf_X1_18 (C : zCx E cc RX1 nL ret Z h) {i : Nat} (hk : i < zN 43) (hd : decode cc pc = .ok (.getfield 18, 3)) (kk : zKO E nL Z QQ (pc + 3) L (.int (σ.1 43 i 2) :: st) σ o) : zKO E nL Z QQ pc L (.ref (zad Z 43 i) :: st) σ o := zr_get C 2 zin_X1 rfl (Nat.le_of_ble_eq_true rfl) rfl wz_291 hd hk rfl rfl kk
theorem wz_289 : Cond.fieldLink "AlpCommune$Channel" (15 : Nat) "AlpCommune$Channel" "leak" "[I" ∈ zTB := zTB_mem 416 (by decide +kernel) (by decide +kernel)
theorem zf_X1_15 (C : zCx E cc RX1 nL ret Z h) {i : Nat} (hk : i < zN 43) (hd : decode cc pc = .ok (.getfield 15, 3)) (kk : zKO E nL Z QQ (pc + 3) L (.ref (zad Z 45 0) :: st) σ o) : zKO E nL Z QQ pc L (.ref (zad Z 43 i) :: st) σ o := zr_get C 1 zin_X1 rfl (Nat.le_of_ble_eq_true rfl) rfl wz_289 hd hk rfl rfl kk
theorem wz_287 : Cond.fieldLink "AlpCommune$Channel" (9 : Nat) "AlpCommune$Channel" "house" "[I" ∈ zTB := zTB_mem 414 (by decide +kernel) (by decide +kernel)
theorem zf_X1_9 (C : zCx E cc RX1 nL ret Z h) {i : Nat} (hk : i < zN 43) (hd : decode cc pc = .ok (.getfield 9, 3)) (kk : zKO E nL Z QQ (pc + 3) L (.ref (zad Z 44 0) :: st) σ o) : zKO E nL Z QQ pc L (.ref (zad Z 43 i) :: st) σ o := zr_get C 0 zin_X1 rfl (Nat.le_of_ble_eq_true rfl) rfl wz_287 hd hk rfl rfl kk
theorem wz_434 : Cond.fieldLink "AlpCommune$House" (18 : Nat) "AlpCommune$House" "LEAST" "[I" ∈ zTB := zTB_mem 561 (by decide +kernel) (by decide +kernel)
theorem wz_436 : Cond.fieldLink "AlpCommune$House" (21 : Nat) "AlpCommune$House" "MOST" "[I" ∈ zTB := zTB_mem 563 (by decide +kernel) (by decide +kernel)
theorem wz_311 : Cond.fieldLink "AlpCommune$House" (15 : Nat) "AlpCommune$House" "up" "[I" ∈ zTB := zTB_mem 438 (by decide +kernel) (by decide +kernel)
set_option maxRecDepth 100000 in
theorem zin_X2 : ∀ w ∈ u_ws RX2 TX2 12, w ∈ zTB := by decide +kernel
theorem zf_X2_15 (C : zCx E cc RX2 nL ret Z h) {i : Nat} (hk : i < zN 2) (hd : decode cc pc = .ok (.getfield 15, 3)) (kk : zKO E nL Z QQ (pc + 3) L (.ref (zad Z 4 i) :: st) σ o) : zKO E nL Z QQ pc L (.ref (zad Z 2 i) :: st) σ o := zr_get C 1 zin_X2 rfl (Nat.le_of_ble_eq_true rfl) rfl wz_311 hd hk rfl rfl kk
theorem wz_308 : Cond.fieldLink "AlpCommune$House" (9 : Nat) "AlpCommune$House" "has" "[I" ∈ zTB := zTB_mem 435 (by decide +kernel) (by decide +kernel)
theorem zf_X2_9 (C : zCx E cc RX2 nL ret Z h) {i : Nat} (hk : i < zN 2) (hd : decode cc pc = .ok (.getfield 9, 3)) (kk : zKO E nL Z QQ (pc + 3) L (.ref (zad Z 3 i) :: st) σ o) : zKO E nL Z QQ pc L (.ref (zad Z 2 i) :: st) σ o := zr_get C 0 zin_X2 rfl (Nat.le_of_ble_eq_true rfl) rfl wz_308 hd hk rfl rfl kk
theorem wz_458 : Cond.methodLink "AlpCommune$House" (24 : Nat) ({ cls := "AlpCommune$House", name := "allUp", desc := "()I" } : MethodName) ∈ zTB := zTB_mem 585 (by decide +kernel) (by decide +kernel)
theorem wz_p1 : Cond.selects yX2_allUp.cls yX2_allUp yX2_allUp ∈ zTB := zTB_mem 1 (by decide +kernel) (by decide +kernel)
theorem wz_448 : Cond.instanceMethod ({ cls := "AlpCommune$House", name := "allUp", desc := "()I" } : MethodName) ∈ zTB := zTB_mem 575 (by decide +kernel) (by decide +kernel)
theorem wz_449 : Cond.code yX2_allUp cX2_allUp 3 (some .int) ∈ zTB := zTB_mem 576 (by decide +kernel) (by decide +kernel)
theorem wz_10 : Cond.initialized "AlpCommune$House" ∈ zTB := zTB_mem 137 (by decide +kernel) (by decide +kernel)
theorem wz_821 : Cond.methodLink "AlpCommune$House" (31 : Nat) ({ cls := "java/lang/Math", name := "min", desc := "(II)I" } : MethodName) ∈ zTB := zTB_mem 948 (by decide +kernel) (by decide +kernel)
theorem wz_316 : Cond.fieldLink "AlpCommune$House" (37 : Nat) "AlpCommune$House" "hungry" "I" ∈ zTB := zTB_mem 443 (by decide +kernel) (by decide +kernel)
theorem zf_X2_37 (C : zCx E cc RX2 nL ret Z h) {i : Nat} (hk : i < zN 2) (hd : decode cc pc = .ok (.getfield 37, 3)) (kk : zKO E nL Z QQ (pc + 3) L (.int (σ.1 2 i 3) :: st) σ o) : zKO E nL Z QQ pc L (.ref (zad Z 2 i) :: st) σ o := zr_get C 3 zin_X2 rfl (Nat.le_of_ble_eq_true rfl) rfl wz_316 hd hk rfl rfl kk
theorem zp_X2_37 (C : zCx E cc RX2 nL ret Z h) {i : Nat} {x : Int32} (hk : i < zN 2) (hd : decode cc pc = .ok (.putfield 37, 3)) (kk : zKO E nL Z QQ (pc + 3) L st (zwi σ 2 i 3 x) o) : zKO E nL Z QQ pc L (.int x :: .ref (zad Z 2 i) :: st) σ o :=
  zr_put C 3 zin_X2 rfl (Nat.le_of_ble_eq_true rfl) rfl tyX2_ok nmX2 rfl (ty := .int) (σ1 := zwi σ 2 i 3 x) (by decide +kernel) wz_316 hd hk rfl (Nat.le_of_ble_eq_true rfl) rfl rfl (fun a b q => zu_off _ _ _ q) (fun a b q => rfl) (by
    show zE Z 2 i (zu σ.1 2 i 3 x 2 i) _ = _
    rw [zu_at]
    rfl) kk
theorem wz_820 : Cond.methodLink "AlpCommune$House" (28 : Nat) ({ cls := "AlpCommune$House", name := "atHome", desc := "()I" } : MethodName) ∈ zTB := zTB_mem 947 (by decide +kernel) (by decide +kernel)
theorem wz_p2 : Cond.selects yX2_atHome.cls yX2_atHome yX2_atHome ∈ zTB := zTB_mem 2 (by decide +kernel) (by decide +kernel)
theorem wz_456 : Cond.instanceMethod ({ cls := "AlpCommune$House", name := "atHome", desc := "()I" } : MethodName) ∈ zTB := zTB_mem 583 (by decide +kernel) (by decide +kernel)
theorem wz_457 : Cond.code yX2_atHome cX2_atHome 1 (some .int) ∈ zTB := zTB_mem 584 (by decide +kernel) (by decide +kernel)
theorem wz_826 : Cond.constant "AlpCommune$House" (41 : Nat) (99999999 : Int32) ∈ zTB := zTB_mem 953 (by decide +kernel) (by decide +kernel)
theorem wz_314 : Cond.fieldLink "AlpCommune$House" (42 : Nat) "AlpCommune$House" "debt" "I" ∈ zTB := zTB_mem 441 (by decide +kernel) (by decide +kernel)
theorem zf_X2_42 (C : zCx E cc RX2 nL ret Z h) {i : Nat} (hk : i < zN 2) (hd : decode cc pc = .ok (.getfield 42, 3)) (kk : zKO E nL Z QQ (pc + 3) L (.int (σ.1 2 i 2) :: st) σ o) : zKO E nL Z QQ pc L (.ref (zad Z 2 i) :: st) σ o := zr_get C 2 zin_X2 rfl (Nat.le_of_ble_eq_true rfl) rfl wz_314 hd hk rfl rfl kk
theorem wz_827 : Cond.methodLink "AlpCommune$House" (45 : Nat) ({ cls := "java/lang/Math", name := "min", desc := "(JJ)J" } : MethodName) ∈ zTB := zTB_mem 954 (by decide +kernel) (by decide +kernel)
theorem wz_828 : Cond.static ({ cls := "java/lang/Math", name := "min", desc := "(JJ)J" } : MethodName) ∈ zTB := zTB_mem 955 (by decide +kernel) (by decide +kernel)
theorem wz_829 : Cond.code Lib.MathLoose.min_long.x Lib.MathLoose.min_long.code 4 (some .long) ∈ zTB := zTB_mem 956 (by decide +kernel) (by decide +kernel)
theorem zp_X2_42 (C : zCx E cc RX2 nL ret Z h) {i : Nat} {x : Int32} (hk : i < zN 2) (hd : decode cc pc = .ok (.putfield 42, 3)) (kk : zKO E nL Z QQ (pc + 3) L st (zwi σ 2 i 2 x) o) : zKO E nL Z QQ pc L (.int x :: .ref (zad Z 2 i) :: st) σ o :=
  zr_put C 2 zin_X2 rfl (Nat.le_of_ble_eq_true rfl) rfl tyX2_ok nmX2 rfl (ty := .int) (σ1 := zwi σ 2 i 2 x) (by decide +kernel) wz_314 hd hk rfl (Nat.le_of_ble_eq_true rfl) rfl rfl (fun a b q => zu_off _ _ _ q) (fun a b q => rfl) (by
    show zE Z 2 i (zu σ.1 2 i 2 x 2 i) _ = _
    rw [zu_at]
    rfl) kk
theorem wz_323 : Cond.fieldLink "AlpCommune$House" (56 : Nat) "AlpCommune$House" "newWheels" "I" ∈ zTB := zTB_mem 450 (by decide +kernel) (by decide +kernel)
theorem zf_X2_56 (C : zCx E cc RX2 nL ret Z h) {i : Nat} (hk : i < zN 2) (hd : decode cc pc = .ok (.getfield 56, 3)) (kk : zKO E nL Z QQ (pc + 3) L (.int (σ.1 2 i 8) :: st) σ o) : zKO E nL Z QQ pc L (.ref (zad Z 2 i) :: st) σ o := zr_get C 8 zin_X2 rfl (Nat.le_of_ble_eq_true rfl) rfl wz_323 hd hk rfl rfl kk
theorem zp_X2_56 (C : zCx E cc RX2 nL ret Z h) {i : Nat} {x : Int32} (hk : i < zN 2) (hd : decode cc pc = .ok (.putfield 56, 3)) (kk : zKO E nL Z QQ (pc + 3) L st (zwi σ 2 i 8 x) o) : zKO E nL Z QQ pc L (.int x :: .ref (zad Z 2 i) :: st) σ o :=
  zr_put C 8 zin_X2 rfl (Nat.le_of_ble_eq_true rfl) rfl tyX2_ok nmX2 rfl (ty := .int) (σ1 := zwi σ 2 i 8 x) (by decide +kernel) wz_323 hd hk rfl (Nat.le_of_ble_eq_true rfl) rfl rfl (fun a b q => zu_off _ _ _ q) (fun a b q => rfl) (by
    show zE Z 2 i (zu σ.1 2 i 8 x 2 i) _ = _
    rw [zu_at]
    rfl) kk
theorem wz_322 : Cond.fieldLink "AlpCommune$House" (63 : Nat) "AlpCommune$House" "wheels" "I" ∈ zTB := zTB_mem 449 (by decide +kernel) (by decide +kernel)
theorem zf_X2_63 (C : zCx E cc RX2 nL ret Z h) {i : Nat} (hk : i < zN 2) (hd : decode cc pc = .ok (.getfield 63, 3)) (kk : zKO E nL Z QQ (pc + 3) L (.int (σ.1 2 i 7) :: st) σ o) : zKO E nL Z QQ pc L (.ref (zad Z 2 i) :: st) σ o := zr_get C 7 zin_X2 rfl (Nat.le_of_ble_eq_true rfl) rfl wz_322 hd hk rfl rfl kk
theorem zp_X2_63 (C : zCx E cc RX2 nL ret Z h) {i : Nat} {x : Int32} (hk : i < zN 2) (hd : decode cc pc = .ok (.putfield 63, 3)) (kk : zKO E nL Z QQ (pc + 3) L st (zwi σ 2 i 7 x) o) : zKO E nL Z QQ pc L (.int x :: .ref (zad Z 2 i) :: st) σ o :=
  zr_put C 7 zin_X2 rfl (Nat.le_of_ble_eq_true rfl) rfl tyX2_ok nmX2 rfl (ty := .int) (σ1 := zwi σ 2 i 7 x) (by decide +kernel) wz_322 hd hk rfl (Nat.le_of_ble_eq_true rfl) rfl rfl (fun a b q => zu_off _ _ _ q) (fun a b q => rfl) (by
    show zE Z 2 i (zu σ.1 2 i 7 x 2 i) _ = _
    rw [zu_at]
    rfl) kk
theorem wz_325 : Cond.fieldLink "AlpCommune$House" (48 : Nat) "AlpCommune$House" "rest" "I" ∈ zTB := zTB_mem 452 (by decide +kernel) (by decide +kernel)
theorem zf_X2_48 (C : zCx E cc RX2 nL ret Z h) {i : Nat} (hk : i < zN 2) (hd : decode cc pc = .ok (.getfield 48, 3)) (kk : zKO E nL Z QQ (pc + 3) L (.int (σ.1 2 i 9) :: st) σ o) : zKO E nL Z QQ pc L (.ref (zad Z 2 i) :: st) σ o := zr_get C 9 zin_X2 rfl (Nat.le_of_ble_eq_true rfl) rfl wz_325 hd hk rfl rfl kk
theorem zp_X2_48 (C : zCx E cc RX2 nL ret Z h) {i : Nat} {x : Int32} (hk : i < zN 2) (hd : decode cc pc = .ok (.putfield 48, 3)) (kk : zKO E nL Z QQ (pc + 3) L st (zwi σ 2 i 9 x) o) : zKO E nL Z QQ pc L (.int x :: .ref (zad Z 2 i) :: st) σ o :=
  zr_put C 9 zin_X2 rfl (Nat.le_of_ble_eq_true rfl) rfl tyX2_ok nmX2 rfl (ty := .int) (σ1 := zwi σ 2 i 9 x) (by decide +kernel) wz_325 hd hk rfl (Nat.le_of_ble_eq_true rfl) rfl rfl (fun a b q => zu_off _ _ _ q) (fun a b q => rfl) (by
    show zE Z 2 i (zu σ.1 2 i 9 x 2 i) _ = _
    rw [zu_at]
    rfl) kk
theorem wz_909 : Cond.constantLong "AlpCommune$House" (54 : Nat) (10000 : Int64) ∈ zTB := zTB_mem 1036 (by decide +kernel) (by decide +kernel)
theorem wz_319 : Cond.fieldLink "AlpCommune$House" (51 : Nat) "AlpCommune$House" "sum" "I" ∈ zTB := zTB_mem 446 (by decide +kernel) (by decide +kernel)
theorem zf_X2_51 (C : zCx E cc RX2 nL ret Z h) {i : Nat} (hk : i < zN 2) (hd : decode cc pc = .ok (.getfield 51, 3)) (kk : zKO E nL Z QQ (pc + 3) L (.int (σ.1 2 i 5) :: st) σ o) : zKO E nL Z QQ pc L (.ref (zad Z 2 i) :: st) σ o := zr_get C 5 zin_X2 rfl (Nat.le_of_ble_eq_true rfl) rfl wz_319 hd hk rfl rfl kk
theorem wz_910 : Cond.methodLink "AlpCommune$House" (59 : Nat) ({ cls := "AlpCommune$House", name := "takeWheels", desc := "(I)V" } : MethodName) ∈ zTB := zTB_mem 1037 (by decide +kernel) (by decide +kernel)
theorem wz_p58 : Cond.selects yX2_takeWheels.cls yX2_takeWheels yX2_takeWheels ∈ zTB := zTB_mem 58 (by decide +kernel) (by decide +kernel)
theorem wz_912 : Cond.instanceMethod ({ cls := "AlpCommune$House", name := "takeWheels", desc := "(I)V" } : MethodName) ∈ zTB := zTB_mem 1039 (by decide +kernel) (by decide +kernel)
theorem wz_913 : Cond.code yX2_takeWheels cX2_takeWheels 2 none ∈ zTB := zTB_mem 1040 (by decide +kernel) (by decide +kernel)
theorem wz_46 : Cond.fieldLink "AlpCommune$Rights" (27 : Nat) "AlpCommune$Rights" "count" "I" ∈ zTB := zTB_mem 173 (by decide +kernel) (by decide +kernel)
set_option maxRecDepth 100000 in
theorem zin_X3 : ∀ w ∈ u_ws RX3 TX3 6, w ∈ zTB := by decide +kernel
theorem zf_X3_27 (C : zCx E cc RX3 nL ret Z h) {i : Nat} (hk : i < zN 5) (hd : decode cc pc = .ok (.getfield 27, 3)) (kk : zKO E nL Z QQ (pc + 3) L (.int (σ.1 5 i 5) :: st) σ o) : zKO E nL Z QQ pc L (.ref (zad Z 5 i) :: st) σ o := zr_get C 5 zin_X3 rfl (Nat.le_of_ble_eq_true rfl) rfl wz_46 hd hk rfl rfl kk
theorem wz_36 : Cond.fieldLink "AlpCommune$Rights" (9 : Nat) "AlpCommune$Rights" "kind" "[I" ∈ zTB := zTB_mem 163 (by decide +kernel) (by decide +kernel)
theorem zf_X3_9 (C : zCx E cc RX3 nL ret Z h) {i : Nat} (hk : i < zN 5) (hd : decode cc pc = .ok (.getfield 9, 3)) (kk : zKO E nL Z QQ (pc + 3) L (.ref (zad Z 6 0) :: st) σ o) : zKO E nL Z QQ pc L (.ref (zad Z 5 i) :: st) σ o := zr_get C 0 zin_X3 rfl (Nat.le_of_ble_eq_true rfl) rfl wz_36 hd hk rfl rfl kk
theorem wz_38 : Cond.fieldLink "AlpCommune$Rights" (15 : Nat) "AlpCommune$Rights" "owner" "[I" ∈ zTB := zTB_mem 165 (by decide +kernel) (by decide +kernel)
theorem zf_X3_15 (C : zCx E cc RX3 nL ret Z h) {i : Nat} (hk : i < zN 5) (hd : decode cc pc = .ok (.getfield 15, 3)) (kk : zKO E nL Z QQ (pc + 3) L (.ref (zad Z 7 0) :: st) σ o) : zKO E nL Z QQ pc L (.ref (zad Z 5 i) :: st) σ o := zr_get C 1 zin_X3 rfl (Nat.le_of_ble_eq_true rfl) rfl wz_38 hd hk rfl rfl kk
theorem wz_40 : Cond.fieldLink "AlpCommune$Rights" (18 : Nat) "AlpCommune$Rights" "parts" "[I" ∈ zTB := zTB_mem 167 (by decide +kernel) (by decide +kernel)
theorem zf_X3_18 (C : zCx E cc RX3 nL ret Z h) {i : Nat} (hk : i < zN 5) (hd : decode cc pc = .ok (.getfield 18, 3)) (kk : zKO E nL Z QQ (pc + 3) L (.ref (zad Z 8 0) :: st) σ o) : zKO E nL Z QQ pc L (.ref (zad Z 5 i) :: st) σ o := zr_get C 2 zin_X3 rfl (Nat.le_of_ble_eq_true rfl) rfl wz_40 hd hk rfl rfl kk
theorem zp_X3_27 (C : zCx E cc RX3 nL ret Z h) {i : Nat} {x : Int32} (hk : i < zN 5) (hd : decode cc pc = .ok (.putfield 27, 3)) (kk : zKO E nL Z QQ (pc + 3) L st (zwi σ 5 i 5 x) o) : zKO E nL Z QQ pc L (.int x :: .ref (zad Z 5 i) :: st) σ o :=
  zr_put C 5 zin_X3 rfl (Nat.le_of_ble_eq_true rfl) rfl tyX3_ok nmX3 rfl (ty := .int) (σ1 := zwi σ 5 i 5 x) (by decide +kernel) wz_46 hd hk rfl (Nat.le_of_ble_eq_true rfl) rfl rfl (fun a b q => zu_off _ _ _ q) (fun a b q => rfl) (by
    show zE Z 5 i (zu σ.1 5 i 5 x 5 i) _ = _
    rw [zu_at]
    rfl) kk
theorem wz_483 : Cond.fieldLink "AlpCommune$Rights" (31 : Nat) "AlpCommune$Rights" "COMMON_OF" "[I" ∈ zTB := zTB_mem 610 (by decide +kernel) (by decide +kernel)
theorem wz_44 : Cond.fieldLink "AlpCommune$Rights" (24 : Nat) "AlpCommune$Rights" "lentTill" "[I" ∈ zTB := zTB_mem 171 (by decide +kernel) (by decide +kernel)
theorem zf_X3_24 (C : zCx E cc RX3 nL ret Z h) {i : Nat} (hk : i < zN 5) (hd : decode cc pc = .ok (.getfield 24, 3)) (kk : zKO E nL Z QQ (pc + 3) L (.ref (zad Z 10 0) :: st) σ o) : zKO E nL Z QQ pc L (.ref (zad Z 5 i) :: st) σ o := zr_get C 4 zin_X3 rfl (Nat.le_of_ble_eq_true rfl) rfl wz_44 hd hk rfl rfl kk
theorem wz_42 : Cond.fieldLink "AlpCommune$Rights" (21 : Nat) "AlpCommune$Rights" "lentTo" "[I" ∈ zTB := zTB_mem 169 (by decide +kernel) (by decide +kernel)
theorem zf_X3_21 (C : zCx E cc RX3 nL ret Z h) {i : Nat} (hk : i < zN 5) (hd : decode cc pc = .ok (.getfield 21, 3)) (kk : zKO E nL Z QQ (pc + 3) L (.ref (zad Z 9 0) :: st) σ o) : zKO E nL Z QQ pc L (.ref (zad Z 5 i) :: st) σ o := zr_get C 3 zin_X3 rfl (Nat.le_of_ble_eq_true rfl) rfl wz_42 hd hk rfl rfl kk
theorem wz_498 : Cond.methodLink "AlpCommune$Rights" (34 : Nat) ({ cls := "AlpCommune$Rights", name := "isLent", desc := "(II)Z" } : MethodName) ∈ zTB := zTB_mem 625 (by decide +kernel) (by decide +kernel)
theorem wz_p6 : Cond.selects yX3_isLent.cls yX3_isLent yX3_isLent ∈ zTB := zTB_mem 6 (by decide +kernel) (by decide +kernel)
theorem wz_487 : Cond.instanceMethod ({ cls := "AlpCommune$Rights", name := "isLent", desc := "(II)Z" } : MethodName) ∈ zTB := zTB_mem 614 (by decide +kernel) (by decide +kernel)
theorem wz_488 : Cond.code yX3_isLent cX3_isLent 3 (some .boolean) ∈ zTB := zTB_mem 615 (by decide +kernel) (by decide +kernel)
theorem wz_2 : Cond.initialized "AlpCommune$Rights" ∈ zTB := zTB_mem 129 (by decide +kernel) (by decide +kernel)
theorem wz_497 : Cond.methodLink "AlpCommune$Rights" (38 : Nat) ({ cls := "AlpCommune$Rights", name := "commonOf", desc := "(I)I" } : MethodName) ∈ zTB := zTB_mem 624 (by decide +kernel) (by decide +kernel)
theorem wz_p5 : Cond.selects yX3_commonOf.cls yX3_commonOf yX3_commonOf ∈ zTB := zTB_mem 5 (by decide +kernel) (by decide +kernel)
theorem wz_481 : Cond.instanceMethod ({ cls := "AlpCommune$Rights", name := "commonOf", desc := "(I)I" } : MethodName) ∈ zTB := zTB_mem 608 (by decide +kernel) (by decide +kernel)
theorem wz_482 : Cond.code yX3_commonOf cX3_commonOf 2 (some .int) ∈ zTB := zTB_mem 609 (by decide +kernel) (by decide +kernel)
theorem wz_527 : Cond.methodLink "AlpCommune$Rights" (42 : Nat) ({ cls := "AlpCommune$Rights", name := "holder", desc := "(II)I" } : MethodName) ∈ zTB := zTB_mem 654 (by decide +kernel) (by decide +kernel)
theorem wz_p8 : Cond.selects yX3_holder.cls yX3_holder yX3_holder ∈ zTB := zTB_mem 8 (by decide +kernel) (by decide +kernel)
theorem wz_513 : Cond.instanceMethod ({ cls := "AlpCommune$Rights", name := "holder", desc := "(II)I" } : MethodName) ∈ zTB := zTB_mem 640 (by decide +kernel) (by decide +kernel)
theorem wz_514 : Cond.code yX3_holder cX3_holder 3 (some .int) ∈ zTB := zTB_mem 641 (by decide +kernel) (by decide +kernel)
theorem wz_953 : Cond.methodLink "AlpCommune$Rights" (46 : Nat) ({ cls := "AlpCommune$Rights", name := "whole", desc := "(I)I" } : MethodName) ∈ zTB := zTB_mem 1080 (by decide +kernel) (by decide +kernel)
theorem wz_p9 : Cond.selects yX3_whole.cls yX3_whole yX3_whole ∈ zTB := zTB_mem 9 (by decide +kernel) (by decide +kernel)
theorem wz_521 : Cond.instanceMethod ({ cls := "AlpCommune$Rights", name := "whole", desc := "(I)I" } : MethodName) ∈ zTB := zTB_mem 648 (by decide +kernel) (by decide +kernel)
theorem wz_522 : Cond.code yX3_whole cX3_whole 4 (some .int) ∈ zTB := zTB_mem 649 (by decide +kernel) (by decide +kernel)
theorem wz_1052 : Cond.fieldLink "AlpCommune$Rights" (49 : Nat) "AlpCommune$Rights" "KIND_ABOVE" "[I" ∈ zTB := zTB_mem 1179 (by decide +kernel) (by decide +kernel)
theorem wz_362 : Cond.fieldLink "AlpCommune$Sheet" (15 : Nat) "AlpCommune$Sheet" "items" "[J" ∈ zTB := zTB_mem 489 (by decide +kernel) (by decide +kernel)
set_option maxRecDepth 100000 in
theorem zin_X4 : ∀ w ∈ u_ws RX4 TX4 3, w ∈ zTB := by decide +kernel
theorem zf_X4_15 (C : zCx E cc RX4 nL ret Z h) {i : Nat} (hk : i < zN 47) (hd : decode cc pc = .ok (.getfield 15, 3)) (kk : zKO E nL Z QQ (pc + 3) L (.ref (zad Z 48 i) :: st) σ o) : zKO E nL Z QQ pc L (.ref (zad Z 47 i) :: st) σ o := zr_get C 2 zin_X4 rfl (Nat.le_of_ble_eq_true rfl) rfl wz_362 hd hk rfl rfl kk
theorem wz_359 : Cond.fieldLink "AlpCommune$Sheet" (9 : Nat) "AlpCommune$Sheet" "sort" "I" ∈ zTB := zTB_mem 486 (by decide +kernel) (by decide +kernel)
theorem zp_X4_9 (C : zCx E cc RX4 nL ret Z h) {i : Nat} {x : Int32} (hk : i < zN 47) (hd : decode cc pc = .ok (.putfield 9, 3)) (kk : zKO E nL Z QQ (pc + 3) L st (zwi σ 47 i 0 x) o) : zKO E nL Z QQ pc L (.int x :: .ref (zad Z 47 i) :: st) σ o :=
  zr_put C 0 zin_X4 rfl (Nat.le_of_ble_eq_true rfl) rfl tyX4_ok nmX4 rfl (ty := .int) (σ1 := zwi σ 47 i 0 x) (by decide +kernel) wz_359 hd hk rfl (Nat.le_of_ble_eq_true rfl) rfl rfl (fun a b q => zu_off _ _ _ q) (fun a b q => rfl) (by
    show zE Z 47 i (zu σ.1 47 i 0 x 47 i) _ = _
    rw [zu_at]
    rfl) kk
theorem wz_361 : Cond.fieldLink "AlpCommune$Sheet" (19 : Nat) "AlpCommune$Sheet" "size" "I" ∈ zTB := zTB_mem 488 (by decide +kernel) (by decide +kernel)
theorem zp_X4_19 (C : zCx E cc RX4 nL ret Z h) {i : Nat} {x : Int32} (hk : i < zN 47) (hd : decode cc pc = .ok (.putfield 19, 3)) (kk : zKO E nL Z QQ (pc + 3) L st (zwi σ 47 i 1 x) o) : zKO E nL Z QQ pc L (.int x :: .ref (zad Z 47 i) :: st) σ o :=
  zr_put C 1 zin_X4 rfl (Nat.le_of_ble_eq_true rfl) rfl tyX4_ok nmX4 rfl (ty := .int) (σ1 := zwi σ 47 i 1 x) (by decide +kernel) wz_361 hd hk rfl (Nat.le_of_ble_eq_true rfl) rfl rfl (fun a b q => zu_off _ _ _ q) (fun a b q => rfl) (by
    show zE Z 47 i (zu σ.1 47 i 1 x 47 i) _ = _
    rw [zu_at]
    rfl) kk
theorem zf_X4_19 (C : zCx E cc RX4 nL ret Z h) {i : Nat} (hk : i < zN 47) (hd : decode cc pc = .ok (.getfield 19, 3)) (kk : zKO E nL Z QQ (pc + 3) L (.int (σ.1 47 i 1) :: st) σ o) : zKO E nL Z QQ pc L (.ref (zad Z 47 i) :: st) σ o := zr_get C 1 zin_X4 rfl (Nat.le_of_ble_eq_true rfl) rfl wz_361 hd hk rfl rfl kk
theorem zf_X4_9 (C : zCx E cc RX4 nL ret Z h) {i : Nat} (hk : i < zN 47) (hd : decode cc pc = .ok (.getfield 9, 3)) (kk : zKO E nL Z QQ (pc + 3) L (.int (σ.1 47 i 0) :: st) σ o) : zKO E nL Z QQ pc L (.ref (zad Z 47 i) :: st) σ o := zr_get C 0 zin_X4 rfl (Nat.le_of_ble_eq_true rfl) rfl wz_359 hd hk rfl rfl kk
theorem wz_707 : Cond.fieldLink "AlpCommune$Sky" (21 : Nat) "AlpCommune$Sky" "LEAST" "[I" ∈ zTB := zTB_mem 834 (by decide +kernel) (by decide +kernel)
theorem wz_709 : Cond.fieldLink "AlpCommune$Sky" (25 : Nat) "AlpCommune$Sky" "MOST" "[I" ∈ zTB := zTB_mem 836 (by decide +kernel) (by decide +kernel)
theorem wz_154 : Cond.fieldLink "AlpCommune$Sky" (11 : Nat) "AlpCommune$Sky" "told" "[[S" ∈ zTB := zTB_mem 281 (by decide +kernel) (by decide +kernel)
set_option maxRecDepth 100000 in
theorem zin_X5 : ∀ w ∈ u_ws RX5 TX5 2, w ∈ zTB := by decide +kernel
theorem zf_X5_11 (C : zCx E cc RX5 nL ret Z h) {i : Nat} (hk : i < zN 20) (hd : decode cc pc = .ok (.getfield 11, 3)) (kk : zKO E nL Z QQ (pc + 3) L (.ref (zad Z 21 0) :: st) σ o) : zKO E nL Z QQ pc L (.ref (zad Z 20 i) :: st) σ o := zr_get C 0 zin_X5 rfl (Nat.le_of_ble_eq_true rfl) rfl wz_154 hd hk rfl rfl kk
theorem wz_155 : Cond.fieldLink "AlpCommune$Sky" (18 : Nat) "AlpCommune$Sky" "toldIn" "[[I" ∈ zTB := zTB_mem 282 (by decide +kernel) (by decide +kernel)
theorem zf_X5_18 (C : zCx E cc RX5 nL ret Z h) {i : Nat} (hk : i < zN 20) (hd : decode cc pc = .ok (.getfield 18, 3)) (kk : zKO E nL Z QQ (pc + 3) L (.ref (zad Z 23 0) :: st) σ o) : zKO E nL Z QQ pc L (.ref (zad Z 20 i) :: st) σ o := zr_get C 1 zin_X5 rfl (Nat.le_of_ble_eq_true rfl) rfl wz_155 hd hk rfl rfl kk
theorem wz_736 : Cond.fieldLink "AlpCommune$Sky" (28 : Nat) "AlpCommune$Sky" "WITHOUT" "[I" ∈ zTB := zTB_mem 863 (by decide +kernel) (by decide +kernel)
theorem wz_236 : Cond.fieldLink "AlpCommune$Slope" (19 : Nat) "AlpCommune$Slope" "hasWorks" "Z" ∈ zTB := zTB_mem 363 (by decide +kernel) (by decide +kernel)
set_option maxRecDepth 100000 in
theorem zin_X6 : ∀ w ∈ u_ws RX6 TX6 6, w ∈ zTB := by decide +kernel
theorem zf_X6_19 (C : zCx E cc RX6 nL ret Z h) {i : Nat} (hk : i < zN 40) (hd : decode cc pc = .ok (.getfield 19, 3)) (kk : zKO E nL Z QQ (pc + 3) L (.int (σ.1 40 i 3) :: st) σ o) : zKO E nL Z QQ pc L (.ref (zad Z 40 i) :: st) σ o := zr_get C 3 zin_X6 rfl (Nat.le_of_ble_eq_true rfl) rfl wz_236 hd hk rfl rfl kk
theorem wz_239 : Cond.fieldLink "AlpCommune$Slope" (15 : Nat) "AlpCommune$Slope" "soft" "[Z" ∈ zTB := zTB_mem 366 (by decide +kernel) (by decide +kernel)
theorem zf_X6_15 (C : zCx E cc RX6 nL ret Z h) {i : Nat} (hk : i < zN 40) (hd : decode cc pc = .ok (.getfield 15, 3)) (kk : zKO E nL Z QQ (pc + 3) L (.ref (zad Z 42 i) :: st) σ o) : zKO E nL Z QQ pc L (.ref (zad Z 40 i) :: st) σ o := zr_get C 5 zin_X6 rfl (Nat.le_of_ble_eq_true rfl) rfl wz_239 hd hk rfl rfl kk
theorem wz_238 : Cond.fieldLink "AlpCommune$Slope" (9 : Nat) "AlpCommune$Slope" "depth" "[I" ∈ zTB := zTB_mem 365 (by decide +kernel) (by decide +kernel)
theorem zf_X6_9 (C : zCx E cc RX6 nL ret Z h) {i : Nat} (hk : i < zN 40) (hd : decode cc pc = .ok (.getfield 9, 3)) (kk : zKO E nL Z QQ (pc + 3) L (.ref (zad Z 41 i) :: st) σ o) : zKO E nL Z QQ pc L (.ref (zad Z 40 i) :: st) σ o := zr_get C 4 zin_X6 rfl (Nat.le_of_ble_eq_true rfl) rfl wz_238 hd hk rfl rfl kk
theorem wz_232 : Cond.fieldLink "AlpCommune$Slope" (23 : Nat) "AlpCommune$Slope" "layers" "I" ∈ zTB := zTB_mem 359 (by decide +kernel) (by decide +kernel)
theorem zf_X6_23 (C : zCx E cc RX6 nL ret Z h) {i : Nat} (hk : i < zN 40) (hd : decode cc pc = .ok (.getfield 23, 3)) (kk : zKO E nL Z QQ (pc + 3) L (.int (σ.1 40 i 1) :: st) σ o) : zKO E nL Z QQ pc L (.ref (zad Z 40 i) :: st) σ o := zr_get C 1 zin_X6 rfl (Nat.le_of_ble_eq_true rfl) rfl wz_232 hd hk rfl rfl kk
theorem wz_858 : Cond.methodLink "AlpCommune$Slope" (35 : Nat) ({ cls := "AlpCommune$Slope", name := "bears", desc := "(I)I" } : MethodName) ∈ zTB := zTB_mem 985 (by decide +kernel) (by decide +kernel)
theorem wz_p52 : Cond.selects yX6_bears.cls yX6_bears yX6_bears ∈ zTB := zTB_mem 52 (by decide +kernel) (by decide +kernel)
theorem wz_860 : Cond.instanceMethod ({ cls := "AlpCommune$Slope", name := "bears", desc := "(I)I" } : MethodName) ∈ zTB := zTB_mem 987 (by decide +kernel) (by decide +kernel)
theorem wz_861 : Cond.code yX6_bears cX6_bears 2 (some .int) ∈ zTB := zTB_mem 988 (by decide +kernel) (by decide +kernel)
theorem wz_8 : Cond.initialized "AlpCommune$Slope" ∈ zTB := zTB_mem 135 (by decide +kernel) (by decide +kernel)
theorem wz_854 : Cond.methodLink "AlpCommune$Slope" (31 : Nat) ({ cls := "AlpCommune$Slope", name := "lyingFrom", desc := "(I)I" } : MethodName) ∈ zTB := zTB_mem 981 (by decide +kernel) (by decide +kernel)
theorem wz_p51 : Cond.selects yX6_lyingFrom.cls yX6_lyingFrom yX6_lyingFrom ∈ zTB := zTB_mem 51 (by decide +kernel) (by decide +kernel)
theorem wz_856 : Cond.instanceMethod ({ cls := "AlpCommune$Slope", name := "lyingFrom", desc := "(I)I" } : MethodName) ∈ zTB := zTB_mem 983 (by decide +kernel) (by decide +kernel)
theorem wz_857 : Cond.code yX6_lyingFrom cX6_lyingFrom 4 (some .int) ∈ zTB := zTB_mem 984 (by decide +kernel) (by decide +kernel)
theorem wz_850 : Cond.methodLink "AlpCommune$Slope" (27 : Nat) ({ cls := "AlpCommune$Slope", name := "lowestSoft", desc := "()I" } : MethodName) ∈ zTB := zTB_mem 977 (by decide +kernel) (by decide +kernel)
theorem wz_p50 : Cond.selects yX6_lowestSoft.cls yX6_lowestSoft yX6_lowestSoft ∈ zTB := zTB_mem 50 (by decide +kernel) (by decide +kernel)
theorem wz_852 : Cond.instanceMethod ({ cls := "AlpCommune$Slope", name := "lowestSoft", desc := "()I" } : MethodName) ∈ zTB := zTB_mem 979 (by decide +kernel) (by decide +kernel)
theorem wz_853 : Cond.code yX6_lowestSoft cX6_lowestSoft 2 (some .int) ∈ zTB := zTB_mem 980 (by decide +kernel) (by decide +kernel)
theorem zp_X6_23 (C : zCx E cc RX6 nL ret Z h) {i : Nat} {x : Int32} (hk : i < zN 40) (hd : decode cc pc = .ok (.putfield 23, 3)) (kk : zKO E nL Z QQ (pc + 3) L st (zwi σ 40 i 1 x) o) : zKO E nL Z QQ pc L (.int x :: .ref (zad Z 40 i) :: st) σ o :=
  zr_put C 1 zin_X6 rfl (Nat.le_of_ble_eq_true rfl) rfl tyX6_ok nmX6 rfl (ty := .int) (σ1 := zwi σ 40 i 1 x) (by decide +kernel) wz_232 hd hk rfl (Nat.le_of_ble_eq_true rfl) rfl rfl (fun a b q => zu_off _ _ _ q) (fun a b q => rfl) (by
    show zE Z 40 i (zu σ.1 40 i 1 x 40 i) _ = _
    rw [zu_at]
    rfl) kk
theorem wz_846 : Cond.methodLink "AlpCommune$Slope" (52 : Nat) ({ cls := "AlpCommune$Slope", name := "joinLowest", desc := "()V" } : MethodName) ∈ zTB := zTB_mem 973 (by decide +kernel) (by decide +kernel)
theorem wz_p49 : Cond.selects yX6_joinLowest.cls yX6_joinLowest yX6_joinLowest ∈ zTB := zTB_mem 49 (by decide +kernel) (by decide +kernel)
theorem wz_848 : Cond.instanceMethod ({ cls := "AlpCommune$Slope", name := "joinLowest", desc := "()V" } : MethodName) ∈ zTB := zTB_mem 975 (by decide +kernel) (by decide +kernel)
theorem wz_849 : Cond.code yX6_joinLowest cX6_joinLowest 2 none ∈ zTB := zTB_mem 976 (by decide +kernel) (by decide +kernel)
theorem wz_842 : Cond.methodLink "AlpCommune$Slope" (42 : Nat) ({ cls := "AlpCommune$Slope", name := "addLayer", desc := "(IZ)V" } : MethodName) ∈ zTB := zTB_mem 969 (by decide +kernel) (by decide +kernel)
theorem wz_p48 : Cond.selects yX6_addLayer.cls yX6_addLayer yX6_addLayer ∈ zTB := zTB_mem 48 (by decide +kernel) (by decide +kernel)
theorem wz_844 : Cond.instanceMethod ({ cls := "AlpCommune$Slope", name := "addLayer", desc := "(IZ)V" } : MethodName) ∈ zTB := zTB_mem 971 (by decide +kernel) (by decide +kernel)
theorem wz_845 : Cond.code yX6_addLayer cX6_addLayer 3 none ∈ zTB := zTB_mem 972 (by decide +kernel) (by decide +kernel)
theorem wz_230 : Cond.fieldLink "AlpCommune$Slope" (46 : Nat) "AlpCommune$Slope" "age" "I" ∈ zTB := zTB_mem 357 (by decide +kernel) (by decide +kernel)
theorem zf_X6_46 (C : zCx E cc RX6 nL ret Z h) {i : Nat} (hk : i < zN 40) (hd : decode cc pc = .ok (.getfield 46, 3)) (kk : zKO E nL Z QQ (pc + 3) L (.int (σ.1 40 i 0) :: st) σ o) : zKO E nL Z QQ pc L (.ref (zad Z 40 i) :: st) σ o := zr_get C 0 zin_X6 rfl (Nat.le_of_ble_eq_true rfl) rfl wz_230 hd hk rfl rfl kk
theorem zp_X6_46 (C : zCx E cc RX6 nL ret Z h) {i : Nat} {x : Int32} (hk : i < zN 40) (hd : decode cc pc = .ok (.putfield 46, 3)) (kk : zKO E nL Z QQ (pc + 3) L st (zwi σ 40 i 0 x) o) : zKO E nL Z QQ pc L (.int x :: .ref (zad Z 40 i) :: st) σ o :=
  zr_put C 0 zin_X6 rfl (Nat.le_of_ble_eq_true rfl) rfl tyX6_ok nmX6 rfl (ty := .int) (σ1 := zwi σ 40 i 0 x) (by decide +kernel) wz_230 hd hk rfl (Nat.le_of_ble_eq_true rfl) rfl rfl (fun a b q => zu_off _ _ _ q) (fun a b q => rfl) (by
    show zE Z 40 i (zu σ.1 40 i 0 x 40 i) _ = _
    rw [zu_at]
    rfl) kk
theorem wz_234 : Cond.fieldLink "AlpCommune$Slope" (49 : Nat) "AlpCommune$Slope" "slid" "I" ∈ zTB := zTB_mem 361 (by decide +kernel) (by decide +kernel)
theorem zf_X6_49 (C : zCx E cc RX6 nL ret Z h) {i : Nat} (hk : i < zN 40) (hd : decode cc pc = .ok (.getfield 49, 3)) (kk : zKO E nL Z QQ (pc + 3) L (.int (σ.1 40 i 2) :: st) σ o) : zKO E nL Z QQ pc L (.ref (zad Z 40 i) :: st) σ o := zr_get C 2 zin_X6 rfl (Nat.le_of_ble_eq_true rfl) rfl wz_234 hd hk rfl rfl kk
theorem zp_X6_49 (C : zCx E cc RX6 nL ret Z h) {i : Nat} {x : Int32} (hk : i < zN 40) (hd : decode cc pc = .ok (.putfield 49, 3)) (kk : zKO E nL Z QQ (pc + 3) L st (zwi σ 40 i 2 x) o) : zKO E nL Z QQ pc L (.int x :: .ref (zad Z 40 i) :: st) σ o :=
  zr_put C 2 zin_X6 rfl (Nat.le_of_ble_eq_true rfl) rfl tyX6_ok nmX6 rfl (ty := .int) (σ1 := zwi σ 40 i 2 x) (by decide +kernel) wz_234 hd hk rfl (Nat.le_of_ble_eq_true rfl) rfl rfl (fun a b q => zu_off _ _ _ q) (fun a b q => rfl) (by
    show zE Z 40 i (zu σ.1 40 i 2 x 40 i) _ = _
    rw [zu_at]
    rfl) kk
theorem wz_838 : Cond.methodLink "AlpCommune$Slope" (38 : Nat) ({ cls := "AlpCommune$Slope", name := "melt", desc := "(I)V" } : MethodName) ∈ zTB := zTB_mem 965 (by decide +kernel) (by decide +kernel)
theorem wz_p47 : Cond.selects yX6_melt.cls yX6_melt yX6_melt ∈ zTB := zTB_mem 47 (by decide +kernel) (by decide +kernel)
theorem wz_840 : Cond.instanceMethod ({ cls := "AlpCommune$Slope", name := "melt", desc := "(I)V" } : MethodName) ∈ zTB := zTB_mem 967 (by decide +kernel) (by decide +kernel)
theorem wz_841 : Cond.code yX6_melt cX6_melt 3 none ∈ zTB := zTB_mem 968 (by decide +kernel) (by decide +kernel)
theorem wz_255 : Cond.fieldLink "AlpCommune$Way" (18 : Nat) "AlpCommune$Way" "count" "I" ∈ zTB := zTB_mem 382 (by decide +kernel) (by decide +kernel)
set_option maxRecDepth 100000 in
theorem zin_X7 : ∀ w ∈ u_ws RX7 TX7 7, w ∈ zTB := by decide +kernel
theorem zf_X7_18 (C : zCx E cc RX7 nL ret Z h) {i : Nat} (hk : i < zN 38) (hd : decode cc pc = .ok (.getfield 18, 3)) (kk : zKO E nL Z QQ (pc + 3) L (.int (σ.1 38 i 1) :: st) σ o) : zKO E nL Z QQ pc L (.ref (zad Z 38 i) :: st) σ o := zr_get C 1 zin_X7 rfl (Nat.le_of_ble_eq_true rfl) rfl wz_255 hd hk rfl rfl kk
theorem wz_259 : Cond.fieldLink "AlpCommune$Way" (26 : Nat) "AlpCommune$Way" "slides" "I" ∈ zTB := zTB_mem 386 (by decide +kernel) (by decide +kernel)
theorem zf_X7_26 (C : zCx E cc RX7 nL ret Z h) {i : Nat} (hk : i < zN 38) (hd : decode cc pc = .ok (.getfield 26, 3)) (kk : zKO E nL Z QQ (pc + 3) L (.int (σ.1 38 i 3) :: st) σ o) : zKO E nL Z QQ pc L (.ref (zad Z 38 i) :: st) σ o := zr_get C 3 zin_X7 rfl (Nat.le_of_ble_eq_true rfl) rfl wz_259 hd hk rfl rfl kk
theorem zp_X7_26 (C : zCx E cc RX7 nL ret Z h) {i : Nat} {x : Int32} (hk : i < zN 38) (hd : decode cc pc = .ok (.putfield 26, 3)) (kk : zKO E nL Z QQ (pc + 3) L st (zwi σ 38 i 3 x) o) : zKO E nL Z QQ pc L (.int x :: .ref (zad Z 38 i) :: st) σ o :=
  zr_put C 3 zin_X7 rfl (Nat.le_of_ble_eq_true rfl) rfl tyX7_ok nmX7 rfl (ty := .int) (σ1 := zwi σ 38 i 3 x) (by decide +kernel) wz_259 hd hk rfl (Nat.le_of_ble_eq_true rfl) rfl rfl (fun a b q => zu_off _ _ _ q) (fun a b q => rfl) (by
    show zE Z 38 i (zu σ.1 38 i 3 x 38 i) _ = _
    rw [zu_at]
    rfl) kk
theorem wz_257 : Cond.fieldLink "AlpCommune$Way" (29 : Nat) "AlpCommune$Way" "isShut" "Z" ∈ zTB := zTB_mem 384 (by decide +kernel) (by decide +kernel)
theorem zf_X7_29 (C : zCx E cc RX7 nL ret Z h) {i : Nat} (hk : i < zN 38) (hd : decode cc pc = .ok (.getfield 29, 3)) (kk : zKO E nL Z QQ (pc + 3) L (.int (σ.1 38 i 2) :: st) σ o) : zKO E nL Z QQ pc L (.ref (zad Z 38 i) :: st) σ o := zr_get C 2 zin_X7 rfl (Nat.le_of_ble_eq_true rfl) rfl wz_257 hd hk rfl rfl kk
theorem wz_263 : Cond.fieldLink "AlpCommune$Way" (36 : Nat) "AlpCommune$Way" "inVain" "I" ∈ zTB := zTB_mem 390 (by decide +kernel) (by decide +kernel)
theorem zf_X7_36 (C : zCx E cc RX7 nL ret Z h) {i : Nat} (hk : i < zN 38) (hd : decode cc pc = .ok (.getfield 36, 3)) (kk : zKO E nL Z QQ (pc + 3) L (.int (σ.1 38 i 5) :: st) σ o) : zKO E nL Z QQ pc L (.ref (zad Z 38 i) :: st) σ o := zr_get C 5 zin_X7 rfl (Nat.le_of_ble_eq_true rfl) rfl wz_263 hd hk rfl rfl kk
theorem zp_X7_36 (C : zCx E cc RX7 nL ret Z h) {i : Nat} {x : Int32} (hk : i < zN 38) (hd : decode cc pc = .ok (.putfield 36, 3)) (kk : zKO E nL Z QQ (pc + 3) L st (zwi σ 38 i 5 x) o) : zKO E nL Z QQ pc L (.int x :: .ref (zad Z 38 i) :: st) σ o :=
  zr_put C 5 zin_X7 rfl (Nat.le_of_ble_eq_true rfl) rfl tyX7_ok nmX7 rfl (ty := .int) (σ1 := zwi σ 38 i 5 x) (by decide +kernel) wz_263 hd hk rfl (Nat.le_of_ble_eq_true rfl) rfl rfl (fun a b q => zu_off _ _ _ q) (fun a b q => rfl) (by
    show zE Z 38 i (zu σ.1 38 i 5 x 38 i) _ = _
    rw [zu_at]
    rfl) kk
theorem wz_261 : Cond.fieldLink "AlpCommune$Way" (33 : Nat) "AlpCommune$Way" "missed" "I" ∈ zTB := zTB_mem 388 (by decide +kernel) (by decide +kernel)
theorem zf_X7_33 (C : zCx E cc RX7 nL ret Z h) {i : Nat} (hk : i < zN 38) (hd : decode cc pc = .ok (.getfield 33, 3)) (kk : zKO E nL Z QQ (pc + 3) L (.int (σ.1 38 i 4) :: st) σ o) : zKO E nL Z QQ pc L (.ref (zad Z 38 i) :: st) σ o := zr_get C 4 zin_X7 rfl (Nat.le_of_ble_eq_true rfl) rfl wz_261 hd hk rfl rfl kk
theorem zp_X7_33 (C : zCx E cc RX7 nL ret Z h) {i : Nat} {x : Int32} (hk : i < zN 38) (hd : decode cc pc = .ok (.putfield 33, 3)) (kk : zKO E nL Z QQ (pc + 3) L st (zwi σ 38 i 4 x) o) : zKO E nL Z QQ pc L (.int x :: .ref (zad Z 38 i) :: st) σ o :=
  zr_put C 4 zin_X7 rfl (Nat.le_of_ble_eq_true rfl) rfl tyX7_ok nmX7 rfl (ty := .int) (σ1 := zwi σ 38 i 4 x) (by decide +kernel) wz_261 hd hk rfl (Nat.le_of_ble_eq_true rfl) rfl rfl (fun a b q => zu_off _ _ _ q) (fun a b q => rfl) (by
    show zE Z 38 i (zu σ.1 38 i 4 x 38 i) _ = _
    rw [zu_at]
    rfl) kk
theorem wz_253 : Cond.fieldLink "AlpCommune$Way" (11 : Nat) "AlpCommune$Way" "slopes" "[LAlpCommune$Slope;" ∈ zTB := zTB_mem 380 (by decide +kernel) (by decide +kernel)
theorem zf_X7_11 (C : zCx E cc RX7 nL ret Z h) {i : Nat} (hk : i < zN 38) (hd : decode cc pc = .ok (.getfield 11, 3)) (kk : zKO E nL Z QQ (pc + 3) L (.ref (zad Z 39 0) :: st) σ o) : zKO E nL Z QQ pc L (.ref (zad Z 38 i) :: st) σ o := zr_get C 0 zin_X7 rfl (Nat.le_of_ble_eq_true rfl) rfl wz_253 hd hk rfl rfl kk
theorem wz_n834 : Cond.methodLinkNest "AlpCommune$Way" (22 : Nat) ({ cls := "AlpCommune$Slope", name := "live", desc := "(II)Z" } : MethodName) "AlpCommune" ∈ zNest := zNest_mem 834 (by decide +kernel) (by decide +kernel)
theorem wz_p46 : Cond.selects yX6_live.cls yX6_live yX6_live ∈ zTB := zTB_mem 46 (by decide +kernel) (by decide +kernel)
theorem wz_836 : Cond.instanceMethod ({ cls := "AlpCommune$Slope", name := "live", desc := "(II)Z" } : MethodName) ∈ zTB := zTB_mem 963 (by decide +kernel) (by decide +kernel)
theorem wz_837 : Cond.code yX6_live cX6_live 4 (some .boolean) ∈ zTB := zTB_mem 964 (by decide +kernel) (by decide +kernel)
theorem wz_n229 : Cond.fieldLinkNest "AlpCommune$Way" (39 : Nat) "AlpCommune$Slope" "age" "I" "AlpCommune" ∈ zNest := zNest_mem 229 (by decide +kernel) (by decide +kernel)
theorem zf_X7_39 (C : zCx E cc RX7 nL ret Z h) {i : Nat} (hk : i < zN 40) (hd : decode cc pc = .ok (.getfield 39, 3)) (kk : zKO E nL Z QQ (pc + 3) L (.int (σ.1 40 i 0) :: st) σ o) : zKO E nL Z QQ pc L (.ref (zad Z 40 i) :: st) σ o := zr_getN C 0 zin_X6 rfl (Nat.le_of_ble_eq_true rfl) rfl wz_n229 hd hk rfl rfl kk
theorem wz_866 : Cond.methodLink "AlpCommune$Way" (42 : Nat) ({ cls := "java/lang/Math", name := "min", desc := "(II)I" } : MethodName) ∈ zTB := zTB_mem 993 (by decide +kernel) (by decide +kernel)
theorem zp_X7_39 (C : zCx E cc RX7 nL ret Z h) {i : Nat} {x : Int32} (hk : i < zN 40) (hd : decode cc pc = .ok (.putfield 39, 3)) (kk : zKO E nL Z QQ (pc + 3) L st (zwi σ 40 i 0 x) o) : zKO E nL Z QQ pc L (.int x :: .ref (zad Z 40 i) :: st) σ o :=
  zr_putN C 0 zin_X6 rfl (Nat.le_of_ble_eq_true rfl) rfl tyX6_ok nmX6 rfl (ty := .int) (σ1 := zwi σ 40 i 0 x) (by decide +kernel) wz_n229 hd hk rfl (Nat.le_of_ble_eq_true rfl) rfl rfl (fun a b q => zu_off _ _ _ q) (fun a b q => rfl) (by
    show zE Z 40 i (zu σ.1 40 i 0 x 40 i) _ = _
    rw [zu_at]
    rfl) kk
theorem wz_75 : Cond.fieldLink "AlpCommune$Word" (28 : Nat) "AlpCommune$Word" "key" "I" ∈ zTB := zTB_mem 202 (by decide +kernel) (by decide +kernel)
set_option maxRecDepth 100000 in
theorem zin_X8 : ∀ w ∈ u_ws RX8 TX8 12, w ∈ zTB := by decide +kernel
theorem zf_X8_28 (C : zCx E cc RX8 nL ret Z h) {i : Nat} (hk : i < zN 13) (hd : decode cc pc = .ok (.getfield 28, 3)) (kk : zKO E nL Z QQ (pc + 3) L (.int (σ.1 13 i 0) :: st) σ o) : zKO E nL Z QQ pc L (.ref (zad Z 13 i) :: st) σ o := zr_get C 0 zin_X8 rfl (Nat.le_of_ble_eq_true rfl) rfl wz_75 hd hk rfl rfl kk
theorem wz_78 : Cond.fieldLink "AlpCommune$Word" (32 : Nat) "AlpCommune$Word" "day" "I" ∈ zTB := zTB_mem 205 (by decide +kernel) (by decide +kernel)
theorem zf_X8_32 (C : zCx E cc RX8 nL ret Z h) {i : Nat} (hk : i < zN 13) (hd : decode cc pc = .ok (.getfield 32, 3)) (kk : zKO E nL Z QQ (pc + 3) L (.int (σ.1 13 i 2) :: st) σ o) : zKO E nL Z QQ pc L (.ref (zad Z 13 i) :: st) σ o := zr_get C 2 zin_X8 rfl (Nat.le_of_ble_eq_true rfl) rfl wz_78 hd hk rfl rfl kk
theorem wz_82 : Cond.fieldLink "AlpCommune$Word" (35 : Nat) "AlpCommune$Word" "isVoid" "Z" ∈ zTB := zTB_mem 209 (by decide +kernel) (by decide +kernel)
theorem zf_X8_35 (C : zCx E cc RX8 nL ret Z h) {i : Nat} (hk : i < zN 13) (hd : decode cc pc = .ok (.getfield 35, 3)) (kk : zKO E nL Z QQ (pc + 3) L (.int (σ.1 13 i 4) :: st) σ o) : zKO E nL Z QQ pc L (.ref (zad Z 13 i) :: st) σ o := zr_get C 4 zin_X8 rfl (Nat.le_of_ble_eq_true rfl) rfl wz_82 hd hk rfl rfl kk
theorem wz_80 : Cond.fieldLink "AlpCommune$Word" (39 : Nat) "AlpCommune$Word" "voidOn" "I" ∈ zTB := zTB_mem 207 (by decide +kernel) (by decide +kernel)
theorem zf_X8_39 (C : zCx E cc RX8 nL ret Z h) {i : Nat} (hk : i < zN 13) (hd : decode cc pc = .ok (.getfield 39, 3)) (kk : zKO E nL Z QQ (pc + 3) L (.int (σ.1 13 i 3) :: st) σ o) : zKO E nL Z QQ pc L (.ref (zad Z 13 i) :: st) σ o := zr_get C 3 zin_X8 rfl (Nat.le_of_ble_eq_true rfl) rfl wz_80 hd hk rfl rfl kk
theorem wz_n310 : Cond.fieldLinkNest "AlpCommune$Word" (56 : Nat) "AlpCommune$House" "has" "[I" "AlpCommune" ∈ zNest := zNest_mem 310 (by decide +kernel) (by decide +kernel)
theorem zf_X8_56 (C : zCx E cc RX8 nL ret Z h) {i : Nat} (hk : i < zN 2) (hd : decode cc pc = .ok (.getfield 56, 3)) (kk : zKO E nL Z QQ (pc + 3) L (.ref (zad Z 3 i) :: st) σ o) : zKO E nL Z QQ pc L (.ref (zad Z 2 i) :: st) σ o := zr_getN C 0 zin_X2 rfl (Nat.le_of_ble_eq_true rfl) rfl wz_n310 hd hk rfl rfl kk
theorem wz_86 : Cond.fieldLink "AlpCommune$Word" (42 : Nat) "AlpCommune$Word" "tests" "I" ∈ zTB := zTB_mem 213 (by decide +kernel) (by decide +kernel)
theorem zf_X8_42 (C : zCx E cc RX8 nL ret Z h) {i : Nat} (hk : i < zN 13) (hd : decode cc pc = .ok (.getfield 42, 3)) (kk : zKO E nL Z QQ (pc + 3) L (.int (σ.1 13 i 6) :: st) σ o) : zKO E nL Z QQ pc L (.ref (zad Z 13 i) :: st) σ o := zr_get C 6 zin_X8 rfl (Nat.le_of_ble_eq_true rfl) rfl wz_86 hd hk rfl rfl kk
theorem wz_96 : Cond.fieldLink "AlpCommune$Word" (25 : Nat) "AlpCommune$Word" "or" "[Z" ∈ zTB := zTB_mem 223 (by decide +kernel) (by decide +kernel)
theorem zf_X8_25 (C : zCx E cc RX8 nL ret Z h) {i : Nat} (hk : i < zN 13) (hd : decode cc pc = .ok (.getfield 25, 3)) (kk : zKO E nL Z QQ (pc + 3) L (.ref (zad Z 18 i) :: st) σ o) : zKO E nL Z QQ pc L (.ref (zad Z 13 i) :: st) σ o := zr_get C 11 zin_X8 rfl (Nat.le_of_ble_eq_true rfl) rfl wz_96 hd hk rfl rfl kk
theorem wz_94 : Cond.fieldLink "AlpCommune$Word" (21 : Nat) "AlpCommune$Word" "not" "[Z" ∈ zTB := zTB_mem 221 (by decide +kernel) (by decide +kernel)
theorem zf_X8_21 (C : zCx E cc RX8 nL ret Z h) {i : Nat} (hk : i < zN 13) (hd : decode cc pc = .ok (.getfield 21, 3)) (kk : zKO E nL Z QQ (pc + 3) L (.ref (zad Z 17 i) :: st) σ o) : zKO E nL Z QQ pc L (.ref (zad Z 13 i) :: st) σ o := zr_get C 10 zin_X8 rfl (Nat.le_of_ble_eq_true rfl) rfl wz_94 hd hk rfl rfl kk
theorem wz_88 : Cond.fieldLink "AlpCommune$Word" (9 : Nat) "AlpCommune$Word" "field" "[I" ∈ zTB := zTB_mem 215 (by decide +kernel) (by decide +kernel)
theorem zf_X8_9 (C : zCx E cc RX8 nL ret Z h) {i : Nat} (hk : i < zN 13) (hd : decode cc pc = .ok (.getfield 9, 3)) (kk : zKO E nL Z QQ (pc + 3) L (.ref (zad Z 14 i) :: st) σ o) : zKO E nL Z QQ pc L (.ref (zad Z 13 i) :: st) σ o := zr_get C 7 zin_X8 rfl (Nat.le_of_ble_eq_true rfl) rfl wz_88 hd hk rfl rfl kk
theorem wz_90 : Cond.fieldLink "AlpCommune$Word" (15 : Nat) "AlpCommune$Word" "sign" "[I" ∈ zTB := zTB_mem 217 (by decide +kernel) (by decide +kernel)
theorem zf_X8_15 (C : zCx E cc RX8 nL ret Z h) {i : Nat} (hk : i < zN 13) (hd : decode cc pc = .ok (.getfield 15, 3)) (kk : zKO E nL Z QQ (pc + 3) L (.ref (zad Z 15 i) :: st) σ o) : zKO E nL Z QQ pc L (.ref (zad Z 13 i) :: st) σ o := zr_get C 8 zin_X8 rfl (Nat.le_of_ble_eq_true rfl) rfl wz_90 hd hk rfl rfl kk
theorem wz_92 : Cond.fieldLink "AlpCommune$Word" (18 : Nat) "AlpCommune$Word" "than" "[I" ∈ zTB := zTB_mem 219 (by decide +kernel) (by decide +kernel)
theorem zf_X8_18 (C : zCx E cc RX8 nL ret Z h) {i : Nat} (hk : i < zN 13) (hd : decode cc pc = .ok (.getfield 18, 3)) (kk : zKO E nL Z QQ (pc + 3) L (.ref (zad Z 16 i) :: st) σ o) : zKO E nL Z QQ pc L (.ref (zad Z 13 i) :: st) σ o := zr_get C 9 zin_X8 rfl (Nat.le_of_ble_eq_true rfl) rfl wz_92 hd hk rfl rfl kk
theorem wz_684 : Cond.methodLink "AlpCommune$Word" (49 : Nat) ({ cls := "AlpCommune$Word", name := "isTrue", desc := "(III)Z" } : MethodName) ∈ zTB := zTB_mem 811 (by decide +kernel) (by decide +kernel)
theorem wz_685 : Cond.static ({ cls := "AlpCommune$Word", name := "isTrue", desc := "(III)Z" } : MethodName) ∈ zTB := zTB_mem 812 (by decide +kernel) (by decide +kernel)
theorem wz_686 : Cond.code yX8_isTrue cX8_isTrue 3 (some .boolean) ∈ zTB := zTB_mem 813 (by decide +kernel) (by decide +kernel)
theorem wz_4 : Cond.initialized "AlpCommune$Word" ∈ zTB := zTB_mem 131 (by decide +kernel) (by decide +kernel)
theorem wz_681 : Cond.methodLink "AlpCommune$Word" (45 : Nat) ({ cls := "AlpCommune$Word", name := "fieldOf", desc := "(LAlpCommune$House;II)I" } : MethodName) ∈ zTB := zTB_mem 808 (by decide +kernel) (by decide +kernel)
theorem wz_682 : Cond.static ({ cls := "AlpCommune$Word", name := "fieldOf", desc := "(LAlpCommune$House;II)I" } : MethodName) ∈ zTB := zTB_mem 809 (by decide +kernel) (by decide +kernel)
theorem wz_683 : Cond.code yX8_fieldOf cX8_fieldOf 3 (some .int) ∈ zTB := zTB_mem 810 (by decide +kernel) (by decide +kernel)
theorem wz_84 : Cond.fieldLink "AlpCommune$Word" (53 : Nat) "AlpCommune$Word" "unless" "Z" ∈ zTB := zTB_mem 211 (by decide +kernel) (by decide +kernel)
theorem zf_X8_53 (C : zCx E cc RX8 nL ret Z h) {i : Nat} (hk : i < zN 13) (hd : decode cc pc = .ok (.getfield 53, 3)) (kk : zKO E nL Z QQ (pc + 3) L (.int (σ.1 13 i 5) :: st) σ o) : zKO E nL Z QQ pc L (.ref (zad Z 13 i) :: st) σ o := zr_get C 5 zin_X8 rfl (Nat.le_of_ble_eq_true rfl) rfl wz_84 hd hk rfl rfl kk
end ZL
