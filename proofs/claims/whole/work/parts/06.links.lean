section ZL
variable {E : zEn} {cc : ByteArray} {own : String} {nL h : Nat} {ret : Option FieldType} {Z : zLay} {α : Type} {QQ : α → zMem → State → Prop} {pc : Nat} {L : List (Nat × Value)} {st : List Value} {σ : zMem} {o o1 o2 : Option (α × zMem)}
theorem wz_565 : Cond.fieldLink "java/lang/String" (38 : Nat) "java/lang/String" "COMPACT_STRINGS" "Z" ∈ zTB := zTB_mem 691 (by decide +kernel) (by decide +kernel)
theorem wz_1720 : Cond.fieldLink "java/lang/String" (15 : Nat) "java/lang/String" "coder" "B" ∈ zTB := zTB_mem 1846 (by decide +kernel) (by decide +kernel)
theorem wz_581 : Cond.fieldLink "java/lang/String" (1053 : Nat) "jdk/internal/util/Preconditions" "SIOOBE_FORMATTER" "Ljava/util/function/BiFunction;" ∈ zTB := zTB_mem 707 (by decide +kernel) (by decide +kernel)
theorem wz_583 : Cond.methodLink "java/lang/String" (1059 : Nat) ({ cls := "jdk/internal/util/Preconditions", name := "checkIndex", desc := "(IILjava/util/function/BiFunction;)I" } : MethodName) ∈ zTB := zTB_mem 709 (by decide +kernel) (by decide +kernel)
theorem wz_584 : Cond.static ({ cls := "jdk/internal/util/Preconditions", name := "checkIndex", desc := "(IILjava/util/function/BiFunction;)I" } : MethodName) ∈ zTB := zTB_mem 710 (by decide +kernel) (by decide +kernel)
theorem wz_585 : Cond.code yJ3_checkIndex_8e157 cJ3_checkIndex_8e157 3 (some .int) ∈ zTB := zTB_mem 711 (by decide +kernel) (by decide +kernel)
theorem wz_15 : Cond.initialized "jdk/internal/util/Preconditions" ∈ zTB := zTB_mem 141 (by decide +kernel) (by decide +kernel)
theorem wz_1719 : Cond.fieldLink "java/lang/String" (9 : Nat) "java/lang/String" "value" "[B" ∈ zTB := zTB_mem 1845 (by decide +kernel) (by decide +kernel)
theorem wz_561 : Cond.methodLink "java/lang/String" (335 : Nat) ({ cls := "java/lang/String", name := "coder", desc := "()B" } : MethodName) ∈ zTB := zTB_mem 687 (by decide +kernel) (by decide +kernel)
theorem wz_563 : Cond.selects "java/lang/String" ({ cls := "java/lang/String", name := "coder", desc := "()B" } : MethodName) ({ cls := "java/lang/String", name := "coder", desc := "()B" } : MethodName) ∈ zTB := zTB_mem 689 (by decide +kernel) (by decide +kernel)
theorem wz_562 : Cond.instanceMethod ({ cls := "java/lang/String", name := "coder", desc := "()B" } : MethodName) ∈ zTB := zTB_mem 688 (by decide +kernel) (by decide +kernel)
theorem wz_564 : Cond.code yJ0_coder_7d493 cJ0_coder_7d493 1 (some .byte) ∈ zTB := zTB_mem 690 (by decide +kernel) (by decide +kernel)
theorem wz_13 : Cond.initialized "java/lang/String" ∈ zTB := zTB_mem 139 (by decide +kernel) (by decide +kernel)
theorem wz_578 : Cond.methodLink "java/lang/StringLatin1" (9 : Nat) ({ cls := "java/lang/String", name := "checkIndex", desc := "(II)V" } : MethodName) ∈ zTB := zTB_mem 704 (by decide +kernel) (by decide +kernel)
theorem wz_579 : Cond.static ({ cls := "java/lang/String", name := "checkIndex", desc := "(II)V" } : MethodName) ∈ zTB := zTB_mem 705 (by decide +kernel) (by decide +kernel)
theorem wz_580 : Cond.code yJ0_checkIndex_df160 cJ0_checkIndex_df160 2 none ∈ zTB := zTB_mem 706 (by decide +kernel) (by decide +kernel)
theorem wz_571 : Cond.methodLink "java/lang/String" (492 : Nat) ({ cls := "java/lang/String", name := "isLatin1", desc := "()Z" } : MethodName) ∈ zTB := zTB_mem 697 (by decide +kernel) (by decide +kernel)
theorem wz_573 : Cond.selects "java/lang/String" ({ cls := "java/lang/String", name := "isLatin1", desc := "()Z" } : MethodName) ({ cls := "java/lang/String", name := "isLatin1", desc := "()Z" } : MethodName) ∈ zTB := zTB_mem 699 (by decide +kernel) (by decide +kernel)
theorem wz_572 : Cond.instanceMethod ({ cls := "java/lang/String", name := "isLatin1", desc := "()Z" } : MethodName) ∈ zTB := zTB_mem 698 (by decide +kernel) (by decide +kernel)
theorem wz_574 : Cond.code yJ0_isLatin1_aae02 cJ0_isLatin1_aae02 1 (some .boolean) ∈ zTB := zTB_mem 700 (by decide +kernel) (by decide +kernel)
theorem wz_575 : Cond.methodLink "java/lang/String" (495 : Nat) ({ cls := "java/lang/StringLatin1", name := "charAt", desc := "([BI)C" } : MethodName) ∈ zTB := zTB_mem 701 (by decide +kernel) (by decide +kernel)
theorem wz_576 : Cond.static ({ cls := "java/lang/StringLatin1", name := "charAt", desc := "([BI)C" } : MethodName) ∈ zTB := zTB_mem 702 (by decide +kernel) (by decide +kernel)
theorem wz_577 : Cond.code yJ1_charAt_3b067 cJ1_charAt_3b067 2 (some .char) ∈ zTB := zTB_mem 703 (by decide +kernel) (by decide +kernel)
theorem wz_14 : Cond.initialized "java/lang/StringLatin1" ∈ zTB := zTB_mem 140 (by decide +kernel) (by decide +kernel)
theorem wz_557 : Cond.methodLink "AlpCommune$Words" (117 : Nat) ({ cls := "java/lang/String", name := "length", desc := "()I" } : MethodName) ∈ zTB := zTB_mem 683 (by decide +kernel) (by decide +kernel)
theorem wz_559 : Cond.selects "java/lang/String" ({ cls := "java/lang/String", name := "length", desc := "()I" } : MethodName) ({ cls := "java/lang/String", name := "length", desc := "()I" } : MethodName) ∈ zTB := zTB_mem 685 (by decide +kernel) (by decide +kernel)
theorem wz_558 : Cond.instanceMethod ({ cls := "java/lang/String", name := "length", desc := "()I" } : MethodName) ∈ zTB := zTB_mem 684 (by decide +kernel) (by decide +kernel)
theorem wz_560 : Cond.code yJ0_length_8abf5 cJ0_length_8abf5 1 (some .int) ∈ zTB := zTB_mem 686 (by decide +kernel) (by decide +kernel)
theorem wz_567 : Cond.methodLink "AlpCommune$Words" (121 : Nat) ({ cls := "java/lang/String", name := "charAt", desc := "(I)C" } : MethodName) ∈ zTB := zTB_mem 693 (by decide +kernel) (by decide +kernel)
theorem wz_569 : Cond.selects "java/lang/String" ({ cls := "java/lang/String", name := "charAt", desc := "(I)C" } : MethodName) ({ cls := "java/lang/String", name := "charAt", desc := "(I)C" } : MethodName) ∈ zTB := zTB_mem 695 (by decide +kernel) (by decide +kernel)
theorem wz_568 : Cond.instanceMethod ({ cls := "java/lang/String", name := "charAt", desc := "(I)C" } : MethodName) ∈ zTB := zTB_mem 694 (by decide +kernel) (by decide +kernel)
theorem wz_570 : Cond.code yJ0_charAt_5068e cJ0_charAt_5068e 2 (some .char) ∈ zTB := zTB_mem 696 (by decide +kernel) (by decide +kernel)
theorem wz_1404 : Cond.methodLink "AlpCommuneModel" (221 : Nat) ({ cls := "java/lang/String", name := "length", desc := "()I" } : MethodName) ∈ zTB := zTB_mem 1530 (by decide +kernel) (by decide +kernel)
theorem wz_1405 : Cond.methodLink "AlpCommuneModel" (230 : Nat) ({ cls := "java/lang/String", name := "charAt", desc := "(I)C" } : MethodName) ∈ zTB := zTB_mem 1531 (by decide +kernel) (by decide +kernel)
theorem wz_177 : Cond.fieldLink "AlpCommune$Alps" (47 : Nat) "AlpCommune$Alps" "count" "I" ∈ zTB := zTB_mem 303 (by decide +kernel) (by decide +kernel)
set_option maxRecDepth 100000 in
theorem zin_X0 : ∀ w ∈ u_ws RX0 TX0 12, w ∈ zTB := by decide +kernel
theorem zf_X0_47 (C : zCx E cc RX0 nL ret Z h) {i : Nat} (hk : i < zN 25) (hd : decode cc pc = .ok (.getfield 47, 3)) (kk : zKO E nL Z QQ (pc + 3) L (.int (σ.1 25 i 4) :: st) σ o) : zKO E nL Z QQ pc L (.ref (zad Z 25 i) :: st) σ o := zr_get C 4 zin_X0 rfl (Nat.le_of_ble_eq_true rfl) rfl wz_177 hd hk rfl rfl kk
theorem wz_169 : Cond.fieldLink "AlpCommune$Alps" (9 : Nat) "AlpCommune$Alps" "height" "[I" ∈ zTB := zTB_mem 295 (by decide +kernel) (by decide +kernel)
theorem zf_X0_9 (C : zCx E cc RX0 nL ret Z h) {i : Nat} (hk : i < zN 25) (hd : decode cc pc = .ok (.getfield 9, 3)) (kk : zKO E nL Z QQ (pc + 3) L (.ref (zad Z 26 0) :: st) σ o) : zKO E nL Z QQ pc L (.ref (zad Z 25 i) :: st) σ o := zr_get C 0 zin_X0 rfl (Nat.le_of_ble_eq_true rfl) rfl wz_169 hd hk rfl rfl kk
theorem wz_171 : Cond.fieldLink "AlpCommune$Alps" (15 : Nat) "AlpCommune$Alps" "area" "[I" ∈ zTB := zTB_mem 297 (by decide +kernel) (by decide +kernel)
theorem zf_X0_15 (C : zCx E cc RX0 nL ret Z h) {i : Nat} (hk : i < zN 25) (hd : decode cc pc = .ok (.getfield 15, 3)) (kk : zKO E nL Z QQ (pc + 3) L (.ref (zad Z 27 0) :: st) σ o) : zKO E nL Z QQ pc L (.ref (zad Z 25 i) :: st) σ o := zr_get C 1 zin_X0 rfl (Nat.le_of_ble_eq_true rfl) rfl wz_171 hd hk rfl rfl kk
theorem zp_X0_47 (C : zCx E cc RX0 nL ret Z h) {i : Nat} {x : Int32} (hk : i < zN 25) (hd : decode cc pc = .ok (.putfield 47, 3)) (kk : zKO E nL Z QQ (pc + 3) L st (zwi σ 25 i 4 x) o) : zKO E nL Z QQ pc L (.int x :: .ref (zad Z 25 i) :: st) σ o :=
  zr_put C 4 zin_X0 rfl (Nat.le_of_ble_eq_true rfl) rfl tyX0_ok nmX0 rfl (ty := .int) (σ1 := zwi σ 25 i 4 x) (by decide +kernel) wz_177 hd hk rfl (Nat.le_of_ble_eq_true rfl) rfl rfl (fun a b q => zu_off _ _ _ q) (fun a b q => rfl) (by
    show zE Z 25 i (zu σ.1 25 i 4 x 25 i) _ = _
    rw [zu_at]
    rfl) kk
theorem wz_791 : Cond.methodLink "AlpCommune$Alps" (58 : Nat) ({ cls := "java/lang/Math", name := "max", desc := "(II)I" } : MethodName) ∈ zTB := zTB_mem 917 (by decide +kernel) (by decide +kernel)
theorem wz_606 : Cond.static ({ cls := "java/lang/Math", name := "max", desc := "(II)I" } : MethodName) ∈ zTB := zTB_mem 732 (by decide +kernel) (by decide +kernel)
theorem wz_17 : Cond.initialized "java/lang/Math" ∈ zTB := zTB_mem 143 (by decide +kernel) (by decide +kernel)
theorem wz_607 : Cond.code Lib.Math.max.name Lib.Math.max.code 2 (some .int) ∈ zTB := zTB_mem 733 (by decide +kernel) (by decide +kernel)
theorem wz_795 : Cond.methodLink "AlpCommune$Alps" (64 : Nat) ({ cls := "java/lang/Math", name := "min", desc := "(II)I" } : MethodName) ∈ zTB := zTB_mem 921 (by decide +kernel) (by decide +kernel)
theorem wz_796 : Cond.static ({ cls := "java/lang/Math", name := "min", desc := "(II)I" } : MethodName) ∈ zTB := zTB_mem 922 (by decide +kernel) (by decide +kernel)
theorem wz_797 : Cond.code Lib.Math.min.name Lib.Math.min.code 2 (some .int) ∈ zTB := zTB_mem 923 (by decide +kernel) (by decide +kernel)
theorem wz_175 : Cond.fieldLink "AlpCommune$Alps" (21 : Nat) "AlpCommune$Alps" "snow" "[I" ∈ zTB := zTB_mem 301 (by decide +kernel) (by decide +kernel)
theorem zf_X0_21 (C : zCx E cc RX0 nL ret Z h) {i : Nat} (hk : i < zN 25) (hd : decode cc pc = .ok (.getfield 21, 3)) (kk : zKO E nL Z QQ (pc + 3) L (.ref (zad Z 29 0) :: st) σ o) : zKO E nL Z QQ pc L (.ref (zad Z 25 i) :: st) σ o := zr_get C 3 zin_X0 rfl (Nat.le_of_ble_eq_true rfl) rfl wz_175 hd hk rfl rfl kk
theorem wz_173 : Cond.fieldLink "AlpCommune$Alps" (18 : Nat) "AlpCommune$Alps" "grass" "[I" ∈ zTB := zTB_mem 299 (by decide +kernel) (by decide +kernel)
theorem zf_X0_18 (C : zCx E cc RX0 nL ret Z h) {i : Nat} (hk : i < zN 25) (hd : decode cc pc = .ok (.getfield 18, 3)) (kk : zKO E nL Z QQ (pc + 3) L (.ref (zad Z 28 0) :: st) σ o) : zKO E nL Z QQ pc L (.ref (zad Z 25 i) :: st) σ o := zr_get C 2 zin_X0 rfl (Nat.le_of_ble_eq_true rfl) rfl wz_173 hd hk rfl rfl kk
theorem wz_792 : Cond.methodLink "AlpCommune$Alps" (55 : Nat) ({ cls := "AlpCommune$Alps", name := "grassAfter", desc := "(III)I" } : MethodName) ∈ zTB := zTB_mem 918 (by decide +kernel) (by decide +kernel)
theorem wz_793 : Cond.static ({ cls := "AlpCommune$Alps", name := "grassAfter", desc := "(III)I" } : MethodName) ∈ zTB := zTB_mem 919 (by decide +kernel) (by decide +kernel)
theorem wz_794 : Cond.code yX0_grassAfter cX0_grassAfter 3 (some .int) ∈ zTB := zTB_mem 920 (by decide +kernel) (by decide +kernel)
theorem wz_6 : Cond.initialized "AlpCommune$Alps" ∈ zTB := zTB_mem 132 (by decide +kernel) (by decide +kernel)
theorem wz_788 : Cond.methodLink "AlpCommune$Alps" (51 : Nat) ({ cls := "AlpCommune$Alps", name := "snowAfter", desc := "(III)I" } : MethodName) ∈ zTB := zTB_mem 914 (by decide +kernel) (by decide +kernel)
theorem wz_789 : Cond.static ({ cls := "AlpCommune$Alps", name := "snowAfter", desc := "(III)I" } : MethodName) ∈ zTB := zTB_mem 915 (by decide +kernel) (by decide +kernel)
theorem wz_790 : Cond.code yX0_snowAfter cX0_snowAfter 3 (some .int) ∈ zTB := zTB_mem 916 (by decide +kernel) (by decide +kernel)
theorem wz_179 : Cond.fieldLink "AlpCommune$Alps" (24 : Nat) "AlpCommune$Alps" "planWarm" "[I" ∈ zTB := zTB_mem 305 (by decide +kernel) (by decide +kernel)
theorem zf_X0_24 (C : zCx E cc RX0 nL ret Z h) {i : Nat} (hk : i < zN 25) (hd : decode cc pc = .ok (.getfield 24, 3)) (kk : zKO E nL Z QQ (pc + 3) L (.ref (zad Z 30 0) :: st) σ o) : zKO E nL Z QQ pc L (.ref (zad Z 25 i) :: st) σ o := zr_get C 5 zin_X0 rfl (Nat.le_of_ble_eq_true rfl) rfl wz_179 hd hk rfl rfl kk
theorem wz_181 : Cond.fieldLink "AlpCommune$Alps" (27 : Nat) "AlpCommune$Alps" "planFall" "[I" ∈ zTB := zTB_mem 307 (by decide +kernel) (by decide +kernel)
theorem zf_X0_27 (C : zCx E cc RX0 nL ret Z h) {i : Nat} (hk : i < zN 25) (hd : decode cc pc = .ok (.getfield 27, 3)) (kk : zKO E nL Z QQ (pc + 3) L (.ref (zad Z 31 0) :: st) σ o) : zKO E nL Z QQ pc L (.ref (zad Z 25 i) :: st) σ o := zr_get C 6 zin_X0 rfl (Nat.le_of_ble_eq_true rfl) rfl wz_181 hd hk rfl rfl kk
theorem wz_183 : Cond.fieldLink "AlpCommune$Alps" (30 : Nat) "AlpCommune$Alps" "planCows" "[I" ∈ zTB := zTB_mem 309 (by decide +kernel) (by decide +kernel)
theorem zf_X0_30 (C : zCx E cc RX0 nL ret Z h) {i : Nat} (hk : i < zN 25) (hd : decode cc pc = .ok (.getfield 30, 3)) (kk : zKO E nL Z QQ (pc + 3) L (.ref (zad Z 32 0) :: st) σ o) : zKO E nL Z QQ pc L (.ref (zad Z 25 i) :: st) σ o := zr_get C 7 zin_X0 rfl (Nat.le_of_ble_eq_true rfl) rfl wz_183 hd hk rfl rfl kk
theorem wz_189 : Cond.fieldLink "AlpCommune$Alps" (44 : Nat) "AlpCommune$Alps" "planBest" "[I" ∈ zTB := zTB_mem 315 (by decide +kernel) (by decide +kernel)
theorem zf_X0_44 (C : zCx E cc RX0 nL ret Z h) {i : Nat} (hk : i < zN 25) (hd : decode cc pc = .ok (.getfield 44, 3)) (kk : zKO E nL Z QQ (pc + 3) L (.ref (zad Z 37 0) :: st) σ o) : zKO E nL Z QQ pc L (.ref (zad Z 25 i) :: st) σ o := zr_get C 11 zin_X0 rfl (Nat.le_of_ble_eq_true rfl) rfl wz_189 hd hk rfl rfl kk
theorem wz_187 : Cond.fieldLink "AlpCommune$Alps" (38 : Nat) "AlpCommune$Alps" "planAlp" "[I" ∈ zTB := zTB_mem 313 (by decide +kernel) (by decide +kernel)
theorem zf_X0_38 (C : zCx E cc RX0 nL ret Z h) {i : Nat} (hk : i < zN 25) (hd : decode cc pc = .ok (.getfield 38, 3)) (kk : zKO E nL Z QQ (pc + 3) L (.ref (zad Z 35 0) :: st) σ o) : zKO E nL Z QQ pc L (.ref (zad Z 25 i) :: st) σ o := zr_get C 9 zin_X0 rfl (Nat.le_of_ble_eq_true rfl) rfl wz_187 hd hk rfl rfl kk
theorem wz_188 : Cond.fieldLink "AlpCommune$Alps" (41 : Nat) "AlpCommune$Alps" "planOn" "[I" ∈ zTB := zTB_mem 314 (by decide +kernel) (by decide +kernel)
theorem zf_X0_41 (C : zCx E cc RX0 nL ret Z h) {i : Nat} (hk : i < zN 25) (hd : decode cc pc = .ok (.getfield 41, 3)) (kk : zKO E nL Z QQ (pc + 3) L (.ref (zad Z 36 0) :: st) σ o) : zKO E nL Z QQ pc L (.ref (zad Z 25 i) :: st) σ o := zr_get C 10 zin_X0 rfl (Nat.le_of_ble_eq_true rfl) rfl wz_188 hd hk rfl rfl kk
theorem wz_999 : Cond.methodLink "AlpCommune$Alps" (79 : Nat) ({ cls := "AlpCommune$Alps", name := "keepPlan", desc := "(I)V" } : MethodName) ∈ zTB := zTB_mem 1125 (by decide +kernel) (by decide +kernel)
theorem wz_p71 : Cond.selects yX0_keepPlan.cls yX0_keepPlan yX0_keepPlan ∈ zTB := zTB_mem 71 (by decide +kernel) (by decide +kernel)
theorem wz_1001 : Cond.instanceMethod ({ cls := "AlpCommune$Alps", name := "keepPlan", desc := "(I)V" } : MethodName) ∈ zTB := zTB_mem 1127 (by decide +kernel) (by decide +kernel)
theorem wz_1002 : Cond.code yX0_keepPlan cX0_keepPlan 3 none ∈ zTB := zTB_mem 1128 (by decide +kernel) (by decide +kernel)
theorem wz_185 : Cond.fieldLink "AlpCommune$Alps" (35 : Nat) "AlpCommune$Alps" "planHunger" "[[I" ∈ zTB := zTB_mem 311 (by decide +kernel) (by decide +kernel)
theorem zf_X0_35 (C : zCx E cc RX0 nL ret Z h) {i : Nat} (hk : i < zN 25) (hd : decode cc pc = .ok (.getfield 35, 3)) (kk : zKO E nL Z QQ (pc + 3) L (.ref (zad Z 33 0) :: st) σ o) : zKO E nL Z QQ pc L (.ref (zad Z 25 i) :: st) σ o := zr_get C 8 zin_X0 rfl (Nat.le_of_ble_eq_true rfl) rfl wz_185 hd hk rfl rfl kk
theorem wz_1003 : Cond.methodLink "AlpCommune$Alps" (71 : Nat) ({ cls := "AlpCommune$Alps", name := "hungerNow", desc := "()I" } : MethodName) ∈ zTB := zTB_mem 1129 (by decide +kernel) (by decide +kernel)
theorem wz_p72 : Cond.selects yX0_hungerNow.cls yX0_hungerNow yX0_hungerNow ∈ zTB := zTB_mem 72 (by decide +kernel) (by decide +kernel)
theorem wz_1005 : Cond.instanceMethod ({ cls := "AlpCommune$Alps", name := "hungerNow", desc := "()I" } : MethodName) ∈ zTB := zTB_mem 1131 (by decide +kernel) (by decide +kernel)
theorem wz_1006 : Cond.code yX0_hungerNow cX0_hungerNow 3 (some .int) ∈ zTB := zTB_mem 1132 (by decide +kernel) (by decide +kernel)
theorem wz_1007 : Cond.methodLink "AlpCommune$Alps" (75 : Nat) ({ cls := "AlpCommune$Alps", name := "turnPlan", desc := "(I)V" } : MethodName) ∈ zTB := zTB_mem 1133 (by decide +kernel) (by decide +kernel)
theorem wz_p73 : Cond.selects yX0_turnPlan.cls yX0_turnPlan yX0_turnPlan ∈ zTB := zTB_mem 73 (by decide +kernel) (by decide +kernel)
theorem wz_1009 : Cond.instanceMethod ({ cls := "AlpCommune$Alps", name := "turnPlan", desc := "(I)V" } : MethodName) ∈ zTB := zTB_mem 1135 (by decide +kernel) (by decide +kernel)
theorem wz_1010 : Cond.code yX0_turnPlan cX0_turnPlan 4 none ∈ zTB := zTB_mem 1136 (by decide +kernel) (by decide +kernel)
theorem wz_995 : Cond.methodLink "AlpCommune$Alps" (67 : Nat) ({ cls := "AlpCommune$Alps", name := "beginPlans", desc := "(I)I" } : MethodName) ∈ zTB := zTB_mem 1121 (by decide +kernel) (by decide +kernel)
theorem wz_p70 : Cond.selects yX0_beginPlans.cls yX0_beginPlans yX0_beginPlans ∈ zTB := zTB_mem 70 (by decide +kernel) (by decide +kernel)
theorem wz_997 : Cond.instanceMethod ({ cls := "AlpCommune$Alps", name := "beginPlans", desc := "(I)I" } : MethodName) ∈ zTB := zTB_mem 1123 (by decide +kernel) (by decide +kernel)
theorem wz_998 : Cond.code yX0_beginPlans cX0_beginPlans 4 (some .int) ∈ zTB := zTB_mem 1124 (by decide +kernel) (by decide +kernel)
theorem wz_291 : Cond.fieldLink "AlpCommune$Channel" (18 : Nat) "AlpCommune$Channel" "count" "I" ∈ zTB := zTB_mem 417 (by decide +kernel) (by decide +kernel)
set_option maxRecDepth 100000 in
theorem zin_X1 : ∀ w ∈ u_ws RX1 TX1 3, w ∈ zTB := by decide +kernel
theorem zf_X1_18 (C : zCx E cc RX1 nL ret Z h) {i : Nat} (hk : i < zN 43) (hd : decode cc pc = .ok (.getfield 18, 3)) (kk : zKO E nL Z QQ (pc + 3) L (.int (σ.1 43 i 2) :: st) σ o) : zKO E nL Z QQ pc L (.ref (zad Z 43 i) :: st) σ o := zr_get C 2 zin_X1 rfl (Nat.le_of_ble_eq_true rfl) rfl wz_291 hd hk rfl rfl kk
theorem wz_289 : Cond.fieldLink "AlpCommune$Channel" (15 : Nat) "AlpCommune$Channel" "leak" "[I" ∈ zTB := zTB_mem 415 (by decide +kernel) (by decide +kernel)
theorem zf_X1_15 (C : zCx E cc RX1 nL ret Z h) {i : Nat} (hk : i < zN 43) (hd : decode cc pc = .ok (.getfield 15, 3)) (kk : zKO E nL Z QQ (pc + 3) L (.ref (zad Z 45 0) :: st) σ o) : zKO E nL Z QQ pc L (.ref (zad Z 43 i) :: st) σ o := zr_get C 1 zin_X1 rfl (Nat.le_of_ble_eq_true rfl) rfl wz_289 hd hk rfl rfl kk
theorem wz_287 : Cond.fieldLink "AlpCommune$Channel" (9 : Nat) "AlpCommune$Channel" "house" "[I" ∈ zTB := zTB_mem 413 (by decide +kernel) (by decide +kernel)
theorem zf_X1_9 (C : zCx E cc RX1 nL ret Z h) {i : Nat} (hk : i < zN 43) (hd : decode cc pc = .ok (.getfield 9, 3)) (kk : zKO E nL Z QQ (pc + 3) L (.ref (zad Z 44 0) :: st) σ o) : zKO E nL Z QQ pc L (.ref (zad Z 43 i) :: st) σ o := zr_get C 0 zin_X1 rfl (Nat.le_of_ble_eq_true rfl) rfl wz_287 hd hk rfl rfl kk
theorem wz_434 : Cond.fieldLink "AlpCommune$House" (18 : Nat) "AlpCommune$House" "LEAST" "[I" ∈ zTB := zTB_mem 560 (by decide +kernel) (by decide +kernel)
theorem wz_436 : Cond.fieldLink "AlpCommune$House" (21 : Nat) "AlpCommune$House" "MOST" "[I" ∈ zTB := zTB_mem 562 (by decide +kernel) (by decide +kernel)
theorem wz_311 : Cond.fieldLink "AlpCommune$House" (15 : Nat) "AlpCommune$House" "up" "[I" ∈ zTB := zTB_mem 437 (by decide +kernel) (by decide +kernel)
set_option maxRecDepth 100000 in
theorem zin_X2 : ∀ w ∈ u_ws RX2 TX2 12, w ∈ zTB := by decide +kernel
theorem zf_X2_15 (C : zCx E cc RX2 nL ret Z h) {i : Nat} (hk : i < zN 2) (hd : decode cc pc = .ok (.getfield 15, 3)) (kk : zKO E nL Z QQ (pc + 3) L (.ref (zad Z 4 i) :: st) σ o) : zKO E nL Z QQ pc L (.ref (zad Z 2 i) :: st) σ o := zr_get C 1 zin_X2 rfl (Nat.le_of_ble_eq_true rfl) rfl wz_311 hd hk rfl rfl kk
theorem wz_308 : Cond.fieldLink "AlpCommune$House" (9 : Nat) "AlpCommune$House" "has" "[I" ∈ zTB := zTB_mem 434 (by decide +kernel) (by decide +kernel)
theorem zf_X2_9 (C : zCx E cc RX2 nL ret Z h) {i : Nat} (hk : i < zN 2) (hd : decode cc pc = .ok (.getfield 9, 3)) (kk : zKO E nL Z QQ (pc + 3) L (.ref (zad Z 3 i) :: st) σ o) : zKO E nL Z QQ pc L (.ref (zad Z 2 i) :: st) σ o := zr_get C 0 zin_X2 rfl (Nat.le_of_ble_eq_true rfl) rfl wz_308 hd hk rfl rfl kk
theorem wz_458 : Cond.methodLink "AlpCommune$House" (24 : Nat) ({ cls := "AlpCommune$House", name := "allUp", desc := "()I" } : MethodName) ∈ zTB := zTB_mem 584 (by decide +kernel) (by decide +kernel)
theorem wz_p1 : Cond.selects yX2_allUp.cls yX2_allUp yX2_allUp ∈ zTB := zTB_mem 1 (by decide +kernel) (by decide +kernel)
theorem wz_448 : Cond.instanceMethod ({ cls := "AlpCommune$House", name := "allUp", desc := "()I" } : MethodName) ∈ zTB := zTB_mem 574 (by decide +kernel) (by decide +kernel)
theorem wz_449 : Cond.code yX2_allUp cX2_allUp 3 (some .int) ∈ zTB := zTB_mem 575 (by decide +kernel) (by decide +kernel)
theorem wz_10 : Cond.initialized "AlpCommune$House" ∈ zTB := zTB_mem 136 (by decide +kernel) (by decide +kernel)
theorem wz_811 : Cond.methodLink "AlpCommune$House" (31 : Nat) ({ cls := "java/lang/Math", name := "min", desc := "(II)I" } : MethodName) ∈ zTB := zTB_mem 937 (by decide +kernel) (by decide +kernel)
theorem wz_316 : Cond.fieldLink "AlpCommune$House" (37 : Nat) "AlpCommune$House" "hungry" "I" ∈ zTB := zTB_mem 442 (by decide +kernel) (by decide +kernel)
theorem zf_X2_37 (C : zCx E cc RX2 nL ret Z h) {i : Nat} (hk : i < zN 2) (hd : decode cc pc = .ok (.getfield 37, 3)) (kk : zKO E nL Z QQ (pc + 3) L (.int (σ.1 2 i 3) :: st) σ o) : zKO E nL Z QQ pc L (.ref (zad Z 2 i) :: st) σ o := zr_get C 3 zin_X2 rfl (Nat.le_of_ble_eq_true rfl) rfl wz_316 hd hk rfl rfl kk
theorem zp_X2_37 (C : zCx E cc RX2 nL ret Z h) {i : Nat} {x : Int32} (hk : i < zN 2) (hd : decode cc pc = .ok (.putfield 37, 3)) (kk : zKO E nL Z QQ (pc + 3) L st (zwi σ 2 i 3 x) o) : zKO E nL Z QQ pc L (.int x :: .ref (zad Z 2 i) :: st) σ o :=
  zr_put C 3 zin_X2 rfl (Nat.le_of_ble_eq_true rfl) rfl tyX2_ok nmX2 rfl (ty := .int) (σ1 := zwi σ 2 i 3 x) (by decide +kernel) wz_316 hd hk rfl (Nat.le_of_ble_eq_true rfl) rfl rfl (fun a b q => zu_off _ _ _ q) (fun a b q => rfl) (by
    show zE Z 2 i (zu σ.1 2 i 3 x 2 i) _ = _
    rw [zu_at]
    rfl) kk
theorem wz_810 : Cond.methodLink "AlpCommune$House" (28 : Nat) ({ cls := "AlpCommune$House", name := "atHome", desc := "()I" } : MethodName) ∈ zTB := zTB_mem 936 (by decide +kernel) (by decide +kernel)
theorem wz_p2 : Cond.selects yX2_atHome.cls yX2_atHome yX2_atHome ∈ zTB := zTB_mem 2 (by decide +kernel) (by decide +kernel)
theorem wz_456 : Cond.instanceMethod ({ cls := "AlpCommune$House", name := "atHome", desc := "()I" } : MethodName) ∈ zTB := zTB_mem 582 (by decide +kernel) (by decide +kernel)
theorem wz_457 : Cond.code yX2_atHome cX2_atHome 1 (some .int) ∈ zTB := zTB_mem 583 (by decide +kernel) (by decide +kernel)
theorem wz_816 : Cond.constant "AlpCommune$House" (41 : Nat) (99999999 : Int32) ∈ zTB := zTB_mem 942 (by decide +kernel) (by decide +kernel)
theorem wz_314 : Cond.fieldLink "AlpCommune$House" (42 : Nat) "AlpCommune$House" "debt" "I" ∈ zTB := zTB_mem 440 (by decide +kernel) (by decide +kernel)
theorem zf_X2_42 (C : zCx E cc RX2 nL ret Z h) {i : Nat} (hk : i < zN 2) (hd : decode cc pc = .ok (.getfield 42, 3)) (kk : zKO E nL Z QQ (pc + 3) L (.int (σ.1 2 i 2) :: st) σ o) : zKO E nL Z QQ pc L (.ref (zad Z 2 i) :: st) σ o := zr_get C 2 zin_X2 rfl (Nat.le_of_ble_eq_true rfl) rfl wz_314 hd hk rfl rfl kk
theorem wz_817 : Cond.methodLink "AlpCommune$House" (45 : Nat) ({ cls := "java/lang/Math", name := "min", desc := "(JJ)J" } : MethodName) ∈ zTB := zTB_mem 943 (by decide +kernel) (by decide +kernel)
theorem wz_818 : Cond.static ({ cls := "java/lang/Math", name := "min", desc := "(JJ)J" } : MethodName) ∈ zTB := zTB_mem 944 (by decide +kernel) (by decide +kernel)
theorem wz_819 : Cond.code Lib.MathLoose.min_long.x Lib.MathLoose.min_long.code 4 (some .long) ∈ zTB := zTB_mem 945 (by decide +kernel) (by decide +kernel)
theorem zp_X2_42 (C : zCx E cc RX2 nL ret Z h) {i : Nat} {x : Int32} (hk : i < zN 2) (hd : decode cc pc = .ok (.putfield 42, 3)) (kk : zKO E nL Z QQ (pc + 3) L st (zwi σ 2 i 2 x) o) : zKO E nL Z QQ pc L (.int x :: .ref (zad Z 2 i) :: st) σ o :=
  zr_put C 2 zin_X2 rfl (Nat.le_of_ble_eq_true rfl) rfl tyX2_ok nmX2 rfl (ty := .int) (σ1 := zwi σ 2 i 2 x) (by decide +kernel) wz_314 hd hk rfl (Nat.le_of_ble_eq_true rfl) rfl rfl (fun a b q => zu_off _ _ _ q) (fun a b q => rfl) (by
    show zE Z 2 i (zu σ.1 2 i 2 x 2 i) _ = _
    rw [zu_at]
    rfl) kk
theorem wz_323 : Cond.fieldLink "AlpCommune$House" (56 : Nat) "AlpCommune$House" "newWheels" "I" ∈ zTB := zTB_mem 449 (by decide +kernel) (by decide +kernel)
theorem zf_X2_56 (C : zCx E cc RX2 nL ret Z h) {i : Nat} (hk : i < zN 2) (hd : decode cc pc = .ok (.getfield 56, 3)) (kk : zKO E nL Z QQ (pc + 3) L (.int (σ.1 2 i 8) :: st) σ o) : zKO E nL Z QQ pc L (.ref (zad Z 2 i) :: st) σ o := zr_get C 8 zin_X2 rfl (Nat.le_of_ble_eq_true rfl) rfl wz_323 hd hk rfl rfl kk
theorem zp_X2_56 (C : zCx E cc RX2 nL ret Z h) {i : Nat} {x : Int32} (hk : i < zN 2) (hd : decode cc pc = .ok (.putfield 56, 3)) (kk : zKO E nL Z QQ (pc + 3) L st (zwi σ 2 i 8 x) o) : zKO E nL Z QQ pc L (.int x :: .ref (zad Z 2 i) :: st) σ o :=
  zr_put C 8 zin_X2 rfl (Nat.le_of_ble_eq_true rfl) rfl tyX2_ok nmX2 rfl (ty := .int) (σ1 := zwi σ 2 i 8 x) (by decide +kernel) wz_323 hd hk rfl (Nat.le_of_ble_eq_true rfl) rfl rfl (fun a b q => zu_off _ _ _ q) (fun a b q => rfl) (by
    show zE Z 2 i (zu σ.1 2 i 8 x 2 i) _ = _
    rw [zu_at]
    rfl) kk
theorem wz_322 : Cond.fieldLink "AlpCommune$House" (63 : Nat) "AlpCommune$House" "wheels" "I" ∈ zTB := zTB_mem 448 (by decide +kernel) (by decide +kernel)
theorem zf_X2_63 (C : zCx E cc RX2 nL ret Z h) {i : Nat} (hk : i < zN 2) (hd : decode cc pc = .ok (.getfield 63, 3)) (kk : zKO E nL Z QQ (pc + 3) L (.int (σ.1 2 i 7) :: st) σ o) : zKO E nL Z QQ pc L (.ref (zad Z 2 i) :: st) σ o := zr_get C 7 zin_X2 rfl (Nat.le_of_ble_eq_true rfl) rfl wz_322 hd hk rfl rfl kk
theorem zp_X2_63 (C : zCx E cc RX2 nL ret Z h) {i : Nat} {x : Int32} (hk : i < zN 2) (hd : decode cc pc = .ok (.putfield 63, 3)) (kk : zKO E nL Z QQ (pc + 3) L st (zwi σ 2 i 7 x) o) : zKO E nL Z QQ pc L (.int x :: .ref (zad Z 2 i) :: st) σ o :=
  zr_put C 7 zin_X2 rfl (Nat.le_of_ble_eq_true rfl) rfl tyX2_ok nmX2 rfl (ty := .int) (σ1 := zwi σ 2 i 7 x) (by decide +kernel) wz_322 hd hk rfl (Nat.le_of_ble_eq_true rfl) rfl rfl (fun a b q => zu_off _ _ _ q) (fun a b q => rfl) (by
    show zE Z 2 i (zu σ.1 2 i 7 x 2 i) _ = _
    rw [zu_at]
    rfl) kk
theorem wz_325 : Cond.fieldLink "AlpCommune$House" (48 : Nat) "AlpCommune$House" "rest" "I" ∈ zTB := zTB_mem 451 (by decide +kernel) (by decide +kernel)
theorem zf_X2_48 (C : zCx E cc RX2 nL ret Z h) {i : Nat} (hk : i < zN 2) (hd : decode cc pc = .ok (.getfield 48, 3)) (kk : zKO E nL Z QQ (pc + 3) L (.int (σ.1 2 i 9) :: st) σ o) : zKO E nL Z QQ pc L (.ref (zad Z 2 i) :: st) σ o := zr_get C 9 zin_X2 rfl (Nat.le_of_ble_eq_true rfl) rfl wz_325 hd hk rfl rfl kk
theorem zp_X2_48 (C : zCx E cc RX2 nL ret Z h) {i : Nat} {x : Int32} (hk : i < zN 2) (hd : decode cc pc = .ok (.putfield 48, 3)) (kk : zKO E nL Z QQ (pc + 3) L st (zwi σ 2 i 9 x) o) : zKO E nL Z QQ pc L (.int x :: .ref (zad Z 2 i) :: st) σ o :=
  zr_put C 9 zin_X2 rfl (Nat.le_of_ble_eq_true rfl) rfl tyX2_ok nmX2 rfl (ty := .int) (σ1 := zwi σ 2 i 9 x) (by decide +kernel) wz_325 hd hk rfl (Nat.le_of_ble_eq_true rfl) rfl rfl (fun a b q => zu_off _ _ _ q) (fun a b q => rfl) (by
    show zE Z 2 i (zu σ.1 2 i 9 x 2 i) _ = _
    rw [zu_at]
    rfl) kk
theorem wz_899 : Cond.constantLong "AlpCommune$House" (54 : Nat) (10000 : Int64) ∈ zTB := zTB_mem 1025 (by decide +kernel) (by decide +kernel)
theorem wz_319 : Cond.fieldLink "AlpCommune$House" (51 : Nat) "AlpCommune$House" "sum" "I" ∈ zTB := zTB_mem 445 (by decide +kernel) (by decide +kernel)
theorem zf_X2_51 (C : zCx E cc RX2 nL ret Z h) {i : Nat} (hk : i < zN 2) (hd : decode cc pc = .ok (.getfield 51, 3)) (kk : zKO E nL Z QQ (pc + 3) L (.int (σ.1 2 i 5) :: st) σ o) : zKO E nL Z QQ pc L (.ref (zad Z 2 i) :: st) σ o := zr_get C 5 zin_X2 rfl (Nat.le_of_ble_eq_true rfl) rfl wz_319 hd hk rfl rfl kk
theorem wz_900 : Cond.methodLink "AlpCommune$House" (59 : Nat) ({ cls := "AlpCommune$House", name := "takeWheels", desc := "(I)V" } : MethodName) ∈ zTB := zTB_mem 1026 (by decide +kernel) (by decide +kernel)
theorem wz_p57 : Cond.selects yX2_takeWheels.cls yX2_takeWheels yX2_takeWheels ∈ zTB := zTB_mem 57 (by decide +kernel) (by decide +kernel)
theorem wz_902 : Cond.instanceMethod ({ cls := "AlpCommune$House", name := "takeWheels", desc := "(I)V" } : MethodName) ∈ zTB := zTB_mem 1028 (by decide +kernel) (by decide +kernel)
theorem wz_903 : Cond.code yX2_takeWheels cX2_takeWheels 2 none ∈ zTB := zTB_mem 1029 (by decide +kernel) (by decide +kernel)
theorem wz_46 : Cond.fieldLink "AlpCommune$Rights" (27 : Nat) "AlpCommune$Rights" "count" "I" ∈ zTB := zTB_mem 172 (by decide +kernel) (by decide +kernel)
set_option maxRecDepth 100000 in
theorem zin_X3 : ∀ w ∈ u_ws RX3 TX3 6, w ∈ zTB := by decide +kernel
theorem zf_X3_27 (C : zCx E cc RX3 nL ret Z h) {i : Nat} (hk : i < zN 5) (hd : decode cc pc = .ok (.getfield 27, 3)) (kk : zKO E nL Z QQ (pc + 3) L (.int (σ.1 5 i 5) :: st) σ o) : zKO E nL Z QQ pc L (.ref (zad Z 5 i) :: st) σ o := zr_get C 5 zin_X3 rfl (Nat.le_of_ble_eq_true rfl) rfl wz_46 hd hk rfl rfl kk
theorem wz_36 : Cond.fieldLink "AlpCommune$Rights" (9 : Nat) "AlpCommune$Rights" "kind" "[I" ∈ zTB := zTB_mem 162 (by decide +kernel) (by decide +kernel)
theorem zf_X3_9 (C : zCx E cc RX3 nL ret Z h) {i : Nat} (hk : i < zN 5) (hd : decode cc pc = .ok (.getfield 9, 3)) (kk : zKO E nL Z QQ (pc + 3) L (.ref (zad Z 6 0) :: st) σ o) : zKO E nL Z QQ pc L (.ref (zad Z 5 i) :: st) σ o := zr_get C 0 zin_X3 rfl (Nat.le_of_ble_eq_true rfl) rfl wz_36 hd hk rfl rfl kk
theorem wz_38 : Cond.fieldLink "AlpCommune$Rights" (15 : Nat) "AlpCommune$Rights" "owner" "[I" ∈ zTB := zTB_mem 164 (by decide +kernel) (by decide +kernel)
theorem zf_X3_15 (C : zCx E cc RX3 nL ret Z h) {i : Nat} (hk : i < zN 5) (hd : decode cc pc = .ok (.getfield 15, 3)) (kk : zKO E nL Z QQ (pc + 3) L (.ref (zad Z 7 0) :: st) σ o) : zKO E nL Z QQ pc L (.ref (zad Z 5 i) :: st) σ o := zr_get C 1 zin_X3 rfl (Nat.le_of_ble_eq_true rfl) rfl wz_38 hd hk rfl rfl kk
theorem wz_40 : Cond.fieldLink "AlpCommune$Rights" (18 : Nat) "AlpCommune$Rights" "parts" "[I" ∈ zTB := zTB_mem 166 (by decide +kernel) (by decide +kernel)
theorem zf_X3_18 (C : zCx E cc RX3 nL ret Z h) {i : Nat} (hk : i < zN 5) (hd : decode cc pc = .ok (.getfield 18, 3)) (kk : zKO E nL Z QQ (pc + 3) L (.ref (zad Z 8 0) :: st) σ o) : zKO E nL Z QQ pc L (.ref (zad Z 5 i) :: st) σ o := zr_get C 2 zin_X3 rfl (Nat.le_of_ble_eq_true rfl) rfl wz_40 hd hk rfl rfl kk
theorem zp_X3_27 (C : zCx E cc RX3 nL ret Z h) {i : Nat} {x : Int32} (hk : i < zN 5) (hd : decode cc pc = .ok (.putfield 27, 3)) (kk : zKO E nL Z QQ (pc + 3) L st (zwi σ 5 i 5 x) o) : zKO E nL Z QQ pc L (.int x :: .ref (zad Z 5 i) :: st) σ o :=
  zr_put C 5 zin_X3 rfl (Nat.le_of_ble_eq_true rfl) rfl tyX3_ok nmX3 rfl (ty := .int) (σ1 := zwi σ 5 i 5 x) (by decide +kernel) wz_46 hd hk rfl (Nat.le_of_ble_eq_true rfl) rfl rfl (fun a b q => zu_off _ _ _ q) (fun a b q => rfl) (by
    show zE Z 5 i (zu σ.1 5 i 5 x 5 i) _ = _
    rw [zu_at]
    rfl) kk
theorem wz_483 : Cond.fieldLink "AlpCommune$Rights" (31 : Nat) "AlpCommune$Rights" "COMMON_OF" "[I" ∈ zTB := zTB_mem 609 (by decide +kernel) (by decide +kernel)
theorem wz_44 : Cond.fieldLink "AlpCommune$Rights" (24 : Nat) "AlpCommune$Rights" "lentTill" "[I" ∈ zTB := zTB_mem 170 (by decide +kernel) (by decide +kernel)
theorem zf_X3_24 (C : zCx E cc RX3 nL ret Z h) {i : Nat} (hk : i < zN 5) (hd : decode cc pc = .ok (.getfield 24, 3)) (kk : zKO E nL Z QQ (pc + 3) L (.ref (zad Z 10 0) :: st) σ o) : zKO E nL Z QQ pc L (.ref (zad Z 5 i) :: st) σ o := zr_get C 4 zin_X3 rfl (Nat.le_of_ble_eq_true rfl) rfl wz_44 hd hk rfl rfl kk
theorem wz_42 : Cond.fieldLink "AlpCommune$Rights" (21 : Nat) "AlpCommune$Rights" "lentTo" "[I" ∈ zTB := zTB_mem 168 (by decide +kernel) (by decide +kernel)
theorem zf_X3_21 (C : zCx E cc RX3 nL ret Z h) {i : Nat} (hk : i < zN 5) (hd : decode cc pc = .ok (.getfield 21, 3)) (kk : zKO E nL Z QQ (pc + 3) L (.ref (zad Z 9 0) :: st) σ o) : zKO E nL Z QQ pc L (.ref (zad Z 5 i) :: st) σ o := zr_get C 3 zin_X3 rfl (Nat.le_of_ble_eq_true rfl) rfl wz_42 hd hk rfl rfl kk
theorem wz_498 : Cond.methodLink "AlpCommune$Rights" (34 : Nat) ({ cls := "AlpCommune$Rights", name := "isLent", desc := "(II)Z" } : MethodName) ∈ zTB := zTB_mem 624 (by decide +kernel) (by decide +kernel)
theorem wz_p6 : Cond.selects yX3_isLent.cls yX3_isLent yX3_isLent ∈ zTB := zTB_mem 6 (by decide +kernel) (by decide +kernel)
theorem wz_487 : Cond.instanceMethod ({ cls := "AlpCommune$Rights", name := "isLent", desc := "(II)Z" } : MethodName) ∈ zTB := zTB_mem 613 (by decide +kernel) (by decide +kernel)
theorem wz_488 : Cond.code yX3_isLent cX3_isLent 3 (some .boolean) ∈ zTB := zTB_mem 614 (by decide +kernel) (by decide +kernel)
theorem wz_2 : Cond.initialized "AlpCommune$Rights" ∈ zTB := zTB_mem 128 (by decide +kernel) (by decide +kernel)
theorem wz_497 : Cond.methodLink "AlpCommune$Rights" (38 : Nat) ({ cls := "AlpCommune$Rights", name := "commonOf", desc := "(I)I" } : MethodName) ∈ zTB := zTB_mem 623 (by decide +kernel) (by decide +kernel)
theorem wz_p5 : Cond.selects yX3_commonOf.cls yX3_commonOf yX3_commonOf ∈ zTB := zTB_mem 5 (by decide +kernel) (by decide +kernel)
theorem wz_481 : Cond.instanceMethod ({ cls := "AlpCommune$Rights", name := "commonOf", desc := "(I)I" } : MethodName) ∈ zTB := zTB_mem 607 (by decide +kernel) (by decide +kernel)
theorem wz_482 : Cond.code yX3_commonOf cX3_commonOf 2 (some .int) ∈ zTB := zTB_mem 608 (by decide +kernel) (by decide +kernel)
theorem wz_527 : Cond.methodLink "AlpCommune$Rights" (42 : Nat) ({ cls := "AlpCommune$Rights", name := "holder", desc := "(II)I" } : MethodName) ∈ zTB := zTB_mem 653 (by decide +kernel) (by decide +kernel)
theorem wz_p8 : Cond.selects yX3_holder.cls yX3_holder yX3_holder ∈ zTB := zTB_mem 8 (by decide +kernel) (by decide +kernel)
theorem wz_513 : Cond.instanceMethod ({ cls := "AlpCommune$Rights", name := "holder", desc := "(II)I" } : MethodName) ∈ zTB := zTB_mem 639 (by decide +kernel) (by decide +kernel)
theorem wz_514 : Cond.code yX3_holder cX3_holder 3 (some .int) ∈ zTB := zTB_mem 640 (by decide +kernel) (by decide +kernel)
theorem wz_943 : Cond.methodLink "AlpCommune$Rights" (46 : Nat) ({ cls := "AlpCommune$Rights", name := "whole", desc := "(I)I" } : MethodName) ∈ zTB := zTB_mem 1069 (by decide +kernel) (by decide +kernel)
theorem wz_p9 : Cond.selects yX3_whole.cls yX3_whole yX3_whole ∈ zTB := zTB_mem 9 (by decide +kernel) (by decide +kernel)
theorem wz_521 : Cond.instanceMethod ({ cls := "AlpCommune$Rights", name := "whole", desc := "(I)I" } : MethodName) ∈ zTB := zTB_mem 647 (by decide +kernel) (by decide +kernel)
theorem wz_522 : Cond.code yX3_whole cX3_whole 4 (some .int) ∈ zTB := zTB_mem 648 (by decide +kernel) (by decide +kernel)
theorem wz_1042 : Cond.fieldLink "AlpCommune$Rights" (49 : Nat) "AlpCommune$Rights" "KIND_ABOVE" "[I" ∈ zTB := zTB_mem 1168 (by decide +kernel) (by decide +kernel)
theorem wz_362 : Cond.fieldLink "AlpCommune$Sheet" (15 : Nat) "AlpCommune$Sheet" "items" "[J" ∈ zTB := zTB_mem 488 (by decide +kernel) (by decide +kernel)
set_option maxRecDepth 100000 in
theorem zin_X4 : ∀ w ∈ u_ws RX4 TX4 3, w ∈ zTB := by decide +kernel
theorem zf_X4_15 (C : zCx E cc RX4 nL ret Z h) {i : Nat} (hk : i < zN 47) (hd : decode cc pc = .ok (.getfield 15, 3)) (kk : zKO E nL Z QQ (pc + 3) L (.ref (zad Z 48 i) :: st) σ o) : zKO E nL Z QQ pc L (.ref (zad Z 47 i) :: st) σ o := zr_get C 2 zin_X4 rfl (Nat.le_of_ble_eq_true rfl) rfl wz_362 hd hk rfl rfl kk
theorem wz_359 : Cond.fieldLink "AlpCommune$Sheet" (9 : Nat) "AlpCommune$Sheet" "sort" "I" ∈ zTB := zTB_mem 485 (by decide +kernel) (by decide +kernel)
theorem zp_X4_9 (C : zCx E cc RX4 nL ret Z h) {i : Nat} {x : Int32} (hk : i < zN 47) (hd : decode cc pc = .ok (.putfield 9, 3)) (kk : zKO E nL Z QQ (pc + 3) L st (zwi σ 47 i 0 x) o) : zKO E nL Z QQ pc L (.int x :: .ref (zad Z 47 i) :: st) σ o :=
  zr_put C 0 zin_X4 rfl (Nat.le_of_ble_eq_true rfl) rfl tyX4_ok nmX4 rfl (ty := .int) (σ1 := zwi σ 47 i 0 x) (by decide +kernel) wz_359 hd hk rfl (Nat.le_of_ble_eq_true rfl) rfl rfl (fun a b q => zu_off _ _ _ q) (fun a b q => rfl) (by
    show zE Z 47 i (zu σ.1 47 i 0 x 47 i) _ = _
    rw [zu_at]
    rfl) kk
theorem wz_361 : Cond.fieldLink "AlpCommune$Sheet" (19 : Nat) "AlpCommune$Sheet" "size" "I" ∈ zTB := zTB_mem 487 (by decide +kernel) (by decide +kernel)
theorem zp_X4_19 (C : zCx E cc RX4 nL ret Z h) {i : Nat} {x : Int32} (hk : i < zN 47) (hd : decode cc pc = .ok (.putfield 19, 3)) (kk : zKO E nL Z QQ (pc + 3) L st (zwi σ 47 i 1 x) o) : zKO E nL Z QQ pc L (.int x :: .ref (zad Z 47 i) :: st) σ o :=
  zr_put C 1 zin_X4 rfl (Nat.le_of_ble_eq_true rfl) rfl tyX4_ok nmX4 rfl (ty := .int) (σ1 := zwi σ 47 i 1 x) (by decide +kernel) wz_361 hd hk rfl (Nat.le_of_ble_eq_true rfl) rfl rfl (fun a b q => zu_off _ _ _ q) (fun a b q => rfl) (by
    show zE Z 47 i (zu σ.1 47 i 1 x 47 i) _ = _
    rw [zu_at]
    rfl) kk
theorem zf_X4_19 (C : zCx E cc RX4 nL ret Z h) {i : Nat} (hk : i < zN 47) (hd : decode cc pc = .ok (.getfield 19, 3)) (kk : zKO E nL Z QQ (pc + 3) L (.int (σ.1 47 i 1) :: st) σ o) : zKO E nL Z QQ pc L (.ref (zad Z 47 i) :: st) σ o := zr_get C 1 zin_X4 rfl (Nat.le_of_ble_eq_true rfl) rfl wz_361 hd hk rfl rfl kk
theorem zf_X4_9 (C : zCx E cc RX4 nL ret Z h) {i : Nat} (hk : i < zN 47) (hd : decode cc pc = .ok (.getfield 9, 3)) (kk : zKO E nL Z QQ (pc + 3) L (.int (σ.1 47 i 0) :: st) σ o) : zKO E nL Z QQ pc L (.ref (zad Z 47 i) :: st) σ o := zr_get C 0 zin_X4 rfl (Nat.le_of_ble_eq_true rfl) rfl wz_359 hd hk rfl rfl kk
theorem wz_697 : Cond.fieldLink "AlpCommune$Sky" (21 : Nat) "AlpCommune$Sky" "LEAST" "[I" ∈ zTB := zTB_mem 823 (by decide +kernel) (by decide +kernel)
theorem wz_699 : Cond.fieldLink "AlpCommune$Sky" (25 : Nat) "AlpCommune$Sky" "MOST" "[I" ∈ zTB := zTB_mem 825 (by decide +kernel) (by decide +kernel)
theorem wz_154 : Cond.fieldLink "AlpCommune$Sky" (11 : Nat) "AlpCommune$Sky" "told" "[[S" ∈ zTB := zTB_mem 280 (by decide +kernel) (by decide +kernel)
set_option maxRecDepth 100000 in
theorem zin_X5 : ∀ w ∈ u_ws RX5 TX5 2, w ∈ zTB := by decide +kernel
theorem zf_X5_11 (C : zCx E cc RX5 nL ret Z h) {i : Nat} (hk : i < zN 20) (hd : decode cc pc = .ok (.getfield 11, 3)) (kk : zKO E nL Z QQ (pc + 3) L (.ref (zad Z 21 0) :: st) σ o) : zKO E nL Z QQ pc L (.ref (zad Z 20 i) :: st) σ o := zr_get C 0 zin_X5 rfl (Nat.le_of_ble_eq_true rfl) rfl wz_154 hd hk rfl rfl kk
theorem wz_155 : Cond.fieldLink "AlpCommune$Sky" (18 : Nat) "AlpCommune$Sky" "toldIn" "[[I" ∈ zTB := zTB_mem 281 (by decide +kernel) (by decide +kernel)
theorem zf_X5_18 (C : zCx E cc RX5 nL ret Z h) {i : Nat} (hk : i < zN 20) (hd : decode cc pc = .ok (.getfield 18, 3)) (kk : zKO E nL Z QQ (pc + 3) L (.ref (zad Z 23 0) :: st) σ o) : zKO E nL Z QQ pc L (.ref (zad Z 20 i) :: st) σ o := zr_get C 1 zin_X5 rfl (Nat.le_of_ble_eq_true rfl) rfl wz_155 hd hk rfl rfl kk
theorem wz_726 : Cond.fieldLink "AlpCommune$Sky" (28 : Nat) "AlpCommune$Sky" "WITHOUT" "[I" ∈ zTB := zTB_mem 852 (by decide +kernel) (by decide +kernel)
theorem wz_236 : Cond.fieldLink "AlpCommune$Slope" (19 : Nat) "AlpCommune$Slope" "hasWorks" "Z" ∈ zTB := zTB_mem 362 (by decide +kernel) (by decide +kernel)
set_option maxRecDepth 100000 in
theorem zin_X6 : ∀ w ∈ u_ws RX6 TX6 6, w ∈ zTB := by decide +kernel
theorem zf_X6_19 (C : zCx E cc RX6 nL ret Z h) {i : Nat} (hk : i < zN 40) (hd : decode cc pc = .ok (.getfield 19, 3)) (kk : zKO E nL Z QQ (pc + 3) L (.int (σ.1 40 i 3) :: st) σ o) : zKO E nL Z QQ pc L (.ref (zad Z 40 i) :: st) σ o := zr_get C 3 zin_X6 rfl (Nat.le_of_ble_eq_true rfl) rfl wz_236 hd hk rfl rfl kk
theorem wz_239 : Cond.fieldLink "AlpCommune$Slope" (15 : Nat) "AlpCommune$Slope" "soft" "[Z" ∈ zTB := zTB_mem 365 (by decide +kernel) (by decide +kernel)
theorem zf_X6_15 (C : zCx E cc RX6 nL ret Z h) {i : Nat} (hk : i < zN 40) (hd : decode cc pc = .ok (.getfield 15, 3)) (kk : zKO E nL Z QQ (pc + 3) L (.ref (zad Z 42 i) :: st) σ o) : zKO E nL Z QQ pc L (.ref (zad Z 40 i) :: st) σ o := zr_get C 5 zin_X6 rfl (Nat.le_of_ble_eq_true rfl) rfl wz_239 hd hk rfl rfl kk
theorem wz_238 : Cond.fieldLink "AlpCommune$Slope" (9 : Nat) "AlpCommune$Slope" "depth" "[I" ∈ zTB := zTB_mem 364 (by decide +kernel) (by decide +kernel)
theorem zf_X6_9 (C : zCx E cc RX6 nL ret Z h) {i : Nat} (hk : i < zN 40) (hd : decode cc pc = .ok (.getfield 9, 3)) (kk : zKO E nL Z QQ (pc + 3) L (.ref (zad Z 41 i) :: st) σ o) : zKO E nL Z QQ pc L (.ref (zad Z 40 i) :: st) σ o := zr_get C 4 zin_X6 rfl (Nat.le_of_ble_eq_true rfl) rfl wz_238 hd hk rfl rfl kk
theorem wz_232 : Cond.fieldLink "AlpCommune$Slope" (23 : Nat) "AlpCommune$Slope" "layers" "I" ∈ zTB := zTB_mem 358 (by decide +kernel) (by decide +kernel)
theorem zf_X6_23 (C : zCx E cc RX6 nL ret Z h) {i : Nat} (hk : i < zN 40) (hd : decode cc pc = .ok (.getfield 23, 3)) (kk : zKO E nL Z QQ (pc + 3) L (.int (σ.1 40 i 1) :: st) σ o) : zKO E nL Z QQ pc L (.ref (zad Z 40 i) :: st) σ o := zr_get C 1 zin_X6 rfl (Nat.le_of_ble_eq_true rfl) rfl wz_232 hd hk rfl rfl kk
theorem wz_848 : Cond.methodLink "AlpCommune$Slope" (35 : Nat) ({ cls := "AlpCommune$Slope", name := "bears", desc := "(I)I" } : MethodName) ∈ zTB := zTB_mem 974 (by decide +kernel) (by decide +kernel)
theorem wz_p51 : Cond.selects yX6_bears.cls yX6_bears yX6_bears ∈ zTB := zTB_mem 51 (by decide +kernel) (by decide +kernel)
theorem wz_850 : Cond.instanceMethod ({ cls := "AlpCommune$Slope", name := "bears", desc := "(I)I" } : MethodName) ∈ zTB := zTB_mem 976 (by decide +kernel) (by decide +kernel)
theorem wz_851 : Cond.code yX6_bears cX6_bears 2 (some .int) ∈ zTB := zTB_mem 977 (by decide +kernel) (by decide +kernel)
theorem wz_8 : Cond.initialized "AlpCommune$Slope" ∈ zTB := zTB_mem 134 (by decide +kernel) (by decide +kernel)
theorem wz_844 : Cond.methodLink "AlpCommune$Slope" (31 : Nat) ({ cls := "AlpCommune$Slope", name := "lyingFrom", desc := "(I)I" } : MethodName) ∈ zTB := zTB_mem 970 (by decide +kernel) (by decide +kernel)
theorem wz_p50 : Cond.selects yX6_lyingFrom.cls yX6_lyingFrom yX6_lyingFrom ∈ zTB := zTB_mem 50 (by decide +kernel) (by decide +kernel)
theorem wz_846 : Cond.instanceMethod ({ cls := "AlpCommune$Slope", name := "lyingFrom", desc := "(I)I" } : MethodName) ∈ zTB := zTB_mem 972 (by decide +kernel) (by decide +kernel)
theorem wz_847 : Cond.code yX6_lyingFrom cX6_lyingFrom 4 (some .int) ∈ zTB := zTB_mem 973 (by decide +kernel) (by decide +kernel)
theorem wz_840 : Cond.methodLink "AlpCommune$Slope" (27 : Nat) ({ cls := "AlpCommune$Slope", name := "lowestSoft", desc := "()I" } : MethodName) ∈ zTB := zTB_mem 966 (by decide +kernel) (by decide +kernel)
theorem wz_p49 : Cond.selects yX6_lowestSoft.cls yX6_lowestSoft yX6_lowestSoft ∈ zTB := zTB_mem 49 (by decide +kernel) (by decide +kernel)
theorem wz_842 : Cond.instanceMethod ({ cls := "AlpCommune$Slope", name := "lowestSoft", desc := "()I" } : MethodName) ∈ zTB := zTB_mem 968 (by decide +kernel) (by decide +kernel)
theorem wz_843 : Cond.code yX6_lowestSoft cX6_lowestSoft 2 (some .int) ∈ zTB := zTB_mem 969 (by decide +kernel) (by decide +kernel)
theorem zp_X6_23 (C : zCx E cc RX6 nL ret Z h) {i : Nat} {x : Int32} (hk : i < zN 40) (hd : decode cc pc = .ok (.putfield 23, 3)) (kk : zKO E nL Z QQ (pc + 3) L st (zwi σ 40 i 1 x) o) : zKO E nL Z QQ pc L (.int x :: .ref (zad Z 40 i) :: st) σ o :=
  zr_put C 1 zin_X6 rfl (Nat.le_of_ble_eq_true rfl) rfl tyX6_ok nmX6 rfl (ty := .int) (σ1 := zwi σ 40 i 1 x) (by decide +kernel) wz_232 hd hk rfl (Nat.le_of_ble_eq_true rfl) rfl rfl (fun a b q => zu_off _ _ _ q) (fun a b q => rfl) (by
    show zE Z 40 i (zu σ.1 40 i 1 x 40 i) _ = _
    rw [zu_at]
    rfl) kk
theorem wz_836 : Cond.methodLink "AlpCommune$Slope" (52 : Nat) ({ cls := "AlpCommune$Slope", name := "joinLowest", desc := "()V" } : MethodName) ∈ zTB := zTB_mem 962 (by decide +kernel) (by decide +kernel)
theorem wz_p48 : Cond.selects yX6_joinLowest.cls yX6_joinLowest yX6_joinLowest ∈ zTB := zTB_mem 48 (by decide +kernel) (by decide +kernel)
theorem wz_838 : Cond.instanceMethod ({ cls := "AlpCommune$Slope", name := "joinLowest", desc := "()V" } : MethodName) ∈ zTB := zTB_mem 964 (by decide +kernel) (by decide +kernel)
theorem wz_839 : Cond.code yX6_joinLowest cX6_joinLowest 2 none ∈ zTB := zTB_mem 965 (by decide +kernel) (by decide +kernel)
theorem wz_832 : Cond.methodLink "AlpCommune$Slope" (42 : Nat) ({ cls := "AlpCommune$Slope", name := "addLayer", desc := "(IZ)V" } : MethodName) ∈ zTB := zTB_mem 958 (by decide +kernel) (by decide +kernel)
theorem wz_p47 : Cond.selects yX6_addLayer.cls yX6_addLayer yX6_addLayer ∈ zTB := zTB_mem 47 (by decide +kernel) (by decide +kernel)
theorem wz_834 : Cond.instanceMethod ({ cls := "AlpCommune$Slope", name := "addLayer", desc := "(IZ)V" } : MethodName) ∈ zTB := zTB_mem 960 (by decide +kernel) (by decide +kernel)
theorem wz_835 : Cond.code yX6_addLayer cX6_addLayer 3 none ∈ zTB := zTB_mem 961 (by decide +kernel) (by decide +kernel)
theorem wz_230 : Cond.fieldLink "AlpCommune$Slope" (46 : Nat) "AlpCommune$Slope" "age" "I" ∈ zTB := zTB_mem 356 (by decide +kernel) (by decide +kernel)
theorem zf_X6_46 (C : zCx E cc RX6 nL ret Z h) {i : Nat} (hk : i < zN 40) (hd : decode cc pc = .ok (.getfield 46, 3)) (kk : zKO E nL Z QQ (pc + 3) L (.int (σ.1 40 i 0) :: st) σ o) : zKO E nL Z QQ pc L (.ref (zad Z 40 i) :: st) σ o := zr_get C 0 zin_X6 rfl (Nat.le_of_ble_eq_true rfl) rfl wz_230 hd hk rfl rfl kk
theorem zp_X6_46 (C : zCx E cc RX6 nL ret Z h) {i : Nat} {x : Int32} (hk : i < zN 40) (hd : decode cc pc = .ok (.putfield 46, 3)) (kk : zKO E nL Z QQ (pc + 3) L st (zwi σ 40 i 0 x) o) : zKO E nL Z QQ pc L (.int x :: .ref (zad Z 40 i) :: st) σ o :=
  zr_put C 0 zin_X6 rfl (Nat.le_of_ble_eq_true rfl) rfl tyX6_ok nmX6 rfl (ty := .int) (σ1 := zwi σ 40 i 0 x) (by decide +kernel) wz_230 hd hk rfl (Nat.le_of_ble_eq_true rfl) rfl rfl (fun a b q => zu_off _ _ _ q) (fun a b q => rfl) (by
    show zE Z 40 i (zu σ.1 40 i 0 x 40 i) _ = _
    rw [zu_at]
    rfl) kk
theorem wz_234 : Cond.fieldLink "AlpCommune$Slope" (49 : Nat) "AlpCommune$Slope" "slid" "I" ∈ zTB := zTB_mem 360 (by decide +kernel) (by decide +kernel)
theorem zf_X6_49 (C : zCx E cc RX6 nL ret Z h) {i : Nat} (hk : i < zN 40) (hd : decode cc pc = .ok (.getfield 49, 3)) (kk : zKO E nL Z QQ (pc + 3) L (.int (σ.1 40 i 2) :: st) σ o) : zKO E nL Z QQ pc L (.ref (zad Z 40 i) :: st) σ o := zr_get C 2 zin_X6 rfl (Nat.le_of_ble_eq_true rfl) rfl wz_234 hd hk rfl rfl kk
theorem zp_X6_49 (C : zCx E cc RX6 nL ret Z h) {i : Nat} {x : Int32} (hk : i < zN 40) (hd : decode cc pc = .ok (.putfield 49, 3)) (kk : zKO E nL Z QQ (pc + 3) L st (zwi σ 40 i 2 x) o) : zKO E nL Z QQ pc L (.int x :: .ref (zad Z 40 i) :: st) σ o :=
  zr_put C 2 zin_X6 rfl (Nat.le_of_ble_eq_true rfl) rfl tyX6_ok nmX6 rfl (ty := .int) (σ1 := zwi σ 40 i 2 x) (by decide +kernel) wz_234 hd hk rfl (Nat.le_of_ble_eq_true rfl) rfl rfl (fun a b q => zu_off _ _ _ q) (fun a b q => rfl) (by
    show zE Z 40 i (zu σ.1 40 i 2 x 40 i) _ = _
    rw [zu_at]
    rfl) kk
theorem wz_828 : Cond.methodLink "AlpCommune$Slope" (38 : Nat) ({ cls := "AlpCommune$Slope", name := "melt", desc := "(I)V" } : MethodName) ∈ zTB := zTB_mem 954 (by decide +kernel) (by decide +kernel)
theorem wz_p46 : Cond.selects yX6_melt.cls yX6_melt yX6_melt ∈ zTB := zTB_mem 46 (by decide +kernel) (by decide +kernel)
theorem wz_830 : Cond.instanceMethod ({ cls := "AlpCommune$Slope", name := "melt", desc := "(I)V" } : MethodName) ∈ zTB := zTB_mem 956 (by decide +kernel) (by decide +kernel)
theorem wz_831 : Cond.code yX6_melt cX6_melt 3 none ∈ zTB := zTB_mem 957 (by decide +kernel) (by decide +kernel)
theorem wz_255 : Cond.fieldLink "AlpCommune$Way" (18 : Nat) "AlpCommune$Way" "count" "I" ∈ zTB := zTB_mem 381 (by decide +kernel) (by decide +kernel)
set_option maxRecDepth 100000 in
theorem zin_X7 : ∀ w ∈ u_ws RX7 TX7 7, w ∈ zTB := by decide +kernel
theorem zf_X7_18 (C : zCx E cc RX7 nL ret Z h) {i : Nat} (hk : i < zN 38) (hd : decode cc pc = .ok (.getfield 18, 3)) (kk : zKO E nL Z QQ (pc + 3) L (.int (σ.1 38 i 1) :: st) σ o) : zKO E nL Z QQ pc L (.ref (zad Z 38 i) :: st) σ o := zr_get C 1 zin_X7 rfl (Nat.le_of_ble_eq_true rfl) rfl wz_255 hd hk rfl rfl kk
theorem wz_259 : Cond.fieldLink "AlpCommune$Way" (26 : Nat) "AlpCommune$Way" "slides" "I" ∈ zTB := zTB_mem 385 (by decide +kernel) (by decide +kernel)
theorem zf_X7_26 (C : zCx E cc RX7 nL ret Z h) {i : Nat} (hk : i < zN 38) (hd : decode cc pc = .ok (.getfield 26, 3)) (kk : zKO E nL Z QQ (pc + 3) L (.int (σ.1 38 i 3) :: st) σ o) : zKO E nL Z QQ pc L (.ref (zad Z 38 i) :: st) σ o := zr_get C 3 zin_X7 rfl (Nat.le_of_ble_eq_true rfl) rfl wz_259 hd hk rfl rfl kk
theorem zp_X7_26 (C : zCx E cc RX7 nL ret Z h) {i : Nat} {x : Int32} (hk : i < zN 38) (hd : decode cc pc = .ok (.putfield 26, 3)) (kk : zKO E nL Z QQ (pc + 3) L st (zwi σ 38 i 3 x) o) : zKO E nL Z QQ pc L (.int x :: .ref (zad Z 38 i) :: st) σ o :=
  zr_put C 3 zin_X7 rfl (Nat.le_of_ble_eq_true rfl) rfl tyX7_ok nmX7 rfl (ty := .int) (σ1 := zwi σ 38 i 3 x) (by decide +kernel) wz_259 hd hk rfl (Nat.le_of_ble_eq_true rfl) rfl rfl (fun a b q => zu_off _ _ _ q) (fun a b q => rfl) (by
    show zE Z 38 i (zu σ.1 38 i 3 x 38 i) _ = _
    rw [zu_at]
    rfl) kk
theorem wz_257 : Cond.fieldLink "AlpCommune$Way" (29 : Nat) "AlpCommune$Way" "isShut" "Z" ∈ zTB := zTB_mem 383 (by decide +kernel) (by decide +kernel)
theorem zf_X7_29 (C : zCx E cc RX7 nL ret Z h) {i : Nat} (hk : i < zN 38) (hd : decode cc pc = .ok (.getfield 29, 3)) (kk : zKO E nL Z QQ (pc + 3) L (.int (σ.1 38 i 2) :: st) σ o) : zKO E nL Z QQ pc L (.ref (zad Z 38 i) :: st) σ o := zr_get C 2 zin_X7 rfl (Nat.le_of_ble_eq_true rfl) rfl wz_257 hd hk rfl rfl kk
theorem wz_263 : Cond.fieldLink "AlpCommune$Way" (36 : Nat) "AlpCommune$Way" "inVain" "I" ∈ zTB := zTB_mem 389 (by decide +kernel) (by decide +kernel)
theorem zf_X7_36 (C : zCx E cc RX7 nL ret Z h) {i : Nat} (hk : i < zN 38) (hd : decode cc pc = .ok (.getfield 36, 3)) (kk : zKO E nL Z QQ (pc + 3) L (.int (σ.1 38 i 5) :: st) σ o) : zKO E nL Z QQ pc L (.ref (zad Z 38 i) :: st) σ o := zr_get C 5 zin_X7 rfl (Nat.le_of_ble_eq_true rfl) rfl wz_263 hd hk rfl rfl kk
theorem zp_X7_36 (C : zCx E cc RX7 nL ret Z h) {i : Nat} {x : Int32} (hk : i < zN 38) (hd : decode cc pc = .ok (.putfield 36, 3)) (kk : zKO E nL Z QQ (pc + 3) L st (zwi σ 38 i 5 x) o) : zKO E nL Z QQ pc L (.int x :: .ref (zad Z 38 i) :: st) σ o :=
  zr_put C 5 zin_X7 rfl (Nat.le_of_ble_eq_true rfl) rfl tyX7_ok nmX7 rfl (ty := .int) (σ1 := zwi σ 38 i 5 x) (by decide +kernel) wz_263 hd hk rfl (Nat.le_of_ble_eq_true rfl) rfl rfl (fun a b q => zu_off _ _ _ q) (fun a b q => rfl) (by
    show zE Z 38 i (zu σ.1 38 i 5 x 38 i) _ = _
    rw [zu_at]
    rfl) kk
theorem wz_261 : Cond.fieldLink "AlpCommune$Way" (33 : Nat) "AlpCommune$Way" "missed" "I" ∈ zTB := zTB_mem 387 (by decide +kernel) (by decide +kernel)
theorem zf_X7_33 (C : zCx E cc RX7 nL ret Z h) {i : Nat} (hk : i < zN 38) (hd : decode cc pc = .ok (.getfield 33, 3)) (kk : zKO E nL Z QQ (pc + 3) L (.int (σ.1 38 i 4) :: st) σ o) : zKO E nL Z QQ pc L (.ref (zad Z 38 i) :: st) σ o := zr_get C 4 zin_X7 rfl (Nat.le_of_ble_eq_true rfl) rfl wz_261 hd hk rfl rfl kk
theorem zp_X7_33 (C : zCx E cc RX7 nL ret Z h) {i : Nat} {x : Int32} (hk : i < zN 38) (hd : decode cc pc = .ok (.putfield 33, 3)) (kk : zKO E nL Z QQ (pc + 3) L st (zwi σ 38 i 4 x) o) : zKO E nL Z QQ pc L (.int x :: .ref (zad Z 38 i) :: st) σ o :=
  zr_put C 4 zin_X7 rfl (Nat.le_of_ble_eq_true rfl) rfl tyX7_ok nmX7 rfl (ty := .int) (σ1 := zwi σ 38 i 4 x) (by decide +kernel) wz_261 hd hk rfl (Nat.le_of_ble_eq_true rfl) rfl rfl (fun a b q => zu_off _ _ _ q) (fun a b q => rfl) (by
    show zE Z 38 i (zu σ.1 38 i 4 x 38 i) _ = _
    rw [zu_at]
    rfl) kk
theorem wz_253 : Cond.fieldLink "AlpCommune$Way" (11 : Nat) "AlpCommune$Way" "slopes" "[LAlpCommune$Slope;" ∈ zTB := zTB_mem 379 (by decide +kernel) (by decide +kernel)
theorem zf_X7_11 (C : zCx E cc RX7 nL ret Z h) {i : Nat} (hk : i < zN 38) (hd : decode cc pc = .ok (.getfield 11, 3)) (kk : zKO E nL Z QQ (pc + 3) L (.ref (zad Z 39 0) :: st) σ o) : zKO E nL Z QQ pc L (.ref (zad Z 38 i) :: st) σ o := zr_get C 0 zin_X7 rfl (Nat.le_of_ble_eq_true rfl) rfl wz_253 hd hk rfl rfl kk
theorem wz_n824 : Cond.methodLinkNest "AlpCommune$Way" (22 : Nat) ({ cls := "AlpCommune$Slope", name := "live", desc := "(II)Z" } : MethodName) "AlpCommune" ∈ zNest := zNest_mem 824 (by decide +kernel) (by decide +kernel)
theorem wz_p45 : Cond.selects yX6_live.cls yX6_live yX6_live ∈ zTB := zTB_mem 45 (by decide +kernel) (by decide +kernel)
theorem wz_826 : Cond.instanceMethod ({ cls := "AlpCommune$Slope", name := "live", desc := "(II)Z" } : MethodName) ∈ zTB := zTB_mem 952 (by decide +kernel) (by decide +kernel)
theorem wz_827 : Cond.code yX6_live cX6_live 4 (some .boolean) ∈ zTB := zTB_mem 953 (by decide +kernel) (by decide +kernel)
theorem wz_n229 : Cond.fieldLinkNest "AlpCommune$Way" (39 : Nat) "AlpCommune$Slope" "age" "I" "AlpCommune" ∈ zNest := zNest_mem 229 (by decide +kernel) (by decide +kernel)
theorem zf_X7_39 (C : zCx E cc RX7 nL ret Z h) {i : Nat} (hk : i < zN 40) (hd : decode cc pc = .ok (.getfield 39, 3)) (kk : zKO E nL Z QQ (pc + 3) L (.int (σ.1 40 i 0) :: st) σ o) : zKO E nL Z QQ pc L (.ref (zad Z 40 i) :: st) σ o := zr_getN C 0 zin_X6 rfl (Nat.le_of_ble_eq_true rfl) rfl wz_n229 hd hk rfl rfl kk
theorem wz_856 : Cond.methodLink "AlpCommune$Way" (42 : Nat) ({ cls := "java/lang/Math", name := "min", desc := "(II)I" } : MethodName) ∈ zTB := zTB_mem 982 (by decide +kernel) (by decide +kernel)
theorem zp_X7_39 (C : zCx E cc RX7 nL ret Z h) {i : Nat} {x : Int32} (hk : i < zN 40) (hd : decode cc pc = .ok (.putfield 39, 3)) (kk : zKO E nL Z QQ (pc + 3) L st (zwi σ 40 i 0 x) o) : zKO E nL Z QQ pc L (.int x :: .ref (zad Z 40 i) :: st) σ o :=
  zr_putN C 0 zin_X6 rfl (Nat.le_of_ble_eq_true rfl) rfl tyX6_ok nmX6 rfl (ty := .int) (σ1 := zwi σ 40 i 0 x) (by decide +kernel) wz_n229 hd hk rfl (Nat.le_of_ble_eq_true rfl) rfl rfl (fun a b q => zu_off _ _ _ q) (fun a b q => rfl) (by
    show zE Z 40 i (zu σ.1 40 i 0 x 40 i) _ = _
    rw [zu_at]
    rfl) kk
theorem wz_75 : Cond.fieldLink "AlpCommune$Word" (28 : Nat) "AlpCommune$Word" "key" "I" ∈ zTB := zTB_mem 201 (by decide +kernel) (by decide +kernel)
set_option maxRecDepth 100000 in
theorem zin_X8 : ∀ w ∈ u_ws RX8 TX8 12, w ∈ zTB := by decide +kernel
theorem zf_X8_28 (C : zCx E cc RX8 nL ret Z h) {i : Nat} (hk : i < zN 13) (hd : decode cc pc = .ok (.getfield 28, 3)) (kk : zKO E nL Z QQ (pc + 3) L (.int (σ.1 13 i 0) :: st) σ o) : zKO E nL Z QQ pc L (.ref (zad Z 13 i) :: st) σ o := zr_get C 0 zin_X8 rfl (Nat.le_of_ble_eq_true rfl) rfl wz_75 hd hk rfl rfl kk
theorem wz_78 : Cond.fieldLink "AlpCommune$Word" (32 : Nat) "AlpCommune$Word" "day" "I" ∈ zTB := zTB_mem 204 (by decide +kernel) (by decide +kernel)
theorem zf_X8_32 (C : zCx E cc RX8 nL ret Z h) {i : Nat} (hk : i < zN 13) (hd : decode cc pc = .ok (.getfield 32, 3)) (kk : zKO E nL Z QQ (pc + 3) L (.int (σ.1 13 i 2) :: st) σ o) : zKO E nL Z QQ pc L (.ref (zad Z 13 i) :: st) σ o := zr_get C 2 zin_X8 rfl (Nat.le_of_ble_eq_true rfl) rfl wz_78 hd hk rfl rfl kk
theorem wz_82 : Cond.fieldLink "AlpCommune$Word" (35 : Nat) "AlpCommune$Word" "isVoid" "Z" ∈ zTB := zTB_mem 208 (by decide +kernel) (by decide +kernel)
theorem zf_X8_35 (C : zCx E cc RX8 nL ret Z h) {i : Nat} (hk : i < zN 13) (hd : decode cc pc = .ok (.getfield 35, 3)) (kk : zKO E nL Z QQ (pc + 3) L (.int (σ.1 13 i 4) :: st) σ o) : zKO E nL Z QQ pc L (.ref (zad Z 13 i) :: st) σ o := zr_get C 4 zin_X8 rfl (Nat.le_of_ble_eq_true rfl) rfl wz_82 hd hk rfl rfl kk
theorem wz_80 : Cond.fieldLink "AlpCommune$Word" (39 : Nat) "AlpCommune$Word" "voidOn" "I" ∈ zTB := zTB_mem 206 (by decide +kernel) (by decide +kernel)
theorem zf_X8_39 (C : zCx E cc RX8 nL ret Z h) {i : Nat} (hk : i < zN 13) (hd : decode cc pc = .ok (.getfield 39, 3)) (kk : zKO E nL Z QQ (pc + 3) L (.int (σ.1 13 i 3) :: st) σ o) : zKO E nL Z QQ pc L (.ref (zad Z 13 i) :: st) σ o := zr_get C 3 zin_X8 rfl (Nat.le_of_ble_eq_true rfl) rfl wz_80 hd hk rfl rfl kk
theorem wz_n310 : Cond.fieldLinkNest "AlpCommune$Word" (56 : Nat) "AlpCommune$House" "has" "[I" "AlpCommune" ∈ zNest := zNest_mem 310 (by decide +kernel) (by decide +kernel)
theorem zf_X8_56 (C : zCx E cc RX8 nL ret Z h) {i : Nat} (hk : i < zN 2) (hd : decode cc pc = .ok (.getfield 56, 3)) (kk : zKO E nL Z QQ (pc + 3) L (.ref (zad Z 3 i) :: st) σ o) : zKO E nL Z QQ pc L (.ref (zad Z 2 i) :: st) σ o := zr_getN C 0 zin_X2 rfl (Nat.le_of_ble_eq_true rfl) rfl wz_n310 hd hk rfl rfl kk
theorem wz_86 : Cond.fieldLink "AlpCommune$Word" (42 : Nat) "AlpCommune$Word" "tests" "I" ∈ zTB := zTB_mem 212 (by decide +kernel) (by decide +kernel)
theorem zf_X8_42 (C : zCx E cc RX8 nL ret Z h) {i : Nat} (hk : i < zN 13) (hd : decode cc pc = .ok (.getfield 42, 3)) (kk : zKO E nL Z QQ (pc + 3) L (.int (σ.1 13 i 6) :: st) σ o) : zKO E nL Z QQ pc L (.ref (zad Z 13 i) :: st) σ o := zr_get C 6 zin_X8 rfl (Nat.le_of_ble_eq_true rfl) rfl wz_86 hd hk rfl rfl kk
theorem wz_96 : Cond.fieldLink "AlpCommune$Word" (25 : Nat) "AlpCommune$Word" "or" "[Z" ∈ zTB := zTB_mem 222 (by decide +kernel) (by decide +kernel)
theorem zf_X8_25 (C : zCx E cc RX8 nL ret Z h) {i : Nat} (hk : i < zN 13) (hd : decode cc pc = .ok (.getfield 25, 3)) (kk : zKO E nL Z QQ (pc + 3) L (.ref (zad Z 18 i) :: st) σ o) : zKO E nL Z QQ pc L (.ref (zad Z 13 i) :: st) σ o := zr_get C 11 zin_X8 rfl (Nat.le_of_ble_eq_true rfl) rfl wz_96 hd hk rfl rfl kk
theorem wz_94 : Cond.fieldLink "AlpCommune$Word" (21 : Nat) "AlpCommune$Word" "not" "[Z" ∈ zTB := zTB_mem 220 (by decide +kernel) (by decide +kernel)
theorem zf_X8_21 (C : zCx E cc RX8 nL ret Z h) {i : Nat} (hk : i < zN 13) (hd : decode cc pc = .ok (.getfield 21, 3)) (kk : zKO E nL Z QQ (pc + 3) L (.ref (zad Z 17 i) :: st) σ o) : zKO E nL Z QQ pc L (.ref (zad Z 13 i) :: st) σ o := zr_get C 10 zin_X8 rfl (Nat.le_of_ble_eq_true rfl) rfl wz_94 hd hk rfl rfl kk
theorem wz_88 : Cond.fieldLink "AlpCommune$Word" (9 : Nat) "AlpCommune$Word" "field" "[I" ∈ zTB := zTB_mem 214 (by decide +kernel) (by decide +kernel)
theorem zf_X8_9 (C : zCx E cc RX8 nL ret Z h) {i : Nat} (hk : i < zN 13) (hd : decode cc pc = .ok (.getfield 9, 3)) (kk : zKO E nL Z QQ (pc + 3) L (.ref (zad Z 14 i) :: st) σ o) : zKO E nL Z QQ pc L (.ref (zad Z 13 i) :: st) σ o := zr_get C 7 zin_X8 rfl (Nat.le_of_ble_eq_true rfl) rfl wz_88 hd hk rfl rfl kk
theorem wz_90 : Cond.fieldLink "AlpCommune$Word" (15 : Nat) "AlpCommune$Word" "sign" "[I" ∈ zTB := zTB_mem 216 (by decide +kernel) (by decide +kernel)
theorem zf_X8_15 (C : zCx E cc RX8 nL ret Z h) {i : Nat} (hk : i < zN 13) (hd : decode cc pc = .ok (.getfield 15, 3)) (kk : zKO E nL Z QQ (pc + 3) L (.ref (zad Z 15 i) :: st) σ o) : zKO E nL Z QQ pc L (.ref (zad Z 13 i) :: st) σ o := zr_get C 8 zin_X8 rfl (Nat.le_of_ble_eq_true rfl) rfl wz_90 hd hk rfl rfl kk
theorem wz_92 : Cond.fieldLink "AlpCommune$Word" (18 : Nat) "AlpCommune$Word" "than" "[I" ∈ zTB := zTB_mem 218 (by decide +kernel) (by decide +kernel)
theorem zf_X8_18 (C : zCx E cc RX8 nL ret Z h) {i : Nat} (hk : i < zN 13) (hd : decode cc pc = .ok (.getfield 18, 3)) (kk : zKO E nL Z QQ (pc + 3) L (.ref (zad Z 16 i) :: st) σ o) : zKO E nL Z QQ pc L (.ref (zad Z 13 i) :: st) σ o := zr_get C 9 zin_X8 rfl (Nat.le_of_ble_eq_true rfl) rfl wz_92 hd hk rfl rfl kk
theorem wz_674 : Cond.methodLink "AlpCommune$Word" (49 : Nat) ({ cls := "AlpCommune$Word", name := "isTrue", desc := "(III)Z" } : MethodName) ∈ zTB := zTB_mem 800 (by decide +kernel) (by decide +kernel)
theorem wz_675 : Cond.static ({ cls := "AlpCommune$Word", name := "isTrue", desc := "(III)Z" } : MethodName) ∈ zTB := zTB_mem 801 (by decide +kernel) (by decide +kernel)
theorem wz_676 : Cond.code yX8_isTrue cX8_isTrue 3 (some .boolean) ∈ zTB := zTB_mem 802 (by decide +kernel) (by decide +kernel)
theorem wz_4 : Cond.initialized "AlpCommune$Word" ∈ zTB := zTB_mem 130 (by decide +kernel) (by decide +kernel)
theorem wz_671 : Cond.methodLink "AlpCommune$Word" (45 : Nat) ({ cls := "AlpCommune$Word", name := "fieldOf", desc := "(LAlpCommune$House;II)I" } : MethodName) ∈ zTB := zTB_mem 797 (by decide +kernel) (by decide +kernel)
theorem wz_672 : Cond.static ({ cls := "AlpCommune$Word", name := "fieldOf", desc := "(LAlpCommune$House;II)I" } : MethodName) ∈ zTB := zTB_mem 798 (by decide +kernel) (by decide +kernel)
theorem wz_673 : Cond.code yX8_fieldOf cX8_fieldOf 3 (some .int) ∈ zTB := zTB_mem 799 (by decide +kernel) (by decide +kernel)
theorem wz_84 : Cond.fieldLink "AlpCommune$Word" (53 : Nat) "AlpCommune$Word" "unless" "Z" ∈ zTB := zTB_mem 210 (by decide +kernel) (by decide +kernel)
theorem zf_X8_53 (C : zCx E cc RX8 nL ret Z h) {i : Nat} (hk : i < zN 13) (hd : decode cc pc = .ok (.getfield 53, 3)) (kk : zKO E nL Z QQ (pc + 3) L (.int (σ.1 13 i 5) :: st) σ o) : zKO E nL Z QQ pc L (.ref (zad Z 13 i) :: st) σ o := zr_get C 5 zin_X8 rfl (Nat.le_of_ble_eq_true rfl) rfl wz_84 hd hk rfl rfl kk
theorem wz_127 : Cond.fieldLink "AlpCommune$Words" (22 : Nat) "AlpCommune$Words" "count" "I" ∈ zTB := zTB_mem 253 (by decide +kernel) (by decide +kernel)
set_option maxRecDepth 100000 in
theorem zin_X9 : ∀ w ∈ u_ws RX9 TX9 5, w ∈ zTB := by decide +kernel
theorem zf_X9_22 (C : zCx E cc RX9 nL ret Z h) {i : Nat} (hk : i < zN 11) (hd : decode cc pc = .ok (.getfield 22, 3)) (kk : zKO E nL Z QQ (pc + 3) L (.int (σ.1 11 i 1) :: st) σ o) : zKO E nL Z QQ pc L (.ref (zad Z 11 i) :: st) σ o := zr_get C 1 zin_X9 rfl (Nat.le_of_ble_eq_true rfl) rfl wz_127 hd hk rfl rfl kk
theorem wz_130 : Cond.fieldLink "AlpCommune$Words" (26 : Nat) "AlpCommune$Words" "length" "I" ∈ zTB := zTB_mem 256 (by decide +kernel) (by decide +kernel)
theorem zf_X9_26 (C : zCx E cc RX9 nL ret Z h) {i : Nat} (hk : i < zN 11) (hd : decode cc pc = .ok (.getfield 26, 3)) (kk : zKO E nL Z QQ (pc + 3) L (.int (σ.1 11 i 3) :: st) σ o) : zKO E nL Z QQ pc L (.ref (zad Z 11 i) :: st) σ o := zr_get C 3 zin_X9 rfl (Nat.le_of_ble_eq_true rfl) rfl wz_130 hd hk rfl rfl kk
theorem wz_129 : Cond.fieldLink "AlpCommune$Words" (17 : Nat) "AlpCommune$Words" "tape" "[B" ∈ zTB := zTB_mem 255 (by decide +kernel) (by decide +kernel)
theorem zf_X9_17 (C : zCx E cc RX9 nL ret Z h) {i : Nat} (hk : i < zN 11) (hd : decode cc pc = .ok (.getfield 17, 3)) (kk : zKO E nL Z QQ (pc + 3) L (.ref (zad Z 19 0) :: st) σ o) : zKO E nL Z QQ pc L (.ref (zad Z 11 i) :: st) σ o := zr_get C 2 zin_X9 rfl (Nat.le_of_ble_eq_true rfl) rfl wz_129 hd hk rfl rfl kk
theorem zp_X9_26 (C : zCx E cc RX9 nL ret Z h) {i : Nat} {x : Int32} (hk : i < zN 11) (hd : decode cc pc = .ok (.putfield 26, 3)) (kk : zKO E nL Z QQ (pc + 3) L st (zwi σ 11 i 3 x) o) : zKO E nL Z QQ pc L (.int x :: .ref (zad Z 11 i) :: st) σ o :=
  zr_put C 3 zin_X9 rfl (Nat.le_of_ble_eq_true rfl) rfl tyX9_ok nmX9 rfl (ty := .int) (σ1 := zwi σ 11 i 3 x) (by decide +kernel) wz_130 hd hk rfl (Nat.le_of_ble_eq_true rfl) rfl rfl (fun a b q => zu_off _ _ _ q) (fun a b q => rfl) (by
    show zE Z 11 i (zu σ.1 11 i 3 x 11 i) _ = _
    rw [zu_at]
    rfl) kk
theorem wz_125 : Cond.fieldLink "AlpCommune$Words" (11 : Nat) "AlpCommune$Words" "rows" "[LAlpCommune$Word;" ∈ zTB := zTB_mem 251 (by decide +kernel) (by decide +kernel)
theorem zf_X9_11 (C : zCx E cc RX9 nL ret Z h) {i : Nat} (hk : i < zN 11) (hd : decode cc pc = .ok (.getfield 11, 3)) (kk : zKO E nL Z QQ (pc + 3) L (.ref (zad Z 12 0) :: st) σ o) : zKO E nL Z QQ pc L (.ref (zad Z 11 i) :: st) σ o := zr_get C 0 zin_X9 rfl (Nat.le_of_ble_eq_true rfl) rfl wz_125 hd hk rfl rfl kk
theorem wz_n79 : Cond.fieldLinkNest "AlpCommune$Words" (29 : Nat) "AlpCommune$Word" "day" "I" "AlpCommune" ∈ zNest := zNest_mem 79 (by decide +kernel) (by decide +kernel)
theorem zp_X9_29 (C : zCx E cc RX9 nL ret Z h) {i : Nat} {x : Int32} (hk : i < zN 13) (hd : decode cc pc = .ok (.putfield 29, 3)) (kk : zKO E nL Z QQ (pc + 3) L st (zwi σ 13 i 2 x) o) : zKO E nL Z QQ pc L (.int x :: .ref (zad Z 13 i) :: st) σ o :=
  zr_putN C 2 zin_X8 rfl (Nat.le_of_ble_eq_true rfl) rfl tyX8_ok nmX8 rfl (ty := .int) (σ1 := zwi σ 13 i 2 x) (by decide +kernel) wz_n79 hd hk rfl (Nat.le_of_ble_eq_true rfl) rfl rfl (fun a b q => zu_off _ _ _ q) (fun a b q => rfl) (by
    show zE Z 13 i (zu σ.1 13 i 2 x 13 i) _ = _
    rw [zu_at]
    rfl) kk
theorem zp_X9_22 (C : zCx E cc RX9 nL ret Z h) {i : Nat} {x : Int32} (hk : i < zN 11) (hd : decode cc pc = .ok (.putfield 22, 3)) (kk : zKO E nL Z QQ (pc + 3) L st (zwi σ 11 i 1 x) o) : zKO E nL Z QQ pc L (.int x :: .ref (zad Z 11 i) :: st) σ o :=
  zr_put C 1 zin_X9 rfl (Nat.le_of_ble_eq_true rfl) rfl tyX9_ok nmX9 rfl (ty := .int) (σ1 := zwi σ 11 i 1 x) (by decide +kernel) wz_127 hd hk rfl (Nat.le_of_ble_eq_true rfl) rfl rfl (fun a b q => zu_off _ _ _ q) (fun a b q => rfl) (by
    show zE Z 11 i (zu σ.1 11 i 1 x 11 i) _ = _
    rw [zu_at]
    rfl) kk
theorem wz_n77 : Cond.fieldLinkNest "AlpCommune$Words" (36 : Nat) "AlpCommune$Word" "number" "I" "AlpCommune" ∈ zNest := zNest_mem 77 (by decide +kernel) (by decide +kernel)
theorem zf_X9_36 (C : zCx E cc RX9 nL ret Z h) {i : Nat} (hk : i < zN 13) (hd : decode cc pc = .ok (.getfield 36, 3)) (kk : zKO E nL Z QQ (pc + 3) L (.int (σ.1 13 i 1) :: st) σ o) : zKO E nL Z QQ pc L (.ref (zad Z 13 i) :: st) σ o := zr_getN C 1 zin_X8 rfl (Nat.le_of_ble_eq_true rfl) rfl wz_n77 hd hk rfl rfl kk
theorem wz_681 : Cond.fieldLink "AlpCommune$Words" (32 : Nat) "AlpCommune$Words" "WORTH_AT_FIRST" "[I" ∈ zTB := zTB_mem 807 (by decide +kernel) (by decide +kernel)
theorem wz_n667 : Cond.methodLinkNest "AlpCommune$Words" (43 : Nat) ({ cls := "AlpCommune$Word", name := "holdsFor", desc := "(LAlpCommune$House;I)Z" } : MethodName) "AlpCommune" ∈ zNest := zNest_mem 667 (by decide +kernel) (by decide +kernel)
theorem wz_p26 : Cond.selects yX8_holdsFor.cls yX8_holdsFor yX8_holdsFor ∈ zTB := zTB_mem 26 (by decide +kernel) (by decide +kernel)
theorem wz_669 : Cond.instanceMethod ({ cls := "AlpCommune$Word", name := "holdsFor", desc := "(LAlpCommune$House;I)Z" } : MethodName) ∈ zTB := zTB_mem 795 (by decide +kernel) (by decide +kernel)
theorem wz_670 : Cond.code yX8_holdsFor cX8_holdsFor 6 (some .boolean) ∈ zTB := zTB_mem 796 (by decide +kernel) (by decide +kernel)
theorem wz_n663 : Cond.methodLinkNest "AlpCommune$Words" (39 : Nat) ({ cls := "AlpCommune$Word", name := "stands", desc := "(III)Z" } : MethodName) "AlpCommune" ∈ zNest := zNest_mem 663 (by decide +kernel) (by decide +kernel)
theorem wz_p25 : Cond.selects yX8_stands.cls yX8_stands yX8_stands ∈ zTB := zTB_mem 25 (by decide +kernel) (by decide +kernel)
theorem wz_665 : Cond.instanceMethod ({ cls := "AlpCommune$Word", name := "stands", desc := "(III)Z" } : MethodName) ∈ zTB := zTB_mem 791 (by decide +kernel) (by decide +kernel)
theorem wz_666 : Cond.code yX8_stands cX8_stands 4 (some .boolean) ∈ zTB := zTB_mem 792 (by decide +kernel) (by decide +kernel)
theorem wz_132 : Cond.fieldLink "AlpCommune$Words" (47 : Nat) "AlpCommune$Words" "place" "I" ∈ zTB := zTB_mem 258 (by decide +kernel) (by decide +kernel)
theorem zf_X9_47 (C : zCx E cc RX9 nL ret Z h) {i : Nat} (hk : i < zN 11) (hd : decode cc pc = .ok (.getfield 47, 3)) (kk : zKO E nL Z QQ (pc + 3) L (.int (σ.1 11 i 4) :: st) σ o) : zKO E nL Z QQ pc L (.ref (zad Z 11 i) :: st) σ o := zr_get C 4 zin_X9 rfl (Nat.le_of_ble_eq_true rfl) rfl wz_132 hd hk rfl rfl kk
theorem zp_X9_47 (C : zCx E cc RX9 nL ret Z h) {i : Nat} {x : Int32} (hk : i < zN 11) (hd : decode cc pc = .ok (.putfield 47, 3)) (kk : zKO E nL Z QQ (pc + 3) L st (zwi σ 11 i 4 x) o) : zKO E nL Z QQ pc L (.int x :: .ref (zad Z 11 i) :: st) σ o :=
  zr_put C 4 zin_X9 rfl (Nat.le_of_ble_eq_true rfl) rfl tyX9_ok nmX9 rfl (ty := .int) (σ1 := zwi σ 11 i 4 x) (by decide +kernel) wz_132 hd hk rfl (Nat.le_of_ble_eq_true rfl) rfl rfl (fun a b q => zu_off _ _ _ q) (fun a b q => rfl) (by
    show zE Z 11 i (zu σ.1 11 i 4 x 11 i) _ = _
    rw [zu_at]
    rfl) kk
theorem wz_605 : Cond.methodLink "AlpCommune$Words" (111 : Nat) ({ cls := "java/lang/Math", name := "max", desc := "(II)I" } : MethodName) ∈ zTB := zTB_mem 731 (by decide +kernel) (by decide +kernel)
theorem wz_553 : Cond.methodLink "AlpCommune$Words" (63 : Nat) ({ cls := "AlpCommune$Words", name := "readName", desc := "(Ljava/lang/String;)I" } : MethodName) ∈ zTB := zTB_mem 679 (by decide +kernel) (by decide +kernel)
theorem wz_p15 : Cond.selects yX9_readName.cls yX9_readName yX9_readName ∈ zTB := zTB_mem 15 (by decide +kernel) (by decide +kernel)
theorem wz_555 : Cond.instanceMethod ({ cls := "AlpCommune$Words", name := "readName", desc := "(Ljava/lang/String;)I" } : MethodName) ∈ zTB := zTB_mem 681 (by decide +kernel) (by decide +kernel)
theorem wz_556 : Cond.code yX9_readName cX9_readName 8 (some .int) ∈ zTB := zTB_mem 682 (by decide +kernel) (by decide +kernel)
theorem wz_3 : Cond.initialized "AlpCommune$Words" ∈ zTB := zTB_mem 129 (by decide +kernel) (by decide +kernel)
theorem wz_608 : Cond.methodLink "AlpCommune$Words" (70 : Nat) ({ cls := "AlpCommune$Words", name := "readBlank", desc := "()Z" } : MethodName) ∈ zTB := zTB_mem 734 (by decide +kernel) (by decide +kernel)
theorem wz_p16 : Cond.selects yX9_readBlank.cls yX9_readBlank yX9_readBlank ∈ zTB := zTB_mem 16 (by decide +kernel) (by decide +kernel)
theorem wz_610 : Cond.instanceMethod ({ cls := "AlpCommune$Words", name := "readBlank", desc := "()Z" } : MethodName) ∈ zTB := zTB_mem 736 (by decide +kernel) (by decide +kernel)
theorem wz_611 : Cond.code yX9_readBlank cX9_readBlank 1 (some .boolean) ∈ zTB := zTB_mem 737 (by decide +kernel) (by decide +kernel)
theorem wz_n89 : Cond.fieldLinkNest "AlpCommune$Words" (100 : Nat) "AlpCommune$Word" "field" "[I" "AlpCommune" ∈ zNest := zNest_mem 89 (by decide +kernel) (by decide +kernel)
theorem zf_X9_100 (C : zCx E cc RX9 nL ret Z h) {i : Nat} (hk : i < zN 13) (hd : decode cc pc = .ok (.getfield 100, 3)) (kk : zKO E nL Z QQ (pc + 3) L (.ref (zad Z 14 i) :: st) σ o) : zKO E nL Z QQ pc L (.ref (zad Z 13 i) :: st) σ o := zr_getN C 7 zin_X8 rfl (Nat.le_of_ble_eq_true rfl) rfl wz_n89 hd hk rfl rfl kk
theorem wz_n91 : Cond.fieldLinkNest "AlpCommune$Words" (103 : Nat) "AlpCommune$Word" "sign" "[I" "AlpCommune" ∈ zNest := zNest_mem 91 (by decide +kernel) (by decide +kernel)
theorem zf_X9_103 (C : zCx E cc RX9 nL ret Z h) {i : Nat} (hk : i < zN 13) (hd : decode cc pc = .ok (.getfield 103, 3)) (kk : zKO E nL Z QQ (pc + 3) L (.ref (zad Z 15 i) :: st) σ o) : zKO E nL Z QQ pc L (.ref (zad Z 13 i) :: st) σ o := zr_getN C 8 zin_X8 rfl (Nat.le_of_ble_eq_true rfl) rfl wz_n91 hd hk rfl rfl kk
theorem wz_n93 : Cond.fieldLinkNest "AlpCommune$Words" (108 : Nat) "AlpCommune$Word" "than" "[I" "AlpCommune" ∈ zNest := zNest_mem 93 (by decide +kernel) (by decide +kernel)
theorem zf_X9_108 (C : zCx E cc RX9 nL ret Z h) {i : Nat} (hk : i < zN 13) (hd : decode cc pc = .ok (.getfield 108, 3)) (kk : zKO E nL Z QQ (pc + 3) L (.ref (zad Z 16 i) :: st) σ o) : zKO E nL Z QQ pc L (.ref (zad Z 13 i) :: st) σ o := zr_getN C 9 zin_X8 rfl (Nat.le_of_ble_eq_true rfl) rfl wz_n93 hd hk rfl rfl kk
theorem wz_612 : Cond.methodLink "AlpCommune$Words" (74 : Nat) ({ cls := "AlpCommune$Words", name := "readNumber", desc := "()I" } : MethodName) ∈ zTB := zTB_mem 738 (by decide +kernel) (by decide +kernel)
theorem wz_p17 : Cond.selects yX9_readNumber.cls yX9_readNumber yX9_readNumber ∈ zTB := zTB_mem 17 (by decide +kernel) (by decide +kernel)
theorem wz_614 : Cond.instanceMethod ({ cls := "AlpCommune$Words", name := "readNumber", desc := "()I" } : MethodName) ∈ zTB := zTB_mem 740 (by decide +kernel) (by decide +kernel)
theorem wz_615 : Cond.code yX9_readNumber cX9_readNumber 4 (some .int) ∈ zTB := zTB_mem 741 (by decide +kernel) (by decide +kernel)
theorem wz_n95 : Cond.fieldLinkNest "AlpCommune$Words" (95 : Nat) "AlpCommune$Word" "not" "[Z" "AlpCommune" ∈ zNest := zNest_mem 95 (by decide +kernel) (by decide +kernel)
theorem zf_X9_95 (C : zCx E cc RX9 nL ret Z h) {i : Nat} (hk : i < zN 13) (hd : decode cc pc = .ok (.getfield 95, 3)) (kk : zKO E nL Z QQ (pc + 3) L (.ref (zad Z 17 i) :: st) σ o) : zKO E nL Z QQ pc L (.ref (zad Z 13 i) :: st) σ o := zr_getN C 10 zin_X8 rfl (Nat.le_of_ble_eq_true rfl) rfl wz_n95 hd hk rfl rfl kk
theorem wz_n97 : Cond.fieldLinkNest "AlpCommune$Words" (83 : Nat) "AlpCommune$Word" "or" "[Z" "AlpCommune" ∈ zNest := zNest_mem 97 (by decide +kernel) (by decide +kernel)
theorem zf_X9_83 (C : zCx E cc RX9 nL ret Z h) {i : Nat} (hk : i < zN 13) (hd : decode cc pc = .ok (.getfield 83, 3)) (kk : zKO E nL Z QQ (pc + 3) L (.ref (zad Z 18 i) :: st) σ o) : zKO E nL Z QQ pc L (.ref (zad Z 13 i) :: st) σ o := zr_getN C 11 zin_X8 rfl (Nat.le_of_ble_eq_true rfl) rfl wz_n97 hd hk rfl rfl kk
theorem wz_n87 : Cond.fieldLinkNest "AlpCommune$Words" (54 : Nat) "AlpCommune$Word" "tests" "I" "AlpCommune" ∈ zNest := zNest_mem 87 (by decide +kernel) (by decide +kernel)
theorem zp_X9_54 (C : zCx E cc RX9 nL ret Z h) {i : Nat} {x : Int32} (hk : i < zN 13) (hd : decode cc pc = .ok (.putfield 54, 3)) (kk : zKO E nL Z QQ (pc + 3) L st (zwi σ 13 i 6 x) o) : zKO E nL Z QQ pc L (.int x :: .ref (zad Z 13 i) :: st) σ o :=
  zr_putN C 6 zin_X8 rfl (Nat.le_of_ble_eq_true rfl) rfl tyX8_ok nmX8 rfl (ty := .int) (σ1 := zwi σ 13 i 6 x) (by decide +kernel) wz_n87 hd hk rfl (Nat.le_of_ble_eq_true rfl) rfl rfl (fun a b q => zu_off _ _ _ q) (fun a b q => rfl) (by
    show zE Z 13 i (zu σ.1 13 i 6 x 13 i) _ = _
    rw [zu_at]
    rfl) kk
theorem wz_621 : Cond.methodLink "AlpCommune$Words" (87 : Nat) ({ cls := "AlpCommune$Words", name := "readTest", desc := "(LAlpCommune$Word;I)Z" } : MethodName) ∈ zTB := zTB_mem 747 (by decide +kernel) (by decide +kernel)
theorem wz_p19 : Cond.selects yX9_readTest.cls yX9_readTest yX9_readTest ∈ zTB := zTB_mem 19 (by decide +kernel) (by decide +kernel)
theorem wz_623 : Cond.instanceMethod ({ cls := "AlpCommune$Words", name := "readTest", desc := "(LAlpCommune$Word;I)Z" } : MethodName) ∈ zTB := zTB_mem 749 (by decide +kernel) (by decide +kernel)
theorem wz_624 : Cond.code yX9_readTest cX9_readTest 4 (some .boolean) ∈ zTB := zTB_mem 750 (by decide +kernel) (by decide +kernel)
theorem wz_n85 : Cond.fieldLinkNest "AlpCommune$Words" (57 : Nat) "AlpCommune$Word" "unless" "Z" "AlpCommune" ∈ zNest := zNest_mem 85 (by decide +kernel) (by decide +kernel)
theorem zp_X9_57 (C : zCx E cc RX9 nL ret Z h) {i : Nat} {x : Int32} (hk : i < zN 13) (hd : decode cc pc = .ok (.putfield 57, 3)) (kk : zKO E nL Z QQ (pc + 3) L st (zwi σ 13 i 5 x) o) : zKO E nL Z QQ pc L (.int x :: .ref (zad Z 13 i) :: st) σ (zg (zbo x) o) :=
  zr_g fun hb => zr_putN C 5 zin_X8 rfl (Nat.le_of_ble_eq_true rfl) rfl tyX8_ok nmX8 rfl (ty := .boolean) (σ1 := zwi σ 13 i 5 x) (by decide +kernel) wz_n85 hd hk rfl (Nat.le_of_ble_eq_true rfl) (zbo_nar hb) (zbo_fit hb) (fun a b q => zu_off _ _ _ q) (fun a b q => rfl) (by
    show zE Z 13 i (zu σ.1 13 i 5 x 13 i) _ = _
    rw [zu_at]
    rfl) kk
theorem wz_617 : Cond.methodLink "AlpCommune$Words" (80 : Nat) ({ cls := "AlpCommune$Words", name := "readTests", desc := "(LAlpCommune$Word;)Z" } : MethodName) ∈ zTB := zTB_mem 743 (by decide +kernel) (by decide +kernel)
theorem wz_p18 : Cond.selects yX9_readTests.cls yX9_readTests yX9_readTests ∈ zTB := zTB_mem 18 (by decide +kernel) (by decide +kernel)
theorem wz_619 : Cond.instanceMethod ({ cls := "AlpCommune$Words", name := "readTests", desc := "(LAlpCommune$Word;)Z" } : MethodName) ∈ zTB := zTB_mem 745 (by decide +kernel) (by decide +kernel)
theorem wz_620 : Cond.code yX9_readTests cX9_readTests 5 (some .boolean) ∈ zTB := zTB_mem 746 (by decide +kernel) (by decide +kernel)
theorem wz_n76 : Cond.fieldLinkNest "AlpCommune$Words" (67 : Nat) "AlpCommune$Word" "key" "I" "AlpCommune" ∈ zNest := zNest_mem 76 (by decide +kernel) (by decide +kernel)
theorem zp_X9_67 (C : zCx E cc RX9 nL ret Z h) {i : Nat} {x : Int32} (hk : i < zN 13) (hd : decode cc pc = .ok (.putfield 67, 3)) (kk : zKO E nL Z QQ (pc + 3) L st (zwi σ 13 i 0 x) o) : zKO E nL Z QQ pc L (.int x :: .ref (zad Z 13 i) :: st) σ o :=
  zr_putN C 0 zin_X8 rfl (Nat.le_of_ble_eq_true rfl) rfl tyX8_ok nmX8 rfl (ty := .int) (σ1 := zwi σ 13 i 0 x) (by decide +kernel) wz_n76 hd hk rfl (Nat.le_of_ble_eq_true rfl) rfl rfl (fun a b q => zu_off _ _ _ q) (fun a b q => rfl) (by
    show zE Z 13 i (zu σ.1 13 i 0 x 13 i) _ = _
    rw [zu_at]
    rfl) kk
theorem zf_X9_67 (C : zCx E cc RX9 nL ret Z h) {i : Nat} (hk : i < zN 13) (hd : decode cc pc = .ok (.getfield 67, 3)) (kk : zKO E nL Z QQ (pc + 3) L (.int (σ.1 13 i 0) :: st) σ o) : zKO E nL Z QQ pc L (.ref (zad Z 13 i) :: st) σ o := zr_getN C 0 zin_X8 rfl (Nat.le_of_ble_eq_true rfl) rfl wz_n76 hd hk rfl rfl kk
theorem zp_X9_36 (C : zCx E cc RX9 nL ret Z h) {i : Nat} {x : Int32} (hk : i < zN 13) (hd : decode cc pc = .ok (.putfield 36, 3)) (kk : zKO E nL Z QQ (pc + 3) L st (zwi σ 13 i 1 x) o) : zKO E nL Z QQ pc L (.int x :: .ref (zad Z 13 i) :: st) σ o :=
  zr_putN C 1 zin_X8 rfl (Nat.le_of_ble_eq_true rfl) rfl tyX8_ok nmX8 rfl (ty := .int) (σ1 := zwi σ 13 i 1 x) (by decide +kernel) wz_n77 hd hk rfl (Nat.le_of_ble_eq_true rfl) rfl rfl (fun a b q => zu_off _ _ _ q) (fun a b q => rfl) (by
    show zE Z 13 i (zu σ.1 13 i 1 x 13 i) _ = _
    rw [zu_at]
    rfl) kk
theorem wz_548 : Cond.methodLink "AlpCommune$Words" (50 : Nat) ({ cls := "AlpCommune$Words", name := "readWord", desc := "(LAlpCommune$Word;)Z" } : MethodName) ∈ zTB := zTB_mem 674 (by decide +kernel) (by decide +kernel)
theorem wz_p14 : Cond.selects yX9_readWord.cls yX9_readWord yX9_readWord ∈ zTB := zTB_mem 14 (by decide +kernel) (by decide +kernel)
theorem wz_550 : Cond.instanceMethod ({ cls := "AlpCommune$Words", name := "readWord", desc := "(LAlpCommune$Word;)Z" } : MethodName) ∈ zTB := zTB_mem 676 (by decide +kernel) (by decide +kernel)
theorem wz_551 : Cond.code yX9_readWord cX9_readWord 3 (some .boolean) ∈ zTB := zTB_mem 677 (by decide +kernel) (by decide +kernel)
theorem wz_373 : Cond.fieldLink "AlpCommune" (85 : Nat) "AlpCommune" "houseCount" "I" ∈ zTB := zTB_mem 499 (by decide +kernel) (by decide +kernel)
set_option maxRecDepth 100000 in
theorem zin_X10 : ∀ w ∈ u_ws RX10 TX10 18, w ∈ zTB := by decide +kernel
theorem zf_X10_85 (C : zCx E cc RX10 nL ret Z h) {i : Nat} (hk : i < zN 0) (hd : decode cc pc = .ok (.getfield 85, 3)) (kk : zKO E nL Z QQ (pc + 3) L (.int (σ.1 0 i 1) :: st) σ o) : zKO E nL Z QQ pc L (.ref (zad Z 0 i) :: st) σ o := zr_get C 1 zin_X10 rfl (Nat.le_of_ble_eq_true rfl) rfl wz_373 hd hk rfl rfl kk
theorem wz_372 : Cond.fieldLink "AlpCommune" (11 : Nat) "AlpCommune" "houses" "[LAlpCommune$House;" ∈ zTB := zTB_mem 498 (by decide +kernel) (by decide +kernel)
theorem zf_X10_11 (C : zCx E cc RX10 nL ret Z h) {i : Nat} (hk : i < zN 0) (hd : decode cc pc = .ok (.getfield 11, 3)) (kk : zKO E nL Z QQ (pc + 3) L (.ref (zad Z 1 0) :: st) σ o) : zKO E nL Z QQ pc L (.ref (zad Z 0 i) :: st) σ o := zr_get C 0 zin_X10 rfl (Nat.le_of_ble_eq_true rfl) rfl wz_372 hd hk rfl rfl kk
theorem wz_n309 : Cond.fieldLinkNest "AlpCommune" (88 : Nat) "AlpCommune$House" "has" "[I" "AlpCommune" ∈ zNest := zNest_mem 309 (by decide +kernel) (by decide +kernel)
theorem zf_X10_88 (C : zCx E cc RX10 nL ret Z h) {i : Nat} (hk : i < zN 2) (hd : decode cc pc = .ok (.getfield 88, 3)) (kk : zKO E nL Z QQ (pc + 3) L (.ref (zad Z 3 i) :: st) σ o) : zKO E nL Z QQ pc L (.ref (zad Z 2 i) :: st) σ o := zr_getN C 0 zin_X2 rfl (Nat.le_of_ble_eq_true rfl) rfl wz_n309 hd hk rfl rfl kk
theorem zp_X10_85 (C : zCx E cc RX10 nL ret Z h) {i : Nat} {x : Int32} (hk : i < zN 0) (hd : decode cc pc = .ok (.putfield 85, 3)) (kk : zKO E nL Z QQ (pc + 3) L st (zwi σ 0 i 1 x) o) : zKO E nL Z QQ pc L (.int x :: .ref (zad Z 0 i) :: st) σ o :=
  zr_put C 1 zin_X10 rfl (Nat.le_of_ble_eq_true rfl) rfl tyX10_ok nmX10 rfl (ty := .int) (σ1 := zwi σ 0 i 1 x) (by decide +kernel) wz_373 hd hk rfl (Nat.le_of_ble_eq_true rfl) rfl rfl (fun a b q => zu_off _ _ _ q) (fun a b q => rfl) (by
    show zE Z 0 i (zu σ.1 0 i 1 x 0 i) _ = _
    rw [zu_at]
    rfl) kk
theorem wz_n431 : Cond.methodLinkNest "AlpCommune" (81 : Nat) ({ cls := "AlpCommune$House", name := "fits", desc := "(II)Z" } : MethodName) "AlpCommune" ∈ zNest := zNest_mem 431 (by decide +kernel) (by decide +kernel)
theorem wz_432 : Cond.static ({ cls := "AlpCommune$House", name := "fits", desc := "(II)Z" } : MethodName) ∈ zTB := zTB_mem 558 (by decide +kernel) (by decide +kernel)
theorem wz_433 : Cond.code yX2_fits cX2_fits 2 (some .boolean) ∈ zTB := zTB_mem 559 (by decide +kernel) (by decide +kernel)
theorem wz_n446 : Cond.methodLinkNest "AlpCommune" (95 : Nat) ({ cls := "AlpCommune$House", name := "allUp", desc := "()I" } : MethodName) "AlpCommune" ∈ zNest := zNest_mem 446 (by decide +kernel) (by decide +kernel)
theorem wz_442 : Cond.methodLink "AlpCommune" (91 : Nat) ({ cls := "AlpCommune", name := "isHouse", desc := "(I)Z" } : MethodName) ∈ zTB := zTB_mem 568 (by decide +kernel) (by decide +kernel)
theorem wz_p0 : Cond.selects yX10_isHouse.cls yX10_isHouse yX10_isHouse ∈ zTB := zTB_mem 0 (by decide +kernel) (by decide +kernel)
theorem wz_444 : Cond.instanceMethod ({ cls := "AlpCommune", name := "isHouse", desc := "(I)Z" } : MethodName) ∈ zTB := zTB_mem 570 (by decide +kernel) (by decide +kernel)
theorem wz_445 : Cond.code yX10_isHouse cX10_isHouse 2 (some .boolean) ∈ zTB := zTB_mem 571 (by decide +kernel) (by decide +kernel)
theorem wz_1 : Cond.initialized "AlpCommune" ∈ zTB := zTB_mem 127 (by decide +kernel) (by decide +kernel)
theorem wz_n313 : Cond.fieldLinkNest "AlpCommune" (99 : Nat) "AlpCommune$House" "debt" "I" "AlpCommune" ∈ zNest := zNest_mem 313 (by decide +kernel) (by decide +kernel)
theorem zf_X10_99 (C : zCx E cc RX10 nL ret Z h) {i : Nat} (hk : i < zN 2) (hd : decode cc pc = .ok (.getfield 99, 3)) (kk : zKO E nL Z QQ (pc + 3) L (.int (σ.1 2 i 2) :: st) σ o) : zKO E nL Z QQ pc L (.ref (zad Z 2 i) :: st) σ o := zr_getN C 2 zin_X2 rfl (Nat.le_of_ble_eq_true rfl) rfl wz_n313 hd hk rfl rfl kk
theorem wz_n454 : Cond.methodLinkNest "AlpCommune" (102 : Nat) ({ cls := "AlpCommune$House", name := "atHome", desc := "()I" } : MethodName) "AlpCommune" ∈ zNest := zNest_mem 454 (by decide +kernel) (by decide +kernel)
theorem wz_n315 : Cond.fieldLinkNest "AlpCommune" (105 : Nat) "AlpCommune$House" "hungry" "I" "AlpCommune" ∈ zNest := zNest_mem 315 (by decide +kernel) (by decide +kernel)
theorem zf_X10_105 (C : zCx E cc RX10 nL ret Z h) {i : Nat} (hk : i < zN 2) (hd : decode cc pc = .ok (.getfield 105, 3)) (kk : zKO E nL Z QQ (pc + 3) L (.int (σ.1 2 i 3) :: st) σ o) : zKO E nL Z QQ pc L (.ref (zad Z 2 i) :: st) σ o := zr_getN C 3 zin_X2 rfl (Nat.le_of_ble_eq_true rfl) rfl wz_n315 hd hk rfl rfl kk
theorem wz_n317 : Cond.fieldLinkNest "AlpCommune" (108 : Nat) "AlpCommune$House" "milk" "I" "AlpCommune" ∈ zNest := zNest_mem 317 (by decide +kernel) (by decide +kernel)
theorem zf_X10_108 (C : zCx E cc RX10 nL ret Z h) {i : Nat} (hk : i < zN 2) (hd : decode cc pc = .ok (.getfield 108, 3)) (kk : zKO E nL Z QQ (pc + 3) L (.int (σ.1 2 i 4) :: st) σ o) : zKO E nL Z QQ pc L (.ref (zad Z 2 i) :: st) σ o := zr_getN C 4 zin_X2 rfl (Nat.le_of_ble_eq_true rfl) rfl wz_n317 hd hk rfl rfl kk
theorem wz_n318 : Cond.fieldLinkNest "AlpCommune" (111 : Nat) "AlpCommune$House" "sum" "I" "AlpCommune" ∈ zNest := zNest_mem 318 (by decide +kernel) (by decide +kernel)
theorem zf_X10_111 (C : zCx E cc RX10 nL ret Z h) {i : Nat} (hk : i < zN 2) (hd : decode cc pc = .ok (.getfield 111, 3)) (kk : zKO E nL Z QQ (pc + 3) L (.int (σ.1 2 i 5) :: st) σ o) : zKO E nL Z QQ pc L (.ref (zad Z 2 i) :: st) σ o := zr_getN C 5 zin_X2 rfl (Nat.le_of_ble_eq_true rfl) rfl wz_n318 hd hk rfl rfl kk
theorem wz_n320 : Cond.fieldLinkNest "AlpCommune" (114 : Nat) "AlpCommune$House" "counted" "I" "AlpCommune" ∈ zNest := zNest_mem 320 (by decide +kernel) (by decide +kernel)
theorem zf_X10_114 (C : zCx E cc RX10 nL ret Z h) {i : Nat} (hk : i < zN 2) (hd : decode cc pc = .ok (.getfield 114, 3)) (kk : zKO E nL Z QQ (pc + 3) L (.int (σ.1 2 i 6) :: st) σ o) : zKO E nL Z QQ pc L (.ref (zad Z 2 i) :: st) σ o := zr_getN C 6 zin_X2 rfl (Nat.le_of_ble_eq_true rfl) rfl wz_n320 hd hk rfl rfl kk
theorem wz_n321 : Cond.fieldLinkNest "AlpCommune" (117 : Nat) "AlpCommune$House" "wheels" "I" "AlpCommune" ∈ zNest := zNest_mem 321 (by decide +kernel) (by decide +kernel)
theorem zf_X10_117 (C : zCx E cc RX10 nL ret Z h) {i : Nat} (hk : i < zN 2) (hd : decode cc pc = .ok (.getfield 117, 3)) (kk : zKO E nL Z QQ (pc + 3) L (.int (σ.1 2 i 7) :: st) σ o) : zKO E nL Z QQ pc L (.ref (zad Z 2 i) :: st) σ o := zr_getN C 7 zin_X2 rfl (Nat.le_of_ble_eq_true rfl) rfl wz_n321 hd hk rfl rfl kk
theorem wz_n327 : Cond.fieldLinkNest "AlpCommune" (120 : Nat) "AlpCommune$House" "logs" "I" "AlpCommune" ∈ zNest := zNest_mem 327 (by decide +kernel) (by decide +kernel)
theorem zf_X10_120 (C : zCx E cc RX10 nL ret Z h) {i : Nat} (hk : i < zN 2) (hd : decode cc pc = .ok (.getfield 120, 3)) (kk : zKO E nL Z QQ (pc + 3) L (.int (σ.1 2 i 10) :: st) σ o) : zKO E nL Z QQ pc L (.ref (zad Z 2 i) :: st) σ o := zr_getN C 10 zin_X2 rfl (Nat.le_of_ble_eq_true rfl) rfl wz_n327 hd hk rfl rfl kk
theorem wz_n328 : Cond.fieldLinkNest "AlpCommune" (123 : Nat) "AlpCommune$House" "done" "I" "AlpCommune" ∈ zNest := zNest_mem 328 (by decide +kernel) (by decide +kernel)
theorem zf_X10_123 (C : zCx E cc RX10 nL ret Z h) {i : Nat} (hk : i < zN 2) (hd : decode cc pc = .ok (.getfield 123, 3)) (kk : zKO E nL Z QQ (pc + 3) L (.int (σ.1 2 i 11) :: st) σ o) : zKO E nL Z QQ pc L (.ref (zad Z 2 i) :: st) σ o := zr_getN C 11 zin_X2 rfl (Nat.le_of_ble_eq_true rfl) rfl wz_n328 hd hk rfl rfl kk
theorem zp_X10_114 (C : zCx E cc RX10 nL ret Z h) {i : Nat} {x : Int32} (hk : i < zN 2) (hd : decode cc pc = .ok (.putfield 114, 3)) (kk : zKO E nL Z QQ (pc + 3) L st (zwi σ 2 i 6 x) o) : zKO E nL Z QQ pc L (.int x :: .ref (zad Z 2 i) :: st) σ o :=
  zr_putN C 6 zin_X2 rfl (Nat.le_of_ble_eq_true rfl) rfl tyX2_ok nmX2 rfl (ty := .int) (σ1 := zwi σ 2 i 6 x) (by decide +kernel) wz_n320 hd hk rfl (Nat.le_of_ble_eq_true rfl) rfl rfl (fun a b q => zu_off _ _ _ q) (fun a b q => rfl) (by
    show zE Z 2 i (zu σ.1 2 i 6 x 2 i) _ = _
    rw [zu_at]
    rfl) kk
theorem wz_374 : Cond.fieldLink "AlpCommune" (18 : Nat) "AlpCommune" "rights" "LAlpCommune$Rights;" ∈ zTB := zTB_mem 500 (by decide +kernel) (by decide +kernel)
theorem zf_X10_18 (C : zCx E cc RX10 nL ret Z h) {i : Nat} (hk : i < zN 0) (hd : decode cc pc = .ok (.getfield 18, 3)) (kk : zKO E nL Z QQ (pc + 3) L (.ref (zad Z 5 0) :: st) σ o) : zKO E nL Z QQ pc L (.ref (zad Z 0 i) :: st) σ o := zr_get C 2 zin_X10 rfl (Nat.le_of_ble_eq_true rfl) rfl wz_374 hd hk rfl rfl kk
theorem wz_n47 : Cond.fieldLinkNest "AlpCommune" (126 : Nat) "AlpCommune$Rights" "count" "I" "AlpCommune" ∈ zNest := zNest_mem 47 (by decide +kernel) (by decide +kernel)
theorem zf_X10_126 (C : zCx E cc RX10 nL ret Z h) {i : Nat} (hk : i < zN 5) (hd : decode cc pc = .ok (.getfield 126, 3)) (kk : zKO E nL Z QQ (pc + 3) L (.int (σ.1 5 i 5) :: st) σ o) : zKO E nL Z QQ pc L (.ref (zad Z 5 i) :: st) σ o := zr_getN C 5 zin_X3 rfl (Nat.le_of_ble_eq_true rfl) rfl wz_n47 hd hk rfl rfl kk
theorem wz_n467 : Cond.methodLinkNest "AlpCommune" (129 : Nat) ({ cls := "AlpCommune$Rights", name := "enter", desc := "(III)I" } : MethodName) "AlpCommune" ∈ zNest := zNest_mem 467 (by decide +kernel) (by decide +kernel)
theorem wz_p3 : Cond.selects yX3_enter.cls yX3_enter yX3_enter ∈ zTB := zTB_mem 3 (by decide +kernel) (by decide +kernel)
theorem wz_469 : Cond.instanceMethod ({ cls := "AlpCommune$Rights", name := "enter", desc := "(III)I" } : MethodName) ∈ zTB := zTB_mem 595 (by decide +kernel) (by decide +kernel)
theorem wz_470 : Cond.code yX3_enter cX3_enter 4 (some .int) ∈ zTB := zTB_mem 596 (by decide +kernel) (by decide +kernel)
theorem wz_n39 : Cond.fieldLinkNest "AlpCommune" (151 : Nat) "AlpCommune$Rights" "owner" "[I" "AlpCommune" ∈ zNest := zNest_mem 39 (by decide +kernel) (by decide +kernel)
theorem zf_X10_151 (C : zCx E cc RX10 nL ret Z h) {i : Nat} (hk : i < zN 5) (hd : decode cc pc = .ok (.getfield 151, 3)) (kk : zKO E nL Z QQ (pc + 3) L (.ref (zad Z 7 0) :: st) σ o) : zKO E nL Z QQ pc L (.ref (zad Z 5 i) :: st) σ o := zr_getN C 1 zin_X3 rfl (Nat.le_of_ble_eq_true rfl) rfl wz_n39 hd hk rfl rfl kk
theorem wz_n41 : Cond.fieldLinkNest "AlpCommune" (135 : Nat) "AlpCommune$Rights" "parts" "[I" "AlpCommune" ∈ zNest := zNest_mem 41 (by decide +kernel) (by decide +kernel)
theorem zf_X10_135 (C : zCx E cc RX10 nL ret Z h) {i : Nat} (hk : i < zN 5) (hd : decode cc pc = .ok (.getfield 135, 3)) (kk : zKO E nL Z QQ (pc + 3) L (.ref (zad Z 8 0) :: st) σ o) : zKO E nL Z QQ pc L (.ref (zad Z 5 i) :: st) σ o := zr_getN C 2 zin_X3 rfl (Nat.le_of_ble_eq_true rfl) rfl wz_n41 hd hk rfl rfl kk
theorem wz_383 : Cond.fieldLink "AlpCommune" (142 : Nat) "AlpCommune" "today" "I" ∈ zTB := zTB_mem 509 (by decide +kernel) (by decide +kernel)
theorem zf_X10_142 (C : zCx E cc RX10 nL ret Z h) {i : Nat} (hk : i < zN 0) (hd : decode cc pc = .ok (.getfield 142, 3)) (kk : zKO E nL Z QQ (pc + 3) L (.int (σ.1 0 i 11) :: st) σ o) : zKO E nL Z QQ pc L (.ref (zad Z 0 i) :: st) σ o := zr_get C 11 zin_X10 rfl (Nat.le_of_ble_eq_true rfl) rfl wz_383 hd hk rfl rfl kk
theorem wz_n37 : Cond.fieldLinkNest "AlpCommune" (148 : Nat) "AlpCommune$Rights" "kind" "[I" "AlpCommune" ∈ zNest := zNest_mem 37 (by decide +kernel) (by decide +kernel)
theorem zf_X10_148 (C : zCx E cc RX10 nL ret Z h) {i : Nat} (hk : i < zN 5) (hd : decode cc pc = .ok (.getfield 148, 3)) (kk : zKO E nL Z QQ (pc + 3) L (.ref (zad Z 6 0) :: st) σ o) : zKO E nL Z QQ pc L (.ref (zad Z 5 i) :: st) σ o := zr_getN C 0 zin_X3 rfl (Nat.le_of_ble_eq_true rfl) rfl wz_n37 hd hk rfl rfl kk
theorem wz_n485 : Cond.methodLinkNest "AlpCommune" (145 : Nat) ({ cls := "AlpCommune$Rights", name := "isLent", desc := "(II)Z" } : MethodName) "AlpCommune" ∈ zNest := zNest_mem 485 (by decide +kernel) (by decide +kernel)
theorem wz_n479 : Cond.methodLinkNest "AlpCommune" (138 : Nat) ({ cls := "AlpCommune$Rights", name := "commonOf", desc := "(I)I" } : MethodName) "AlpCommune" ∈ zNest := zNest_mem 479 (by decide +kernel) (by decide +kernel)
theorem wz_n475 : Cond.methodLinkNest "AlpCommune" (133 : Nat) ({ cls := "AlpCommune$Rights", name := "has", desc := "(I)Z" } : MethodName) "AlpCommune" ∈ zNest := zNest_mem 475 (by decide +kernel) (by decide +kernel)
theorem wz_p4 : Cond.selects yX3_has.cls yX3_has yX3_has ∈ zTB := zTB_mem 4 (by decide +kernel) (by decide +kernel)
theorem wz_477 : Cond.instanceMethod ({ cls := "AlpCommune$Rights", name := "has", desc := "(I)Z" } : MethodName) ∈ zTB := zTB_mem 603 (by decide +kernel) (by decide +kernel)
theorem wz_478 : Cond.code yX3_has cX3_has 2 (some .boolean) ∈ zTB := zTB_mem 604 (by decide +kernel) (by decide +kernel)
theorem wz_n493 : Cond.methodLinkNest "AlpCommune" (154 : Nat) ({ cls := "AlpCommune$Rights", name := "joinable", desc := "(III)Z" } : MethodName) "AlpCommune" ∈ zNest := zNest_mem 493 (by decide +kernel) (by decide +kernel)
theorem wz_p7 : Cond.selects yX3_joinable.cls yX3_joinable yX3_joinable ∈ zTB := zTB_mem 7 (by decide +kernel) (by decide +kernel)
theorem wz_495 : Cond.instanceMethod ({ cls := "AlpCommune$Rights", name := "joinable", desc := "(III)Z" } : MethodName) ∈ zTB := zTB_mem 621 (by decide +kernel) (by decide +kernel)
theorem wz_496 : Cond.code yX3_joinable cX3_joinable 4 (some .boolean) ∈ zTB := zTB_mem 622 (by decide +kernel) (by decide +kernel)
theorem wz_n43 : Cond.fieldLinkNest "AlpCommune" (158 : Nat) "AlpCommune$Rights" "lentTo" "[I" "AlpCommune" ∈ zNest := zNest_mem 43 (by decide +kernel) (by decide +kernel)
theorem zf_X10_158 (C : zCx E cc RX10 nL ret Z h) {i : Nat} (hk : i < zN 5) (hd : decode cc pc = .ok (.getfield 158, 3)) (kk : zKO E nL Z QQ (pc + 3) L (.ref (zad Z 9 0) :: st) σ o) : zKO E nL Z QQ pc L (.ref (zad Z 5 i) :: st) σ o := zr_getN C 3 zin_X3 rfl (Nat.le_of_ble_eq_true rfl) rfl wz_n43 hd hk rfl rfl kk
theorem wz_n45 : Cond.fieldLinkNest "AlpCommune" (161 : Nat) "AlpCommune$Rights" "lentTill" "[I" "AlpCommune" ∈ zNest := zNest_mem 45 (by decide +kernel) (by decide +kernel)
theorem zf_X10_161 (C : zCx E cc RX10 nL ret Z h) {i : Nat} (hk : i < zN 5) (hd : decode cc pc = .ok (.getfield 161, 3)) (kk : zKO E nL Z QQ (pc + 3) L (.ref (zad Z 10 0) :: st) σ o) : zKO E nL Z QQ pc L (.ref (zad Z 5 i) :: st) σ o := zr_getN C 4 zin_X3 rfl (Nat.le_of_ble_eq_true rfl) rfl wz_n45 hd hk rfl rfl kk
theorem wz_n511 : Cond.methodLinkNest "AlpCommune" (164 : Nat) ({ cls := "AlpCommune$Rights", name := "holder", desc := "(II)I" } : MethodName) "AlpCommune" ∈ zNest := zNest_mem 511 (by decide +kernel) (by decide +kernel)
theorem wz_n523 : Cond.methodLinkNest "AlpCommune" (171 : Nat) ({ cls := "AlpCommune$Rights", name := "held", desc := "(III)I" } : MethodName) "AlpCommune" ∈ zNest := zNest_mem 523 (by decide +kernel) (by decide +kernel)
theorem wz_p10 : Cond.selects yX3_held.cls yX3_held yX3_held ∈ zTB := zTB_mem 10 (by decide +kernel) (by decide +kernel)
theorem wz_525 : Cond.instanceMethod ({ cls := "AlpCommune$Rights", name := "held", desc := "(III)I" } : MethodName) ∈ zTB := zTB_mem 651 (by decide +kernel) (by decide +kernel)
theorem wz_526 : Cond.code yX3_held cX3_held 6 (some .int) ∈ zTB := zTB_mem 652 (by decide +kernel) (by decide +kernel)
theorem wz_n519 : Cond.methodLinkNest "AlpCommune" (168 : Nat) ({ cls := "AlpCommune$Rights", name := "whole", desc := "(I)I" } : MethodName) "AlpCommune" ∈ zNest := zNest_mem 519 (by decide +kernel) (by decide +kernel)
theorem wz_375 : Cond.fieldLink "AlpCommune" (25 : Nat) "AlpCommune" "words" "LAlpCommune$Words;" ∈ zTB := zTB_mem 501 (by decide +kernel) (by decide +kernel)
theorem zf_X10_25 (C : zCx E cc RX10 nL ret Z h) {i : Nat} (hk : i < zN 0) (hd : decode cc pc = .ok (.getfield 25, 3)) (kk : zKO E nL Z QQ (pc + 3) L (.ref (zad Z 11 0) :: st) σ o) : zKO E nL Z QQ pc L (.ref (zad Z 0 i) :: st) σ o := zr_get C 3 zin_X10 rfl (Nat.le_of_ble_eq_true rfl) rfl wz_375 hd hk rfl rfl kk
theorem wz_n131 : Cond.fieldLinkNest "AlpCommune" (174 : Nat) "AlpCommune$Words" "length" "I" "AlpCommune" ∈ zNest := zNest_mem 131 (by decide +kernel) (by decide +kernel)
theorem zf_X10_174 (C : zCx E cc RX10 nL ret Z h) {i : Nat} (hk : i < zN 11) (hd : decode cc pc = .ok (.getfield 174, 3)) (kk : zKO E nL Z QQ (pc + 3) L (.int (σ.1 11 i 3) :: st) σ o) : zKO E nL Z QQ pc L (.ref (zad Z 11 i) :: st) σ o := zr_getN C 3 zin_X9 rfl (Nat.le_of_ble_eq_true rfl) rfl wz_n131 hd hk rfl rfl kk
theorem wz_n532 : Cond.methodLinkNest "AlpCommune" (177 : Nat) ({ cls := "AlpCommune$Words", name := "append", desc := "(B)V" } : MethodName) "AlpCommune" ∈ zNest := zNest_mem 532 (by decide +kernel) (by decide +kernel)
theorem wz_p11 : Cond.selects yX9_append.cls yX9_append yX9_append ∈ zTB := zTB_mem 11 (by decide +kernel) (by decide +kernel)
theorem wz_534 : Cond.instanceMethod ({ cls := "AlpCommune$Words", name := "append", desc := "(B)V" } : MethodName) ∈ zTB := zTB_mem 660 (by decide +kernel) (by decide +kernel)
theorem wz_535 : Cond.code yX9_append cX9_append 2 none ∈ zTB := zTB_mem 661 (by decide +kernel) (by decide +kernel)
theorem wz_636 : Cond.constant "java/lang/Integer" (265 : Nat) (1431655765 : Int32) ∈ zTB := zTB_mem 762 (by decide +kernel) (by decide +kernel)
theorem wz_637 : Cond.constant "java/lang/Integer" (266 : Nat) (858993459 : Int32) ∈ zTB := zTB_mem 763 (by decide +kernel) (by decide +kernel)
theorem wz_638 : Cond.constant "java/lang/Integer" (267 : Nat) (252645135 : Int32) ∈ zTB := zTB_mem 764 (by decide +kernel) (by decide +kernel)
theorem wz_633 : Cond.methodLink "AlpCommune" (193 : Nat) ({ cls := "java/lang/Integer", name := "bitCount", desc := "(I)I" } : MethodName) ∈ zTB := zTB_mem 759 (by decide +kernel) (by decide +kernel)
theorem wz_634 : Cond.static ({ cls := "java/lang/Integer", name := "bitCount", desc := "(I)I" } : MethodName) ∈ zTB := zTB_mem 760 (by decide +kernel) (by decide +kernel)
theorem wz_635 : Cond.code yJ6_bitCount_0f7a4 cJ6_bitCount_0f7a4 1 (some .int) ∈ zTB := zTB_mem 761 (by decide +kernel) (by decide +kernel)
theorem wz_18 : Cond.initialized "java/lang/Integer" ∈ zTB := zTB_mem 144 (by decide +kernel) (by decide +kernel)
theorem wz_n128 : Cond.fieldLinkNest "AlpCommune" (184 : Nat) "AlpCommune$Words" "count" "I" "AlpCommune" ∈ zNest := zNest_mem 128 (by decide +kernel) (by decide +kernel)
theorem zf_X10_184 (C : zCx E cc RX10 nL ret Z h) {i : Nat} (hk : i < zN 11) (hd : decode cc pc = .ok (.getfield 184, 3)) (kk : zKO E nL Z QQ (pc + 3) L (.int (σ.1 11 i 1) :: st) σ o) : zKO E nL Z QQ pc L (.ref (zad Z 11 i) :: st) σ o := zr_getN C 1 zin_X9 rfl (Nat.le_of_ble_eq_true rfl) rfl wz_n128 hd hk rfl rfl kk
theorem zp_X10_174 (C : zCx E cc RX10 nL ret Z h) {i : Nat} {x : Int32} (hk : i < zN 11) (hd : decode cc pc = .ok (.putfield 174, 3)) (kk : zKO E nL Z QQ (pc + 3) L st (zwi σ 11 i 3 x) o) : zKO E nL Z QQ pc L (.int x :: .ref (zad Z 11 i) :: st) σ o :=
  zr_putN C 3 zin_X9 rfl (Nat.le_of_ble_eq_true rfl) rfl tyX9_ok nmX9 rfl (ty := .int) (σ1 := zwi σ 11 i 3 x) (by decide +kernel) wz_n131 hd hk rfl (Nat.le_of_ble_eq_true rfl) rfl rfl (fun a b q => zu_off _ _ _ q) (fun a b q => rfl) (by
    show zE Z 11 i (zu σ.1 11 i 3 x 11 i) _ = _
    rw [zu_at]
    rfl) kk
theorem wz_n639 : Cond.methodLinkNest "AlpCommune" (191 : Nat) ({ cls := "AlpCommune$Words", name := "enter", desc := "(I)I" } : MethodName) "AlpCommune" ∈ zNest := zNest_mem 639 (by decide +kernel) (by decide +kernel)
theorem wz_p21 : Cond.selects yX9_enter.cls yX9_enter yX9_enter ∈ zTB := zTB_mem 21 (by decide +kernel) (by decide +kernel)
theorem wz_641 : Cond.instanceMethod ({ cls := "AlpCommune$Words", name := "enter", desc := "(I)I" } : MethodName) ∈ zTB := zTB_mem 767 (by decide +kernel) (by decide +kernel)
theorem wz_642 : Cond.code yX9_enter cX9_enter 2 (some .int) ∈ zTB := zTB_mem 768 (by decide +kernel) (by decide +kernel)
theorem wz_629 : Cond.methodLink "AlpCommune" (188 : Nat) ({ cls := "AlpCommune", name := "passes", desc := "(II)Z" } : MethodName) ∈ zTB := zTB_mem 755 (by decide +kernel) (by decide +kernel)
theorem wz_p20 : Cond.selects yX10_passes.cls yX10_passes yX10_passes ∈ zTB := zTB_mem 20 (by decide +kernel) (by decide +kernel)
theorem wz_631 : Cond.instanceMethod ({ cls := "AlpCommune", name := "passes", desc := "(II)Z" } : MethodName) ∈ zTB := zTB_mem 757 (by decide +kernel) (by decide +kernel)
theorem wz_632 : Cond.code yX10_passes cX10_passes 5 (some .boolean) ∈ zTB := zTB_mem 758 (by decide +kernel) (by decide +kernel)
theorem wz_n544 : Cond.methodLinkNest "AlpCommune" (185 : Nat) ({ cls := "AlpCommune$Words", name := "read", desc := "()I" } : MethodName) "AlpCommune" ∈ zNest := zNest_mem 544 (by decide +kernel) (by decide +kernel)
theorem wz_p13 : Cond.selects yX9_read.cls yX9_read yX9_read ∈ zTB := zTB_mem 13 (by decide +kernel) (by decide +kernel)
theorem wz_546 : Cond.instanceMethod ({ cls := "AlpCommune$Words", name := "read", desc := "()I" } : MethodName) ∈ zTB := zTB_mem 672 (by decide +kernel) (by decide +kernel)
theorem wz_547 : Cond.code yX9_read cX9_read 1 (some .int) ∈ zTB := zTB_mem 673 (by decide +kernel) (by decide +kernel)
theorem wz_540 : Cond.methodLink "AlpCommune" (181 : Nat) ({ cls := "AlpCommune", name := "areHouses", desc := "(I)Z" } : MethodName) ∈ zTB := zTB_mem 666 (by decide +kernel) (by decide +kernel)
theorem wz_p12 : Cond.selects yX10_areHouses.cls yX10_areHouses yX10_areHouses ∈ zTB := zTB_mem 12 (by decide +kernel) (by decide +kernel)
theorem wz_542 : Cond.instanceMethod ({ cls := "AlpCommune", name := "areHouses", desc := "(I)Z" } : MethodName) ∈ zTB := zTB_mem 668 (by decide +kernel) (by decide +kernel)
theorem wz_543 : Cond.code yX10_areHouses cX10_areHouses 2 (some .boolean) ∈ zTB := zTB_mem 669 (by decide +kernel) (by decide +kernel)
theorem wz_382 : Cond.fieldLink "AlpCommune" (212 : Nat) "AlpCommune" "driveCount" "I" ∈ zTB := zTB_mem 508 (by decide +kernel) (by decide +kernel)
theorem zf_X10_212 (C : zCx E cc RX10 nL ret Z h) {i : Nat} (hk : i < zN 0) (hd : decode cc pc = .ok (.getfield 212, 3)) (kk : zKO E nL Z QQ (pc + 3) L (.int (σ.1 0 i 10) :: st) σ o) : zKO E nL Z QQ pc L (.ref (zad Z 0 i) :: st) σ o := zr_get C 10 zin_X10 rfl (Nat.le_of_ble_eq_true rfl) rfl wz_382 hd hk rfl rfl kk
theorem wz_381 : Cond.fieldLink "AlpCommune" (65 : Nat) "AlpCommune" "drives" "[[I" ∈ zTB := zTB_mem 507 (by decide +kernel) (by decide +kernel)
theorem zf_X10_65 (C : zCx E cc RX10 nL ret Z h) {i : Nat} (hk : i < zN 0) (hd : decode cc pc = .ok (.getfield 65, 3)) (kk : zKO E nL Z QQ (pc + 3) L (.ref (zad Z 49 0) :: st) σ o) : zKO E nL Z QQ pc L (.ref (zad Z 0 i) :: st) σ o := zr_get C 9 zin_X10 rfl (Nat.le_of_ble_eq_true rfl) rfl wz_381 hd hk rfl rfl kk
theorem wz_n126 : Cond.fieldLinkNest "AlpCommune" (199 : Nat) "AlpCommune$Words" "rows" "[LAlpCommune$Word;" "AlpCommune" ∈ zNest := zNest_mem 126 (by decide +kernel) (by decide +kernel)
theorem zf_X10_199 (C : zCx E cc RX10 nL ret Z h) {i : Nat} (hk : i < zN 11) (hd : decode cc pc = .ok (.getfield 199, 3)) (kk : zKO E nL Z QQ (pc + 3) L (.ref (zad Z 12 0) :: st) σ o) : zKO E nL Z QQ pc L (.ref (zad Z 11 i) :: st) σ o := zr_getN C 0 zin_X9 rfl (Nat.le_of_ble_eq_true rfl) rfl wz_n126 hd hk rfl rfl kk
theorem wz_n83 : Cond.fieldLinkNest "AlpCommune" (203 : Nat) "AlpCommune$Word" "isVoid" "Z" "AlpCommune" ∈ zNest := zNest_mem 83 (by decide +kernel) (by decide +kernel)
theorem zf_X10_203 (C : zCx E cc RX10 nL ret Z h) {i : Nat} (hk : i < zN 13) (hd : decode cc pc = .ok (.getfield 203, 3)) (kk : zKO E nL Z QQ (pc + 3) L (.int (σ.1 13 i 4) :: st) σ o) : zKO E nL Z QQ pc L (.ref (zad Z 13 i) :: st) σ o := zr_getN C 4 zin_X8 rfl (Nat.le_of_ble_eq_true rfl) rfl wz_n83 hd hk rfl rfl kk
theorem zp_X10_203 (C : zCx E cc RX10 nL ret Z h) {i : Nat} {x : Int32} (hk : i < zN 13) (hd : decode cc pc = .ok (.putfield 203, 3)) (kk : zKO E nL Z QQ (pc + 3) L st (zwi σ 13 i 4 x) o) : zKO E nL Z QQ pc L (.int x :: .ref (zad Z 13 i) :: st) σ (zg (zbo x) o) :=
  zr_g fun hb => zr_putN C 4 zin_X8 rfl (Nat.le_of_ble_eq_true rfl) rfl tyX8_ok nmX8 rfl (ty := .boolean) (σ1 := zwi σ 13 i 4 x) (by decide +kernel) wz_n83 hd hk rfl (Nat.le_of_ble_eq_true rfl) (zbo_nar hb) (zbo_fit hb) (fun a b q => zu_off _ _ _ q) (fun a b q => rfl) (by
    show zE Z 13 i (zu σ.1 13 i 4 x 13 i) _ = _
    rw [zu_at]
    rfl) kk
theorem wz_n81 : Cond.fieldLinkNest "AlpCommune" (209 : Nat) "AlpCommune$Word" "voidOn" "I" "AlpCommune" ∈ zNest := zNest_mem 81 (by decide +kernel) (by decide +kernel)
theorem zp_X10_209 (C : zCx E cc RX10 nL ret Z h) {i : Nat} {x : Int32} (hk : i < zN 13) (hd : decode cc pc = .ok (.putfield 209, 3)) (kk : zKO E nL Z QQ (pc + 3) L st (zwi σ 13 i 3 x) o) : zKO E nL Z QQ pc L (.int x :: .ref (zad Z 13 i) :: st) σ o :=
  zr_putN C 3 zin_X8 rfl (Nat.le_of_ble_eq_true rfl) rfl tyX8_ok nmX8 rfl (ty := .int) (σ1 := zwi σ 13 i 3 x) (by decide +kernel) wz_n81 hd hk rfl (Nat.le_of_ble_eq_true rfl) rfl rfl (fun a b q => zu_off _ _ _ q) (fun a b q => rfl) (by
    show zE Z 13 i (zu σ.1 13 i 3 x 13 i) _ = _
    rw [zu_at]
    rfl) kk
theorem wz_n647 : Cond.methodLinkNest "AlpCommune" (198 : Nat) ({ cls := "AlpCommune$Words", name := "has", desc := "(I)Z" } : MethodName) "AlpCommune" ∈ zNest := zNest_mem 647 (by decide +kernel) (by decide +kernel)
theorem wz_p22 : Cond.selects yX9_has.cls yX9_has yX9_has ∈ zTB := zTB_mem 22 (by decide +kernel) (by decide +kernel)
theorem wz_649 : Cond.instanceMethod ({ cls := "AlpCommune$Words", name := "has", desc := "(I)Z" } : MethodName) ∈ zTB := zTB_mem 775 (by decide +kernel) (by decide +kernel)
theorem wz_650 : Cond.code yX9_has cX9_has 2 (some .boolean) ∈ zTB := zTB_mem 776 (by decide +kernel) (by decide +kernel)
theorem wz_n677 : Cond.methodLinkNest "AlpCommune" (223 : Nat) ({ cls := "AlpCommune$Words", name := "worth", desc := "(II)I" } : MethodName) "AlpCommune" ∈ zNest := zNest_mem 677 (by decide +kernel) (by decide +kernel)
theorem wz_p27 : Cond.selects yX9_worth.cls yX9_worth yX9_worth ∈ zTB := zTB_mem 27 (by decide +kernel) (by decide +kernel)
theorem wz_679 : Cond.instanceMethod ({ cls := "AlpCommune$Words", name := "worth", desc := "(II)I" } : MethodName) ∈ zTB := zTB_mem 805 (by decide +kernel) (by decide +kernel)
theorem wz_680 : Cond.code yX9_worth cX9_worth 3 (some .int) ∈ zTB := zTB_mem 806 (by decide +kernel) (by decide +kernel)
theorem wz_n659 : Cond.methodLinkNest "AlpCommune" (219 : Nat) ({ cls := "AlpCommune$Words", name := "latest", desc := "(LAlpCommune$House;III)I" } : MethodName) "AlpCommune" ∈ zNest := zNest_mem 659 (by decide +kernel) (by decide +kernel)
theorem wz_p24 : Cond.selects yX9_latest.cls yX9_latest yX9_latest ∈ zTB := zTB_mem 24 (by decide +kernel) (by decide +kernel)
theorem wz_661 : Cond.instanceMethod ({ cls := "AlpCommune$Words", name := "latest", desc := "(LAlpCommune$House;III)I" } : MethodName) ∈ zTB := zTB_mem 787 (by decide +kernel) (by decide +kernel)
theorem wz_662 : Cond.code yX9_latest cX9_latest 6 (some .int) ∈ zTB := zTB_mem 788 (by decide +kernel) (by decide +kernel)
theorem wz_655 : Cond.methodLink "AlpCommune" (215 : Nat) ({ cls := "AlpCommune", name := "canAsk", desc := "(IIII)Z" } : MethodName) ∈ zTB := zTB_mem 781 (by decide +kernel) (by decide +kernel)
theorem wz_p23 : Cond.selects yX10_canAsk.cls yX10_canAsk yX10_canAsk ∈ zTB := zTB_mem 23 (by decide +kernel) (by decide +kernel)
theorem wz_657 : Cond.instanceMethod ({ cls := "AlpCommune", name := "canAsk", desc := "(IIII)Z" } : MethodName) ∈ zTB := zTB_mem 783 (by decide +kernel) (by decide +kernel)
theorem wz_658 : Cond.code yX10_canAsk cX10_canAsk 5 (some .boolean) ∈ zTB := zTB_mem 784 (by decide +kernel) (by decide +kernel)
theorem wz_376 : Cond.fieldLink "AlpCommune" (32 : Nat) "AlpCommune" "skies" "LAlpCommune$Sky;" ∈ zTB := zTB_mem 502 (by decide +kernel) (by decide +kernel)
theorem zf_X10_32 (C : zCx E cc RX10 nL ret Z h) {i : Nat} (hk : i < zN 0) (hd : decode cc pc = .ok (.getfield 32, 3)) (kk : zKO E nL Z QQ (pc + 3) L (.ref (zad Z 20 0) :: st) σ o) : zKO E nL Z QQ pc L (.ref (zad Z 0 i) :: st) σ o := zr_get C 4 zin_X10 rfl (Nat.le_of_ble_eq_true rfl) rfl wz_376 hd hk rfl rfl kk
theorem wz_n701 : Cond.methodLinkNest "AlpCommune" (231 : Nat) ({ cls := "AlpCommune$Sky", name := "tell", desc := "(III)V" } : MethodName) "AlpCommune" ∈ zNest := zNest_mem 701 (by decide +kernel) (by decide +kernel)
theorem wz_p28 : Cond.selects yX5_tell.cls yX5_tell yX5_tell ∈ zTB := zTB_mem 28 (by decide +kernel) (by decide +kernel)
theorem wz_703 : Cond.instanceMethod ({ cls := "AlpCommune$Sky", name := "tell", desc := "(III)V" } : MethodName) ∈ zTB := zTB_mem 829 (by decide +kernel) (by decide +kernel)
theorem wz_704 : Cond.code yX5_tell cX5_tell 4 none ∈ zTB := zTB_mem 830 (by decide +kernel) (by decide +kernel)
theorem wz_5 : Cond.initialized "AlpCommune$Sky" ∈ zTB := zTB_mem 131 (by decide +kernel) (by decide +kernel)
theorem wz_n694 : Cond.methodLinkNest "AlpCommune" (228 : Nat) ({ cls := "AlpCommune$Sky", name := "fits", desc := "(IJ)Z" } : MethodName) "AlpCommune" ∈ zNest := zNest_mem 694 (by decide +kernel) (by decide +kernel)
theorem wz_695 : Cond.static ({ cls := "AlpCommune$Sky", name := "fits", desc := "(IJ)Z" } : MethodName) ∈ zTB := zTB_mem 821 (by decide +kernel) (by decide +kernel)
theorem wz_696 : Cond.code yX5_fits cX5_fits 3 (some .boolean) ∈ zTB := zTB_mem 822 (by decide +kernel) (by decide +kernel)
theorem wz_n691 : Cond.methodLinkNest "AlpCommune" (226 : Nat) ({ cls := "AlpCommune$Sky", name := "has", desc := "(II)Z" } : MethodName) "AlpCommune" ∈ zNest := zNest_mem 691 (by decide +kernel) (by decide +kernel)
theorem wz_692 : Cond.static ({ cls := "AlpCommune$Sky", name := "has", desc := "(II)Z" } : MethodName) ∈ zTB := zTB_mem 818 (by decide +kernel) (by decide +kernel)
theorem wz_693 : Cond.code yX5_has cX5_has 2 (some .boolean) ∈ zTB := zTB_mem 819 (by decide +kernel) (by decide +kernel)
theorem wz_716 : Cond.constantLong "AlpCommune" (248 : Nat) (-9000000000 : Int64) ∈ zTB := zTB_mem 842 (by decide +kernel) (by decide +kernel)
theorem wz_717 : Cond.constantLong "AlpCommune" (250 : Nat) (4 : Int64) ∈ zTB := zTB_mem 843 (by decide +kernel) (by decide +kernel)
theorem wz_n360 : Cond.fieldLinkNest "AlpCommune" (238 : Nat) "AlpCommune$Sheet" "sort" "I" "AlpCommune" ∈ zNest := zNest_mem 360 (by decide +kernel) (by decide +kernel)
theorem zf_X10_238 (C : zCx E cc RX10 nL ret Z h) {i : Nat} (hk : i < zN 47) (hd : decode cc pc = .ok (.getfield 238, 3)) (kk : zKO E nL Z QQ (pc + 3) L (.int (σ.1 47 i 0) :: st) σ o) : zKO E nL Z QQ pc L (.ref (zad Z 47 i) :: st) σ o := zr_getN C 0 zin_X4 rfl (Nat.le_of_ble_eq_true rfl) rfl wz_n360 hd hk rfl rfl kk
theorem wz_n712 : Cond.methodLinkNest "AlpCommune" (241 : Nat) ({ cls := "AlpCommune$Sheet", name := "holds", desc := "(II)Z" } : MethodName) "AlpCommune" ∈ zNest := zNest_mem 712 (by decide +kernel) (by decide +kernel)
theorem wz_p29 : Cond.selects yX4_holds.cls yX4_holds yX4_holds ∈ zTB := zTB_mem 29 (by decide +kernel) (by decide +kernel)
theorem wz_714 : Cond.instanceMethod ({ cls := "AlpCommune$Sheet", name := "holds", desc := "(II)Z" } : MethodName) ∈ zTB := zTB_mem 840 (by decide +kernel) (by decide +kernel)
theorem wz_715 : Cond.code yX4_holds cX4_holds 3 (some .boolean) ∈ zTB := zTB_mem 841 (by decide +kernel) (by decide +kernel)
theorem wz_11 : Cond.initialized "AlpCommune$Sheet" ∈ zTB := zTB_mem 137 (by decide +kernel) (by decide +kernel)
theorem wz_n363 : Cond.fieldLinkNest "AlpCommune" (244 : Nat) "AlpCommune$Sheet" "items" "[J" "AlpCommune" ∈ zNest := zNest_mem 363 (by decide +kernel) (by decide +kernel)
theorem zf_X10_244 (C : zCx E cc RX10 nL ret Z h) {i : Nat} (hk : i < zN 47) (hd : decode cc pc = .ok (.getfield 244, 3)) (kk : zKO E nL Z QQ (pc + 3) L (.ref (zad Z 48 i) :: st) σ o) : zKO E nL Z QQ pc L (.ref (zad Z 47 i) :: st) σ o := zr_getN C 2 zin_X4 rfl (Nat.le_of_ble_eq_true rfl) rfl wz_n363 hd hk rfl rfl kk
theorem wz_380 : Cond.fieldLink "AlpCommune" (59 : Nat) "AlpCommune" "sheets" "[LAlpCommune$Sheet;" ∈ zTB := zTB_mem 506 (by decide +kernel) (by decide +kernel)
theorem zf_X10_59 (C : zCx E cc RX10 nL ret Z h) {i : Nat} (hk : i < zN 0) (hd : decode cc pc = .ok (.getfield 59, 3)) (kk : zKO E nL Z QQ (pc + 3) L (.ref (zad Z 46 0) :: st) σ o) : zKO E nL Z QQ pc L (.ref (zad Z 0 i) :: st) σ o := zr_get C 8 zin_X10 rfl (Nat.le_of_ble_eq_true rfl) rfl wz_380 hd hk rfl rfl kk
theorem wz_709 : Cond.methodLink "AlpCommune" (235 : Nat) ({ cls := "AlpCommune", name := "isSheet", desc := "(I)Z" } : MethodName) ∈ zTB := zTB_mem 835 (by decide +kernel) (by decide +kernel)
theorem wz_710 : Cond.static ({ cls := "AlpCommune", name := "isSheet", desc := "(I)Z" } : MethodName) ∈ zTB := zTB_mem 836 (by decide +kernel) (by decide +kernel)
theorem wz_711 : Cond.code yX10_isSheet cX10_isSheet 1 (some .boolean) ∈ zTB := zTB_mem 837 (by decide +kernel) (by decide +kernel)
theorem wz_n722 : Cond.methodLinkNest "AlpCommune" (252 : Nat) ({ cls := "AlpCommune$Sky", name := "on", desc := "(II)I" } : MethodName) "AlpCommune" ∈ zNest := zNest_mem 722 (by decide +kernel) (by decide +kernel)
theorem wz_p30 : Cond.selects yX5_on.cls yX5_on yX5_on ∈ zTB := zTB_mem 30 (by decide +kernel) (by decide +kernel)
theorem wz_724 : Cond.instanceMethod ({ cls := "AlpCommune$Sky", name := "on", desc := "(II)I" } : MethodName) ∈ zTB := zTB_mem 850 (by decide +kernel) (by decide +kernel)
theorem wz_725 : Cond.code yX5_on cX5_on 5 (some .int) ∈ zTB := zTB_mem 851 (by decide +kernel) (by decide +kernel)
theorem wz_377 : Cond.fieldLink "AlpCommune" (39 : Nat) "AlpCommune" "alps" "LAlpCommune$Alps;" ∈ zTB := zTB_mem 503 (by decide +kernel) (by decide +kernel)
theorem zf_X10_39 (C : zCx E cc RX10 nL ret Z h) {i : Nat} (hk : i < zN 0) (hd : decode cc pc = .ok (.getfield 39, 3)) (kk : zKO E nL Z QQ (pc + 3) L (.ref (zad Z 25 0) :: st) σ o) : zKO E nL Z QQ pc L (.ref (zad Z 0 i) :: st) σ o := zr_get C 5 zin_X10 rfl (Nat.le_of_ble_eq_true rfl) rfl wz_377 hd hk rfl rfl kk
theorem wz_n178 : Cond.fieldLinkNest "AlpCommune" (255 : Nat) "AlpCommune$Alps" "count" "I" "AlpCommune" ∈ zNest := zNest_mem 178 (by decide +kernel) (by decide +kernel)
theorem zf_X10_255 (C : zCx E cc RX10 nL ret Z h) {i : Nat} (hk : i < zN 25) (hd : decode cc pc = .ok (.getfield 255, 3)) (kk : zKO E nL Z QQ (pc + 3) L (.int (σ.1 25 i 4) :: st) σ o) : zKO E nL Z QQ pc L (.ref (zad Z 25 i) :: st) σ o := zr_getN C 4 zin_X0 rfl (Nat.le_of_ble_eq_true rfl) rfl wz_n178 hd hk rfl rfl kk
theorem wz_n732 : Cond.methodLinkNest "AlpCommune" (256 : Nat) ({ cls := "AlpCommune$Alps", name := "enter", desc := "(II)I" } : MethodName) "AlpCommune" ∈ zNest := zNest_mem 732 (by decide +kernel) (by decide +kernel)
theorem wz_p31 : Cond.selects yX0_enter.cls yX0_enter yX0_enter ∈ zTB := zTB_mem 31 (by decide +kernel) (by decide +kernel)
theorem wz_734 : Cond.instanceMethod ({ cls := "AlpCommune$Alps", name := "enter", desc := "(II)I" } : MethodName) ∈ zTB := zTB_mem 860 (by decide +kernel) (by decide +kernel)
theorem wz_735 : Cond.code yX0_enter cX0_enter 3 (some .int) ∈ zTB := zTB_mem 861 (by decide +kernel) (by decide +kernel)
theorem wz_n312 : Cond.fieldLinkNest "AlpCommune" (274 : Nat) "AlpCommune$House" "up" "[I" "AlpCommune" ∈ zNest := zNest_mem 312 (by decide +kernel) (by decide +kernel)
theorem zf_X10_274 (C : zCx E cc RX10 nL ret Z h) {i : Nat} (hk : i < zN 2) (hd : decode cc pc = .ok (.getfield 274, 3)) (kk : zKO E nL Z QQ (pc + 3) L (.ref (zad Z 4 i) :: st) σ o) : zKO E nL Z QQ pc L (.ref (zad Z 2 i) :: st) σ o := zr_getN C 1 zin_X2 rfl (Nat.le_of_ble_eq_true rfl) rfl wz_n312 hd hk rfl rfl kk
theorem wz_n170 : Cond.fieldLinkNest "AlpCommune" (259 : Nat) "AlpCommune$Alps" "height" "[I" "AlpCommune" ∈ zNest := zNest_mem 170 (by decide +kernel) (by decide +kernel)
theorem zf_X10_259 (C : zCx E cc RX10 nL ret Z h) {i : Nat} (hk : i < zN 25) (hd : decode cc pc = .ok (.getfield 259, 3)) (kk : zKO E nL Z QQ (pc + 3) L (.ref (zad Z 26 0) :: st) σ o) : zKO E nL Z QQ pc L (.ref (zad Z 25 i) :: st) σ o := zr_getN C 0 zin_X0 rfl (Nat.le_of_ble_eq_true rfl) rfl wz_n170 hd hk rfl rfl kk
theorem wz_n172 : Cond.fieldLinkNest "AlpCommune" (262 : Nat) "AlpCommune$Alps" "area" "[I" "AlpCommune" ∈ zNest := zNest_mem 172 (by decide +kernel) (by decide +kernel)
theorem zf_X10_262 (C : zCx E cc RX10 nL ret Z h) {i : Nat} (hk : i < zN 25) (hd : decode cc pc = .ok (.getfield 262, 3)) (kk : zKO E nL Z QQ (pc + 3) L (.ref (zad Z 27 0) :: st) σ o) : zKO E nL Z QQ pc L (.ref (zad Z 25 i) :: st) σ o := zr_getN C 1 zin_X0 rfl (Nat.le_of_ble_eq_true rfl) rfl wz_n172 hd hk rfl rfl kk
theorem wz_n174 : Cond.fieldLinkNest "AlpCommune" (265 : Nat) "AlpCommune$Alps" "grass" "[I" "AlpCommune" ∈ zNest := zNest_mem 174 (by decide +kernel) (by decide +kernel)
theorem zf_X10_265 (C : zCx E cc RX10 nL ret Z h) {i : Nat} (hk : i < zN 25) (hd : decode cc pc = .ok (.getfield 265, 3)) (kk : zKO E nL Z QQ (pc + 3) L (.ref (zad Z 28 0) :: st) σ o) : zKO E nL Z QQ pc L (.ref (zad Z 25 i) :: st) σ o := zr_getN C 2 zin_X0 rfl (Nat.le_of_ble_eq_true rfl) rfl wz_n174 hd hk rfl rfl kk
theorem wz_n176 : Cond.fieldLinkNest "AlpCommune" (268 : Nat) "AlpCommune$Alps" "snow" "[I" "AlpCommune" ∈ zNest := zNest_mem 176 (by decide +kernel) (by decide +kernel)
theorem zf_X10_268 (C : zCx E cc RX10 nL ret Z h) {i : Nat} (hk : i < zN 25) (hd : decode cc pc = .ok (.getfield 268, 3)) (kk : zKO E nL Z QQ (pc + 3) L (.ref (zad Z 29 0) :: st) σ o) : zKO E nL Z QQ pc L (.ref (zad Z 25 i) :: st) σ o := zr_getN C 3 zin_X0 rfl (Nat.le_of_ble_eq_true rfl) rfl wz_n176 hd hk rfl rfl kk
theorem wz_744 : Cond.methodLink "AlpCommune" (271 : Nat) ({ cls := "AlpCommune", name := "cowsUpOn", desc := "(II)I" } : MethodName) ∈ zTB := zTB_mem 870 (by decide +kernel) (by decide +kernel)
theorem wz_p33 : Cond.selects yX10_cowsUpOn.cls yX10_cowsUpOn yX10_cowsUpOn ∈ zTB := zTB_mem 33 (by decide +kernel) (by decide +kernel)
theorem wz_746 : Cond.instanceMethod ({ cls := "AlpCommune", name := "cowsUpOn", desc := "(II)I" } : MethodName) ∈ zTB := zTB_mem 872 (by decide +kernel) (by decide +kernel)
theorem wz_747 : Cond.code yX10_cowsUpOn cX10_cowsUpOn 5 (some .int) ∈ zTB := zTB_mem 873 (by decide +kernel) (by decide +kernel)
theorem wz_n740 : Cond.methodLinkNest "AlpCommune" (258 : Nat) ({ cls := "AlpCommune$Alps", name := "has", desc := "(I)Z" } : MethodName) "AlpCommune" ∈ zNest := zNest_mem 740 (by decide +kernel) (by decide +kernel)
theorem wz_p32 : Cond.selects yX0_has.cls yX0_has yX0_has ∈ zTB := zTB_mem 32 (by decide +kernel) (by decide +kernel)
theorem wz_742 : Cond.instanceMethod ({ cls := "AlpCommune$Alps", name := "has", desc := "(I)Z" } : MethodName) ∈ zTB := zTB_mem 868 (by decide +kernel) (by decide +kernel)
theorem wz_743 : Cond.code yX0_has cX0_has 2 (some .boolean) ∈ zTB := zTB_mem 869 (by decide +kernel) (by decide +kernel)
theorem wz_760 : Cond.methodLink "AlpCommune" (287 : Nat) ({ cls := "AlpCommune", name := "worthNow", desc := "(LAlpCommune$House;I)I" } : MethodName) ∈ zTB := zTB_mem 886 (by decide +kernel) (by decide +kernel)
theorem wz_p36 : Cond.selects yX10_worthNow.cls yX10_worthNow yX10_worthNow ∈ zTB := zTB_mem 36 (by decide +kernel) (by decide +kernel)
theorem wz_762 : Cond.instanceMethod ({ cls := "AlpCommune", name := "worthNow", desc := "(LAlpCommune$House;I)I" } : MethodName) ∈ zTB := zTB_mem 888 (by decide +kernel) (by decide +kernel)
theorem wz_763 : Cond.code yX10_worthNow cX10_worthNow 3 (some .int) ∈ zTB := zTB_mem 889 (by decide +kernel) (by decide +kernel)
theorem wz_756 : Cond.methodLink "AlpCommune" (283 : Nat) ({ cls := "AlpCommune", name := "inSeason", desc := "(LAlpCommune$House;)Z" } : MethodName) ∈ zTB := zTB_mem 882 (by decide +kernel) (by decide +kernel)
theorem wz_p35 : Cond.selects yX10_inSeason.cls yX10_inSeason yX10_inSeason ∈ zTB := zTB_mem 35 (by decide +kernel) (by decide +kernel)
theorem wz_758 : Cond.instanceMethod ({ cls := "AlpCommune", name := "inSeason", desc := "(LAlpCommune$House;)Z" } : MethodName) ∈ zTB := zTB_mem 884 (by decide +kernel) (by decide +kernel)
theorem wz_759 : Cond.code yX10_inSeason cX10_inSeason 3 (some .boolean) ∈ zTB := zTB_mem 885 (by decide +kernel) (by decide +kernel)
theorem zp_X10_212 (C : zCx E cc RX10 nL ret Z h) {i : Nat} {x : Int32} (hk : i < zN 0) (hd : decode cc pc = .ok (.putfield 212, 3)) (kk : zKO E nL Z QQ (pc + 3) L st (zwi σ 0 i 10 x) o) : zKO E nL Z QQ pc L (.int x :: .ref (zad Z 0 i) :: st) σ o :=
  zr_put C 10 zin_X10 rfl (Nat.le_of_ble_eq_true rfl) rfl tyX10_ok nmX10 rfl (ty := .int) (σ1 := zwi σ 0 i 10 x) (by decide +kernel) wz_382 hd hk rfl (Nat.le_of_ble_eq_true rfl) rfl rfl (fun a b q => zu_off _ _ _ q) (fun a b q => rfl) (by
    show zE Z 0 i (zu σ.1 0 i 10 x 0 i) _ = _
    rw [zu_at]
    rfl) kk
theorem wz_764 : Cond.methodLink "AlpCommune" (280 : Nat) ({ cls := "AlpCommune", name := "writeDrive", desc := "(III)V" } : MethodName) ∈ zTB := zTB_mem 890 (by decide +kernel) (by decide +kernel)
theorem wz_p37 : Cond.selects yX10_writeDrive.cls yX10_writeDrive yX10_writeDrive ∈ zTB := zTB_mem 37 (by decide +kernel) (by decide +kernel)
theorem wz_766 : Cond.instanceMethod ({ cls := "AlpCommune", name := "writeDrive", desc := "(III)V" } : MethodName) ∈ zTB := zTB_mem 892 (by decide +kernel) (by decide +kernel)
theorem wz_767 : Cond.code yX10_writeDrive cX10_writeDrive 4 none ∈ zTB := zTB_mem 893 (by decide +kernel) (by decide +kernel)
theorem wz_752 : Cond.methodLink "AlpCommune" (277 : Nat) ({ cls := "AlpCommune", name := "whyNot", desc := "(II)I" } : MethodName) ∈ zTB := zTB_mem 878 (by decide +kernel) (by decide +kernel)
theorem wz_p34 : Cond.selects yX10_whyNot.cls yX10_whyNot yX10_whyNot ∈ zTB := zTB_mem 34 (by decide +kernel) (by decide +kernel)
theorem wz_754 : Cond.instanceMethod ({ cls := "AlpCommune", name := "whyNot", desc := "(II)I" } : MethodName) ∈ zTB := zTB_mem 880 (by decide +kernel) (by decide +kernel)
theorem wz_755 : Cond.code yX10_whyNot cX10_whyNot 6 (some .int) ∈ zTB := zTB_mem 881 (by decide +kernel) (by decide +kernel)
theorem zp_X10_108 (C : zCx E cc RX10 nL ret Z h) {i : Nat} {x : Int32} (hk : i < zN 2) (hd : decode cc pc = .ok (.putfield 108, 3)) (kk : zKO E nL Z QQ (pc + 3) L st (zwi σ 2 i 4 x) o) : zKO E nL Z QQ pc L (.int x :: .ref (zad Z 2 i) :: st) σ o :=
  zr_putN C 4 zin_X2 rfl (Nat.le_of_ble_eq_true rfl) rfl tyX2_ok nmX2 rfl (ty := .int) (σ1 := zwi σ 2 i 4 x) (by decide +kernel) wz_n317 hd hk rfl (Nat.le_of_ble_eq_true rfl) rfl rfl (fun a b q => zu_off _ _ _ q) (fun a b q => rfl) (by
    show zE Z 2 i (zu σ.1 2 i 4 x 2 i) _ = _
    rw [zu_at]
    rfl) kk
theorem zp_X10_105 (C : zCx E cc RX10 nL ret Z h) {i : Nat} {x : Int32} (hk : i < zN 2) (hd : decode cc pc = .ok (.putfield 105, 3)) (kk : zKO E nL Z QQ (pc + 3) L st (zwi σ 2 i 3 x) o) : zKO E nL Z QQ pc L (.int x :: .ref (zad Z 2 i) :: st) σ o :=
  zr_putN C 3 zin_X2 rfl (Nat.le_of_ble_eq_true rfl) rfl tyX2_ok nmX2 rfl (ty := .int) (σ1 := zwi σ 2 i 3 x) (by decide +kernel) wz_n315 hd hk rfl (Nat.le_of_ble_eq_true rfl) rfl rfl (fun a b q => zu_off _ _ _ q) (fun a b q => rfl) (by
    show zE Z 2 i (zu σ.1 2 i 3 x 2 i) _ = _
    rw [zu_at]
    rfl) kk
theorem wz_n802 : Cond.methodLinkNest "AlpCommune" (318 : Nat) ({ cls := "AlpCommune$Alps", name := "feedCows", desc := "(II)I" } : MethodName) "AlpCommune" ∈ zNest := zNest_mem 802 (by decide +kernel) (by decide +kernel)
theorem wz_p41 : Cond.selects yX0_feedCows.cls yX0_feedCows yX0_feedCows ∈ zTB := zTB_mem 41 (by decide +kernel) (by decide +kernel)
theorem wz_804 : Cond.instanceMethod ({ cls := "AlpCommune$Alps", name := "feedCows", desc := "(II)I" } : MethodName) ∈ zTB := zTB_mem 930 (by decide +kernel) (by decide +kernel)
theorem wz_805 : Cond.code yX0_feedCows cX0_feedCows 4 (some .int) ∈ zTB := zTB_mem 931 (by decide +kernel) (by decide +kernel)
theorem wz_798 : Cond.methodLink "AlpCommune" (297 : Nat) ({ cls := "AlpCommune", name := "graze", desc := "(I)V" } : MethodName) ∈ zTB := zTB_mem 924 (by decide +kernel) (by decide +kernel)
theorem wz_p40 : Cond.selects yX10_graze.cls yX10_graze yX10_graze ∈ zTB := zTB_mem 40 (by decide +kernel) (by decide +kernel)
theorem wz_800 : Cond.instanceMethod ({ cls := "AlpCommune", name := "graze", desc := "(I)V" } : MethodName) ∈ zTB := zTB_mem 926 (by decide +kernel) (by decide +kernel)
theorem wz_801 : Cond.code yX10_graze cX10_graze 5 none ∈ zTB := zTB_mem 927 (by decide +kernel) (by decide +kernel)
theorem wz_n784 : Cond.methodLinkNest "AlpCommune" (294 : Nat) ({ cls := "AlpCommune$Alps", name := "grow", desc := "(III)V" } : MethodName) "AlpCommune" ∈ zNest := zNest_mem 784 (by decide +kernel) (by decide +kernel)
theorem wz_p39 : Cond.selects yX0_grow.cls yX0_grow yX0_grow ∈ zTB := zTB_mem 39 (by decide +kernel) (by decide +kernel)
theorem wz_786 : Cond.instanceMethod ({ cls := "AlpCommune$Alps", name := "grow", desc := "(III)V" } : MethodName) ∈ zTB := zTB_mem 912 (by decide +kernel) (by decide +kernel)
theorem wz_787 : Cond.code yX0_grow cX0_grow 5 none ∈ zTB := zTB_mem 913 (by decide +kernel) (by decide +kernel)
theorem wz_378 : Cond.fieldLink "AlpCommune" (46 : Nat) "AlpCommune" "way" "LAlpCommune$Way;" ∈ zTB := zTB_mem 504 (by decide +kernel) (by decide +kernel)
theorem zf_X10_46 (C : zCx E cc RX10 nL ret Z h) {i : Nat} (hk : i < zN 0) (hd : decode cc pc = .ok (.getfield 46, 3)) (kk : zKO E nL Z QQ (pc + 3) L (.ref (zad Z 38 0) :: st) σ o) : zKO E nL Z QQ pc L (.ref (zad Z 0 i) :: st) σ o := zr_get C 6 zin_X10 rfl (Nat.le_of_ble_eq_true rfl) rfl wz_378 hd hk rfl rfl kk
theorem wz_n852 : Cond.methodLinkNest "AlpCommune" (312 : Nat) ({ cls := "AlpCommune$Way", name := "ageWoods", desc := "()V" } : MethodName) "AlpCommune" ∈ zNest := zNest_mem 852 (by decide +kernel) (by decide +kernel)
theorem wz_p52 : Cond.selects yX7_ageWoods.cls yX7_ageWoods yX7_ageWoods ∈ zTB := zTB_mem 52 (by decide +kernel) (by decide +kernel)
theorem wz_854 : Cond.instanceMethod ({ cls := "AlpCommune$Way", name := "ageWoods", desc := "()V" } : MethodName) ∈ zTB := zTB_mem 980 (by decide +kernel) (by decide +kernel)
theorem wz_855 : Cond.code yX7_ageWoods cX7_ageWoods 2 none ∈ zTB := zTB_mem 981 (by decide +kernel) (by decide +kernel)
theorem wz_7 : Cond.initialized "AlpCommune$Way" ∈ zTB := zTB_mem 133 (by decide +kernel) (by decide +kernel)
theorem wz_n820 : Cond.methodLinkNest "AlpCommune" (308 : Nat) ({ cls := "AlpCommune$Way", name := "live", desc := "(II)V" } : MethodName) "AlpCommune" ∈ zNest := zNest_mem 820 (by decide +kernel) (by decide +kernel)
theorem wz_p44 : Cond.selects yX7_live.cls yX7_live yX7_live ∈ zTB := zTB_mem 44 (by decide +kernel) (by decide +kernel)
theorem wz_822 : Cond.instanceMethod ({ cls := "AlpCommune$Way", name := "live", desc := "(II)V" } : MethodName) ∈ zTB := zTB_mem 948 (by decide +kernel) (by decide +kernel)
theorem wz_823 : Cond.code yX7_live cX7_live 5 none ∈ zTB := zTB_mem 949 (by decide +kernel) (by decide +kernel)
theorem wz_n806 : Cond.methodLinkNest "AlpCommune" (301 : Nat) ({ cls := "AlpCommune$House", name := "winterAtHome", desc := "()V" } : MethodName) "AlpCommune" ∈ zNest := zNest_mem 806 (by decide +kernel) (by decide +kernel)
theorem wz_p42 : Cond.selects yX2_winterAtHome.cls yX2_winterAtHome yX2_winterAtHome ∈ zTB := zTB_mem 42 (by decide +kernel) (by decide +kernel)
theorem wz_808 : Cond.instanceMethod ({ cls := "AlpCommune$House", name := "winterAtHome", desc := "()V" } : MethodName) ∈ zTB := zTB_mem 934 (by decide +kernel) (by decide +kernel)
theorem wz_809 : Cond.code yX2_winterAtHome cX2_winterAtHome 2 none ∈ zTB := zTB_mem 935 (by decide +kernel) (by decide +kernel)
theorem wz_n812 : Cond.methodLinkNest "AlpCommune" (304 : Nat) ({ cls := "AlpCommune$House", name := "oweMore", desc := "(J)I" } : MethodName) "AlpCommune" ∈ zNest := zNest_mem 812 (by decide +kernel) (by decide +kernel)
theorem wz_p43 : Cond.selects yX2_oweMore.cls yX2_oweMore yX2_oweMore ∈ zTB := zTB_mem 43 (by decide +kernel) (by decide +kernel)
theorem wz_814 : Cond.instanceMethod ({ cls := "AlpCommune$House", name := "oweMore", desc := "(J)I" } : MethodName) ∈ zTB := zTB_mem 940 (by decide +kernel) (by decide +kernel)
theorem wz_815 : Cond.code yX2_oweMore cX2_oweMore 4 (some .int) ∈ zTB := zTB_mem 941 (by decide +kernel) (by decide +kernel)
theorem wz_384 : Cond.fieldLink "AlpCommune" (315 : Nat) "AlpCommune" "milkWaits" "Z" ∈ zTB := zTB_mem 510 (by decide +kernel) (by decide +kernel)
theorem zp_X10_315 (C : zCx E cc RX10 nL ret Z h) {i : Nat} {x : Int32} (hk : i < zN 0) (hd : decode cc pc = .ok (.putfield 315, 3)) (kk : zKO E nL Z QQ (pc + 3) L st (zwi σ 0 i 12 x) o) : zKO E nL Z QQ pc L (.int x :: .ref (zad Z 0 i) :: st) σ (zg (zbo x) o) :=
  zr_g fun hb => zr_put C 12 zin_X10 rfl (Nat.le_of_ble_eq_true rfl) rfl tyX10_ok nmX10 rfl (ty := .boolean) (σ1 := zwi σ 0 i 12 x) (by decide +kernel) wz_384 hd hk rfl (Nat.le_of_ble_eq_true rfl) (zbo_nar hb) (zbo_fit hb) (fun a b q => zu_off _ _ _ q) (fun a b q => rfl) (by
    show zE Z 0 i (zu σ.1 0 i 12 x 0 i) _ = _
    rw [zu_at]
    rfl) kk
theorem zp_X10_142 (C : zCx E cc RX10 nL ret Z h) {i : Nat} {x : Int32} (hk : i < zN 0) (hd : decode cc pc = .ok (.putfield 142, 3)) (kk : zKO E nL Z QQ (pc + 3) L st (zwi σ 0 i 11 x) o) : zKO E nL Z QQ pc L (.int x :: .ref (zad Z 0 i) :: st) σ o :=
  zr_put C 11 zin_X10 rfl (Nat.le_of_ble_eq_true rfl) rfl tyX10_ok nmX10 rfl (ty := .int) (σ1 := zwi σ 0 i 11 x) (by decide +kernel) wz_383 hd hk rfl (Nat.le_of_ble_eq_true rfl) rfl rfl (fun a b q => zu_off _ _ _ q) (fun a b q => rfl) (by
    show zE Z 0 i (zu σ.1 0 i 11 x 0 i) _ = _
    rw [zu_at]
    rfl) kk
theorem wz_780 : Cond.methodLink "AlpCommune" (291 : Nat) ({ cls := "AlpCommune", name := "liveDay", desc := "()V" } : MethodName) ∈ zTB := zTB_mem 906 (by decide +kernel) (by decide +kernel)
theorem wz_p38 : Cond.selects yX10_liveDay.cls yX10_liveDay yX10_liveDay ∈ zTB := zTB_mem 38 (by decide +kernel) (by decide +kernel)
theorem wz_782 : Cond.instanceMethod ({ cls := "AlpCommune", name := "liveDay", desc := "()V" } : MethodName) ∈ zTB := zTB_mem 908 (by decide +kernel) (by decide +kernel)
theorem wz_783 : Cond.code yX10_liveDay cX10_liveDay 7 none ∈ zTB := zTB_mem 909 (by decide +kernel) (by decide +kernel)
theorem wz_n256 : Cond.fieldLinkNest "AlpCommune" (321 : Nat) "AlpCommune$Way" "count" "I" "AlpCommune" ∈ zNest := zNest_mem 256 (by decide +kernel) (by decide +kernel)
theorem zf_X10_321 (C : zCx E cc RX10 nL ret Z h) {i : Nat} (hk : i < zN 38) (hd : decode cc pc = .ok (.getfield 321, 3)) (kk : zKO E nL Z QQ (pc + 3) L (.int (σ.1 38 i 1) :: st) σ o) : zKO E nL Z QQ pc L (.ref (zad Z 38 i) :: st) σ o := zr_getN C 1 zin_X7 rfl (Nat.le_of_ble_eq_true rfl) rfl wz_n256 hd hk rfl rfl kk
theorem wz_n254 : Cond.fieldLinkNest "AlpCommune" (322 : Nat) "AlpCommune$Way" "slopes" "[LAlpCommune$Slope;" "AlpCommune" ∈ zNest := zNest_mem 254 (by decide +kernel) (by decide +kernel)
theorem zf_X10_322 (C : zCx E cc RX10 nL ret Z h) {i : Nat} (hk : i < zN 38) (hd : decode cc pc = .ok (.getfield 322, 3)) (kk : zKO E nL Z QQ (pc + 3) L (.ref (zad Z 39 0) :: st) σ o) : zKO E nL Z QQ pc L (.ref (zad Z 38 i) :: st) σ o := zr_getN C 0 zin_X7 rfl (Nat.le_of_ble_eq_true rfl) rfl wz_n254 hd hk rfl rfl kk
theorem wz_n231 : Cond.fieldLinkNest "AlpCommune" (326 : Nat) "AlpCommune$Slope" "age" "I" "AlpCommune" ∈ zNest := zNest_mem 231 (by decide +kernel) (by decide +kernel)
theorem zp_X10_326 (C : zCx E cc RX10 nL ret Z h) {i : Nat} {x : Int32} (hk : i < zN 40) (hd : decode cc pc = .ok (.putfield 326, 3)) (kk : zKO E nL Z QQ (pc + 3) L st (zwi σ 40 i 0 x) o) : zKO E nL Z QQ pc L (.int x :: .ref (zad Z 40 i) :: st) σ o :=
  zr_putN C 0 zin_X6 rfl (Nat.le_of_ble_eq_true rfl) rfl tyX6_ok nmX6 rfl (ty := .int) (σ1 := zwi σ 40 i 0 x) (by decide +kernel) wz_n231 hd hk rfl (Nat.le_of_ble_eq_true rfl) rfl rfl (fun a b q => zu_off _ _ _ q) (fun a b q => rfl) (by
    show zE Z 40 i (zu σ.1 40 i 0 x 40 i) _ = _
    rw [zu_at]
    rfl) kk
theorem zp_X10_321 (C : zCx E cc RX10 nL ret Z h) {i : Nat} {x : Int32} (hk : i < zN 38) (hd : decode cc pc = .ok (.putfield 321, 3)) (kk : zKO E nL Z QQ (pc + 3) L st (zwi σ 38 i 1 x) o) : zKO E nL Z QQ pc L (.int x :: .ref (zad Z 38 i) :: st) σ o :=
  zr_putN C 1 zin_X7 rfl (Nat.le_of_ble_eq_true rfl) rfl tyX7_ok nmX7 rfl (ty := .int) (σ1 := zwi σ 38 i 1 x) (by decide +kernel) wz_n256 hd hk rfl (Nat.le_of_ble_eq_true rfl) rfl rfl (fun a b q => zu_off _ _ _ q) (fun a b q => rfl) (by
    show zE Z 38 i (zu σ.1 38 i 1 x 38 i) _ = _
    rw [zu_at]
    rfl) kk
theorem wz_n233 : Cond.fieldLinkNest "AlpCommune" (335 : Nat) "AlpCommune$Slope" "layers" "I" "AlpCommune" ∈ zNest := zNest_mem 233 (by decide +kernel) (by decide +kernel)
theorem zf_X10_335 (C : zCx E cc RX10 nL ret Z h) {i : Nat} (hk : i < zN 40) (hd : decode cc pc = .ok (.getfield 335, 3)) (kk : zKO E nL Z QQ (pc + 3) L (.int (σ.1 40 i 1) :: st) σ o) : zKO E nL Z QQ pc L (.ref (zad Z 40 i) :: st) σ o := zr_getN C 1 zin_X6 rfl (Nat.le_of_ble_eq_true rfl) rfl wz_n233 hd hk rfl rfl kk
theorem wz_n875 : Cond.methodLinkNest "AlpCommune" (350 : Nat) ({ cls := "AlpCommune$Slope", name := "layerOf", desc := "(I)I" } : MethodName) "AlpCommune" ∈ zNest := zNest_mem 875 (by decide +kernel) (by decide +kernel)
theorem wz_p55 : Cond.selects yX6_layerOf.cls yX6_layerOf yX6_layerOf ∈ zTB := zTB_mem 55 (by decide +kernel) (by decide +kernel)
theorem wz_877 : Cond.instanceMethod ({ cls := "AlpCommune$Slope", name := "layerOf", desc := "(I)I" } : MethodName) ∈ zTB := zTB_mem 1003 (by decide +kernel) (by decide +kernel)
theorem wz_878 : Cond.code yX6_layerOf cX6_layerOf 2 (some .int) ∈ zTB := zTB_mem 1004 (by decide +kernel) (by decide +kernel)
theorem zf_X10_326 (C : zCx E cc RX10 nL ret Z h) {i : Nat} (hk : i < zN 40) (hd : decode cc pc = .ok (.getfield 326, 3)) (kk : zKO E nL Z QQ (pc + 3) L (.int (σ.1 40 i 0) :: st) σ o) : zKO E nL Z QQ pc L (.ref (zad Z 40 i) :: st) σ o := zr_getN C 0 zin_X6 rfl (Nat.le_of_ble_eq_true rfl) rfl wz_n231 hd hk rfl rfl kk
theorem wz_n237 : Cond.fieldLinkNest "AlpCommune" (332 : Nat) "AlpCommune$Slope" "hasWorks" "Z" "AlpCommune" ∈ zNest := zNest_mem 237 (by decide +kernel) (by decide +kernel)
theorem zf_X10_332 (C : zCx E cc RX10 nL ret Z h) {i : Nat} (hk : i < zN 40) (hd : decode cc pc = .ok (.getfield 332, 3)) (kk : zKO E nL Z QQ (pc + 3) L (.int (σ.1 40 i 3) :: st) σ o) : zKO E nL Z QQ pc L (.ref (zad Z 40 i) :: st) σ o := zr_getN C 3 zin_X6 rfl (Nat.le_of_ble_eq_true rfl) rfl wz_n237 hd hk rfl rfl kk
theorem wz_n869 : Cond.methodLinkNest "AlpCommune" (338 : Nat) ({ cls := "AlpCommune$Slope", name := "lyingFrom", desc := "(I)I" } : MethodName) "AlpCommune" ∈ zNest := zNest_mem 869 (by decide +kernel) (by decide +kernel)
theorem wz_n870 : Cond.methodLinkNest "AlpCommune" (341 : Nat) ({ cls := "AlpCommune$Slope", name := "risk", desc := "(I)I" } : MethodName) "AlpCommune" ∈ zNest := zNest_mem 870 (by decide +kernel) (by decide +kernel)
theorem wz_p54 : Cond.selects yX6_risk.cls yX6_risk yX6_risk ∈ zTB := zTB_mem 54 (by decide +kernel) (by decide +kernel)
theorem wz_872 : Cond.instanceMethod ({ cls := "AlpCommune$Slope", name := "risk", desc := "(I)I" } : MethodName) ∈ zTB := zTB_mem 998 (by decide +kernel) (by decide +kernel)
theorem wz_873 : Cond.code yX6_risk cX6_risk 2 (some .int) ∈ zTB := zTB_mem 999 (by decide +kernel) (by decide +kernel)
theorem wz_n874 : Cond.methodLinkNest "AlpCommune" (344 : Nat) ({ cls := "AlpCommune$Slope", name := "bears", desc := "(I)I" } : MethodName) "AlpCommune" ∈ zNest := zNest_mem 874 (by decide +kernel) (by decide +kernel)
theorem wz_n235 : Cond.fieldLinkNest "AlpCommune" (347 : Nat) "AlpCommune$Slope" "slid" "I" "AlpCommune" ∈ zNest := zNest_mem 235 (by decide +kernel) (by decide +kernel)
theorem zf_X10_347 (C : zCx E cc RX10 nL ret Z h) {i : Nat} (hk : i < zN 40) (hd : decode cc pc = .ok (.getfield 347, 3)) (kk : zKO E nL Z QQ (pc + 3) L (.int (σ.1 40 i 2) :: st) σ o) : zKO E nL Z QQ pc L (.ref (zad Z 40 i) :: st) σ o := zr_getN C 2 zin_X6 rfl (Nat.le_of_ble_eq_true rfl) rfl wz_n235 hd hk rfl rfl kk
theorem wz_n865 : Cond.methodLinkNest "AlpCommune" (331 : Nat) ({ cls := "AlpCommune$Way", name := "has", desc := "(I)Z" } : MethodName) "AlpCommune" ∈ zNest := zNest_mem 865 (by decide +kernel) (by decide +kernel)
theorem wz_p53 : Cond.selects yX7_has.cls yX7_has yX7_has ∈ zTB := zTB_mem 53 (by decide +kernel) (by decide +kernel)
theorem wz_867 : Cond.instanceMethod ({ cls := "AlpCommune$Way", name := "has", desc := "(I)Z" } : MethodName) ∈ zTB := zTB_mem 993 (by decide +kernel) (by decide +kernel)
theorem wz_868 : Cond.code yX7_has cX7_has 2 (some .boolean) ∈ zTB := zTB_mem 994 (by decide +kernel) (by decide +kernel)
theorem zp_X10_332 (C : zCx E cc RX10 nL ret Z h) {i : Nat} {x : Int32} (hk : i < zN 40) (hd : decode cc pc = .ok (.putfield 332, 3)) (kk : zKO E nL Z QQ (pc + 3) L st (zwi σ 40 i 3 x) o) : zKO E nL Z QQ pc L (.int x :: .ref (zad Z 40 i) :: st) σ (zg (zbo x) o) :=
  zr_g fun hb => zr_putN C 3 zin_X6 rfl (Nat.le_of_ble_eq_true rfl) rfl tyX6_ok nmX6 rfl (ty := .boolean) (σ1 := zwi σ 40 i 3 x) (by decide +kernel) wz_n237 hd hk rfl (Nat.le_of_ble_eq_true rfl) (zbo_nar hb) (zbo_fit hb) (fun a b q => zu_off _ _ _ q) (fun a b q => rfl) (by
    show zE Z 40 i (zu σ.1 40 i 3 x 40 i) _ = _
    rw [zu_at]
    rfl) kk
theorem wz_n258 : Cond.fieldLinkNest "AlpCommune" (353 : Nat) "AlpCommune$Way" "isShut" "Z" "AlpCommune" ∈ zNest := zNest_mem 258 (by decide +kernel) (by decide +kernel)
theorem zf_X10_353 (C : zCx E cc RX10 nL ret Z h) {i : Nat} (hk : i < zN 38) (hd : decode cc pc = .ok (.getfield 353, 3)) (kk : zKO E nL Z QQ (pc + 3) L (.int (σ.1 38 i 2) :: st) σ o) : zKO E nL Z QQ pc L (.ref (zad Z 38 i) :: st) σ o := zr_getN C 2 zin_X7 rfl (Nat.le_of_ble_eq_true rfl) rfl wz_n258 hd hk rfl rfl kk
theorem zp_X10_353 (C : zCx E cc RX10 nL ret Z h) {i : Nat} {x : Int32} (hk : i < zN 38) (hd : decode cc pc = .ok (.putfield 353, 3)) (kk : zKO E nL Z QQ (pc + 3) L st (zwi σ 38 i 2 x) o) : zKO E nL Z QQ pc L (.int x :: .ref (zad Z 38 i) :: st) σ (zg (zbo x) o) :=
  zr_g fun hb => zr_putN C 2 zin_X7 rfl (Nat.le_of_ble_eq_true rfl) rfl tyX7_ok nmX7 rfl (ty := .boolean) (σ1 := zwi σ 38 i 2 x) (by decide +kernel) wz_n258 hd hk rfl (Nat.le_of_ble_eq_true rfl) (zbo_nar hb) (zbo_fit hb) (fun a b q => zu_off _ _ _ q) (fun a b q => rfl) (by
    show zE Z 38 i (zu σ.1 38 i 2 x 38 i) _ = _
    rw [zu_at]
    rfl) kk
theorem zp_X10_111 (C : zCx E cc RX10 nL ret Z h) {i : Nat} {x : Int32} (hk : i < zN 2) (hd : decode cc pc = .ok (.putfield 111, 3)) (kk : zKO E nL Z QQ (pc + 3) L st (zwi σ 2 i 5 x) o) : zKO E nL Z QQ pc L (.int x :: .ref (zad Z 2 i) :: st) σ o :=
  zr_putN C 5 zin_X2 rfl (Nat.le_of_ble_eq_true rfl) rfl tyX2_ok nmX2 rfl (ty := .int) (σ1 := zwi σ 2 i 5 x) (by decide +kernel) wz_n318 hd hk rfl (Nat.le_of_ble_eq_true rfl) rfl rfl (fun a b q => zu_off _ _ _ q) (fun a b q => rfl) (by
    show zE Z 2 i (zu σ.1 2 i 5 x 2 i) _ = _
    rw [zu_at]
    rfl) kk
theorem zf_X10_315 (C : zCx E cc RX10 nL ret Z h) {i : Nat} (hk : i < zN 0) (hd : decode cc pc = .ok (.getfield 315, 3)) (kk : zKO E nL Z QQ (pc + 3) L (.int (σ.1 0 i 12) :: st) σ o) : zKO E nL Z QQ pc L (.ref (zad Z 0 i) :: st) σ o := zr_get C 12 zin_X10 rfl (Nat.le_of_ble_eq_true rfl) rfl wz_384 hd hk rfl rfl kk
theorem wz_n326 : Cond.fieldLinkNest "AlpCommune" (368 : Nat) "AlpCommune$House" "rest" "I" "AlpCommune" ∈ zNest := zNest_mem 326 (by decide +kernel) (by decide +kernel)
theorem zf_X10_368 (C : zCx E cc RX10 nL ret Z h) {i : Nat} (hk : i < zN 2) (hd : decode cc pc = .ok (.getfield 368, 3)) (kk : zKO E nL Z QQ (pc + 3) L (.int (σ.1 2 i 9) :: st) σ o) : zKO E nL Z QQ pc L (.ref (zad Z 2 i) :: st) σ o := zr_getN C 9 zin_X2 rfl (Nat.le_of_ble_eq_true rfl) rfl wz_n326 hd hk rfl rfl kk
theorem wz_n324 : Cond.fieldLinkNest "AlpCommune" (371 : Nat) "AlpCommune$House" "newWheels" "I" "AlpCommune" ∈ zNest := zNest_mem 324 (by decide +kernel) (by decide +kernel)
theorem zf_X10_371 (C : zCx E cc RX10 nL ret Z h) {i : Nat} (hk : i < zN 2) (hd : decode cc pc = .ok (.getfield 371, 3)) (kk : zKO E nL Z QQ (pc + 3) L (.int (σ.1 2 i 8) :: st) σ o) : zKO E nL Z QQ pc L (.ref (zad Z 2 i) :: st) σ o := zr_getN C 8 zin_X2 rfl (Nat.le_of_ble_eq_true rfl) rfl wz_n324 hd hk rfl rfl kk
theorem wz_n895 : Cond.methodLinkNest "AlpCommune" (356 : Nat) ({ cls := "AlpCommune$House", name := "partWheels", desc := "(II)I" } : MethodName) "AlpCommune" ∈ zNest := zNest_mem 895 (by decide +kernel) (by decide +kernel)
theorem wz_p56 : Cond.selects yX2_partWheels.cls yX2_partWheels yX2_partWheels ∈ zTB := zTB_mem 56 (by decide +kernel) (by decide +kernel)
theorem wz_897 : Cond.instanceMethod ({ cls := "AlpCommune$House", name := "partWheels", desc := "(II)I" } : MethodName) ∈ zTB := zTB_mem 1023 (by decide +kernel) (by decide +kernel)
theorem wz_898 : Cond.code yX2_partWheels cX2_partWheels 3 (some .int) ∈ zTB := zTB_mem 1024 (by decide +kernel) (by decide +kernel)
theorem wz_n908 : Cond.methodLinkNest "AlpCommune" (362 : Nat) ({ cls := "AlpCommune$House", name := "takeWheels", desc := "(I)V" } : MethodName) "AlpCommune" ∈ zNest := zNest_mem 908 (by decide +kernel) (by decide +kernel)
theorem wz_904 : Cond.methodLink "AlpCommune" (359 : Nat) ({ cls := "AlpCommune", name := "withMostRest", desc := "()I" } : MethodName) ∈ zTB := zTB_mem 1030 (by decide +kernel) (by decide +kernel)
theorem wz_p58 : Cond.selects yX10_withMostRest.cls yX10_withMostRest yX10_withMostRest ∈ zTB := zTB_mem 58 (by decide +kernel) (by decide +kernel)
theorem wz_906 : Cond.instanceMethod ({ cls := "AlpCommune", name := "withMostRest", desc := "()I" } : MethodName) ∈ zTB := zTB_mem 1032 (by decide +kernel) (by decide +kernel)
theorem wz_907 : Cond.code yX10_withMostRest cX10_withMostRest 3 (some .int) ∈ zTB := zTB_mem 1033 (by decide +kernel) (by decide +kernel)
theorem wz_909 : Cond.methodLink "AlpCommune" (365 : Nat) ({ cls := "AlpCommune", name := "withLeastRest", desc := "()I" } : MethodName) ∈ zTB := zTB_mem 1035 (by decide +kernel) (by decide +kernel)
theorem wz_p59 : Cond.selects yX10_withLeastRest.cls yX10_withLeastRest yX10_withLeastRest ∈ zTB := zTB_mem 59 (by decide +kernel) (by decide +kernel)
theorem wz_911 : Cond.instanceMethod ({ cls := "AlpCommune", name := "withLeastRest", desc := "()I" } : MethodName) ∈ zTB := zTB_mem 1037 (by decide +kernel) (by decide +kernel)
theorem wz_912 : Cond.code yX10_withLeastRest cX10_withLeastRest 3 (some .int) ∈ zTB := zTB_mem 1038 (by decide +kernel) (by decide +kernel)
theorem wz_917 : Cond.constant "AlpCommune" (374 : Nat) (-1000000 : Int32) ∈ zTB := zTB_mem 1043 (by decide +kernel) (by decide +kernel)
theorem wz_926 : Cond.methodLink "AlpCommune" (384 : Nat) ({ cls := "java/lang/Math", name := "min", desc := "(II)I" } : MethodName) ∈ zTB := zTB_mem 1052 (by decide +kernel) (by decide +kernel)
theorem zp_X10_120 (C : zCx E cc RX10 nL ret Z h) {i : Nat} {x : Int32} (hk : i < zN 2) (hd : decode cc pc = .ok (.putfield 120, 3)) (kk : zKO E nL Z QQ (pc + 3) L st (zwi σ 2 i 10 x) o) : zKO E nL Z QQ pc L (.int x :: .ref (zad Z 2 i) :: st) σ o :=
  zr_putN C 10 zin_X2 rfl (Nat.le_of_ble_eq_true rfl) rfl tyX2_ok nmX2 rfl (ty := .int) (σ1 := zwi σ 2 i 10 x) (by decide +kernel) wz_n327 hd hk rfl (Nat.le_of_ble_eq_true rfl) rfl rfl (fun a b q => zu_off _ _ _ q) (fun a b q => rfl) (by
    show zE Z 2 i (zu σ.1 2 i 10 x 2 i) _ = _
    rw [zu_at]
    rfl) kk
theorem zp_X10_99 (C : zCx E cc RX10 nL ret Z h) {i : Nat} {x : Int32} (hk : i < zN 2) (hd : decode cc pc = .ok (.putfield 99, 3)) (kk : zKO E nL Z QQ (pc + 3) L st (zwi σ 2 i 2 x) o) : zKO E nL Z QQ pc L (.int x :: .ref (zad Z 2 i) :: st) σ o :=
  zr_putN C 2 zin_X2 rfl (Nat.le_of_ble_eq_true rfl) rfl tyX2_ok nmX2 rfl (ty := .int) (σ1 := zwi σ 2 i 2 x) (by decide +kernel) wz_n313 hd hk rfl (Nat.le_of_ble_eq_true rfl) rfl rfl (fun a b q => zu_off _ _ _ q) (fun a b q => rfl) (by
    show zE Z 2 i (zu σ.1 2 i 2 x 2 i) _ = _
    rw [zu_at]
    rfl) kk
theorem wz_n265 : Cond.fieldLinkNest "AlpCommune" (375 : Nat) "AlpCommune$Way" "felled" "I" "AlpCommune" ∈ zNest := zNest_mem 265 (by decide +kernel) (by decide +kernel)
theorem zf_X10_375 (C : zCx E cc RX10 nL ret Z h) {i : Nat} (hk : i < zN 38) (hd : decode cc pc = .ok (.getfield 375, 3)) (kk : zKO E nL Z QQ (pc + 3) L (.int (σ.1 38 i 6) :: st) σ o) : zKO E nL Z QQ pc L (.ref (zad Z 38 i) :: st) σ o := zr_getN C 6 zin_X7 rfl (Nat.le_of_ble_eq_true rfl) rfl wz_n265 hd hk rfl rfl kk
theorem zp_X10_375 (C : zCx E cc RX10 nL ret Z h) {i : Nat} {x : Int32} (hk : i < zN 38) (hd : decode cc pc = .ok (.putfield 375, 3)) (kk : zKO E nL Z QQ (pc + 3) L st (zwi σ 38 i 6 x) o) : zKO E nL Z QQ pc L (.int x :: .ref (zad Z 38 i) :: st) σ o :=
  zr_putN C 6 zin_X7 rfl (Nat.le_of_ble_eq_true rfl) rfl tyX7_ok nmX7 rfl (ty := .int) (σ1 := zwi σ 38 i 6 x) (by decide +kernel) wz_n265 hd hk rfl (Nat.le_of_ble_eq_true rfl) rfl rfl (fun a b q => zu_off _ _ _ q) (fun a b q => rfl) (by
    show zE Z 38 i (zu σ.1 38 i 6 x 38 i) _ = _
    rw [zu_at]
    rfl) kk
theorem wz_927 : Cond.methodLink "AlpCommune" (381 : Nat) ({ cls := "AlpCommune", name := "sellLogs", desc := "(I)V" } : MethodName) ∈ zTB := zTB_mem 1053 (by decide +kernel) (by decide +kernel)
theorem wz_p61 : Cond.selects yX10_sellLogs.cls yX10_sellLogs yX10_sellLogs ∈ zTB := zTB_mem 61 (by decide +kernel) (by decide +kernel)
theorem wz_929 : Cond.instanceMethod ({ cls := "AlpCommune", name := "sellLogs", desc := "(I)V" } : MethodName) ∈ zTB := zTB_mem 1055 (by decide +kernel) (by decide +kernel)
theorem wz_930 : Cond.code yX10_sellLogs cX10_sellLogs 5 none ∈ zTB := zTB_mem 1056 (by decide +kernel) (by decide +kernel)
theorem wz_922 : Cond.methodLink "AlpCommune" (378 : Nat) ({ cls := "AlpCommune", name := "handOutLogs", desc := "(II)I" } : MethodName) ∈ zTB := zTB_mem 1048 (by decide +kernel) (by decide +kernel)
theorem wz_p60 : Cond.selects yX10_handOutLogs.cls yX10_handOutLogs yX10_handOutLogs ∈ zTB := zTB_mem 60 (by decide +kernel) (by decide +kernel)
theorem wz_924 : Cond.instanceMethod ({ cls := "AlpCommune", name := "handOutLogs", desc := "(II)I" } : MethodName) ∈ zTB := zTB_mem 1050 (by decide +kernel) (by decide +kernel)
theorem wz_925 : Cond.code yX10_handOutLogs cX10_handOutLogs 7 (some .int) ∈ zTB := zTB_mem 1051 (by decide +kernel) (by decide +kernel)
theorem wz_379 : Cond.fieldLink "AlpCommune" (53 : Nat) "AlpCommune" "water" "LAlpCommune$Channel;" ∈ zTB := zTB_mem 505 (by decide +kernel) (by decide +kernel)
theorem zf_X10_53 (C : zCx E cc RX10 nL ret Z h) {i : Nat} (hk : i < zN 0) (hd : decode cc pc = .ok (.getfield 53, 3)) (kk : zKO E nL Z QQ (pc + 3) L (.ref (zad Z 43 0) :: st) σ o) : zKO E nL Z QQ pc L (.ref (zad Z 0 i) :: st) σ o := zr_get C 7 zin_X10 rfl (Nat.le_of_ble_eq_true rfl) rfl wz_379 hd hk rfl rfl kk
theorem wz_n292 : Cond.fieldLinkNest "AlpCommune" (389 : Nat) "AlpCommune$Channel" "count" "I" "AlpCommune" ∈ zNest := zNest_mem 292 (by decide +kernel) (by decide +kernel)
theorem zf_X10_389 (C : zCx E cc RX10 nL ret Z h) {i : Nat} (hk : i < zN 43) (hd : decode cc pc = .ok (.getfield 389, 3)) (kk : zKO E nL Z QQ (pc + 3) L (.int (σ.1 43 i 2) :: st) σ o) : zKO E nL Z QQ pc L (.ref (zad Z 43 i) :: st) σ o := zr_getN C 2 zin_X1 rfl (Nat.le_of_ble_eq_true rfl) rfl wz_n292 hd hk rfl rfl kk
theorem wz_n288 : Cond.fieldLinkNest "AlpCommune" (390 : Nat) "AlpCommune$Channel" "house" "[I" "AlpCommune" ∈ zNest := zNest_mem 288 (by decide +kernel) (by decide +kernel)
theorem zf_X10_390 (C : zCx E cc RX10 nL ret Z h) {i : Nat} (hk : i < zN 43) (hd : decode cc pc = .ok (.getfield 390, 3)) (kk : zKO E nL Z QQ (pc + 3) L (.ref (zad Z 44 0) :: st) σ o) : zKO E nL Z QQ pc L (.ref (zad Z 43 i) :: st) σ o := zr_getN C 0 zin_X1 rfl (Nat.le_of_ble_eq_true rfl) rfl wz_n288 hd hk rfl rfl kk
theorem wz_n290 : Cond.fieldLinkNest "AlpCommune" (393 : Nat) "AlpCommune$Channel" "leak" "[I" "AlpCommune" ∈ zNest := zNest_mem 290 (by decide +kernel) (by decide +kernel)
theorem zf_X10_393 (C : zCx E cc RX10 nL ret Z h) {i : Nat} (hk : i < zN 43) (hd : decode cc pc = .ok (.getfield 393, 3)) (kk : zKO E nL Z QQ (pc + 3) L (.ref (zad Z 45 0) :: st) σ o) : zKO E nL Z QQ pc L (.ref (zad Z 43 i) :: st) σ o := zr_getN C 1 zin_X1 rfl (Nat.le_of_ble_eq_true rfl) rfl wz_n290 hd hk rfl rfl kk
theorem zp_X10_389 (C : zCx E cc RX10 nL ret Z h) {i : Nat} {x : Int32} (hk : i < zN 43) (hd : decode cc pc = .ok (.putfield 389, 3)) (kk : zKO E nL Z QQ (pc + 3) L st (zwi σ 43 i 2 x) o) : zKO E nL Z QQ pc L (.int x :: .ref (zad Z 43 i) :: st) σ o :=
  zr_putN C 2 zin_X1 rfl (Nat.le_of_ble_eq_true rfl) rfl tyX1_ok nmX1 rfl (ty := .int) (σ1 := zwi σ 43 i 2 x) (by decide +kernel) wz_n292 hd hk rfl (Nat.le_of_ble_eq_true rfl) rfl rfl (fun a b q => zu_off _ _ _ q) (fun a b q => rfl) (by
    show zE Z 43 i (zu σ.1 43 i 2 x 43 i) _ = _
    rw [zu_at]
    rfl) kk
theorem wz_n939 : Cond.methodLinkNest "AlpCommune" (396 : Nat) ({ cls := "AlpCommune$Rights", name := "atHour", desc := "(I)I" } : MethodName) "AlpCommune" ∈ zNest := zNest_mem 939 (by decide +kernel) (by decide +kernel)
theorem wz_p62 : Cond.selects yX3_atHour.cls yX3_atHour yX3_atHour ∈ zTB := zTB_mem 62 (by decide +kernel) (by decide +kernel)
theorem wz_941 : Cond.instanceMethod ({ cls := "AlpCommune$Rights", name := "atHour", desc := "(I)I" } : MethodName) ∈ zTB := zTB_mem 1067 (by decide +kernel) (by decide +kernel)
theorem wz_942 : Cond.code yX3_atHour cX3_atHour 5 (some .int) ∈ zTB := zTB_mem 1068 (by decide +kernel) (by decide +kernel)
theorem wz_n948 : Cond.methodLinkNest "AlpCommune" (399 : Nat) ({ cls := "AlpCommune$Channel", name := "comesTo", desc := "(II)I" } : MethodName) "AlpCommune" ∈ zNest := zNest_mem 948 (by decide +kernel) (by decide +kernel)
theorem wz_p63 : Cond.selects yX1_comesTo.cls yX1_comesTo yX1_comesTo ∈ zTB := zTB_mem 63 (by decide +kernel) (by decide +kernel)
theorem wz_950 : Cond.instanceMethod ({ cls := "AlpCommune$Channel", name := "comesTo", desc := "(II)I" } : MethodName) ∈ zTB := zTB_mem 1076 (by decide +kernel) (by decide +kernel)
theorem wz_951 : Cond.code yX1_comesTo cX1_comesTo 5 (some .int) ∈ zTB := zTB_mem 1077 (by decide +kernel) (by decide +kernel)
theorem wz_9 : Cond.initialized "AlpCommune$Channel" ∈ zTB := zTB_mem 135 (by decide +kernel) (by decide +kernel)
theorem wz_960 : Cond.methodLink "AlpCommune" (408 : Nat) ({ cls := "AlpCommune", name := "takesTurn", desc := "(ILAlpCommune$House;)Z" } : MethodName) ∈ zTB := zTB_mem 1086 (by decide +kernel) (by decide +kernel)
theorem wz_961 : Cond.static ({ cls := "AlpCommune", name := "takesTurn", desc := "(ILAlpCommune$House;)Z" } : MethodName) ∈ zTB := zTB_mem 1087 (by decide +kernel) (by decide +kernel)
theorem wz_962 : Cond.code yX10_takesTurn cX10_takesTurn 2 (some .boolean) ∈ zTB := zTB_mem 1088 (by decide +kernel) (by decide +kernel)
theorem wz_386 : Cond.fieldLink "AlpCommune" (72 : Nat) "AlpCommune" "lastTurn" "[I" ∈ zTB := zTB_mem 512 (by decide +kernel) (by decide +kernel)
theorem zf_X10_72 (C : zCx E cc RX10 nL ret Z h) {i : Nat} (hk : i < zN 0) (hd : decode cc pc = .ok (.getfield 72, 3)) (kk : zKO E nL Z QQ (pc + 3) L (.ref (zad Z 51 0) :: st) σ o) : zKO E nL Z QQ pc L (.ref (zad Z 0 i) :: st) σ o := zr_get C 14 zin_X10 rfl (Nat.le_of_ble_eq_true rfl) rfl wz_386 hd hk rfl rfl kk
theorem wz_387 : Cond.fieldLink "AlpCommune" (402 : Nat) "AlpCommune" "watched" "I" ∈ zTB := zTB_mem 513 (by decide +kernel) (by decide +kernel)
theorem zp_X10_402 (C : zCx E cc RX10 nL ret Z h) {i : Nat} {x : Int32} (hk : i < zN 0) (hd : decode cc pc = .ok (.putfield 402, 3)) (kk : zKO E nL Z QQ (pc + 3) L st (zwi σ 0 i 15 x) o) : zKO E nL Z QQ pc L (.int x :: .ref (zad Z 0 i) :: st) σ o :=
  zr_put C 15 zin_X10 rfl (Nat.le_of_ble_eq_true rfl) rfl tyX10_ok nmX10 rfl (ty := .int) (σ1 := zwi σ 0 i 15 x) (by decide +kernel) wz_387 hd hk rfl (Nat.le_of_ble_eq_true rfl) rfl rfl (fun a b q => zu_off _ _ _ q) (fun a b q => rfl) (by
    show zE Z 0 i (zu σ.1 0 i 15 x 0 i) _ = _
    rw [zu_at]
    rfl) kk
theorem wz_956 : Cond.methodLink "AlpCommune" (405 : Nat) ({ cls := "AlpCommune", name := "nextTurn", desc := "(II)I" } : MethodName) ∈ zTB := zTB_mem 1082 (by decide +kernel) (by decide +kernel)
theorem wz_p64 : Cond.selects yX10_nextTurn.cls yX10_nextTurn yX10_nextTurn ∈ zTB := zTB_mem 64 (by decide +kernel) (by decide +kernel)
theorem wz_958 : Cond.instanceMethod ({ cls := "AlpCommune", name := "nextTurn", desc := "(II)I" } : MethodName) ∈ zTB := zTB_mem 1084 (by decide +kernel) (by decide +kernel)
theorem wz_959 : Cond.code yX10_nextTurn cX10_nextTurn 5 (some .int) ∈ zTB := zTB_mem 1085 (by decide +kernel) (by decide +kernel)
theorem zf_X10_402 (C : zCx E cc RX10 nL ret Z h) {i : Nat} (hk : i < zN 0) (hd : decode cc pc = .ok (.getfield 402, 3)) (kk : zKO E nL Z QQ (pc + 3) L (.int (σ.1 0 i 15) :: st) σ o) : zKO E nL Z QQ pc L (.ref (zad Z 0 i) :: st) σ o := zr_get C 15 zin_X10 rfl (Nat.le_of_ble_eq_true rfl) rfl wz_387 hd hk rfl rfl kk
theorem zp_X10_123 (C : zCx E cc RX10 nL ret Z h) {i : Nat} {x : Int32} (hk : i < zN 2) (hd : decode cc pc = .ok (.putfield 123, 3)) (kk : zKO E nL Z QQ (pc + 3) L st (zwi σ 2 i 11 x) o) : zKO E nL Z QQ pc L (.int x :: .ref (zad Z 2 i) :: st) σ o :=
  zr_putN C 11 zin_X2 rfl (Nat.le_of_ble_eq_true rfl) rfl tyX2_ok nmX2 rfl (ty := .int) (σ1 := zwi σ 2 i 11 x) (by decide +kernel) wz_n328 hd hk rfl (Nat.le_of_ble_eq_true rfl) rfl rfl (fun a b q => zu_off _ _ _ q) (fun a b q => rfl) (by
    show zE Z 2 i (zu σ.1 2 i 11 x 2 i) _ = _
    rw [zu_at]
    rfl) kk
theorem wz_385 : Cond.fieldLink "AlpCommune" (68 : Nat) "AlpCommune" "yearTold" "I" ∈ zTB := zTB_mem 511 (by decide +kernel) (by decide +kernel)
theorem zf_X10_68 (C : zCx E cc RX10 nL ret Z h) {i : Nat} (hk : i < zN 0) (hd : decode cc pc = .ok (.getfield 68, 3)) (kk : zKO E nL Z QQ (pc + 3) L (.int (σ.1 0 i 13) :: st) σ o) : zKO E nL Z QQ pc L (.ref (zad Z 0 i) :: st) σ o := zr_get C 13 zin_X10 rfl (Nat.le_of_ble_eq_true rfl) rfl wz_385 hd hk rfl rfl kk
theorem zp_X10_68 (C : zCx E cc RX10 nL ret Z h) {i : Nat} {x : Int32} (hk : i < zN 0) (hd : decode cc pc = .ok (.putfield 68, 3)) (kk : zKO E nL Z QQ (pc + 3) L st (zwi σ 0 i 13 x) o) : zKO E nL Z QQ pc L (.int x :: .ref (zad Z 0 i) :: st) σ o :=
  zr_put C 13 zin_X10 rfl (Nat.le_of_ble_eq_true rfl) rfl tyX10_ok nmX10 rfl (ty := .int) (σ1 := zwi σ 0 i 13 x) (by decide +kernel) wz_385 hd hk rfl (Nat.le_of_ble_eq_true rfl) rfl rfl (fun a b q => zu_off _ _ _ q) (fun a b q => rfl) (by
    show zE Z 0 i (zu σ.1 0 i 13 x 0 i) _ = _
    rw [zu_at]
    rfl) kk
theorem wz_n184 : Cond.fieldLinkNest "AlpCommune" (424 : Nat) "AlpCommune$Alps" "planCows" "[I" "AlpCommune" ∈ zNest := zNest_mem 184 (by decide +kernel) (by decide +kernel)
theorem zf_X10_424 (C : zCx E cc RX10 nL ret Z h) {i : Nat} (hk : i < zN 25) (hd : decode cc pc = .ok (.getfield 424, 3)) (kk : zKO E nL Z QQ (pc + 3) L (.ref (zad Z 32 0) :: st) σ o) : zKO E nL Z QQ pc L (.ref (zad Z 25 i) :: st) σ o := zr_getN C 7 zin_X0 rfl (Nat.le_of_ble_eq_true rfl) rfl wz_n184 hd hk rfl rfl kk
theorem wz_n180 : Cond.fieldLinkNest "AlpCommune" (427 : Nat) "AlpCommune$Alps" "planWarm" "[I" "AlpCommune" ∈ zNest := zNest_mem 180 (by decide +kernel) (by decide +kernel)
theorem zf_X10_427 (C : zCx E cc RX10 nL ret Z h) {i : Nat} (hk : i < zN 25) (hd : decode cc pc = .ok (.getfield 427, 3)) (kk : zKO E nL Z QQ (pc + 3) L (.ref (zad Z 30 0) :: st) σ o) : zKO E nL Z QQ pc L (.ref (zad Z 25 i) :: st) σ o := zr_getN C 5 zin_X0 rfl (Nat.le_of_ble_eq_true rfl) rfl wz_n180 hd hk rfl rfl kk
theorem wz_n182 : Cond.fieldLinkNest "AlpCommune" (430 : Nat) "AlpCommune$Alps" "planFall" "[I" "AlpCommune" ∈ zNest := zNest_mem 182 (by decide +kernel) (by decide +kernel)
theorem zf_X10_430 (C : zCx E cc RX10 nL ret Z h) {i : Nat} (hk : i < zN 25) (hd : decode cc pc = .ok (.getfield 430, 3)) (kk : zKO E nL Z QQ (pc + 3) L (.ref (zad Z 31 0) :: st) σ o) : zKO E nL Z QQ pc L (.ref (zad Z 25 i) :: st) σ o := zr_getN C 6 zin_X0 rfl (Nat.le_of_ble_eq_true rfl) rfl wz_n182 hd hk rfl rfl kk
theorem wz_n186 : Cond.fieldLinkNest "AlpCommune" (433 : Nat) "AlpCommune$Alps" "planHunger" "[[I" "AlpCommune" ∈ zNest := zNest_mem 186 (by decide +kernel) (by decide +kernel)
theorem zf_X10_433 (C : zCx E cc RX10 nL ret Z h) {i : Nat} (hk : i < zN 25) (hd : decode cc pc = .ok (.getfield 433, 3)) (kk : zKO E nL Z QQ (pc + 3) L (.ref (zad Z 33 0) :: st) σ o) : zKO E nL Z QQ pc L (.ref (zad Z 25 i) :: st) σ o := zr_getN C 8 zin_X0 rfl (Nat.le_of_ble_eq_true rfl) rfl wz_n186 hd hk rfl rfl kk
theorem wz_n987 : Cond.methodLinkNest "AlpCommune" (439 : Nat) ({ cls := "AlpCommune$Alps", name := "hungerWith", desc := "(III)I" } : MethodName) "AlpCommune" ∈ zNest := zNest_mem 987 (by decide +kernel) (by decide +kernel)
theorem wz_p68 : Cond.selects yX0_hungerWith.cls yX0_hungerWith yX0_hungerWith ∈ zTB := zTB_mem 68 (by decide +kernel) (by decide +kernel)
theorem wz_989 : Cond.instanceMethod ({ cls := "AlpCommune$Alps", name := "hungerWith", desc := "(III)I" } : MethodName) ∈ zTB := zTB_mem 1115 (by decide +kernel) (by decide +kernel)
theorem wz_990 : Cond.code yX0_hungerWith cX0_hungerWith 10 (some .int) ∈ zTB := zTB_mem 1116 (by decide +kernel) (by decide +kernel)
theorem wz_n983 : Cond.methodLinkNest "AlpCommune" (436 : Nat) ({ cls := "AlpCommune$Alps", name := "cowsOfSome", desc := "(II)I" } : MethodName) "AlpCommune" ∈ zNest := zNest_mem 983 (by decide +kernel) (by decide +kernel)
theorem wz_p67 : Cond.selects yX0_cowsOfSome.cls yX0_cowsOfSome yX0_cowsOfSome ∈ zTB := zTB_mem 67 (by decide +kernel) (by decide +kernel)
theorem wz_985 : Cond.instanceMethod ({ cls := "AlpCommune$Alps", name := "cowsOfSome", desc := "(II)I" } : MethodName) ∈ zTB := zTB_mem 1111 (by decide +kernel) (by decide +kernel)
theorem wz_986 : Cond.code yX0_cowsOfSome cX0_cowsOfSome 5 (some .int) ∈ zTB := zTB_mem 1112 (by decide +kernel) (by decide +kernel)
theorem wz_n190 : Cond.fieldLinkNest "AlpCommune" (421 : Nat) "AlpCommune$Alps" "planBest" "[I" "AlpCommune" ∈ zNest := zNest_mem 190 (by decide +kernel) (by decide +kernel)
theorem zf_X10_421 (C : zCx E cc RX10 nL ret Z h) {i : Nat} (hk : i < zN 25) (hd : decode cc pc = .ok (.getfield 421, 3)) (kk : zKO E nL Z QQ (pc + 3) L (.ref (zad Z 37 0) :: st) σ o) : zKO E nL Z QQ pc L (.ref (zad Z 25 i) :: st) σ o := zr_getN C 11 zin_X0 rfl (Nat.le_of_ble_eq_true rfl) rfl wz_n190 hd hk rfl rfl kk
theorem wz_n991 : Cond.methodLinkNest "AlpCommune" (418 : Nat) ({ cls := "AlpCommune$Alps", name := "bestPlan", desc := "(I)I" } : MethodName) "AlpCommune" ∈ zNest := zNest_mem 991 (by decide +kernel) (by decide +kernel)
theorem wz_p69 : Cond.selects yX0_bestPlan.cls yX0_bestPlan yX0_bestPlan ∈ zTB := zTB_mem 69 (by decide +kernel) (by decide +kernel)
theorem wz_993 : Cond.instanceMethod ({ cls := "AlpCommune$Alps", name := "bestPlan", desc := "(I)I" } : MethodName) ∈ zTB := zTB_mem 1119 (by decide +kernel) (by decide +kernel)
theorem wz_994 : Cond.code yX0_bestPlan cX0_bestPlan 6 (some .int) ∈ zTB := zTB_mem 1120 (by decide +kernel) (by decide +kernel)
theorem wz_979 : Cond.methodLink "AlpCommune" (415 : Nat) ({ cls := "AlpCommune", name := "foreseeHunger", desc := "(III)V" } : MethodName) ∈ zTB := zTB_mem 1105 (by decide +kernel) (by decide +kernel)
theorem wz_p66 : Cond.selects yX10_foreseeHunger.cls yX10_foreseeHunger yX10_foreseeHunger ∈ zTB := zTB_mem 66 (by decide +kernel) (by decide +kernel)
theorem wz_981 : Cond.instanceMethod ({ cls := "AlpCommune", name := "foreseeHunger", desc := "(III)V" } : MethodName) ∈ zTB := zTB_mem 1107 (by decide +kernel) (by decide +kernel)
theorem wz_982 : Cond.code yX10_foreseeHunger cX10_foreseeHunger 7 none ∈ zTB := zTB_mem 1108 (by decide +kernel) (by decide +kernel)
theorem wz_975 : Cond.methodLink "AlpCommune" (412 : Nat) ({ cls := "AlpCommune", name := "listMembers", desc := "(I)I" } : MethodName) ∈ zTB := zTB_mem 1101 (by decide +kernel) (by decide +kernel)
theorem wz_p65 : Cond.selects yX10_listMembers.cls yX10_listMembers yX10_listMembers ∈ zTB := zTB_mem 65 (by decide +kernel) (by decide +kernel)
theorem wz_977 : Cond.instanceMethod ({ cls := "AlpCommune", name := "listMembers", desc := "(I)I" } : MethodName) ∈ zTB := zTB_mem 1103 (by decide +kernel) (by decide +kernel)
theorem wz_978 : Cond.code yX10_listMembers cX10_listMembers 4 (some .int) ∈ zTB := zTB_mem 1104 (by decide +kernel) (by decide +kernel)
theorem wz_389 : Cond.fieldLink "AlpCommune" (442 : Nat) "AlpCommune" "bodiesRun" "I" ∈ zTB := zTB_mem 515 (by decide +kernel) (by decide +kernel)
theorem zf_X10_442 (C : zCx E cc RX10 nL ret Z h) {i : Nat} (hk : i < zN 0) (hd : decode cc pc = .ok (.getfield 442, 3)) (kk : zKO E nL Z QQ (pc + 3) L (.int (σ.1 0 i 17) :: st) σ o) : zKO E nL Z QQ pc L (.ref (zad Z 0 i) :: st) σ o := zr_get C 17 zin_X10 rfl (Nat.le_of_ble_eq_true rfl) rfl wz_389 hd hk rfl rfl kk
theorem zp_X10_442 (C : zCx E cc RX10 nL ret Z h) {i : Nat} {x : Int32} (hk : i < zN 0) (hd : decode cc pc = .ok (.putfield 442, 3)) (kk : zKO E nL Z QQ (pc + 3) L st (zwi σ 0 i 17 x) o) : zKO E nL Z QQ pc L (.int x :: .ref (zad Z 0 i) :: st) σ o :=
  zr_put C 17 zin_X10 rfl (Nat.le_of_ble_eq_true rfl) rfl tyX10_ok nmX10 rfl (ty := .int) (σ1 := zwi σ 0 i 17 x) (by decide +kernel) wz_389 hd hk rfl (Nat.le_of_ble_eq_true rfl) rfl rfl (fun a b q => zu_off _ _ _ q) (fun a b q => rfl) (by
    show zE Z 0 i (zu σ.1 0 i 17 x 0 i) _ = _
    rw [zu_at]
    rfl) kk
theorem wz_388 : Cond.fieldLink "AlpCommune" (76 : Nat) "AlpCommune" "bodies" "[I" ∈ zTB := zTB_mem 514 (by decide +kernel) (by decide +kernel)
theorem zf_X10_76 (C : zCx E cc RX10 nL ret Z h) {i : Nat} (hk : i < zN 0) (hd : decode cc pc = .ok (.getfield 76, 3)) (kk : zKO E nL Z QQ (pc + 3) L (.ref (zad Z 52 0) :: st) σ o) : zKO E nL Z QQ pc L (.ref (zad Z 0 i) :: st) σ o := zr_get C 16 zin_X10 rfl (Nat.le_of_ble_eq_true rfl) rfl wz_388 hd hk rfl rfl kk
theorem wz_1019 : Cond.methodLink "AlpCommune" (454 : Nat) ({ cls := "AlpCommune", name := "enterBody", desc := "(I)V" } : MethodName) ∈ zTB := zTB_mem 1145 (by decide +kernel) (by decide +kernel)
theorem wz_p75 : Cond.selects yX10_enterBody.cls yX10_enterBody yX10_enterBody ∈ zTB := zTB_mem 75 (by decide +kernel) (by decide +kernel)
theorem wz_1021 : Cond.instanceMethod ({ cls := "AlpCommune", name := "enterBody", desc := "(I)V" } : MethodName) ∈ zTB := zTB_mem 1147 (by decide +kernel) (by decide +kernel)
theorem wz_1022 : Cond.code yX10_enterBody cX10_enterBody 2 none ∈ zTB := zTB_mem 1148 (by decide +kernel) (by decide +kernel)
theorem wz_1015 : Cond.methodLink "AlpCommune" (445 : Nat) ({ cls := "AlpCommune", name := "holdsBy", desc := "(II)I" } : MethodName) ∈ zTB := zTB_mem 1141 (by decide +kernel) (by decide +kernel)
theorem wz_p74 : Cond.selects yX10_holdsBy.cls yX10_holdsBy yX10_holdsBy ∈ zTB := zTB_mem 74 (by decide +kernel) (by decide +kernel)
theorem wz_1017 : Cond.instanceMethod ({ cls := "AlpCommune", name := "holdsBy", desc := "(II)I" } : MethodName) ∈ zTB := zTB_mem 1143 (by decide +kernel) (by decide +kernel)
theorem wz_1018 : Cond.code yX10_holdsBy cX10_holdsBy 5 (some .int) ∈ zTB := zTB_mem 1144 (by decide +kernel) (by decide +kernel)
theorem wz_1023 : Cond.methodLink "AlpCommune" (448 : Nat) ({ cls := "AlpCommune", name := "owesBy", desc := "(II)I" } : MethodName) ∈ zTB := zTB_mem 1149 (by decide +kernel) (by decide +kernel)
theorem wz_p76 : Cond.selects yX10_owesBy.cls yX10_owesBy yX10_owesBy ∈ zTB := zTB_mem 76 (by decide +kernel) (by decide +kernel)
theorem wz_1025 : Cond.instanceMethod ({ cls := "AlpCommune", name := "owesBy", desc := "(II)I" } : MethodName) ∈ zTB := zTB_mem 1151 (by decide +kernel) (by decide +kernel)
theorem wz_1026 : Cond.code yX10_owesBy cX10_owesBy 5 (some .int) ∈ zTB := zTB_mem 1152 (by decide +kernel) (by decide +kernel)
theorem wz_1027 : Cond.methodLink "AlpCommune" (451 : Nat) ({ cls := "AlpCommune", name := "passesBy", desc := "(II)I" } : MethodName) ∈ zTB := zTB_mem 1153 (by decide +kernel) (by decide +kernel)
theorem wz_p77 : Cond.selects yX10_passesBy.cls yX10_passesBy yX10_passesBy ∈ zTB := zTB_mem 77 (by decide +kernel) (by decide +kernel)
theorem wz_1029 : Cond.instanceMethod ({ cls := "AlpCommune", name := "passesBy", desc := "(II)I" } : MethodName) ∈ zTB := zTB_mem 1155 (by decide +kernel) (by decide +kernel)
theorem wz_1030 : Cond.code yX10_passesBy cX10_passesBy 5 (some .int) ∈ zTB := zTB_mem 1156 (by decide +kernel) (by decide +kernel)
theorem wz_n1039 : Cond.methodLinkNest "AlpCommune" (457 : Nat) ({ cls := "AlpCommune$Rights", name := "isUnder", desc := "(II)Z" } : MethodName) "AlpCommune" ∈ zNest := zNest_mem 1039 (by decide +kernel) (by decide +kernel)
theorem wz_1040 : Cond.static ({ cls := "AlpCommune$Rights", name := "isUnder", desc := "(II)Z" } : MethodName) ∈ zTB := zTB_mem 1166 (by decide +kernel) (by decide +kernel)
theorem wz_1041 : Cond.code yX3_isUnder cX3_isUnder 4 (some .boolean) ∈ zTB := zTB_mem 1167 (by decide +kernel) (by decide +kernel)
theorem wz_n260 : Cond.fieldLinkNest "AlpCommune" (460 : Nat) "AlpCommune$Way" "slides" "I" "AlpCommune" ∈ zNest := zNest_mem 260 (by decide +kernel) (by decide +kernel)
theorem zf_X10_460 (C : zCx E cc RX10 nL ret Z h) {i : Nat} (hk : i < zN 38) (hd : decode cc pc = .ok (.getfield 460, 3)) (kk : zKO E nL Z QQ (pc + 3) L (.int (σ.1 38 i 3) :: st) σ o) : zKO E nL Z QQ pc L (.ref (zad Z 38 i) :: st) σ o := zr_getN C 3 zin_X7 rfl (Nat.le_of_ble_eq_true rfl) rfl wz_n260 hd hk rfl rfl kk
theorem wz_n262 : Cond.fieldLinkNest "AlpCommune" (463 : Nat) "AlpCommune$Way" "missed" "I" "AlpCommune" ∈ zNest := zNest_mem 262 (by decide +kernel) (by decide +kernel)
theorem zf_X10_463 (C : zCx E cc RX10 nL ret Z h) {i : Nat} (hk : i < zN 38) (hd : decode cc pc = .ok (.getfield 463, 3)) (kk : zKO E nL Z QQ (pc + 3) L (.int (σ.1 38 i 4) :: st) σ o) : zKO E nL Z QQ pc L (.ref (zad Z 38 i) :: st) σ o := zr_getN C 4 zin_X7 rfl (Nat.le_of_ble_eq_true rfl) rfl wz_n262 hd hk rfl rfl kk
theorem wz_n264 : Cond.fieldLinkNest "AlpCommune" (466 : Nat) "AlpCommune$Way" "inVain" "I" "AlpCommune" ∈ zNest := zNest_mem 264 (by decide +kernel) (by decide +kernel)
theorem zf_X10_466 (C : zCx E cc RX10 nL ret Z h) {i : Nat} (hk : i < zN 38) (hd : decode cc pc = .ok (.getfield 466, 3)) (kk : zKO E nL Z QQ (pc + 3) L (.int (σ.1 38 i 5) :: st) σ o) : zKO E nL Z QQ pc L (.ref (zad Z 38 i) :: st) σ o := zr_getN C 5 zin_X7 rfl (Nat.le_of_ble_eq_true rfl) rfl wz_n264 hd hk rfl rfl kk
theorem wz_1048 : Cond.methodLink "AlpCommune" (469 : Nat) ({ cls := "AlpCommune", name := "wheelsGiven", desc := "()I" } : MethodName) ∈ zTB := zTB_mem 1174 (by decide +kernel) (by decide +kernel)
theorem wz_p78 : Cond.selects yX10_wheelsGiven.cls yX10_wheelsGiven yX10_wheelsGiven ∈ zTB := zTB_mem 78 (by decide +kernel) (by decide +kernel)
theorem wz_1050 : Cond.instanceMethod ({ cls := "AlpCommune", name := "wheelsGiven", desc := "()I" } : MethodName) ∈ zTB := zTB_mem 1176 (by decide +kernel) (by decide +kernel)
theorem wz_1051 : Cond.code yX10_wheelsGiven cX10_wheelsGiven 3 (some .int) ∈ zTB := zTB_mem 1177 (by decide +kernel) (by decide +kernel)
theorem wz_n1056 : Cond.methodLinkNest "AlpCommune" (472 : Nat) ({ cls := "AlpCommune$Sheet", name := "becomeRow", desc := "(II)V" } : MethodName) "AlpCommune" ∈ zNest := zNest_mem 1056 (by decide +kernel) (by decide +kernel)
theorem wz_p79 : Cond.selects yX4_becomeRow.cls yX4_becomeRow yX4_becomeRow ∈ zTB := zTB_mem 79 (by decide +kernel) (by decide +kernel)
theorem wz_1058 : Cond.instanceMethod ({ cls := "AlpCommune$Sheet", name := "becomeRow", desc := "(II)V" } : MethodName) ∈ zTB := zTB_mem 1184 (by decide +kernel) (by decide +kernel)
theorem wz_1059 : Cond.code yX4_becomeRow cX4_becomeRow 4 none ∈ zTB := zTB_mem 1185 (by decide +kernel) (by decide +kernel)
theorem wz_n1064 : Cond.methodLinkNest "AlpCommune" (475 : Nat) ({ cls := "AlpCommune$Sheet", name := "cut", desc := "(I)J" } : MethodName) "AlpCommune" ∈ zNest := zNest_mem 1064 (by decide +kernel) (by decide +kernel)
theorem wz_p80 : Cond.selects yX4_cut.cls yX4_cut yX4_cut ∈ zTB := zTB_mem 80 (by decide +kernel) (by decide +kernel)
theorem wz_1066 : Cond.instanceMethod ({ cls := "AlpCommune$Sheet", name := "cut", desc := "(I)J" } : MethodName) ∈ zTB := zTB_mem 1192 (by decide +kernel) (by decide +kernel)
theorem wz_1067 : Cond.code yX4_cut cX4_cut 2 (some .long) ∈ zTB := zTB_mem 1193 (by decide +kernel) (by decide +kernel)
theorem wz_1076 : Cond.methodLink "AlpCommune" (479 : Nat) ({ cls := "java/lang/System", name := "arraycopy", desc := "(Ljava/lang/Object;ILjava/lang/Object;II)V" } : MethodName) ∈ zTB := zTB_mem 1202 (by decide +kernel) (by decide +kernel)
theorem wz_1078 : Cond.native ({ cls := "java/lang/System", name := "arraycopy", desc := "(Ljava/lang/Object;ILjava/lang/Object;II)V" } : MethodName) ∈ zTB := zTB_mem 1204 (by decide +kernel) (by decide +kernel)
theorem wz_1077 : Cond.static ({ cls := "java/lang/System", name := "arraycopy", desc := "(Ljava/lang/Object;ILjava/lang/Object;II)V" } : MethodName) ∈ zTB := zTB_mem 1203 (by decide +kernel) (by decide +kernel)
theorem wz_19 : Cond.initialized "java/lang/System" ∈ zTB := zTB_mem 145 (by decide +kernel) (by decide +kernel)
theorem wz_1089 : Cond.fieldLink "AlpCommuneModel" (160 : Nat) "AlpCommuneModel" "houses" "I" ∈ zTB := zTB_mem 1215 (by decide +kernel) (by decide +kernel)
set_option maxRecDepth 100000 in
theorem zin_X11 : ∀ w ∈ u_ws RX11 TX11 68, w ∈ zTB := by decide +kernel
theorem zf_X11_160 (C : zCx E cc RX11 nL ret Z h) {i : Nat} (hk : i < zN 60) (hd : decode cc pc = .ok (.getfield 160, 3)) (kk : zKO E nL Z QQ (pc + 3) L (.int (σ.1 60 i 1) :: st) σ o) : zKO E nL Z QQ pc L (.ref (zad Z 60 i) :: st) σ o := zr_get C 1 zin_X11 rfl (Nat.le_of_ble_eq_true rfl) rfl wz_1089 hd hk rfl rfl kk
theorem wz_1300 : Cond.methodLink "AlpCommuneModel" (163 : Nat) ({ cls := "AlpCommuneModel", name := "in", desc := "(III)Z" } : MethodName) ∈ zTB := zTB_mem 1426 (by decide +kernel) (by decide +kernel)
theorem wz_1301 : Cond.static ({ cls := "AlpCommuneModel", name := "in", desc := "(III)Z" } : MethodName) ∈ zTB := zTB_mem 1427 (by decide +kernel) (by decide +kernel)
theorem wz_1302 : Cond.code yX11_in cX11_in 3 (some .boolean) ∈ zTB := zTB_mem 1428 (by decide +kernel) (by decide +kernel)
theorem wz_12 : Cond.initialized "AlpCommuneModel" ∈ zTB := zTB_mem 138 (by decide +kernel) (by decide +kernel)
theorem wz_1100 : Cond.fieldLink "AlpCommuneModel" (167 : Nat) "AlpCommuneModel" "rights" "I" ∈ zTB := zTB_mem 1226 (by decide +kernel) (by decide +kernel)
theorem zf_X11_167 (C : zCx E cc RX11 nL ret Z h) {i : Nat} (hk : i < zN 60) (hd : decode cc pc = .ok (.getfield 167, 3)) (kk : zKO E nL Z QQ (pc + 3) L (.int (σ.1 60 i 12) :: st) σ o) : zKO E nL Z QQ pc L (.ref (zad Z 60 i) :: st) σ o := zr_get C 12 zin_X11 rfl (Nat.le_of_ble_eq_true rfl) rfl wz_1100 hd hk rfl rfl kk
theorem wz_1113 : Cond.fieldLink "AlpCommuneModel" (170 : Nat) "AlpCommuneModel" "alps" "I" ∈ zTB := zTB_mem 1239 (by decide +kernel) (by decide +kernel)
theorem zf_X11_170 (C : zCx E cc RX11 nL ret Z h) {i : Nat} (hk : i < zN 60) (hd : decode cc pc = .ok (.getfield 170, 3)) (kk : zKO E nL Z QQ (pc + 3) L (.int (σ.1 60 i 25) :: st) σ o) : zKO E nL Z QQ pc L (.ref (zad Z 60 i) :: st) σ o := zr_get C 25 zin_X11 rfl (Nat.le_of_ble_eq_true rfl) rfl wz_1113 hd hk rfl rfl kk
theorem wz_1120 : Cond.fieldLink "AlpCommuneModel" (173 : Nat) "AlpCommuneModel" "slopes" "I" ∈ zTB := zTB_mem 1246 (by decide +kernel) (by decide +kernel)
theorem zf_X11_173 (C : zCx E cc RX11 nL ret Z h) {i : Nat} (hk : i < zN 60) (hd : decode cc pc = .ok (.getfield 173, 3)) (kk : zKO E nL Z QQ (pc + 3) L (.int (σ.1 60 i 32) :: st) σ o) : zKO E nL Z QQ pc L (.ref (zad Z 60 i) :: st) σ o := zr_get C 32 zin_X11 rfl (Nat.le_of_ble_eq_true rfl) rfl wz_1120 hd hk rfl rfl kk
theorem wz_1099 : Cond.fieldLink "AlpCommuneModel" (39 : Nat) "AlpCommuneModel" "up" "[[I" ∈ zTB := zTB_mem 1225 (by decide +kernel) (by decide +kernel)
theorem zf_X11_39 (C : zCx E cc RX11 nL ret Z h) {i : Nat} (hk : i < zN 60) (hd : decode cc pc = .ok (.getfield 39, 3)) (kk : zKO E nL Z QQ (pc + 3) L (.ref (zad Z (σ.1 60 i 11).toNatClampNeg 0) :: st) σ o) : zKO E nL Z QQ pc L (.ref (zad Z 60 i) :: st) σ o := zr_get C 11 zin_X11 rfl (Nat.le_of_ble_eq_true rfl) rfl wz_1099 hd hk rfl rfl kk
theorem wz_1303 : Cond.constant "AlpCommuneModel" (176 : Nat) (99999 : Int32) ∈ zTB := zTB_mem 1429 (by decide +kernel) (by decide +kernel)
theorem wz_1090 : Cond.fieldLink "AlpCommuneModel" (9 : Nat) "AlpCommuneModel" "has" "[[I" ∈ zTB := zTB_mem 1216 (by decide +kernel) (by decide +kernel)
theorem zf_X11_9 (C : zCx E cc RX11 nL ret Z h) {i : Nat} (hk : i < zN 60) (hd : decode cc pc = .ok (.getfield 9, 3)) (kk : zKO E nL Z QQ (pc + 3) L (.ref (zad Z 61 0) :: st) σ o) : zKO E nL Z QQ pc L (.ref (zad Z 60 i) :: st) σ o := zr_get C 2 zin_X11 rfl (Nat.le_of_ble_eq_true rfl) rfl wz_1090 hd hk rfl rfl kk
theorem zp_X11_160 (C : zCx E cc RX11 nL ret Z h) {i : Nat} {x : Int32} (hk : i < zN 60) (hd : decode cc pc = .ok (.putfield 160, 3)) (kk : zKO E nL Z QQ (pc + 3) L st (zwi σ 60 i 1 x) o) : zKO E nL Z QQ pc L (.int x :: .ref (zad Z 60 i) :: st) σ o :=
  zr_put C 1 zin_X11 rfl (Nat.le_of_ble_eq_true rfl) rfl tyX11_ok nmX11 rfl (ty := .int) (σ1 := zwi σ 60 i 1 x) (by decide +kernel) wz_1089 hd hk rfl (Nat.le_of_ble_eq_true rfl) rfl rfl (fun a b q => zu_off _ _ _ q) (fun a b q => rfl) (by
    show zE Z 60 i (zu σ.1 60 i 1 x 60 i) _ = _
    rw [zu_at]
    rfl) kk
theorem wz_1297 : Cond.methodLink "AlpCommuneModel" (177 : Nat) ({ cls := "AlpCommuneModel", name := "isNumber", desc := "(II)Z" } : MethodName) ∈ zTB := zTB_mem 1423 (by decide +kernel) (by decide +kernel)
theorem wz_1298 : Cond.static ({ cls := "AlpCommuneModel", name := "isNumber", desc := "(II)Z" } : MethodName) ∈ zTB := zTB_mem 1424 (by decide +kernel) (by decide +kernel)
theorem wz_1299 : Cond.code yX11_isNumber cX11_isNumber 2 (some .boolean) ∈ zTB := zTB_mem 1425 (by decide +kernel) (by decide +kernel)
theorem wz_1312 : Cond.methodLink "AlpCommuneModel" (185 : Nat) ({ cls := "AlpCommuneModel", name := "upOf", desc := "(I)I" } : MethodName) ∈ zTB := zTB_mem 1438 (by decide +kernel) (by decide +kernel)
theorem wz_p82 : Cond.selects yX11_upOf.cls yX11_upOf yX11_upOf ∈ zTB := zTB_mem 82 (by decide +kernel) (by decide +kernel)
theorem wz_1314 : Cond.instanceMethod ({ cls := "AlpCommuneModel", name := "upOf", desc := "(I)I" } : MethodName) ∈ zTB := zTB_mem 1440 (by decide +kernel) (by decide +kernel)
theorem wz_1315 : Cond.code yX11_upOf cX11_upOf 4 (some .int) ∈ zTB := zTB_mem 1441 (by decide +kernel) (by decide +kernel)
theorem wz_1308 : Cond.methodLink "AlpCommuneModel" (181 : Nat) ({ cls := "AlpCommuneModel", name := "isHouse", desc := "(I)Z" } : MethodName) ∈ zTB := zTB_mem 1434 (by decide +kernel) (by decide +kernel)
theorem wz_p81 : Cond.selects yX11_isHouse.cls yX11_isHouse yX11_isHouse ∈ zTB := zTB_mem 81 (by decide +kernel) (by decide +kernel)
theorem wz_1310 : Cond.instanceMethod ({ cls := "AlpCommuneModel", name := "isHouse", desc := "(I)Z" } : MethodName) ∈ zTB := zTB_mem 1436 (by decide +kernel) (by decide +kernel)
theorem wz_1311 : Cond.code yX11_isHouse cX11_isHouse 2 (some .boolean) ∈ zTB := zTB_mem 1437 (by decide +kernel) (by decide +kernel)
theorem wz_1091 : Cond.fieldLink "AlpCommuneModel" (14 : Nat) "AlpCommuneModel" "hungry" "[I" ∈ zTB := zTB_mem 1217 (by decide +kernel) (by decide +kernel)
theorem zf_X11_14 (C : zCx E cc RX11 nL ret Z h) {i : Nat} (hk : i < zN 60) (hd : decode cc pc = .ok (.getfield 14, 3)) (kk : zKO E nL Z QQ (pc + 3) L (.ref (zad Z 63 0) :: st) σ o) : zKO E nL Z QQ pc L (.ref (zad Z 60 i) :: st) σ o := zr_get C 3 zin_X11 rfl (Nat.le_of_ble_eq_true rfl) rfl wz_1091 hd hk rfl rfl kk
theorem wz_1092 : Cond.fieldLink "AlpCommuneModel" (18 : Nat) "AlpCommuneModel" "milk" "[I" ∈ zTB := zTB_mem 1218 (by decide +kernel) (by decide +kernel)
theorem zf_X11_18 (C : zCx E cc RX11 nL ret Z h) {i : Nat} (hk : i < zN 60) (hd : decode cc pc = .ok (.getfield 18, 3)) (kk : zKO E nL Z QQ (pc + 3) L (.ref (zad Z 64 0) :: st) σ o) : zKO E nL Z QQ pc L (.ref (zad Z 60 i) :: st) σ o := zr_get C 4 zin_X11 rfl (Nat.le_of_ble_eq_true rfl) rfl wz_1092 hd hk rfl rfl kk
theorem wz_1093 : Cond.fieldLink "AlpCommuneModel" (21 : Nat) "AlpCommuneModel" "sum" "[I" ∈ zTB := zTB_mem 1219 (by decide +kernel) (by decide +kernel)
theorem zf_X11_21 (C : zCx E cc RX11 nL ret Z h) {i : Nat} (hk : i < zN 60) (hd : decode cc pc = .ok (.getfield 21, 3)) (kk : zKO E nL Z QQ (pc + 3) L (.ref (zad Z 65 0) :: st) σ o) : zKO E nL Z QQ pc L (.ref (zad Z 60 i) :: st) σ o := zr_get C 5 zin_X11 rfl (Nat.le_of_ble_eq_true rfl) rfl wz_1093 hd hk rfl rfl kk
theorem wz_1095 : Cond.fieldLink "AlpCommuneModel" (27 : Nat) "AlpCommuneModel" "countedHay" "[I" ∈ zTB := zTB_mem 1221 (by decide +kernel) (by decide +kernel)
theorem zf_X11_27 (C : zCx E cc RX11 nL ret Z h) {i : Nat} (hk : i < zN 60) (hd : decode cc pc = .ok (.getfield 27, 3)) (kk : zKO E nL Z QQ (pc + 3) L (.ref (zad Z 67 0) :: st) σ o) : zKO E nL Z QQ pc L (.ref (zad Z 60 i) :: st) σ o := zr_get C 7 zin_X11 rfl (Nat.le_of_ble_eq_true rfl) rfl wz_1095 hd hk rfl rfl kk
theorem wz_1096 : Cond.fieldLink "AlpCommuneModel" (30 : Nat) "AlpCommuneModel" "wheels" "[I" ∈ zTB := zTB_mem 1222 (by decide +kernel) (by decide +kernel)
theorem zf_X11_30 (C : zCx E cc RX11 nL ret Z h) {i : Nat} (hk : i < zN 60) (hd : decode cc pc = .ok (.getfield 30, 3)) (kk : zKO E nL Z QQ (pc + 3) L (.ref (zad Z 68 0) :: st) σ o) : zKO E nL Z QQ pc L (.ref (zad Z 60 i) :: st) σ o := zr_get C 8 zin_X11 rfl (Nat.le_of_ble_eq_true rfl) rfl wz_1096 hd hk rfl rfl kk
theorem wz_1097 : Cond.fieldLink "AlpCommuneModel" (33 : Nat) "AlpCommuneModel" "logs" "[I" ∈ zTB := zTB_mem 1223 (by decide +kernel) (by decide +kernel)
theorem zf_X11_33 (C : zCx E cc RX11 nL ret Z h) {i : Nat} (hk : i < zN 60) (hd : decode cc pc = .ok (.getfield 33, 3)) (kk : zKO E nL Z QQ (pc + 3) L (.ref (zad Z 69 0) :: st) σ o) : zKO E nL Z QQ pc L (.ref (zad Z 60 i) :: st) σ o := zr_get C 9 zin_X11 rfl (Nat.le_of_ble_eq_true rfl) rfl wz_1097 hd hk rfl rfl kk
theorem wz_1098 : Cond.fieldLink "AlpCommuneModel" (36 : Nat) "AlpCommuneModel" "worked" "[I" ∈ zTB := zTB_mem 1224 (by decide +kernel) (by decide +kernel)
theorem zf_X11_36 (C : zCx E cc RX11 nL ret Z h) {i : Nat} (hk : i < zN 60) (hd : decode cc pc = .ok (.getfield 36, 3)) (kk : zKO E nL Z QQ (pc + 3) L (.ref (zad Z 70 0) :: st) σ o) : zKO E nL Z QQ pc L (.ref (zad Z 60 i) :: st) σ o := zr_get C 10 zin_X11 rfl (Nat.le_of_ble_eq_true rfl) rfl wz_1098 hd hk rfl rfl kk
theorem wz_1101 : Cond.fieldLink "AlpCommuneModel" (42 : Nat) "AlpCommuneModel" "kind" "[I" ∈ zTB := zTB_mem 1227 (by decide +kernel) (by decide +kernel)
theorem zf_X11_42 (C : zCx E cc RX11 nL ret Z h) {i : Nat} (hk : i < zN 60) (hd : decode cc pc = .ok (.getfield 42, 3)) (kk : zKO E nL Z QQ (pc + 3) L (.ref (zad Z 73 0) :: st) σ o) : zKO E nL Z QQ pc L (.ref (zad Z 60 i) :: st) σ o := zr_get C 13 zin_X11 rfl (Nat.le_of_ble_eq_true rfl) rfl wz_1101 hd hk rfl rfl kk
theorem wz_1102 : Cond.fieldLink "AlpCommuneModel" (45 : Nat) "AlpCommuneModel" "owner" "[I" ∈ zTB := zTB_mem 1228 (by decide +kernel) (by decide +kernel)
theorem zf_X11_45 (C : zCx E cc RX11 nL ret Z h) {i : Nat} (hk : i < zN 60) (hd : decode cc pc = .ok (.getfield 45, 3)) (kk : zKO E nL Z QQ (pc + 3) L (.ref (zad Z 74 0) :: st) σ o) : zKO E nL Z QQ pc L (.ref (zad Z 60 i) :: st) σ o := zr_get C 14 zin_X11 rfl (Nat.le_of_ble_eq_true rfl) rfl wz_1102 hd hk rfl rfl kk
theorem wz_1103 : Cond.fieldLink "AlpCommuneModel" (48 : Nat) "AlpCommuneModel" "part" "[I" ∈ zTB := zTB_mem 1229 (by decide +kernel) (by decide +kernel)
theorem zf_X11_48 (C : zCx E cc RX11 nL ret Z h) {i : Nat} (hk : i < zN 60) (hd : decode cc pc = .ok (.getfield 48, 3)) (kk : zKO E nL Z QQ (pc + 3) L (.ref (zad Z 75 0) :: st) σ o) : zKO E nL Z QQ pc L (.ref (zad Z 60 i) :: st) σ o := zr_get C 15 zin_X11 rfl (Nat.le_of_ble_eq_true rfl) rfl wz_1103 hd hk rfl rfl kk
theorem wz_1105 : Cond.fieldLink "AlpCommuneModel" (54 : Nat) "AlpCommuneModel" "lentTill" "[I" ∈ zTB := zTB_mem 1231 (by decide +kernel) (by decide +kernel)
theorem zf_X11_54 (C : zCx E cc RX11 nL ret Z h) {i : Nat} (hk : i < zN 60) (hd : decode cc pc = .ok (.getfield 54, 3)) (kk : zKO E nL Z QQ (pc + 3) L (.ref (zad Z 77 0) :: st) σ o) : zKO E nL Z QQ pc L (.ref (zad Z 60 i) :: st) σ o := zr_get C 17 zin_X11 rfl (Nat.le_of_ble_eq_true rfl) rfl wz_1105 hd hk rfl rfl kk
theorem zp_X11_167 (C : zCx E cc RX11 nL ret Z h) {i : Nat} {x : Int32} (hk : i < zN 60) (hd : decode cc pc = .ok (.putfield 167, 3)) (kk : zKO E nL Z QQ (pc + 3) L st (zwi σ 60 i 12 x) o) : zKO E nL Z QQ pc L (.int x :: .ref (zad Z 60 i) :: st) σ o :=
  zr_put C 12 zin_X11 rfl (Nat.le_of_ble_eq_true rfl) rfl tyX11_ok nmX11 rfl (ty := .int) (σ1 := zwi σ 60 i 12 x) (by decide +kernel) wz_1100 hd hk rfl (Nat.le_of_ble_eq_true rfl) rfl rfl (fun a b q => zu_off _ _ _ q) (fun a b q => rfl) (by
    show zE Z 60 i (zu σ.1 60 i 12 x 60 i) _ = _
    rw [zu_at]
    rfl) kk
theorem wz_1328 : Cond.methodLink "AlpCommuneModel" (189 : Nat) ({ cls := "AlpCommuneModel", name := "newRight", desc := "(III)I" } : MethodName) ∈ zTB := zTB_mem 1454 (by decide +kernel) (by decide +kernel)
theorem wz_p83 : Cond.selects yX11_newRight.cls yX11_newRight yX11_newRight ∈ zTB := zTB_mem 83 (by decide +kernel) (by decide +kernel)
theorem wz_1330 : Cond.instanceMethod ({ cls := "AlpCommuneModel", name := "newRight", desc := "(III)I" } : MethodName) ∈ zTB := zTB_mem 1456 (by decide +kernel) (by decide +kernel)
theorem wz_1331 : Cond.code yX11_newRight cX11_newRight 4 (some .int) ∈ zTB := zTB_mem 1457 (by decide +kernel) (by decide +kernel)
theorem wz_1088 : Cond.fieldLink "AlpCommuneModel" (193 : Nat) "AlpCommuneModel" "day" "I" ∈ zTB := zTB_mem 1214 (by decide +kernel) (by decide +kernel)
theorem zf_X11_193 (C : zCx E cc RX11 nL ret Z h) {i : Nat} (hk : i < zN 60) (hd : decode cc pc = .ok (.getfield 193, 3)) (kk : zKO E nL Z QQ (pc + 3) L (.int (σ.1 60 i 0) :: st) σ o) : zKO E nL Z QQ pc L (.ref (zad Z 60 i) :: st) σ o := zr_get C 0 zin_X11 rfl (Nat.le_of_ble_eq_true rfl) rfl wz_1088 hd hk rfl rfl kk
theorem wz_1104 : Cond.fieldLink "AlpCommuneModel" (51 : Nat) "AlpCommuneModel" "lentTo" "[I" ∈ zTB := zTB_mem 1230 (by decide +kernel) (by decide +kernel)
theorem zf_X11_51 (C : zCx E cc RX11 nL ret Z h) {i : Nat} (hk : i < zN 60) (hd : decode cc pc = .ok (.getfield 51, 3)) (kk : zKO E nL Z QQ (pc + 3) L (.ref (zad Z 76 0) :: st) σ o) : zKO E nL Z QQ pc L (.ref (zad Z 60 i) :: st) σ o := zr_get C 16 zin_X11 rfl (Nat.le_of_ble_eq_true rfl) rfl wz_1104 hd hk rfl rfl kk
theorem wz_1343 : Cond.methodLink "AlpCommuneModel" (196 : Nat) ({ cls := "AlpCommuneModel", name := "lent", desc := "(I)Z" } : MethodName) ∈ zTB := zTB_mem 1469 (by decide +kernel) (by decide +kernel)
theorem wz_p85 : Cond.selects yX11_lent.cls yX11_lent yX11_lent ∈ zTB := zTB_mem 85 (by decide +kernel) (by decide +kernel)
theorem wz_1345 : Cond.instanceMethod ({ cls := "AlpCommuneModel", name := "lent", desc := "(I)Z" } : MethodName) ∈ zTB := zTB_mem 1471 (by decide +kernel) (by decide +kernel)
theorem wz_1346 : Cond.code yX11_lent cX11_lent 2 (some .boolean) ∈ zTB := zTB_mem 1472 (by decide +kernel) (by decide +kernel)
theorem wz_1340 : Cond.methodLink "AlpCommuneModel" (202 : Nat) ({ cls := "AlpCommuneModel", name := "commonOf", desc := "(I)I" } : MethodName) ∈ zTB := zTB_mem 1466 (by decide +kernel) (by decide +kernel)
theorem wz_1341 : Cond.static ({ cls := "AlpCommuneModel", name := "commonOf", desc := "(I)I" } : MethodName) ∈ zTB := zTB_mem 1467 (by decide +kernel) (by decide +kernel)
theorem wz_1342 : Cond.code yX11_commonOf cX11_commonOf 1 (some .int) ∈ zTB := zTB_mem 1468 (by decide +kernel) (by decide +kernel)
theorem wz_1336 : Cond.methodLink "AlpCommuneModel" (199 : Nat) ({ cls := "AlpCommuneModel", name := "isRight", desc := "(I)Z" } : MethodName) ∈ zTB := zTB_mem 1462 (by decide +kernel) (by decide +kernel)
theorem wz_p84 : Cond.selects yX11_isRight.cls yX11_isRight yX11_isRight ∈ zTB := zTB_mem 84 (by decide +kernel) (by decide +kernel)
theorem wz_1338 : Cond.instanceMethod ({ cls := "AlpCommuneModel", name := "isRight", desc := "(I)Z" } : MethodName) ∈ zTB := zTB_mem 1464 (by decide +kernel) (by decide +kernel)
theorem wz_1339 : Cond.code yX11_isRight cX11_isRight 2 (some .boolean) ∈ zTB := zTB_mem 1465 (by decide +kernel) (by decide +kernel)
theorem wz_1363 : Cond.methodLink "AlpCommuneModel" (205 : Nat) ({ cls := "AlpCommuneModel", name := "holder", desc := "(I)I" } : MethodName) ∈ zTB := zTB_mem 1489 (by decide +kernel) (by decide +kernel)
theorem wz_p86 : Cond.selects yX11_holder.cls yX11_holder yX11_holder ∈ zTB := zTB_mem 86 (by decide +kernel) (by decide +kernel)
theorem wz_1365 : Cond.instanceMethod ({ cls := "AlpCommuneModel", name := "holder", desc := "(I)I" } : MethodName) ∈ zTB := zTB_mem 1491 (by decide +kernel) (by decide +kernel)
theorem wz_1366 : Cond.code yX11_holder cX11_holder 2 (some .int) ∈ zTB := zTB_mem 1492 (by decide +kernel) (by decide +kernel)
theorem wz_1371 : Cond.methodLink "AlpCommuneModel" (208 : Nat) ({ cls := "AlpCommuneModel", name := "partsOf", desc := "(II)I" } : MethodName) ∈ zTB := zTB_mem 1497 (by decide +kernel) (by decide +kernel)
theorem wz_p87 : Cond.selects yX11_partsOf.cls yX11_partsOf yX11_partsOf ∈ zTB := zTB_mem 87 (by decide +kernel) (by decide +kernel)
theorem wz_1373 : Cond.instanceMethod ({ cls := "AlpCommuneModel", name := "partsOf", desc := "(II)I" } : MethodName) ∈ zTB := zTB_mem 1499 (by decide +kernel) (by decide +kernel)
theorem wz_1374 : Cond.code yX11_partsOf cX11_partsOf 5 (some .int) ∈ zTB := zTB_mem 1500 (by decide +kernel) (by decide +kernel)
theorem wz_1107 : Cond.fieldLink "AlpCommuneModel" (212 : Nat) "AlpCommuneModel" "tapeSize" "I" ∈ zTB := zTB_mem 1233 (by decide +kernel) (by decide +kernel)
theorem zf_X11_212 (C : zCx E cc RX11 nL ret Z h) {i : Nat} (hk : i < zN 60) (hd : decode cc pc = .ok (.getfield 212, 3)) (kk : zKO E nL Z QQ (pc + 3) L (.int (σ.1 60 i 19) :: st) σ o) : zKO E nL Z QQ pc L (.ref (zad Z 60 i) :: st) σ o := zr_get C 19 zin_X11 rfl (Nat.le_of_ble_eq_true rfl) rfl wz_1107 hd hk rfl rfl kk
theorem wz_1106 : Cond.fieldLink "AlpCommuneModel" (57 : Nat) "AlpCommuneModel" "tape" "[I" ∈ zTB := zTB_mem 1232 (by decide +kernel) (by decide +kernel)
theorem zf_X11_57 (C : zCx E cc RX11 nL ret Z h) {i : Nat} (hk : i < zN 60) (hd : decode cc pc = .ok (.getfield 57, 3)) (kk : zKO E nL Z QQ (pc + 3) L (.ref (zad Z 78 0) :: st) σ o) : zKO E nL Z QQ pc L (.ref (zad Z 60 i) :: st) σ o := zr_get C 18 zin_X11 rfl (Nat.le_of_ble_eq_true rfl) rfl wz_1106 hd hk rfl rfl kk
theorem zp_X11_212 (C : zCx E cc RX11 nL ret Z h) {i : Nat} {x : Int32} (hk : i < zN 60) (hd : decode cc pc = .ok (.putfield 212, 3)) (kk : zKO E nL Z QQ (pc + 3) L st (zwi σ 60 i 19 x) o) : zKO E nL Z QQ pc L (.int x :: .ref (zad Z 60 i) :: st) σ o :=
  zr_put C 19 zin_X11 rfl (Nat.le_of_ble_eq_true rfl) rfl tyX11_ok nmX11 rfl (ty := .int) (σ1 := zwi σ 60 i 19 x) (by decide +kernel) wz_1107 hd hk rfl (Nat.le_of_ble_eq_true rfl) rfl rfl (fun a b q => zu_off _ _ _ q) (fun a b q => rfl) (by
    show zE Z 60 i (zu σ.1 60 i 19 x 60 i) _ = _
    rw [zu_at]
    rfl) kk
theorem wz_1146 : Cond.fieldLink "AlpCommuneModel" (215 : Nat) "AlpCommuneModel" "at" "I" ∈ zTB := zTB_mem 1272 (by decide +kernel) (by decide +kernel)
theorem zf_X11_215 (C : zCx E cc RX11 nL ret Z h) {i : Nat} (hk : i < zN 60) (hd : decode cc pc = .ok (.getfield 215, 3)) (kk : zKO E nL Z QQ (pc + 3) L (.int (σ.1 60 i 58) :: st) σ o) : zKO E nL Z QQ pc L (.ref (zad Z 60 i) :: st) σ o := zr_get C 58 zin_X11 rfl (Nat.le_of_ble_eq_true rfl) rfl wz_1146 hd hk rfl rfl kk
theorem wz_1147 : Cond.fieldLink "AlpCommuneModel" (218 : Nat) "AlpCommuneModel" "fault" "I" ∈ zTB := zTB_mem 1273 (by decide +kernel) (by decide +kernel)
theorem zp_X11_218 (C : zCx E cc RX11 nL ret Z h) {i : Nat} {x : Int32} (hk : i < zN 60) (hd : decode cc pc = .ok (.putfield 218, 3)) (kk : zKO E nL Z QQ (pc + 3) L st (zwi σ 60 i 59 x) o) : zKO E nL Z QQ pc L (.int x :: .ref (zad Z 60 i) :: st) σ o :=
  zr_put C 59 zin_X11 rfl (Nat.le_of_ble_eq_true rfl) rfl tyX11_ok nmX11 rfl (ty := .int) (σ1 := zwi σ 60 i 59 x) (by decide +kernel) wz_1147 hd hk rfl (Nat.le_of_ble_eq_true rfl) rfl rfl (fun a b q => zu_off _ _ _ q) (fun a b q => rfl) (by
    show zE Z 60 i (zu σ.1 60 i 59 x 60 i) _ = _
    rw [zu_at]
    rfl) kk
theorem zp_X11_215 (C : zCx E cc RX11 nL ret Z h) {i : Nat} {x : Int32} (hk : i < zN 60) (hd : decode cc pc = .ok (.putfield 215, 3)) (kk : zKO E nL Z QQ (pc + 3) L st (zwi σ 60 i 58 x) o) : zKO E nL Z QQ pc L (.int x :: .ref (zad Z 60 i) :: st) σ o :=
  zr_put C 58 zin_X11 rfl (Nat.le_of_ble_eq_true rfl) rfl tyX11_ok nmX11 rfl (ty := .int) (σ1 := zwi σ 60 i 58 x) (by decide +kernel) wz_1146 hd hk rfl (Nat.le_of_ble_eq_true rfl) rfl rfl (fun a b q => zu_off _ _ _ q) (fun a b q => rfl) (by
    show zE Z 60 i (zu σ.1 60 i 58 x 60 i) _ = _
    rw [zu_at]
    rfl) kk
theorem wz_1406 : Cond.methodLink "AlpCommuneModel" (234 : Nat) ({ cls := "AlpCommuneModel", name := "wrong", desc := "()Z" } : MethodName) ∈ zTB := zTB_mem 1532 (by decide +kernel) (by decide +kernel)
theorem wz_p93 : Cond.selects yX11_wrong.cls yX11_wrong yX11_wrong ∈ zTB := zTB_mem 93 (by decide +kernel) (by decide +kernel)
theorem wz_1408 : Cond.instanceMethod ({ cls := "AlpCommuneModel", name := "wrong", desc := "()Z" } : MethodName) ∈ zTB := zTB_mem 1534 (by decide +kernel) (by decide +kernel)
theorem wz_1409 : Cond.code yX11_wrong cX11_wrong 1 (some .boolean) ∈ zTB := zTB_mem 1535 (by decide +kernel) (by decide +kernel)
theorem wz_1391 : Cond.methodLink "AlpCommuneModel" (227 : Nat) ({ cls := "AlpCommuneModel", name := "here", desc := "()I" } : MethodName) ∈ zTB := zTB_mem 1517 (by decide +kernel) (by decide +kernel)
theorem wz_p90 : Cond.selects yX11_here.cls yX11_here yX11_here ∈ zTB := zTB_mem 90 (by decide +kernel) (by decide +kernel)
theorem wz_1393 : Cond.instanceMethod ({ cls := "AlpCommuneModel", name := "here", desc := "()I" } : MethodName) ∈ zTB := zTB_mem 1519 (by decide +kernel) (by decide +kernel)
theorem wz_1394 : Cond.code yX11_here cX11_here 1 (some .int) ∈ zTB := zTB_mem 1520 (by decide +kernel) (by decide +kernel)
theorem wz_1148 : Cond.fieldLink "AlpCommuneModel" (238 : Nat) "AlpCommuneModel" "found" "I" ∈ zTB := zTB_mem 1274 (by decide +kernel) (by decide +kernel)
theorem zf_X11_238 (C : zCx E cc RX11 nL ret Z h) {i : Nat} (hk : i < zN 60) (hd : decode cc pc = .ok (.getfield 238, 3)) (kk : zKO E nL Z QQ (pc + 3) L (.int (σ.1 60 i 60) :: st) σ o) : zKO E nL Z QQ pc L (.ref (zad Z 60 i) :: st) σ o := zr_get C 60 zin_X11 rfl (Nat.le_of_ble_eq_true rfl) rfl wz_1148 hd hk rfl rfl kk
theorem zp_X11_238 (C : zCx E cc RX11 nL ret Z h) {i : Nat} {x : Int32} (hk : i < zN 60) (hd : decode cc pc = .ok (.putfield 238, 3)) (kk : zKO E nL Z QQ (pc + 3) L st (zwi σ 60 i 60 x) o) : zKO E nL Z QQ pc L (.int x :: .ref (zad Z 60 i) :: st) σ o :=
  zr_put C 60 zin_X11 rfl (Nat.le_of_ble_eq_true rfl) rfl tyX11_ok nmX11 rfl (ty := .int) (σ1 := zwi σ 60 i 60 x) (by decide +kernel) wz_1148 hd hk rfl (Nat.le_of_ble_eq_true rfl) rfl rfl (fun a b q => zu_off _ _ _ q) (fun a b q => rfl) (by
    show zE Z 60 i (zu σ.1 60 i 60 x 60 i) _ = _
    rw [zu_at]
    rfl) kk
theorem wz_1400 : Cond.methodLink "AlpCommuneModel" (241 : Nat) ({ cls := "AlpCommuneModel", name := "text", desc := "(Ljava/lang/String;)Z" } : MethodName) ∈ zTB := zTB_mem 1526 (by decide +kernel) (by decide +kernel)
theorem wz_p92 : Cond.selects yX11_text.cls yX11_text yX11_text ∈ zTB := zTB_mem 92 (by decide +kernel) (by decide +kernel)
theorem wz_1402 : Cond.instanceMethod ({ cls := "AlpCommuneModel", name := "text", desc := "(Ljava/lang/String;)Z" } : MethodName) ∈ zTB := zTB_mem 1528 (by decide +kernel) (by decide +kernel)
theorem wz_1403 : Cond.code yX11_text cX11_text 3 (some .boolean) ∈ zTB := zTB_mem 1529 (by decide +kernel) (by decide +kernel)
theorem wz_1396 : Cond.methodLink "AlpCommuneModel" (247 : Nat) ({ cls := "AlpCommuneModel", name := "is", desc := "(ILjava/lang/String;)Z" } : MethodName) ∈ zTB := zTB_mem 1522 (by decide +kernel) (by decide +kernel)
theorem wz_p91 : Cond.selects yX11_is.cls yX11_is yX11_is ∈ zTB := zTB_mem 91 (by decide +kernel) (by decide +kernel)
theorem wz_1398 : Cond.instanceMethod ({ cls := "AlpCommuneModel", name := "is", desc := "(ILjava/lang/String;)Z" } : MethodName) ∈ zTB := zTB_mem 1524 (by decide +kernel) (by decide +kernel)
theorem wz_1399 : Cond.code yX11_is cX11_is 3 (some .boolean) ∈ zTB := zTB_mem 1525 (by decide +kernel) (by decide +kernel)
theorem wz_1149 : Cond.fieldLink "AlpCommuneModel" (139 : Nat) "AlpCommuneModel" "test" "[I" ∈ zTB := zTB_mem 1275 (by decide +kernel) (by decide +kernel)
theorem zf_X11_139 (C : zCx E cc RX11 nL ret Z h) {i : Nat} (hk : i < zN 60) (hd : decode cc pc = .ok (.getfield 139, 3)) (kk : zKO E nL Z QQ (pc + 3) L (.ref (zad Z 111 0) :: st) σ o) : zKO E nL Z QQ pc L (.ref (zad Z 60 i) :: st) σ o := zr_get C 61 zin_X11 rfl (Nat.le_of_ble_eq_true rfl) rfl wz_1149 hd hk rfl rfl kk
theorem wz_1429 : Cond.methodLink "AlpCommuneModel" (283 : Nat) ({ cls := "AlpCommuneModel", name := "fieldHere", desc := "()Z" } : MethodName) ∈ zTB := zTB_mem 1555 (by decide +kernel) (by decide +kernel)
theorem wz_p96 : Cond.selects yX11_fieldHere.cls yX11_fieldHere yX11_fieldHere ∈ zTB := zTB_mem 96 (by decide +kernel) (by decide +kernel)
theorem wz_1431 : Cond.instanceMethod ({ cls := "AlpCommuneModel", name := "fieldHere", desc := "()Z" } : MethodName) ∈ zTB := zTB_mem 1557 (by decide +kernel) (by decide +kernel)
theorem wz_1432 : Cond.code yX11_fieldHere cX11_fieldHere 1 (some .boolean) ∈ zTB := zTB_mem 1558 (by decide +kernel) (by decide +kernel)
theorem wz_1418 : Cond.methodLink "AlpCommuneModel" (286 : Nat) ({ cls := "AlpCommuneModel", name := "numberHere", desc := "()Z" } : MethodName) ∈ zTB := zTB_mem 1544 (by decide +kernel) (by decide +kernel)
theorem wz_p94 : Cond.selects yX11_numberHere.cls yX11_numberHere yX11_numberHere ∈ zTB := zTB_mem 94 (by decide +kernel) (by decide +kernel)
theorem wz_1420 : Cond.instanceMethod ({ cls := "AlpCommuneModel", name := "numberHere", desc := "()Z" } : MethodName) ∈ zTB := zTB_mem 1546 (by decide +kernel) (by decide +kernel)
theorem wz_1421 : Cond.code yX11_numberHere cX11_numberHere 2 (some .boolean) ∈ zTB := zTB_mem 1547 (by decide +kernel) (by decide +kernel)
theorem wz_1110 : Cond.fieldLink "AlpCommuneModel" (63 : Nat) "AlpCommuneModel" "tests" "[[I" ∈ zTB := zTB_mem 1236 (by decide +kernel) (by decide +kernel)
theorem zf_X11_63 (C : zCx E cc RX11 nL ret Z h) {i : Nat} (hk : i < zN 60) (hd : decode cc pc = .ok (.getfield 63, 3)) (kk : zKO E nL Z QQ (pc + 3) L (.ref (zad Z 81 0) :: st) σ o) : zKO E nL Z QQ pc L (.ref (zad Z 60 i) :: st) σ o := zr_get C 22 zin_X11 rfl (Nat.le_of_ble_eq_true rfl) rfl wz_1110 hd hk rfl rfl kk
theorem wz_1108 : Cond.fieldLink "AlpCommuneModel" (289 : Nat) "AlpCommuneModel" "words" "I" ∈ zTB := zTB_mem 1234 (by decide +kernel) (by decide +kernel)
theorem zf_X11_289 (C : zCx E cc RX11 nL ret Z h) {i : Nat} (hk : i < zN 60) (hd : decode cc pc = .ok (.getfield 289, 3)) (kk : zKO E nL Z QQ (pc + 3) L (.int (σ.1 60 i 20) :: st) σ o) : zKO E nL Z QQ pc L (.ref (zad Z 60 i) :: st) σ o := zr_get C 20 zin_X11 rfl (Nat.le_of_ble_eq_true rfl) rfl wz_1108 hd hk rfl rfl kk
theorem wz_1441 : Cond.methodLink "AlpCommuneModel" (304 : Nat) ({ cls := "java/lang/System", name := "arraycopy", desc := "(Ljava/lang/Object;ILjava/lang/Object;II)V" } : MethodName) ∈ zTB := zTB_mem 1567 (by decide +kernel) (by decide +kernel)
theorem wz_1424 : Cond.methodLink "AlpCommuneModel" (301 : Nat) ({ cls := "AlpCommuneModel", name := "testHere", desc := "()Z" } : MethodName) ∈ zTB := zTB_mem 1550 (by decide +kernel) (by decide +kernel)
theorem wz_p95 : Cond.selects yX11_testHere.cls yX11_testHere yX11_testHere ∈ zTB := zTB_mem 95 (by decide +kernel) (by decide +kernel)
theorem wz_1426 : Cond.instanceMethod ({ cls := "AlpCommuneModel", name := "testHere", desc := "()Z" } : MethodName) ∈ zTB := zTB_mem 1552 (by decide +kernel) (by decide +kernel)
theorem wz_1427 : Cond.code yX11_testHere cX11_testHere 3 (some .boolean) ∈ zTB := zTB_mem 1553 (by decide +kernel) (by decide +kernel)
theorem wz_1109 : Cond.fieldLink "AlpCommuneModel" (60 : Nat) "AlpCommuneModel" "word" "[[I" ∈ zTB := zTB_mem 1235 (by decide +kernel) (by decide +kernel)
theorem zf_X11_60 (C : zCx E cc RX11 nL ret Z h) {i : Nat} (hk : i < zN 60) (hd : decode cc pc = .ok (.getfield 60, 3)) (kk : zKO E nL Z QQ (pc + 3) L (.ref (zad Z 79 0) :: st) σ o) : zKO E nL Z QQ pc L (.ref (zad Z 60 i) :: st) σ o := zr_get C 21 zin_X11 rfl (Nat.le_of_ble_eq_true rfl) rfl wz_1109 hd hk rfl rfl kk
theorem wz_1387 : Cond.methodLink "AlpCommuneModel" (292 : Nat) ({ cls := "AlpCommuneModel", name := "keyHere", desc := "()Z" } : MethodName) ∈ zTB := zTB_mem 1513 (by decide +kernel) (by decide +kernel)
theorem wz_p89 : Cond.selects yX11_keyHere.cls yX11_keyHere yX11_keyHere ∈ zTB := zTB_mem 89 (by decide +kernel) (by decide +kernel)
theorem wz_1389 : Cond.instanceMethod ({ cls := "AlpCommuneModel", name := "keyHere", desc := "()Z" } : MethodName) ∈ zTB := zTB_mem 1515 (by decide +kernel) (by decide +kernel)
theorem wz_1390 : Cond.code yX11_keyHere cX11_keyHere 1 (some .boolean) ∈ zTB := zTB_mem 1516 (by decide +kernel) (by decide +kernel)
theorem zp_X11_289 (C : zCx E cc RX11 nL ret Z h) {i : Nat} {x : Int32} (hk : i < zN 60) (hd : decode cc pc = .ok (.putfield 289, 3)) (kk : zKO E nL Z QQ (pc + 3) L st (zwi σ 60 i 20 x) o) : zKO E nL Z QQ pc L (.int x :: .ref (zad Z 60 i) :: st) σ o :=
  zr_put C 20 zin_X11 rfl (Nat.le_of_ble_eq_true rfl) rfl tyX11_ok nmX11 rfl (ty := .int) (σ1 := zwi σ 60 i 20 x) (by decide +kernel) wz_1108 hd hk rfl (Nat.le_of_ble_eq_true rfl) rfl rfl (fun a b q => zu_off _ _ _ q) (fun a b q => rfl) (by
    show zE Z 60 i (zu σ.1 60 i 20 x 60 i) _ = _
    rw [zu_at]
    rfl) kk
theorem wz_1444 : Cond.methodLink "AlpCommuneModel" (317 : Nat) ({ cls := "java/lang/Integer", name := "bitCount", desc := "(I)I" } : MethodName) ∈ zTB := zTB_mem 1570 (by decide +kernel) (by decide +kernel)
theorem zf_X11_218 (C : zCx E cc RX11 nL ret Z h) {i : Nat} (hk : i < zN 60) (hd : decode cc pc = .ok (.getfield 218, 3)) (kk : zKO E nL Z QQ (pc + 3) L (.int (σ.1 60 i 59) :: st) σ o) : zKO E nL Z QQ pc L (.ref (zad Z 60 i) :: st) σ o := zr_get C 59 zin_X11 rfl (Nat.le_of_ble_eq_true rfl) rfl wz_1147 hd hk rfl rfl kk
theorem wz_1383 : Cond.methodLink "AlpCommuneModel" (314 : Nat) ({ cls := "AlpCommuneModel", name := "wordHere", desc := "()Z" } : MethodName) ∈ zTB := zTB_mem 1509 (by decide +kernel) (by decide +kernel)
theorem wz_p88 : Cond.selects yX11_wordHere.cls yX11_wordHere yX11_wordHere ∈ zTB := zTB_mem 88 (by decide +kernel) (by decide +kernel)
theorem wz_1385 : Cond.instanceMethod ({ cls := "AlpCommuneModel", name := "wordHere", desc := "()Z" } : MethodName) ∈ zTB := zTB_mem 1511 (by decide +kernel) (by decide +kernel)
theorem wz_1386 : Cond.code yX11_wordHere cX11_wordHere 2 (some .boolean) ∈ zTB := zTB_mem 1512 (by decide +kernel) (by decide +kernel)
theorem wz_1474 : Cond.methodLink "AlpCommuneModel" (322 : Nat) ({ cls := "AlpCommuneModel", name := "fieldOf", desc := "(III)I" } : MethodName) ∈ zTB := zTB_mem 1600 (by decide +kernel) (by decide +kernel)
theorem wz_p102 : Cond.selects yX11_fieldOf.cls yX11_fieldOf yX11_fieldOf ∈ zTB := zTB_mem 102 (by decide +kernel) (by decide +kernel)
theorem wz_1476 : Cond.instanceMethod ({ cls := "AlpCommuneModel", name := "fieldOf", desc := "(III)I" } : MethodName) ∈ zTB := zTB_mem 1602 (by decide +kernel) (by decide +kernel)
theorem wz_1477 : Cond.code yX11_fieldOf cX11_fieldOf 4 (some .int) ∈ zTB := zTB_mem 1603 (by decide +kernel) (by decide +kernel)
theorem wz_1470 : Cond.methodLink "AlpCommuneModel" (325 : Nat) ({ cls := "AlpCommuneModel", name := "one", desc := "([IIII)Z" } : MethodName) ∈ zTB := zTB_mem 1596 (by decide +kernel) (by decide +kernel)
theorem wz_p101 : Cond.selects yX11_one.cls yX11_one yX11_one ∈ zTB := zTB_mem 101 (by decide +kernel) (by decide +kernel)
theorem wz_1472 : Cond.instanceMethod ({ cls := "AlpCommuneModel", name := "one", desc := "([IIII)Z" } : MethodName) ∈ zTB := zTB_mem 1598 (by decide +kernel) (by decide +kernel)
theorem wz_1473 : Cond.code yX11_one cX11_one 7 (some .boolean) ∈ zTB := zTB_mem 1599 (by decide +kernel) (by decide +kernel)
theorem wz_1466 : Cond.methodLink "AlpCommuneModel" (329 : Nat) ({ cls := "AlpCommuneModel", name := "hold", desc := "(III)Z" } : MethodName) ∈ zTB := zTB_mem 1592 (by decide +kernel) (by decide +kernel)
theorem wz_p100 : Cond.selects yX11_hold.cls yX11_hold yX11_hold ∈ zTB := zTB_mem 100 (by decide +kernel) (by decide +kernel)
theorem wz_1468 : Cond.instanceMethod ({ cls := "AlpCommuneModel", name := "hold", desc := "(III)Z" } : MethodName) ∈ zTB := zTB_mem 1594 (by decide +kernel) (by decide +kernel)
theorem wz_1469 : Cond.code yX11_hold cX11_hold 7 (some .boolean) ∈ zTB := zTB_mem 1595 (by decide +kernel) (by decide +kernel)
theorem wz_1478 : Cond.fieldLink "AlpCommuneModel" (336 : Nat) "AlpCommuneModel" "USUAL" "[I" ∈ zTB := zTB_mem 1604 (by decide +kernel) (by decide +kernel)
theorem wz_1462 : Cond.methodLink "AlpCommuneModel" (332 : Nat) ({ cls := "AlpCommuneModel", name := "whyOf", desc := "(IIII)I" } : MethodName) ∈ zTB := zTB_mem 1588 (by decide +kernel) (by decide +kernel)
theorem wz_p99 : Cond.selects yX11_whyOf.cls yX11_whyOf yX11_whyOf ∈ zTB := zTB_mem 99 (by decide +kernel) (by decide +kernel)
theorem wz_1464 : Cond.instanceMethod ({ cls := "AlpCommuneModel", name := "whyOf", desc := "(IIII)I" } : MethodName) ∈ zTB := zTB_mem 1590 (by decide +kernel) (by decide +kernel)
theorem wz_1465 : Cond.code yX11_whyOf cX11_whyOf 8 (some .int) ∈ zTB := zTB_mem 1591 (by decide +kernel) (by decide +kernel)
theorem wz_1458 : Cond.methodLink "AlpCommuneModel" (339 : Nat) ({ cls := "AlpCommuneModel", name := "valueOf", desc := "(IIII)I" } : MethodName) ∈ zTB := zTB_mem 1584 (by decide +kernel) (by decide +kernel)
theorem wz_p98 : Cond.selects yX11_valueOf.cls yX11_valueOf yX11_valueOf ∈ zTB := zTB_mem 98 (by decide +kernel) (by decide +kernel)
theorem wz_1460 : Cond.instanceMethod ({ cls := "AlpCommuneModel", name := "valueOf", desc := "(IIII)I" } : MethodName) ∈ zTB := zTB_mem 1586 (by decide +kernel) (by decide +kernel)
theorem wz_1461 : Cond.code yX11_valueOf cX11_valueOf 6 (some .int) ∈ zTB := zTB_mem 1587 (by decide +kernel) (by decide +kernel)
theorem wz_1118 : Cond.fieldLink "AlpCommuneModel" (342 : Nat) "AlpCommuneModel" "drives" "I" ∈ zTB := zTB_mem 1244 (by decide +kernel) (by decide +kernel)
theorem zf_X11_342 (C : zCx E cc RX11 nL ret Z h) {i : Nat} (hk : i < zN 60) (hd : decode cc pc = .ok (.getfield 342, 3)) (kk : zKO E nL Z QQ (pc + 3) L (.int (σ.1 60 i 30) :: st) σ o) : zKO E nL Z QQ pc L (.ref (zad Z 60 i) :: st) σ o := zr_get C 30 zin_X11 rfl (Nat.le_of_ble_eq_true rfl) rfl wz_1118 hd hk rfl rfl kk
theorem wz_1449 : Cond.methodLink "AlpCommuneModel" (345 : Nat) ({ cls := "java/lang/Math", name := "min", desc := "(II)I" } : MethodName) ∈ zTB := zTB_mem 1575 (by decide +kernel) (by decide +kernel)
theorem wz_1119 : Cond.fieldLink "AlpCommuneModel" (86 : Nat) "AlpCommuneModel" "book" "[[I" ∈ zTB := zTB_mem 1245 (by decide +kernel) (by decide +kernel)
theorem zf_X11_86 (C : zCx E cc RX11 nL ret Z h) {i : Nat} (hk : i < zN 60) (hd : decode cc pc = .ok (.getfield 86, 3)) (kk : zKO E nL Z QQ (pc + 3) L (.ref (zad Z 91 0) :: st) σ o) : zKO E nL Z QQ pc L (.ref (zad Z 60 i) :: st) σ o := zr_get C 31 zin_X11 rfl (Nat.le_of_ble_eq_true rfl) rfl wz_1119 hd hk rfl rfl kk
theorem wz_1454 : Cond.methodLink "AlpCommuneModel" (350 : Nat) ({ cls := "AlpCommuneModel", name := "isAsked", desc := "(IIII)Z" } : MethodName) ∈ zTB := zTB_mem 1580 (by decide +kernel) (by decide +kernel)
theorem wz_p97 : Cond.selects yX11_isAsked.cls yX11_isAsked yX11_isAsked ∈ zTB := zTB_mem 97 (by decide +kernel) (by decide +kernel)
theorem wz_1456 : Cond.instanceMethod ({ cls := "AlpCommuneModel", name := "isAsked", desc := "(IIII)Z" } : MethodName) ∈ zTB := zTB_mem 1582 (by decide +kernel) (by decide +kernel)
theorem wz_1457 : Cond.code yX11_isAsked cX11_isAsked 5 (some .boolean) ∈ zTB := zTB_mem 1583 (by decide +kernel) (by decide +kernel)
theorem wz_1111 : Cond.fieldLink "AlpCommuneModel" (66 : Nat) "AlpCommuneModel" "told" "[[I" ∈ zTB := zTB_mem 1237 (by decide +kernel) (by decide +kernel)
theorem zf_X11_66 (C : zCx E cc RX11 nL ret Z h) {i : Nat} (hk : i < zN 60) (hd : decode cc pc = .ok (.getfield 66, 3)) (kk : zKO E nL Z QQ (pc + 3) L (.ref (zad Z 83 0) :: st) σ o) : zKO E nL Z QQ pc L (.ref (zad Z 60 i) :: st) σ o := zr_get C 23 zin_X11 rfl (Nat.le_of_ble_eq_true rfl) rfl wz_1111 hd hk rfl rfl kk
theorem wz_1112 : Cond.fieldLink "AlpCommuneModel" (71 : Nat) "AlpCommuneModel" "isTold" "[[Z" ∈ zTB := zTB_mem 1238 (by decide +kernel) (by decide +kernel)
theorem zf_X11_71 (C : zCx E cc RX11 nL ret Z h) {i : Nat} (hk : i < zN 60) (hd : decode cc pc = .ok (.getfield 71, 3)) (kk : zKO E nL Z QQ (pc + 3) L (.ref (zad Z 85 0) :: st) σ o) : zKO E nL Z QQ pc L (.ref (zad Z 60 i) :: st) σ o := zr_get C 24 zin_X11 rfl (Nat.le_of_ble_eq_true rfl) rfl wz_1112 hd hk rfl rfl kk
theorem wz_1488 : Cond.methodLink "AlpCommuneModel" (354 : Nat) ({ cls := "AlpCommuneModel", name := "isSky", desc := "(II)Z" } : MethodName) ∈ zTB := zTB_mem 1614 (by decide +kernel) (by decide +kernel)
theorem wz_1489 : Cond.static ({ cls := "AlpCommuneModel", name := "isSky", desc := "(II)Z" } : MethodName) ∈ zTB := zTB_mem 1615 (by decide +kernel) (by decide +kernel)
theorem wz_1490 : Cond.code yX11_isSky cX11_isSky 2 (some .boolean) ∈ zTB := zTB_mem 1616 (by decide +kernel) (by decide +kernel)
theorem wz_1142 : Cond.fieldLink "AlpCommuneModel" (130 : Nat) "AlpCommuneModel" "sheet" "[[I" ∈ zTB := zTB_mem 1268 (by decide +kernel) (by decide +kernel)
theorem zf_X11_130 (C : zCx E cc RX11 nL ret Z h) {i : Nat} (hk : i < zN 60) (hd : decode cc pc = .ok (.getfield 130, 3)) (kk : zKO E nL Z QQ (pc + 3) L (.ref (zad Z 106 0) :: st) σ o) : zKO E nL Z QQ pc L (.ref (zad Z 60 i) :: st) σ o := zr_get C 54 zin_X11 rfl (Nat.le_of_ble_eq_true rfl) rfl wz_1142 hd hk rfl rfl kk
theorem wz_1143 : Cond.fieldLink "AlpCommuneModel" (133 : Nat) "AlpCommuneModel" "noNumber" "[[Z" ∈ zTB := zTB_mem 1269 (by decide +kernel) (by decide +kernel)
theorem zf_X11_133 (C : zCx E cc RX11 nL ret Z h) {i : Nat} (hk : i < zN 60) (hd : decode cc pc = .ok (.getfield 133, 3)) (kk : zKO E nL Z QQ (pc + 3) L (.ref (zad Z 108 0) :: st) σ o) : zKO E nL Z QQ pc L (.ref (zad Z 60 i) :: st) σ o := zr_get C 55 zin_X11 rfl (Nat.le_of_ble_eq_true rfl) rfl wz_1143 hd hk rfl rfl kk
theorem wz_1140 : Cond.fieldLink "AlpCommuneModel" (124 : Nat) "AlpCommuneModel" "sheetSort" "[I" ∈ zTB := zTB_mem 1266 (by decide +kernel) (by decide +kernel)
theorem zf_X11_124 (C : zCx E cc RX11 nL ret Z h) {i : Nat} (hk : i < zN 60) (hd : decode cc pc = .ok (.getfield 124, 3)) (kk : zKO E nL Z QQ (pc + 3) L (.ref (zad Z 104 0) :: st) σ o) : zKO E nL Z QQ pc L (.ref (zad Z 60 i) :: st) σ o := zr_get C 52 zin_X11 rfl (Nat.le_of_ble_eq_true rfl) rfl wz_1140 hd hk rfl rfl kk
theorem wz_1141 : Cond.fieldLink "AlpCommuneModel" (127 : Nat) "AlpCommuneModel" "sheetSize" "[I" ∈ zTB := zTB_mem 1267 (by decide +kernel) (by decide +kernel)
theorem zf_X11_127 (C : zCx E cc RX11 nL ret Z h) {i : Nat} (hk : i < zN 60) (hd : decode cc pc = .ok (.getfield 127, 3)) (kk : zKO E nL Z QQ (pc + 3) L (.ref (zad Z 105 0) :: st) σ o) : zKO E nL Z QQ pc L (.ref (zad Z 60 i) :: st) σ o := zr_get C 53 zin_X11 rfl (Nat.le_of_ble_eq_true rfl) rfl wz_1141 hd hk rfl rfl kk
theorem wz_1499 : Cond.methodLink "AlpCommuneModel" (357 : Nat) ({ cls := "AlpCommuneModel", name := "skyAt", desc := "(II)I" } : MethodName) ∈ zTB := zTB_mem 1625 (by decide +kernel) (by decide +kernel)
theorem wz_p103 : Cond.selects yX11_skyAt.cls yX11_skyAt yX11_skyAt ∈ zTB := zTB_mem 103 (by decide +kernel) (by decide +kernel)
theorem wz_1501 : Cond.instanceMethod ({ cls := "AlpCommuneModel", name := "skyAt", desc := "(II)I" } : MethodName) ∈ zTB := zTB_mem 1627 (by decide +kernel) (by decide +kernel)
theorem wz_1502 : Cond.code yX11_skyAt cX11_skyAt 4 (some .int) ∈ zTB := zTB_mem 1628 (by decide +kernel) (by decide +kernel)
theorem wz_1114 : Cond.fieldLink "AlpCommuneModel" (74 : Nat) "AlpCommuneModel" "high" "[I" ∈ zTB := zTB_mem 1240 (by decide +kernel) (by decide +kernel)
theorem zf_X11_74 (C : zCx E cc RX11 nL ret Z h) {i : Nat} (hk : i < zN 60) (hd : decode cc pc = .ok (.getfield 74, 3)) (kk : zKO E nL Z QQ (pc + 3) L (.ref (zad Z 87 0) :: st) σ o) : zKO E nL Z QQ pc L (.ref (zad Z 60 i) :: st) σ o := zr_get C 26 zin_X11 rfl (Nat.le_of_ble_eq_true rfl) rfl wz_1114 hd hk rfl rfl kk
theorem wz_1115 : Cond.fieldLink "AlpCommuneModel" (77 : Nat) "AlpCommuneModel" "area" "[I" ∈ zTB := zTB_mem 1241 (by decide +kernel) (by decide +kernel)
theorem zf_X11_77 (C : zCx E cc RX11 nL ret Z h) {i : Nat} (hk : i < zN 60) (hd : decode cc pc = .ok (.getfield 77, 3)) (kk : zKO E nL Z QQ (pc + 3) L (.ref (zad Z 88 0) :: st) σ o) : zKO E nL Z QQ pc L (.ref (zad Z 60 i) :: st) σ o := zr_get C 27 zin_X11 rfl (Nat.le_of_ble_eq_true rfl) rfl wz_1115 hd hk rfl rfl kk
theorem zp_X11_170 (C : zCx E cc RX11 nL ret Z h) {i : Nat} {x : Int32} (hk : i < zN 60) (hd : decode cc pc = .ok (.putfield 170, 3)) (kk : zKO E nL Z QQ (pc + 3) L st (zwi σ 60 i 25 x) o) : zKO E nL Z QQ pc L (.int x :: .ref (zad Z 60 i) :: st) σ o :=
  zr_put C 25 zin_X11 rfl (Nat.le_of_ble_eq_true rfl) rfl tyX11_ok nmX11 rfl (ty := .int) (σ1 := zwi σ 60 i 25 x) (by decide +kernel) wz_1113 hd hk rfl (Nat.le_of_ble_eq_true rfl) rfl rfl (fun a b q => zu_off _ _ _ q) (fun a b q => rfl) (by
    show zE Z 60 i (zu σ.1 60 i 25 x 60 i) _ = _
    rw [zu_at]
    rfl) kk
theorem wz_1116 : Cond.fieldLink "AlpCommuneModel" (80 : Nat) "AlpCommuneModel" "grass" "[I" ∈ zTB := zTB_mem 1242 (by decide +kernel) (by decide +kernel)
theorem zf_X11_80 (C : zCx E cc RX11 nL ret Z h) {i : Nat} (hk : i < zN 60) (hd : decode cc pc = .ok (.getfield 80, 3)) (kk : zKO E nL Z QQ (pc + 3) L (.ref (zad Z (σ.1 60 i 28).toNatClampNeg 0) :: st) σ o) : zKO E nL Z QQ pc L (.ref (zad Z 60 i) :: st) σ o := zr_get C 28 zin_X11 rfl (Nat.le_of_ble_eq_true rfl) rfl wz_1116 hd hk rfl rfl kk
theorem wz_1117 : Cond.fieldLink "AlpCommuneModel" (83 : Nat) "AlpCommuneModel" "snow" "[I" ∈ zTB := zTB_mem 1243 (by decide +kernel) (by decide +kernel)
theorem zf_X11_83 (C : zCx E cc RX11 nL ret Z h) {i : Nat} (hk : i < zN 60) (hd : decode cc pc = .ok (.getfield 83, 3)) (kk : zKO E nL Z QQ (pc + 3) L (.ref (zad Z (σ.1 60 i 29).toNatClampNeg 0) :: st) σ o) : zKO E nL Z QQ pc L (.ref (zad Z 60 i) :: st) σ o := zr_get C 29 zin_X11 rfl (Nat.le_of_ble_eq_true rfl) rfl wz_1117 hd hk rfl rfl kk
theorem wz_1515 : Cond.methodLink "AlpCommuneModel" (363 : Nat) ({ cls := "AlpCommuneModel", name := "cowsOn", desc := "(I)I" } : MethodName) ∈ zTB := zTB_mem 1641 (by decide +kernel) (by decide +kernel)
theorem wz_p105 : Cond.selects yX11_cowsOn.cls yX11_cowsOn yX11_cowsOn ∈ zTB := zTB_mem 105 (by decide +kernel) (by decide +kernel)
theorem wz_1517 : Cond.instanceMethod ({ cls := "AlpCommuneModel", name := "cowsOn", desc := "(I)I" } : MethodName) ∈ zTB := zTB_mem 1643 (by decide +kernel) (by decide +kernel)
theorem wz_1518 : Cond.code yX11_cowsOn cX11_cowsOn 4 (some .int) ∈ zTB := zTB_mem 1644 (by decide +kernel) (by decide +kernel)
theorem wz_1511 : Cond.methodLink "AlpCommuneModel" (360 : Nat) ({ cls := "AlpCommuneModel", name := "isAlp", desc := "(I)Z" } : MethodName) ∈ zTB := zTB_mem 1637 (by decide +kernel) (by decide +kernel)
theorem wz_p104 : Cond.selects yX11_isAlp.cls yX11_isAlp yX11_isAlp ∈ zTB := zTB_mem 104 (by decide +kernel) (by decide +kernel)
theorem wz_1513 : Cond.instanceMethod ({ cls := "AlpCommuneModel", name := "isAlp", desc := "(I)Z" } : MethodName) ∈ zTB := zTB_mem 1639 (by decide +kernel) (by decide +kernel)
theorem wz_1514 : Cond.code yX11_isAlp cX11_isAlp 2 (some .boolean) ∈ zTB := zTB_mem 1640 (by decide +kernel) (by decide +kernel)
theorem wz_1527 : Cond.methodLink "AlpCommuneModel" (366 : Nat) ({ cls := "AlpCommuneModel", name := "now", desc := "(II)I" } : MethodName) ∈ zTB := zTB_mem 1653 (by decide +kernel) (by decide +kernel)
theorem wz_p107 : Cond.selects yX11_now.cls yX11_now yX11_now ∈ zTB := zTB_mem 107 (by decide +kernel) (by decide +kernel)
theorem wz_1529 : Cond.instanceMethod ({ cls := "AlpCommuneModel", name := "now", desc := "(II)I" } : MethodName) ∈ zTB := zTB_mem 1655 (by decide +kernel) (by decide +kernel)
theorem wz_1530 : Cond.code yX11_now cX11_now 3 (some .int) ∈ zTB := zTB_mem 1656 (by decide +kernel) (by decide +kernel)
theorem zp_X11_342 (C : zCx E cc RX11 nL ret Z h) {i : Nat} {x : Int32} (hk : i < zN 60) (hd : decode cc pc = .ok (.putfield 342, 3)) (kk : zKO E nL Z QQ (pc + 3) L st (zwi σ 60 i 30 x) o) : zKO E nL Z QQ pc L (.int x :: .ref (zad Z 60 i) :: st) σ o :=
  zr_put C 30 zin_X11 rfl (Nat.le_of_ble_eq_true rfl) rfl tyX11_ok nmX11 rfl (ty := .int) (σ1 := zwi σ 60 i 30 x) (by decide +kernel) wz_1118 hd hk rfl (Nat.le_of_ble_eq_true rfl) rfl rfl (fun a b q => zu_off _ _ _ q) (fun a b q => rfl) (by
    show zE Z 60 i (zu σ.1 60 i 30 x 60 i) _ = _
    rw [zu_at]
    rfl) kk
theorem wz_1523 : Cond.methodLink "AlpCommuneModel" (368 : Nat) ({ cls := "AlpCommuneModel", name := "whyNot", desc := "(II)I" } : MethodName) ∈ zTB := zTB_mem 1649 (by decide +kernel) (by decide +kernel)
theorem wz_p106 : Cond.selects yX11_whyNot.cls yX11_whyNot yX11_whyNot ∈ zTB := zTB_mem 106 (by decide +kernel) (by decide +kernel)
theorem wz_1525 : Cond.instanceMethod ({ cls := "AlpCommuneModel", name := "whyNot", desc := "(II)I" } : MethodName) ∈ zTB := zTB_mem 1651 (by decide +kernel) (by decide +kernel)
theorem wz_1526 : Cond.code yX11_whyNot cX11_whyNot 6 (some .int) ∈ zTB := zTB_mem 1652 (by decide +kernel) (by decide +kernel)
theorem wz_1555 : Cond.methodLink "AlpCommuneModel" (371 : Nat) ({ cls := "java/lang/Math", name := "max", desc := "(II)I" } : MethodName) ∈ zTB := zTB_mem 1681 (by decide +kernel) (by decide +kernel)
theorem wz_1551 : Cond.methodLink "AlpCommuneModel" (374 : Nat) ({ cls := "AlpCommuneModel", name := "grow", desc := "(II)V" } : MethodName) ∈ zTB := zTB_mem 1677 (by decide +kernel) (by decide +kernel)
theorem wz_p110 : Cond.selects yX11_grow.cls yX11_grow yX11_grow ∈ zTB := zTB_mem 110 (by decide +kernel) (by decide +kernel)
theorem wz_1553 : Cond.instanceMethod ({ cls := "AlpCommuneModel", name := "grow", desc := "(II)V" } : MethodName) ∈ zTB := zTB_mem 1679 (by decide +kernel) (by decide +kernel)
theorem wz_1554 : Cond.code yX11_grow cX11_grow 4 none ∈ zTB := zTB_mem 1680 (by decide +kernel) (by decide +kernel)
theorem wz_1556 : Cond.methodLink "AlpCommuneModel" (378 : Nat) ({ cls := "AlpCommuneModel", name := "feedOn", desc := "(II)I" } : MethodName) ∈ zTB := zTB_mem 1682 (by decide +kernel) (by decide +kernel)
theorem wz_p111 : Cond.selects yX11_feedOn.cls yX11_feedOn yX11_feedOn ∈ zTB := zTB_mem 111 (by decide +kernel) (by decide +kernel)
theorem wz_1558 : Cond.instanceMethod ({ cls := "AlpCommuneModel", name := "feedOn", desc := "(II)I" } : MethodName) ∈ zTB := zTB_mem 1684 (by decide +kernel) (by decide +kernel)
theorem wz_1559 : Cond.code yX11_feedOn cX11_feedOn 4 (some .int) ∈ zTB := zTB_mem 1685 (by decide +kernel) (by decide +kernel)
theorem wz_1568 : Cond.constantLong "AlpCommuneModel" (457 : Nat) (99999999 : Int64) ∈ zTB := zTB_mem 1694 (by decide +kernel) (by decide +kernel)
theorem wz_1569 : Cond.methodLink "AlpCommuneModel" (439 : Nat) ({ cls := "java/lang/Math", name := "min", desc := "(JJ)J" } : MethodName) ∈ zTB := zTB_mem 1695 (by decide +kernel) (by decide +kernel)
theorem wz_1564 : Cond.methodLink "AlpCommuneModel" (381 : Nat) ({ cls := "AlpCommuneModel", name := "owes", desc := "(IJ)I" } : MethodName) ∈ zTB := zTB_mem 1690 (by decide +kernel) (by decide +kernel)
theorem wz_p113 : Cond.selects yX11_owes.cls yX11_owes yX11_owes ∈ zTB := zTB_mem 113 (by decide +kernel) (by decide +kernel)
theorem wz_1566 : Cond.instanceMethod ({ cls := "AlpCommuneModel", name := "owes", desc := "(IJ)I" } : MethodName) ∈ zTB := zTB_mem 1692 (by decide +kernel) (by decide +kernel)
theorem wz_1567 : Cond.code yX11_owes cX11_owes 5 (some .int) ∈ zTB := zTB_mem 1693 (by decide +kernel) (by decide +kernel)
theorem wz_1123 : Cond.fieldLink "AlpCommuneModel" (96 : Nat) "AlpCommuneModel" "layers" "[I" ∈ zTB := zTB_mem 1249 (by decide +kernel) (by decide +kernel)
theorem zf_X11_96 (C : zCx E cc RX11 nL ret Z h) {i : Nat} (hk : i < zN 60) (hd : decode cc pc = .ok (.getfield 96, 3)) (kk : zKO E nL Z QQ (pc + 3) L (.ref (zad Z 95 0) :: st) σ o) : zKO E nL Z QQ pc L (.ref (zad Z 60 i) :: st) σ o := zr_get C 35 zin_X11 rfl (Nat.le_of_ble_eq_true rfl) rfl wz_1123 hd hk rfl rfl kk
theorem wz_1124 : Cond.fieldLink "AlpCommuneModel" (99 : Nat) "AlpCommuneModel" "lies" "[[I" ∈ zTB := zTB_mem 1250 (by decide +kernel) (by decide +kernel)
theorem zf_X11_99 (C : zCx E cc RX11 nL ret Z h) {i : Nat} (hk : i < zN 60) (hd : decode cc pc = .ok (.getfield 99, 3)) (kk : zKO E nL Z QQ (pc + 3) L (.ref (zad Z 96 0) :: st) σ o) : zKO E nL Z QQ pc L (.ref (zad Z 60 i) :: st) σ o := zr_get C 36 zin_X11 rfl (Nat.le_of_ble_eq_true rfl) rfl wz_1124 hd hk rfl rfl kk
theorem wz_1125 : Cond.fieldLink "AlpCommuneModel" (102 : Nat) "AlpCommuneModel" "soft" "[[Z" ∈ zTB := zTB_mem 1251 (by decide +kernel) (by decide +kernel)
theorem zf_X11_102 (C : zCx E cc RX11 nL ret Z h) {i : Nat} (hk : i < zN 60) (hd : decode cc pc = .ok (.getfield 102, 3)) (kk : zKO E nL Z QQ (pc + 3) L (.ref (zad Z 98 0) :: st) σ o) : zKO E nL Z QQ pc L (.ref (zad Z 60 i) :: st) σ o := zr_get C 37 zin_X11 rfl (Nat.le_of_ble_eq_true rfl) rfl wz_1125 hd hk rfl rfl kk
theorem wz_1122 : Cond.fieldLink "AlpCommuneModel" (92 : Nat) "AlpCommuneModel" "works" "[Z" ∈ zTB := zTB_mem 1248 (by decide +kernel) (by decide +kernel)
theorem zf_X11_92 (C : zCx E cc RX11 nL ret Z h) {i : Nat} (hk : i < zN 60) (hd : decode cc pc = .ok (.getfield 92, 3)) (kk : zKO E nL Z QQ (pc + 3) L (.ref (zad Z 94 0) :: st) σ o) : zKO E nL Z QQ pc L (.ref (zad Z 60 i) :: st) σ o := zr_get C 34 zin_X11 rfl (Nat.le_of_ble_eq_true rfl) rfl wz_1122 hd hk rfl rfl kk
theorem wz_1586 : Cond.methodLink "AlpCommuneModel" (391 : Nat) ({ cls := "AlpCommuneModel", name := "holdsOf", desc := "(II)I" } : MethodName) ∈ zTB := zTB_mem 1712 (by decide +kernel) (by decide +kernel)
theorem wz_p118 : Cond.selects yX11_holdsOf.cls yX11_holdsOf yX11_holdsOf ∈ zTB := zTB_mem 118 (by decide +kernel) (by decide +kernel)
theorem wz_1588 : Cond.instanceMethod ({ cls := "AlpCommuneModel", name := "holdsOf", desc := "(II)I" } : MethodName) ∈ zTB := zTB_mem 1714 (by decide +kernel) (by decide +kernel)
theorem wz_1589 : Cond.code yX11_holdsOf cX11_holdsOf 3 (some .int) ∈ zTB := zTB_mem 1715 (by decide +kernel) (by decide +kernel)
theorem wz_1582 : Cond.methodLink "AlpCommuneModel" (388 : Nat) ({ cls := "AlpCommuneModel", name := "over", desc := "(II)I" } : MethodName) ∈ zTB := zTB_mem 1708 (by decide +kernel) (by decide +kernel)
theorem wz_p117 : Cond.selects yX11_over.cls yX11_over yX11_over ∈ zTB := zTB_mem 117 (by decide +kernel) (by decide +kernel)
theorem wz_1584 : Cond.instanceMethod ({ cls := "AlpCommuneModel", name := "over", desc := "(II)I" } : MethodName) ∈ zTB := zTB_mem 1710 (by decide +kernel) (by decide +kernel)
theorem wz_1585 : Cond.code yX11_over cX11_over 5 (some .int) ∈ zTB := zTB_mem 1711 (by decide +kernel) (by decide +kernel)
theorem wz_1578 : Cond.methodLink "AlpCommuneModel" (385 : Nat) ({ cls := "AlpCommuneModel", name := "lowestSoft", desc := "(I)I" } : MethodName) ∈ zTB := zTB_mem 1704 (by decide +kernel) (by decide +kernel)
theorem wz_p116 : Cond.selects yX11_lowestSoft.cls yX11_lowestSoft yX11_lowestSoft ∈ zTB := zTB_mem 116 (by decide +kernel) (by decide +kernel)
theorem wz_1580 : Cond.instanceMethod ({ cls := "AlpCommuneModel", name := "lowestSoft", desc := "(I)I" } : MethodName) ∈ zTB := zTB_mem 1706 (by decide +kernel) (by decide +kernel)
theorem wz_1581 : Cond.code yX11_lowestSoft cX11_lowestSoft 3 (some .int) ∈ zTB := zTB_mem 1707 (by decide +kernel) (by decide +kernel)
theorem wz_1574 : Cond.methodLink "AlpCommuneModel" (394 : Nat) ({ cls := "AlpCommuneModel", name := "newLayer", desc := "(IIZ)V" } : MethodName) ∈ zTB := zTB_mem 1700 (by decide +kernel) (by decide +kernel)
theorem wz_p115 : Cond.selects yX11_newLayer.cls yX11_newLayer yX11_newLayer ∈ zTB := zTB_mem 115 (by decide +kernel) (by decide +kernel)
theorem wz_1576 : Cond.instanceMethod ({ cls := "AlpCommuneModel", name := "newLayer", desc := "(IIZ)V" } : MethodName) ∈ zTB := zTB_mem 1702 (by decide +kernel) (by decide +kernel)
theorem wz_1577 : Cond.code yX11_newLayer cX11_newLayer 5 none ∈ zTB := zTB_mem 1703 (by decide +kernel) (by decide +kernel)
theorem wz_1121 : Cond.fieldLink "AlpCommuneModel" (89 : Nat) "AlpCommuneModel" "age" "[I" ∈ zTB := zTB_mem 1247 (by decide +kernel) (by decide +kernel)
theorem zf_X11_89 (C : zCx E cc RX11 nL ret Z h) {i : Nat} (hk : i < zN 60) (hd : decode cc pc = .ok (.getfield 89, 3)) (kk : zKO E nL Z QQ (pc + 3) L (.ref (zad Z 93 0) :: st) σ o) : zKO E nL Z QQ pc L (.ref (zad Z 60 i) :: st) σ o := zr_get C 33 zin_X11 rfl (Nat.le_of_ble_eq_true rfl) rfl wz_1121 hd hk rfl rfl kk
theorem wz_1126 : Cond.fieldLink "AlpCommuneModel" (105 : Nat) "AlpCommuneModel" "slid" "[I" ∈ zTB := zTB_mem 1252 (by decide +kernel) (by decide +kernel)
theorem zf_X11_105 (C : zCx E cc RX11 nL ret Z h) {i : Nat} (hk : i < zN 60) (hd : decode cc pc = .ok (.getfield 105, 3)) (kk : zKO E nL Z QQ (pc + 3) L (.ref (zad Z 100 0) :: st) σ o) : zKO E nL Z QQ pc L (.ref (zad Z 60 i) :: st) σ o := zr_get C 38 zin_X11 rfl (Nat.le_of_ble_eq_true rfl) rfl wz_1126 hd hk rfl rfl kk
theorem wz_1128 : Cond.fieldLink "AlpCommuneModel" (398 : Nat) "AlpCommuneModel" "slides" "I" ∈ zTB := zTB_mem 1254 (by decide +kernel) (by decide +kernel)
theorem zf_X11_398 (C : zCx E cc RX11 nL ret Z h) {i : Nat} (hk : i < zN 60) (hd : decode cc pc = .ok (.getfield 398, 3)) (kk : zKO E nL Z QQ (pc + 3) L (.int (σ.1 60 i 40) :: st) σ o) : zKO E nL Z QQ pc L (.ref (zad Z 60 i) :: st) σ o := zr_get C 40 zin_X11 rfl (Nat.le_of_ble_eq_true rfl) rfl wz_1128 hd hk rfl rfl kk
theorem zp_X11_398 (C : zCx E cc RX11 nL ret Z h) {i : Nat} {x : Int32} (hk : i < zN 60) (hd : decode cc pc = .ok (.putfield 398, 3)) (kk : zKO E nL Z QQ (pc + 3) L st (zwi σ 60 i 40 x) o) : zKO E nL Z QQ pc L (.int x :: .ref (zad Z 60 i) :: st) σ o :=
  zr_put C 40 zin_X11 rfl (Nat.le_of_ble_eq_true rfl) rfl tyX11_ok nmX11 rfl (ty := .int) (σ1 := zwi σ 60 i 40 x) (by decide +kernel) wz_1128 hd hk rfl (Nat.le_of_ble_eq_true rfl) rfl rfl (fun a b q => zu_off _ _ _ q) (fun a b q => rfl) (by
    show zE Z 60 i (zu σ.1 60 i 40 x 60 i) _ = _
    rw [zu_at]
    rfl) kk
theorem wz_1129 : Cond.fieldLink "AlpCommuneModel" (401 : Nat) "AlpCommuneModel" "missed" "I" ∈ zTB := zTB_mem 1255 (by decide +kernel) (by decide +kernel)
theorem zf_X11_401 (C : zCx E cc RX11 nL ret Z h) {i : Nat} (hk : i < zN 60) (hd : decode cc pc = .ok (.getfield 401, 3)) (kk : zKO E nL Z QQ (pc + 3) L (.int (σ.1 60 i 41) :: st) σ o) : zKO E nL Z QQ pc L (.ref (zad Z 60 i) :: st) σ o := zr_get C 41 zin_X11 rfl (Nat.le_of_ble_eq_true rfl) rfl wz_1129 hd hk rfl rfl kk
theorem wz_1127 : Cond.fieldLink "AlpCommuneModel" (404 : Nat) "AlpCommuneModel" "shut" "Z" ∈ zTB := zTB_mem 1253 (by decide +kernel) (by decide +kernel)
theorem zf_X11_404 (C : zCx E cc RX11 nL ret Z h) {i : Nat} (hk : i < zN 60) (hd : decode cc pc = .ok (.getfield 404, 3)) (kk : zKO E nL Z QQ (pc + 3) L (.int (σ.1 60 i 39) :: st) σ o) : zKO E nL Z QQ pc L (.ref (zad Z 60 i) :: st) σ o := zr_get C 39 zin_X11 rfl (Nat.le_of_ble_eq_true rfl) rfl wz_1127 hd hk rfl rfl kk
theorem zp_X11_401 (C : zCx E cc RX11 nL ret Z h) {i : Nat} {x : Int32} (hk : i < zN 60) (hd : decode cc pc = .ok (.putfield 401, 3)) (kk : zKO E nL Z QQ (pc + 3) L st (zwi σ 60 i 41 x) o) : zKO E nL Z QQ pc L (.int x :: .ref (zad Z 60 i) :: st) σ o :=
  zr_put C 41 zin_X11 rfl (Nat.le_of_ble_eq_true rfl) rfl tyX11_ok nmX11 rfl (ty := .int) (σ1 := zwi σ 60 i 41 x) (by decide +kernel) wz_1129 hd hk rfl (Nat.le_of_ble_eq_true rfl) rfl rfl (fun a b q => zu_off _ _ _ q) (fun a b q => rfl) (by
    show zE Z 60 i (zu σ.1 60 i 41 x 60 i) _ = _
    rw [zu_at]
    rfl) kk
theorem wz_1130 : Cond.fieldLink "AlpCommuneModel" (417 : Nat) "AlpCommuneModel" "vain" "I" ∈ zTB := zTB_mem 1256 (by decide +kernel) (by decide +kernel)
theorem zf_X11_417 (C : zCx E cc RX11 nL ret Z h) {i : Nat} (hk : i < zN 60) (hd : decode cc pc = .ok (.getfield 417, 3)) (kk : zKO E nL Z QQ (pc + 3) L (.int (σ.1 60 i 42) :: st) σ o) : zKO E nL Z QQ pc L (.ref (zad Z 60 i) :: st) σ o := zr_get C 42 zin_X11 rfl (Nat.le_of_ble_eq_true rfl) rfl wz_1130 hd hk rfl rfl kk
theorem wz_1570 : Cond.methodLink "AlpCommuneModel" (414 : Nat) ({ cls := "AlpCommuneModel", name := "slopeDay", desc := "(I)Z" } : MethodName) ∈ zTB := zTB_mem 1696 (by decide +kernel) (by decide +kernel)
theorem wz_p114 : Cond.selects yX11_slopeDay.cls yX11_slopeDay yX11_slopeDay ∈ zTB := zTB_mem 114 (by decide +kernel) (by decide +kernel)
theorem wz_1572 : Cond.instanceMethod ({ cls := "AlpCommuneModel", name := "slopeDay", desc := "(I)Z" } : MethodName) ∈ zTB := zTB_mem 1698 (by decide +kernel) (by decide +kernel)
theorem wz_1573 : Cond.code yX11_slopeDay cX11_slopeDay 5 (some .boolean) ∈ zTB := zTB_mem 1699 (by decide +kernel) (by decide +kernel)
theorem zp_X11_417 (C : zCx E cc RX11 nL ret Z h) {i : Nat} {x : Int32} (hk : i < zN 60) (hd : decode cc pc = .ok (.putfield 417, 3)) (kk : zKO E nL Z QQ (pc + 3) L st (zwi σ 60 i 42 x) o) : zKO E nL Z QQ pc L (.int x :: .ref (zad Z 60 i) :: st) σ o :=
  zr_put C 42 zin_X11 rfl (Nat.le_of_ble_eq_true rfl) rfl tyX11_ok nmX11 rfl (ty := .int) (σ1 := zwi σ 60 i 42 x) (by decide +kernel) wz_1130 hd hk rfl (Nat.le_of_ble_eq_true rfl) rfl rfl (fun a b q => zu_off _ _ _ q) (fun a b q => rfl) (by
    show zE Z 60 i (zu σ.1 60 i 42 x 60 i) _ = _
    rw [zu_at]
    rfl) kk
theorem zp_X11_193 (C : zCx E cc RX11 nL ret Z h) {i : Nat} {x : Int32} (hk : i < zN 60) (hd : decode cc pc = .ok (.putfield 193, 3)) (kk : zKO E nL Z QQ (pc + 3) L st (zwi σ 60 i 0 x) o) : zKO E nL Z QQ pc L (.int x :: .ref (zad Z 60 i) :: st) σ o :=
  zr_put C 0 zin_X11 rfl (Nat.le_of_ble_eq_true rfl) rfl tyX11_ok nmX11 rfl (ty := .int) (σ1 := zwi σ 60 i 0 x) (by decide +kernel) wz_1088 hd hk rfl (Nat.le_of_ble_eq_true rfl) rfl rfl (fun a b q => zu_off _ _ _ q) (fun a b q => rfl) (by
    show zE Z 60 i (zu σ.1 60 i 0 x 60 i) _ = _
    rw [zu_at]
    rfl) kk
theorem wz_1560 : Cond.methodLink "AlpCommuneModel" (411 : Nat) ({ cls := "AlpCommuneModel", name := "stables", desc := "()V" } : MethodName) ∈ zTB := zTB_mem 1686 (by decide +kernel) (by decide +kernel)
theorem wz_p112 : Cond.selects yX11_stables.cls yX11_stables yX11_stables ∈ zTB := zTB_mem 112 (by decide +kernel) (by decide +kernel)
theorem wz_1562 : Cond.instanceMethod ({ cls := "AlpCommuneModel", name := "stables", desc := "()V" } : MethodName) ∈ zTB := zTB_mem 1688 (by decide +kernel) (by decide +kernel)
theorem wz_1563 : Cond.code yX11_stables cX11_stables 5 none ∈ zTB := zTB_mem 1689 (by decide +kernel) (by decide +kernel)
theorem wz_1547 : Cond.methodLink "AlpCommuneModel" (408 : Nat) ({ cls := "AlpCommuneModel", name := "fields", desc := "()V" } : MethodName) ∈ zTB := zTB_mem 1673 (by decide +kernel) (by decide +kernel)
theorem wz_p109 : Cond.selects yX11_fields.cls yX11_fields yX11_fields ∈ zTB := zTB_mem 109 (by decide +kernel) (by decide +kernel)
theorem wz_1549 : Cond.instanceMethod ({ cls := "AlpCommuneModel", name := "fields", desc := "()V" } : MethodName) ∈ zTB := zTB_mem 1675 (by decide +kernel) (by decide +kernel)
theorem wz_1550 : Cond.code yX11_fields cX11_fields 4 none ∈ zTB := zTB_mem 1676 (by decide +kernel) (by decide +kernel)
theorem wz_1543 : Cond.methodLink "AlpCommuneModel" (420 : Nat) ({ cls := "AlpCommuneModel", name := "oneDay", desc := "()V" } : MethodName) ∈ zTB := zTB_mem 1669 (by decide +kernel) (by decide +kernel)
theorem wz_p108 : Cond.selects yX11_oneDay.cls yX11_oneDay yX11_oneDay ∈ zTB := zTB_mem 108 (by decide +kernel) (by decide +kernel)
theorem wz_1545 : Cond.instanceMethod ({ cls := "AlpCommuneModel", name := "oneDay", desc := "()V" } : MethodName) ∈ zTB := zTB_mem 1671 (by decide +kernel) (by decide +kernel)
theorem wz_1546 : Cond.code yX11_oneDay cX11_oneDay 3 none ∈ zTB := zTB_mem 1672 (by decide +kernel) (by decide +kernel)
theorem zp_X11_173 (C : zCx E cc RX11 nL ret Z h) {i : Nat} {x : Int32} (hk : i < zN 60) (hd : decode cc pc = .ok (.putfield 173, 3)) (kk : zKO E nL Z QQ (pc + 3) L st (zwi σ 60 i 32 x) o) : zKO E nL Z QQ pc L (.int x :: .ref (zad Z 60 i) :: st) σ o :=
  zr_put C 32 zin_X11 rfl (Nat.le_of_ble_eq_true rfl) rfl tyX11_ok nmX11 rfl (ty := .int) (σ1 := zwi σ 60 i 32 x) (by decide +kernel) wz_1120 hd hk rfl (Nat.le_of_ble_eq_true rfl) rfl rfl (fun a b q => zu_off _ _ _ q) (fun a b q => rfl) (by
    show zE Z 60 i (zu σ.1 60 i 32 x 60 i) _ = _
    rw [zu_at]
    rfl) kk
theorem wz_1602 : Cond.methodLink "AlpCommuneModel" (426 : Nat) ({ cls := "AlpCommuneModel", name := "riskOf", desc := "(II)I" } : MethodName) ∈ zTB := zTB_mem 1728 (by decide +kernel) (by decide +kernel)
theorem wz_p120 : Cond.selects yX11_riskOf.cls yX11_riskOf yX11_riskOf ∈ zTB := zTB_mem 120 (by decide +kernel) (by decide +kernel)
theorem wz_1604 : Cond.instanceMethod ({ cls := "AlpCommuneModel", name := "riskOf", desc := "(II)I" } : MethodName) ∈ zTB := zTB_mem 1730 (by decide +kernel) (by decide +kernel)
theorem wz_1605 : Cond.code yX11_riskOf cX11_riskOf 4 (some .int) ∈ zTB := zTB_mem 1731 (by decide +kernel) (by decide +kernel)
theorem wz_1598 : Cond.methodLink "AlpCommuneModel" (423 : Nat) ({ cls := "AlpCommuneModel", name := "isSlope", desc := "(I)Z" } : MethodName) ∈ zTB := zTB_mem 1724 (by decide +kernel) (by decide +kernel)
theorem wz_p119 : Cond.selects yX11_isSlope.cls yX11_isSlope yX11_isSlope ∈ zTB := zTB_mem 119 (by decide +kernel) (by decide +kernel)
theorem wz_1600 : Cond.instanceMethod ({ cls := "AlpCommuneModel", name := "isSlope", desc := "(I)Z" } : MethodName) ∈ zTB := zTB_mem 1726 (by decide +kernel) (by decide +kernel)
theorem wz_1601 : Cond.code yX11_isSlope cX11_isSlope 2 (some .boolean) ∈ zTB := zTB_mem 1727 (by decide +kernel) (by decide +kernel)
theorem zp_X11_404 (C : zCx E cc RX11 nL ret Z h) {i : Nat} {x : Int32} (hk : i < zN 60) (hd : decode cc pc = .ok (.putfield 404, 3)) (kk : zKO E nL Z QQ (pc + 3) L st (zwi σ 60 i 39 x) o) : zKO E nL Z QQ pc L (.int x :: .ref (zad Z 60 i) :: st) σ (zg (zbo x) o) :=
  zr_g fun hb => zr_put C 39 zin_X11 rfl (Nat.le_of_ble_eq_true rfl) rfl tyX11_ok nmX11 rfl (ty := .boolean) (σ1 := zwi σ 60 i 39 x) (by decide +kernel) wz_1127 hd hk rfl (Nat.le_of_ble_eq_true rfl) (zbo_nar hb) (zbo_fit hb) (fun a b q => zu_off _ _ _ q) (fun a b q => rfl) (by
    show zE Z 60 i (zu σ.1 60 i 39 x 60 i) _ = _
    rw [zu_at]
    rfl) kk
theorem wz_1131 : Cond.fieldLink "AlpCommuneModel" (108 : Nat) "AlpCommuneModel" "measured" "I" ∈ zTB := zTB_mem 1257 (by decide +kernel) (by decide +kernel)
theorem zf_X11_108 (C : zCx E cc RX11 nL ret Z h) {i : Nat} (hk : i < zN 60) (hd : decode cc pc = .ok (.getfield 108, 3)) (kk : zKO E nL Z QQ (pc + 3) L (.int (σ.1 60 i 43) :: st) σ o) : zKO E nL Z QQ pc L (.ref (zad Z 60 i) :: st) σ o := zr_get C 43 zin_X11 rfl (Nat.le_of_ble_eq_true rfl) rfl wz_1131 hd hk rfl rfl kk
theorem zp_X11_108 (C : zCx E cc RX11 nL ret Z h) {i : Nat} {x : Int32} (hk : i < zN 60) (hd : decode cc pc = .ok (.putfield 108, 3)) (kk : zKO E nL Z QQ (pc + 3) L st (zwi σ 60 i 43 x) o) : zKO E nL Z QQ pc L (.int x :: .ref (zad Z 60 i) :: st) σ o :=
  zr_put C 43 zin_X11 rfl (Nat.le_of_ble_eq_true rfl) rfl tyX11_ok nmX11 rfl (ty := .int) (σ1 := zwi σ 60 i 43 x) (by decide +kernel) wz_1131 hd hk rfl (Nat.le_of_ble_eq_true rfl) rfl rfl (fun a b q => zu_off _ _ _ q) (fun a b q => rfl) (by
    show zE Z 60 i (zu σ.1 60 i 43 x 60 i) _ = _
    rw [zu_at]
    rfl) kk
theorem wz_1150 : Cond.fieldLink "AlpCommuneModel" (142 : Nat) "AlpCommuneModel" "now" "[I" ∈ zTB := zTB_mem 1276 (by decide +kernel) (by decide +kernel)
theorem zf_X11_142 (C : zCx E cc RX11 nL ret Z h) {i : Nat} (hk : i < zN 60) (hd : decode cc pc = .ok (.getfield 142, 3)) (kk : zKO E nL Z QQ (pc + 3) L (.ref (zad Z 112 0) :: st) σ o) : zKO E nL Z QQ pc L (.ref (zad Z 60 i) :: st) σ o := zr_get C 62 zin_X11 rfl (Nat.le_of_ble_eq_true rfl) rfl wz_1150 hd hk rfl rfl kk
theorem wz_1094 : Cond.fieldLink "AlpCommuneModel" (24 : Nat) "AlpCommuneModel" "rest" "[I" ∈ zTB := zTB_mem 1220 (by decide +kernel) (by decide +kernel)
theorem zf_X11_24 (C : zCx E cc RX11 nL ret Z h) {i : Nat} (hk : i < zN 60) (hd : decode cc pc = .ok (.getfield 24, 3)) (kk : zKO E nL Z QQ (pc + 3) L (.ref (zad Z 66 0) :: st) σ o) : zKO E nL Z QQ pc L (.ref (zad Z 60 i) :: st) σ o := zr_get C 6 zin_X11 rfl (Nat.le_of_ble_eq_true rfl) rfl wz_1094 hd hk rfl rfl kk
theorem wz_1622 : Cond.constantLong "AlpCommuneModel" (429 : Nat) (10000 : Int64) ∈ zTB := zTB_mem 1748 (by decide +kernel) (by decide +kernel)
theorem wz_1623 : Cond.methodLink "AlpCommuneModel" (431 : Nat) ({ cls := "AlpCommuneModel", name := "next", desc := "(Z)I" } : MethodName) ∈ zTB := zTB_mem 1749 (by decide +kernel) (by decide +kernel)
theorem wz_p121 : Cond.selects yX11_next.cls yX11_next yX11_next ∈ zTB := zTB_mem 121 (by decide +kernel) (by decide +kernel)
theorem wz_1625 : Cond.instanceMethod ({ cls := "AlpCommuneModel", name := "next", desc := "(Z)I" } : MethodName) ∈ zTB := zTB_mem 1751 (by decide +kernel) (by decide +kernel)
theorem wz_1626 : Cond.code yX11_next cX11_next 4 (some .int) ∈ zTB := zTB_mem 1752 (by decide +kernel) (by decide +kernel)
theorem wz_1132 : Cond.fieldLink "AlpCommuneModel" (435 : Nat) "AlpCommuneModel" "wheelsGiven" "I" ∈ zTB := zTB_mem 1258 (by decide +kernel) (by decide +kernel)
theorem zf_X11_435 (C : zCx E cc RX11 nL ret Z h) {i : Nat} (hk : i < zN 60) (hd : decode cc pc = .ok (.getfield 435, 3)) (kk : zKO E nL Z QQ (pc + 3) L (.int (σ.1 60 i 44) :: st) σ o) : zKO E nL Z QQ pc L (.ref (zad Z 60 i) :: st) σ o := zr_get C 44 zin_X11 rfl (Nat.le_of_ble_eq_true rfl) rfl wz_1132 hd hk rfl rfl kk
theorem zp_X11_435 (C : zCx E cc RX11 nL ret Z h) {i : Nat} {x : Int32} (hk : i < zN 60) (hd : decode cc pc = .ok (.putfield 435, 3)) (kk : zKO E nL Z QQ (pc + 3) L st (zwi σ 60 i 44 x) o) : zKO E nL Z QQ pc L (.int x :: .ref (zad Z 60 i) :: st) σ o :=
  zr_put C 44 zin_X11 rfl (Nat.le_of_ble_eq_true rfl) rfl tyX11_ok nmX11 rfl (ty := .int) (σ1 := zwi σ 60 i 44 x) (by decide +kernel) wz_1132 hd hk rfl (Nat.le_of_ble_eq_true rfl) rfl rfl (fun a b q => zu_off _ _ _ q) (fun a b q => rfl) (by
    show zE Z 60 i (zu σ.1 60 i 44 x 60 i) _ = _
    rw [zu_at]
    rfl) kk
theorem wz_1631 : Cond.constant "AlpCommuneModel" (438 : Nat) (-1000000 : Int32) ∈ zTB := zTB_mem 1757 (by decide +kernel) (by decide +kernel)
theorem wz_1133 : Cond.fieldLink "AlpCommuneModel" (442 : Nat) "AlpCommuneModel" "logsFelled" "I" ∈ zTB := zTB_mem 1259 (by decide +kernel) (by decide +kernel)
theorem zf_X11_442 (C : zCx E cc RX11 nL ret Z h) {i : Nat} (hk : i < zN 60) (hd : decode cc pc = .ok (.getfield 442, 3)) (kk : zKO E nL Z QQ (pc + 3) L (.int (σ.1 60 i 45) :: st) σ o) : zKO E nL Z QQ pc L (.ref (zad Z 60 i) :: st) σ o := zr_get C 45 zin_X11 rfl (Nat.le_of_ble_eq_true rfl) rfl wz_1133 hd hk rfl rfl kk
theorem zp_X11_442 (C : zCx E cc RX11 nL ret Z h) {i : Nat} {x : Int32} (hk : i < zN 60) (hd : decode cc pc = .ok (.putfield 442, 3)) (kk : zKO E nL Z QQ (pc + 3) L st (zwi σ 60 i 45 x) o) : zKO E nL Z QQ pc L (.int x :: .ref (zad Z 60 i) :: st) σ o :=
  zr_put C 45 zin_X11 rfl (Nat.le_of_ble_eq_true rfl) rfl tyX11_ok nmX11 rfl (ty := .int) (σ1 := zwi σ 60 i 45 x) (by decide +kernel) wz_1133 hd hk rfl (Nat.le_of_ble_eq_true rfl) rfl rfl (fun a b q => zu_off _ _ _ q) (fun a b q => rfl) (by
    show zE Z 60 i (zu σ.1 60 i 45 x 60 i) _ = _
    rw [zu_at]
    rfl) kk
theorem wz_1134 : Cond.fieldLink "AlpCommuneModel" (445 : Nat) "AlpCommuneModel" "channel" "I" ∈ zTB := zTB_mem 1260 (by decide +kernel) (by decide +kernel)
theorem zf_X11_445 (C : zCx E cc RX11 nL ret Z h) {i : Nat} (hk : i < zN 60) (hd : decode cc pc = .ok (.getfield 445, 3)) (kk : zKO E nL Z QQ (pc + 3) L (.int (σ.1 60 i 46) :: st) σ o) : zKO E nL Z QQ pc L (.ref (zad Z 60 i) :: st) σ o := zr_get C 46 zin_X11 rfl (Nat.le_of_ble_eq_true rfl) rfl wz_1134 hd hk rfl rfl kk
theorem wz_1135 : Cond.fieldLink "AlpCommuneModel" (112 : Nat) "AlpCommuneModel" "channelHouse" "[I" ∈ zTB := zTB_mem 1261 (by decide +kernel) (by decide +kernel)
theorem zf_X11_112 (C : zCx E cc RX11 nL ret Z h) {i : Nat} (hk : i < zN 60) (hd : decode cc pc = .ok (.getfield 112, 3)) (kk : zKO E nL Z QQ (pc + 3) L (.ref (zad Z 101 0) :: st) σ o) : zKO E nL Z QQ pc L (.ref (zad Z 60 i) :: st) σ o := zr_get C 47 zin_X11 rfl (Nat.le_of_ble_eq_true rfl) rfl wz_1135 hd hk rfl rfl kk
theorem wz_1136 : Cond.fieldLink "AlpCommuneModel" (115 : Nat) "AlpCommuneModel" "channelLeak" "[I" ∈ zTB := zTB_mem 1262 (by decide +kernel) (by decide +kernel)
theorem zf_X11_115 (C : zCx E cc RX11 nL ret Z h) {i : Nat} (hk : i < zN 60) (hd : decode cc pc = .ok (.getfield 115, 3)) (kk : zKO E nL Z QQ (pc + 3) L (.ref (zad Z 102 0) :: st) σ o) : zKO E nL Z QQ pc L (.ref (zad Z 60 i) :: st) σ o := zr_get C 48 zin_X11 rfl (Nat.le_of_ble_eq_true rfl) rfl wz_1136 hd hk rfl rfl kk
theorem zp_X11_445 (C : zCx E cc RX11 nL ret Z h) {i : Nat} {x : Int32} (hk : i < zN 60) (hd : decode cc pc = .ok (.putfield 445, 3)) (kk : zKO E nL Z QQ (pc + 3) L st (zwi σ 60 i 46 x) o) : zKO E nL Z QQ pc L (.int x :: .ref (zad Z 60 i) :: st) σ o :=
  zr_put C 46 zin_X11 rfl (Nat.le_of_ble_eq_true rfl) rfl tyX11_ok nmX11 rfl (ty := .int) (σ1 := zwi σ 60 i 46 x) (by decide +kernel) wz_1134 hd hk rfl (Nat.le_of_ble_eq_true rfl) rfl rfl (fun a b q => zu_off _ _ _ q) (fun a b q => rfl) (by
    show zE Z 60 i (zu σ.1 60 i 46 x 60 i) _ = _
    rw [zu_at]
    rfl) kk
theorem wz_1644 : Cond.methodLink "AlpCommuneModel" (448 : Nat) ({ cls := "AlpCommuneModel", name := "rightAt", desc := "(I)I" } : MethodName) ∈ zTB := zTB_mem 1770 (by decide +kernel) (by decide +kernel)
theorem wz_p122 : Cond.selects yX11_rightAt.cls yX11_rightAt yX11_rightAt ∈ zTB := zTB_mem 122 (by decide +kernel) (by decide +kernel)
theorem wz_1646 : Cond.instanceMethod ({ cls := "AlpCommuneModel", name := "rightAt", desc := "(I)I" } : MethodName) ∈ zTB := zTB_mem 1772 (by decide +kernel) (by decide +kernel)
theorem wz_1647 : Cond.code yX11_rightAt cX11_rightAt 5 (some .int) ∈ zTB := zTB_mem 1773 (by decide +kernel) (by decide +kernel)
theorem wz_1137 : Cond.fieldLink "AlpCommuneModel" (118 : Nat) "AlpCommuneModel" "lastTurn" "[I" ∈ zTB := zTB_mem 1263 (by decide +kernel) (by decide +kernel)
theorem zf_X11_118 (C : zCx E cc RX11 nL ret Z h) {i : Nat} (hk : i < zN 60) (hd : decode cc pc = .ok (.getfield 118, 3)) (kk : zKO E nL Z QQ (pc + 3) L (.ref (zad Z 103 0) :: st) σ o) : zKO E nL Z QQ pc L (.ref (zad Z 60 i) :: st) σ o := zr_get C 49 zin_X11 rfl (Nat.le_of_ble_eq_true rfl) rfl wz_1137 hd hk rfl rfl kk
theorem wz_1138 : Cond.fieldLink "AlpCommuneModel" (451 : Nat) "AlpCommuneModel" "inRow" "I" ∈ zTB := zTB_mem 1264 (by decide +kernel) (by decide +kernel)
theorem zf_X11_451 (C : zCx E cc RX11 nL ret Z h) {i : Nat} (hk : i < zN 60) (hd : decode cc pc = .ok (.getfield 451, 3)) (kk : zKO E nL Z QQ (pc + 3) L (.int (σ.1 60 i 50) :: st) σ o) : zKO E nL Z QQ pc L (.ref (zad Z 60 i) :: st) σ o := zr_get C 50 zin_X11 rfl (Nat.le_of_ble_eq_true rfl) rfl wz_1138 hd hk rfl rfl kk
theorem wz_1656 : Cond.methodLink "AlpCommuneModel" (454 : Nat) ({ cls := "AlpCommuneModel", name := "canHave", desc := "(II)Z" } : MethodName) ∈ zTB := zTB_mem 1782 (by decide +kernel) (by decide +kernel)
theorem wz_p123 : Cond.selects yX11_canHave.cls yX11_canHave yX11_canHave ∈ zTB := zTB_mem 123 (by decide +kernel) (by decide +kernel)
theorem wz_1658 : Cond.instanceMethod ({ cls := "AlpCommuneModel", name := "canHave", desc := "(II)Z" } : MethodName) ∈ zTB := zTB_mem 1784 (by decide +kernel) (by decide +kernel)
theorem wz_1659 : Cond.code yX11_canHave cX11_canHave 3 (some .boolean) ∈ zTB := zTB_mem 1785 (by decide +kernel) (by decide +kernel)
theorem zp_X11_451 (C : zCx E cc RX11 nL ret Z h) {i : Nat} {x : Int32} (hk : i < zN 60) (hd : decode cc pc = .ok (.putfield 451, 3)) (kk : zKO E nL Z QQ (pc + 3) L st (zwi σ 60 i 50 x) o) : zKO E nL Z QQ pc L (.int x :: .ref (zad Z 60 i) :: st) σ o :=
  zr_put C 50 zin_X11 rfl (Nat.le_of_ble_eq_true rfl) rfl tyX11_ok nmX11 rfl (ty := .int) (σ1 := zwi σ 60 i 50 x) (by decide +kernel) wz_1138 hd hk rfl (Nat.le_of_ble_eq_true rfl) rfl rfl (fun a b q => zu_off _ _ _ q) (fun a b q => rfl) (by
    show zE Z 60 i (zu σ.1 60 i 50 x 60 i) _ = _
    rw [zu_at]
    rfl) kk
theorem wz_1139 : Cond.fieldLink "AlpCommuneModel" (121 : Nat) "AlpCommuneModel" "lastYear" "I" ∈ zTB := zTB_mem 1265 (by decide +kernel) (by decide +kernel)
theorem zf_X11_121 (C : zCx E cc RX11 nL ret Z h) {i : Nat} (hk : i < zN 60) (hd : decode cc pc = .ok (.getfield 121, 3)) (kk : zKO E nL Z QQ (pc + 3) L (.int (σ.1 60 i 51) :: st) σ o) : zKO E nL Z QQ pc L (.ref (zad Z 60 i) :: st) σ o := zr_get C 51 zin_X11 rfl (Nat.le_of_ble_eq_true rfl) rfl wz_1139 hd hk rfl rfl kk
theorem zp_X11_121 (C : zCx E cc RX11 nL ret Z h) {i : Nat} {x : Int32} (hk : i < zN 60) (hd : decode cc pc = .ok (.putfield 121, 3)) (kk : zKO E nL Z QQ (pc + 3) L st (zwi σ 60 i 51 x) o) : zKO E nL Z QQ pc L (.int x :: .ref (zad Z 60 i) :: st) σ o :=
  zr_put C 51 zin_X11 rfl (Nat.le_of_ble_eq_true rfl) rfl tyX11_ok nmX11 rfl (ty := .int) (σ1 := zwi σ 60 i 51 x) (by decide +kernel) wz_1139 hd hk rfl (Nat.le_of_ble_eq_true rfl) rfl rfl (fun a b q => zu_off _ _ _ q) (fun a b q => rfl) (by
    show zE Z 60 i (zu σ.1 60 i 51 x 60 i) _ = _
    rw [zu_at]
    rfl) kk
theorem wz_1153 : Cond.fieldLink "AlpCommuneModel" (151 : Nat) "AlpCommuneModel" "mindUp" "[[I" ∈ zTB := zTB_mem 1279 (by decide +kernel) (by decide +kernel)
theorem zf_X11_151 (C : zCx E cc RX11 nL ret Z h) {i : Nat} (hk : i < zN 60) (hd : decode cc pc = .ok (.getfield 151, 3)) (kk : zKO E nL Z QQ (pc + 3) L (.ref (zad Z 115 0) :: st) σ o) : zKO E nL Z QQ pc L (.ref (zad Z 60 i) :: st) σ o := zr_get C 65 zin_X11 rfl (Nat.le_of_ble_eq_true rfl) rfl wz_1153 hd hk rfl rfl kk
theorem wz_1151 : Cond.fieldLink "AlpCommuneModel" (145 : Nat) "AlpCommuneModel" "mindGrass" "[I" ∈ zTB := zTB_mem 1277 (by decide +kernel) (by decide +kernel)
theorem zf_X11_145 (C : zCx E cc RX11 nL ret Z h) {i : Nat} (hk : i < zN 60) (hd : decode cc pc = .ok (.getfield 145, 3)) (kk : zKO E nL Z QQ (pc + 3) L (.ref (zad Z 113 0) :: st) σ o) : zKO E nL Z QQ pc L (.ref (zad Z 60 i) :: st) σ o := zr_get C 63 zin_X11 rfl (Nat.le_of_ble_eq_true rfl) rfl wz_1151 hd hk rfl rfl kk
theorem zp_X11_80 (C : zCx E cc RX11 nL ret Z h) {i q : Nat} (hk : i < zN 60) (hq : q < 2 ^ 31) (hd : decode cc pc = .ok (.putfield 80, 3)) (kk : zKO E nL Z QQ (pc + 3) L st (zwi σ 60 i 28 (nI q)) o) : zKO E nL Z QQ pc L (.ref (zad Z q 0) :: .ref (zad Z 60 i) :: st) σ o :=
  zr_put C 28 zin_X11 rfl (Nat.le_of_ble_eq_true rfl) rfl tyX11_ok nmX11 rfl (ty := tyX11 28) (σ1 := zwi σ 60 i 28 (nI q)) (by decide +kernel) wz_1116 hd hk rfl (Nat.le_of_ble_eq_true rfl) rfl rfl (fun a b q => zu_off _ _ _ q) (fun a b q => rfl) (by
    show zE Z 60 i (zu σ.1 60 i 28 (nI q) 60 i) _ = _
    rw [zu_at]
    show Sum.inr _ = Sum.inr _
    simp [nI_clamp hq]) kk
theorem wz_1152 : Cond.fieldLink "AlpCommuneModel" (148 : Nat) "AlpCommuneModel" "mindSnow" "[I" ∈ zTB := zTB_mem 1278 (by decide +kernel) (by decide +kernel)
theorem zf_X11_148 (C : zCx E cc RX11 nL ret Z h) {i : Nat} (hk : i < zN 60) (hd : decode cc pc = .ok (.getfield 148, 3)) (kk : zKO E nL Z QQ (pc + 3) L (.ref (zad Z 114 0) :: st) σ o) : zKO E nL Z QQ pc L (.ref (zad Z 60 i) :: st) σ o := zr_get C 64 zin_X11 rfl (Nat.le_of_ble_eq_true rfl) rfl wz_1152 hd hk rfl rfl kk
theorem zp_X11_83 (C : zCx E cc RX11 nL ret Z h) {i q : Nat} (hk : i < zN 60) (hq : q < 2 ^ 31) (hd : decode cc pc = .ok (.putfield 83, 3)) (kk : zKO E nL Z QQ (pc + 3) L st (zwi σ 60 i 29 (nI q)) o) : zKO E nL Z QQ pc L (.ref (zad Z q 0) :: .ref (zad Z 60 i) :: st) σ o :=
  zr_put C 29 zin_X11 rfl (Nat.le_of_ble_eq_true rfl) rfl tyX11_ok nmX11 rfl (ty := tyX11 29) (σ1 := zwi σ 60 i 29 (nI q)) (by decide +kernel) wz_1117 hd hk rfl (Nat.le_of_ble_eq_true rfl) rfl rfl (fun a b q => zu_off _ _ _ q) (fun a b q => rfl) (by
    show zE Z 60 i (zu σ.1 60 i 29 (nI q) 60 i) _ = _
    rw [zu_at]
    show Sum.inr _ = Sum.inr _
    simp [nI_clamp hq]) kk
theorem zp_X11_39 (C : zCx E cc RX11 nL ret Z h) {i q : Nat} (hk : i < zN 60) (hq : q < 2 ^ 31) (hd : decode cc pc = .ok (.putfield 39, 3)) (kk : zKO E nL Z QQ (pc + 3) L st (zwi σ 60 i 11 (nI q)) o) : zKO E nL Z QQ pc L (.ref (zad Z q 0) :: .ref (zad Z 60 i) :: st) σ o :=
  zr_put C 11 zin_X11 rfl (Nat.le_of_ble_eq_true rfl) rfl tyX11_ok nmX11 rfl (ty := tyX11 11) (σ1 := zwi σ 60 i 11 (nI q)) (by decide +kernel) wz_1099 hd hk rfl (Nat.le_of_ble_eq_true rfl) rfl rfl (fun a b q => zu_off _ _ _ q) (fun a b q => rfl) (by
    show zE Z 60 i (zu σ.1 60 i 11 (nI q) 60 i) _ = _
    rw [zu_at]
    show Sum.inr _ = Sum.inr _
    simp [nI_clamp hq]) kk
theorem wz_1154 : Cond.fieldLink "AlpCommuneModel" (154 : Nat) "AlpCommuneModel" "chosen" "[I" ∈ zTB := zTB_mem 1280 (by decide +kernel) (by decide +kernel)
theorem zf_X11_154 (C : zCx E cc RX11 nL ret Z h) {i : Nat} (hk : i < zN 60) (hd : decode cc pc = .ok (.getfield 154, 3)) (kk : zKO E nL Z QQ (pc + 3) L (.ref (zad Z 117 0) :: st) σ o) : zKO E nL Z QQ pc L (.ref (zad Z 60 i) :: st) σ o := zr_get C 66 zin_X11 rfl (Nat.le_of_ble_eq_true rfl) rfl wz_1154 hd hk rfl rfl kk
theorem wz_1672 : Cond.constant "AlpCommuneModel" (459 : Nat) (2147483647 : Int32) ∈ zTB := zTB_mem 1798 (by decide +kernel) (by decide +kernel)
theorem wz_1155 : Cond.fieldLink "AlpCommuneModel" (157 : Nat) "AlpCommuneModel" "bestChosen" "[I" ∈ zTB := zTB_mem 1281 (by decide +kernel) (by decide +kernel)
theorem zf_X11_157 (C : zCx E cc RX11 nL ret Z h) {i : Nat} (hk : i < zN 60) (hd : decode cc pc = .ok (.getfield 157, 3)) (kk : zKO E nL Z QQ (pc + 3) L (.ref (zad Z 118 0) :: st) σ o) : zKO E nL Z QQ pc L (.ref (zad Z 60 i) :: st) σ o := zr_get C 67 zin_X11 rfl (Nat.le_of_ble_eq_true rfl) rfl wz_1155 hd hk rfl rfl kk
theorem wz_1673 : Cond.methodLink "AlpCommuneModel" (460 : Nat) ({ cls := "AlpCommuneModel", name := "tried", desc := "(II)I" } : MethodName) ∈ zTB := zTB_mem 1799 (by decide +kernel) (by decide +kernel)
theorem wz_p124 : Cond.selects yX11_tried.cls yX11_tried yX11_tried ∈ zTB := zTB_mem 124 (by decide +kernel) (by decide +kernel)
theorem wz_1675 : Cond.instanceMethod ({ cls := "AlpCommuneModel", name := "tried", desc := "(II)I" } : MethodName) ∈ zTB := zTB_mem 1801 (by decide +kernel) (by decide +kernel)
theorem wz_1676 : Cond.code yX11_tried cX11_tried 11 (some .int) ∈ zTB := zTB_mem 1802 (by decide +kernel) (by decide +kernel)
theorem wz_1145 : Cond.fieldLink "AlpCommuneModel" (469 : Nat) "AlpCommuneModel" "ran" "I" ∈ zTB := zTB_mem 1271 (by decide +kernel) (by decide +kernel)
theorem zf_X11_469 (C : zCx E cc RX11 nL ret Z h) {i : Nat} (hk : i < zN 60) (hd : decode cc pc = .ok (.getfield 469, 3)) (kk : zKO E nL Z QQ (pc + 3) L (.int (σ.1 60 i 57) :: st) σ o) : zKO E nL Z QQ pc L (.ref (zad Z 60 i) :: st) σ o := zr_get C 57 zin_X11 rfl (Nat.le_of_ble_eq_true rfl) rfl wz_1145 hd hk rfl rfl kk
theorem wz_1144 : Cond.fieldLink "AlpCommuneModel" (136 : Nat) "AlpCommuneModel" "trace" "[I" ∈ zTB := zTB_mem 1270 (by decide +kernel) (by decide +kernel)
theorem zf_X11_136 (C : zCx E cc RX11 nL ret Z h) {i : Nat} (hk : i < zN 60) (hd : decode cc pc = .ok (.getfield 136, 3)) (kk : zKO E nL Z QQ (pc + 3) L (.ref (zad Z 110 0) :: st) σ o) : zKO E nL Z QQ pc L (.ref (zad Z 60 i) :: st) σ o := zr_get C 56 zin_X11 rfl (Nat.le_of_ble_eq_true rfl) rfl wz_1144 hd hk rfl rfl kk
theorem wz_1685 : Cond.methodLink "AlpCommuneModel" (463 : Nat) ({ cls := "AlpCommuneModel", name := "bodyOf", desc := "(II)I" } : MethodName) ∈ zTB := zTB_mem 1811 (by decide +kernel) (by decide +kernel)
theorem wz_1686 : Cond.static ({ cls := "AlpCommuneModel", name := "bodyOf", desc := "(II)I" } : MethodName) ∈ zTB := zTB_mem 1812 (by decide +kernel) (by decide +kernel)
theorem wz_1687 : Cond.code yX11_bodyOf cX11_bodyOf 2 (some .int) ∈ zTB := zTB_mem 1813 (by decide +kernel) (by decide +kernel)
theorem wz_1688 : Cond.methodLink "AlpCommuneModel" (466 : Nat) ({ cls := "AlpCommuneModel", name := "above", desc := "(I)I" } : MethodName) ∈ zTB := zTB_mem 1814 (by decide +kernel) (by decide +kernel)
theorem wz_1689 : Cond.static ({ cls := "AlpCommuneModel", name := "above", desc := "(I)I" } : MethodName) ∈ zTB := zTB_mem 1815 (by decide +kernel) (by decide +kernel)
theorem wz_1690 : Cond.code yX11_above cX11_above 1 (some .int) ∈ zTB := zTB_mem 1816 (by decide +kernel) (by decide +kernel)
theorem zp_X11_469 (C : zCx E cc RX11 nL ret Z h) {i : Nat} {x : Int32} (hk : i < zN 60) (hd : decode cc pc = .ok (.putfield 469, 3)) (kk : zKO E nL Z QQ (pc + 3) L st (zwi σ 60 i 57 x) o) : zKO E nL Z QQ pc L (.int x :: .ref (zad Z 60 i) :: st) σ o :=
  zr_put C 57 zin_X11 rfl (Nat.le_of_ble_eq_true rfl) rfl tyX11_ok nmX11 rfl (ty := .int) (σ1 := zwi σ 60 i 57 x) (by decide +kernel) wz_1145 hd hk rfl (Nat.le_of_ble_eq_true rfl) rfl rfl (fun a b q => zu_off _ _ _ q) (fun a b q => rfl) (by
    show zE Z 60 i (zu σ.1 60 i 57 x 60 i) _ = _
    rw [zu_at]
    rfl) kk
theorem wz_1681 : Cond.methodLink "AlpCommuneModel" (472 : Nat) ({ cls := "AlpCommuneModel", name := "run", desc := "(IIII)I" } : MethodName) ∈ zTB := zTB_mem 1807 (by decide +kernel) (by decide +kernel)
theorem wz_p125 : Cond.selects yX11_run.cls yX11_run yX11_run ∈ zTB := zTB_mem 125 (by decide +kernel) (by decide +kernel)
theorem wz_1683 : Cond.instanceMethod ({ cls := "AlpCommuneModel", name := "run", desc := "(IIII)I" } : MethodName) ∈ zTB := zTB_mem 1809 (by decide +kernel) (by decide +kernel)
theorem wz_1684 : Cond.code yX11_run cX11_run 8 (some .int) ∈ zTB := zTB_mem 1810 (by decide +kernel) (by decide +kernel)
end ZL
