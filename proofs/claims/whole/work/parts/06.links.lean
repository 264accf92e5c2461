section ZL
variable {E : zEn} {cc : ByteArray} {own : String} {nL h : Nat} {ret : Option FieldType} {Z : zLay} {α : Type} {QQ : α → zMem → State → Prop} {pc : Nat} {L : List (Nat × Value)} {st : List Value} {σ : zMem} {o o1 o2 : Option (α × zMem)}
theorem wz_565 : Cond.fieldLink "java/lang/String" (38 : Nat) "java/lang/String" "COMPACT_STRINGS" "Z" ∈ zTB := zTB_mem 692 (by decide +kernel) (by decide +kernel)
theorem wz_1730 : Cond.fieldLink "java/lang/String" (15 : Nat) "java/lang/String" "coder" "B" ∈ zTB := zTB_mem 1857 (by decide +kernel) (by decide +kernel)
theorem wz_585 : Cond.fieldLink "java/lang/String" (1053 : Nat) "jdk/internal/util/Preconditions" "SIOOBE_FORMATTER" "Ljava/util/function/BiFunction;" ∈ zTB := zTB_mem 712 (by decide +kernel) (by decide +kernel)
theorem wz_587 : Cond.methodLink "java/lang/String" (1059 : Nat) ({ cls := "jdk/internal/util/Preconditions", name := "checkIndex", desc := "(IILjava/util/function/BiFunction;)I" } : MethodName) ∈ zTB := zTB_mem 714 (by decide +kernel) (by decide +kernel)
theorem wz_588 : Cond.static ({ cls := "jdk/internal/util/Preconditions", name := "checkIndex", desc := "(IILjava/util/function/BiFunction;)I" } : MethodName) ∈ zTB := zTB_mem 715 (by decide +kernel) (by decide +kernel)
theorem wz_589 : Cond.code yJ3_checkIndex_8e157 cJ3_checkIndex_8e157 3 (some .int) ∈ zTB := zTB_mem 716 (by decide +kernel) (by decide +kernel)
theorem wz_15 : Cond.initialized "jdk/internal/util/Preconditions" ∈ zTB := zTB_mem 142 (by decide +kernel) (by decide +kernel)
theorem wz_1729 : Cond.fieldLink "java/lang/String" (9 : Nat) "java/lang/String" "value" "[B" ∈ zTB := zTB_mem 1856 (by decide +kernel) (by decide +kernel)
theorem wz_561 : Cond.methodLink "java/lang/String" (335 : Nat) ({ cls := "java/lang/String", name := "coder", desc := "()B" } : MethodName) ∈ zTB := zTB_mem 688 (by decide +kernel) (by decide +kernel)
theorem wz_563 : Cond.selects "java/lang/String" ({ cls := "java/lang/String", name := "coder", desc := "()B" } : MethodName) ({ cls := "java/lang/String", name := "coder", desc := "()B" } : MethodName) ∈ zTB := zTB_mem 690 (by decide +kernel) (by decide +kernel)
theorem wz_562 : Cond.instanceMethod ({ cls := "java/lang/String", name := "coder", desc := "()B" } : MethodName) ∈ zTB := zTB_mem 689 (by decide +kernel) (by decide +kernel)
theorem wz_564 : Cond.code yJ0_coder_7d493 cJ0_coder_7d493 1 (some .byte) ∈ zTB := zTB_mem 691 (by decide +kernel) (by decide +kernel)
theorem wz_13 : Cond.initialized "java/lang/String" ∈ zTB := zTB_mem 140 (by decide +kernel) (by decide +kernel)
theorem wz_582 : Cond.methodLink "java/lang/StringLatin1" (9 : Nat) ({ cls := "java/lang/String", name := "checkIndex", desc := "(II)V" } : MethodName) ∈ zTB := zTB_mem 709 (by decide +kernel) (by decide +kernel)
theorem wz_583 : Cond.static ({ cls := "java/lang/String", name := "checkIndex", desc := "(II)V" } : MethodName) ∈ zTB := zTB_mem 710 (by decide +kernel) (by decide +kernel)
theorem wz_584 : Cond.code yJ0_checkIndex_df160 cJ0_checkIndex_df160 2 none ∈ zTB := zTB_mem 711 (by decide +kernel) (by decide +kernel)
theorem wz_575 : Cond.methodLink "java/lang/String" (492 : Nat) ({ cls := "java/lang/String", name := "isLatin1", desc := "()Z" } : MethodName) ∈ zTB := zTB_mem 702 (by decide +kernel) (by decide +kernel)
theorem wz_577 : Cond.selects "java/lang/String" ({ cls := "java/lang/String", name := "isLatin1", desc := "()Z" } : MethodName) ({ cls := "java/lang/String", name := "isLatin1", desc := "()Z" } : MethodName) ∈ zTB := zTB_mem 704 (by decide +kernel) (by decide +kernel)
theorem wz_576 : Cond.instanceMethod ({ cls := "java/lang/String", name := "isLatin1", desc := "()Z" } : MethodName) ∈ zTB := zTB_mem 703 (by decide +kernel) (by decide +kernel)
theorem wz_578 : Cond.code yJ0_isLatin1_aae02 cJ0_isLatin1_aae02 1 (some .boolean) ∈ zTB := zTB_mem 705 (by decide +kernel) (by decide +kernel)
theorem wz_579 : Cond.methodLink "java/lang/String" (495 : Nat) ({ cls := "java/lang/StringLatin1", name := "charAt", desc := "([BI)C" } : MethodName) ∈ zTB := zTB_mem 706 (by decide +kernel) (by decide +kernel)
theorem wz_580 : Cond.static ({ cls := "java/lang/StringLatin1", name := "charAt", desc := "([BI)C" } : MethodName) ∈ zTB := zTB_mem 707 (by decide +kernel) (by decide +kernel)
theorem wz_581 : Cond.code yJ1_charAt_3b067 cJ1_charAt_3b067 2 (some .char) ∈ zTB := zTB_mem 708 (by decide +kernel) (by decide +kernel)
theorem wz_14 : Cond.initialized "java/lang/StringLatin1" ∈ zTB := zTB_mem 141 (by decide +kernel) (by decide +kernel)
theorem wz_557 : Cond.methodLink "AlpCommune$Words" (117 : Nat) ({ cls := "java/lang/String", name := "length", desc := "()I" } : MethodName) ∈ zTB := zTB_mem 684 (by decide +kernel) (by decide +kernel)
theorem wz_559 : Cond.selects "java/lang/String" ({ cls := "java/lang/String", name := "length", desc := "()I" } : MethodName) ({ cls := "java/lang/String", name := "length", desc := "()I" } : MethodName) ∈ zTB := zTB_mem 686 (by decide +kernel) (by decide +kernel)
theorem wz_558 : Cond.instanceMethod ({ cls := "java/lang/String", name := "length", desc := "()I" } : MethodName) ∈ zTB := zTB_mem 685 (by decide +kernel) (by decide +kernel)
theorem wz_560 : Cond.code yJ0_length_8abf5 cJ0_length_8abf5 1 (some .int) ∈ zTB := zTB_mem 687 (by decide +kernel) (by decide +kernel)
theorem wz_571 : Cond.methodLink "AlpCommune$Words" (132 : Nat) ({ cls := "java/lang/String", name := "charAt", desc := "(I)C" } : MethodName) ∈ zTB := zTB_mem 698 (by decide +kernel) (by decide +kernel)
theorem wz_573 : Cond.selects "java/lang/String" ({ cls := "java/lang/String", name := "charAt", desc := "(I)C" } : MethodName) ({ cls := "java/lang/String", name := "charAt", desc := "(I)C" } : MethodName) ∈ zTB := zTB_mem 700 (by decide +kernel) (by decide +kernel)
theorem wz_572 : Cond.instanceMethod ({ cls := "java/lang/String", name := "charAt", desc := "(I)C" } : MethodName) ∈ zTB := zTB_mem 699 (by decide +kernel) (by decide +kernel)
theorem wz_574 : Cond.code yJ0_charAt_5068e cJ0_charAt_5068e 2 (some .char) ∈ zTB := zTB_mem 701 (by decide +kernel) (by decide +kernel)
theorem wz_1414 : Cond.methodLink "AlpCommuneModel" (221 : Nat) ({ cls := "java/lang/String", name := "length", desc := "()I" } : MethodName) ∈ zTB := zTB_mem 1541 (by decide +kernel) (by decide +kernel)
theorem wz_1415 : Cond.methodLink "AlpCommuneModel" (230 : Nat) ({ cls := "java/lang/String", name := "charAt", desc := "(I)C" } : MethodName) ∈ zTB := zTB_mem 1542 (by decide +kernel) (by decide +kernel)
theorem wz_46 : Cond.fieldLink "AlpCommune$Rights" (27 : Nat) "AlpCommune$Rights" "count" "I" ∈ zTB := zTB_mem 173 (by decide +kernel) (by decide +kernel)
set_option maxRecDepth 100000 in
theorem zin_X3 : ∀ w ∈ u_ws RX3 TX3 6, w ∈ zTB := by decide +kernel
theorem zf_X3_27 (C : zCx E cc RX3 nL ret Z h) {i : Nat} (hk : i < zN 5) (hd : decode cc pc = .ok (.getfield 27, 3)) (kk : zKO E nL Z QQ (pc + 3) L (.int (σ.1 5 i 5) :: st) σ o) : zKO E nL Z QQ pc L (.ref (zad Z 5 i) :: st) σ o := zr_get C 5 zin_X3 rfl (Nat.le_of_ble_eq_true rfl) rfl wz_46 hd hk rfl rfl kk
theorem wz_36 : Cond.fieldLink "AlpCommune$Rights" (9 : Nat) "AlpCommune$Rights" "kind" "[I" ∈ zTB := zTB_mem 163 (by decide +kernel) (by decide +kernel)
theorem zf_X3_9 (C : zCx E cc RX3 nL ret Z h) {i : Nat} (hk : i < zN 5) (hd : decode cc pc = .ok (.getfield 9, 3)) (kk : zKO E nL Z QQ (pc + 3) L (.ref (zad Z 6 0) :: st) σ o) : zKO E nL Z QQ pc L (.ref (zad Z 5 i) :: st) σ o := zr_get C 0 zin_X3 rfl (Nat.le_of_ble_eq_true rfl) rfl wz_36 hd hk rfl rfl kk
theorem wz_38 : Cond.fieldLink "AlpCommune$Rights" (15 : Nat) "AlpCommune$Rights" "owner" "[I" ∈ zTB := zTB_mem 165 (by decide +kernel) (by decide +kernel)
theorem zf_X3_15 (C : zCx E cc RX3 nL ret Z h) {i : Nat} (hk : i < zN 5) (hd : decode cc pc = .ok (.getfield 15, 3)) (kk : zKO E nL Z QQ (pc + 3) L (.ref (zad Z 7 0) :: st) σ o) : zKO E nL Z QQ pc L (.ref (zad Z 5 i) :: st) σ o := zr_get C 1 zin_X3 rfl (Nat.le_of_ble_eq_true rfl) rfl wz_38 hd hk rfl rfl kk
theorem wz_40 : Cond.fieldLink "AlpCommune$Rights" (18 : Nat) "AlpCommune$Rights" "parts" "[I" ∈ zTB := zTB_mem 167 (by decide +kernel) (by decide +kernel)
theorem zf_X3_18 (C : zCx E cc RX3 nL ret Z h) {i : Nat} (hk : i < zN 5) (hd : decode cc pc = .ok (.getfield 18, 3)) (kk : zKO E nL Z QQ (pc + 3) L (.ref (zad Z 8 0) :: st) σ o) : zKO E nL Z QQ pc L (.ref (zad Z 5 i) :: st) σ o := zr_get C 2 zin_X3 rfl (Nat.le_of_ble_eq_true rfl) rfl wz_40 hd hk rfl rfl kk
theorem zp_X3_27 (C : zCx E cc RX3 nL ret Z h) {i : Nat} {x : Int32} (hk : i < zN 5) (hd : decode cc pc = .ok (.putfield 27, 3)) (kk : zKO E nL Z QQ (pc + 3) L st (zwi σ 5 i 5 x) o) : zKO E nL Z QQ pc L (.int x :: .ref (zad Z 5 i) :: st) σ o :=
  zr_put C 5 zin_X3 rfl (Nat.le_of_ble_eq_true rfl) rfl tyX3_ok nmX3 rfl (ty := .int) (σ1 := zwi σ 5 i 5 x) (by decide +kernel) wz_46 hd hk rfl (Nat.le_of_ble_eq_true rfl) rfl rfl (fun a b q => zu_off _ _ _ q) (fun a b q => rfl) (by
    show zE Z 5 i (zu σ.1 5 i 5 x 5 i) _ = _
    rw [zu_at]
    rfl) kk
theorem wz_483 : Cond.fieldLink "AlpCommune$Rights" (31 : Nat) "AlpCommune$Rights" "COMMON_OF" "[I" ∈ zTB := zTB_mem 610 (by decide +kernel) (by decide +kernel)
theorem wz_44 : Cond.fieldLink "AlpCommune$Rights" (24 : Nat) "AlpCommune$Rights" "lentTill" "[I" ∈ zTB := zTB_mem 171 (by decide +kernel) (by decide +kernel)
theorem zf_X3_24 (C : zCx E cc RX3 nL ret Z h) {i : Nat} (hk : i < zN 5) (hd : decode cc pc = .ok (.getfield 24, 3)) (kk : zKO E nL Z QQ (pc + 3) L (.ref (zad Z 10 0) :: st) σ o) : zKO E nL Z QQ pc L (.ref (zad Z 5 i) :: st) σ o := zr_get C 4 zin_X3 rfl (Nat.le_of_ble_eq_true rfl) rfl wz_44 hd hk rfl rfl kk
theorem wz_42 : Cond.fieldLink "AlpCommune$Rights" (21 : Nat) "AlpCommune$Rights" "lentTo" "[I" ∈ zTB := zTB_mem 169 (by decide +kernel) (by decide +kernel)
theorem zf_X3_21 (C : zCx E cc RX3 nL ret Z h) {i : Nat} (hk : i < zN 5) (hd : decode cc pc = .ok (.getfield 21, 3)) (kk : zKO E nL Z QQ (pc + 3) L (.ref (zad Z 9 0) :: st) σ o) : zKO E nL Z QQ pc L (.ref (zad Z 5 i) :: st) σ o := zr_get C 3 zin_X3 rfl (Nat.le_of_ble_eq_true rfl) rfl wz_42 hd hk rfl rfl kk
theorem wz_498 : Cond.methodLink "AlpCommune$Rights" (34 : Nat) ({ cls := "AlpCommune$Rights", name := "isLent", desc := "(II)Z" } : MethodName) ∈ zTB := zTB_mem 625 (by decide +kernel) (by decide +kernel)
theorem wz_p6 : Cond.selects yX3_isLent.cls yX3_isLent yX3_isLent ∈ zTB := zTB_mem 6 (by decide +kernel) (by decide +kernel)
theorem wz_487 : Cond.instanceMethod ({ cls := "AlpCommune$Rights", name := "isLent", desc := "(II)Z" } : MethodName) ∈ zTB := zTB_mem 614 (by decide +kernel) (by decide +kernel)
theorem wz_488 : Cond.code yX3_isLent cX3_isLent 3 (some .boolean) ∈ zTB := zTB_mem 615 (by decide +kernel) (by decide +kernel)
theorem wz_2 : Cond.initialized "AlpCommune$Rights" ∈ zTB := zTB_mem 129 (by decide +kernel) (by decide +kernel)
theorem wz_497 : Cond.methodLink "AlpCommune$Rights" (38 : Nat) ({ cls := "AlpCommune$Rights", name := "commonOf", desc := "(I)I" } : MethodName) ∈ zTB := zTB_mem 624 (by decide +kernel) (by decide +kernel)
theorem wz_p5 : Cond.selects yX3_commonOf.cls yX3_commonOf yX3_commonOf ∈ zTB := zTB_mem 5 (by decide +kernel) (by decide +kernel)
theorem wz_481 : Cond.instanceMethod ({ cls := "AlpCommune$Rights", name := "commonOf", desc := "(I)I" } : MethodName) ∈ zTB := zTB_mem 608 (by decide +kernel) (by decide +kernel)
theorem wz_482 : Cond.code yX3_commonOf cX3_commonOf 2 (some .int) ∈ zTB := zTB_mem 609 (by decide +kernel) (by decide +kernel)
theorem wz_527 : Cond.methodLink "AlpCommune$Rights" (42 : Nat) ({ cls := "AlpCommune$Rights", name := "holder", desc := "(II)I" } : MethodName) ∈ zTB := zTB_mem 654 (by decide +kernel) (by decide +kernel)
theorem wz_p8 : Cond.selects yX3_holder.cls yX3_holder yX3_holder ∈ zTB := zTB_mem 8 (by decide +kernel) (by decide +kernel)
theorem wz_513 : Cond.instanceMethod ({ cls := "AlpCommune$Rights", name := "holder", desc := "(II)I" } : MethodName) ∈ zTB := zTB_mem 640 (by decide +kernel) (by decide +kernel)
theorem wz_514 : Cond.code yX3_holder cX3_holder 3 (some .int) ∈ zTB := zTB_mem 641 (by decide +kernel) (by decide +kernel)
theorem wz_953 : Cond.methodLink "AlpCommune$Rights" (46 : Nat) ({ cls := "AlpCommune$Rights", name := "whole", desc := "(I)I" } : MethodName) ∈ zTB := zTB_mem 1080 (by decide +kernel) (by decide +kernel)
theorem wz_p9 : Cond.selects yX3_whole.cls yX3_whole yX3_whole ∈ zTB := zTB_mem 9 (by decide +kernel) (by decide +kernel)
theorem wz_521 : Cond.instanceMethod ({ cls := "AlpCommune$Rights", name := "whole", desc := "(I)I" } : MethodName) ∈ zTB := zTB_mem 648 (by decide +kernel) (by decide +kernel)
theorem wz_522 : Cond.code yX3_whole cX3_whole 4 (some .int) ∈ zTB := zTB_mem 649 (by decide +kernel) (by decide +kernel)
theorem wz_1052 : Cond.fieldLink "AlpCommune$Rights" (49 : Nat) "AlpCommune$Rights" "KIND_ABOVE" "[I" ∈ zTB := zTB_mem 1179 (by decide +kernel) (by decide +kernel)
theorem wz_127 : Cond.fieldLink "AlpCommune$Words" (22 : Nat) "AlpCommune$Words" "count" "I" ∈ zTB := zTB_mem 254 (by decide +kernel) (by decide +kernel)
set_option maxRecDepth 100000 in
theorem zin_X9 : ∀ w ∈ u_ws RX9 TX9 5, w ∈ zTB := by decide +kernel
theorem zf_X9_22 (C : zCx E cc RX9 nL ret Z h) {i : Nat} (hk : i < zN 11) (hd : decode cc pc = .ok (.getfield 22, 3)) (kk : zKO E nL Z QQ (pc + 3) L (.int (σ.1 11 i 1) :: st) σ o) : zKO E nL Z QQ pc L (.ref (zad Z 11 i) :: st) σ o := zr_get C 1 zin_X9 rfl (Nat.le_of_ble_eq_true rfl) rfl wz_127 hd hk rfl rfl kk
theorem wz_130 : Cond.fieldLink "AlpCommune$Words" (26 : Nat) "AlpCommune$Words" "length" "I" ∈ zTB := zTB_mem 257 (by decide +kernel) (by decide +kernel)
theorem zf_X9_26 (C : zCx E cc RX9 nL ret Z h) {i : Nat} (hk : i < zN 11) (hd : decode cc pc = .ok (.getfield 26, 3)) (kk : zKO E nL Z QQ (pc + 3) L (.int (σ.1 11 i 3) :: st) σ o) : zKO E nL Z QQ pc L (.ref (zad Z 11 i) :: st) σ o := zr_get C 3 zin_X9 rfl (Nat.le_of_ble_eq_true rfl) rfl wz_130 hd hk rfl rfl kk
theorem wz_129 : Cond.fieldLink "AlpCommune$Words" (17 : Nat) "AlpCommune$Words" "tape" "[B" ∈ zTB := zTB_mem 256 (by decide +kernel) (by decide +kernel)
theorem zf_X9_17 (C : zCx E cc RX9 nL ret Z h) {i : Nat} (hk : i < zN 11) (hd : decode cc pc = .ok (.getfield 17, 3)) (kk : zKO E nL Z QQ (pc + 3) L (.ref (zad Z 19 0) :: st) σ o) : zKO E nL Z QQ pc L (.ref (zad Z 11 i) :: st) σ o := zr_get C 2 zin_X9 rfl (Nat.le_of_ble_eq_true rfl) rfl wz_129 hd hk rfl rfl kk
theorem zp_X9_26 (C : zCx E cc RX9 nL ret Z h) {i : Nat} {x : Int32} (hk : i < zN 11) (hd : decode cc pc = .ok (.putfield 26, 3)) (kk : zKO E nL Z QQ (pc + 3) L st (zwi σ 11 i 3 x) o) : zKO E nL Z QQ pc L (.int x :: .ref (zad Z 11 i) :: st) σ o :=
  zr_put C 3 zin_X9 rfl (Nat.le_of_ble_eq_true rfl) rfl tyX9_ok nmX9 rfl (ty := .int) (σ1 := zwi σ 11 i 3 x) (by decide +kernel) wz_130 hd hk rfl (Nat.le_of_ble_eq_true rfl) rfl rfl (fun a b q => zu_off _ _ _ q) (fun a b q => rfl) (by
    show zE Z 11 i (zu σ.1 11 i 3 x 11 i) _ = _
    rw [zu_at]
    rfl) kk
theorem wz_125 : Cond.fieldLink "AlpCommune$Words" (11 : Nat) "AlpCommune$Words" "rows" "[LAlpCommune$Word;" ∈ zTB := zTB_mem 252 (by decide +kernel) (by decide +kernel)
theorem zf_X9_11 (C : zCx E cc RX9 nL ret Z h) {i : Nat} (hk : i < zN 11) (hd : decode cc pc = .ok (.getfield 11, 3)) (kk : zKO E nL Z QQ (pc + 3) L (.ref (zad Z 12 0) :: st) σ o) : zKO E nL Z QQ pc L (.ref (zad Z 11 i) :: st) σ o := zr_get C 0 zin_X9 rfl (Nat.le_of_ble_eq_true rfl) rfl wz_125 hd hk rfl rfl kk
theorem wz_n79 : Cond.fieldLinkNest "AlpCommune$Words" (29 : Nat) "AlpCommune$Word" "day" "I" "AlpCommune" ∈ zNest := zNest_mem 79 (by decide +kernel) (by decide +kernel)
set_option maxRecDepth 100000 in
theorem zin_X8 : ∀ w ∈ u_ws RX8 TX8 12, w ∈ zTB := by decide +kernel
theorem zp_X9_29 (C : zCx E cc RX9 nL ret Z h) {i : Nat} {x : Int32} (hk : i < zN 13) (hd : decode cc pc = .ok (.putfield 29, 3)) (kk : zKO E nL Z QQ (pc + 3) L st (zwi σ 13 i 2 x) o) : zKO E nL Z QQ pc L (.int x :: .ref (zad Z 13 i) :: st) σ o :=
  zr_putN C 2 zin_X8 rfl (Nat.le_of_ble_eq_true rfl) rfl tyX8_ok nmX8 rfl (ty := .int) (σ1 := zwi σ 13 i 2 x) (by decide +kernel) wz_n79 hd hk rfl (Nat.le_of_ble_eq_true rfl) rfl rfl (fun a b q => zu_off _ _ _ q) (fun a b q => rfl) (by
    show zE Z 13 i (zu σ.1 13 i 2 x 13 i) _ = _
    rw [zu_at]
    rfl) kk
theorem zp_X9_22 (C : zCx E cc RX9 nL ret Z h) {i : Nat} {x : Int32} (hk : i < zN 11) (hd : decode cc pc = .ok (.putfield 22, 3)) (kk : zKO E nL Z QQ (pc + 3) L st (zwi σ 11 i 1 x) o) : zKO E nL Z QQ pc L (.int x :: .ref (zad Z 11 i) :: st) σ o :=
  zr_put C 1 zin_X9 rfl (Nat.le_of_ble_eq_true rfl) rfl tyX9_ok nmX9 rfl (ty := .int) (σ1 := zwi σ 11 i 1 x) (by decide +kernel) wz_127 hd hk rfl (Nat.le_of_ble_eq_true rfl) rfl rfl (fun a b q => zu_off _ _ _ q) (fun a b q => rfl) (by
    show zE Z 11 i (zu σ.1 11 i 1 x 11 i) _ = _
    rw [zu_at]
    rfl) kk
theorem wz_n77 : Cond.fieldLinkNest "AlpCommune$Words" (36 : Nat) "AlpCommune$Word" "number" "I" "AlpCommune" ∈ zNest := zNest_mem 77 (by decide +kernel) (by decide +kernel)
theorem zf_X9_36 (C : zCx E cc RX9 nL ret Z h) {i : Nat} (hk : i < zN 13) (hd : decode cc pc = .ok (.getfield 36, 3)) (kk : zKO E nL Z QQ (pc + 3) L (.int (σ.1 13 i 1) :: st) σ o) : zKO E nL Z QQ pc L (.ref (zad Z 13 i) :: st) σ o := zr_getN C 1 zin_X8 rfl (Nat.le_of_ble_eq_true rfl) rfl wz_n77 hd hk rfl rfl kk
theorem wz_691 : Cond.fieldLink "AlpCommune$Words" (32 : Nat) "AlpCommune$Words" "WORTH_AT_FIRST" "[I" ∈ zTB := zTB_mem 818 (by decide +kernel) (by decide +kernel)
theorem wz_75 : Cond.fieldLink "AlpCommune$Word" (28 : Nat) "AlpCommune$Word" "key" "I" ∈ zTB := zTB_mem 202 (by decide +kernel) (by decide +kernel)
theorem zf_X8_28 (C : zCx E cc RX8 nL ret Z h) {i : Nat} (hk : i < zN 13) (hd : decode cc pc = .ok (.getfield 28, 3)) (kk : zKO E nL Z QQ (pc + 3) L (.int (σ.1 13 i 0) :: st) σ o) : zKO E nL Z QQ pc L (.ref (zad Z 13 i) :: st) σ o := zr_get C 0 zin_X8 rfl (Nat.le_of_ble_eq_true rfl) rfl wz_75 hd hk rfl rfl kk
theorem wz_78 : Cond.fieldLink "AlpCommune$Word" (32 : Nat) "AlpCommune$Word" "day" "I" ∈ zTB := zTB_mem 205 (by decide +kernel) (by decide +kernel)
theorem zf_X8_32 (C : zCx E cc RX8 nL ret Z h) {i : Nat} (hk : i < zN 13) (hd : decode cc pc = .ok (.getfield 32, 3)) (kk : zKO E nL Z QQ (pc + 3) L (.int (σ.1 13 i 2) :: st) σ o) : zKO E nL Z QQ pc L (.ref (zad Z 13 i) :: st) σ o := zr_get C 2 zin_X8 rfl (Nat.le_of_ble_eq_true rfl) rfl wz_78 hd hk rfl rfl kk
theorem wz_82 : Cond.fieldLink "AlpCommune$Word" (35 : Nat) "AlpCommune$Word" "isVoid" "Z" ∈ zTB := zTB_mem 209 (by decide +kernel) (by decide +kernel)
theorem zf_X8_35 (C : zCx E cc RX8 nL ret Z h) {i : Nat} (hk : i < zN 13) (hd : decode cc pc = .ok (.getfield 35, 3)) (kk : zKO E nL Z QQ (pc + 3) L (.int (σ.1 13 i 4) :: st) σ o) : zKO E nL Z QQ pc L (.ref (zad Z 13 i) :: st) σ o := zr_get C 4 zin_X8 rfl (Nat.le_of_ble_eq_true rfl) rfl wz_82 hd hk rfl rfl kk
theorem wz_80 : Cond.fieldLink "AlpCommune$Word" (39 : Nat) "AlpCommune$Word" "voidOn" "I" ∈ zTB := zTB_mem 207 (by decide +kernel) (by decide +kernel)
theorem zf_X8_39 (C : zCx E cc RX8 nL ret Z h) {i : Nat} (hk : i < zN 13) (hd : decode cc pc = .ok (.getfield 39, 3)) (kk : zKO E nL Z QQ (pc + 3) L (.int (σ.1 13 i 3) :: st) σ o) : zKO E nL Z QQ pc L (.ref (zad Z 13 i) :: st) σ o := zr_get C 3 zin_X8 rfl (Nat.le_of_ble_eq_true rfl) rfl wz_80 hd hk rfl rfl kk
theorem wz_n310 : Cond.fieldLinkNest "AlpCommune$Word" (56 : Nat) "AlpCommune$House" "has" "[I" "AlpCommune" ∈ zNest := zNest_mem 310 (by decide +kernel) (by decide +kernel)
set_option maxRecDepth 100000 in
theorem zin_X2 : ∀ w ∈ u_ws RX2 TX2 12, w ∈ zTB := by decide +kernel
theorem zf_X8_56 (C : zCx E cc RX8 nL ret Z h) {i : Nat} (hk : i < zN 2) (hd : decode cc pc = .ok (.getfield 56, 3)) (kk : zKO E nL Z QQ (pc + 3) L (.ref (zad Z 3 i) :: st) σ o) : zKO E nL Z QQ pc L (.ref (zad Z 2 i) :: st) σ o := zr_getN C 0 zin_X2 rfl (Nat.le_of_ble_eq_true rfl) rfl wz_n310 hd hk rfl rfl kk
theorem wz_86 : Cond.fieldLink "AlpCommune$Word" (42 : Nat) "AlpCommune$Word" "tests" "I" ∈ zTB := zTB_mem 213 (by decide +kernel) (by decide +kernel)
theorem zf_X8_42 (C : zCx E cc RX8 nL ret Z h) {i : Nat} (hk : i < zN 13) (hd : decode cc pc = .ok (.getfield 42, 3)) (kk : zKO E nL Z QQ (pc + 3) L (.int (σ.1 13 i 6) :: st) σ o) : zKO E nL Z QQ pc L (.ref (zad Z 13 i) :: st) σ o := zr_get C 6 zin_X8 rfl (Nat.le_of_ble_eq_true rfl) rfl wz_86 hd hk rfl rfl kk
theorem wz_96 : Cond.fieldLink "AlpCommune$Word" (25 : Nat) "AlpCommune$Word" "or" "[Z" ∈ zTB := zTB_mem 223 (by decide +kernel) (by decide +kernel)
theorem zf_X8_25 (C : zCx E cc RX8 nL ret Z h) {i : Nat} (hk : i < zN 13) (hd : decode cc pc = .ok (.getfield 25, 3)) (kk : zKO E nL Z QQ (pc + 3) L (.ref (zad Z 18 i) :: st) σ o) : zKO E nL Z QQ pc L (.ref (zad Z 13 i) :: st) σ o := zr_get C 11 zin_X8 rfl (Nat.le_of_ble_eq_true rfl) rfl wz_96 hd hk rfl rfl kk
theorem wz_94 : Cond.fieldLink "AlpCommune$Word" (21 : Nat) "AlpCommune$Word" "not" "[Z" ∈ zTB := zTB_mem 221 (by decide +kernel) (by decide +kernel)
theorem zf_X8_21 (C : zCx E cc RX8 nL ret Z h) {i : Nat} (hk : i < zN 13) (hd : decode cc pc = .ok (.getfield 21, 3)) (kk : zKO E nL Z QQ (pc + 3) L (.ref (zad Z 17 i) :: st) σ o) : zKO E nL Z QQ pc L (.ref (zad Z 13 i) :: st) σ o := zr_get C 10 zin_X8 rfl (Nat.le_of_ble_eq_true rfl) rfl wz_94 hd hk rfl rfl kk
theorem wz_88 : Cond.fieldLink "AlpCommune$Word" (9 : Nat) "AlpCommune$Word" "field" "[I" ∈ zTB := zTB_mem 215 (by decide +kernel) (by decide +kernel)
theorem zf_X8_9 (C : zCx E cc RX8 nL ret Z h) {i : Nat} (hk : i < zN 13) (hd : decode cc pc = .ok (.getfield 9, 3)) (kk : zKO E nL Z QQ (pc + 3) L (.ref (zad Z 14 i) :: st) σ o) : zKO E nL Z QQ pc L (.ref (zad Z 13 i) :: st) σ o := zr_get C 7 zin_X8 rfl (Nat.le_of_ble_eq_true rfl) rfl wz_88 hd hk rfl rfl kk
theorem wz_90 : Cond.fieldLink "AlpCommune$Word" (15 : Nat) "AlpCommune$Word" "sign" "[I" ∈ zTB := zTB_mem 217 (by decide +kernel) (by decide +kernel)
theorem zf_X8_15 (C : zCx E cc RX8 nL ret Z h) {i : Nat} (hk : i < zN 13) (hd : decode cc pc = .ok (.getfield 15, 3)) (kk : zKO E nL Z QQ (pc + 3) L (.ref (zad Z 15 i) :: st) σ o) : zKO E nL Z QQ pc L (.ref (zad Z 13 i) :: st) σ o := zr_get C 8 zin_X8 rfl (Nat.le_of_ble_eq_true rfl) rfl wz_90 hd hk rfl rfl kk
theorem wz_92 : Cond.fieldLink "AlpCommune$Word" (18 : Nat) "AlpCommune$Word" "than" "[I" ∈ zTB := zTB_mem 219 (by decide +kernel) (by decide +kernel)
theorem zf_X8_18 (C : zCx E cc RX8 nL ret Z h) {i : Nat} (hk : i < zN 13) (hd : decode cc pc = .ok (.getfield 18, 3)) (kk : zKO E nL Z QQ (pc + 3) L (.ref (zad Z 16 i) :: st) σ o) : zKO E nL Z QQ pc L (.ref (zad Z 13 i) :: st) σ o := zr_get C 9 zin_X8 rfl (Nat.le_of_ble_eq_true rfl) rfl wz_92 hd hk rfl rfl kk
theorem wz_684 : Cond.methodLink "AlpCommune$Word" (49 : Nat) ({ cls := "AlpCommune$Word", name := "isTrue", desc := "(III)Z" } : MethodName) ∈ zTB := zTB_mem 811 (by decide +kernel) (by decide +kernel)
theorem wz_685 : Cond.static ({ cls := "AlpCommune$Word", name := "isTrue", desc := "(III)Z" } : MethodName) ∈ zTB := zTB_mem 812 (by decide +kernel) (by decide +kernel)
theorem wz_686 : Cond.code yX8_isTrue cX8_isTrue 3 (some .boolean) ∈ zTB := zTB_mem 813 (by decide +kernel) (by decide +kernel)
theorem wz_4 : Cond.initialized "AlpCommune$Word" ∈ zTB := zTB_mem 131 (by decide +kernel) (by decide +kernel)
theorem wz_681 : Cond.methodLink "AlpCommune$Word" (45 : Nat) ({ cls := "AlpCommune$Word", name := "fieldOf", desc := "(LAlpCommune$House;II)I" } : MethodName) ∈ zTB := zTB_mem 808 (by decide +kernel) (by decide +kernel)
theorem wz_682 : Cond.static ({ cls := "AlpCommune$Word", name := "fieldOf", desc := "(LAlpCommune$House;II)I" } : MethodName) ∈ zTB := zTB_mem 809 (by decide +kernel) (by decide +kernel)
theorem wz_683 : Cond.code yX8_fieldOf cX8_fieldOf 3 (some .int) ∈ zTB := zTB_mem 810 (by decide +kernel) (by decide +kernel)
theorem wz_84 : Cond.fieldLink "AlpCommune$Word" (53 : Nat) "AlpCommune$Word" "unless" "Z" ∈ zTB := zTB_mem 211 (by decide +kernel) (by decide +kernel)
theorem zf_X8_53 (C : zCx E cc RX8 nL ret Z h) {i : Nat} (hk : i < zN 13) (hd : decode cc pc = .ok (.getfield 53, 3)) (kk : zKO E nL Z QQ (pc + 3) L (.int (σ.1 13 i 5) :: st) σ o) : zKO E nL Z QQ pc L (.ref (zad Z 13 i) :: st) σ o := zr_get C 5 zin_X8 rfl (Nat.le_of_ble_eq_true rfl) rfl wz_84 hd hk rfl rfl kk
theorem wz_n677 : Cond.methodLinkNest "AlpCommune$Words" (43 : Nat) ({ cls := "AlpCommune$Word", name := "holdsFor", desc := "(LAlpCommune$House;I)Z" } : MethodName) "AlpCommune" ∈ zNest := zNest_mem 677 (by decide +kernel) (by decide +kernel)
theorem wz_p27 : Cond.selects yX8_holdsFor.cls yX8_holdsFor yX8_holdsFor ∈ zTB := zTB_mem 27 (by decide +kernel) (by decide +kernel)
theorem wz_679 : Cond.instanceMethod ({ cls := "AlpCommune$Word", name := "holdsFor", desc := "(LAlpCommune$House;I)Z" } : MethodName) ∈ zTB := zTB_mem 806 (by decide +kernel) (by decide +kernel)
theorem wz_680 : Cond.code yX8_holdsFor cX8_holdsFor 6 (some .boolean) ∈ zTB := zTB_mem 807 (by decide +kernel) (by decide +kernel)
theorem wz_n673 : Cond.methodLinkNest "AlpCommune$Words" (39 : Nat) ({ cls := "AlpCommune$Word", name := "stands", desc := "(III)Z" } : MethodName) "AlpCommune" ∈ zNest := zNest_mem 673 (by decide +kernel) (by decide +kernel)
theorem wz_p26 : Cond.selects yX8_stands.cls yX8_stands yX8_stands ∈ zTB := zTB_mem 26 (by decide +kernel) (by decide +kernel)
theorem wz_675 : Cond.instanceMethod ({ cls := "AlpCommune$Word", name := "stands", desc := "(III)Z" } : MethodName) ∈ zTB := zTB_mem 802 (by decide +kernel) (by decide +kernel)
theorem wz_676 : Cond.code yX8_stands cX8_stands 4 (some .boolean) ∈ zTB := zTB_mem 803 (by decide +kernel) (by decide +kernel)
theorem wz_132 : Cond.fieldLink "AlpCommune$Words" (47 : Nat) "AlpCommune$Words" "place" "I" ∈ zTB := zTB_mem 259 (by decide +kernel) (by decide +kernel)
theorem zf_X9_47 (C : zCx E cc RX9 nL ret Z h) {i : Nat} (hk : i < zN 11) (hd : decode cc pc = .ok (.getfield 47, 3)) (kk : zKO E nL Z QQ (pc + 3) L (.int (σ.1 11 i 4) :: st) σ o) : zKO E nL Z QQ pc L (.ref (zad Z 11 i) :: st) σ o := zr_get C 4 zin_X9 rfl (Nat.le_of_ble_eq_true rfl) rfl wz_132 hd hk rfl rfl kk
theorem wz_609 : Cond.methodLink "AlpCommune$Words" (125 : Nat) ({ cls := "AlpCommune$Words", name := "isOfName", desc := "(Ljava/lang/String;I)Z" } : MethodName) ∈ zTB := zTB_mem 736 (by decide +kernel) (by decide +kernel)
theorem wz_610 : Cond.static ({ cls := "AlpCommune$Words", name := "isOfName", desc := "(Ljava/lang/String;I)Z" } : MethodName) ∈ zTB := zTB_mem 737 (by decide +kernel) (by decide +kernel)
theorem wz_611 : Cond.code yX9_isOfName cX9_isOfName 2 (some .boolean) ∈ zTB := zTB_mem 738 (by decide +kernel) (by decide +kernel)
theorem wz_3 : Cond.initialized "AlpCommune$Words" ∈ zTB := zTB_mem 130 (by decide +kernel) (by decide +kernel)
theorem zp_X9_47 (C : zCx E cc RX9 nL ret Z h) {i : Nat} {x : Int32} (hk : i < zN 11) (hd : decode cc pc = .ok (.putfield 47, 3)) (kk : zKO E nL Z QQ (pc + 3) L st (zwi σ 11 i 4 x) o) : zKO E nL Z QQ pc L (.int x :: .ref (zad Z 11 i) :: st) σ o :=
  zr_put C 4 zin_X9 rfl (Nat.le_of_ble_eq_true rfl) rfl tyX9_ok nmX9 rfl (ty := .int) (σ1 := zwi σ 11 i 4 x) (by decide +kernel) wz_132 hd hk rfl (Nat.le_of_ble_eq_true rfl) rfl rfl (fun a b q => zu_off _ _ _ q) (fun a b q => rfl) (by
    show zE Z 11 i (zu σ.1 11 i 4 x 11 i) _ = _
    rw [zu_at]
    rfl) kk
theorem wz_612 : Cond.methodLink "AlpCommune$Words" (111 : Nat) ({ cls := "java/lang/Math", name := "max", desc := "(II)I" } : MethodName) ∈ zTB := zTB_mem 739 (by decide +kernel) (by decide +kernel)
theorem wz_613 : Cond.static ({ cls := "java/lang/Math", name := "max", desc := "(II)I" } : MethodName) ∈ zTB := zTB_mem 740 (by decide +kernel) (by decide +kernel)
theorem wz_17 : Cond.initialized "java/lang/Math" ∈ zTB := zTB_mem 144 (by decide +kernel) (by decide +kernel)
theorem wz_614 : Cond.code Lib.Math.max.name Lib.Math.max.code 2 (some .int) ∈ zTB := zTB_mem 741 (by decide +kernel) (by decide +kernel)
theorem wz_615 : Cond.methodLink "AlpCommune$Words" (129 : Nat) ({ cls := "AlpCommune$Words", name := "behindBlank", desc := "(Ljava/lang/String;I)I" } : MethodName) ∈ zTB := zTB_mem 742 (by decide +kernel) (by decide +kernel)
theorem wz_616 : Cond.static ({ cls := "AlpCommune$Words", name := "behindBlank", desc := "(Ljava/lang/String;I)I" } : MethodName) ∈ zTB := zTB_mem 743 (by decide +kernel) (by decide +kernel)
theorem wz_617 : Cond.code yX9_behindBlank cX9_behindBlank 3 (some .int) ∈ zTB := zTB_mem 744 (by decide +kernel) (by decide +kernel)
theorem wz_567 : Cond.methodLink "AlpCommune$Words" (121 : Nat) ({ cls := "AlpCommune$Words", name := "sameBytes", desc := "(Ljava/lang/String;I)I" } : MethodName) ∈ zTB := zTB_mem 694 (by decide +kernel) (by decide +kernel)
theorem wz_p16 : Cond.selects yX9_sameBytes.cls yX9_sameBytes yX9_sameBytes ∈ zTB := zTB_mem 16 (by decide +kernel) (by decide +kernel)
theorem wz_569 : Cond.instanceMethod ({ cls := "AlpCommune$Words", name := "sameBytes", desc := "(Ljava/lang/String;I)I" } : MethodName) ∈ zTB := zTB_mem 696 (by decide +kernel) (by decide +kernel)
theorem wz_570 : Cond.code yX9_sameBytes cX9_sameBytes 5 (some .int) ∈ zTB := zTB_mem 697 (by decide +kernel) (by decide +kernel)
theorem wz_553 : Cond.methodLink "AlpCommune$Words" (63 : Nat) ({ cls := "AlpCommune$Words", name := "readName", desc := "(Ljava/lang/String;)I" } : MethodName) ∈ zTB := zTB_mem 680 (by decide +kernel) (by decide +kernel)
theorem wz_p15 : Cond.selects yX9_readName.cls yX9_readName yX9_readName ∈ zTB := zTB_mem 15 (by decide +kernel) (by decide +kernel)
theorem wz_555 : Cond.instanceMethod ({ cls := "AlpCommune$Words", name := "readName", desc := "(Ljava/lang/String;)I" } : MethodName) ∈ zTB := zTB_mem 682 (by decide +kernel) (by decide +kernel)
theorem wz_556 : Cond.code yX9_readName cX9_readName 6 (some .int) ∈ zTB := zTB_mem 683 (by decide +kernel) (by decide +kernel)
theorem wz_618 : Cond.methodLink "AlpCommune$Words" (70 : Nat) ({ cls := "AlpCommune$Words", name := "readBlank", desc := "()Z" } : MethodName) ∈ zTB := zTB_mem 745 (by decide +kernel) (by decide +kernel)
theorem wz_p17 : Cond.selects yX9_readBlank.cls yX9_readBlank yX9_readBlank ∈ zTB := zTB_mem 17 (by decide +kernel) (by decide +kernel)
theorem wz_620 : Cond.instanceMethod ({ cls := "AlpCommune$Words", name := "readBlank", desc := "()Z" } : MethodName) ∈ zTB := zTB_mem 747 (by decide +kernel) (by decide +kernel)
theorem wz_621 : Cond.code yX9_readBlank cX9_readBlank 1 (some .boolean) ∈ zTB := zTB_mem 748 (by decide +kernel) (by decide +kernel)
theorem wz_n89 : Cond.fieldLinkNest "AlpCommune$Words" (100 : Nat) "AlpCommune$Word" "field" "[I" "AlpCommune" ∈ zNest := zNest_mem 89 (by decide +kernel) (by decide +kernel)
theorem zf_X9_100 (C : zCx E cc RX9 nL ret Z h) {i : Nat} (hk : i < zN 13) (hd : decode cc pc = .ok (.getfield 100, 3)) (kk : zKO E nL Z QQ (pc + 3) L (.ref (zad Z 14 i) :: st) σ o) : zKO E nL Z QQ pc L (.ref (zad Z 13 i) :: st) σ o := zr_getN C 7 zin_X8 rfl (Nat.le_of_ble_eq_true rfl) rfl wz_n89 hd hk rfl rfl kk
theorem wz_n91 : Cond.fieldLinkNest "AlpCommune$Words" (103 : Nat) "AlpCommune$Word" "sign" "[I" "AlpCommune" ∈ zNest := zNest_mem 91 (by decide +kernel) (by decide +kernel)
theorem zf_X9_103 (C : zCx E cc RX9 nL ret Z h) {i : Nat} (hk : i < zN 13) (hd : decode cc pc = .ok (.getfield 103, 3)) (kk : zKO E nL Z QQ (pc + 3) L (.ref (zad Z 15 i) :: st) σ o) : zKO E nL Z QQ pc L (.ref (zad Z 13 i) :: st) σ o := zr_getN C 8 zin_X8 rfl (Nat.le_of_ble_eq_true rfl) rfl wz_n91 hd hk rfl rfl kk
theorem wz_n93 : Cond.fieldLinkNest "AlpCommune$Words" (108 : Nat) "AlpCommune$Word" "than" "[I" "AlpCommune" ∈ zNest := zNest_mem 93 (by decide +kernel) (by decide +kernel)
theorem zf_X9_108 (C : zCx E cc RX9 nL ret Z h) {i : Nat} (hk : i < zN 13) (hd : decode cc pc = .ok (.getfield 108, 3)) (kk : zKO E nL Z QQ (pc + 3) L (.ref (zad Z 16 i) :: st) σ o) : zKO E nL Z QQ pc L (.ref (zad Z 13 i) :: st) σ o := zr_getN C 9 zin_X8 rfl (Nat.le_of_ble_eq_true rfl) rfl wz_n93 hd hk rfl rfl kk
theorem wz_622 : Cond.methodLink "AlpCommune$Words" (74 : Nat) ({ cls := "AlpCommune$Words", name := "readNumber", desc := "()I" } : MethodName) ∈ zTB := zTB_mem 749 (by decide +kernel) (by decide +kernel)
theorem wz_p18 : Cond.selects yX9_readNumber.cls yX9_readNumber yX9_readNumber ∈ zTB := zTB_mem 18 (by decide +kernel) (by decide +kernel)
theorem wz_624 : Cond.instanceMethod ({ cls := "AlpCommune$Words", name := "readNumber", desc := "()I" } : MethodName) ∈ zTB := zTB_mem 751 (by decide +kernel) (by decide +kernel)
theorem wz_625 : Cond.code yX9_readNumber cX9_readNumber 4 (some .int) ∈ zTB := zTB_mem 752 (by decide +kernel) (by decide +kernel)
theorem wz_n95 : Cond.fieldLinkNest "AlpCommune$Words" (95 : Nat) "AlpCommune$Word" "not" "[Z" "AlpCommune" ∈ zNest := zNest_mem 95 (by decide +kernel) (by decide +kernel)
theorem zf_X9_95 (C : zCx E cc RX9 nL ret Z h) {i : Nat} (hk : i < zN 13) (hd : decode cc pc = .ok (.getfield 95, 3)) (kk : zKO E nL Z QQ (pc + 3) L (.ref (zad Z 17 i) :: st) σ o) : zKO E nL Z QQ pc L (.ref (zad Z 13 i) :: st) σ o := zr_getN C 10 zin_X8 rfl (Nat.le_of_ble_eq_true rfl) rfl wz_n95 hd hk rfl rfl kk
theorem wz_n97 : Cond.fieldLinkNest "AlpCommune$Words" (83 : Nat) "AlpCommune$Word" "or" "[Z" "AlpCommune" ∈ zNest := zNest_mem 97 (by decide +kernel) (by decide +kernel)
theorem zf_X9_83 (C : zCx E cc RX9 nL ret Z h) {i : Nat} (hk : i < zN 13) (hd : decode cc pc = .ok (.getfield 83, 3)) (kk : zKO E nL Z QQ (pc + 3) L (.ref (zad Z 18 i) :: st) σ o) : zKO E nL Z QQ pc L (.ref (zad Z 13 i) :: st) σ o := zr_getN C 11 zin_X8 rfl (Nat.le_of_ble_eq_true rfl) rfl wz_n97 hd hk rfl rfl kk
theorem wz_n87 : Cond.fieldLinkNest "AlpCommune$Words" (54 : Nat) "AlpCommune$Word" "tests" "I" "AlpCommune" ∈ zNest := zNest_mem 87 (by decide +kernel) (by decide +kernel)
theorem zp_X9_54 (C : zCx E cc RX9 nL ret Z h) {i : Nat} {x : Int32} (hk : i < zN 13) (hd : decode cc pc = .ok (.putfield 54, 3)) (kk : zKO E nL Z QQ (pc + 3) L st (zwi σ 13 i 6 x) o) : zKO E nL Z QQ pc L (.int x :: .ref (zad Z 13 i) :: st) σ o :=
  zr_putN C 6 zin_X8 rfl (Nat.le_of_ble_eq_true rfl) rfl tyX8_ok nmX8 rfl (ty := .int) (σ1 := zwi σ 13 i 6 x) (by decide +kernel) wz_n87 hd hk rfl (Nat.le_of_ble_eq_true rfl) rfl rfl (fun a b q => zu_off _ _ _ q) (fun a b q => rfl) (by
    show zE Z 13 i (zu σ.1 13 i 6 x 13 i) _ = _
    rw [zu_at]
    rfl) kk
theorem wz_631 : Cond.methodLink "AlpCommune$Words" (87 : Nat) ({ cls := "AlpCommune$Words", name := "readTest", desc := "(LAlpCommune$Word;I)Z" } : MethodName) ∈ zTB := zTB_mem 758 (by decide +kernel) (by decide +kernel)
theorem wz_p20 : Cond.selects yX9_readTest.cls yX9_readTest yX9_readTest ∈ zTB := zTB_mem 20 (by decide +kernel) (by decide +kernel)
theorem wz_633 : Cond.instanceMethod ({ cls := "AlpCommune$Words", name := "readTest", desc := "(LAlpCommune$Word;I)Z" } : MethodName) ∈ zTB := zTB_mem 760 (by decide +kernel) (by decide +kernel)
theorem wz_634 : Cond.code yX9_readTest cX9_readTest 4 (some .boolean) ∈ zTB := zTB_mem 761 (by decide +kernel) (by decide +kernel)
theorem wz_n85 : Cond.fieldLinkNest "AlpCommune$Words" (57 : Nat) "AlpCommune$Word" "unless" "Z" "AlpCommune" ∈ zNest := zNest_mem 85 (by decide +kernel) (by decide +kernel)
theorem zp_X9_57 (C : zCx E cc RX9 nL ret Z h) {i : Nat} {x : Int32} (hk : i < zN 13) (hd : decode cc pc = .ok (.putfield 57, 3)) (kk : zKO E nL Z QQ (pc + 3) L st (zwi σ 13 i 5 x) o) : zKO E nL Z QQ pc L (.int x :: .ref (zad Z 13 i) :: st) σ (zg (zbo x) o) :=
  zr_g fun hb => zr_putN C 5 zin_X8 rfl (Nat.le_of_ble_eq_true rfl) rfl tyX8_ok nmX8 rfl (ty := .boolean) (σ1 := zwi σ 13 i 5 x) (by decide +kernel) wz_n85 hd hk rfl (Nat.le_of_ble_eq_true rfl) (zbo_nar hb) (zbo_fit hb) (fun a b q => zu_off _ _ _ q) (fun a b q => rfl) (by
    show zE Z 13 i (zu σ.1 13 i 5 x 13 i) _ = _
    rw [zu_at]
    rfl) kk
theorem wz_627 : Cond.methodLink "AlpCommune$Words" (80 : Nat) ({ cls := "AlpCommune$Words", name := "readTests", desc := "(LAlpCommune$Word;)Z" } : MethodName) ∈ zTB := zTB_mem 754 (by decide +kernel) (by decide +kernel)
theorem wz_p19 : Cond.selects yX9_readTests.cls yX9_readTests yX9_readTests ∈ zTB := zTB_mem 19 (by decide +kernel) (by decide +kernel)
theorem wz_629 : Cond.instanceMethod ({ cls := "AlpCommune$Words", name := "readTests", desc := "(LAlpCommune$Word;)Z" } : MethodName) ∈ zTB := zTB_mem 756 (by decide +kernel) (by decide +kernel)
theorem wz_630 : Cond.code yX9_readTests cX9_readTests 5 (some .boolean) ∈ zTB := zTB_mem 757 (by decide +kernel) (by decide +kernel)
theorem wz_n76 : Cond.fieldLinkNest "AlpCommune$Words" (67 : Nat) "AlpCommune$Word" "key" "I" "AlpCommune" ∈ zNest := zNest_mem 76 (by decide +kernel) (by decide +kernel)
theorem zp_X9_67 (C : zCx E cc RX9 nL ret Z h) {i : Nat} {x : Int32} (hk : i < zN 13) (hd : decode cc pc = .ok (.putfield 67, 3)) (kk : zKO E nL Z QQ (pc + 3) L st (zwi σ 13 i 0 x) o) : zKO E nL Z QQ pc L (.int x :: .ref (zad Z 13 i) :: st) σ o :=
  zr_putN C 0 zin_X8 rfl (Nat.le_of_ble_eq_true rfl) rfl tyX8_ok nmX8 rfl (ty := .int) (σ1 := zwi σ 13 i 0 x) (by decide +kernel) wz_n76 hd hk rfl (Nat.le_of_ble_eq_true rfl) rfl rfl (fun a b q => zu_off _ _ _ q) (fun a b q => rfl) (by
    show zE Z 13 i (zu σ.1 13 i 0 x 13 i) _ = _
    rw [zu_at]
    rfl) kk
theorem zf_X9_67 (C : zCx E cc RX9 nL ret Z h) {i : Nat} (hk : i < zN 13) (hd : decode cc pc = .ok (.getfield 67, 3)) (kk : zKO E nL Z QQ (pc + 3) L (.int (σ.1 13 i 0) :: st) σ o) : zKO E nL Z QQ pc L (.ref (zad Z 13 i) :: st) σ o := zr_getN C 0 zin_X8 rfl (Nat.le_of_ble_eq_true rfl) rfl wz_n76 hd hk rfl rfl kk
theorem zp_X9_36 (C : zCx E cc RX9 nL ret Z h) {i : Nat} {x : Int32} (hk : i < zN 13) (hd : decode cc pc = .ok (.putfield 36, 3)) (kk : zKO E nL Z QQ (pc + 3) L st (zwi σ 13 i 1 x) o) : zKO E nL Z QQ pc L (.int x :: .ref (zad Z 13 i) :: st) σ o :=
  zr_putN C 1 zin_X8 rfl (Nat.le_of_ble_eq_true rfl) rfl tyX8_ok nmX8 rfl (ty := .int) (σ1 := zwi σ 13 i 1 x) (by decide +kernel) wz_n77 hd hk rfl (Nat.le_of_ble_eq_true rfl) rfl rfl (fun a b q => zu_off _ _ _ q) (fun a b q => rfl) (by
    show zE Z 13 i (zu σ.1 13 i 1 x 13 i) _ = _
    rw [zu_at]
    rfl) kk
theorem wz_548 : Cond.methodLink "AlpCommune$Words" (50 : Nat) ({ cls := "AlpCommune$Words", name := "readWord", desc := "(LAlpCommune$Word;)Z" } : MethodName) ∈ zTB := zTB_mem 675 (by decide +kernel) (by decide +kernel)
theorem wz_p14 : Cond.selects yX9_readWord.cls yX9_readWord yX9_readWord ∈ zTB := zTB_mem 14 (by decide +kernel) (by decide +kernel)
theorem wz_550 : Cond.instanceMethod ({ cls := "AlpCommune$Words", name := "readWord", desc := "(LAlpCommune$Word;)Z" } : MethodName) ∈ zTB := zTB_mem 677 (by decide +kernel) (by decide +kernel)
theorem wz_551 : Cond.code yX9_readWord cX9_readWord 3 (some .boolean) ∈ zTB := zTB_mem 678 (by decide +kernel) (by decide +kernel)
end ZL
