section ZL
variable {E : zEn} {cc : ByteArray} {own : String} {nL h : Nat} {ret : Option FieldType} {Z : zLay} {α : Type} {QQ : α → zMem → State → Prop} {pc : Nat} {L : List (Nat × Value)} {st : List Value} {σ : zMem} {o o1 o2 : Option (α × zMem)}
theorem wz_46 : Cond.fieldLink "AlpCommune$Rights" (27 : Nat) "AlpCommune$Rights" "count" "I" ∈ zTB := zTB_mem 173 (by decide +kernel) (by decide +kernel)
set_option maxRecDepth 100000 in
theorem zin_X3 : ∀ w ∈ u_ws RX3 TX3 6, w ∈ zTB := by decide +kernel
theorem zf_X3_27 (C : zCx E cc RX3 nL ret Z h) {i : Nat} (hk : i < zN 5) (hd : decode cc pc = .ok (.getfield 27, 3)) (kk : zKO E nL Z QQ (pc + 3) L (.int (σ.1 5 i 5) :: st) σ o) : zKO E nL Z QQ pc L (.ref (zad Z 5 i) :: st) σ o := zr_get C 5 zin_X3 rfl (Nat.le_of_ble_eq_true rfl) rfl wz_46 hd hk rfl rfl kk
theorem wz_36 : Cond.fieldLink "AlpCommune$Rights" (9 : Nat) "AlpCommune$Rights" "kind" "[I" ∈ zTB := zTB_mem 163 (by decide +kernel) (by decide +kernel)
theorem zf_X3_9 (C : zCx E cc RX3 nL ret Z h) {i : Nat} (hk : i < zN 5) (hd : decode cc pc = .ok (.getfield 9, 3)) (kk : zKO E nL Z QQ (pc + 3) L (.ref (zad Z 6 0) :: st) σ o) : zKO E nL Z QQ pc L (.ref (zad Z 5 i) :: st) σ o := zr_get C 0 zin_X3 rfl (Nat.le_of_ble_eq_true rfl) rfl wz_36 hd hk rfl rfl kk
theorem wz_38 : Cond.fieldLink "AlpCommune$Rights" (15 : Nat) "AlpCommune$Rights" "owner" "[I" ∈ zTB := zTB_mem 165 (by decide +kernel) (by decide +kernel)
theorem zf_X3_15 (C : zCx E cc RX3 nL ret Z h) {i : Nat} (hk : i < zN 5) (hd : decode cc pc = .ok (.getfield 15, 3)) (kk : zKO E nL Z QQ (pc + 3) L (.ref (zad Z 7 0) :: st) σ o) : zKO E nL Z QQ pc L (.ref (zad Z 5 i) :: st) σ o := zr_get C 1 zin_X3 rfl (Nat.le_of_ble_eq_true rfl) rfl wz_38 hd hk rfl rfl kk
theorem wz_40 : Cond.fieldLink "AlpCommune$Rights" (18 : Nat) "AlpCommune$Rights" "parts" "[I" ∈ zTB := zTB_mem 167 (by decide +kernel) (by decide +kernel)
theorem zf_X3_18 (C : zCx E cc RX3 nL ret Z h) {i : Nat} (hk : i < zN 5) (hd : decode cc pc = .ok (.getfield 18, 3)) (kk : zKO E nL Z QQ (pc + 3) L (.ref (zad Z 8 0) :: st) σ o) : zKO E nL Z QQ pc L (.ref (zad Z 5 i) :: st) σ o := zr_get C 2 zin_X3 rfl (Nat.le_of_ble_eq_true rfl) rfl wz_40 hd hk rfl rfl kk
theorem zp_X3_27 (C : zCx E cc RX3 nL ret Z h) {i : Nat} {x : Int32} (hk : i < zN 5) (hd : decode cc pc = .ok (.putfield 27, 3)) (kk : zKO E nL Z QQ (pc + 3) L st (zwi σ 5 i 5 x) o) : zKO E nL Z QQ pc L (.int x :: .ref (zad Z 5 i) :: st) σ o :=
  zr_put C 5 zin_X3 rfl (Nat.le_of_ble_eq_true rfl) rfl tyX3_ok nmX3 rfl (ty := .int) (σ1 := zwi σ 5 i 5 x) (by decide +kernel) wz_46 hd hk rfl (Nat.le_of_ble_eq_true rfl) rfl rfl (fun a b q => zu_off _ _ _ q) (fun a b q => rfl) (by
    show zE Z 5 i (zu σ.1 5 i 5 x 5 i) _ = _
    rw [zu_at]
    rfl) kk
theorem wz_483 : Cond.fieldLink "AlpCommune$Rights" (31 : Nat) "AlpCommune$Rights" "COMMON_OF" "[I" ∈ zTB := zTB_mem 610 (by decide +kernel) (by decide +kernel)
theorem wz_44 : Cond.fieldLink "AlpCommune$Rights" (24 : Nat) "AlpCommune$Rights" "lentTill" "[I" ∈ zTB := zTB_mem 171 (by decide +kernel) (by decide +kernel)
theorem zf_X3_24 (C : zCx E cc RX3 nL ret Z h) {i : Nat} (hk : i < zN 5) (hd : decode cc pc = .ok (.getfield 24, 3)) (kk : zKO E nL Z QQ (pc + 3) L (.ref (zad Z 10 0) :: st) σ o) : zKO E nL Z QQ pc L (.ref (zad Z 5 i) :: st) σ o := zr_get C 4 zin_X3 rfl (Nat.le_of_ble_eq_true rfl) rfl wz_44 hd hk rfl rfl kk
theorem wz_42 : Cond.fieldLink "AlpCommune$Rights" (21 : Nat) "AlpCommune$Rights" "lentTo" "[I" ∈ zTB := zTB_mem 169 (by decide +kernel) (by decide +kernel)
theorem zf_X3_21 (C : zCx E cc RX3 nL ret Z h) {i : Nat} (hk : i < zN 5) (hd : decode cc pc = .ok (.getfield 21, 3)) (kk : zKO E nL Z QQ (pc + 3) L (.ref (zad Z 9 0) :: st) σ o) : zKO E nL Z QQ pc L (.ref (zad Z 5 i) :: st) σ o := zr_get C 3 zin_X3 rfl (Nat.le_of_ble_eq_true rfl) rfl wz_42 hd hk rfl rfl kk
theorem wz_498 : Cond.methodLink "AlpCommune$Rights" (34 : Nat) ({ cls := "AlpCommune$Rights", name := "isLent", desc := "(II)Z" } : MethodName) ∈ zTB := zTB_mem 625 (by decide +kernel) (by decide +kernel)
theorem wz_p6 : Cond.selects yX3_isLent.cls yX3_isLent yX3_isLent ∈ zTB := zTB_mem 6 (by decide +kernel) (by decide +kernel)
theorem wz_487 : Cond.instanceMethod ({ cls := "AlpCommune$Rights", name := "isLent", desc := "(II)Z" } : MethodName) ∈ zTB := zTB_mem 614 (by decide +kernel) (by decide +kernel)
theorem wz_488 : Cond.code yX3_isLent cX3_isLent 3 (some .boolean) ∈ zTB := zTB_mem 615 (by decide +kernel) (by decide +kernel)
theorem wz_2 : Cond.initialized "AlpCommune$Rights" ∈ zTB := zTB_mem 129 (by decide +kernel) (by decide +kernel)
theorem wz_497 : Cond.methodLink "AlpCommune$Rights" (38 : Nat) ({ cls := "AlpCommune$Rights", name := "commonOf", desc := "(I)I" } : MethodName) ∈ zTB := zTB_mem 624 (by decide +kernel) (by decide +kernel)
theorem wz_p5 : Cond.selects yX3_commonOf.cls yX3_commonOf yX3_commonOf ∈ zTB := zTB_mem 5 (by decide +kernel) (by decide +kernel)
theorem wz_481 : Cond.instanceMethod ({ cls := "AlpCommune$Rights", name := "commonOf", desc := "(I)I" } : MethodName) ∈ zTB := zTB_mem 608 (by decide +kernel) (by decide +kernel)
theorem wz_482 : Cond.code yX3_commonOf cX3_commonOf 2 (some .int) ∈ zTB := zTB_mem 609 (by decide +kernel) (by decide +kernel)
theorem wz_527 : Cond.methodLink "AlpCommune$Rights" (42 : Nat) ({ cls := "AlpCommune$Rights", name := "holder", desc := "(II)I" } : MethodName) ∈ zTB := zTB_mem 654 (by decide +kernel) (by decide +kernel)
theorem wz_p8 : Cond.selects yX3_holder.cls yX3_holder yX3_holder ∈ zTB := zTB_mem 8 (by decide +kernel) (by decide +kernel)
theorem wz_513 : Cond.instanceMethod ({ cls := "AlpCommune$Rights", name := "holder", desc := "(II)I" } : MethodName) ∈ zTB := zTB_mem 640 (by decide +kernel) (by decide +kernel)
theorem wz_514 : Cond.code yX3_holder cX3_holder 3 (some .int) ∈ zTB := zTB_mem 641 (by decide +kernel) (by decide +kernel)
theorem wz_953 : Cond.methodLink "AlpCommune$Rights" (46 : Nat) ({ cls := "AlpCommune$Rights", name := "whole", desc := "(I)I" } : MethodName) ∈ zTB := zTB_mem 1080 (by decide +kernel) (by decide +kernel)
theorem wz_p9 : Cond.selects yX3_whole.cls yX3_whole yX3_whole ∈ zTB := zTB_mem 9 (by decide +kernel) (by decide +kernel)
theorem wz_521 : Cond.instanceMethod ({ cls := "AlpCommune$Rights", name := "whole", desc := "(I)I" } : MethodName) ∈ zTB := zTB_mem 648 (by decide +kernel) (by decide +kernel)
theorem wz_522 : Cond.code yX3_whole cX3_whole 4 (some .int) ∈ zTB := zTB_mem 649 (by decide +kernel) (by decide +kernel)
theorem wz_1052 : Cond.fieldLink "AlpCommune$Rights" (49 : Nat) "AlpCommune$Rights" "KIND_ABOVE" "[I" ∈ zTB := zTB_mem 1179 (by decide +kernel) (by decide +kernel)
end ZL
