/-! constructors, laid out of the code -/
theorem zDu_o {D : zDm} {k i a b : Nat} {x y : va_E} (h : a ≠ k) (e : D a b = some y) : zDu D k i x a b = some y := (zDu_n D x (fun w => h w.1)).trans e
theorem zDr_o {D : zDm} {k N a b : Nat} {x y : va_E} (h : a ≠ k) (e : D a b = some y) : zDr D k N x a b = some y := (if_neg fun w => h w.1).trans e
def zfill (Z : zLay) (k : Nat) : Nat → Nat → Option Nat
  | 0 => fun _ => none
  | n + 1 => va_up (zfill Z k n) n (some (zad Z k n))
theorem zfill_at (Z : zLay) (k n j : Nat) (h : j < n) : zfill Z k n j = some (zad Z k j) := by
  induction n with
  | zero => exact absurd h (Nat.not_lt_zero _)
  | succ n ih =>
    show va_up (zfill Z k n) n (some (zad Z k n)) j = _
    unfold va_up
    by_cases q : j = n
    · rw [if_pos q, q]
    · rw [if_neg q]
      exact ih (by omega)
theorem wq_167 : Cond.methodLink "AlpCommune$Alps" (3 : Nat) ({ cls := "java/lang/Object", name := "<init>", desc := "()V" } : MethodName) ∈ zTB := zTB_mem 294 (by decide +kernel) (by decide +kernel)
theorem wq_26 : Cond.instanceMethod ({ cls := "java/lang/Object", name := "<init>", desc := "()V" } : MethodName) ∈ zTB := zTB_mem 153 (by decide +kernel) (by decide +kernel)
theorem wq_27 : Cond.code objectInit ⟨#[0xb1]⟩ 1 none ∈ zTB := zTB_mem 154 (by decide +kernel) (by decide +kernel)
theorem wq_169 : Cond.fieldLink "AlpCommune$Alps" (9 : Nat) "AlpCommune$Alps" "height" "[I" ∈ zTB := zTB_mem 296 (by decide +kernel) (by decide +kernel)
theorem wq_61 : Cond.arrayClass ClassFile.FieldType.int ∈ zTB := zTB_mem 188 (by decide +kernel) (by decide +kernel)
theorem wq_171 : Cond.fieldLink "AlpCommune$Alps" (15 : Nat) "AlpCommune$Alps" "area" "[I" ∈ zTB := zTB_mem 298 (by decide +kernel) (by decide +kernel)
theorem wq_173 : Cond.fieldLink "AlpCommune$Alps" (18 : Nat) "AlpCommune$Alps" "grass" "[I" ∈ zTB := zTB_mem 300 (by decide +kernel) (by decide +kernel)
theorem wq_175 : Cond.fieldLink "AlpCommune$Alps" (21 : Nat) "AlpCommune$Alps" "snow" "[I" ∈ zTB := zTB_mem 302 (by decide +kernel) (by decide +kernel)
theorem wq_179 : Cond.fieldLink "AlpCommune$Alps" (24 : Nat) "AlpCommune$Alps" "planWarm" "[I" ∈ zTB := zTB_mem 306 (by decide +kernel) (by decide +kernel)
theorem wq_181 : Cond.fieldLink "AlpCommune$Alps" (27 : Nat) "AlpCommune$Alps" "planFall" "[I" ∈ zTB := zTB_mem 308 (by decide +kernel) (by decide +kernel)
theorem wq_183 : Cond.fieldLink "AlpCommune$Alps" (30 : Nat) "AlpCommune$Alps" "planCows" "[I" ∈ zTB := zTB_mem 310 (by decide +kernel) (by decide +kernel)
theorem wq_185 : Cond.fieldLink "AlpCommune$Alps" (35 : Nat) "AlpCommune$Alps" "planHunger" "[[I" ∈ zTB := zTB_mem 312 (by decide +kernel) (by decide +kernel)
theorem wq_168 : Cond.classLink "AlpCommune$Alps" (33 : Nat) "[[I" ∈ zTB := zTB_mem 295 (by decide +kernel) (by decide +kernel)
theorem wq_187 : Cond.fieldLink "AlpCommune$Alps" (38 : Nat) "AlpCommune$Alps" "planAlp" "[I" ∈ zTB := zTB_mem 314 (by decide +kernel) (by decide +kernel)
theorem wq_188 : Cond.fieldLink "AlpCommune$Alps" (41 : Nat) "AlpCommune$Alps" "planOn" "[I" ∈ zTB := zTB_mem 315 (by decide +kernel) (by decide +kernel)
theorem wq_189 : Cond.fieldLink "AlpCommune$Alps" (44 : Nat) "AlpCommune$Alps" "planBest" "[I" ∈ zTB := zTB_mem 316 (by decide +kernel) (by decide +kernel)
section YX0
variable {E : zEn} {nL h n0 c0 mc ms : Nat} {Z : zLay} {D : zDm} {Q : State → Prop}
def fX0_0 : List Value := [.null, .null, .null, .null, .int 0, .null, .null, .null, .null, .null, .null, .null]
theorem nfX0 : ∀ j, j < 12 → defaultValue (tyX0 j) = vp_V fX0_0 j := by decide +kernel
def eX0_0 (Z : zLay) (D : zDm) : zDm := D
theorem sX0_0 (C : zCN E cX0_init RX0 1 Z h n0 c0 15 227) (hh : 1 ≤ h) (hc : c0 = 259) (kk : zNN E 1 Z n0 Q 4 [(0, .ref (zad Z 25 0))] [] (zDu (eX0_0 Z D) 25 0 (.inr (0, fX0_0))) 0 0) : zNN E 1 Z n0 Q 0 [(0, .ref (zad Z 25 0))] [] (zDu (eX0_0 Z D) 25 0 (.inr (0, fX0_0))) 0 0 := by
  subst hc
  refine zn_aload_n C dX0_init_0 rfl ?_
  refine zn_obj C wq_167 wq_26 wq_27 dX0_init_1 (by omega) (Nat.le_of_ble_eq_true rfl) ?_
  exact kk
def fX0_1 (Z : zLay) : List Value := [.ref (zad Z 26 0), .null, .null, .null, .int 0, .null, .null, .null, .null, .null, .null, .null]
def eX0_1 (Z : zLay) (D : zDm) : zDm := (zDu (zDu (eX0_0 Z D) 25 0 (.inr (0, fX0_0))) 26 0 (.inl (zca Z 0, 4, .inl fun _ => 0)))
theorem sX0_4 (C : zCN E cX0_init RX0 1 Z h n0 c0 15 227) (hh : 1 ≤ h) (hc : c0 = 259) (kk : zNN E 1 Z n0 Q 11 [(0, .ref (zad Z 25 0))] [] (zDu (eX0_1 Z D) 25 0 (.inr (0, fX0_1 Z))) 1 4) : zNN E 1 Z n0 Q 4 [(0, .ref (zad Z 25 0))] [] (zDu (eX0_0 Z D) 25 0 (.inr (0, fX0_0))) 0 0 := by
  subst hc
  refine zn_aload_n C dX0_init_4 rfl ?_
  refine zn_iconst C dX0_init_5 (v := 4) (by decide) ?_
  refine zn_newa C (atype := .int) (k := 26) (i := 0) (t0 := 0) (N := 4) (a0 := (4, .inl fun _ => 0)) wq_61 rfl dX0_init_6 (by decide) (by decide) (by decide) (fun _ => rfl) (by decide) rfl (by omega) (by omega) ?_
  refine zn_putF C (by decide +kernel) 0 zin_X0 rfl (Nat.le_of_ble_eq_true rfl) rfl rfl tyX0_ok nmX0 rfl (ty := tyX0 0) (by decide +kernel) wq_169 dX0_init_8 (zDu_o (by decide) (zDu_i _ _ _ _)) (Nat.le_of_ble_eq_true rfl) rfl rfl ?_
  exact kk
def fX0_2 (Z : zLay) : List Value := [.ref (zad Z 26 0), .ref (zad Z 27 0), .null, .null, .int 0, .null, .null, .null, .null, .null, .null, .null]
def eX0_2 (Z : zLay) (D : zDm) : zDm := (zDu (zDu (eX0_1 Z D) 25 0 (.inr (0, fX0_1 Z))) 27 0 (.inl (zca Z 0, 4, .inl fun _ => 0)))
theorem sX0_11 (C : zCN E cX0_init RX0 1 Z h n0 c0 15 227) (hh : 1 ≤ h) (hc : c0 = 259) (kk : zNN E 1 Z n0 Q 18 [(0, .ref (zad Z 25 0))] [] (zDu (eX0_2 Z D) 25 0 (.inr (0, fX0_2 Z))) 2 8) : zNN E 1 Z n0 Q 11 [(0, .ref (zad Z 25 0))] [] (zDu (eX0_1 Z D) 25 0 (.inr (0, fX0_1 Z))) 1 4 := by
  subst hc
  refine zn_aload_n C dX0_init_11 rfl ?_
  refine zn_iconst C dX0_init_12 (v := 4) (by decide) ?_
  refine zn_newa C (atype := .int) (k := 27) (i := 0) (t0 := 0) (N := 4) (a0 := (4, .inl fun _ => 0)) wq_61 rfl dX0_init_13 (by decide) (by decide) (by decide) (fun _ => rfl) (by decide) rfl (by omega) (by omega) ?_
  refine zn_putF C (by decide +kernel) 1 zin_X0 rfl (Nat.le_of_ble_eq_true rfl) rfl rfl tyX0_ok nmX0 rfl (ty := tyX0 1) (by decide +kernel) wq_171 dX0_init_15 (zDu_o (by decide) (zDu_i _ _ _ _)) (Nat.le_of_ble_eq_true rfl) rfl rfl ?_
  exact kk
def fX0_3 (Z : zLay) : List Value := [.ref (zad Z 26 0), .ref (zad Z 27 0), .ref (zad Z 28 0), .null, .int 0, .null, .null, .null, .null, .null, .null, .null]
def eX0_3 (Z : zLay) (D : zDm) : zDm := (zDu (zDu (eX0_2 Z D) 25 0 (.inr (0, fX0_2 Z))) 28 0 (.inl (zca Z 0, 4, .inl fun _ => 0)))
theorem sX0_18 (C : zCN E cX0_init RX0 1 Z h n0 c0 15 227) (hh : 1 ≤ h) (hc : c0 = 259) (kk : zNN E 1 Z n0 Q 25 [(0, .ref (zad Z 25 0))] [] (zDu (eX0_3 Z D) 25 0 (.inr (0, fX0_3 Z))) 3 12) : zNN E 1 Z n0 Q 18 [(0, .ref (zad Z 25 0))] [] (zDu (eX0_2 Z D) 25 0 (.inr (0, fX0_2 Z))) 2 8 := by
  subst hc
  refine zn_aload_n C dX0_init_18 rfl ?_
  refine zn_iconst C dX0_init_19 (v := 4) (by decide) ?_
  refine zn_newa C (atype := .int) (k := 28) (i := 0) (t0 := 0) (N := 4) (a0 := (4, .inl fun _ => 0)) wq_61 rfl dX0_init_20 (by decide) (by decide) (by decide) (fun _ => rfl) (by decide) rfl (by omega) (by omega) ?_
  refine zn_putF C (by decide +kernel) 2 zin_X0 rfl (Nat.le_of_ble_eq_true rfl) rfl rfl tyX0_ok nmX0 rfl (ty := tyX0 2) (by decide +kernel) wq_173 dX0_init_22 (zDu_o (by decide) (zDu_i _ _ _ _)) (Nat.le_of_ble_eq_true rfl) rfl rfl ?_
  exact kk
def fX0_4 (Z : zLay) : List Value := [.ref (zad Z 26 0), .ref (zad Z 27 0), .ref (zad Z 28 0), .ref (zad Z 29 0), .int 0, .null, .null, .null, .null, .null, .null, .null]
def eX0_4 (Z : zLay) (D : zDm) : zDm := (zDu (zDu (eX0_3 Z D) 25 0 (.inr (0, fX0_3 Z))) 29 0 (.inl (zca Z 0, 4, .inl fun _ => 0)))
theorem sX0_25 (C : zCN E cX0_init RX0 1 Z h n0 c0 15 227) (hh : 1 ≤ h) (hc : c0 = 259) (kk : zNN E 1 Z n0 Q 32 [(0, .ref (zad Z 25 0))] [] (zDu (eX0_4 Z D) 25 0 (.inr (0, fX0_4 Z))) 4 16) : zNN E 1 Z n0 Q 25 [(0, .ref (zad Z 25 0))] [] (zDu (eX0_3 Z D) 25 0 (.inr (0, fX0_3 Z))) 3 12 := by
  subst hc
  refine zn_aload_n C dX0_init_25 rfl ?_
  refine zn_iconst C dX0_init_26 (v := 4) (by decide) ?_
  refine zn_newa C (atype := .int) (k := 29) (i := 0) (t0 := 0) (N := 4) (a0 := (4, .inl fun _ => 0)) wq_61 rfl dX0_init_27 (by decide) (by decide) (by decide) (fun _ => rfl) (by decide) rfl (by omega) (by omega) ?_
  refine zn_putF C (by decide +kernel) 3 zin_X0 rfl (Nat.le_of_ble_eq_true rfl) rfl rfl tyX0_ok nmX0 rfl (ty := tyX0 3) (by decide +kernel) wq_175 dX0_init_29 (zDu_o (by decide) (zDu_i _ _ _ _)) (Nat.le_of_ble_eq_true rfl) rfl rfl ?_
  exact kk
def fX0_5 (Z : zLay) : List Value := [.ref (zad Z 26 0), .ref (zad Z 27 0), .ref (zad Z 28 0), .ref (zad Z 29 0), .int 0, .ref (zad Z 30 0), .null, .null, .null, .null, .null, .null]
def eX0_5 (Z : zLay) (D : zDm) : zDm := (zDu (zDu (eX0_4 Z D) 25 0 (.inr (0, fX0_4 Z))) 30 0 (.inl (zca Z 0, 30, .inl fun _ => 0)))
theorem sX0_32 (C : zCN E cX0_init RX0 1 Z h n0 c0 15 227) (hh : 1 ≤ h) (hc : c0 = 259) (kk : zNN E 1 Z n0 Q 40 [(0, .ref (zad Z 25 0))] [] (zDu (eX0_5 Z D) 25 0 (.inr (0, fX0_5 Z))) 5 46) : zNN E 1 Z n0 Q 32 [(0, .ref (zad Z 25 0))] [] (zDu (eX0_4 Z D) 25 0 (.inr (0, fX0_4 Z))) 4 16 := by
  subst hc
  refine zn_aload_n C dX0_init_32 rfl ?_
  refine zn_bipush C dX0_init_33 (v := 30) (by decide) ?_
  refine zn_newa C (atype := .int) (k := 30) (i := 0) (t0 := 0) (N := 30) (a0 := (30, .inl fun _ => 0)) wq_61 rfl dX0_init_35 (by decide) (by decide) (by decide) (fun _ => rfl) (by decide) rfl (by omega) (by omega) ?_
  refine zn_putF C (by decide +kernel) 5 zin_X0 rfl (Nat.le_of_ble_eq_true rfl) rfl rfl tyX0_ok nmX0 rfl (ty := tyX0 5) (by decide +kernel) wq_179 dX0_init_37 (zDu_o (by decide) (zDu_i _ _ _ _)) (Nat.le_of_ble_eq_true rfl) rfl rfl ?_
  exact kk
def fX0_6 (Z : zLay) : List Value := [.ref (zad Z 26 0), .ref (zad Z 27 0), .ref (zad Z 28 0), .ref (zad Z 29 0), .int 0, .ref (zad Z 30 0), .ref (zad Z 31 0), .null, .null, .null, .null, .null]
def eX0_6 (Z : zLay) (D : zDm) : zDm := (zDu (zDu (eX0_5 Z D) 25 0 (.inr (0, fX0_5 Z))) 31 0 (.inl (zca Z 0, 30, .inl fun _ => 0)))
theorem sX0_40 (C : zCN E cX0_init RX0 1 Z h n0 c0 15 227) (hh : 1 ≤ h) (hc : c0 = 259) (kk : zNN E 1 Z n0 Q 48 [(0, .ref (zad Z 25 0))] [] (zDu (eX0_6 Z D) 25 0 (.inr (0, fX0_6 Z))) 6 76) : zNN E 1 Z n0 Q 40 [(0, .ref (zad Z 25 0))] [] (zDu (eX0_5 Z D) 25 0 (.inr (0, fX0_5 Z))) 5 46 := by
  subst hc
  refine zn_aload_n C dX0_init_40 rfl ?_
  refine zn_bipush C dX0_init_41 (v := 30) (by decide) ?_
  refine zn_newa C (atype := .int) (k := 31) (i := 0) (t0 := 0) (N := 30) (a0 := (30, .inl fun _ => 0)) wq_61 rfl dX0_init_43 (by decide) (by decide) (by decide) (fun _ => rfl) (by decide) rfl (by omega) (by omega) ?_
  refine zn_putF C (by decide +kernel) 6 zin_X0 rfl (Nat.le_of_ble_eq_true rfl) rfl rfl tyX0_ok nmX0 rfl (ty := tyX0 6) (by decide +kernel) wq_181 dX0_init_45 (zDu_o (by decide) (zDu_i _ _ _ _)) (Nat.le_of_ble_eq_true rfl) rfl rfl ?_
  exact kk
def fX0_7 (Z : zLay) : List Value := [.ref (zad Z 26 0), .ref (zad Z 27 0), .ref (zad Z 28 0), .ref (zad Z 29 0), .int 0, .ref (zad Z 30 0), .ref (zad Z 31 0), .ref (zad Z 32 0), .null, .null, .null, .null]
def eX0_7 (Z : zLay) (D : zDm) : zDm := (zDu (zDu (eX0_6 Z D) 25 0 (.inr (0, fX0_6 Z))) 32 0 (.inl (zca Z 0, 5, .inl fun _ => 0)))
theorem sX0_48 (C : zCN E cX0_init RX0 1 Z h n0 c0 15 227) (hh : 1 ≤ h) (hc : c0 = 259) (kk : zNN E 1 Z n0 Q 55 [(0, .ref (zad Z 25 0))] [] (zDu (eX0_7 Z D) 25 0 (.inr (0, fX0_7 Z))) 7 81) : zNN E 1 Z n0 Q 48 [(0, .ref (zad Z 25 0))] [] (zDu (eX0_6 Z D) 25 0 (.inr (0, fX0_6 Z))) 6 76 := by
  subst hc
  refine zn_aload_n C dX0_init_48 rfl ?_
  refine zn_iconst C dX0_init_49 (v := 5) (by decide) ?_
  refine zn_newa C (atype := .int) (k := 32) (i := 0) (t0 := 0) (N := 5) (a0 := (5, .inl fun _ => 0)) wq_61 rfl dX0_init_50 (by decide) (by decide) (by decide) (fun _ => rfl) (by decide) rfl (by omega) (by omega) ?_
  refine zn_putF C (by decide +kernel) 7 zin_X0 rfl (Nat.le_of_ble_eq_true rfl) rfl rfl tyX0_ok nmX0 rfl (ty := tyX0 7) (by decide +kernel) wq_183 dX0_init_52 (zDu_o (by decide) (zDu_i _ _ _ _)) (Nat.le_of_ble_eq_true rfl) rfl rfl ?_
  exact kk
def fX0_8 (Z : zLay) : List Value := [.ref (zad Z 26 0), .ref (zad Z 27 0), .ref (zad Z 28 0), .ref (zad Z 29 0), .int 0, .ref (zad Z 30 0), .ref (zad Z 31 0), .ref (zad Z 32 0), .ref (zad Z 33 0), .null, .null, .null]
def eX0_8 (Z : zLay) (D : zDm) : zDm := (zDr (zDu (zDu (eX0_7 Z D) 25 0 (.inr (0, fX0_7 Z))) 33 0 (.inl (zca Z 9, 4, .inr (.inr (.inr (.inr (fun i => if i < 4 then some (zad Z 34 i) else none))))))) 34 4 (.inl (zca Z 0, (32, .inl fun _ => 0))))
theorem sX0_55 (C : zCN E cX0_init RX0 1 Z h n0 c0 15 227) (hh : 1 ≤ h) (hc : c0 = 259) (kk : zNN E 1 Z n0 Q 66 [(0, .ref (zad Z 25 0))] [] (zDu (eX0_8 Z D) 25 0 (.inr (0, fX0_8 Z))) 12 213) : zNN E 1 Z n0 Q 55 [(0, .ref (zad Z 25 0))] [] (zDu (eX0_7 Z D) 25 0 (.inr (0, fX0_7 Z))) 7 81 := by
  subst hc
  refine zn_aload_n C dX0_init_55 rfl ?_
  refine zn_iconst C dX0_init_56 (v := 4) (by decide) ?_
  refine zn_bipush C dX0_init_57 (v := 32) (by decide) ?_
  refine zn_mna C (ty := .int) (N := 4) (M := 32) (t0 := 9) (t1 := 0) (k := 33) (k1 := 34) (a0 := (32, .inl fun _ => 0)) wq_168 (by unfold zOvL; simp) wq_61 rfl rfl (fun _ _ q => q) dX0_init_59 (by decide) (by decide) (by decide) (by decide) (by decide) (by decide) (by decide) rfl rfl (fun _ => rfl) (by decide) (by decide) rfl (fun j _ => by show 267 + 1 * j = 259 + 7 + 1 + j; omega) (by omega) (by omega) ?_
  refine zn_putF C (by decide +kernel) 8 zin_X0 rfl (Nat.le_of_ble_eq_true rfl) rfl rfl tyX0_ok nmX0 rfl (ty := tyX0 8) (by decide +kernel) wq_185 dX0_init_63 (zDr_o (by decide) (zDu_o (by decide) (zDu_i _ _ _ _))) (Nat.le_of_ble_eq_true rfl) rfl rfl ?_
  exact kk
def fX0_9 (Z : zLay) : List Value := [.ref (zad Z 26 0), .ref (zad Z 27 0), .ref (zad Z 28 0), .ref (zad Z 29 0), .int 0, .ref (zad Z 30 0), .ref (zad Z 31 0), .ref (zad Z 32 0), .ref (zad Z 33 0), .ref (zad Z 35 0), .null, .null]
def eX0_9 (Z : zLay) (D : zDm) : zDm := (zDu (zDu (eX0_8 Z D) 25 0 (.inr (0, fX0_8 Z))) 35 0 (.inl (zca Z 0, 5, .inl fun _ => 0)))
theorem sX0_66 (C : zCN E cX0_init RX0 1 Z h n0 c0 15 227) (hh : 1 ≤ h) (hc : c0 = 259) (kk : zNN E 1 Z n0 Q 73 [(0, .ref (zad Z 25 0))] [] (zDu (eX0_9 Z D) 25 0 (.inr (0, fX0_9 Z))) 13 218) : zNN E 1 Z n0 Q 66 [(0, .ref (zad Z 25 0))] [] (zDu (eX0_8 Z D) 25 0 (.inr (0, fX0_8 Z))) 12 213 := by
  subst hc
  refine zn_aload_n C dX0_init_66 rfl ?_
  refine zn_iconst C dX0_init_67 (v := 5) (by decide) ?_
  refine zn_newa C (atype := .int) (k := 35) (i := 0) (t0 := 0) (N := 5) (a0 := (5, .inl fun _ => 0)) wq_61 rfl dX0_init_68 (by decide) (by decide) (by decide) (fun _ => rfl) (by decide) rfl (by omega) (by omega) ?_
  refine zn_putF C (by decide +kernel) 9 zin_X0 rfl (Nat.le_of_ble_eq_true rfl) rfl rfl tyX0_ok nmX0 rfl (ty := tyX0 9) (by decide +kernel) wq_187 dX0_init_70 (zDu_o (by decide) (zDu_i _ _ _ _)) (Nat.le_of_ble_eq_true rfl) rfl rfl ?_
  exact kk
def fX0_10 (Z : zLay) : List Value := [.ref (zad Z 26 0), .ref (zad Z 27 0), .ref (zad Z 28 0), .ref (zad Z 29 0), .int 0, .ref (zad Z 30 0), .ref (zad Z 31 0), .ref (zad Z 32 0), .ref (zad Z 33 0), .ref (zad Z 35 0), .ref (zad Z 36 0), .null]
def eX0_10 (Z : zLay) (D : zDm) : zDm := (zDu (zDu (eX0_9 Z D) 25 0 (.inr (0, fX0_9 Z))) 36 0 (.inl (zca Z 0, 4, .inl fun _ => 0)))
theorem sX0_73 (C : zCN E cX0_init RX0 1 Z h n0 c0 15 227) (hh : 1 ≤ h) (hc : c0 = 259) (kk : zNN E 1 Z n0 Q 80 [(0, .ref (zad Z 25 0))] [] (zDu (eX0_10 Z D) 25 0 (.inr (0, fX0_10 Z))) 14 222) : zNN E 1 Z n0 Q 73 [(0, .ref (zad Z 25 0))] [] (zDu (eX0_9 Z D) 25 0 (.inr (0, fX0_9 Z))) 13 218 := by
  subst hc
  refine zn_aload_n C dX0_init_73 rfl ?_
  refine zn_iconst C dX0_init_74 (v := 4) (by decide) ?_
  refine zn_newa C (atype := .int) (k := 36) (i := 0) (t0 := 0) (N := 4) (a0 := (4, .inl fun _ => 0)) wq_61 rfl dX0_init_75 (by decide) (by decide) (by decide) (fun _ => rfl) (by decide) rfl (by omega) (by omega) ?_
  refine zn_putF C (by decide +kernel) 10 zin_X0 rfl (Nat.le_of_ble_eq_true rfl) rfl rfl tyX0_ok nmX0 rfl (ty := tyX0 10) (by decide +kernel) wq_188 dX0_init_77 (zDu_o (by decide) (zDu_i _ _ _ _)) (Nat.le_of_ble_eq_true rfl) rfl rfl ?_
  exact kk
def fX0_11 (Z : zLay) : List Value := [.ref (zad Z 26 0), .ref (zad Z 27 0), .ref (zad Z 28 0), .ref (zad Z 29 0), .int 0, .ref (zad Z 30 0), .ref (zad Z 31 0), .ref (zad Z 32 0), .ref (zad Z 33 0), .ref (zad Z 35 0), .ref (zad Z 36 0), .ref (zad Z 37 0)]
def eX0_11 (Z : zLay) (D : zDm) : zDm := (zDu (zDu (eX0_10 Z D) 25 0 (.inr (0, fX0_10 Z))) 37 0 (.inl (zca Z 0, 5, .inl fun _ => 0)))
theorem sX0_80 (C : zCN E cX0_init RX0 1 Z h n0 c0 15 227) (hh : 1 ≤ h) (hc : c0 = 259) (kk : zNN E 1 Z n0 Q 87 [(0, .ref (zad Z 25 0))] [] (zDu (eX0_11 Z D) 25 0 (.inr (0, fX0_11 Z))) 15 227) : zNN E 1 Z n0 Q 80 [(0, .ref (zad Z 25 0))] [] (zDu (eX0_10 Z D) 25 0 (.inr (0, fX0_10 Z))) 14 222 := by
  subst hc
  refine zn_aload_n C dX0_init_80 rfl ?_
  refine zn_iconst C dX0_init_81 (v := 5) (by decide) ?_
  refine zn_newa C (atype := .int) (k := 37) (i := 0) (t0 := 0) (N := 5) (a0 := (5, .inl fun _ => 0)) wq_61 rfl dX0_init_82 (by decide) (by decide) (by decide) (fun _ => rfl) (by decide) rfl (by omega) (by omega) ?_
  refine zn_putF C (by decide +kernel) 11 zin_X0 rfl (Nat.le_of_ble_eq_true rfl) rfl rfl tyX0_ok nmX0 rfl (ty := tyX0 11) (by decide +kernel) wq_189 dX0_init_84 (zDu_o (by decide) (zDu_i _ _ _ _)) (Nat.le_of_ble_eq_true rfl) rfl rfl ?_
  exact kk
def gX0 (Z : zLay) (D : zDm) : zDm := (zDu (eX0_11 Z D) 25 0 (.inr (0, fX0_11 Z)))
theorem eX0_0_o {a b : Nat} {y : va_E} (h : D a b = some y) : eX0_0 Z D a b = some y := h
theorem eX0_1_o {a b : Nat} {y : va_E} (w : a < 25 ∨ 37 < a) (h : D a b = some y) : eX0_1 Z D a b = some y := zDu_o (by omega) (zDu_o (by omega) (eX0_0_o h))
theorem eX0_2_o {a b : Nat} {y : va_E} (w : a < 25 ∨ 37 < a) (h : D a b = some y) : eX0_2 Z D a b = some y := zDu_o (by omega) (zDu_o (by omega) (eX0_1_o w h))
theorem eX0_3_o {a b : Nat} {y : va_E} (w : a < 25 ∨ 37 < a) (h : D a b = some y) : eX0_3 Z D a b = some y := zDu_o (by omega) (zDu_o (by omega) (eX0_2_o w h))
theorem eX0_4_o {a b : Nat} {y : va_E} (w : a < 25 ∨ 37 < a) (h : D a b = some y) : eX0_4 Z D a b = some y := zDu_o (by omega) (zDu_o (by omega) (eX0_3_o w h))
theorem eX0_5_o {a b : Nat} {y : va_E} (w : a < 25 ∨ 37 < a) (h : D a b = some y) : eX0_5 Z D a b = some y := zDu_o (by omega) (zDu_o (by omega) (eX0_4_o w h))
theorem eX0_6_o {a b : Nat} {y : va_E} (w : a < 25 ∨ 37 < a) (h : D a b = some y) : eX0_6 Z D a b = some y := zDu_o (by omega) (zDu_o (by omega) (eX0_5_o w h))
theorem eX0_7_o {a b : Nat} {y : va_E} (w : a < 25 ∨ 37 < a) (h : D a b = some y) : eX0_7 Z D a b = some y := zDu_o (by omega) (zDu_o (by omega) (eX0_6_o w h))
theorem eX0_8_o {a b : Nat} {y : va_E} (w : a < 25 ∨ 37 < a) (h : D a b = some y) : eX0_8 Z D a b = some y := zDr_o (by omega) (zDu_o (by omega) (zDu_o (by omega) (eX0_7_o w h)))
theorem eX0_9_o {a b : Nat} {y : va_E} (w : a < 25 ∨ 37 < a) (h : D a b = some y) : eX0_9 Z D a b = some y := zDu_o (by omega) (zDu_o (by omega) (eX0_8_o w h))
theorem eX0_10_o {a b : Nat} {y : va_E} (w : a < 25 ∨ 37 < a) (h : D a b = some y) : eX0_10 Z D a b = some y := zDu_o (by omega) (zDu_o (by omega) (eX0_9_o w h))
theorem eX0_11_o {a b : Nat} {y : va_E} (w : a < 25 ∨ 37 < a) (h : D a b = some y) : eX0_11 Z D a b = some y := zDu_o (by omega) (zDu_o (by omega) (eX0_10_o w h))
theorem gX0_o {a b : Nat} {y : va_E} (w : a < 25 ∨ 37 < a) (h : D a b = some y) : gX0 Z D a b = some y := zDu_o (by omega) (eX0_11_o w h)
theorem mX0 {l : Launch} (hc : c0 = 259) : zMetN l yX0_init cX0_init 1 1 Z n0 c0 15 227 [.ref (zad Z 25 0)] (zDu D 25 0 (.inr (0, fX0_0))) (gX0 Z D) :=
  zMetN_of (by decide +kernel) rfl (Nat.le_of_ble_eq_true rfl) [(0, .ref (zad Z 25 0))] rfl fun E h1 h2 C => sX0_0 C (Nat.le_refl _) hc (sX0_4 C (Nat.le_refl _) hc (sX0_11 C (Nat.le_refl _) hc (sX0_18 C (Nat.le_refl _) hc (sX0_25 C (Nat.le_refl _) hc (sX0_32 C (Nat.le_refl _) hc (sX0_40 C (Nat.le_refl _) hc (sX0_48 C (Nat.le_refl _) hc (sX0_55 C (Nat.le_refl _) hc (sX0_66 C (Nat.le_refl _) hc (sX0_73 C (Nat.le_refl _) hc (sX0_80 C (Nat.le_refl _) hc (zn_ret C (by decide +kernel) h1 h2 rfl (Nat.le_refl _) dX0_init_87))))))))))))
end YX0
theorem wq_286 : Cond.methodLink "AlpCommune$Channel" (3 : Nat) ({ cls := "java/lang/Object", name := "<init>", desc := "()V" } : MethodName) ∈ zTB := zTB_mem 413 (by decide +kernel) (by decide +kernel)
theorem wq_287 : Cond.fieldLink "AlpCommune$Channel" (9 : Nat) "AlpCommune$Channel" "house" "[I" ∈ zTB := zTB_mem 414 (by decide +kernel) (by decide +kernel)
theorem wq_289 : Cond.fieldLink "AlpCommune$Channel" (15 : Nat) "AlpCommune$Channel" "leak" "[I" ∈ zTB := zTB_mem 416 (by decide +kernel) (by decide +kernel)
section YX1
variable {E : zEn} {nL h n0 c0 mc ms : Nat} {Z : zLay} {D : zDm} {Q : State → Prop}
def fX1_0 : List Value := [.null, .null, .int 0]
theorem nfX1 : ∀ j, j < 3 → defaultValue (tyX1 j) = vp_V fX1_0 j := by decide +kernel
def eX1_0 (Z : zLay) (D : zDm) : zDm := D
theorem sX1_0 (C : zCN E cX1_init RX1 1 Z h n0 c0 2 20) (hh : 1 ≤ h) (hc : c0 = 295) (kk : zNN E 1 Z n0 Q 4 [(0, .ref (zad Z 43 0))] [] (zDu (eX1_0 Z D) 43 0 (.inr (1, fX1_0))) 0 0) : zNN E 1 Z n0 Q 0 [(0, .ref (zad Z 43 0))] [] (zDu (eX1_0 Z D) 43 0 (.inr (1, fX1_0))) 0 0 := by
  subst hc
  refine zn_aload_n C dX1_init_0 rfl ?_
  refine zn_obj C wq_286 wq_26 wq_27 dX1_init_1 (by omega) (Nat.le_of_ble_eq_true rfl) ?_
  exact kk
def fX1_1 (Z : zLay) : List Value := [.ref (zad Z 44 0), .null, .int 0]
def eX1_1 (Z : zLay) (D : zDm) : zDm := (zDu (zDu (eX1_0 Z D) 43 0 (.inr (1, fX1_0))) 44 0 (.inl (zca Z 0, 10, .inl fun _ => 0)))
theorem sX1_4 (C : zCN E cX1_init RX1 1 Z h n0 c0 2 20) (hh : 1 ≤ h) (hc : c0 = 295) (kk : zNN E 1 Z n0 Q 12 [(0, .ref (zad Z 43 0))] [] (zDu (eX1_1 Z D) 43 0 (.inr (1, fX1_1 Z))) 1 10) : zNN E 1 Z n0 Q 4 [(0, .ref (zad Z 43 0))] [] (zDu (eX1_0 Z D) 43 0 (.inr (1, fX1_0))) 0 0 := by
  subst hc
  refine zn_aload_n C dX1_init_4 rfl ?_
  refine zn_bipush C dX1_init_5 (v := 10) (by decide) ?_
  refine zn_newa C (atype := .int) (k := 44) (i := 0) (t0 := 0) (N := 10) (a0 := (10, .inl fun _ => 0)) wq_61 rfl dX1_init_7 (by decide) (by decide) (by decide) (fun _ => rfl) (by decide) rfl (by omega) (by omega) ?_
  refine zn_putF C (by decide +kernel) 0 zin_X1 rfl (Nat.le_of_ble_eq_true rfl) rfl rfl tyX1_ok nmX1 rfl (ty := tyX1 0) (by decide +kernel) wq_287 dX1_init_9 (zDu_o (by decide) (zDu_i _ _ _ _)) (Nat.le_of_ble_eq_true rfl) rfl rfl ?_
  exact kk
def fX1_2 (Z : zLay) : List Value := [.ref (zad Z 44 0), .ref (zad Z 45 0), .int 0]
def eX1_2 (Z : zLay) (D : zDm) : zDm := (zDu (zDu (eX1_1 Z D) 43 0 (.inr (1, fX1_1 Z))) 45 0 (.inl (zca Z 0, 10, .inl fun _ => 0)))
theorem sX1_12 (C : zCN E cX1_init RX1 1 Z h n0 c0 2 20) (hh : 1 ≤ h) (hc : c0 = 295) (kk : zNN E 1 Z n0 Q 20 [(0, .ref (zad Z 43 0))] [] (zDu (eX1_2 Z D) 43 0 (.inr (1, fX1_2 Z))) 2 20) : zNN E 1 Z n0 Q 12 [(0, .ref (zad Z 43 0))] [] (zDu (eX1_1 Z D) 43 0 (.inr (1, fX1_1 Z))) 1 10 := by
  subst hc
  refine zn_aload_n C dX1_init_12 rfl ?_
  refine zn_bipush C dX1_init_13 (v := 10) (by decide) ?_
  refine zn_newa C (atype := .int) (k := 45) (i := 0) (t0 := 0) (N := 10) (a0 := (10, .inl fun _ => 0)) wq_61 rfl dX1_init_15 (by decide) (by decide) (by decide) (fun _ => rfl) (by decide) rfl (by omega) (by omega) ?_
  refine zn_putF C (by decide +kernel) 1 zin_X1 rfl (Nat.le_of_ble_eq_true rfl) rfl rfl tyX1_ok nmX1 rfl (ty := tyX1 1) (by decide +kernel) wq_289 dX1_init_17 (zDu_o (by decide) (zDu_i _ _ _ _)) (Nat.le_of_ble_eq_true rfl) rfl rfl ?_
  exact kk
def gX1 (Z : zLay) (D : zDm) : zDm := (zDu (eX1_2 Z D) 43 0 (.inr (1, fX1_2 Z)))
theorem eX1_0_o {a b : Nat} {y : va_E} (h : D a b = some y) : eX1_0 Z D a b = some y := h
theorem eX1_1_o {a b : Nat} {y : va_E} (w : a < 43 ∨ 45 < a) (h : D a b = some y) : eX1_1 Z D a b = some y := zDu_o (by omega) (zDu_o (by omega) (eX1_0_o h))
theorem eX1_2_o {a b : Nat} {y : va_E} (w : a < 43 ∨ 45 < a) (h : D a b = some y) : eX1_2 Z D a b = some y := zDu_o (by omega) (zDu_o (by omega) (eX1_1_o w h))
theorem gX1_o {a b : Nat} {y : va_E} (w : a < 43 ∨ 45 < a) (h : D a b = some y) : gX1 Z D a b = some y := zDu_o (by omega) (eX1_2_o w h)
theorem mX1 {l : Launch} (hc : c0 = 295) : zMetN l yX1_init cX1_init 1 1 Z n0 c0 2 20 [.ref (zad Z 43 0)] (zDu D 43 0 (.inr (1, fX1_0))) (gX1 Z D) :=
  zMetN_of (by decide +kernel) rfl (Nat.le_of_ble_eq_true rfl) [(0, .ref (zad Z 43 0))] rfl fun E h1 h2 C => sX1_0 C (Nat.le_refl _) hc (sX1_4 C (Nat.le_refl _) hc (sX1_12 C (Nat.le_refl _) hc (zn_ret C (by decide +kernel) h1 h2 rfl (Nat.le_refl _) dX1_init_20)))
end YX1
theorem wq_307 : Cond.methodLink "AlpCommune$House" (3 : Nat) ({ cls := "java/lang/Object", name := "<init>", desc := "()V" } : MethodName) ∈ zTB := zTB_mem 434 (by decide +kernel) (by decide +kernel)
theorem wq_308 : Cond.fieldLink "AlpCommune$House" (9 : Nat) "AlpCommune$House" "has" "[I" ∈ zTB := zTB_mem 435 (by decide +kernel) (by decide +kernel)
theorem wq_311 : Cond.fieldLink "AlpCommune$House" (15 : Nat) "AlpCommune$House" "up" "[I" ∈ zTB := zTB_mem 438 (by decide +kernel) (by decide +kernel)
section YX2
variable {E : zEn} {nL h n0 c0 mc ms : Nat} {Z : zLay} {D : zDm} {Q : State → Prop}
def fX2_0 : List Value := [.null, .null, .int 0, .int 0, .int 0, .int 0, .int 0, .int 0, .int 0, .int 0, .int 0, .int 0]
theorem nfX2 : ∀ j, j < 12 → defaultValue (tyX2 j) = vp_V fX2_0 j := by decide +kernel
def eX2_0 (Z : zLay) (i : Nat) (D : zDm) : zDm := D
theorem sX2_0 (C : zCN E cX2_init RX2 1 Z h n0 c0 2 8) (hh : 1 ≤ h) {i : Nat} (hi : i < 10) (hc : c0 = 308 + 3 * i) (kk : zNN E 1 Z n0 Q 4 [(0, .ref (zad Z 2 i))] [] (zDu (eX2_0 Z i D) 2 i (.inr (2, fX2_0))) 0 0) : zNN E 1 Z n0 Q 0 [(0, .ref (zad Z 2 i))] [] (zDu (eX2_0 Z i D) 2 i (.inr (2, fX2_0))) 0 0 := by
  subst hc
  refine zn_aload_n C dX2_init_0 rfl ?_
  refine zn_obj C wq_307 wq_26 wq_27 dX2_init_1 (by omega) (Nat.le_of_ble_eq_true rfl) ?_
  exact kk
def fX2_1 (Z : zLay) (i : Nat) : List Value := [.ref (zad Z 3 i), .null, .int 0, .int 0, .int 0, .int 0, .int 0, .int 0, .int 0, .int 0, .int 0, .int 0]
def eX2_1 (Z : zLay) (i : Nat) (D : zDm) : zDm := (zDu (zDu (eX2_0 Z i D) 2 i (.inr (2, fX2_0))) 3 i (.inl (zca Z 0, 4, .inl fun _ => 0)))
theorem sX2_4 (C : zCN E cX2_init RX2 1 Z h n0 c0 2 8) (hh : 1 ≤ h) {i : Nat} (hi : i < 10) (hc : c0 = 308 + 3 * i) (kk : zNN E 1 Z n0 Q 11 [(0, .ref (zad Z 2 i))] [] (zDu (eX2_1 Z i D) 2 i (.inr (2, fX2_1 Z i))) 1 4) : zNN E 1 Z n0 Q 4 [(0, .ref (zad Z 2 i))] [] (zDu (eX2_0 Z i D) 2 i (.inr (2, fX2_0))) 0 0 := by
  subst hc
  refine zn_aload_n C dX2_init_4 rfl ?_
  refine zn_iconst C dX2_init_5 (v := 4) (by decide) ?_
  refine zn_newa C (atype := .int) (k := 3) (i := i) (t0 := 0) (N := 4) (a0 := (4, .inl fun _ => 0)) wq_61 rfl dX2_init_6 (by decide) (by decide) (by decide) (fun _ => rfl) hi (by show 308 + 3 * i = 308 + 3 * i + 0; omega) (by omega) (by omega) ?_
  refine zn_putF C (by decide +kernel) 0 zin_X2 rfl (Nat.le_of_ble_eq_true rfl) rfl rfl tyX2_ok nmX2 rfl (ty := tyX2 0) (by decide +kernel) wq_308 dX2_init_8 (zDu_o (by decide) (zDu_i _ _ _ _)) (Nat.le_of_ble_eq_true rfl) rfl rfl ?_
  exact kk
def fX2_2 (Z : zLay) (i : Nat) : List Value := [.ref (zad Z 3 i), .ref (zad Z 4 i), .int 0, .int 0, .int 0, .int 0, .int 0, .int 0, .int 0, .int 0, .int 0, .int 0]
def eX2_2 (Z : zLay) (i : Nat) (D : zDm) : zDm := (zDu (zDu (eX2_1 Z i D) 2 i (.inr (2, fX2_1 Z i))) 4 i (.inl (zca Z 0, 4, .inl fun _ => 0)))
theorem sX2_11 (C : zCN E cX2_init RX2 1 Z h n0 c0 2 8) (hh : 1 ≤ h) {i : Nat} (hi : i < 10) (hc : c0 = 308 + 3 * i) (kk : zNN E 1 Z n0 Q 18 [(0, .ref (zad Z 2 i))] [] (zDu (eX2_2 Z i D) 2 i (.inr (2, fX2_2 Z i))) 2 8) : zNN E 1 Z n0 Q 11 [(0, .ref (zad Z 2 i))] [] (zDu (eX2_1 Z i D) 2 i (.inr (2, fX2_1 Z i))) 1 4 := by
  subst hc
  refine zn_aload_n C dX2_init_11 rfl ?_
  refine zn_iconst C dX2_init_12 (v := 4) (by decide) ?_
  refine zn_newa C (atype := .int) (k := 4) (i := i) (t0 := 0) (N := 4) (a0 := (4, .inl fun _ => 0)) wq_61 rfl dX2_init_13 (by decide) (by decide) (by decide) (fun _ => rfl) hi (by show 309 + 3 * i = 308 + 3 * i + 1; omega) (by omega) (by omega) ?_
  refine zn_putF C (by decide +kernel) 1 zin_X2 rfl (Nat.le_of_ble_eq_true rfl) rfl rfl tyX2_ok nmX2 rfl (ty := tyX2 1) (by decide +kernel) wq_311 dX2_init_15 (zDu_o (by decide) (zDu_i _ _ _ _)) (Nat.le_of_ble_eq_true rfl) rfl rfl ?_
  exact kk
def gX2 (Z : zLay) (i : Nat) (D : zDm) : zDm := (zDu (eX2_2 Z i D) 2 i (.inr (2, fX2_2 Z i)))
theorem eX2_0_o {i : Nat} {a b : Nat} {y : va_E} (h : D a b = some y) : eX2_0 Z i D a b = some y := h
theorem eX2_1_o {i : Nat} {a b : Nat} {y : va_E} (w : a < 2 ∨ 4 < a) (h : D a b = some y) : eX2_1 Z i D a b = some y := zDu_o (by omega) (zDu_o (by omega) (eX2_0_o h))
theorem eX2_2_o {i : Nat} {a b : Nat} {y : va_E} (w : a < 2 ∨ 4 < a) (h : D a b = some y) : eX2_2 Z i D a b = some y := zDu_o (by omega) (zDu_o (by omega) (eX2_1_o w h))
theorem gX2_o {i : Nat} {a b : Nat} {y : va_E} (w : a < 2 ∨ 4 < a) (h : D a b = some y) : gX2 Z i D a b = some y := zDu_o (by omega) (eX2_2_o w h)
theorem mX2 {l : Launch} {i : Nat} (hi : i < 10) (hc : c0 = 308 + 3 * i) : zMetN l yX2_init cX2_init 1 1 Z n0 c0 2 8 [.ref (zad Z 2 i)] (zDu D 2 i (.inr (2, fX2_0))) (gX2 Z i D) :=
  zMetN_of (by decide +kernel) rfl (Nat.le_of_ble_eq_true rfl) [(0, .ref (zad Z 2 i))] rfl fun E h1 h2 C => sX2_0 C (Nat.le_refl _) hi hc (sX2_4 C (Nat.le_refl _) hi hc (sX2_11 C (Nat.le_refl _) hi hc (zn_ret C (by decide +kernel) h1 h2 rfl (Nat.le_refl _) dX2_init_18)))
end YX2
theorem wq_35 : Cond.methodLink "AlpCommune$Rights" (3 : Nat) ({ cls := "java/lang/Object", name := "<init>", desc := "()V" } : MethodName) ∈ zTB := zTB_mem 162 (by decide +kernel) (by decide +kernel)
theorem wq_36 : Cond.fieldLink "AlpCommune$Rights" (9 : Nat) "AlpCommune$Rights" "kind" "[I" ∈ zTB := zTB_mem 163 (by decide +kernel) (by decide +kernel)
theorem wq_38 : Cond.fieldLink "AlpCommune$Rights" (15 : Nat) "AlpCommune$Rights" "owner" "[I" ∈ zTB := zTB_mem 165 (by decide +kernel) (by decide +kernel)
theorem wq_40 : Cond.fieldLink "AlpCommune$Rights" (18 : Nat) "AlpCommune$Rights" "parts" "[I" ∈ zTB := zTB_mem 167 (by decide +kernel) (by decide +kernel)
theorem wq_42 : Cond.fieldLink "AlpCommune$Rights" (21 : Nat) "AlpCommune$Rights" "lentTo" "[I" ∈ zTB := zTB_mem 169 (by decide +kernel) (by decide +kernel)
theorem wq_44 : Cond.fieldLink "AlpCommune$Rights" (24 : Nat) "AlpCommune$Rights" "lentTill" "[I" ∈ zTB := zTB_mem 171 (by decide +kernel) (by decide +kernel)
section YX3
variable {E : zEn} {nL h n0 c0 mc ms : Nat} {Z : zLay} {D : zDm} {Q : State → Prop}
def fX3_0 : List Value := [.null, .null, .null, .null, .null, .int 0]
theorem nfX3 : ∀ j, j < 6 → defaultValue (tyX3 j) = vp_V fX3_0 j := by decide +kernel
def eX3_0 (Z : zLay) (D : zDm) : zDm := D
theorem sX3_0 (C : zCN E cX3_init RX3 1 Z h n0 c0 5 250) (hh : 1 ≤ h) (hc : c0 = 3) (kk : zNN E 1 Z n0 Q 4 [(0, .ref (zad Z 5 0))] [] (zDu (eX3_0 Z D) 5 0 (.inr (3, fX3_0))) 0 0) : zNN E 1 Z n0 Q 0 [(0, .ref (zad Z 5 0))] [] (zDu (eX3_0 Z D) 5 0 (.inr (3, fX3_0))) 0 0 := by
  subst hc
  refine zn_aload_n C dX3_init_0 rfl ?_
  refine zn_obj C wq_35 wq_26 wq_27 dX3_init_1 (by omega) (Nat.le_of_ble_eq_true rfl) ?_
  exact kk
def fX3_1 (Z : zLay) : List Value := [.ref (zad Z 6 0), .null, .null, .null, .null, .int 0]
def eX3_1 (Z : zLay) (D : zDm) : zDm := (zDu (zDu (eX3_0 Z D) 5 0 (.inr (3, fX3_0))) 6 0 (.inl (zca Z 0, 50, .inl fun _ => 0)))
theorem sX3_4 (C : zCN E cX3_init RX3 1 Z h n0 c0 5 250) (hh : 1 ≤ h) (hc : c0 = 3) (kk : zNN E 1 Z n0 Q 12 [(0, .ref (zad Z 5 0))] [] (zDu (eX3_1 Z D) 5 0 (.inr (3, fX3_1 Z))) 1 50) : zNN E 1 Z n0 Q 4 [(0, .ref (zad Z 5 0))] [] (zDu (eX3_0 Z D) 5 0 (.inr (3, fX3_0))) 0 0 := by
  subst hc
  refine zn_aload_n C dX3_init_4 rfl ?_
  refine zn_bipush C dX3_init_5 (v := 50) (by decide) ?_
  refine zn_newa C (atype := .int) (k := 6) (i := 0) (t0 := 0) (N := 50) (a0 := (50, .inl fun _ => 0)) wq_61 rfl dX3_init_7 (by decide) (by decide) (by decide) (fun _ => rfl) (by decide) rfl (by omega) (by omega) ?_
  refine zn_putF C (by decide +kernel) 0 zin_X3 rfl (Nat.le_of_ble_eq_true rfl) rfl rfl tyX3_ok nmX3 rfl (ty := tyX3 0) (by decide +kernel) wq_36 dX3_init_9 (zDu_o (by decide) (zDu_i _ _ _ _)) (Nat.le_of_ble_eq_true rfl) rfl rfl ?_
  exact kk
def fX3_2 (Z : zLay) : List Value := [.ref (zad Z 6 0), .ref (zad Z 7 0), .null, .null, .null, .int 0]
def eX3_2 (Z : zLay) (D : zDm) : zDm := (zDu (zDu (eX3_1 Z D) 5 0 (.inr (3, fX3_1 Z))) 7 0 (.inl (zca Z 0, 50, .inl fun _ => 0)))
theorem sX3_12 (C : zCN E cX3_init RX3 1 Z h n0 c0 5 250) (hh : 1 ≤ h) (hc : c0 = 3) (kk : zNN E 1 Z n0 Q 20 [(0, .ref (zad Z 5 0))] [] (zDu (eX3_2 Z D) 5 0 (.inr (3, fX3_2 Z))) 2 100) : zNN E 1 Z n0 Q 12 [(0, .ref (zad Z 5 0))] [] (zDu (eX3_1 Z D) 5 0 (.inr (3, fX3_1 Z))) 1 50 := by
  subst hc
  refine zn_aload_n C dX3_init_12 rfl ?_
  refine zn_bipush C dX3_init_13 (v := 50) (by decide) ?_
  refine zn_newa C (atype := .int) (k := 7) (i := 0) (t0 := 0) (N := 50) (a0 := (50, .inl fun _ => 0)) wq_61 rfl dX3_init_15 (by decide) (by decide) (by decide) (fun _ => rfl) (by decide) rfl (by omega) (by omega) ?_
  refine zn_putF C (by decide +kernel) 1 zin_X3 rfl (Nat.le_of_ble_eq_true rfl) rfl rfl tyX3_ok nmX3 rfl (ty := tyX3 1) (by decide +kernel) wq_38 dX3_init_17 (zDu_o (by decide) (zDu_i _ _ _ _)) (Nat.le_of_ble_eq_true rfl) rfl rfl ?_
  exact kk
def fX3_3 (Z : zLay) : List Value := [.ref (zad Z 6 0), .ref (zad Z 7 0), .ref (zad Z 8 0), .null, .null, .int 0]
def eX3_3 (Z : zLay) (D : zDm) : zDm := (zDu (zDu (eX3_2 Z D) 5 0 (.inr (3, fX3_2 Z))) 8 0 (.inl (zca Z 0, 50, .inl fun _ => 0)))
theorem sX3_20 (C : zCN E cX3_init RX3 1 Z h n0 c0 5 250) (hh : 1 ≤ h) (hc : c0 = 3) (kk : zNN E 1 Z n0 Q 28 [(0, .ref (zad Z 5 0))] [] (zDu (eX3_3 Z D) 5 0 (.inr (3, fX3_3 Z))) 3 150) : zNN E 1 Z n0 Q 20 [(0, .ref (zad Z 5 0))] [] (zDu (eX3_2 Z D) 5 0 (.inr (3, fX3_2 Z))) 2 100 := by
  subst hc
  refine zn_aload_n C dX3_init_20 rfl ?_
  refine zn_bipush C dX3_init_21 (v := 50) (by decide) ?_
  refine zn_newa C (atype := .int) (k := 8) (i := 0) (t0 := 0) (N := 50) (a0 := (50, .inl fun _ => 0)) wq_61 rfl dX3_init_23 (by decide) (by decide) (by decide) (fun _ => rfl) (by decide) rfl (by omega) (by omega) ?_
  refine zn_putF C (by decide +kernel) 2 zin_X3 rfl (Nat.le_of_ble_eq_true rfl) rfl rfl tyX3_ok nmX3 rfl (ty := tyX3 2) (by decide +kernel) wq_40 dX3_init_25 (zDu_o (by decide) (zDu_i _ _ _ _)) (Nat.le_of_ble_eq_true rfl) rfl rfl ?_
  exact kk
def fX3_4 (Z : zLay) : List Value := [.ref (zad Z 6 0), .ref (zad Z 7 0), .ref (zad Z 8 0), .ref (zad Z 9 0), .null, .int 0]
def eX3_4 (Z : zLay) (D : zDm) : zDm := (zDu (zDu (eX3_3 Z D) 5 0 (.inr (3, fX3_3 Z))) 9 0 (.inl (zca Z 0, 50, .inl fun _ => 0)))
theorem sX3_28 (C : zCN E cX3_init RX3 1 Z h n0 c0 5 250) (hh : 1 ≤ h) (hc : c0 = 3) (kk : zNN E 1 Z n0 Q 36 [(0, .ref (zad Z 5 0))] [] (zDu (eX3_4 Z D) 5 0 (.inr (3, fX3_4 Z))) 4 200) : zNN E 1 Z n0 Q 28 [(0, .ref (zad Z 5 0))] [] (zDu (eX3_3 Z D) 5 0 (.inr (3, fX3_3 Z))) 3 150 := by
  subst hc
  refine zn_aload_n C dX3_init_28 rfl ?_
  refine zn_bipush C dX3_init_29 (v := 50) (by decide) ?_
  refine zn_newa C (atype := .int) (k := 9) (i := 0) (t0 := 0) (N := 50) (a0 := (50, .inl fun _ => 0)) wq_61 rfl dX3_init_31 (by decide) (by decide) (by decide) (fun _ => rfl) (by decide) rfl (by omega) (by omega) ?_
  refine zn_putF C (by decide +kernel) 3 zin_X3 rfl (Nat.le_of_ble_eq_true rfl) rfl rfl tyX3_ok nmX3 rfl (ty := tyX3 3) (by decide +kernel) wq_42 dX3_init_33 (zDu_o (by decide) (zDu_i _ _ _ _)) (Nat.le_of_ble_eq_true rfl) rfl rfl ?_
  exact kk
def fX3_5 (Z : zLay) : List Value := [.ref (zad Z 6 0), .ref (zad Z 7 0), .ref (zad Z 8 0), .ref (zad Z 9 0), .ref (zad Z 10 0), .int 0]
def eX3_5 (Z : zLay) (D : zDm) : zDm := (zDu (zDu (eX3_4 Z D) 5 0 (.inr (3, fX3_4 Z))) 10 0 (.inl (zca Z 0, 50, .inl fun _ => 0)))
theorem sX3_36 (C : zCN E cX3_init RX3 1 Z h n0 c0 5 250) (hh : 1 ≤ h) (hc : c0 = 3) (kk : zNN E 1 Z n0 Q 44 [(0, .ref (zad Z 5 0))] [] (zDu (eX3_5 Z D) 5 0 (.inr (3, fX3_5 Z))) 5 250) : zNN E 1 Z n0 Q 36 [(0, .ref (zad Z 5 0))] [] (zDu (eX3_4 Z D) 5 0 (.inr (3, fX3_4 Z))) 4 200 := by
  subst hc
  refine zn_aload_n C dX3_init_36 rfl ?_
  refine zn_bipush C dX3_init_37 (v := 50) (by decide) ?_
  refine zn_newa C (atype := .int) (k := 10) (i := 0) (t0 := 0) (N := 50) (a0 := (50, .inl fun _ => 0)) wq_61 rfl dX3_init_39 (by decide) (by decide) (by decide) (fun _ => rfl) (by decide) rfl (by omega) (by omega) ?_
  refine zn_putF C (by decide +kernel) 4 zin_X3 rfl (Nat.le_of_ble_eq_true rfl) rfl rfl tyX3_ok nmX3 rfl (ty := tyX3 4) (by decide +kernel) wq_44 dX3_init_41 (zDu_o (by decide) (zDu_i _ _ _ _)) (Nat.le_of_ble_eq_true rfl) rfl rfl ?_
  exact kk
def gX3 (Z : zLay) (D : zDm) : zDm := (zDu (eX3_5 Z D) 5 0 (.inr (3, fX3_5 Z)))
theorem eX3_0_o {a b : Nat} {y : va_E} (h : D a b = some y) : eX3_0 Z D a b = some y := h
theorem eX3_1_o {a b : Nat} {y : va_E} (w : a < 5 ∨ 10 < a) (h : D a b = some y) : eX3_1 Z D a b = some y := zDu_o (by omega) (zDu_o (by omega) (eX3_0_o h))
theorem eX3_2_o {a b : Nat} {y : va_E} (w : a < 5 ∨ 10 < a) (h : D a b = some y) : eX3_2 Z D a b = some y := zDu_o (by omega) (zDu_o (by omega) (eX3_1_o w h))
theorem eX3_3_o {a b : Nat} {y : va_E} (w : a < 5 ∨ 10 < a) (h : D a b = some y) : eX3_3 Z D a b = some y := zDu_o (by omega) (zDu_o (by omega) (eX3_2_o w h))
theorem eX3_4_o {a b : Nat} {y : va_E} (w : a < 5 ∨ 10 < a) (h : D a b = some y) : eX3_4 Z D a b = some y := zDu_o (by omega) (zDu_o (by omega) (eX3_3_o w h))
theorem eX3_5_o {a b : Nat} {y : va_E} (w : a < 5 ∨ 10 < a) (h : D a b = some y) : eX3_5 Z D a b = some y := zDu_o (by omega) (zDu_o (by omega) (eX3_4_o w h))
theorem gX3_o {a b : Nat} {y : va_E} (w : a < 5 ∨ 10 < a) (h : D a b = some y) : gX3 Z D a b = some y := zDu_o (by omega) (eX3_5_o w h)
theorem mX3 {l : Launch} (hc : c0 = 3) : zMetN l yX3_init cX3_init 1 1 Z n0 c0 5 250 [.ref (zad Z 5 0)] (zDu D 5 0 (.inr (3, fX3_0))) (gX3 Z D) :=
  zMetN_of (by decide +kernel) rfl (Nat.le_of_ble_eq_true rfl) [(0, .ref (zad Z 5 0))] rfl fun E h1 h2 C => sX3_0 C (Nat.le_refl _) hc (sX3_4 C (Nat.le_refl _) hc (sX3_12 C (Nat.le_refl _) hc (sX3_20 C (Nat.le_refl _) hc (sX3_28 C (Nat.le_refl _) hc (sX3_36 C (Nat.le_refl _) hc (zn_ret C (by decide +kernel) h1 h2 rfl (Nat.le_refl _) dX3_init_44))))))
end YX3
theorem wq_358 : Cond.methodLink "AlpCommune$Sheet" (3 : Nat) ({ cls := "java/lang/Object", name := "<init>", desc := "()V" } : MethodName) ∈ zTB := zTB_mem 485 (by decide +kernel) (by decide +kernel)
theorem wq_359 : Cond.fieldLink "AlpCommune$Sheet" (9 : Nat) "AlpCommune$Sheet" "sort" "I" ∈ zTB := zTB_mem 486 (by decide +kernel) (by decide +kernel)
theorem wq_362 : Cond.fieldLink "AlpCommune$Sheet" (15 : Nat) "AlpCommune$Sheet" "items" "[J" ∈ zTB := zTB_mem 489 (by decide +kernel) (by decide +kernel)
theorem wq_371 : Cond.arrayClass ClassFile.FieldType.long ∈ zTB := zTB_mem 498 (by decide +kernel) (by decide +kernel)
section YX4
variable {E : zEn} {nL h n0 c0 mc ms : Nat} {Z : zLay} {D : zDm} {Q : State → Prop}
def fX4_0 : List Value := [.int 0, .int 0, .null]
theorem nfX4 : ∀ j, j < 3 → defaultValue (tyX4 j) = vp_V fX4_0 j := by decide +kernel
def eX4_0 (Z : zLay) (i : Nat) (D : zDm) : zDm := D
theorem sX4_0 (C : zCN E cX4_init RX4 1 Z h n0 c0 1 60) (hh : 1 ≤ h) {i : Nat} (hi : i < 3) (hc : c0 = 338 + 2 * i) (kk : zNN E 1 Z n0 Q 4 [(0, .ref (zad Z 47 i))] [] (zDu (eX4_0 Z i D) 47 i (.inr (4, fX4_0))) 0 0) : zNN E 1 Z n0 Q 0 [(0, .ref (zad Z 47 i))] [] (zDu (eX4_0 Z i D) 47 i (.inr (4, fX4_0))) 0 0 := by
  subst hc
  refine zn_aload_n C dX4_init_0 rfl ?_
  refine zn_obj C wq_358 wq_26 wq_27 dX4_init_1 (by omega) (Nat.le_of_ble_eq_true rfl) ?_
  exact kk
def fX4_1 (Z : zLay) (i : Nat) : List Value := [.int (-1), .int 0, .null]
def eX4_1 (Z : zLay) (i : Nat) (D : zDm) : zDm := (zDu (eX4_0 Z i D) 47 i (.inr (4, fX4_0)))
theorem sX4_4 (C : zCN E cX4_init RX4 1 Z h n0 c0 1 60) (hh : 1 ≤ h) {i : Nat} (hi : i < 3) (hc : c0 = 338 + 2 * i) (kk : zNN E 1 Z n0 Q 9 [(0, .ref (zad Z 47 i))] [] (zDu (eX4_1 Z i D) 47 i (.inr (4, fX4_1 Z i))) 0 0) : zNN E 1 Z n0 Q 4 [(0, .ref (zad Z 47 i))] [] (zDu (eX4_0 Z i D) 47 i (.inr (4, fX4_0))) 0 0 := by
  subst hc
  refine zn_aload_n C dX4_init_4 rfl ?_
  refine zn_iconst C dX4_init_5 (v := (-1)) (by decide) ?_
  refine zn_put C 0 zin_X4 rfl (Nat.le_of_ble_eq_true rfl) rfl tyX4_ok nmX4 rfl (ty := tyX4 0) (by decide +kernel) wq_359 dX4_init_6 (zDu_i _ _ _ _) (Nat.le_of_ble_eq_true rfl) rfl rfl ?_
  exact kk
def fX4_2 (Z : zLay) (i : Nat) : List Value := [.int (-1), .int 0, .ref (zad Z 48 i)]
def eX4_2 (Z : zLay) (i : Nat) (D : zDm) : zDm := (zDu (zDu (eX4_1 Z i D) 47 i (.inr (4, fX4_1 Z i))) 48 i (.inl (zca Z 1, 60, .inr (.inl fun _ => 0))))
theorem sX4_9 (C : zCN E cX4_init RX4 1 Z h n0 c0 1 60) (hh : 1 ≤ h) {i : Nat} (hi : i < 3) (hc : c0 = 338 + 2 * i) (kk : zNN E 1 Z n0 Q 17 [(0, .ref (zad Z 47 i))] [] (zDu (eX4_2 Z i D) 47 i (.inr (4, fX4_2 Z i))) 1 60) : zNN E 1 Z n0 Q 9 [(0, .ref (zad Z 47 i))] [] (zDu (eX4_1 Z i D) 47 i (.inr (4, fX4_1 Z i))) 0 0 := by
  subst hc
  refine zn_aload_n C dX4_init_9 rfl ?_
  refine zn_bipush C dX4_init_10 (v := 60) (by decide) ?_
  refine zn_newa C (atype := .long) (k := 48) (i := i) (t0 := 1) (N := 60) (a0 := (60, .inr (.inl fun _ => 0))) wq_371 rfl dX4_init_12 (by decide) (by decide) (by decide) (fun _ => rfl) hi (by show 338 + 2 * i = 338 + 2 * i + 0; omega) (by omega) (by omega) ?_
  refine zn_putF C (by decide +kernel) 2 zin_X4 rfl (Nat.le_of_ble_eq_true rfl) rfl rfl tyX4_ok nmX4 rfl (ty := tyX4 2) (by decide +kernel) wq_362 dX4_init_14 (zDu_o (by decide) (zDu_i _ _ _ _)) (Nat.le_of_ble_eq_true rfl) rfl rfl ?_
  exact kk
def gX4 (Z : zLay) (i : Nat) (D : zDm) : zDm := (zDu (eX4_2 Z i D) 47 i (.inr (4, fX4_2 Z i)))
theorem eX4_0_o {i : Nat} {a b : Nat} {y : va_E} (h : D a b = some y) : eX4_0 Z i D a b = some y := h
theorem eX4_1_o {i : Nat} {a b : Nat} {y : va_E} (w : a < 47 ∨ 48 < a) (h : D a b = some y) : eX4_1 Z i D a b = some y := zDu_o (by omega) (eX4_0_o h)
theorem eX4_2_o {i : Nat} {a b : Nat} {y : va_E} (w : a < 47 ∨ 48 < a) (h : D a b = some y) : eX4_2 Z i D a b = some y := zDu_o (by omega) (zDu_o (by omega) (eX4_1_o w h))
theorem gX4_o {i : Nat} {a b : Nat} {y : va_E} (w : a < 47 ∨ 48 < a) (h : D a b = some y) : gX4 Z i D a b = some y := zDu_o (by omega) (eX4_2_o w h)
theorem mX4 {l : Launch} {i : Nat} (hi : i < 3) (hc : c0 = 338 + 2 * i) : zMetN l yX4_init cX4_init 1 1 Z n0 c0 1 60 [.ref (zad Z 47 i)] (zDu D 47 i (.inr (4, fX4_0))) (gX4 Z i D) :=
  zMetN_of (by decide +kernel) rfl (Nat.le_of_ble_eq_true rfl) [(0, .ref (zad Z 47 i))] rfl fun E h1 h2 C => sX4_0 C (Nat.le_refl _) hi hc (sX4_4 C (Nat.le_refl _) hi hc (sX4_9 C (Nat.le_refl _) hi hc (zn_ret C (by decide +kernel) h1 h2 rfl (Nat.le_refl _) dX4_init_17)))
end YX4
theorem wq_149 : Cond.methodLink "AlpCommune$Sky" (3 : Nat) ({ cls := "java/lang/Object", name := "<init>", desc := "()V" } : MethodName) ∈ zTB := zTB_mem 276 (by decide +kernel) (by decide +kernel)
theorem wq_154 : Cond.fieldLink "AlpCommune$Sky" (11 : Nat) "AlpCommune$Sky" "told" "[[S" ∈ zTB := zTB_mem 281 (by decide +kernel) (by decide +kernel)
theorem wq_150 : Cond.classLink "AlpCommune$Sky" (9 : Nat) "[[S" ∈ zTB := zTB_mem 277 (by decide +kernel) (by decide +kernel)
theorem wq_161 : Cond.arrayClass ClassFile.FieldType.short ∈ zTB := zTB_mem 288 (by decide +kernel) (by decide +kernel)
theorem wq_155 : Cond.fieldLink "AlpCommune$Sky" (18 : Nat) "AlpCommune$Sky" "toldIn" "[[I" ∈ zTB := zTB_mem 282 (by decide +kernel) (by decide +kernel)
theorem wq_152 : Cond.classLink "AlpCommune$Sky" (16 : Nat) "[[I" ∈ zTB := zTB_mem 279 (by decide +kernel) (by decide +kernel)
section YX5
variable {E : zEn} {nL h n0 c0 mc ms : Nat} {Z : zLay} {D : zDm} {Q : State → Prop}
def fX5_0 : List Value := [.null, .null]
theorem nfX5 : ∀ j, j < 2 → defaultValue (tyX5 j) = vp_V fX5_0 j := by decide +kernel
def eX5_0 (Z : zLay) (D : zDm) : zDm := D
theorem sX5_0 (C : zCN E cX5_init RX5 1 Z h n0 c0 6 14644) (hh : 1 ≤ h) (hc : c0 = 252) (kk : zNN E 1 Z n0 Q 4 [(0, .ref (zad Z 20 0))] [] (zDu (eX5_0 Z D) 20 0 (.inr (5, fX5_0))) 0 0) : zNN E 1 Z n0 Q 0 [(0, .ref (zad Z 20 0))] [] (zDu (eX5_0 Z D) 20 0 (.inr (5, fX5_0))) 0 0 := by
  subst hc
  refine zn_aload_n C dX5_init_0 rfl ?_
  refine zn_obj C wq_149 wq_26 wq_27 dX5_init_1 (by omega) (Nat.le_of_ble_eq_true rfl) ?_
  exact kk
def fX5_1 (Z : zLay) : List Value := [.ref (zad Z 21 0), .null]
def eX5_1 (Z : zLay) (D : zDm) : zDm := (zDr (zDu (zDu (eX5_0 Z D) 20 0 (.inr (5, fX5_0))) 21 0 (.inl (zca Z 10, 2, .inr (.inr (.inr (.inr (fun i => if i < 2 then some (zad Z 22 i) else none))))))) 22 2 (.inl (zca Z 3, (7200, .inl fun _ => 0))))
theorem sX5_4 (C : zCN E cX5_init RX5 1 Z h n0 c0 6 14644) (hh : 1 ≤ h) (hc : c0 = 252) (kk : zNN E 1 Z n0 Q 16 [(0, .ref (zad Z 20 0))] [] (zDu (eX5_1 Z D) 20 0 (.inr (5, fX5_1 Z))) 3 14402) : zNN E 1 Z n0 Q 4 [(0, .ref (zad Z 20 0))] [] (zDu (eX5_0 Z D) 20 0 (.inr (5, fX5_0))) 0 0 := by
  subst hc
  refine zn_aload_n C dX5_init_4 rfl ?_
  refine zn_iconst C dX5_init_5 (v := 2) (by decide) ?_
  refine zn_sipush C dX5_init_6 (v := 7200) (by decide) ?_
  refine zn_mna C (ty := .short) (N := 2) (M := 7200) (t0 := 10) (t1 := 3) (k := 21) (k1 := 22) (a0 := (7200, .inl fun _ => 0)) wq_150 (by unfold zOvL; simp) wq_161 rfl rfl (fun _ _ q => q) dX5_init_9 (by decide) (by decide) (by decide) (by decide) (by decide) (by decide) (by decide) rfl rfl (fun _ => rfl) (by decide) (by decide) rfl (fun j _ => by show 253 + 1 * j = 252 + 0 + 1 + j; omega) (by omega) (by omega) ?_
  refine zn_putF C (by decide +kernel) 0 zin_X5 rfl (Nat.le_of_ble_eq_true rfl) rfl rfl tyX5_ok nmX5 rfl (ty := tyX5 0) (by decide +kernel) wq_154 dX5_init_13 (zDr_o (by decide) (zDu_o (by decide) (zDu_i _ _ _ _))) (Nat.le_of_ble_eq_true rfl) rfl rfl ?_
  exact kk
def fX5_2 (Z : zLay) : List Value := [.ref (zad Z 21 0), .ref (zad Z 23 0)]
def eX5_2 (Z : zLay) (D : zDm) : zDm := (zDr (zDu (zDu (eX5_1 Z D) 20 0 (.inr (5, fX5_1 Z))) 23 0 (.inl (zca Z 9, 2, .inr (.inr (.inr (.inr (fun i => if i < 2 then some (zad Z 24 i) else none))))))) 24 2 (.inl (zca Z 0, (120, .inl fun _ => 0))))
theorem sX5_16 (C : zCN E cX5_init RX5 1 Z h n0 c0 6 14644) (hh : 1 ≤ h) (hc : c0 = 252) (kk : zNN E 1 Z n0 Q 27 [(0, .ref (zad Z 20 0))] [] (zDu (eX5_2 Z D) 20 0 (.inr (5, fX5_2 Z))) 6 14644) : zNN E 1 Z n0 Q 16 [(0, .ref (zad Z 20 0))] [] (zDu (eX5_1 Z D) 20 0 (.inr (5, fX5_1 Z))) 3 14402 := by
  subst hc
  refine zn_aload_n C dX5_init_16 rfl ?_
  refine zn_iconst C dX5_init_17 (v := 2) (by decide) ?_
  refine zn_bipush C dX5_init_18 (v := 120) (by decide) ?_
  refine zn_mna C (ty := .int) (N := 2) (M := 120) (t0 := 9) (t1 := 0) (k := 23) (k1 := 24) (a0 := (120, .inl fun _ => 0)) wq_152 (by unfold zOvL; simp) wq_61 rfl rfl (fun _ _ q => q) dX5_init_20 (by decide) (by decide) (by decide) (by decide) (by decide) (by decide) (by decide) rfl rfl (fun _ => rfl) (by decide) (by decide) rfl (fun j _ => by show 256 + 1 * j = 252 + 3 + 1 + j; omega) (by omega) (by omega) ?_
  refine zn_putF C (by decide +kernel) 1 zin_X5 rfl (Nat.le_of_ble_eq_true rfl) rfl rfl tyX5_ok nmX5 rfl (ty := tyX5 1) (by decide +kernel) wq_155 dX5_init_24 (zDr_o (by decide) (zDu_o (by decide) (zDu_i _ _ _ _))) (Nat.le_of_ble_eq_true rfl) rfl rfl ?_
  exact kk
def gX5 (Z : zLay) (D : zDm) : zDm := (zDu (eX5_2 Z D) 20 0 (.inr (5, fX5_2 Z)))
theorem eX5_0_o {a b : Nat} {y : va_E} (h : D a b = some y) : eX5_0 Z D a b = some y := h
theorem eX5_1_o {a b : Nat} {y : va_E} (w : a < 20 ∨ 24 < a) (h : D a b = some y) : eX5_1 Z D a b = some y := zDr_o (by omega) (zDu_o (by omega) (zDu_o (by omega) (eX5_0_o h)))
theorem eX5_2_o {a b : Nat} {y : va_E} (w : a < 20 ∨ 24 < a) (h : D a b = some y) : eX5_2 Z D a b = some y := zDr_o (by omega) (zDu_o (by omega) (zDu_o (by omega) (eX5_1_o w h)))
theorem gX5_o {a b : Nat} {y : va_E} (w : a < 20 ∨ 24 < a) (h : D a b = some y) : gX5 Z D a b = some y := zDu_o (by omega) (eX5_2_o w h)
theorem mX5 {l : Launch} (hc : c0 = 252) : zMetN l yX5_init cX5_init 1 1 Z n0 c0 6 14644 [.ref (zad Z 20 0)] (zDu D 20 0 (.inr (5, fX5_0))) (gX5 Z D) :=
  zMetN_of (by decide +kernel) rfl (Nat.le_of_ble_eq_true rfl) [(0, .ref (zad Z 20 0))] rfl fun E h1 h2 C => sX5_0 C (Nat.le_refl _) hc (sX5_4 C (Nat.le_refl _) hc (sX5_16 C (Nat.le_refl _) hc (zn_ret C (by decide +kernel) h1 h2 rfl (Nat.le_refl _) dX5_init_27)))
end YX5
theorem wq_228 : Cond.methodLink "AlpCommune$Slope" (3 : Nat) ({ cls := "java/lang/Object", name := "<init>", desc := "()V" } : MethodName) ∈ zTB := zTB_mem 355 (by decide +kernel) (by decide +kernel)
theorem wq_238 : Cond.fieldLink "AlpCommune$Slope" (9 : Nat) "AlpCommune$Slope" "depth" "[I" ∈ zTB := zTB_mem 365 (by decide +kernel) (by decide +kernel)
theorem wq_239 : Cond.fieldLink "AlpCommune$Slope" (15 : Nat) "AlpCommune$Slope" "soft" "[Z" ∈ zTB := zTB_mem 366 (by decide +kernel) (by decide +kernel)
theorem wq_124 : Cond.arrayClass ClassFile.FieldType.boolean ∈ zTB := zTB_mem 251 (by decide +kernel) (by decide +kernel)
section YX6
variable {E : zEn} {nL h n0 c0 mc ms : Nat} {Z : zLay} {D : zDm} {Q : State → Prop}
def fX6_0 : List Value := [.int 0, .int 0, .int 0, .int 0, .null, .null]
theorem nfX6 : ∀ j, j < 6 → defaultValue (tyX6 j) = vp_V fX6_0 j := by decide +kernel
def eX6_0 (Z : zLay) (i : Nat) (D : zDm) : zDm := D
theorem sX6_0 (C : zCN E cX6_init RX6 1 Z h n0 c0 2 14) (hh : 1 ≤ h) {i : Nat} (hi : i < 6) (hc : c0 = 277 + 3 * i) (kk : zNN E 1 Z n0 Q 4 [(0, .ref (zad Z 40 i))] [] (zDu (eX6_0 Z i D) 40 i (.inr (6, fX6_0))) 0 0) : zNN E 1 Z n0 Q 0 [(0, .ref (zad Z 40 i))] [] (zDu (eX6_0 Z i D) 40 i (.inr (6, fX6_0))) 0 0 := by
  subst hc
  refine zn_aload_n C dX6_init_0 rfl ?_
  refine zn_obj C wq_228 wq_26 wq_27 dX6_init_1 (by omega) (Nat.le_of_ble_eq_true rfl) ?_
  exact kk
def fX6_1 (Z : zLay) (i : Nat) : List Value := [.int 0, .int 0, .int 0, .int 0, .ref (zad Z 41 i), .null]
def eX6_1 (Z : zLay) (i : Nat) (D : zDm) : zDm := (zDu (zDu (eX6_0 Z i D) 40 i (.inr (6, fX6_0))) 41 i (.inl (zca Z 0, 7, .inl fun _ => 0)))
theorem sX6_4 (C : zCN E cX6_init RX6 1 Z h n0 c0 2 14) (hh : 1 ≤ h) {i : Nat} (hi : i < 6) (hc : c0 = 277 + 3 * i) (kk : zNN E 1 Z n0 Q 12 [(0, .ref (zad Z 40 i))] [] (zDu (eX6_1 Z i D) 40 i (.inr (6, fX6_1 Z i))) 1 7) : zNN E 1 Z n0 Q 4 [(0, .ref (zad Z 40 i))] [] (zDu (eX6_0 Z i D) 40 i (.inr (6, fX6_0))) 0 0 := by
  subst hc
  refine zn_aload_n C dX6_init_4 rfl ?_
  refine zn_bipush C dX6_init_5 (v := 7) (by decide) ?_
  refine zn_newa C (atype := .int) (k := 41) (i := i) (t0 := 0) (N := 7) (a0 := (7, .inl fun _ => 0)) wq_61 rfl dX6_init_7 (by decide) (by decide) (by decide) (fun _ => rfl) hi (by show 277 + 3 * i = 277 + 3 * i + 0; omega) (by omega) (by omega) ?_
  refine zn_putF C (by decide +kernel) 4 zin_X6 rfl (Nat.le_of_ble_eq_true rfl) rfl rfl tyX6_ok nmX6 rfl (ty := tyX6 4) (by decide +kernel) wq_238 dX6_init_9 (zDu_o (by decide) (zDu_i _ _ _ _)) (Nat.le_of_ble_eq_true rfl) rfl rfl ?_
  exact kk
def fX6_2 (Z : zLay) (i : Nat) : List Value := [.int 0, .int 0, .int 0, .int 0, .ref (zad Z 41 i), .ref (zad Z 42 i)]
def eX6_2 (Z : zLay) (i : Nat) (D : zDm) : zDm := (zDu (zDu (eX6_1 Z i D) 40 i (.inr (6, fX6_1 Z i))) 42 i (.inl (zca Z 4, 7, .inl fun _ => 0)))
theorem sX6_12 (C : zCN E cX6_init RX6 1 Z h n0 c0 2 14) (hh : 1 ≤ h) {i : Nat} (hi : i < 6) (hc : c0 = 277 + 3 * i) (kk : zNN E 1 Z n0 Q 20 [(0, .ref (zad Z 40 i))] [] (zDu (eX6_2 Z i D) 40 i (.inr (6, fX6_2 Z i))) 2 14) : zNN E 1 Z n0 Q 12 [(0, .ref (zad Z 40 i))] [] (zDu (eX6_1 Z i D) 40 i (.inr (6, fX6_1 Z i))) 1 7 := by
  subst hc
  refine zn_aload_n C dX6_init_12 rfl ?_
  refine zn_bipush C dX6_init_13 (v := 7) (by decide) ?_
  refine zn_newa C (atype := .boolean) (k := 42) (i := i) (t0 := 4) (N := 7) (a0 := (7, .inl fun _ => 0)) wq_124 rfl dX6_init_15 (by decide) (by decide) (by decide) (fun _ => rfl) hi (by show 278 + 3 * i = 277 + 3 * i + 1; omega) (by omega) (by omega) ?_
  refine zn_putF C (by decide +kernel) 5 zin_X6 rfl (Nat.le_of_ble_eq_true rfl) rfl rfl tyX6_ok nmX6 rfl (ty := tyX6 5) (by decide +kernel) wq_239 dX6_init_17 (zDu_o (by decide) (zDu_i _ _ _ _)) (Nat.le_of_ble_eq_true rfl) rfl rfl ?_
  exact kk
def gX6 (Z : zLay) (i : Nat) (D : zDm) : zDm := (zDu (eX6_2 Z i D) 40 i (.inr (6, fX6_2 Z i)))
theorem eX6_0_o {i : Nat} {a b : Nat} {y : va_E} (h : D a b = some y) : eX6_0 Z i D a b = some y := h
theorem eX6_1_o {i : Nat} {a b : Nat} {y : va_E} (w : a < 40 ∨ 42 < a) (h : D a b = some y) : eX6_1 Z i D a b = some y := zDu_o (by omega) (zDu_o (by omega) (eX6_0_o h))
theorem eX6_2_o {i : Nat} {a b : Nat} {y : va_E} (w : a < 40 ∨ 42 < a) (h : D a b = some y) : eX6_2 Z i D a b = some y := zDu_o (by omega) (zDu_o (by omega) (eX6_1_o w h))
theorem gX6_o {i : Nat} {a b : Nat} {y : va_E} (w : a < 40 ∨ 42 < a) (h : D a b = some y) : gX6 Z i D a b = some y := zDu_o (by omega) (eX6_2_o w h)
theorem mX6 {l : Launch} {i : Nat} (hi : i < 6) (hc : c0 = 277 + 3 * i) : zMetN l yX6_init cX6_init 1 1 Z n0 c0 2 14 [.ref (zad Z 40 i)] (zDu D 40 i (.inr (6, fX6_0))) (gX6 Z i D) :=
  zMetN_of (by decide +kernel) rfl (Nat.le_of_ble_eq_true rfl) [(0, .ref (zad Z 40 i))] rfl fun E h1 h2 C => sX6_0 C (Nat.le_refl _) hi hc (sX6_4 C (Nat.le_refl _) hi hc (sX6_12 C (Nat.le_refl _) hi hc (zn_ret C (by decide +kernel) h1 h2 rfl (Nat.le_refl _) dX6_init_20)))
end YX6
theorem wq_74 : Cond.methodLink "AlpCommune$Word" (3 : Nat) ({ cls := "java/lang/Object", name := "<init>", desc := "()V" } : MethodName) ∈ zTB := zTB_mem 201 (by decide +kernel) (by decide +kernel)
theorem wq_88 : Cond.fieldLink "AlpCommune$Word" (9 : Nat) "AlpCommune$Word" "field" "[I" ∈ zTB := zTB_mem 215 (by decide +kernel) (by decide +kernel)
theorem wq_90 : Cond.fieldLink "AlpCommune$Word" (15 : Nat) "AlpCommune$Word" "sign" "[I" ∈ zTB := zTB_mem 217 (by decide +kernel) (by decide +kernel)
theorem wq_92 : Cond.fieldLink "AlpCommune$Word" (18 : Nat) "AlpCommune$Word" "than" "[I" ∈ zTB := zTB_mem 219 (by decide +kernel) (by decide +kernel)
theorem wq_94 : Cond.fieldLink "AlpCommune$Word" (21 : Nat) "AlpCommune$Word" "not" "[Z" ∈ zTB := zTB_mem 221 (by decide +kernel) (by decide +kernel)
theorem wq_96 : Cond.fieldLink "AlpCommune$Word" (25 : Nat) "AlpCommune$Word" "or" "[Z" ∈ zTB := zTB_mem 223 (by decide +kernel) (by decide +kernel)
section YX8
variable {E : zEn} {nL h n0 c0 mc ms : Nat} {Z : zLay} {D : zDm} {Q : State → Prop}
def fX8_0 : List Value := [.int 0, .int 0, .int 0, .int 0, .int 0, .int 0, .int 0, .null, .null, .null, .null, .null]
theorem nfX8 : ∀ j, j < 12 → defaultValue (tyX8 j) = vp_V fX8_0 j := by decide +kernel
def eX8_0 (Z : zLay) (i : Nat) (D : zDm) : zDm := D
theorem sX8_0 (C : zCN E cX8_init RX8 1 Z h n0 c0 5 20) (hh : 1 ≤ h) {i : Nat} (hi : i < 40) (hc : c0 = 12 + 6 * i) (kk : zNN E 1 Z n0 Q 4 [(0, .ref (zad Z 13 i))] [] (zDu (eX8_0 Z i D) 13 i (.inr (8, fX8_0))) 0 0) : zNN E 1 Z n0 Q 0 [(0, .ref (zad Z 13 i))] [] (zDu (eX8_0 Z i D) 13 i (.inr (8, fX8_0))) 0 0 := by
  subst hc
  refine zn_aload_n C dX8_init_0 rfl ?_
  refine zn_obj C wq_74 wq_26 wq_27 dX8_init_1 (by omega) (Nat.le_of_ble_eq_true rfl) ?_
  exact kk
def fX8_1 (Z : zLay) (i : Nat) : List Value := [.int 0, .int 0, .int 0, .int 0, .int 0, .int 0, .int 0, .ref (zad Z 14 i), .null, .null, .null, .null]
def eX8_1 (Z : zLay) (i : Nat) (D : zDm) : zDm := (zDu (zDu (eX8_0 Z i D) 13 i (.inr (8, fX8_0))) 14 i (.inl (zca Z 0, 4, .inl fun _ => 0)))
theorem sX8_4 (C : zCN E cX8_init RX8 1 Z h n0 c0 5 20) (hh : 1 ≤ h) {i : Nat} (hi : i < 40) (hc : c0 = 12 + 6 * i) (kk : zNN E 1 Z n0 Q 11 [(0, .ref (zad Z 13 i))] [] (zDu (eX8_1 Z i D) 13 i (.inr (8, fX8_1 Z i))) 1 4) : zNN E 1 Z n0 Q 4 [(0, .ref (zad Z 13 i))] [] (zDu (eX8_0 Z i D) 13 i (.inr (8, fX8_0))) 0 0 := by
  subst hc
  refine zn_aload_n C dX8_init_4 rfl ?_
  refine zn_iconst C dX8_init_5 (v := 4) (by decide) ?_
  refine zn_newa C (atype := .int) (k := 14) (i := i) (t0 := 0) (N := 4) (a0 := (4, .inl fun _ => 0)) wq_61 rfl dX8_init_6 (by decide) (by decide) (by decide) (fun _ => rfl) hi (by show 12 + 6 * i = 12 + 6 * i + 0; omega) (by omega) (by omega) ?_
  refine zn_putF C (by decide +kernel) 7 zin_X8 rfl (Nat.le_of_ble_eq_true rfl) rfl rfl tyX8_ok nmX8 rfl (ty := tyX8 7) (by decide +kernel) wq_88 dX8_init_8 (zDu_o (by decide) (zDu_i _ _ _ _)) (Nat.le_of_ble_eq_true rfl) rfl rfl ?_
  exact kk
def fX8_2 (Z : zLay) (i : Nat) : List Value := [.int 0, .int 0, .int 0, .int 0, .int 0, .int 0, .int 0, .ref (zad Z 14 i), .ref (zad Z 15 i), .null, .null, .null]
def eX8_2 (Z : zLay) (i : Nat) (D : zDm) : zDm := (zDu (zDu (eX8_1 Z i D) 13 i (.inr (8, fX8_1 Z i))) 15 i (.inl (zca Z 0, 4, .inl fun _ => 0)))
theorem sX8_11 (C : zCN E cX8_init RX8 1 Z h n0 c0 5 20) (hh : 1 ≤ h) {i : Nat} (hi : i < 40) (hc : c0 = 12 + 6 * i) (kk : zNN E 1 Z n0 Q 18 [(0, .ref (zad Z 13 i))] [] (zDu (eX8_2 Z i D) 13 i (.inr (8, fX8_2 Z i))) 2 8) : zNN E 1 Z n0 Q 11 [(0, .ref (zad Z 13 i))] [] (zDu (eX8_1 Z i D) 13 i (.inr (8, fX8_1 Z i))) 1 4 := by
  subst hc
  refine zn_aload_n C dX8_init_11 rfl ?_
  refine zn_iconst C dX8_init_12 (v := 4) (by decide) ?_
  refine zn_newa C (atype := .int) (k := 15) (i := i) (t0 := 0) (N := 4) (a0 := (4, .inl fun _ => 0)) wq_61 rfl dX8_init_13 (by decide) (by decide) (by decide) (fun _ => rfl) hi (by show 13 + 6 * i = 12 + 6 * i + 1; omega) (by omega) (by omega) ?_
  refine zn_putF C (by decide +kernel) 8 zin_X8 rfl (Nat.le_of_ble_eq_true rfl) rfl rfl tyX8_ok nmX8 rfl (ty := tyX8 8) (by decide +kernel) wq_90 dX8_init_15 (zDu_o (by decide) (zDu_i _ _ _ _)) (Nat.le_of_ble_eq_true rfl) rfl rfl ?_
  exact kk
def fX8_3 (Z : zLay) (i : Nat) : List Value := [.int 0, .int 0, .int 0, .int 0, .int 0, .int 0, .int 0, .ref (zad Z 14 i), .ref (zad Z 15 i), .ref (zad Z 16 i), .null, .null]
def eX8_3 (Z : zLay) (i : Nat) (D : zDm) : zDm := (zDu (zDu (eX8_2 Z i D) 13 i (.inr (8, fX8_2 Z i))) 16 i (.inl (zca Z 0, 4, .inl fun _ => 0)))
theorem sX8_18 (C : zCN E cX8_init RX8 1 Z h n0 c0 5 20) (hh : 1 ≤ h) {i : Nat} (hi : i < 40) (hc : c0 = 12 + 6 * i) (kk : zNN E 1 Z n0 Q 25 [(0, .ref (zad Z 13 i))] [] (zDu (eX8_3 Z i D) 13 i (.inr (8, fX8_3 Z i))) 3 12) : zNN E 1 Z n0 Q 18 [(0, .ref (zad Z 13 i))] [] (zDu (eX8_2 Z i D) 13 i (.inr (8, fX8_2 Z i))) 2 8 := by
  subst hc
  refine zn_aload_n C dX8_init_18 rfl ?_
  refine zn_iconst C dX8_init_19 (v := 4) (by decide) ?_
  refine zn_newa C (atype := .int) (k := 16) (i := i) (t0 := 0) (N := 4) (a0 := (4, .inl fun _ => 0)) wq_61 rfl dX8_init_20 (by decide) (by decide) (by decide) (fun _ => rfl) hi (by show 14 + 6 * i = 12 + 6 * i + 2; omega) (by omega) (by omega) ?_
  refine zn_putF C (by decide +kernel) 9 zin_X8 rfl (Nat.le_of_ble_eq_true rfl) rfl rfl tyX8_ok nmX8 rfl (ty := tyX8 9) (by decide +kernel) wq_92 dX8_init_22 (zDu_o (by decide) (zDu_i _ _ _ _)) (Nat.le_of_ble_eq_true rfl) rfl rfl ?_
  exact kk
def fX8_4 (Z : zLay) (i : Nat) : List Value := [.int 0, .int 0, .int 0, .int 0, .int 0, .int 0, .int 0, .ref (zad Z 14 i), .ref (zad Z 15 i), .ref (zad Z 16 i), .ref (zad Z 17 i), .null]
def eX8_4 (Z : zLay) (i : Nat) (D : zDm) : zDm := (zDu (zDu (eX8_3 Z i D) 13 i (.inr (8, fX8_3 Z i))) 17 i (.inl (zca Z 4, 4, .inl fun _ => 0)))
theorem sX8_25 (C : zCN E cX8_init RX8 1 Z h n0 c0 5 20) (hh : 1 ≤ h) {i : Nat} (hi : i < 40) (hc : c0 = 12 + 6 * i) (kk : zNN E 1 Z n0 Q 32 [(0, .ref (zad Z 13 i))] [] (zDu (eX8_4 Z i D) 13 i (.inr (8, fX8_4 Z i))) 4 16) : zNN E 1 Z n0 Q 25 [(0, .ref (zad Z 13 i))] [] (zDu (eX8_3 Z i D) 13 i (.inr (8, fX8_3 Z i))) 3 12 := by
  subst hc
  refine zn_aload_n C dX8_init_25 rfl ?_
  refine zn_iconst C dX8_init_26 (v := 4) (by decide) ?_
  refine zn_newa C (atype := .boolean) (k := 17) (i := i) (t0 := 4) (N := 4) (a0 := (4, .inl fun _ => 0)) wq_124 rfl dX8_init_27 (by decide) (by decide) (by decide) (fun _ => rfl) hi (by show 15 + 6 * i = 12 + 6 * i + 3; omega) (by omega) (by omega) ?_
  refine zn_putF C (by decide +kernel) 10 zin_X8 rfl (Nat.le_of_ble_eq_true rfl) rfl rfl tyX8_ok nmX8 rfl (ty := tyX8 10) (by decide +kernel) wq_94 dX8_init_29 (zDu_o (by decide) (zDu_i _ _ _ _)) (Nat.le_of_ble_eq_true rfl) rfl rfl ?_
  exact kk
def fX8_5 (Z : zLay) (i : Nat) : List Value := [.int 0, .int 0, .int 0, .int 0, .int 0, .int 0, .int 0, .ref (zad Z 14 i), .ref (zad Z 15 i), .ref (zad Z 16 i), .ref (zad Z 17 i), .ref (zad Z 18 i)]
def eX8_5 (Z : zLay) (i : Nat) (D : zDm) : zDm := (zDu (zDu (eX8_4 Z i D) 13 i (.inr (8, fX8_4 Z i))) 18 i (.inl (zca Z 4, 4, .inl fun _ => 0)))
theorem sX8_32 (C : zCN E cX8_init RX8 1 Z h n0 c0 5 20) (hh : 1 ≤ h) {i : Nat} (hi : i < 40) (hc : c0 = 12 + 6 * i) (kk : zNN E 1 Z n0 Q 39 [(0, .ref (zad Z 13 i))] [] (zDu (eX8_5 Z i D) 13 i (.inr (8, fX8_5 Z i))) 5 20) : zNN E 1 Z n0 Q 32 [(0, .ref (zad Z 13 i))] [] (zDu (eX8_4 Z i D) 13 i (.inr (8, fX8_4 Z i))) 4 16 := by
  subst hc
  refine zn_aload_n C dX8_init_32 rfl ?_
  refine zn_iconst C dX8_init_33 (v := 4) (by decide) ?_
  refine zn_newa C (atype := .boolean) (k := 18) (i := i) (t0 := 4) (N := 4) (a0 := (4, .inl fun _ => 0)) wq_124 rfl dX8_init_34 (by decide) (by decide) (by decide) (fun _ => rfl) hi (by show 16 + 6 * i = 12 + 6 * i + 4; omega) (by omega) (by omega) ?_
  refine zn_putF C (by decide +kernel) 11 zin_X8 rfl (Nat.le_of_ble_eq_true rfl) rfl rfl tyX8_ok nmX8 rfl (ty := tyX8 11) (by decide +kernel) wq_96 dX8_init_36 (zDu_o (by decide) (zDu_i _ _ _ _)) (Nat.le_of_ble_eq_true rfl) rfl rfl ?_
  exact kk
def gX8 (Z : zLay) (i : Nat) (D : zDm) : zDm := (zDu (eX8_5 Z i D) 13 i (.inr (8, fX8_5 Z i)))
theorem eX8_0_o {i : Nat} {a b : Nat} {y : va_E} (h : D a b = some y) : eX8_0 Z i D a b = some y := h
theorem eX8_1_o {i : Nat} {a b : Nat} {y : va_E} (w : a < 13 ∨ 18 < a) (h : D a b = some y) : eX8_1 Z i D a b = some y := zDu_o (by omega) (zDu_o (by omega) (eX8_0_o h))
theorem eX8_2_o {i : Nat} {a b : Nat} {y : va_E} (w : a < 13 ∨ 18 < a) (h : D a b = some y) : eX8_2 Z i D a b = some y := zDu_o (by omega) (zDu_o (by omega) (eX8_1_o w h))
theorem eX8_3_o {i : Nat} {a b : Nat} {y : va_E} (w : a < 13 ∨ 18 < a) (h : D a b = some y) : eX8_3 Z i D a b = some y := zDu_o (by omega) (zDu_o (by omega) (eX8_2_o w h))
theorem eX8_4_o {i : Nat} {a b : Nat} {y : va_E} (w : a < 13 ∨ 18 < a) (h : D a b = some y) : eX8_4 Z i D a b = some y := zDu_o (by omega) (zDu_o (by omega) (eX8_3_o w h))
theorem eX8_5_o {i : Nat} {a b : Nat} {y : va_E} (w : a < 13 ∨ 18 < a) (h : D a b = some y) : eX8_5 Z i D a b = some y := zDu_o (by omega) (zDu_o (by omega) (eX8_4_o w h))
theorem gX8_o {i : Nat} {a b : Nat} {y : va_E} (w : a < 13 ∨ 18 < a) (h : D a b = some y) : gX8 Z i D a b = some y := zDu_o (by omega) (eX8_5_o w h)
theorem mX8 {l : Launch} {i : Nat} (hi : i < 40) (hc : c0 = 12 + 6 * i) : zMetN l yX8_init cX8_init 1 1 Z n0 c0 5 20 [.ref (zad Z 13 i)] (zDu D 13 i (.inr (8, fX8_0))) (gX8 Z i D) :=
  zMetN_of (by decide +kernel) rfl (Nat.le_of_ble_eq_true rfl) [(0, .ref (zad Z 13 i))] rfl fun E h1 h2 C => sX8_0 C (Nat.le_refl _) hi hc (sX8_4 C (Nat.le_refl _) hi hc (sX8_11 C (Nat.le_refl _) hi hc (sX8_18 C (Nat.le_refl _) hi hc (sX8_25 C (Nat.le_refl _) hi hc (sX8_32 C (Nat.le_refl _) hi hc (zn_ret C (by decide +kernel) h1 h2 rfl (Nat.le_refl _) dX8_init_39))))))
end YX8
