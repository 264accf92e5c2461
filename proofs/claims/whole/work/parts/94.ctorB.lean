/-! what the constructors leave behind -/
theorem zDr_i (D : zDm) {k N b : Nat} {x : va_E} (h : b < N) : zDr D k N x k b = some x := if_pos ⟨rfl, h⟩
theorem zDu_ob {D : zDm} {k i a b : Nat} {x y : va_E} (h : b ≠ i) (e : D a b = some y) : zDu D k i x a b = some y := (zDu_n D x (fun w => h w.2)).trans e
theorem nI41_c : ∀ n, n < 42 → nI n + Int32.ofInt 1 = nI (n + 1) ∧ ¬ nI n < 0 ∧ (nI n).toNatClampNeg = n := by decide +kernel
theorem eX0_11_c {Z : zLay} {D : zDm} {a b : Nat} {y : va_E} (w : a ≠ 25) (v : a < 37) (h : eX0_10 Z D a b = some y) : eX0_11 Z D a b = some y := zDu_o (by omega) (zDu_o (by omega) (h))
theorem eX0_10_c {Z : zLay} {D : zDm} {a b : Nat} {y : va_E} (w : a ≠ 25) (v : a < 36) (h : eX0_9 Z D a b = some y) : eX0_11 Z D a b = some y := eX0_11_c w (by omega) (zDu_o (by omega) (zDu_o (by omega) (h)))
theorem eX0_9_c {Z : zLay} {D : zDm} {a b : Nat} {y : va_E} (w : a ≠ 25) (v : a < 35) (h : eX0_8 Z D a b = some y) : eX0_11 Z D a b = some y := eX0_10_c w (by omega) (zDu_o (by omega) (zDu_o (by omega) (h)))
theorem eX0_8_c {Z : zLay} {D : zDm} {a b : Nat} {y : va_E} (w : a ≠ 25) (v : a < 33) (h : eX0_7 Z D a b = some y) : eX0_11 Z D a b = some y := eX0_9_c w (by omega) (zDr_o (by omega) (zDu_o (by omega) (zDu_o (by omega) (h))))
theorem eX0_7_c {Z : zLay} {D : zDm} {a b : Nat} {y : va_E} (w : a ≠ 25) (v : a < 32) (h : eX0_6 Z D a b = some y) : eX0_11 Z D a b = some y := eX0_8_c w (by omega) (zDu_o (by omega) (zDu_o (by omega) (h)))
theorem eX0_6_c {Z : zLay} {D : zDm} {a b : Nat} {y : va_E} (w : a ≠ 25) (v : a < 31) (h : eX0_5 Z D a b = some y) : eX0_11 Z D a b = some y := eX0_7_c w (by omega) (zDu_o (by omega) (zDu_o (by omega) (h)))
theorem eX0_5_c {Z : zLay} {D : zDm} {a b : Nat} {y : va_E} (w : a ≠ 25) (v : a < 30) (h : eX0_4 Z D a b = some y) : eX0_11 Z D a b = some y := eX0_6_c w (by omega) (zDu_o (by omega) (zDu_o (by omega) (h)))
theorem eX0_4_c {Z : zLay} {D : zDm} {a b : Nat} {y : va_E} (w : a ≠ 25) (v : a < 29) (h : eX0_3 Z D a b = some y) : eX0_11 Z D a b = some y := eX0_5_c w (by omega) (zDu_o (by omega) (zDu_o (by omega) (h)))
theorem eX0_3_c {Z : zLay} {D : zDm} {a b : Nat} {y : va_E} (w : a ≠ 25) (v : a < 28) (h : eX0_2 Z D a b = some y) : eX0_11 Z D a b = some y := eX0_4_c w (by omega) (zDu_o (by omega) (zDu_o (by omega) (h)))
theorem eX0_2_c {Z : zLay} {D : zDm} {a b : Nat} {y : va_E} (w : a ≠ 25) (v : a < 27) (h : eX0_1 Z D a b = some y) : eX0_11 Z D a b = some y := eX0_3_c w (by omega) (zDu_o (by omega) (zDu_o (by omega) (h)))
theorem eX0_1_c {Z : zLay} {D : zDm} {a b : Nat} {y : va_E} (w : a ≠ 25) (v : a < 26) (h : eX0_0 Z D a b = some y) : eX0_11 Z D a b = some y := eX0_2_c w (by omega) (zDu_o (by omega) (zDu_o (by omega) (h)))
theorem pX0_26 {Z : zLay} {D : zDm} : eX0_11 Z D 26 0 = some (.inl (zca Z 0, 4, .inl fun _ => 0)) := eX0_2_c (by decide) (by decide) (zDu_i _ _ _ _)
theorem pX0_27 {Z : zLay} {D : zDm} : eX0_11 Z D 27 0 = some (.inl (zca Z 0, 4, .inl fun _ => 0)) := eX0_3_c (by decide) (by decide) (zDu_i _ _ _ _)
theorem pX0_28 {Z : zLay} {D : zDm} : eX0_11 Z D 28 0 = some (.inl (zca Z 0, 4, .inl fun _ => 0)) := eX0_4_c (by decide) (by decide) (zDu_i _ _ _ _)
theorem pX0_29 {Z : zLay} {D : zDm} : eX0_11 Z D 29 0 = some (.inl (zca Z 0, 4, .inl fun _ => 0)) := eX0_5_c (by decide) (by decide) (zDu_i _ _ _ _)
theorem pX0_30 {Z : zLay} {D : zDm} : eX0_11 Z D 30 0 = some (.inl (zca Z 0, 30, .inl fun _ => 0)) := eX0_6_c (by decide) (by decide) (zDu_i _ _ _ _)
theorem pX0_31 {Z : zLay} {D : zDm} : eX0_11 Z D 31 0 = some (.inl (zca Z 0, 30, .inl fun _ => 0)) := eX0_7_c (by decide) (by decide) (zDu_i _ _ _ _)
theorem pX0_32 {Z : zLay} {D : zDm} : eX0_11 Z D 32 0 = some (.inl (zca Z 0, 5, .inl fun _ => 0)) := eX0_8_c (by decide) (by decide) (zDu_i _ _ _ _)
theorem pX0_34 {Z : zLay} {D : zDm} {b : Nat} (hb : b < 4) : eX0_11 Z D 34 b = some (.inl (zca Z 0, (32, .inl fun _ => 0))) := eX0_9_c (by decide) (by decide) (zDr_i _ hb)
theorem pX0_33 {Z : zLay} {D : zDm} : eX0_11 Z D 33 0 = some (.inl (zca Z 9, 4, .inr (.inr (.inr (.inr (fun i => if i < 4 then some (zad Z 34 i) else none)))))) := eX0_9_c (by decide) (by decide) (zDr_o (by decide) (zDu_i _ _ _ _))
theorem pX0_35 {Z : zLay} {D : zDm} : eX0_11 Z D 35 0 = some (.inl (zca Z 0, 5, .inl fun _ => 0)) := eX0_10_c (by decide) (by decide) (zDu_i _ _ _ _)
theorem pX0_36 {Z : zLay} {D : zDm} : eX0_11 Z D 36 0 = some (.inl (zca Z 0, 4, .inl fun _ => 0)) := eX0_11_c (by decide) (by decide) (zDu_i _ _ _ _)
theorem pX0_37 {Z : zLay} {D : zDm} : eX0_11 Z D 37 0 = some (.inl (zca Z 0, 5, .inl fun _ => 0)) := zDu_i _ _ _ _
theorem qX0_26 {Z : zLay} {D : zDm} : gX0 Z D 26 0 = some (.inl (zca Z 0, 4, .inl fun _ => 0)) := zDu_o (by decide) pX0_26
theorem qX0_27 {Z : zLay} {D : zDm} : gX0 Z D 27 0 = some (.inl (zca Z 0, 4, .inl fun _ => 0)) := zDu_o (by decide) pX0_27
theorem qX0_28 {Z : zLay} {D : zDm} : gX0 Z D 28 0 = some (.inl (zca Z 0, 4, .inl fun _ => 0)) := zDu_o (by decide) pX0_28
theorem qX0_29 {Z : zLay} {D : zDm} : gX0 Z D 29 0 = some (.inl (zca Z 0, 4, .inl fun _ => 0)) := zDu_o (by decide) pX0_29
theorem qX0_30 {Z : zLay} {D : zDm} : gX0 Z D 30 0 = some (.inl (zca Z 0, 30, .inl fun _ => 0)) := zDu_o (by decide) pX0_30
theorem qX0_31 {Z : zLay} {D : zDm} : gX0 Z D 31 0 = some (.inl (zca Z 0, 30, .inl fun _ => 0)) := zDu_o (by decide) pX0_31
theorem qX0_32 {Z : zLay} {D : zDm} : gX0 Z D 32 0 = some (.inl (zca Z 0, 5, .inl fun _ => 0)) := zDu_o (by decide) pX0_32
theorem qX0_34 {Z : zLay} {D : zDm} {b : Nat} (hb : b < 4) : gX0 Z D 34 b = some (.inl (zca Z 0, (32, .inl fun _ => 0))) := zDu_o (by decide) (pX0_34 hb)
theorem qX0_33 {Z : zLay} {D : zDm} : gX0 Z D 33 0 = some (.inl (zca Z 9, 4, .inr (.inr (.inr (.inr (fun i => if i < 4 then some (zad Z 34 i) else none)))))) := zDu_o (by decide) pX0_33
theorem qX0_35 {Z : zLay} {D : zDm} : gX0 Z D 35 0 = some (.inl (zca Z 0, 5, .inl fun _ => 0)) := zDu_o (by decide) pX0_35
theorem qX0_36 {Z : zLay} {D : zDm} : gX0 Z D 36 0 = some (.inl (zca Z 0, 4, .inl fun _ => 0)) := zDu_o (by decide) pX0_36
theorem qX0_37 {Z : zLay} {D : zDm} : gX0 Z D 37 0 = some (.inl (zca Z 0, 5, .inl fun _ => 0)) := zDu_o (by decide) pX0_37
theorem qX0_25 {Z : zLay} {D : zDm} : gX0 Z D 25 0 = some (.inr (0, fX0_11 Z)) := zDu_i _ _ _ _
theorem eX1_2_c {Z : zLay} {D : zDm} {a b : Nat} {y : va_E} (w : a ≠ 43) (v : a < 45) (h : eX1_1 Z D a b = some y) : eX1_2 Z D a b = some y := zDu_o (by omega) (zDu_o (by omega) (h))
theorem eX1_1_c {Z : zLay} {D : zDm} {a b : Nat} {y : va_E} (w : a ≠ 43) (v : a < 44) (h : eX1_0 Z D a b = some y) : eX1_2 Z D a b = some y := eX1_2_c w (by omega) (zDu_o (by omega) (zDu_o (by omega) (h)))
theorem pX1_44 {Z : zLay} {D : zDm} : eX1_2 Z D 44 0 = some (.inl (zca Z 0, 10, .inl fun _ => 0)) := eX1_2_c (by decide) (by decide) (zDu_i _ _ _ _)
theorem pX1_45 {Z : zLay} {D : zDm} : eX1_2 Z D 45 0 = some (.inl (zca Z 0, 10, .inl fun _ => 0)) := zDu_i _ _ _ _
theorem qX1_44 {Z : zLay} {D : zDm} : gX1 Z D 44 0 = some (.inl (zca Z 0, 10, .inl fun _ => 0)) := zDu_o (by decide) pX1_44
theorem qX1_45 {Z : zLay} {D : zDm} : gX1 Z D 45 0 = some (.inl (zca Z 0, 10, .inl fun _ => 0)) := zDu_o (by decide) pX1_45
theorem qX1_43 {Z : zLay} {D : zDm} : gX1 Z D 43 0 = some (.inr (1, fX1_2 Z)) := zDu_i _ _ _ _
theorem eX2_2_c {Z : zLay} {D : zDm} {i : Nat} {a b : Nat} {y : va_E} (w : a ≠ 2) (v : a < 4) (h : eX2_1 Z i D a b = some y) : eX2_2 Z i D a b = some y := zDu_o (by omega) (zDu_o (by omega) (h))
theorem eX2_1_c {Z : zLay} {D : zDm} {i : Nat} {a b : Nat} {y : va_E} (w : a ≠ 2) (v : a < 3) (h : eX2_0 Z i D a b = some y) : eX2_2 Z i D a b = some y := eX2_2_c w (by omega) (zDu_o (by omega) (zDu_o (by omega) (h)))
theorem pX2_3 {Z : zLay} {D : zDm} {i : Nat} : eX2_2 Z i D 3 i = some (.inl (zca Z 0, 4, .inl fun _ => 0)) := eX2_2_c (by decide) (by decide) (zDu_i _ _ _ _)
theorem pX2_4 {Z : zLay} {D : zDm} {i : Nat} : eX2_2 Z i D 4 i = some (.inl (zca Z 0, 4, .inl fun _ => 0)) := zDu_i _ _ _ _
theorem qX2_3 {Z : zLay} {D : zDm} {i : Nat} : gX2 Z i D 3 i = some (.inl (zca Z 0, 4, .inl fun _ => 0)) := zDu_o (by decide) pX2_3
theorem qX2_4 {Z : zLay} {D : zDm} {i : Nat} : gX2 Z i D 4 i = some (.inl (zca Z 0, 4, .inl fun _ => 0)) := zDu_o (by decide) pX2_4
theorem qX2_2 {Z : zLay} {D : zDm} {i : Nat} : gX2 Z i D 2 i = some (.inr (2, fX2_2 Z i)) := zDu_i _ _ _ _
theorem eX2_1_b {Z : zLay} {D : zDm} {i a b : Nat} {y : va_E} (w : b ≠ i) (h : D a b = some y) : eX2_1 Z i D a b = some y := zDu_ob w (zDu_ob w (h))
theorem eX2_2_b {Z : zLay} {D : zDm} {i a b : Nat} {y : va_E} (w : b ≠ i) (h : D a b = some y) : eX2_2 Z i D a b = some y := zDu_ob w (zDu_ob w (eX2_1_b w h))
theorem gX2_b {Z : zLay} {D : zDm} {i a b : Nat} {y : va_E} (w : b ≠ i) (h : D a b = some y) : gX2 Z i D a b = some y := zDu_ob w (eX2_2_b w h)
theorem eX3_5_c {Z : zLay} {D : zDm} {a b : Nat} {y : va_E} (w : a ≠ 5) (v : a < 10) (h : eX3_4 Z D a b = some y) : eX3_5 Z D a b = some y := zDu_o (by omega) (zDu_o (by omega) (h))
theorem eX3_4_c {Z : zLay} {D : zDm} {a b : Nat} {y : va_E} (w : a ≠ 5) (v : a < 9) (h : eX3_3 Z D a b = some y) : eX3_5 Z D a b = some y := eX3_5_c w (by omega) (zDu_o (by omega) (zDu_o (by omega) (h)))
theorem eX3_3_c {Z : zLay} {D : zDm} {a b : Nat} {y : va_E} (w : a ≠ 5) (v : a < 8) (h : eX3_2 Z D a b = some y) : eX3_5 Z D a b = some y := eX3_4_c w (by omega) (zDu_o (by omega) (zDu_o (by omega) (h)))
theorem eX3_2_c {Z : zLay} {D : zDm} {a b : Nat} {y : va_E} (w : a ≠ 5) (v : a < 7) (h : eX3_1 Z D a b = some y) : eX3_5 Z D a b = some y := eX3_3_c w (by omega) (zDu_o (by omega) (zDu_o (by omega) (h)))
theorem eX3_1_c {Z : zLay} {D : zDm} {a b : Nat} {y : va_E} (w : a ≠ 5) (v : a < 6) (h : eX3_0 Z D a b = some y) : eX3_5 Z D a b = some y := eX3_2_c w (by omega) (zDu_o (by omega) (zDu_o (by omega) (h)))
theorem pX3_6 {Z : zLay} {D : zDm} : eX3_5 Z D 6 0 = some (.inl (zca Z 0, 50, .inl fun _ => 0)) := eX3_2_c (by decide) (by decide) (zDu_i _ _ _ _)
theorem pX3_7 {Z : zLay} {D : zDm} : eX3_5 Z D 7 0 = some (.inl (zca Z 0, 50, .inl fun _ => 0)) := eX3_3_c (by decide) (by decide) (zDu_i _ _ _ _)
theorem pX3_8 {Z : zLay} {D : zDm} : eX3_5 Z D 8 0 = some (.inl (zca Z 0, 50, .inl fun _ => 0)) := eX3_4_c (by decide) (by decide) (zDu_i _ _ _ _)
theorem pX3_9 {Z : zLay} {D : zDm} : eX3_5 Z D 9 0 = some (.inl (zca Z 0, 50, .inl fun _ => 0)) := eX3_5_c (by decide) (by decide) (zDu_i _ _ _ _)
theorem pX3_10 {Z : zLay} {D : zDm} : eX3_5 Z D 10 0 = some (.inl (zca Z 0, 50, .inl fun _ => 0)) := zDu_i _ _ _ _
theorem qX3_6 {Z : zLay} {D : zDm} : gX3 Z D 6 0 = some (.inl (zca Z 0, 50, .inl fun _ => 0)) := zDu_o (by decide) pX3_6
theorem qX3_7 {Z : zLay} {D : zDm} : gX3 Z D 7 0 = some (.inl (zca Z 0, 50, .inl fun _ => 0)) := zDu_o (by decide) pX3_7
theorem qX3_8 {Z : zLay} {D : zDm} : gX3 Z D 8 0 = some (.inl (zca Z 0, 50, .inl fun _ => 0)) := zDu_o (by decide) pX3_8
theorem qX3_9 {Z : zLay} {D : zDm} : gX3 Z D 9 0 = some (.inl (zca Z 0, 50, .inl fun _ => 0)) := zDu_o (by decide) pX3_9
theorem qX3_10 {Z : zLay} {D : zDm} : gX3 Z D 10 0 = some (.inl (zca Z 0, 50, .inl fun _ => 0)) := zDu_o (by decide) pX3_10
theorem qX3_5 {Z : zLay} {D : zDm} : gX3 Z D 5 0 = some (.inr (3, fX3_5 Z)) := zDu_i _ _ _ _
theorem eX4_2_c {Z : zLay} {D : zDm} {i : Nat} {a b : Nat} {y : va_E} (w : a ≠ 47) (v : a < 48) (h : eX4_1 Z i D a b = some y) : eX4_2 Z i D a b = some y := zDu_o (by omega) (zDu_o (by omega) (h))
theorem eX4_1_c {Z : zLay} {D : zDm} {i : Nat} {a b : Nat} {y : va_E} (w : a ≠ 47) (v : a < 48) (h : eX4_0 Z i D a b = some y) : eX4_2 Z i D a b = some y := eX4_2_c w (by omega) (zDu_o (by omega) (h))
theorem pX4_48 {Z : zLay} {D : zDm} {i : Nat} : eX4_2 Z i D 48 i = some (.inl (zca Z 1, 60, .inr (.inl fun _ => 0))) := zDu_i _ _ _ _
theorem qX4_48 {Z : zLay} {D : zDm} {i : Nat} : gX4 Z i D 48 i = some (.inl (zca Z 1, 60, .inr (.inl fun _ => 0))) := zDu_o (by decide) pX4_48
theorem qX4_47 {Z : zLay} {D : zDm} {i : Nat} : gX4 Z i D 47 i = some (.inr (4, fX4_2 Z i)) := zDu_i _ _ _ _
theorem eX4_1_b {Z : zLay} {D : zDm} {i a b : Nat} {y : va_E} (w : b ≠ i) (h : D a b = some y) : eX4_1 Z i D a b = some y := zDu_ob w (h)
theorem eX4_2_b {Z : zLay} {D : zDm} {i a b : Nat} {y : va_E} (w : b ≠ i) (h : D a b = some y) : eX4_2 Z i D a b = some y := zDu_ob w (zDu_ob w (eX4_1_b w h))
theorem gX4_b {Z : zLay} {D : zDm} {i a b : Nat} {y : va_E} (w : b ≠ i) (h : D a b = some y) : gX4 Z i D a b = some y := zDu_ob w (eX4_2_b w h)
theorem eX5_2_c {Z : zLay} {D : zDm} {a b : Nat} {y : va_E} (w : a ≠ 20) (v : a < 23) (h : eX5_1 Z D a b = some y) : eX5_2 Z D a b = some y := zDr_o (by omega) (zDu_o (by omega) (zDu_o (by omega) (h)))
theorem eX5_1_c {Z : zLay} {D : zDm} {a b : Nat} {y : va_E} (w : a ≠ 20) (v : a < 21) (h : eX5_0 Z D a b = some y) : eX5_2 Z D a b = some y := eX5_2_c w (by omega) (zDr_o (by omega) (zDu_o (by omega) (zDu_o (by omega) (h))))
theorem pX5_22 {Z : zLay} {D : zDm} {b : Nat} (hb : b < 2) : eX5_2 Z D 22 b = some (.inl (zca Z 3, (7200, .inl fun _ => 0))) := eX5_2_c (by decide) (by decide) (zDr_i _ hb)
theorem pX5_21 {Z : zLay} {D : zDm} : eX5_2 Z D 21 0 = some (.inl (zca Z 10, 2, .inr (.inr (.inr (.inr (fun i => if i < 2 then some (zad Z 22 i) else none)))))) := eX5_2_c (by decide) (by decide) (zDr_o (by decide) (zDu_i _ _ _ _))
theorem pX5_24 {Z : zLay} {D : zDm} {b : Nat} (hb : b < 2) : eX5_2 Z D 24 b = some (.inl (zca Z 0, (120, .inl fun _ => 0))) := zDr_i _ hb
theorem pX5_23 {Z : zLay} {D : zDm} : eX5_2 Z D 23 0 = some (.inl (zca Z 9, 2, .inr (.inr (.inr (.inr (fun i => if i < 2 then some (zad Z 24 i) else none)))))) := zDr_o (by decide) (zDu_i _ _ _ _)
theorem qX5_22 {Z : zLay} {D : zDm} {b : Nat} (hb : b < 2) : gX5 Z D 22 b = some (.inl (zca Z 3, (7200, .inl fun _ => 0))) := zDu_o (by decide) (pX5_22 hb)
theorem qX5_21 {Z : zLay} {D : zDm} : gX5 Z D 21 0 = some (.inl (zca Z 10, 2, .inr (.inr (.inr (.inr (fun i => if i < 2 then some (zad Z 22 i) else none)))))) := zDu_o (by decide) pX5_21
theorem qX5_24 {Z : zLay} {D : zDm} {b : Nat} (hb : b < 2) : gX5 Z D 24 b = some (.inl (zca Z 0, (120, .inl fun _ => 0))) := zDu_o (by decide) (pX5_24 hb)
theorem qX5_23 {Z : zLay} {D : zDm} : gX5 Z D 23 0 = some (.inl (zca Z 9, 2, .inr (.inr (.inr (.inr (fun i => if i < 2 then some (zad Z 24 i) else none)))))) := zDu_o (by decide) pX5_23
theorem qX5_20 {Z : zLay} {D : zDm} : gX5 Z D 20 0 = some (.inr (5, fX5_2 Z)) := zDu_i _ _ _ _
theorem eX6_2_c {Z : zLay} {D : zDm} {i : Nat} {a b : Nat} {y : va_E} (w : a ≠ 40) (v : a < 42) (h : eX6_1 Z i D a b = some y) : eX6_2 Z i D a b = some y := zDu_o (by omega) (zDu_o (by omega) (h))
theorem eX6_1_c {Z : zLay} {D : zDm} {i : Nat} {a b : Nat} {y : va_E} (w : a ≠ 40) (v : a < 41) (h : eX6_0 Z i D a b = some y) : eX6_2 Z i D a b = some y := eX6_2_c w (by omega) (zDu_o (by omega) (zDu_o (by omega) (h)))
theorem pX6_41 {Z : zLay} {D : zDm} {i : Nat} : eX6_2 Z i D 41 i = some (.inl (zca Z 0, 7, .inl fun _ => 0)) := eX6_2_c (by decide) (by decide) (zDu_i _ _ _ _)
theorem pX6_42 {Z : zLay} {D : zDm} {i : Nat} : eX6_2 Z i D 42 i = some (.inl (zca Z 4, 7, .inl fun _ => 0)) := zDu_i _ _ _ _
theorem qX6_41 {Z : zLay} {D : zDm} {i : Nat} : gX6 Z i D 41 i = some (.inl (zca Z 0, 7, .inl fun _ => 0)) := zDu_o (by decide) pX6_41
theorem qX6_42 {Z : zLay} {D : zDm} {i : Nat} : gX6 Z i D 42 i = some (.inl (zca Z 4, 7, .inl fun _ => 0)) := zDu_o (by decide) pX6_42
theorem qX6_40 {Z : zLay} {D : zDm} {i : Nat} : gX6 Z i D 40 i = some (.inr (6, fX6_2 Z i)) := zDu_i _ _ _ _
theorem eX6_1_b {Z : zLay} {D : zDm} {i a b : Nat} {y : va_E} (w : b ≠ i) (h : D a b = some y) : eX6_1 Z i D a b = some y := zDu_ob w (zDu_ob w (h))
theorem eX6_2_b {Z : zLay} {D : zDm} {i a b : Nat} {y : va_E} (w : b ≠ i) (h : D a b = some y) : eX6_2 Z i D a b = some y := zDu_ob w (zDu_ob w (eX6_1_b w h))
theorem gX6_b {Z : zLay} {D : zDm} {i a b : Nat} {y : va_E} (w : b ≠ i) (h : D a b = some y) : gX6 Z i D a b = some y := zDu_ob w (eX6_2_b w h)
theorem eX8_5_c {Z : zLay} {D : zDm} {i : Nat} {a b : Nat} {y : va_E} (w : a ≠ 13) (v : a < 18) (h : eX8_4 Z i D a b = some y) : eX8_5 Z i D a b = some y := zDu_o (by omega) (zDu_o (by omega) (h))
theorem eX8_4_c {Z : zLay} {D : zDm} {i : Nat} {a b : Nat} {y : va_E} (w : a ≠ 13) (v : a < 17) (h : eX8_3 Z i D a b = some y) : eX8_5 Z i D a b = some y := eX8_5_c w (by omega) (zDu_o (by omega) (zDu_o (by omega) (h)))
theorem eX8_3_c {Z : zLay} {D : zDm} {i : Nat} {a b : Nat} {y : va_E} (w : a ≠ 13) (v : a < 16) (h : eX8_2 Z i D a b = some y) : eX8_5 Z i D a b = some y := eX8_4_c w (by omega) (zDu_o (by omega) (zDu_o (by omega) (h)))
theorem eX8_2_c {Z : zLay} {D : zDm} {i : Nat} {a b : Nat} {y : va_E} (w : a ≠ 13) (v : a < 15) (h : eX8_1 Z i D a b = some y) : eX8_5 Z i D a b = some y := eX8_3_c w (by omega) (zDu_o (by omega) (zDu_o (by omega) (h)))
theorem eX8_1_c {Z : zLay} {D : zDm} {i : Nat} {a b : Nat} {y : va_E} (w : a ≠ 13) (v : a < 14) (h : eX8_0 Z i D a b = some y) : eX8_5 Z i D a b = some y := eX8_2_c w (by omega) (zDu_o (by omega) (zDu_o (by omega) (h)))
theorem pX8_14 {Z : zLay} {D : zDm} {i : Nat} : eX8_5 Z i D 14 i = some (.inl (zca Z 0, 4, .inl fun _ => 0)) := eX8_2_c (by decide) (by decide) (zDu_i _ _ _ _)
theorem pX8_15 {Z : zLay} {D : zDm} {i : Nat} : eX8_5 Z i D 15 i = some (.inl (zca Z 0, 4, .inl fun _ => 0)) := eX8_3_c (by decide) (by decide) (zDu_i _ _ _ _)
theorem pX8_16 {Z : zLay} {D : zDm} {i : Nat} : eX8_5 Z i D 16 i = some (.inl (zca Z 0, 4, .inl fun _ => 0)) := eX8_4_c (by decide) (by decide) (zDu_i _ _ _ _)
theorem pX8_17 {Z : zLay} {D : zDm} {i : Nat} : eX8_5 Z i D 17 i = some (.inl (zca Z 4, 4, .inl fun _ => 0)) := eX8_5_c (by decide) (by decide) (zDu_i _ _ _ _)
theorem pX8_18 {Z : zLay} {D : zDm} {i : Nat} : eX8_5 Z i D 18 i = some (.inl (zca Z 4, 4, .inl fun _ => 0)) := zDu_i _ _ _ _
theorem qX8_14 {Z : zLay} {D : zDm} {i : Nat} : gX8 Z i D 14 i = some (.inl (zca Z 0, 4, .inl fun _ => 0)) := zDu_o (by decide) pX8_14
theorem qX8_15 {Z : zLay} {D : zDm} {i : Nat} : gX8 Z i D 15 i = some (.inl (zca Z 0, 4, .inl fun _ => 0)) := zDu_o (by decide) pX8_15
theorem qX8_16 {Z : zLay} {D : zDm} {i : Nat} : gX8 Z i D 16 i = some (.inl (zca Z 0, 4, .inl fun _ => 0)) := zDu_o (by decide) pX8_16
theorem qX8_17 {Z : zLay} {D : zDm} {i : Nat} : gX8 Z i D 17 i = some (.inl (zca Z 4, 4, .inl fun _ => 0)) := zDu_o (by decide) pX8_17
theorem qX8_18 {Z : zLay} {D : zDm} {i : Nat} : gX8 Z i D 18 i = some (.inl (zca Z 4, 4, .inl fun _ => 0)) := zDu_o (by decide) pX8_18
theorem qX8_13 {Z : zLay} {D : zDm} {i : Nat} : gX8 Z i D 13 i = some (.inr (8, fX8_5 Z i)) := zDu_i _ _ _ _
theorem eX8_1_b {Z : zLay} {D : zDm} {i a b : Nat} {y : va_E} (w : b ≠ i) (h : D a b = some y) : eX8_1 Z i D a b = some y := zDu_ob w (zDu_ob w (h))
theorem eX8_2_b {Z : zLay} {D : zDm} {i a b : Nat} {y : va_E} (w : b ≠ i) (h : D a b = some y) : eX8_2 Z i D a b = some y := zDu_ob w (zDu_ob w (eX8_1_b w h))
theorem eX8_3_b {Z : zLay} {D : zDm} {i a b : Nat} {y : va_E} (w : b ≠ i) (h : D a b = some y) : eX8_3 Z i D a b = some y := zDu_ob w (zDu_ob w (eX8_2_b w h))
theorem eX8_4_b {Z : zLay} {D : zDm} {i a b : Nat} {y : va_E} (w : b ≠ i) (h : D a b = some y) : eX8_4 Z i D a b = some y := zDu_ob w (zDu_ob w (eX8_3_b w h))
theorem eX8_5_b {Z : zLay} {D : zDm} {i a b : Nat} {y : va_E} (w : b ≠ i) (h : D a b = some y) : eX8_5 Z i D a b = some y := zDu_ob w (zDu_ob w (eX8_4_b w h))
theorem gX8_b {Z : zLay} {D : zDm} {i a b : Nat} {y : va_E} (w : b ≠ i) (h : D a b = some y) : gX8 Z i D a b = some y := zDu_ob w (eX8_5_b w h)
theorem wq_221 : Cond.methodLink "AlpCommune$Way" (3 : Nat) ({ cls := "java/lang/Object", name := "<init>", desc := "()V" } : MethodName) ∈ zTB := zTB_mem 348 (by decide +kernel) (by decide +kernel)
theorem wq_253 : Cond.fieldLink "AlpCommune$Way" (11 : Nat) "AlpCommune$Way" "slopes" "[LAlpCommune$Slope;" ∈ zTB := zTB_mem 380 (by decide +kernel) (by decide +kernel)
theorem wq_222 : Cond.classLink "AlpCommune$Way" (9 : Nat) "AlpCommune$Slope" ∈ zTB := zTB_mem 349 (by decide +kernel) (by decide +kernel)
section YX7
variable {E : zEn} {nL h n0 c0 mc ms : Nat} {Z : zLay} {D : zDm} {Q : State → Prop}
def fX7_0 : List Value := [.null, .int 0, .int 0, .int 0, .int 0, .int 0, .int 0]
theorem nfX7 : ∀ j, j < 7 → defaultValue (tyX7 j) = vp_V fX7_0 j := by decide +kernel
def eX7_0 (Z : zLay) (D : zDm) : zDm := D
theorem sX7_0 (C : zCN E cX7_init RX7 2 Z h n0 c0 19 126) (hh : 2 ≤ h) (hc : c0 = 275) (kk : zNN E 2 Z n0 Q 4 [(0, .ref (zad Z 38 0))] [] (zDu (eX7_0 Z D) 38 0 (.inr (7, fX7_0))) 0 0) : zNN E 2 Z n0 Q 0 [(0, .ref (zad Z 38 0))] [] (zDu (eX7_0 Z D) 38 0 (.inr (7, fX7_0))) 0 0 := by
  subst hc
  refine zn_aload_n C dX7_init_0 rfl ?_
  refine zn_obj C wq_221 wq_26 wq_27 dX7_init_1 (by omega) (Nat.le_of_ble_eq_true rfl) ?_
  exact kk
def fX7_1 (Z : zLay) : List Value := [.ref (zad Z 39 0), .int 0, .int 0, .int 0, .int 0, .int 0, .int 0]
def eX7_1 (Z : zLay) (D : zDm) : zDm := (zDu (zDu (eX7_0 Z D) 38 0 (.inr (7, fX7_0))) 39 0 (.inl (zca Z 7, 6, .inr (.inr (.inr (.inr (fun _ => none)))))))
theorem sX7_4 (C : zCN E cX7_init RX7 2 Z h n0 c0 19 126) (hh : 2 ≤ h) (hc : c0 = 275) (kk : zNN E 2 Z n0 Q 13 [(0, .ref (zad Z 38 0))] [] (zDu (eX7_1 Z D) 38 0 (.inr (7, fX7_1 Z))) 1 6) : zNN E 2 Z n0 Q 4 [(0, .ref (zad Z 38 0))] [] (zDu (eX7_0 Z D) 38 0 (.inr (7, fX7_0))) 0 0 := by
  subst hc
  refine zn_aload_n C dX7_init_4 rfl ?_
  refine zn_bipush C dX7_init_5 (v := 6) (by decide) ?_
  refine zn_anew C (Cn := RX6) (k := 39) (i := 0) (t0 := 7) (N := 6) wq_222 (by unfold zOvL; simp [RX6]) rfl dX7_init_7 (by decide) (by decide) (by decide) (by decide) rfl (by omega) (by omega) ?_
  refine zn_putF C (by decide +kernel) 0 zin_X7 rfl (Nat.le_of_ble_eq_true rfl) rfl rfl tyX7_ok nmX7 rfl (ty := tyX7 0) (by decide +kernel) wq_253 dX7_init_10 (zDu_o (by decide) (zDu_i _ _ _ _)) (Nat.le_of_ble_eq_true rfl) rfl rfl ?_
  exact kk
end YX7
theorem eX7_0_o {Z : zLay} {D : zDm} {a b : Nat} {y : va_E} (h : D a b = some y) : eX7_0 Z D a b = some y := h
theorem eX7_1_o {Z : zLay} {D : zDm} {a b : Nat} {y : va_E} (w : a < 38 ∨ 42 < a) (h : D a b = some y) : eX7_1 Z D a b = some y := zDu_o (by omega) (zDu_o (by omega) (eX7_0_o h))
theorem eX7_1_c {Z : zLay} {D : zDm} {a b : Nat} {y : va_E} (w : a ≠ 38) (v : a < 39) (h : eX7_0 Z D a b = some y) : eX7_1 Z D a b = some y := zDu_o (by omega) (zDu_o (by omega) (h))
theorem pX7_39 {Z : zLay} {D : zDm} : eX7_1 Z D 39 0 = some (.inl (zca Z 7, 6, .inr (.inr (.inr (.inr (fun _ => none)))))) := zDu_i _ _ _ _
def wX7_39 (Z : zLay) (D : zDm) : Nat → zDm
  | 0 => D
  | n + 1 => zDu (gX6 Z n (wX7_39 Z D n)) 39 0 (.inl (zca Z 7, 6, .inr (.inr (.inr (.inr (zfill Z 40 (n + 1)))))))
theorem wX7_39_o {Z : zLay} {D : zDm} {a b : Nat} {y : va_E} (v : a ≠ 39) (u : a < 40 ∨ 42 < a) (h : D a b = some y) (n : Nat) : wX7_39 Z D n a b = some y := by
  induction n with
  | zero => exact h
  | succ n ih => exact zDu_o v (gX6_o u ih)
theorem wX7_39_A {Z : zLay} {D : zDm} (h : D 39 0 = some (.inl (zca Z 7, 6, .inr (.inr (.inr (.inr (fun _ => none))))))) (n : Nat) : wX7_39 Z D n 39 0 = some (.inl (zca Z 7, 6, .inr (.inr (.inr (.inr (zfill Z 40 n)))))) := by
  cases n with
  | zero => exact h
  | succ n => exact zDu_i _ _ _ _
theorem wX7_39_41 {Z : zLay} {D : zDm} (n : Nat) : ∀ j, j < n → wX7_39 Z D n 41 j = some (.inl (zca Z 0, 7, .inl fun _ => 0)) := by
  induction n with
  | zero => exact fun j h => absurd h (Nat.not_lt_zero _)
  | succ n ih =>
    intro j h
    by_cases q : j = n
    · subst q
      exact zDu_o (by decide) qX6_41
    · exact zDu_o (by decide) (gX6_b q (ih j (by omega)))
theorem wX7_39_42 {Z : zLay} {D : zDm} (n : Nat) : ∀ j, j < n → wX7_39 Z D n 42 j = some (.inl (zca Z 4, 7, .inl fun _ => 0)) := by
  induction n with
  | zero => exact fun j h => absurd h (Nat.not_lt_zero _)
  | succ n ih =>
    intro j h
    by_cases q : j = n
    · subst q
      exact zDu_o (by decide) qX6_42
    · exact zDu_o (by decide) (gX6_b q (ih j (by omega)))
theorem wX7_39_40 {Z : zLay} {D : zDm} (n : Nat) : ∀ j, j < n → wX7_39 Z D n 40 j = some (.inr (6, fX6_2 Z j)) := by
  induction n with
  | zero => exact fun j h => absurd h (Nat.not_lt_zero _)
  | succ n ih =>
    intro j h
    by_cases q : j = n
    · subst q
      exact zDu_o (by decide) qX6_40
    · exact zDu_o (by decide) (gX6_b q (ih j (by omega)))
theorem wq_n225 : Cond.methodLinkNest RX7 17 yX6_init "AlpCommune" ∈ zNest := zNest_mem 225 (by decide +kernel) (by decide +kernel)
theorem wq_224 : Cond.instantiable "AlpCommune$Slope" (6 : Nat) ∈ zTB := zTB_mem 351 (by decide +kernel) (by decide +kernel)
theorem wq_8 : Cond.initialized "AlpCommune$Slope" ∈ zTB := zTB_mem 135 (by decide +kernel) (by decide +kernel)
theorem wq_226 : Cond.instanceMethod ({ cls := "AlpCommune$Slope", name := "<init>", desc := "()V" } : MethodName) ∈ zTB := zTB_mem 353 (by decide +kernel) (by decide +kernel)
theorem wq_227 : Cond.code yX6_init cX6_init 1 none ∈ zTB := zTB_mem 354 (by decide +kernel) (by decide +kernel)
theorem sX7_h39 {E : zEn} {h n0 : Nat} {Z : zLay} {D : zDm} {Q : State → Prop} (C : zCN E cX7_init RX7 2 Z h n0 275 19 126) (hh : 2 ≤ h) (hD : D 38 0 = some (.inr (7, fX7_1 Z))) (hA : D 39 0 = some (.inl (zca Z 7, 6, .inr (.inr (.inr (.inr (fun _ => none))))))) (kk : zNN E 2 Z n0 Q 40 [(1, .int (nI 6)), (0, .ref (zad Z 38 0))] [] (wX7_39 Z D 6) 19 126) : ∀ m n cn bn, n + m = 6 → cn = 1 + 3 * n → bn = 6 + 20 * n → zNN E 2 Z n0 Q 15 [(1, .int (nI n)), (0, .ref (zad Z 38 0))] [] (wX7_39 Z D n) cn bn := by
  intro m
  induction m with
  | zero =>
    intro n cn bn e1 e2 e3
    obtain rfl : n = 6 := e1
    subst e2 e3
    refine zn_iload_n C dX7_init_15 rfl ?_
    refine zn_bipush C dX7_init_16 (v := 6) (by decide) ?_
    refine zn_icmp C dX7_init_18 (tgt := 40) (by decide) (fun _ => kk) (fun q => absurd (by decide +kernel) q)
  | succ m ih =>
    intro n cn bn e1 e2 e3
    have hn : n < 6 := by omega
    obtain ⟨n1, n2, n3⟩ := nI41_c n (by omega)
    refine zn_iload_n C dX7_init_15 rfl ?_
    refine zn_bipush C dX7_init_16 (v := 6) (by decide) ?_
    refine zn_icmp C dX7_init_18 (tgt := 40) (by decide) (fun q => absurd q ((by decide +kernel : ∀ n, n < 6 → ¬ (6 : Int32) ≤ nI n) n hn)) (fun _ => ?_)
    refine zn_aload_n C dX7_init_21 rfl ?_
    refine zn_get C 0 zin_X7 rfl (Nat.le_of_ble_eq_true rfl) rfl wq_253 dX7_init_22 (wX7_39_o (by decide) (by decide) hD n) (v := .ref (zad Z 39 0)) rfl ?_
    refine zn_iload_n C dX7_init_25 rfl ?_
    refine zn_new C (Cn := RX6) (T := TX6) (N := 6) (ci := 6) (fs := fX6_0) (k := 40) (i := n) zin_X6 tyX6_ok rfl nfX6 wq_222 wq_224 wq_8 dX7_init_26 hn (by show 276 + 3 * n = 275 + cn; omega) (by omega) (by omega) ?_
    refine zn_dup C dX7_init_29 rfl ?_
    refine zn_callN C (mX6 (D := wX7_39 Z D n) (i := n) hn (by omega)) rfl wq_n225 wq_226 wq_227 wq_8 (by decide +kernel) (by decide) (by omega) (by omega) (by omega) dX7_init_30 (Nat.le_of_ble_eq_true rfl) ?_
    refine zn_aast C (k := 39) (i := 0) (k1 := 40) (i1 := n) (N := 6) (t0 := 7) (ci := 6) (f := zfill Z 40 n) (gX6_o (by decide) (wX7_39_A hA n)) rfl qX6_40 rfl n2 (by rw [n3]; exact hn) dX7_init_33 ?_
    rw [n3]
    refine zn_iinc C (kk := 0) dX7_init_34 rfl n1 (by decide) rfl ?_
    refine zn_goto C dX7_init_37 (tgt := 15) (by decide) ?_
    exact ih (n + 1) _ _ (by omega) (by omega) (by omega)
def gX7 (Z : zLay) (D : zDm) : zDm := (wX7_39 Z (zDu (eX7_1 Z D) 38 0 (.inr (7, fX7_1 Z))) 6)
theorem gX7_o {Z : zLay} {D : zDm} {a b : Nat} {y : va_E} (w : a < 38 ∨ 42 < a) (h : D a b = some y) : gX7 Z D a b = some y := wX7_39_o (by omega) (by omega) (zDu_o (by omega) (eX7_1_o w h)) _
theorem mX7 {l : Launch} {Z : zLay} {D : zDm} {n0 c0 : Nat} (hc : c0 = 275) : zMetN l yX7_init cX7_init 2 2 Z n0 c0 19 126 [.ref (zad Z 38 0)] (zDu D 38 0 (.inr (7, fX7_0))) (gX7 Z D) := by
  subst hc
  exact zMetN_of (by decide +kernel) rfl (Nat.le_of_ble_eq_true rfl) [(0, .ref (zad Z 38 0))] rfl fun E h1 h2 C => sX7_0 C (Nat.le_refl _) rfl (sX7_4 C (Nat.le_refl _) rfl (zn_iconst C dX7_init_13 (v := nI 0) (by decide +kernel) (zn_istore_n C dX7_init_14 (i := 1) rfl (by decide) rfl (sX7_h39 C (Nat.le_refl _) (zDu_i _ _ _ _) (zDu_o (by decide) pX7_39) (zn_ret C (by decide +kernel) h1 h2 rfl (Nat.le_refl _) dX7_init_40) 6 0 _ _ rfl rfl rfl))))
theorem qX7_38 {Z : zLay} {D : zDm} : gX7 Z D 38 0 = some (.inr (7, fX7_1 Z)) := wX7_39_o (by decide) (by decide) (zDu_i _ _ _ _) _
theorem qX7_39 {Z : zLay} {D : zDm} : gX7 Z D 39 0 = some (.inl (zca Z 7, 6, .inr (.inr (.inr (.inr (zfill Z 40 6)))))) := wX7_39_A (zDu_o (by decide) pX7_39) 6
theorem qX7_41 {Z : zLay} {D : zDm} {b : Nat} (hb : b < 6) : gX7 Z D 41 b = some (.inl (zca Z 0, 7, .inl fun _ => 0)) := wX7_39_41 6 b hb
theorem qX7_42 {Z : zLay} {D : zDm} {b : Nat} (hb : b < 6) : gX7 Z D 42 b = some (.inl (zca Z 4, 7, .inl fun _ => 0)) := wX7_39_42 6 b hb
theorem qX7_40 {Z : zLay} {D : zDm} {b : Nat} (hb : b < 6) : gX7 Z D 40 b = some (.inr (6, fX6_2 Z b)) := wX7_39_40 6 b hb
theorem wq_67 : Cond.methodLink "AlpCommune$Words" (3 : Nat) ({ cls := "java/lang/Object", name := "<init>", desc := "()V" } : MethodName) ∈ zTB := zTB_mem 194 (by decide +kernel) (by decide +kernel)
theorem wq_125 : Cond.fieldLink "AlpCommune$Words" (11 : Nat) "AlpCommune$Words" "rows" "[LAlpCommune$Word;" ∈ zTB := zTB_mem 252 (by decide +kernel) (by decide +kernel)
theorem wq_68 : Cond.classLink "AlpCommune$Words" (9 : Nat) "AlpCommune$Word" ∈ zTB := zTB_mem 195 (by decide +kernel) (by decide +kernel)
theorem wq_129 : Cond.fieldLink "AlpCommune$Words" (17 : Nat) "AlpCommune$Words" "tape" "[B" ∈ zTB := zTB_mem 256 (by decide +kernel) (by decide +kernel)
theorem wq_123 : Cond.arrayClass ClassFile.FieldType.byte ∈ zTB := zTB_mem 250 (by decide +kernel) (by decide +kernel)
section YX9
variable {E : zEn} {nL h n0 c0 mc ms : Nat} {Z : zLay} {D : zDm} {Q : State → Prop}
def fX9_0 : List Value := [.null, .int 0, .null, .int 0, .int 0]
theorem nfX9 : ∀ j, j < 5 → defaultValue (tyX9 j) = vp_V fX9_0 j := by decide +kernel
def eX9_0 (Z : zLay) (D : zDm) : zDm := D
theorem sX9_0 (C : zCN E cX9_init RX9 2 Z h n0 c0 242 1420) (hh : 2 ≤ h) (hc : c0 = 9) (kk : zNN E 2 Z n0 Q 4 [(0, .ref (zad Z 11 0))] [] (zDu (eX9_0 Z D) 11 0 (.inr (9, fX9_0))) 0 0) : zNN E 2 Z n0 Q 0 [(0, .ref (zad Z 11 0))] [] (zDu (eX9_0 Z D) 11 0 (.inr (9, fX9_0))) 0 0 := by
  subst hc
  refine zn_aload_n C dX9_init_0 rfl ?_
  refine zn_obj C wq_67 wq_26 wq_27 dX9_init_1 (by omega) (Nat.le_of_ble_eq_true rfl) ?_
  exact kk
def fX9_1 (Z : zLay) : List Value := [.ref (zad Z 12 0), .int 0, .null, .int 0, .int 0]
def eX9_1 (Z : zLay) (D : zDm) : zDm := (zDu (zDu (eX9_0 Z D) 11 0 (.inr (9, fX9_0))) 12 0 (.inl (zca Z 6, 40, .inr (.inr (.inr (.inr (fun _ => none)))))))
theorem sX9_4 (C : zCN E cX9_init RX9 2 Z h n0 c0 242 1420) (hh : 2 ≤ h) (hc : c0 = 9) (kk : zNN E 2 Z n0 Q 13 [(0, .ref (zad Z 11 0))] [] (zDu (eX9_1 Z D) 11 0 (.inr (9, fX9_1 Z))) 1 40) : zNN E 2 Z n0 Q 4 [(0, .ref (zad Z 11 0))] [] (zDu (eX9_0 Z D) 11 0 (.inr (9, fX9_0))) 0 0 := by
  subst hc
  refine zn_aload_n C dX9_init_4 rfl ?_
  refine zn_bipush C dX9_init_5 (v := 40) (by decide) ?_
  refine zn_anew C (Cn := RX8) (k := 12) (i := 0) (t0 := 6) (N := 40) wq_68 (by unfold zOvL; simp [RX8]) rfl dX9_init_7 (by decide) (by decide) (by decide) (by decide) rfl (by omega) (by omega) ?_
  refine zn_putF C (by decide +kernel) 0 zin_X9 rfl (Nat.le_of_ble_eq_true rfl) rfl rfl tyX9_ok nmX9 rfl (ty := tyX9 0) (by decide +kernel) wq_125 dX9_init_10 (zDu_o (by decide) (zDu_i _ _ _ _)) (Nat.le_of_ble_eq_true rfl) rfl rfl ?_
  exact kk
def fX9_2 (Z : zLay) : List Value := [.ref (zad Z 12 0), .int 0, .ref (zad Z 19 0), .int 0, .int 0]
def eX9_2 (Z : zLay) (D : zDm) : zDm := (zDu (zDu (eX9_1 Z D) 11 0 (.inr (9, fX9_1 Z))) 19 0 (.inl (zca Z 2, 100, .inl fun _ => 0)))
theorem sX9_13 (C : zCN E cX9_init RX9 2 Z h n0 c0 242 1420) (hh : 2 ≤ h) (hc : c0 = 9) (kk : zNN E 2 Z n0 Q 21 [(0, .ref (zad Z 11 0))] [] (zDu (eX9_2 Z D) 11 0 (.inr (9, fX9_2 Z))) 2 140) : zNN E 2 Z n0 Q 13 [(0, .ref (zad Z 11 0))] [] (zDu (eX9_1 Z D) 11 0 (.inr (9, fX9_1 Z))) 1 40 := by
  subst hc
  refine zn_aload_n C dX9_init_13 rfl ?_
  refine zn_bipush C dX9_init_14 (v := 100) (by decide) ?_
  refine zn_newa C (atype := .byte) (k := 19) (i := 0) (t0 := 2) (N := 100) (a0 := (100, .inl fun _ => 0)) wq_123 rfl dX9_init_16 (by decide) (by decide) (by decide) (fun _ => rfl) (by decide) rfl (by omega) (by omega) ?_
  refine zn_putF C (by decide +kernel) 2 zin_X9 rfl (Nat.le_of_ble_eq_true rfl) rfl rfl tyX9_ok nmX9 rfl (ty := tyX9 2) (by decide +kernel) wq_129 dX9_init_18 (zDu_o (by decide) (zDu_i _ _ _ _)) (Nat.le_of_ble_eq_true rfl) rfl rfl ?_
  exact kk
end YX9
theorem eX9_0_o {Z : zLay} {D : zDm} {a b : Nat} {y : va_E} (h : D a b = some y) : eX9_0 Z D a b = some y := h
theorem eX9_1_o {Z : zLay} {D : zDm} {a b : Nat} {y : va_E} (w : a < 11 ∨ 19 < a) (h : D a b = some y) : eX9_1 Z D a b = some y := zDu_o (by omega) (zDu_o (by omega) (eX9_0_o h))
theorem eX9_2_o {Z : zLay} {D : zDm} {a b : Nat} {y : va_E} (w : a < 11 ∨ 19 < a) (h : D a b = some y) : eX9_2 Z D a b = some y := zDu_o (by omega) (zDu_o (by omega) (eX9_1_o w h))
theorem eX9_2_c {Z : zLay} {D : zDm} {a b : Nat} {y : va_E} (w : a ≠ 11) (v : a < 19) (h : eX9_1 Z D a b = some y) : eX9_2 Z D a b = some y := zDu_o (by omega) (zDu_o (by omega) (h))
theorem eX9_1_c {Z : zLay} {D : zDm} {a b : Nat} {y : va_E} (w : a ≠ 11) (v : a < 12) (h : eX9_0 Z D a b = some y) : eX9_2 Z D a b = some y := eX9_2_c w (by omega) (zDu_o (by omega) (zDu_o (by omega) (h)))
theorem pX9_12 {Z : zLay} {D : zDm} : eX9_2 Z D 12 0 = some (.inl (zca Z 6, 40, .inr (.inr (.inr (.inr (fun _ => none)))))) := eX9_2_c (by decide) (by decide) (zDu_i _ _ _ _)
theorem pX9_19 {Z : zLay} {D : zDm} : eX9_2 Z D 19 0 = some (.inl (zca Z 2, 100, .inl fun _ => 0)) := zDu_i _ _ _ _
def wX9_12 (Z : zLay) (D : zDm) : Nat → zDm
  | 0 => D
  | n + 1 => zDu (gX8 Z n (wX9_12 Z D n)) 12 0 (.inl (zca Z 6, 40, .inr (.inr (.inr (.inr (zfill Z 13 (n + 1)))))))
theorem wX9_12_o {Z : zLay} {D : zDm} {a b : Nat} {y : va_E} (v : a ≠ 12) (u : a < 13 ∨ 18 < a) (h : D a b = some y) (n : Nat) : wX9_12 Z D n a b = some y := by
  induction n with
  | zero => exact h
  | succ n ih => exact zDu_o v (gX8_o u ih)
theorem wX9_12_A {Z : zLay} {D : zDm} (h : D 12 0 = some (.inl (zca Z 6, 40, .inr (.inr (.inr (.inr (fun _ => none))))))) (n : Nat) : wX9_12 Z D n 12 0 = some (.inl (zca Z 6, 40, .inr (.inr (.inr (.inr (zfill Z 13 n)))))) := by
  cases n with
  | zero => exact h
  | succ n => exact zDu_i _ _ _ _
theorem wX9_12_14 {Z : zLay} {D : zDm} (n : Nat) : ∀ j, j < n → wX9_12 Z D n 14 j = some (.inl (zca Z 0, 4, .inl fun _ => 0)) := by
  induction n with
  | zero => exact fun j h => absurd h (Nat.not_lt_zero _)
  | succ n ih =>
    intro j h
    by_cases q : j = n
    · subst q
      exact zDu_o (by decide) qX8_14
    · exact zDu_o (by decide) (gX8_b q (ih j (by omega)))
theorem wX9_12_15 {Z : zLay} {D : zDm} (n : Nat) : ∀ j, j < n → wX9_12 Z D n 15 j = some (.inl (zca Z 0, 4, .inl fun _ => 0)) := by
  induction n with
  | zero => exact fun j h => absurd h (Nat.not_lt_zero _)
  | succ n ih =>
    intro j h
    by_cases q : j = n
    · subst q
      exact zDu_o (by decide) qX8_15
    · exact zDu_o (by decide) (gX8_b q (ih j (by omega)))
theorem wX9_12_16 {Z : zLay} {D : zDm} (n : Nat) : ∀ j, j < n → wX9_12 Z D n 16 j = some (.inl (zca Z 0, 4, .inl fun _ => 0)) := by
  induction n with
  | zero => exact fun j h => absurd h (Nat.not_lt_zero _)
  | succ n ih =>
    intro j h
    by_cases q : j = n
    · subst q
      exact zDu_o (by decide) qX8_16
    · exact zDu_o (by decide) (gX8_b q (ih j (by omega)))
theorem wX9_12_17 {Z : zLay} {D : zDm} (n : Nat) : ∀ j, j < n → wX9_12 Z D n 17 j = some (.inl (zca Z 4, 4, .inl fun _ => 0)) := by
  induction n with
  | zero => exact fun j h => absurd h (Nat.not_lt_zero _)
  | succ n ih =>
    intro j h
    by_cases q : j = n
    · subst q
      exact zDu_o (by decide) qX8_17
    · exact zDu_o (by decide) (gX8_b q (ih j (by omega)))
theorem wX9_12_18 {Z : zLay} {D : zDm} (n : Nat) : ∀ j, j < n → wX9_12 Z D n 18 j = some (.inl (zca Z 4, 4, .inl fun _ => 0)) := by
  induction n with
  | zero => exact fun j h => absurd h (Nat.not_lt_zero _)
  | succ n ih =>
    intro j h
    by_cases q : j = n
    · subst q
      exact zDu_o (by decide) qX8_18
    · exact zDu_o (by decide) (gX8_b q (ih j (by omega)))
theorem wX9_12_13 {Z : zLay} {D : zDm} (n : Nat) : ∀ j, j < n → wX9_12 Z D n 13 j = some (.inr (8, fX8_5 Z j)) := by
  induction n with
  | zero => exact fun j h => absurd h (Nat.not_lt_zero _)
  | succ n ih =>
    intro j h
    by_cases q : j = n
    · subst q
      exact zDu_o (by decide) qX8_13
    · exact zDu_o (by decide) (gX8_b q (ih j (by omega)))
theorem wq_n71 : Cond.methodLinkNest RX9 21 yX8_init "AlpCommune" ∈ zNest := zNest_mem 71 (by decide +kernel) (by decide +kernel)
theorem wq_70 : Cond.instantiable "AlpCommune$Word" (12 : Nat) ∈ zTB := zTB_mem 197 (by decide +kernel) (by decide +kernel)
theorem wq_4 : Cond.initialized "AlpCommune$Word" ∈ zTB := zTB_mem 131 (by decide +kernel) (by decide +kernel)
theorem wq_72 : Cond.instanceMethod ({ cls := "AlpCommune$Word", name := "<init>", desc := "()V" } : MethodName) ∈ zTB := zTB_mem 199 (by decide +kernel) (by decide +kernel)
theorem wq_73 : Cond.code yX8_init cX8_init 1 none ∈ zTB := zTB_mem 200 (by decide +kernel) (by decide +kernel)
theorem sX9_h12 {E : zEn} {h n0 : Nat} {Z : zLay} {D : zDm} {Q : State → Prop} (C : zCN E cX9_init RX9 2 Z h n0 9 242 1420) (hh : 2 ≤ h) (hD : D 11 0 = some (.inr (9, fX9_2 Z))) (hA : D 12 0 = some (.inl (zca Z 6, 40, .inr (.inr (.inr (.inr (fun _ => none))))))) (kk : zNN E 2 Z n0 Q 48 [(1, .int (nI 40)), (0, .ref (zad Z 11 0))] [] (wX9_12 Z D 40) 242 1420) : ∀ m n cn bn, n + m = 40 → cn = 2 + 6 * n → bn = 140 + 32 * n → zNN E 2 Z n0 Q 23 [(1, .int (nI n)), (0, .ref (zad Z 11 0))] [] (wX9_12 Z D n) cn bn := by
  intro m
  induction m with
  | zero =>
    intro n cn bn e1 e2 e3
    obtain rfl : n = 40 := e1
    subst e2 e3
    refine zn_iload_n C dX9_init_23 rfl ?_
    refine zn_bipush C dX9_init_24 (v := 40) (by decide) ?_
    refine zn_icmp C dX9_init_26 (tgt := 48) (by decide) (fun _ => kk) (fun q => absurd (by decide +kernel) q)
  | succ m ih =>
    intro n cn bn e1 e2 e3
    have hn : n < 40 := by omega
    obtain ⟨n1, n2, n3⟩ := nI41_c n (by omega)
    refine zn_iload_n C dX9_init_23 rfl ?_
    refine zn_bipush C dX9_init_24 (v := 40) (by decide) ?_
    refine zn_icmp C dX9_init_26 (tgt := 48) (by decide) (fun q => absurd q ((by decide +kernel : ∀ n, n < 40 → ¬ (40 : Int32) ≤ nI n) n hn)) (fun _ => ?_)
    refine zn_aload_n C dX9_init_29 rfl ?_
    refine zn_get C 0 zin_X9 rfl (Nat.le_of_ble_eq_true rfl) rfl wq_125 dX9_init_30 (wX9_12_o (by decide) (by decide) hD n) (v := .ref (zad Z 12 0)) rfl ?_
    refine zn_iload_n C dX9_init_33 rfl ?_
    refine zn_new C (Cn := RX8) (T := TX8) (N := 12) (ci := 8) (fs := fX8_0) (k := 13) (i := n) zin_X8 tyX8_ok rfl nfX8 wq_68 wq_70 wq_4 dX9_init_34 hn (by show 11 + 6 * n = 9 + cn; omega) (by omega) (by omega) ?_
    refine zn_dup C dX9_init_37 rfl ?_
    refine zn_callN C (mX8 (D := wX9_12 Z D n) (i := n) hn (by omega)) rfl wq_n71 wq_72 wq_73 wq_4 (by decide +kernel) (by decide) (by omega) (by omega) (by omega) dX9_init_38 (Nat.le_of_ble_eq_true rfl) ?_
    refine zn_aast C (k := 12) (i := 0) (k1 := 13) (i1 := n) (N := 40) (t0 := 6) (ci := 8) (f := zfill Z 13 n) (gX8_o (by decide) (wX9_12_A hA n)) rfl qX8_13 rfl n2 (by rw [n3]; exact hn) dX9_init_41 ?_
    rw [n3]
    refine zn_iinc C (kk := 0) dX9_init_42 rfl n1 (by decide) rfl ?_
    refine zn_goto C dX9_init_45 (tgt := 23) (by decide) ?_
    exact ih (n + 1) _ _ (by omega) (by omega) (by omega)
def gX9 (Z : zLay) (D : zDm) : zDm := (wX9_12 Z (zDu (eX9_2 Z D) 11 0 (.inr (9, fX9_2 Z))) 40)
theorem gX9_o {Z : zLay} {D : zDm} {a b : Nat} {y : va_E} (w : a < 11 ∨ 19 < a) (h : D a b = some y) : gX9 Z D a b = some y := wX9_12_o (by omega) (by omega) (zDu_o (by omega) (eX9_2_o w h)) _
theorem mX9 {l : Launch} {Z : zLay} {D : zDm} {n0 c0 : Nat} (hc : c0 = 9) : zMetN l yX9_init cX9_init 2 2 Z n0 c0 242 1420 [.ref (zad Z 11 0)] (zDu D 11 0 (.inr (9, fX9_0))) (gX9 Z D) := by
  subst hc
  exact zMetN_of (by decide +kernel) rfl (Nat.le_of_ble_eq_true rfl) [(0, .ref (zad Z 11 0))] rfl fun E h1 h2 C => sX9_0 C (Nat.le_refl _) rfl (sX9_4 C (Nat.le_refl _) rfl (sX9_13 C (Nat.le_refl _) rfl (zn_iconst C dX9_init_21 (v := nI 0) (by decide +kernel) (zn_istore_n C dX9_init_22 (i := 1) rfl (by decide) rfl (sX9_h12 C (Nat.le_refl _) (zDu_i _ _ _ _) (zDu_o (by decide) pX9_12) (zn_ret C (by decide +kernel) h1 h2 rfl (Nat.le_refl _) dX9_init_48) 40 0 _ _ rfl rfl rfl)))))
theorem qX9_19 {Z : zLay} {D : zDm} : gX9 Z D 19 0 = some (.inl (zca Z 2, 100, .inl fun _ => 0)) := wX9_12_o (by decide) (by decide) (zDu_o (by decide) pX9_19) _
theorem qX9_11 {Z : zLay} {D : zDm} : gX9 Z D 11 0 = some (.inr (9, fX9_2 Z)) := wX9_12_o (by decide) (by decide) (zDu_i _ _ _ _) _
theorem qX9_12 {Z : zLay} {D : zDm} : gX9 Z D 12 0 = some (.inl (zca Z 6, 40, .inr (.inr (.inr (.inr (zfill Z 13 40)))))) := wX9_12_A (zDu_o (by decide) pX9_12) 40
theorem qX9_14 {Z : zLay} {D : zDm} {b : Nat} (hb : b < 40) : gX9 Z D 14 b = some (.inl (zca Z 0, 4, .inl fun _ => 0)) := wX9_12_14 40 b hb
theorem qX9_15 {Z : zLay} {D : zDm} {b : Nat} (hb : b < 40) : gX9 Z D 15 b = some (.inl (zca Z 0, 4, .inl fun _ => 0)) := wX9_12_15 40 b hb
theorem qX9_16 {Z : zLay} {D : zDm} {b : Nat} (hb : b < 40) : gX9 Z D 16 b = some (.inl (zca Z 0, 4, .inl fun _ => 0)) := wX9_12_16 40 b hb
theorem qX9_17 {Z : zLay} {D : zDm} {b : Nat} (hb : b < 40) : gX9 Z D 17 b = some (.inl (zca Z 4, 4, .inl fun _ => 0)) := wX9_12_17 40 b hb
theorem qX9_18 {Z : zLay} {D : zDm} {b : Nat} (hb : b < 40) : gX9 Z D 18 b = some (.inl (zca Z 4, 4, .inl fun _ => 0)) := wX9_12_18 40 b hb
theorem qX9_13 {Z : zLay} {D : zDm} {b : Nat} (hb : b < 40) : gX9 Z D 13 b = some (.inr (8, fX8_5 Z b)) := wX9_12_13 40 b hb
