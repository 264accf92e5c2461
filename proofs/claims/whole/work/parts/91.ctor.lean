/-! the constructors: where each cell comes to lie, counted from the first one that the law makes -/
def zoff (k i : Nat) : Nat := match k with
  | 0 => 0 + 1 * i
  | 1 => 1 + 1 * i
  | 2 => 307 + 3 * i
  | 3 => 308 + 3 * i
  | 4 => 309 + 3 * i
  | 5 => 2 + 1 * i
  | 6 => 3 + 1 * i
  | 7 => 4 + 1 * i
  | 8 => 5 + 1 * i
  | 9 => 6 + 1 * i
  | 10 => 7 + 1 * i
  | 11 => 8 + 1 * i
  | 12 => 9 + 1 * i
  | 13 => 11 + 6 * i
  | 14 => 12 + 6 * i
  | 15 => 13 + 6 * i
  | 16 => 14 + 6 * i
  | 17 => 15 + 6 * i
  | 18 => 16 + 6 * i
  | 19 => 10 + 1 * i
  | 20 => 251 + 1 * i
  | 21 => 252 + 1 * i
  | 22 => 253 + 1 * i
  | 23 => 255 + 1 * i
  | 24 => 256 + 1 * i
  | 25 => 258 + 1 * i
  | 26 => 259 + 1 * i
  | 27 => 260 + 1 * i
  | 28 => 261 + 1 * i
  | 29 => 262 + 1 * i
  | 30 => 263 + 1 * i
  | 31 => 264 + 1 * i
  | 32 => 265 + 1 * i
  | 33 => 266 + 1 * i
  | 34 => 267 + 1 * i
  | 35 => 271 + 1 * i
  | 36 => 272 + 1 * i
  | 37 => 273 + 1 * i
  | 38 => 274 + 1 * i
  | 39 => 275 + 1 * i
  | 40 => 276 + 3 * i
  | 41 => 277 + 3 * i
  | 42 => 278 + 3 * i
  | 43 => 294 + 1 * i
  | 44 => 295 + 1 * i
  | 45 => 296 + 1 * i
  | 46 => 297 + 1 * i
  | 47 => 337 + 2 * i
  | 48 => 338 + 2 * i
  | 49 => 298 + 1 * i
  | 50 => 299 + 1 * i
  | 51 => 305 + 1 * i
  | 52 => 306 + 1 * i
  | 60 => 343 + 1 * i
  | 61 => 344 + 1 * i
  | 62 => 345 + 1 * i
  | 63 => 355 + 1 * i
  | 64 => 356 + 1 * i
  | 65 => 357 + 1 * i
  | 66 => 358 + 1 * i
  | 67 => 359 + 1 * i
  | 68 => 360 + 1 * i
  | 69 => 361 + 1 * i
  | 70 => 362 + 1 * i
  | 71 => 363 + 1 * i
  | 72 => 364 + 1 * i
  | 73 => 368 + 1 * i
  | 74 => 369 + 1 * i
  | 75 => 370 + 1 * i
  | 76 => 371 + 1 * i
  | 77 => 372 + 1 * i
  | 78 => 373 + 1 * i
  | 79 => 374 + 1 * i
  | 80 => 375 + 1 * i
  | 81 => 416 + 1 * i
  | 82 => 417 + 1 * i
  | 83 => 458 + 1 * i
  | 84 => 459 + 1 * i
  | 85 => 461 + 1 * i
  | 86 => 462 + 1 * i
  | 87 => 464 + 1 * i
  | 88 => 465 + 1 * i
  | 89 => 466 + 1 * i
  | 90 => 467 + 1 * i
  | 91 => 468 + 1 * i
  | 92 => 469 + 1 * i
  | 93 => 669 + 1 * i
  | 94 => 670 + 1 * i
  | 95 => 671 + 1 * i
  | 96 => 672 + 1 * i
  | 97 => 673 + 1 * i
  | 98 => 679 + 1 * i
  | 99 => 680 + 1 * i
  | 100 => 686 + 1 * i
  | 101 => 687 + 1 * i
  | 102 => 688 + 1 * i
  | 103 => 689 + 1 * i
  | 104 => 690 + 1 * i
  | 105 => 691 + 1 * i
  | 106 => 692 + 1 * i
  | 107 => 693 + 1 * i
  | 108 => 696 + 1 * i
  | 109 => 697 + 1 * i
  | 110 => 700 + 1 * i
  | 111 => 701 + 1 * i
  | 112 => 702 + 1 * i
  | 113 => 703 + 1 * i
  | 114 => 704 + 1 * i
  | 115 => 705 + 1 * i
  | 116 => 706 + 1 * i
  | 117 => 710 + 1 * i
  | 118 => 711 + 1 * i
  | _ => 0
def zinv : List (Nat × Nat) := [(0, 0), (1, 0), (5, 0), (6, 0), (7, 0), (8, 0), (9, 0), (10, 0), (11, 0), (12, 0), (19, 0), (13, 0), (14, 0), (15, 0), (16, 0), (17, 0), (18, 0), (13, 1), (14, 1), (15, 1), (16, 1), (17, 1), (18, 1), (13, 2), (14, 2), (15, 2), (16, 2), (17, 2), (18, 2), (13, 3), (14, 3), (15, 3), (16, 3), (17, 3), (18, 3), (13, 4), (14, 4), (15, 4), (16, 4), (17, 4), (18, 4), (13, 5), (14, 5), (15, 5), (16, 5), (17, 5), (18, 5), (13, 6), (14, 6), (15, 6), (16, 6), (17, 6), (18, 6), (13, 7), (14, 7), (15, 7), (16, 7), (17, 7), (18, 7), (13, 8), (14, 8), (15, 8), (16, 8), (17, 8), (18, 8), (13, 9), (14, 9), (15, 9), (16, 9), (17, 9), (18, 9), (13, 10), (14, 10), (15, 10), (16, 10), (17, 10), (18, 10), (13, 11), (14, 11), (15, 11), (16, 11), (17, 11), (18, 11), (13, 12), (14, 12), (15, 12), (16, 12), (17, 12), (18, 12), (13, 13), (14, 13), (15, 13), (16, 13), (17, 13), (18, 13), (13, 14), (14, 14), (15, 14), (16, 14), (17, 14), (18, 14), (13, 15), (14, 15), (15, 15), (16, 15), (17, 15), (18, 15), (13, 16), (14, 16), (15, 16), (16, 16), (17, 16), (18, 16), (13, 17), (14, 17), (15, 17), (16, 17), (17, 17), (18, 17), (13, 18), (14, 18), (15, 18), (16, 18), (17, 18), (18, 18), (13, 19), (14, 19), (15, 19), (16, 19), (17, 19), (18, 19), (13, 20), (14, 20), (15, 20), (16, 20), (17, 20), (18, 20), (13, 21), (14, 21), (15, 21), (16, 21), (17, 21), (18, 21), (13, 22), (14, 22), (15, 22), (16, 22), (17, 22), (18, 22), (13, 23), (14, 23), (15, 23), (16, 23), (17, 23), (18, 23), (13, 24), (14, 24), (15, 24), (16, 24), (17, 24), (18, 24), (13, 25), (14, 25), (15, 25), (16, 25), (17, 25), (18, 25), (13, 26), (14, 26), (15, 26), (16, 26), (17, 26), (18, 26), (13, 27), (14, 27), (15, 27), (16, 27), (17, 27), (18, 27), (13, 28), (14, 28), (15, 28), (16, 28), (17, 28), (18, 28), (13, 29), (14, 29), (15, 29), (16, 29), (17, 29), (18, 29), (13, 30), (14, 30), (15, 30), (16, 30), (17, 30), (18, 30), (13, 31), (14, 31), (15, 31), (16, 31), (17, 31), (18, 31), (13, 32), (14, 32), (15, 32), (16, 32), (17, 32), (18, 32), (13, 33), (14, 33), (15, 33), (16, 33), (17, 33), (18, 33), (13, 34), (14, 34), (15, 34), (16, 34), (17, 34), (18, 34), (13, 35), (14, 35), (15, 35), (16, 35), (17, 35), (18, 35), (13, 36), (14, 36), (15, 36), (16, 36), (17, 36), (18, 36), (13, 37), (14, 37), (15, 37), (16, 37), (17, 37), (18, 37), (13, 38), (14, 38), (15, 38), (16, 38), (17, 38), (18, 38), (13, 39), (14, 39), (15, 39), (16, 39), (17, 39), (18, 39), (20, 0), (21, 0), (22, 0), (22, 1), (23, 0), (24, 0), (24, 1), (25, 0), (26, 0), (27, 0), (28, 0), (29, 0), (30, 0), (31, 0), (32, 0), (33, 0), (34, 0), (34, 1), (34, 2), (34, 3), (35, 0), (36, 0), (37, 0), (38, 0), (39, 0), (40, 0), (41, 0), (42, 0), (40, 1), (41, 1), (42, 1), (40, 2), (41, 2), (42, 2), (40, 3), (41, 3), (42, 3), (40, 4), (41, 4), (42, 4), (40, 5), (41, 5), (42, 5), (43, 0), (44, 0), (45, 0), (46, 0), (49, 0), (50, 0), (50, 1), (50, 2), (50, 3), (50, 4), (50, 5), (51, 0), (52, 0), (2, 0), (3, 0), (4, 0), (2, 1), (3, 1), (4, 1), (2, 2), (3, 2), (4, 2), (2, 3), (3, 3), (4, 3), (2, 4), (3, 4), (4, 4), (2, 5), (3, 5), (4, 5), (2, 6), (3, 6), (4, 6), (2, 7), (3, 7), (4, 7), (2, 8), (3, 8), (4, 8), (2, 9), (3, 9), (4, 9), (47, 0), (48, 0), (47, 1), (48, 1), (47, 2), (48, 2), (60, 0), (61, 0), (62, 0), (62, 1), (62, 2), (62, 3), (62, 4), (62, 5), (62, 6), (62, 7), (62, 8), (62, 9), (63, 0), (64, 0), (65, 0), (66, 0), (67, 0), (68, 0), (69, 0), (70, 0), (71, 0), (72, 0), (72, 1), (72, 2), (72, 3), (73, 0), (74, 0), (75, 0), (76, 0), (77, 0), (78, 0), (79, 0), (80, 0), (80, 1), (80, 2), (80, 3), (80, 4), (80, 5), (80, 6), (80, 7), (80, 8), (80, 9), (80, 10), (80, 11), (80, 12), (80, 13), (80, 14), (80, 15), (80, 16), (80, 17), (80, 18), (80, 19), (80, 20), (80, 21), (80, 22), (80, 23), (80, 24), (80, 25), (80, 26), (80, 27), (80, 28), (80, 29), (80, 30), (80, 31), (80, 32), (80, 33), (80, 34), (80, 35), (80, 36), (80, 37), (80, 38), (80, 39), (80, 40), (81, 0), (82, 0), (82, 1), (82, 2), (82, 3), (82, 4), (82, 5), (82, 6), (82, 7), (82, 8), (82, 9), (82, 10), (82, 11), (82, 12), (82, 13), (82, 14), (82, 15), (82, 16), (82, 17), (82, 18), (82, 19), (82, 20), (82, 21), (82, 22), (82, 23), (82, 24), (82, 25), (82, 26), (82, 27), (82, 28), (82, 29), (82, 30), (82, 31), (82, 32), (82, 33), (82, 34), (82, 35), (82, 36), (82, 37), (82, 38), (82, 39), (82, 40), (83, 0), (84, 0), (84, 1), (85, 0), (86, 0), (86, 1), (87, 0), (88, 0), (89, 0), (90, 0), (91, 0), (92, 0), (92, 1), (92, 2), (92, 3), (92, 4), (92, 5), (92, 6), (92, 7), (92, 8), (92, 9), (92, 10), (92, 11), (92, 12), (92, 13), (92, 14), (92, 15), (92, 16), (92, 17), (92, 18), (92, 19), (92, 20), (92, 21), (92, 22), (92, 23), (92, 24), (92, 25), (92, 26), (92, 27), (92, 28), (92, 29), (92, 30), (92, 31), (92, 32), (92, 33), (92, 34), (92, 35), (92, 36), (92, 37), (92, 38), (92, 39), (92, 40), (92, 41), (92, 42), (92, 43), (92, 44), (92, 45), (92, 46), (92, 47), (92, 48), (92, 49), (92, 50), (92, 51), (92, 52), (92, 53), (92, 54), (92, 55), (92, 56), (92, 57), (92, 58), (92, 59), (92, 60), (92, 61), (92, 62), (92, 63), (92, 64), (92, 65), (92, 66), (92, 67), (92, 68), (92, 69), (92, 70), (92, 71), (92, 72), (92, 73), (92, 74), (92, 75), (92, 76), (92, 77), (92, 78), (92, 79), (92, 80), (92, 81), (92, 82), (92, 83), (92, 84), (92, 85), (92, 86), (92, 87), (92, 88), (92, 89), (92, 90), (92, 91), (92, 92), (92, 93), (92, 94), (92, 95), (92, 96), (92, 97), (92, 98), (92, 99), (92, 100), (92, 101), (92, 102), (92, 103), (92, 104), (92, 105), (92, 106), (92, 107), (92, 108), (92, 109), (92, 110), (92, 111), (92, 112), (92, 113), (92, 114), (92, 115), (92, 116), (92, 117), (92, 118), (92, 119), (92, 120), (92, 121), (92, 122), (92, 123), (92, 124), (92, 125), (92, 126), (92, 127), (92, 128), (92, 129), (92, 130), (92, 131), (92, 132), (92, 133), (92, 134), (92, 135), (92, 136), (92, 137), (92, 138), (92, 139), (92, 140), (92, 141), (92, 142), (92, 143), (92, 144), (92, 145), (92, 146), (92, 147), (92, 148), (92, 149), (92, 150), (92, 151), (92, 152), (92, 153), (92, 154), (92, 155), (92, 156), (92, 157), (92, 158), (92, 159), (92, 160), (92, 161), (92, 162), (92, 163), (92, 164), (92, 165), (92, 166), (92, 167), (92, 168), (92, 169), (92, 170), (92, 171), (92, 172), (92, 173), (92, 174), (92, 175), (92, 176), (92, 177), (92, 178), (92, 179), (92, 180), (92, 181), (92, 182), (92, 183), (92, 184), (92, 185), (92, 186), (92, 187), (92, 188), (92, 189), (92, 190), (92, 191), (92, 192), (92, 193), (92, 194), (92, 195), (92, 196), (92, 197), (92, 198), (92, 199), (93, 0), (94, 0), (95, 0), (96, 0), (97, 0), (97, 1), (97, 2), (97, 3), (97, 4), (97, 5), (98, 0), (99, 0), (99, 1), (99, 2), (99, 3), (99, 4), (99, 5), (100, 0), (101, 0), (102, 0), (103, 0), (104, 0), (105, 0), (106, 0), (107, 0), (107, 1), (107, 2), (108, 0), (109, 0), (109, 1), (109, 2), (110, 0), (111, 0), (112, 0), (113, 0), (114, 0), (115, 0), (116, 0), (116, 1), (116, 2), (116, 3), (117, 0), (118, 0)]
theorem zN_big {k i : Nat} (h : i < zN k) : k < 119 := by
  by_cases q : k < 119
  · exact q
  · exfalso
    have : zN k = 0 := by
      unfold zN
      split <;> first | omega | rfl
    omega
theorem zinv_c : ∀ k, k < 119 → ∀ i, i < zN k → zinv[zoff k i]? = some (k, i) := by decide +kernel
theorem zoff_i {k i k' i' : Nat} (h : i < zN k) (h' : i' < zN k') (e : zoff k i = zoff k' i') : k = k' ∧ i = i' := by
  have a := zinv_c k (zN_big h) i h
  have b := zinv_c k' (zN_big h') i' h'
  rw [e, b] at a
  injection a with a
  injection a with a1 a2
  exact ⟨a1.symm, a2.symm⟩
/-- what is built, and what it holds -/
abbrev zDm : Type := Nat → Nat → Option va_E
def zDu (D : zDm) (k i : Nat) (x : va_E) : zDm := fun a b => if a = k ∧ b = i then some x else D a b
theorem zDu_i (D : zDm) (k i : Nat) (x : va_E) : zDu D k i x k i = some x := if_pos ⟨rfl, rfl⟩
theorem zDu_n (D : zDm) {k i a b : Nat} (x : va_E) (h : ¬ (a = k ∧ b = i)) : zDu D k i x a b = D a b := if_neg h
theorem zDu_2 (D : zDm) (k i : Nat) (x y : va_E) : zDu (zDu D k i x) k i y = zDu D k i y := by
  funext a b
  show (if a = k ∧ b = i then some y else (if a = k ∧ b = i then some x else D a b)) = (if a = k ∧ b = i then some y else D a b)
  by_cases q : a = k ∧ b = i
  · rw [if_pos q, if_pos q]
  · rw [if_neg q, if_neg q, if_neg q]
theorem zDu_cm (D : zDm) {k i k' i' : Nat} (x y : va_E) (h : ¬ (k = k' ∧ i = i')) : zDu (zDu D k i x) k' i' y = zDu (zDu D k' i' y) k i x := by
  funext a b
  show (if a = k' ∧ b = i' then some y else (if a = k ∧ b = i then some x else D a b)) = (if a = k ∧ b = i then some x else (if a = k' ∧ b = i' then some y else D a b))
  by_cases q : a = k ∧ b = i
  · rw [if_pos q, if_pos q, if_neg (fun w => h ⟨q.1.symm.trans w.1, q.2.symm.trans w.2⟩)]
  · rw [if_neg q, if_neg q]
def zWD (Z : zLay) (D : zDm) (H : Heap) : Prop := ∀ k i x, D k i = some x → i < zN k ∧ va_at Z.1 vwCl (zad Z k i, x) H
theorem zWD_new {Z : zLay} {D : zDm} {H H1 : Heap} {k i : Nat} {x : va_E} (hW : zWD Z D H) (o1 : ∀ q, q < H.size → H1[q]? = H[q]?) (hk : i < zN k) (ha : va_at Z.1 vwCl (zad Z k i, x) H1) : zWD Z (zDu D k i x) H1 := fun a b y hy => by
  by_cases q : a = k ∧ b = i
  · rw [q.1, q.2, zDu_i] at hy
    injection hy with hy
    rw [q.1, q.2, ← hy]
    exact ⟨hk, ha⟩
  · rw [zDu_n _ _ q] at hy
    obtain ⟨h1, h2⟩ := hW a b y hy
    exact ⟨h1, h2.kept (o1 _ h2.lt)⟩
theorem zWD_set {Z : zLay} {D : zDm} {H H1 : Heap} {k i : Nat} {x : va_E} (hW : zWD Z D H) (hI : zI Z) (oq : ∀ q, q ≠ zad Z k i → H1[q]? = H[q]?) (hk : i < zN k) (ha : va_at Z.1 vwCl (zad Z k i, x) H1) : zWD Z (zDu D k i x) H1 := fun a b y hy => by
  by_cases q : a = k ∧ b = i
  · rw [q.1, q.2, zDu_i] at hy
    injection hy with hy
    rw [q.1, q.2, ← hy]
    exact ⟨hk, ha⟩
  · rw [zDu_n _ _ q] at hy
    obtain ⟨h1, h2⟩ := hW a b y hy
    exact ⟨h1, h2.kept (oq _ fun w => q (hI a b k i h1 hk w))⟩
def zOvL : List FieldType := [.object "AlpCommune$House", .object "AlpCommune$Word", .object "AlpCommune$Slope", .object "AlpCommune$Sheet", .array .int, .array .short, .array .boolean]
def zOv (U : State) : Prop := ∀ t ∈ zOvL, (Cond.arrayOver t).before #[] U = true
theorem zOv_vm {u U : State} (h : zOv u) (hvm : u.vm.Alike U.vm) : zOv U := fun t ht => by
  have h0 := h t ht
  simp only [zOvL, List.mem_cons, List.not_mem_nil, or_false] at ht
  rcases ht with rfl | rfl | rfl | rfl | rfl | rfl | rfl
  · exact va_AO.moved hvm h0
  · exact va_AO.moved hvm h0
  · exact va_AO.moved hvm h0
  · exact va_AO.moved hvm h0
  · exact over_moved hvm h0
  · exact over_moved hvm h0
  · exact over_moved hvm h0
def zLy (Z : zLay) (n0 c0 : Nat) (U : State) : Prop := (∀ k i, i < zN k → zad Z k i = n0 + zoff k i) ∧ zOv U ∧ U.heap.size = n0 + c0
def zCN (E : zEn) (cc : ByteArray) (own : String) (nL : Nat) (Z : zLay) (h n0 c0 mc ms : Nat) : Prop :=
  (zp E).tables.exec = Jvm.exec ∧ (zco E).code = cc ∧ (zs E).vm.findClass own = some (zm E).cls ∧ (zco E).maxLocals = nL ∧ (∀ w ∈ zTB, w.before (zar E) (zs E) = true) ∧ va_K Z.1 vwCl (zTys Z) (zs E) ∧ zI Z ∧ zNw (zs E) ∧ zLy Z n0 c0 (zs E) ∧ (zme E).locks = false ∧ (own = RL ∨ (zme E).sig.returnType = none) ∧ h ≤ (zR E).frames ∧ 60 * h ≤ (zR E).locals ∧ mc ≤ (zR E).cells ∧ ms ≤ (zR E).slots ∧ (own = RL ∨ (zme E).name = "<init>")
def zNA (n0 : Nat) : Nat → Prop := fun q => n0 ≤ q
def zNN (E : zEn) (nL : Nat) (Z : zLay) (n0 : Nat) (Q : State → Prop) (pc : Nat) (L : List (Nat × Value)) (st : List Value) (D : zDm) (c b : Nat) : Prop :=
  ∀ (H : Heap) (locs : List Loc) (ls : Array Slot), zWD Z D H → H.size = (zs E).heap.size + c → va_S (zNA n0) (zs E).heap H locs → lv_has ls nL L → W (zp E) (zla E) (zev E) (zR E) (zs E) (zm E) (zar E) (zbe E) (zme E) (zco E) H locs c b Q (F0 (zm E) pc ls st)
section ZN
variable {E : zEn} {cc : ByteArray} {own : String} {nL h n0 c0 mc ms : Nat} {Z : zLay} {pc : Nat} {L : List (Nat × Value)} {st : List Value} {D : zDm} {c b : Nat} {Q : State → Prop}
theorem zn_base (C : zCN E cc own nL Z h n0 c0 mc ms) {H : Heap} {k i : Nat} (hk : i < zN k) (ho : zoff k i = c0 + c) (hz : H.size = (zs E).heap.size + c) : H.size = zad Z k i := by
  have l := C.2.2.2.2.2.2.2.2.1
  rw [l.1 k i hk, hz, l.2.2, ho]
  omega
theorem zn_iconst (C : zCN E cc own nL Z h n0 c0 mc ms) {n : Int} {v : Int32} (hd : decode cc pc = .ok (.iconst n, 1)) (hv : Int32.ofInt n = v) (k : zNN E nL Z n0 Q (pc + 1) L (.int v :: st) D c b) : zNN E nL Z n0 Q (pc) L (st) D c b := fun H locs ls hW hz hS hl => lv_iconst C.1 C.2.1 hd hv (k H locs ls hW hz hS hl)
theorem zn_bipush (C : zCN E cc own nL Z h n0 c0 mc ms) {n : Int} {v : Int32} (hd : decode cc pc = .ok (.bipush n, 2)) (hv : (Int8.ofInt n).toInt32 = v) (k : zNN E nL Z n0 Q (pc + 2) L (.int v :: st) D c b) : zNN E nL Z n0 Q (pc) L (st) D c b := fun H locs ls hW hz hS hl => lv_bipush C.1 C.2.1 hd hv (k H locs ls hW hz hS hl)
theorem zn_sipush (C : zCN E cc own nL Z h n0 c0 mc ms) {n : Int} {v : Int32} (hd : decode cc pc = .ok (.sipush n, 3)) (hv : (Int16.ofInt n).toInt32 = v) (k : zNN E nL Z n0 Q (pc + 3) L (.int v :: st) D c b) : zNN E nL Z n0 Q (pc) L (st) D c b := fun H locs ls hW hz hS hl => lv_sipush C.1 C.2.1 hd hv (k H locs ls hW hz hS hl)
theorem zn_aload_n (C : zCN E cc own nL Z h n0 c0 mc ms) {q : Fin 4} {x : Nat} (hd : decode cc pc = .ok (.aload_n q, 1)) (hL : List.lookup (q : Nat) L = some (.ref x)) (k : zNN E nL Z n0 Q (pc + 1) L (.ref x :: st) D c b) : zNN E nL Z n0 Q (pc) L (st) D c b := fun H locs ls hW hz hS hl => lv_aload_n C.1 C.2.1 hd rfl (zl_of hl hL) (k H locs ls hW hz hS hl)
theorem zn_iload_n (C : zCN E cc own nL Z h n0 c0 mc ms) {q : Fin 4} {x : Int32} (hd : decode cc pc = .ok (.iload_n q, 1)) (hL : List.lookup (q : Nat) L = some (.int x)) (k : zNN E nL Z n0 Q (pc + 1) L (.int x :: st) D c b) : zNN E nL Z n0 Q (pc) L (st) D c b := fun H locs ls hW hz hS hl => lv_iload_n C.1 C.2.1 hd rfl (zl_of hl hL) (k H locs ls hW hz hS hl)
theorem zn_istore_n (C : zCN E cc own nL Z h n0 c0 mc ms) {q : Fin 4} {i : Nat} {x : Int32} {L1 : List (Nat × Value)} (hd : decode cc pc = .ok (.istore_n q, 1)) (hq : (q : Nat) = i) (hn : i < nL) (hL : (i, Value.int x) :: L.filter (fun q => !(q.1 == i) && !(q.1 + 1 == i && q.2.category == 2)) = L1) (k : zNN E nL Z n0 Q (pc + 1) L1 (st) D c b) : zNN E nL Z n0 Q (pc) L (.int x :: st) D c b := fun H locs ls hW hz hS hl => lv_istore_n C.1 C.2.1 hd hq hl hn hL (fun ls1 hl1 => k H locs ls1 hW hz hS hl1)
theorem zn_iinc (C : zCN E cc own nL Z h n0 c0 mc ms) {i kk : Nat} {n : Int} {x v : Int32} {L1 : List (Nat × Value)} (hd : decode cc pc = .ok (.iinc i n, 3)) (hk : L[kk]? = some (i, .int x)) (hv : x + Int32.ofInt n = v) (hn : i < nL) (hL : (i, Value.int v) :: L.filter (fun q => !(q.1 == i) && !(q.1 + 1 == i && q.2.category == 2)) = L1) (k : zNN E nL Z n0 Q (pc + 3) L1 (st) D c b) : zNN E nL Z n0 Q (pc) L (st) D c b := fun H locs ls hW hz hS hl => lv_iinc C.1 C.2.1 hd hl hk hv hn hL (fun ls1 hl1 => k H locs ls1 hW hz hS hl1)
theorem zn_dup (C : zCN E cc own nL Z h n0 c0 mc ms) {va : Value} (hd : decode cc pc = .ok (.dup, 1)) (h1 : va.category = 1) (k : zNN E nL Z n0 Q (pc + 1) L (va :: va :: st) D c b) : zNN E nL Z n0 Q (pc) L (va :: st) D c b := fun H locs ls hW hz hS hl => lv_dup C.1 C.2.1 hd h1 (k H locs ls hW hz hS hl)
theorem zn_goto (C : zCN E cc own nL Z h n0 c0 mc ms) {off : Int} {tgt : Nat} (hd : decode cc pc = .ok (.goto off, 3)) (ht : (pc : Int) + off = (tgt : Int)) (k : zNN E nL Z n0 Q (tgt) L (st) D c b) : zNN E nL Z n0 Q (pc) L (st) D c b := fun H locs ls hW hz hS hl => lv_goto C.1 C.2.1 hd ht (k H locs ls hW hz hS hl)
theorem zn_sub {L1 : List (Nat × Value)} (ks : List Nat) (hL : lv_pick L ks = L1) (k : zNN E nL Z n0 Q (pc) L1 (st) D c b) : zNN E nL Z n0 Q (pc) L (st) D c b := fun H locs ls hW hz hS hl => k H locs ls hW hz hS (lv_sub hl ks hL)
theorem zn_icmp (C : zCN E cc own nL Z h n0 c0 mc ms) {x y : Int32} {off : Int} {tgt : Nat} (hd : decode cc pc = .ok (.if_icmp .ge off, 3)) (ht : (pc : Int) + off = (tgt : Int)) (kt : y ≤ x → zNN E nL Z n0 Q tgt L st D c b) (kf : ¬ y ≤ x → zNN E nL Z n0 Q (pc + 3) L st D c b) : zNN E nL Z n0 Q pc L (.int y :: .int x :: st) D c b := fun H locs ls hW hz hS hl => by
  refine lv_icmp_ge C.1 C.2.1 hd ht (fun q => ?_) (fun q => ?_)
  · exact kt q H locs ls hW hz hS hl
  · exact kf q H locs ls hW hz hS hl
theorem zn_icmpg (C : zCN E cc own nL Z h n0 c0 mc ms) {x y : Int32} {off : Int} {tgt : Nat} (hd : decode cc pc = .ok (.if_icmp .gt off, 3)) (ht : (pc : Int) + off = (tgt : Int)) (kt : y < x → zNN E nL Z n0 Q tgt L st D c b) (kf : ¬ y < x → zNN E nL Z n0 Q (pc + 3) L st D c b) : zNN E nL Z n0 Q pc L (.int y :: .int x :: st) D c b := fun H locs ls hW hz hS hl => by
  refine lv_icmp_gt C.1 C.2.1 hd ht (fun q => ?_) (fun q => ?_)
  · exact kt q H locs ls hW hz hS hl
  · exact kf q H locs ls hW hz hS hl
theorem zn_obj (C : zCN E cc own nL Z h n0 c0 mc ms) {idx a : Nat} (hlink : Cond.methodLink own idx objectInit ∈ zTB) (hins : Cond.instanceMethod objectInit ∈ zTB) (hcode : Cond.code objectInit ⟨#[0xb1]⟩ 1 none ∈ zTB) (hd : decode cc pc = .ok (.invokespecial idx, 3)) (hh : 1 ≤ h) (hst : (st.map fun v => v.category).sum ≤ 8) (kk : zNN E nL Z n0 Q (pc + 3) L st D c b) : zNN E nL Z n0 Q pc L (.ref a :: st) D c b := fun H locs ls hW hz hS hl => by
  have hr := lv_room (m := zm E) (pc := pc) (ls := ls) (rest := .ref a :: st) hst
  have h1 := C.2.2.2.2.2.2.2.2.2.2.2.1
  have h2 := C.2.2.2.2.2.2.2.2.2.2.2.2.1
  refine W.objInit C.1 C.2.1 C.2.2.1 (C.2.2.2.2.1 _ hlink) (C.2.2.2.2.1 _ hins) (C.2.2.2.2.1 _ hcode) rfl (by rw [C.2.2.2.1]; exact hl.1) rfl hd (by omega) (by omega) ?_
  exact kk H locs ls hW hz hS hl
theorem zn_S {H H1 : Heap} {locs : List Loc} {s : State} (hS : va_S (zNA n0) s.heap H locs) (z : H.size ≤ H1.size) (o1 : ∀ q, q < H.size → H1[q]? = H[q]?) : va_S (zNA n0) s.heap H1 locs := ⟨Nat.le_trans hS.1 z, fun x h1 h2 => (o1 x (Nat.lt_of_lt_of_le h1 hS.1)).trans (hS.2.1 x h1 h2), hS.2.2⟩
theorem zn_newa (C : zCN E cc own nL Z h n0 c0 mc ms) {atype : ArrayType} {x : Int32} {N t0 k i : Nat} {a0 : vp_A} (harr : Cond.arrayClass (newarray.typeOf atype) ∈ zTB) (ht : (zTys Z)[t0]? = some (zca Z t0, newarray.typeOf atype)) (hd : decode cc pc = .ok (.newarray atype, 2)) (hn : ¬ x < 0) (hN : x.toNatClampNeg = N) (hb : N * componentBytes (newarray.typeOf atype) ≤ 536870912) (ha : ∀ cA : ClassId, vp_cell cA a0 = arrV cA N (fun _ => defaultValue (newarray.typeOf atype))) (hk : i < zN k) (ho : zoff k i = c0 + c) (hc : c + 1 ≤ mc) (hs : b + N ≤ ms) (kk : zNN E nL Z n0 Q (pc + 2) L (.ref (zad Z k i) :: st) (zDu D k i (.inl (zca Z t0, a0))) (c + 1) (b + N)) : zNN E nL Z n0 Q pc L (.int x :: st) D c b := fun H locs ls hW hz hS hl => by
  have hq := zn_base C hk ho hz
  refine va_newaK C.1 C.2.1 (C.2.2.2.2.1 _ harr) rfl hd rfl hn hN hb (Nat.le_trans hc C.2.2.2.2.2.2.2.2.2.2.2.2.2.1) (Nat.le_trans hs C.2.2.2.2.2.2.2.2.2.2.2.2.2.2.1) hq fun H1 cA e1 z1 o1 hAr hNm => ?_
  have hra := (C.2.2.2.2.2.1.2 t0 _ ht).2
  have ec : some cA = some (zca Z t0) := by
    rw [← hNm]
    cases atype <;> exact hra
  injection ec with ec
  refine kk H1 locs ls (zWD_new hW (fun q w => o1 q (by rw [← hq]; exact w)) hk ?_) (by rw [z1, ← hq, hz]; omega) (zn_S hS (by omega) (fun q w => o1 q (by rw [← hq]; exact w))) hl
  show H1[zad Z k i]? = some (vp_cell (zca Z t0) a0)
  rw [ha, ← ec]
  exact e1
theorem zn_anew (C : zCN E cc own nL Z h n0 c0 mc ms) {Cn : String} {ix : Nat} {x : Int32} {N t0 k i : Nat} (hlink : Cond.classLink own ix Cn ∈ zTB) (hov : FieldType.object Cn ∈ zOvL) (ht : (zTys Z)[t0]? = some (zca Z t0, .object Cn)) (hd : decode cc pc = .ok (.anewarray ix, 3)) (hn : ¬ x < 0) (hN : x.toNatClampNeg = N) (hb : N * 4 ≤ 536870912) (hk : i < zN k) (ho : zoff k i = c0 + c) (hc : c + 1 ≤ mc) (hs : b + N ≤ ms) (kk : zNN E nL Z n0 Q (pc + 3) L (.ref (zad Z k i) :: st) (zDu D k i (.inl (zca Z t0, N, .inr (.inr (.inr (.inr (fun _ => none))))))) (c + 1) (b + N)) : zNN E nL Z n0 Q pc L (.int x :: st) D c b := fun H locs ls hW hz hS hl => by
  have hq := zn_base C hk ho hz
  subst hN
  refine W.anew C.1 C.2.1 C.2.2.1 (C.2.2.2.2.1 _ hlink) (C.2.2.2.2.2.2.2.2.1.2.1 _ hov) rfl hd rfl hn hb (Nat.le_trans hc C.2.2.2.2.2.2.2.2.2.2.2.2.2.1) (Nat.le_trans hs C.2.2.2.2.2.2.2.2.2.2.2.2.2.2.1) fun cA kA comp f1 f2 f3 f4 => ?_
  generalize hH1 : H.push ({ cls := cA, slots := Array.replicate x.toNatClampNeg .null, vm := .none } : Cell) = H1
  have z1 : H1.size = H.size + 1 := by rw [← hH1, Array.size_push]
  have e1 : H1[H.size]? = some (arrV cA x.toNatClampNeg (fun _ => .null)) := by rw [← hH1, Array.getElem?_push_size, ← arrV_new]
  have o1 : ∀ q : Nat, q < H.size → H1[q]? = H[q]? := fun q hq => by rw [← hH1, Array.getElem?_push, if_neg (Nat.ne_of_lt hq)]
  obtain ⟨kA', comp', g1, g2, g3, g4⟩ := (C.2.2.2.2.2.1.2 t0 _ ht).2
  have ec : cA = zca Z t0 := Option.some.inj (f1.symm.trans g4)
  have kk := kk H1 locs ls (zWD_new hW o1 hk (by
    show H1[zad Z k i]? = some (vp_cell (zca Z t0) _)
    rw [vp_cell_q, ← ec, ← hq]
    exact e1)) (by rw [z1, hz]; omega) (zn_S hS (by omega) o1) hl
  rw [← hq] at kk
  exact kk
theorem zn_new (C : zCN E cc own nL Z h n0 c0 mc ms) {Cn : String} {T : u_T} {N ci ix k i : Nat} {ty : Nat → FieldType} {fs : List Value} (hin : ∀ w ∈ u_ws Cn T N, w ∈ zTB) (hty : ∀ k, k < N → parseFieldDescriptor (T k).2.2.1 = some (ty k)) (hc9 : vwCl[ci]? = some (Cn, T, N)) (hfs : ∀ j, j < N → defaultValue (ty j) = vp_V fs j) (hlink : Cond.classLink own ix Cn ∈ zTB) (hinst : Cond.instantiable Cn N ∈ zTB) (hini : Cond.initialized Cn ∈ zTB) (hd : decode cc pc = .ok (.new ix, 3)) (hk : i < zN k) (ho : zoff k i = c0 + c) (hc : c + 1 ≤ mc) (hs : b + N ≤ ms) (kk : zNN E nL Z n0 Q (pc + 3) L (.ref (zad Z k i) :: st) (zDu D k i (.inr (ci, fs))) (c + 1) (b + N)) : zNN E nL Z n0 Q pc L st D c b := fun H locs ls hW hz hS hl => by
  have hq := zn_base C hk ho hz
  have hKn := C.2.2.2.2.2.1.1 ci _ hc9
  refine W.newcK C.1 C.2.1 C.2.2.1 (C.2.2.2.2.1 _ hlink) (C.2.2.2.2.1 _ hinst) (C.2.2.2.2.1 _ hini) rfl hd (Nat.le_trans hc C.2.2.2.2.2.2.2.2.2.2.2.2.2.1) (Nat.le_trans hs C.2.2.2.2.2.2.2.2.2.2.2.2.2.2.1) hKn.2.1 hq fun H1 kC hkC e1 z1 o1 => ?_
  refine kk H1 locs ls (zWD_new hW (fun q w => o1 q (by rw [← hq]; exact w)) hk ⟨_, hc9, (u_born ty C.2.2.2.2.1 hin hKn hkC e1 hty).to hfs⟩) (by rw [z1, ← hq, hz]; omega) (zn_S hS (by omega) (fun q w => o1 q (by rw [← hq]; exact w))) hl
theorem zn_put (C : zCN E cc own nL Z h n0 c0 mc ms) {Cn : String} {T : u_T} {N ci ix k i : Nat} (j : Nat) {ty0 : Nat → FieldType} {ty : FieldType} {fs : List Value} {v : Value} (hin : ∀ w ∈ u_ws Cn T N, w ∈ zTB) (hc : vwCl[ci]? = some (Cn, T, N)) (hj : j < N) (hT : (T j).1 = Cn) (hty : ∀ k, k < N → parseFieldDescriptor (T k).2.2.1 = some (ty0 k)) (hnm : ∀ a, a < N → ∀ b, b < N → a ≠ b → (T a).2.1 ≠ (T b).2.1) (hfin : (T j).2.2.2 = false) (hd1 : parseFieldDescriptor (T j).2.2.1 = some ty) (hlink : Cond.fieldLink own ix Cn (T j).2.1 (T j).2.2.1 ∈ zTB) (hd : decode cc pc = .ok (.putfield ix, 3)) (hE : D k i = some (.inr (ci, fs))) (hl0 : j < fs.length) (hn : narrow ty v = v) (hfit : fits ty v = true) (kk : zNN E nL Z n0 Q (pc + 3) L st (zDu D k i (.inr (ci, fs.set j v))) c b) : zNN E nL Z n0 Q pc L (v :: .ref (zad Z k i) :: st) D c b := fun H locs ls hW hz hS hl => by
  have hap := va_apart (own := own) C.2.2.2.2.1 hin ty0 hty hnm C.2.2.2.2.2.1 hc
  obtain ⟨hk, ha⟩ := hW k i _ hE
  obtain ⟨rr, g1, cell, q1, q2, q3, q4⟩ := ha
  have hr : rr = (Cn, T, N) := Option.some.inj (g1.symm.trans hc)
  subst hr
  obtain ⟨hSl, hfc, kC, hkC, hkind⟩ := C.2.2.2.2.2.1.1 ci _ hc
  obtain ⟨cf, kf, fi, f, hi, hsl⟩ := hSl j hj
  have hlay := C.2.2.2.2.1 _ (hin _ (u_in_lay hj))
  unfold u_lay at hlay
  rw [if_neg (by rw [hfin]; decide)] at hlay
  have hst := (u_facts hfc hkC (u_lays C.2.2.2.2.1 hin hj) hi).1
  have h6 := u_store hfc hkC hkind hlay hi hd1 hn hfit
  rw [hT] at hi
  refine W.putK C.1 C.2.1 (f := f) ⟨C.2.2.1, C.2.2.2.2.1 _ hlink, ⟨_, _, _, hi⟩, hst⟩ (by rw [q2]; exact h6) q1 q3 (by rw [hsl]; exact k2_hasslot (q4 j hj)) rfl rfl hd fun H' e1 e2 e3 => ?_
  rw [hsl] at e1 ⊢
  have hat : va_at Z.1 vwCl (zad Z k i, .inr (ci, fs.set j v)) H' := ⟨_, hc, t_OB.to (V := updV (vp_V fs) j v) ⟨_, e1, q2, q3, t_set q4 hap hj v⟩ (fun x _ => vp_updV_set hl0 v x)⟩
  exact kk H' _ ls (zWD_set hW C.2.2.2.2.2.2.1 e3 hk hat) (by rw [e2, hz]) (hS.put e2 e3 (by rw [C.2.2.2.2.2.2.2.2.1.1 k i hk]; exact Nat.le_add_right _ _)) hl
theorem zn_putF (C : zCN E cc own nL Z h n0 c0 mc ms) (hRL : own ≠ RL) {Cn : String} {T : u_T} {N ci ix k i : Nat} (j : Nat) {ty0 : Nat → FieldType} {ty : FieldType} {fs : List Value} {v : Value} (hin : ∀ w ∈ u_ws Cn T N, w ∈ zTB) (hc : vwCl[ci]? = some (Cn, T, N)) (hj : j < N) (hT : (T j).1 = Cn) (hown : Cn = own) (hty : ∀ k, k < N → parseFieldDescriptor (T k).2.2.1 = some (ty0 k)) (hnm : ∀ a, a < N → ∀ b, b < N → a ≠ b → (T a).2.1 ≠ (T b).2.1) (hfin : (T j).2.2.2 = true) (hd1 : parseFieldDescriptor (T j).2.2.1 = some ty) (hlink : Cond.fieldLink own ix Cn (T j).2.1 (T j).2.2.1 ∈ zTB) (hd : decode cc pc = .ok (.putfield ix, 3)) (hE : D k i = some (.inr (ci, fs))) (hl0 : j < fs.length) (hn : narrow ty v = v) (hfit : fits ty v = true) (kk : zNN E nL Z n0 Q (pc + 3) L st (zDu D k i (.inr (ci, fs.set j v))) c b) : zNN E nL Z n0 Q pc L (v :: .ref (zad Z k i) :: st) D c b := fun H locs ls hW hz hS hl => by
  have hap := va_apart (own := own) C.2.2.2.2.1 hin ty0 hty hnm C.2.2.2.2.2.1 hc
  obtain ⟨hk, ha⟩ := hW k i _ hE
  obtain ⟨rr, g1, cell, q1, q2, q3, q4⟩ := ha
  have hr : rr = (Cn, T, N) := Option.some.inj (g1.symm.trans hc)
  subst hr
  obtain ⟨hSl, hfc, kC, hkC, hkind⟩ := C.2.2.2.2.2.1.1 ci _ hc
  obtain ⟨cf, kf, fi, f, hi, hsl⟩ := hSl j hj
  have hlay := C.2.2.2.2.1 _ (hin _ (u_in_lay hj))
  unfold u_lay at hlay
  rw [if_pos hfin] at hlay
  have hst := (u_facts hfc hkC (u_lays C.2.2.2.2.1 hin hj) hi).1
  have hcf : (zm E).cls = cf := by
    obtain ⟨_, _, c', _, _, _, -, -, hf', -, -, -, hown2, -⟩ := Cond.laysFinal_spec hlay
    have e1 : c' = cf := by
      have := hi.symm.trans hf'
      simp at this
      exact this.1.symm
    rw [hT, hown] at hown2
    rw [← e1]
    exact Option.some.inj (C.2.2.1.symm.trans hown2)
  have h6 := u_fits hfc hkC hkind (Or.inr hlay) hi hd1 hn hfit
  rw [hT] at hi
  refine W.putFinK C.1 C.2.1 C.2.2.1 (C.2.2.2.2.1 _ hlink) hi hst hcf (C.2.2.2.2.2.2.2.2.2.2.2.2.2.2.2.resolve_left hRL) (by rw [q2]; exact h6) q1 q3 (by rw [hsl]; exact k2_hasslot (q4 j hj)) rfl rfl hd fun H' e1 e2 e3 => ?_
  rw [hsl] at e1 ⊢
  have hat : va_at Z.1 vwCl (zad Z k i, .inr (ci, fs.set j v)) H' := ⟨_, hc, t_OB.to (V := updV (vp_V fs) j v) ⟨_, e1, q2, q3, t_set q4 hap hj v⟩ (fun x _ => vp_updV_set hl0 v x)⟩
  exact kk H' _ ls (zWD_set hW C.2.2.2.2.2.2.1 e3 hk hat) (by rw [e2, hz]) (hS.put e2 e3 (by rw [C.2.2.2.2.2.2.2.2.1.1 k i hk]; exact Nat.le_add_right _ _)) hl
theorem zn_P {H : Heap} {k i : Nat} {x : va_E} (hW : zWD Z D H) (hE : D k i = some x) : va_P Z.1 vwCl [(zad Z k i, x)] H := by
  intro q y hy
  cases q with
  | zero =>
    cases hy
    exact (hW k i x hE).2
  | succ q => cases hy
theorem zn_get (C : zCN E cc own nL Z h n0 c0 mc ms) {Cn : String} {T : u_T} {N ci ix k i : Nat} (j : Nat) {fs : List Value} {v : Value} (hin : ∀ w ∈ u_ws Cn T N, w ∈ zTB) (hc : vwCl[ci]? = some (Cn, T, N)) (hj : j < N) (hT : (T j).1 = Cn) (hlink : Cond.fieldLink own ix Cn (T j).2.1 (T j).2.2.1 ∈ zTB) (hd : decode cc pc = .ok (.getfield ix, 3)) (hE : D k i = some (.inr (ci, fs))) (hv : fs[j]? = some v) (kk : zNN E nL Z n0 Q (pc + 3) L (v :: st) D c b) : zNN E nL Z n0 Q pc L (.ref (zad Z k i) :: st) D c b := fun H locs ls hW hz hS hl => by
  exact va_get C.1 C.2.1 (Ts := zTB) C.2.2.2.2.1 hin C.2.2.1 C.2.2.2.2.2.1 (zn_P hW hE) 0 rfl hc j hj (C.2.2.2.2.1 _ hlink) (fun x q => by rw [hT] at q; exact q) hv hd (kk H locs ls hW hz hS hl)
theorem zn_aast (C : zCN E cc own nL Z h n0 c0 mc ms) {k i k1 i1 N t0 ci N1 : Nat} {Cn : String} {T1 : u_T} {vs : List Value} {f : Nat → Option Nat} {x : Int32} (hA : D k i = some (.inl (zca Z t0, N, .inr (.inr (.inr (.inr f)))))) (ht : (zTys Z)[t0]? = some (zca Z t0, .object Cn)) (hv : D k1 i1 = some (.inr (ci, vs))) (hc : vwCl[ci]? = some (Cn, T1, N1)) (h0 : ¬ x < 0) (hx : x.toNatClampNeg < N) (hd : decode cc pc = .ok (.aastore, 1)) (kk : zNN E nL Z n0 Q (pc + 1) L st (zDu D k i (.inl (zca Z t0, N, .inr (.inr (.inr (.inr (va_up f x.toNatClampNeg (some (zad Z k1 i1))))))))) c b) : zNN E nL Z n0 Q pc L (.ref (zad Z k1 i1) :: .int x :: .ref (zad Z k i) :: st) D c b := fun H locs ls hW hz hS hl => by
  obtain ⟨hk, ha⟩ := hW k i _ hA
  obtain ⟨r', hr', cellV, g1, g2, g3, -⟩ := (hW k1 i1 _ hv).2
  have hcls := (C.2.2.2.2.2.1.1 ci _ hc).2
  obtain ⟨kA, comp, k1', k2, k3, -⟩ := (C.2.2.2.2.2.1.2 t0 _ ht).2
  have hcomp : comp = Z.1.1 ci := Option.some.inj (k3.symm.trans hcls.1)
  subst hcomp
  obtain ⟨kC, hkC, -⟩ := hcls.2
  refine W.aast C.1 C.2.1 ha (fun q h => by cases h) (fun h => by cases h) k1' k2 rfl hkC ⟨h0, by show _ < (arrV _ _ _).slots.size; rw [arrV_size]; exact hx⟩ g1 (fun q h => by rw [g3] at h; cases h) (by rw [g2]; exact hkC) (by rw [g2]; exact va_assign hcls) rfl rfl hd fun H1 e z oq => ?_
  refine kk H1 _ ls (zWD_set hW C.2.2.2.2.2.2.1 oq hk ?_) (by rw [z, hz]) (hS.put z oq (by rw [C.2.2.2.2.2.2.2.2.1.1 k i hk]; exact Nat.le_add_right _ _)) hl
  show H1[zad Z k i]? = some (vp_cell _ _)
  rw [e]
  rw [vp_cell_q, vp_cell_q, arrV_store]
  congr 2
  funext q
  by_cases hq : q = x.toNatClampNeg
  · subst hq
    simp [updV, va_up, va_rf]
  · simp [updV, va_up, hq]
theorem zn_iast (C : zCN E cc own nL Z h n0 c0 mc ms) {k i N : Nat} {x y : Int32} {f : Nat → Int32} (hA : D k i = some (.inl (zca Z 0, N, .inl f))) (h0 : ¬ y < 0) (hy : y.toNatClampNeg < N) (hd : decode cc pc = .ok (.iastore, 1)) (kk : zNN E nL Z n0 Q (pc + 1) L st (zDu D k i (.inl (zca Z 0, N, .inl (fun j => if j = y.toNatClampNeg then x else f j)))) c b) : zNN E nL Z n0 Q pc L (.int x :: .int y :: .ref (zad Z k i) :: st) D c b := fun H locs ls hW hz hS hl => by
  obtain ⟨hk, ha⟩ := hW k i _ hA
  refine W.iast C.1 C.2.1 ha ((C.2.2.2.2.2.1.2 0 _ rfl).1 N (fun j => .int (f j))) (fun q => by cases q) (by show ¬ (y < 0 ∨ (arrV _ _ _).slots.size ≤ _); rw [arrV_size]; exact fun w => w.elim h0 (fun w => Nat.not_le.mpr hy w)) rfl rfl hd fun H1 e z oq => ?_
  refine kk H1 _ ls (zWD_set hW C.2.2.2.2.2.2.1 oq hk ?_) (by rw [z, hz]) (hS.put z oq (by rw [C.2.2.2.2.2.2.2.2.1.1 k i hk]; exact Nat.le_add_right _ _)) hl
  show H1[zad Z k i]? = some (vp_cell _ _)
  rw [e]
  show some ((arrV (zca Z 0) N (fun j => .int (f j))).setSlot _ _) = some (arrV (zca Z 0) N (fun j => .int (if j = y.toNatClampNeg then x else f j)))
  rw [arrV_store]
  congr 2
  funext q
  by_cases hq : q = y.toNatClampNeg
  · subst hq
    simp [updV]
  · simp [updV, hq]
theorem zn_aald (C : zCN E cc own nL Z h n0 c0 mc ms) {k i N t0 a : Nat} {ty : FieldType} {x : Int32} {f : Nat → Option Nat} (hA : D k i = some (.inl (zca Z t0, N, .inr (.inr (.inr (.inr f)))))) (ht : (zTys Z)[t0]? = some (zca Z t0, ty)) (hr : ty.isReference = true) (h0 : ¬ x < 0) (hx : x.toNatClampNeg < N) (hf : f x.toNatClampNeg = some a) (hd : decode cc pc = .ok (.aaload, 1)) (kk : zNN E nL Z n0 Q (pc + 1) L (.ref a :: st) D c b) : zNN E nL Z n0 Q pc L (.int x :: .ref (zad Z k i) :: st) D c b := fun H locs ls hW hz hS hl => by
  have ha := (hW k i _ hA).2
  exact W.aald (v := .ref a) (ty := ty) C.1 C.2.1 ha ((C.2.2.2.2.2.1.2 t0 _ ht).1 N (fun j => va_rf (f j))) hr (fun q => by cases q) (by show ¬ (x < 0 ∨ (arrV _ _ _).slots.size ≤ _); rw [arrV_size]; exact fun w => w.elim h0 (fun w => Nat.not_le.mpr hx w)) (by show (arrV _ _ _).slots[_]? = _; rw [arrV_read _ _ hx, hf]; rfl) rfl rfl hd (kk H locs ls hW hz hS hl)
end ZN

