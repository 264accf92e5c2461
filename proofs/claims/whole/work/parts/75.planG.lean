theorem zRel_keep {σ τ : zMem} (h2 : τ.2 = σ.2) (h : ∀ K, K < 30 ∨ 37 < K → K < 113 ∨ 118 < K → τ.1 K = σ.1 K) (hR : zRel σ) : zRel τ := by
  obtain ⟨hh, hr, hw, hk, ha, hd, hl, hc, ht, hb, hQ⟩ := hR
  refine ⟨?_, ?_, ?_, ?_, ?_, ?_, ?_, ?_, ?_, ?_, ?_⟩
  · unfold zRh
    simp only [h 0 (by decide) (by decide), h 2 (by decide) (by decide), h 3 (by decide) (by decide), h 4 (by decide) (by decide), h 60 (by decide) (by decide), h 62 (by decide) (by decide), h 63 (by decide) (by decide), h 64 (by decide) (by decide), h 65 (by decide) (by decide), h 66 (by decide) (by decide), h 67 (by decide) (by decide), h 68 (by decide) (by decide), h 69 (by decide) (by decide), h 70 (by decide) (by decide), h 72 (by decide) (by decide)]
    exact hh
  · unfold zRr
    simp only [h 5 (by decide) (by decide), h 6 (by decide) (by decide), h 7 (by decide) (by decide), h 8 (by decide) (by decide), h 9 (by decide) (by decide), h 10 (by decide) (by decide), h 60 (by decide) (by decide), h 73 (by decide) (by decide), h 74 (by decide) (by decide), h 75 (by decide) (by decide), h 76 (by decide) (by decide), h 77 (by decide) (by decide)]
    exact hr
  · unfold zRw
    simp only [h 11 (by decide) (by decide), h 13 (by decide) (by decide), h 14 (by decide) (by decide), h 15 (by decide) (by decide), h 16 (by decide) (by decide), h 17 (by decide) (by decide), h 18 (by decide) (by decide), h 19 (by decide) (by decide), h 60 (by decide) (by decide), h 78 (by decide) (by decide), h 80 (by decide) (by decide), h 82 (by decide) (by decide)]
    exact hw
  · unfold zRk
    simp only [h 22 (by decide) (by decide), h 24 (by decide) (by decide), h 84 (by decide) (by decide), h 86 (by decide) (by decide)]
    exact hk
  · unfold zRa
    simp only [h 0 (by decide) (by decide), h 25 (by decide) (by decide), h 26 (by decide) (by decide), h 27 (by decide) (by decide), h 28 (by decide) (by decide), h 29 (by decide) (by decide), h 60 (by decide) (by decide), h 72 (by decide) (by decide), h 87 (by decide) (by decide), h 88 (by decide) (by decide), h 89 (by decide) (by decide), h 90 (by decide) (by decide)]
    exact ha
  · unfold zRd
    simp only [h 0 (by decide) (by decide), h 50 (by decide) (by decide), h 60 (by decide) (by decide), h 92 (by decide) (by decide)]
    exact hd
  · unfold zRl
    simp only [h 38 (by decide) (by decide), h 40 (by decide) (by decide), h 41 (by decide) (by decide), h 42 (by decide) (by decide), h 60 (by decide) (by decide), h 93 (by decide) (by decide), h 94 (by decide) (by decide), h 95 (by decide) (by decide), h 97 (by decide) (by decide), h 99 (by decide) (by decide), h 100 (by decide) (by decide)]
    exact hl
  · unfold zRc
    simp only [h 0 (by decide) (by decide), h 2 (by decide) (by decide), h 43 (by decide) (by decide), h 44 (by decide) (by decide), h 45 (by decide) (by decide), h 51 (by decide) (by decide), h 60 (by decide) (by decide), h 101 (by decide) (by decide), h 102 (by decide) (by decide), h 103 (by decide) (by decide)]
    exact hc
  · unfold zRt
    simp only [h 47 (by decide) (by decide), h 104 (by decide) (by decide), h 105 (by decide) (by decide), h 107 (by decide) (by decide), h 109 (by decide) (by decide), h2]
    exact ht
  · unfold zRb
    simp only [h 0 (by decide) (by decide), h 52 (by decide) (by decide), h 60 (by decide) (by decide), h 110 (by decide) (by decide)]
    exact hb
  · unfold zRz
    simp only [h 0 (by decide) (by decide), h 11 (by decide) (by decide), h 13 (by decide) (by decide), h 60 (by decide) (by decide), h 62 (by decide) (by decide), h 64 (by decide) (by decide), h 65 (by decide) (by decide), h 66 (by decide) (by decide), h 68 (by decide) (by decide), h 72 (by decide) (by decide), h 75 (by decide) (by decide), h 88 (by decide) (by decide), h 89 (by decide) (by decide), h 95 (by decide) (by decide), h 97 (by decide) (by decide), h 999 (by decide) (by decide)]
    exact hQ
theorem zsumK {A b : Nat} {D : Nat → Nat} (g f u : Nat → Int32) : ∀ N, zsum (fun h => if A.testBit h = true then (if D (zpk A h) = b then f h else 0) else u h) N = zsum (fun h => if A.testBit h = true then 0 else u h) N + zsum (fun i => if D i = b then zmc g f A N i else 0) (zpk A N)
  | 0 => by
    show (0 : Int32) = 0 + 0
    decide
  | N + 1 => by
    have ih := zsumK (A := A) (b := b) (D := D) g f u N
    show zsum (fun h => if A.testBit h = true then (if D (zpk A h) = b then f h else 0) else u h) N + (if A.testBit N = true then (if D (zpk A N) = b then f N else 0) else u N) = (zsum (fun h => if A.testBit h = true then 0 else u h) N + (if A.testBit N = true then 0 else u N)) + zsum (fun i => if D i = b then (if A.testBit N = true then zup1 (zmc g f A N) (zpk A N) (f N) else zmc g f A N) i else 0) (zpk A N + (if A.testBit N = true then 1 else 0))
    rw [ih]
    by_cases q : A.testBit N = true
    · rw [if_pos q, if_pos q, if_pos q, if_pos q, Int32.add_zero]
      show _ = zsum (fun h => if A.testBit h = true then 0 else u h) N + (zsum (fun i => if D i = b then zup1 (zmc g f A N) (zpk A N) (f N) i else 0) (zpk A N) + (if D (zpk A N) = b then zup1 (zmc g f A N) (zpk A N) (f N) (zpk A N) else 0))
      rw [zupq_i, zsum_c (f := fun i => if D i = b then zup1 (zmc g f A N) (zpk A N) (f N) i else 0) (g := fun i => if D i = b then zmc g f A N i else 0) (fun i hi => by rw [zup1_ne _ _ (Nat.ne_of_lt hi)]), Int32.add_assoc]
    · rw [if_neg q, if_neg q, if_neg q, if_neg q, Nat.add_zero, Int32.add_assoc, Int32.add_assoc, Int32.add_comm (u N)]
theorem zhw_r {σ : zMem} (hR : zRel σ) {A N k n d b m : Nat} {D : Nat → Nat} (hN : N ≤ 10) (hk : zpk A N = k) (hb : b < m) (hm : m ≤ 4) : zhw σ (zmc (fun j => σ.1 32 0 j) (fun h => σ.1 3 h 2) A N) A N k n d b (zbt D b k) = zhr σ A N n d D b := by
  have g4 := hR.2.2.2.2.1.2.2.2.2.1 b (by omega)
  have h3 := hR.1.2.2.1
  have h4 := hR.1.2.2.2.2.1
  obtain ⟨q1, q2, q3, q4⟩ := g4
  have s1 : zsum (fun i => if (zbt D b k).testBit i then zmc (fun j => σ.1 32 0 j) (fun h => σ.1 3 h 2) A N i else 0) k = zsum (fun i => if D i = b then zmc (fun j => σ.1 32 0 j) (fun h => σ.1 3 h 2) A N i else 0) k := zsum_c fun i hi => by
    rw [zbt_b, decide_eq_true hi, Bool.true_and]
    by_cases q : D i = b
    · rw [if_pos (decide_eq_true q), if_pos q]
    · rw [if_neg (fun w => q (of_decide_eq_true w)), if_neg q]
  have s2 := zsumK (A := A) (b := b) (D := D) (fun j => σ.1 32 0 j) (fun h => σ.1 3 h 2) (fun h => σ.1 4 h b) N
  rw [hk] at s2
  have s3 : zsum (fun h => if A.testBit h = true then (if D (zpk A h) = b then σ.1 3 h 2 else 0) else σ.1 4 h b) N = zsum (fun h => if A.testBit h = true then (if D (zpk A h) = b then σ.1 62 h 2 else 0) else σ.1 72 b h) N := zsum_c fun h hh => by rw [h3 h 2 (by omega) (by omega), h4 h b (by omega) (by omega)]
  unfold zhw zhr
  rw [s1, ← s2, s3, q1, q2, q3, q4]
theorem zhs_k {c ht ar : Int32} {w f : Nat → Int32} {g s : Int32} (hc : zib c 0 10000) (hg : zib g 0 990) (ha : zib ar 0 99) : ∀ j, j ≤ 30 → zib (zhs c ht ar w f (g, s, 0) j).1 0 990 ∧ zib (zhs c ht ar w f (g, s, 0) j).2.2 0 (10000 * (j : Int))
  | 0, _ => ⟨hg, Int.le_refl _, Int.le_refl _⟩
  | j + 1, hj => by
    obtain ⟨b1, b2, b3⟩ := zhs_k hc hg ha (w := w) (f := f) (ht := ht) (s := s) j (by omega)
    obtain ⟨c0, c1⟩ := hc
    refine ⟨zhd_b b1 ha ⟨c0, by omega⟩, ?_⟩
    show zib ((zhs c ht ar w f (g, s, 0) j).2.2 + (c - zmin c (zhg (zhn (zhs c ht ar w f (g, s, 0) j).2.1 (w j - 5 * ht) (f j)) (zhs c ht ar w f (g, s, 0) j).1 (w j - 5 * ht) ar / 3))) 0 (10000 * ((j + 1 : Nat) : Int))
    have h := zhg_b (s := zhn (zhs c ht ar w f (g, s, 0) j).2.1 (w j - 5 * ht) (f j)) (t := w j - 5 * ht) b1 ha
    generalize zhg (zhn (zhs c ht ar w f (g, s, 0) j).2.1 (w j - 5 * ht) (f j)) (zhs c ht ar w f (g, s, 0) j).1 (w j - 5 * ht) ar = q at h
    generalize (zhs c ht ar w f (g, s, 0) j).2.2 = H at b2 b3
    obtain ⟨g0, g1⟩ := h
    have k3 : (3 : Int32).toInt = 3 := rfl
    have dg : (q / 3).toInt = q.toInt / 3 := by
      rw [Int32.toInt_div_of_ne_right _ _ (by decide), k3, Int.tdiv_eq_ediv_of_nonneg g0]
    have m1 := zmin_t c (q / 3)
    rw [dg] at m1
    have m2 : 0 ≤ (zmin c (q / 3)).toInt ∧ (zmin c (q / 3)).toInt ≤ c.toInt := by
      rw [m1]
      split <;> omega
    have s3 : (c - zmin c (q / 3)).toInt = c.toInt - (zmin c (q / 3)).toInt := t_sub (by omega) (by omega)
    have a3 : (H + (c - zmin c (q / 3))).toInt = H.toInt + (c.toInt - (zmin c (q / 3)).toInt) := by rw [t_add (by rw [s3]; omega) (by rw [s3]; omega), s3]
    unfold zib
    rw [a3]
    omega
theorem zsum_b4 {u : Nat → Int32} : ∀ {n : Nat}, n ≤ 4 → (∀ i, i < n → zib (u i) 0 300000) → zib (zsum u n) 0 (300000 * (n : Int))
  | 0, _, _ => ⟨Int.le_refl _, Int.le_refl _⟩
  | n + 1, hn, h => by
    obtain ⟨i1, i2⟩ := zsum_b4 (n := n) (by omega) fun i hi => h i (by omega)
    obtain ⟨j1, j2⟩ := h n (by omega)
    have e : (zsum u n + u n).toInt = (zsum u n).toInt + (u n).toInt := t_add (by omega) (by omega)
    show zib (zsum u n + u n) _ _
    exact ⟨by omega, by omega⟩
theorem k_b62 {σ : zMem} (hR : zRel σ) {h : Nat} (hh : h < 10) : zib (σ.1 62 h 2) 0 999 := by
  have y1 := (hR.2.2.2.2.2.2.2.2.2.2.1 h hh).2.2.1
  exact ⟨y1.1, Int.le_trans y1.2 (by decide)⟩
theorem k_b72 {σ : zMem} (hR : zRel σ) {b h : Nat} (hb : b < 4) (hh : h < 10) : zib (σ.1 72 b h) 0 999 := by
  have y1 := (hR.2.2.2.2.2.2.2.2.2.2.1 h hh).2.2.1.2
  obtain ⟨y2, y3⟩ := hR.2.2.2.2.2.2.2.2.2.2.2.1 h hh
  have a0 := y2 0 (by omega)
  have a1 := y2 1 (by omega)
  have a2 := y2 2 (by omega)
  have a3 := y2 3 (by omega)
  have c : b = 0 ∨ b = 1 ∨ b = 2 ∨ b = 3 := by omega
  rcases c with rfl | rfl | rfl | rfl
  · exact ⟨a0, by omega⟩
  · exact ⟨a1, by omega⟩
  · exact ⟨a2, by omega⟩
  · exact ⟨a3, by omega⟩
theorem k_V0 {σ : zMem} (hR : zRel σ) {A N n d m : Nat} {D : Nat → Nat} (hN : N ≤ 10) (hn : n ≤ 30) (hm : m ≤ 4) : zsum (zhr σ A N n d D) m < 2147483647 := by
  have z : zib (zsum (zhr σ A N n d D) m) 0 (300000 * (m : Int)) := zsum_b4 hm fun b hb => by
    have y6 := hR.2.2.2.2.2.2.2.2.2.2.2.2.2.2.2.1 b (by omega)
    have c := zsum_ib (u := fun h => if A.testBit h = true then (if D (zpk A h) = b then σ.1 62 h 2 else 0) else σ.1 72 b h) hN (fun h hh => by
      by_cases q : A.testBit h = true
      · simp only [q, if_true]
        by_cases w : D (zpk A h) = b
        · rw [if_pos w]
          exact k_b62 hR (by omega)
        · rw [if_neg w]
          exact ⟨by decide, by decide⟩
      · simp only [q]
        exact k_b72 hR (by omega) (by omega))
    have k := (zhs_k (c := zsum (fun h => if A.testBit h = true then (if D (zpk A h) = b then σ.1 62 h 2 else 0) else σ.1 72 b h) N) (ht := σ.1 87 0 b) (w := fun j => zsk σ 0 (d + j + 1)) (f := fun j => zsk σ 1 (d + j + 1)) (s := σ.1 90 0 b) ⟨c.1, by have := c.2; omega⟩ y6.2 y6.1 n hn).2
    exact ⟨k.1, Int.le_trans k.2 (by omega)⟩
  rw [Int32.lt_iff_toInt_lt]
  have e : (2147483647 : Int32).toInt = 2147483647 := rfl
  have := z.2
  omega

