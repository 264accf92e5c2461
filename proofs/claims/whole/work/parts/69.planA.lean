theorem zRk_c {σ τ : zMem} (h1 : τ.1 22 = σ.1 22) (h2 : τ.1 24 = σ.1 24) (h3 : τ.1 84 = σ.1 84) (h4 : τ.1 86 = σ.1 86) (h : zRk σ) : zRk τ := by
  unfold zRk
  rw [h1, h2, h3, h4]
  exact h
theorem zhs_c {c ht ar : Int32} {w f w2 f2 : Nat → Int32} {D : Int32 × Int32 × Int32} : ∀ {n : Nat}, (∀ j, j < n → w j = w2 j ∧ f j = f2 j) → zhs c ht ar w f D n = zhs c ht ar w2 f2 D n
  | 0, _ => rfl
  | n + 1, h => by
    have ih := zhs_c (c := c) (ht := ht) (ar := ar) (D := D) (n := n) fun j hj => h j (by omega)
    show zhd c (w n - 5 * ht) (f n) ar (zhs c ht ar w f D n) = zhd c (w2 n - 5 * ht) (f2 n) ar (zhs c ht ar w2 f2 D n)
    rw [ih, (h n (by omega)).1, (h n (by omega)).2]
/-- the class's first loop: warmth and fall of the days -/
def zpw (σ : zMem) (d n : Nat) : zMem := zrow (zrow σ 30 (zfu (fun j => zsk σ 0 (d + j + 1)) (fun j => σ.1 30 0 j) n)) 31 (zfu (fun j => zsk σ 1 (d + j + 1)) (fun j => σ.1 31 0 j) n)
theorem zpw_o (σ : zMem) (d n : Nat) {k : Nat} (h0 : k ≠ 30) (h1 : k ≠ 31) : (zpw σ d n).1 k = σ.1 k := by
  unfold zpw
  rw [zrow_o _ 31 _ h1, zrow_o _ 30 _ h0]
theorem e_fore3 {σ : zMem} {d n k a F : Nat} (hF : 8000 < F) (hk : zRk σ) (hn : n ≤ 30) (hd : d + n ≤ 7200) (ed : σ.1 0 0 11 = nI d) : zit (f_X10_foreseeHunger_3 F) F σ (nI a, nI k, nI n, 0) = zit (f_X10_foreseeHunger_68 F) F (zpw σ d n) (nI a, nI k, nI n, 0) := by
  refine zit_m (fun m t x => ∃ j, j ≤ n ∧ m = n - j ∧ t = zpw σ d j ∧ x = (nI a, nI k, nI n, nI j)) _ ?_ F n σ _ ⟨0, by omega, rfl, by unfold zpw; rw [zfu_0, zfu_0, zrow_id]; exact (zrow_id σ 31).symm, by rw [nI_0]⟩ (by omega)
  rintro m t x ⟨j, hj, rfl, rfl, rfl⟩
  have rd : (zpw σ d j).1 0 0 11 = nI d := by rw [zpw_o σ d j (by decide) (by decide), ed]
  by_cases q : j = n
  · subst q
    refine Or.inl fun rec => ?_
    unfold f_X10_foreseeHunger_3
    simp only
    rw [if_pos (Int32.le_refl _)]
  · have ij := inb_n (show j < 30 by omega) (show 30 < 100000 by decide)
    have nj := nI_clamp (n := j) (show j < 2 ^ 31 by omega)
    refine Or.inr ⟨n - (j + 1), zpw σ d (j + 1), (nI a, nI k, nI n, nI (j + 1)), by omega, ⟨j + 1, by omega, rfl, rfl, rfl⟩, fun rec => ?_⟩
    have k1 : zRk (zpw σ d j) := zRk_c (zpw_o σ d j (by decide) (by decide)) (zpw_o σ d j (by decide) (by decide)) (zpw_o σ d j (by decide) (by decide)) (zpw_o σ d j (by decide) (by decide)) hk
    have o1 := e_X5_on k1 (w := 0) (d := d + j) (F := F) (by omega) (by omega) hF
    rw [zsk_s (zpw_o σ d j (by decide) (by decide)) (zpw_o σ d j (by decide) (by decide))] at o1
    have o1 : f_X5_on F (zpw σ d j) (nI (d + j)) 0 = some (zsk σ 0 (d + j + 1), zpw σ d j) := o1
    obtain ⟨s, hs⟩ : ∃ s, s = zwi (zpw σ d j) 30 0 j (zsk σ 0 (d + j + 1)) := ⟨_, rfl⟩
    have so : ∀ k, k ≠ 30 → k ≠ 31 → s.1 k = σ.1 k := fun k h0 h1 => by
      rw [hs, ← zpw_o σ d j h0 h1]
      funext i c
      exact zwi_r (fun q => h0 q.1)
    have k2 : zRk s := zRk_c (so _ (by decide) (by decide)) (so _ (by decide) (by decide)) (so _ (by decide) (by decide)) (so _ (by decide) (by decide)) hk
    have o2 := e_X5_on k2 (w := 1) (d := d + j) (F := F) (by omega) (by omega) hF
    rw [zsk_s (so _ (by decide) (by decide)) (so _ (by decide) (by decide))] at o2
    have o2 : f_X5_on F s (nI (d + j)) 1 = some (zsk σ 1 (d + j + 1), s) := o2
    have rs : s.1 0 0 11 = nI d := by rw [so 0 (by decide) (by decide), ed]
    have fin : zwi s 31 0 j (zsk σ 1 (d + j + 1)) = zpw σ d (j + 1) := by
      rw [hs]
      unfold zpw
      rw [zrow_wo _ _ 0 j _ (show 30 ≠ 31 by decide), zrow_w, zrow_w, ← zfu_s, ← zfu_s]
    unfold f_X10_foreseeHunger_3
    simp only
    rw [if_neg (nle_s (by omega) (by omega)), rd, nI_add, o1, zb_s, zg_i ij, nj, ← hs, rs, nI_add, o2, zb_s, zg_i ij, fin, nI_1]
/-- the hunger of alp a with the members of S there -/
def zhvv (σ : zMem) (A N k n a S : Nat) : Int32 := (zhs (zsum (fun h => if A.testBit h then 0 else σ.1 4 h a) N + zsum (fun i => if S.testBit i then σ.1 32 0 i else 0) k) (σ.1 26 0 a) (σ.1 27 0 a) (fun j => σ.1 30 0 j) (fun j => σ.1 31 0 j) (σ.1 28 0 a, σ.1 29 0 a, 0) n).2.2
theorem zhvv_c {σ τ : zMem} (h : ∀ k, k ≠ 34 → τ.1 k = σ.1 k) (A N k n a S : Nat) : zhvv τ A N k n a S = zhvv σ A N k n a S := by
  unfold zhvv
  rw [h 4 (by decide), h 32 (by decide), h 26 (by decide), h 27 (by decide), h 30 (by decide), h 31 (by decide), h 28 (by decide), h 29 (by decide)]
/-- the class's table of hunger: rows of the alps before a, and of a the sets before S -/
def zht (σ : zMem) (A N k n a S : Nat) : Nat → Nat → Int32 := fun i j => if (i < a ∧ j < 2 ^ k) ∨ (i = a ∧ j < S) then zhvv σ A N k n i j else σ.1 34 i j
theorem zht_s (σ : zMem) (A N k n a S : Nat) : zup2 (zht σ A N k n a S) a S (zhvv σ A N k n a S) = zht σ A N k n a (S + 1) := by
  funext i j
  show (if i = a ∧ j = S then zhvv σ A N k n a S else (if (i < a ∧ j < 2 ^ k) ∨ (i = a ∧ j < S) then zhvv σ A N k n i j else σ.1 34 i j)) = (if (i < a ∧ j < 2 ^ k) ∨ (i = a ∧ j < S + 1) then zhvv σ A N k n i j else σ.1 34 i j)
  by_cases h : i = a ∧ j = S
  · rw [if_pos h, if_pos (Or.inr ⟨h.1, by omega⟩), h.1, h.2]
  · rw [if_neg h]
    by_cases h2 : (i < a ∧ j < 2 ^ k) ∨ (i = a ∧ j < S)
    · rw [if_pos h2, if_pos (h2.elim (fun q => Or.inl q) (fun q => Or.inr ⟨q.1, by omega⟩))]
    · rw [if_neg h2, if_neg (fun q => h2 (q.elim (fun w => Or.inl w) (fun w => Or.inr ⟨w.1, by omega⟩)))]
theorem zht_e (σ : zMem) (A N k n a : Nat) : zht σ A N k n a (2 ^ k) = zht σ A N k n (a + 1) 0 := by
  funext i j
  show (if (i < a ∧ j < 2 ^ k) ∨ (i = a ∧ j < 2 ^ k) then zhvv σ A N k n i j else σ.1 34 i j) = (if (i < a + 1 ∧ j < 2 ^ k) ∨ (i = a + 1 ∧ j < 0) then zhvv σ A N k n i j else σ.1 34 i j)
  by_cases h : (i < a ∧ j < 2 ^ k) ∨ (i = a ∧ j < 2 ^ k)
  · rw [if_pos h, if_pos (Or.inl (by omega))]
  · rw [if_neg h, if_neg (by omega)]
theorem zp2_1 : ∀ k, k < 6 → (1 : Int32) <<< (nI k &&& 31) = nI (2 ^ k) ∧ 2 ^ k ≤ 32 ∧ 1 ≤ 2 ^ k := by decide
theorem e_fore68 {σ : zMem} {A N k m n F : Nat} (hF : 8000 < F) (hA : A < 1024) (hN : N ≤ 10) (hk : k ≤ 5) (hm : m ≤ 4) (hn : n ≤ 30) (e1 : σ.1 0 0 1 = nI N) (em : σ.1 25 0 4 = nI m) : zit (f_X10_foreseeHunger_68 F) F σ (nI A, nI k, nI n, 0) = some ((), ztab σ 34 (zht σ A N k n m 0)) := by
  obtain ⟨p1, p2, p3⟩ := zp2_1 k (by omega)
  have so : ∀ f k, k ≠ 34 → (ztab σ 34 f).1 k = σ.1 k := fun f k h => ztab_o σ 34 f h
  refine zit_m (fun i t x => ∃ a, a ≤ m ∧ i = m - a ∧ t = ztab σ 34 (zht σ A N k n a 0) ∧ x = (nI A, nI k, nI n, nI a)) _ ?_ F m σ _ ⟨0, by omega, rfl, ?_, by rw [nI_0]⟩ (by omega)
  · rintro i t x ⟨a, ha, rfl, rfl, rfl⟩
    have rm : (ztab σ 34 (zht σ A N k n a 0)).1 25 0 4 = nI m := by rw [so _ _ (by decide), em]
    have r1 : (ztab σ 34 (zht σ A N k n a 0)).1 0 0 1 = nI N := by rw [so _ _ (by decide), e1]
    by_cases q : a = m
    · subst q
      refine Or.inl fun rec => ?_
      unfold f_X10_foreseeHunger_68
      simp only
      rw [rm, if_pos (Int32.le_refl _)]
    · refine Or.inr ⟨m - (a + 1), ztab σ 34 (zht σ A N k n (a + 1) 0), (nI A, nI k, nI n, nI (a + 1)), by omega, ⟨a + 1, by omega, rfl, rfl, rfl⟩, fun rec => ?_⟩
      have ia := inb_n (show a < 4 by omega) (show 4 < 100000 by decide)
      have na := nI_clamp (show a < 2 ^ 31 by omega)
      unfold f_X10_foreseeHunger_68
      simp only
      rw [rm, if_neg (nle_s (by omega) (by omega)), e_cowsUpOn (by omega) hA (by omega) hN r1, zb_s, so _ 4 (by decide), nI_0.symm]
      refine zit_m (fun i t x => ∃ S, S ≤ 2 ^ k ∧ i = 2 ^ k - S ∧ t = ztab σ 34 (zht σ A N k n a S) ∧ x = (nI A, nI k, nI n, nI a, zsum (fun h => if A.testBit h then 0 else σ.1 4 h a) N, nI S)) _ ?_ F (2 ^ k) _ _ ⟨0, by omega, rfl, rfl, rfl⟩ (by omega)
      rintro i t x ⟨S, hS, rfl, rfl, rfl⟩
      by_cases q2 : S = 2 ^ k
      · refine Or.inl fun rec2 => ?_
        unfold f_X10_foreseeHunger_92
        simp only
        rw [p1, q2, if_pos (Int32.le_refl _), zht_e, nI_1]
      · refine Or.inr ⟨2 ^ k - (S + 1), ztab σ 34 (zht σ A N k n a (S + 1)), (nI A, nI k, nI n, nI a, zsum (fun h => if A.testBit h then 0 else σ.1 4 h a) N, nI (S + 1)), by omega, ⟨S + 1, by omega, rfl, rfl, rfl⟩, fun rec2 => ?_⟩
        have iS := inb_n (show S < 32 by omega) (show 32 < 100000 by decide)
        have nS := nI_clamp (show S < 2 ^ 31 by omega)
        have hw := e_hungerWith (σ := ztab σ 34 (zht σ A N k n a S)) (a := a) (n := n) (F := F) (by omega) (by omega) hn (zsum (fun h => if A.testBit h then 0 else σ.1 4 h a) N + zsum (fun i => if S.testBit i then σ.1 32 0 i else 0) k)
        rw [so _ 26 (by decide), so _ 27 (by decide), so _ 28 (by decide), so _ 29 (by decide), so _ 30 (by decide), so _ 31 (by decide)] at hw
        have cs := e_cowsOfSome (σ := ztab σ 34 (zht σ A N k n a S)) (s := S) (k := k) (F := F) (by omega) (by omega) hk
        rw [so _ 32 (by decide)] at cs
        unfold f_X10_foreseeHunger_92
        simp only
        rw [p1, if_neg (nle_s (by omega) (by omega)), zg_i ia, cs, zb_s, hw, zb_s, zg_i iS, na, nS, ztab_w, nI_1, ← zht_s]
        rfl
  · have : zht σ A N k n 0 0 = σ.1 34 := by
      funext i j
      exact if_neg (by omega)
    rw [this, ztab_id]
/-- all of foreseeHunger: a state that has the table, and else is as it was -/
theorem e_fore {σ : zMem} {A N k m n d F : Nat} (hF : 8000 < F) (hA : A < 1024) (hN : N ≤ 10) (hk5 : k ≤ 5) (hm : m ≤ 4) (hn : n ≤ 30) (hd : d + n ≤ 7200) (hk : zRk σ) (e1 : σ.1 0 0 1 = nI N) (em : σ.1 25 0 4 = nI m) (ed : σ.1 0 0 11 = nI d) : f_X10_foreseeHunger F σ (nI A) (nI k) (nI n) = some ((), ztab (zpw σ d n) 34 (zht (zpw σ d n) A N k n m 0)) := by
  unfold f_X10_foreseeHunger
  rw [e_fore3 hF hk hn hd ed, e_fore68 hF hA hN hk5 hm hn (by rw [zpw_o σ d n (by decide) (by decide), e1]) (by rw [zpw_o σ d n (by decide) (by decide), em])]
/-- the number itself, by the memory ahead of the call -/
def zhw (σ : zMem) (f : Nat → Int32) (A N k n d a S : Nat) : Int32 := (zhs (zsum (fun h => if A.testBit h then 0 else σ.1 4 h a) N + zsum (fun i => if S.testBit i then f i else 0) k) (σ.1 26 0 a) (σ.1 27 0 a) (fun j => zsk σ 0 (d + j + 1)) (fun j => zsk σ 1 (d + j + 1)) (σ.1 28 0 a, σ.1 29 0 a, 0) n).2.2
theorem zhvv_w {σ : zMem} (f : Nat → Int32) (A N k n d a S : Nat) : zhvv (zpw (zrow σ 32 f) d n) A N k n a S = zhw σ f A N k n d a S := by
  have o : ∀ k, k ≠ 30 → k ≠ 31 → k ≠ 32 → (zpw (zrow σ 32 f) d n).1 k = σ.1 k := fun k h0 h1 h2 => by rw [zpw_o _ d n h0 h1, zrow_o σ 32 f h2]
  have f32 : ∀ i, (zpw (zrow σ 32 f) d n).1 32 0 i = f i := fun i => by rw [zpw_o _ d n (by decide) (by decide), zrow_at]
  have s0 : ∀ w j, zsk (zrow σ 32 f) w j = zsk σ w j := fun w j => zsk_s (zrow_o σ 32 f (by decide)) (zrow_o σ 32 f (by decide)) j
  have f30 : ∀ j, j < n → (zpw (zrow σ 32 f) d n).1 30 0 j = zsk σ 0 (d + j + 1) := fun j hj => by
    unfold zpw
    rw [zrow_o _ 31 _ (show 30 ≠ 31 by decide), zrow_at, zfu_lt _ hj, s0]
  have f31 : ∀ j, j < n → (zpw (zrow σ 32 f) d n).1 31 0 j = zsk σ 1 (d + j + 1) := fun j hj => by
    unfold zpw
    rw [zrow_at, zfu_lt _ hj, s0]
  unfold zhvv zhw
  rw [o 4 (by decide) (by decide) (by decide), o 26 (by decide) (by decide) (by decide), o 27 (by decide) (by decide) (by decide), o 28 (by decide) (by decide) (by decide), o 29 (by decide) (by decide) (by decide)]
  simp only [f32]
  exact congrArg (fun x => x.2.2) (zhs_c fun j hj => ⟨f30 j hj, f31 j hj⟩)

