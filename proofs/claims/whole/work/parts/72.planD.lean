/-- the reference tries a way: its copies -/
theorem zrq_wo (σ : zMem) (G S : Nat → Int32) {k : Nat} (i a : Nat) (v : Int32) (h0 : k ≠ 113) (h1 : k ≠ 114) : zwi (zrq σ G S) k i a v = zrq (zwi σ k i a v) G S := by
  refine Prod.ext ?_ rfl
  funext k2 i2 j2
  show (if k2 = k ∧ i2 = i ∧ j2 = a then v else if k2 = 113 ∧ i2 = 0 then G j2 else if k2 = 114 ∧ i2 = 0 then S j2 else σ.1 k2 i2 j2) = (if k2 = 113 ∧ i2 = 0 then G j2 else if k2 = 114 ∧ i2 = 0 then S j2 else if k2 = k ∧ i2 = i ∧ j2 = a then v else σ.1 k2 i2 j2)
  by_cases q : k2 = 113 ∧ i2 = 0
  · rw [if_neg (fun w => h0 (w.1.symm.trans q.1)), if_pos q, if_pos q]
  · by_cases q2 : k2 = 114 ∧ i2 = 0
    · rw [if_neg (fun w => h1 (w.1.symm.trans q2.1)), if_neg q, if_pos q2, if_neg q, if_pos q2]
    · rw [if_neg q, if_neg q2, if_neg q, if_neg q2]
theorem zrq_c (σ : zMem) (G S : Nat → Int32) {k : Nat} (h0 : k ≠ 113) (h1 : k ≠ 114) : (zrq σ G S).1 k = σ.1 k := by
  funext i j
  exact zrq_o σ G S (fun w => w.elim h0 h1)
theorem t_i0 : (0 : Int32).toNatClampNeg = 0 := by decide
theorem t_i4 : (4 : Int32).toNatClampNeg = 4 := by decide
theorem t_i5 : (5 : Int32).toNatClampNeg = 5 := by decide
theorem t_i10 : (10 : Int32).toNatClampNeg = 10 := by decide
theorem t_cp1 (σ : zMem) : zcpi (zcpi σ 89 0 0 113 0 0 4) 90 0 0 114 0 0 4 = zrq σ (fun j => if j < 4 then σ.1 89 0 j else σ.1 113 0 j) (fun j => if j < 4 then σ.1 90 0 j else σ.1 114 0 j) := by
  unfold zcpi zcp
  rw [t_i0, t_i4]
  refine Prod.ext ?_ rfl
  funext k i j
  show (if k = 114 ∧ i = 0 ∧ 0 ≤ j ∧ j < 0 + 4 then (if (90 : Nat) = 113 ∧ (0 : Nat) = 0 ∧ 0 ≤ 0 + (j - 0) ∧ 0 + (j - 0) < 0 + 4 then σ.1 89 0 (0 + (0 + (j - 0) - 0)) else σ.1 90 0 (0 + (j - 0))) else (if k = 113 ∧ i = 0 ∧ 0 ≤ j ∧ j < 0 + 4 then σ.1 89 0 (0 + (j - 0)) else σ.1 k i j)) = (if k = 113 ∧ i = 0 then (if j < 4 then σ.1 89 0 j else σ.1 113 0 j) else if k = 114 ∧ i = 0 then (if j < 4 then σ.1 90 0 j else σ.1 114 0 j) else σ.1 k i j)
  rw [if_neg (show ¬ ((90 : Nat) = 113 ∧ (0 : Nat) = 0 ∧ 0 ≤ 0 + (j - 0) ∧ 0 + (j - 0) < 0 + 4) by omega), Nat.zero_add, Nat.sub_zero]
  by_cases q : k = 113 ∧ i = 0
  · rw [if_neg (show ¬ (k = 114 ∧ i = 0 ∧ 0 ≤ j ∧ j < 0 + 4) by omega), if_pos q]
    by_cases p : j < 4
    · rw [if_pos (show k = 113 ∧ i = 0 ∧ 0 ≤ j ∧ j < 0 + 4 by omega), if_pos p, Nat.zero_add]
    · rw [if_neg (show ¬ (k = 113 ∧ i = 0 ∧ 0 ≤ j ∧ j < 0 + 4) by omega), if_neg p, q.1, q.2]
  · rw [if_neg q, if_neg (show ¬ (k = 113 ∧ i = 0 ∧ 0 ≤ j ∧ j < 0 + 4) by omega)]
    by_cases q2 : k = 114 ∧ i = 0
    · rw [if_pos q2]
      by_cases p : j < 4
      · rw [if_pos (show k = 114 ∧ i = 0 ∧ 0 ≤ j ∧ j < 0 + 4 by omega), if_pos p, Nat.zero_add]
      · rw [if_neg (show ¬ (k = 114 ∧ i = 0 ∧ 0 ≤ j ∧ j < 0 + 4) by omega), if_neg p, q2.1, q2.2]
    · rw [if_neg q2, if_neg (show ¬ (k = 114 ∧ i = 0 ∧ 0 ≤ j ∧ j < 0 + 4) by omega)]
theorem t_cp2 (σ : zMem) (U : Nat → Nat → Int32) (G S : Nat → Int32) (a : Nat) : zcpi (zrq (ztab σ 116 U) G S) (71 + 1) a 0 116 a 0 10 = zrq (ztab σ 116 (fun i j => if i = a ∧ j < 10 then σ.1 72 i j else U i j)) G S := by
  unfold zcpi zcp
  rw [t_i0, t_i10]
  refine Prod.ext ?_ rfl
  funext k i j
  show (if k = 116 ∧ i = a ∧ 0 ≤ j ∧ j < 0 + 10 then (zrq (ztab σ 116 U) G S).1 72 a (0 + (j - 0)) else (zrq (ztab σ 116 U) G S).1 k i j) = (zrq (ztab σ 116 (fun i j => if i = a ∧ j < 10 then σ.1 72 i j else U i j)) G S).1 k i j
  by_cases q : k = 116
  · subst q
    rw [zrq_c _ G S (show (116 : Nat) ≠ 113 by decide) (by decide), zrq_c _ G S (show (116 : Nat) ≠ 113 by decide) (by decide), zrq_c _ G S (show (72 : Nat) ≠ 113 by decide) (by decide), ztab_at, ztab_at, ztab_o σ 116 U (show 72 ≠ 116 by decide)]
    by_cases p : i = a ∧ j < 10
    · rw [if_pos (show (116 : Nat) = 116 ∧ i = a ∧ 0 ≤ j ∧ j < 0 + 10 by omega), if_pos p, Nat.zero_add, Nat.sub_zero, p.1]
    · rw [if_neg (show ¬ ((116 : Nat) = 116 ∧ i = a ∧ 0 ≤ j ∧ j < 0 + 10) by omega), if_neg p]
  · rw [if_neg (fun w => q w.1)]
    by_cases p : k = 113 ∧ i = 0
    · rw [p.1, p.2, zrq_g, zrq_g]
    · by_cases p2 : k = 114 ∧ i = 0
      · rw [p2.1, p2.2, zrq_s, zrq_s]
      · show (if k = 113 ∧ i = 0 then G j else if k = 114 ∧ i = 0 then S j else (ztab σ 116 U).1 k i j) = (if k = 113 ∧ i = 0 then G j else if k = 114 ∧ i = 0 then S j else (ztab σ 116 (fun i j => if i = a ∧ j < 10 then σ.1 72 i j else U i j)).1 k i j)
        rw [if_neg p, if_neg p2, if_neg p, if_neg p2, ztab_o σ 116 U q, ztab_o σ 116 _ q]
/-- the rows of up copied -/
def zuc (σ : zMem) (a : Nat) : Nat → Nat → Int32 := fun i j => if i < a ∧ j < 10 then σ.1 72 i j else σ.1 116 i j
theorem e_tr43 {σ : zMem} {A N k m n F : Nat} {G S : Nat → Int32} (hF : 100 < F) : zit (f_X11_tried_43 F) F (zrq σ G S) (nI A, nI n, 89, 90, 71, 0) = zit (f_X11_tried_80 F) F (zrq (ztab σ 116 (zuc σ 4)) G S) (nI A, nI n, 89, 90, 71, 0, 0) := by
  have t4 : zdG 89 = true := by decide
  have t5 : zdS 90 = true := by decide
  have t6 : zdU 71 = true := by decide
  refine zit_m (fun i t x => ∃ a, a ≤ 4 ∧ i = 4 - a ∧ t = zrq (ztab σ 116 (zuc σ a)) G S ∧ x = (nI A, nI n, 89, 90, 71, nI a)) _ ?_ F 4 _ _ ⟨0, by omega, rfl, ?_, by rw [nI_0]⟩ (by omega)
  · rintro i t x ⟨a, ha, rfl, rfl, rfl⟩
    by_cases q : a = 4
    · subst q
      refine Or.inl fun rec => ?_
      unfold f_X11_tried_43
      simp only
      rw [zg_i t4, zg_i t5, zg_i t6, if_pos (by decide)]
    · have ia := inb_n (show a < 4 by omega) (show 4 < 100000 by decide)
      have na := nI_clamp (show a < 2 ^ 31 by omega)
      have l4 : ¬ (4 : Int32) ≤ nI a := nle_l 4 (n := 4) rfl (by omega) (by decide)
      refine Or.inr ⟨4 - (a + 1), zrq (ztab σ 116 (zuc σ (a + 1))) G S, (nI A, nI n, 89, 90, 71, nI (a + 1)), by omega, ⟨a + 1, by omega, rfl, rfl, rfl⟩, fun rec => ?_⟩
      have e : (fun i j => if i = a ∧ j < 10 then σ.1 72 i j else zuc σ a i j) = zuc σ (a + 1) := by
        funext i j
        show (if i = a ∧ j < 10 then σ.1 72 i j else (if i < a ∧ j < 10 then σ.1 72 i j else σ.1 116 i j)) = (if i < a + 1 ∧ j < 10 then σ.1 72 i j else σ.1 116 i j)
        by_cases w : i = a ∧ j < 10
        · rw [if_pos w, if_pos (by omega)]
        · rw [if_neg w]
          by_cases w2 : i < a ∧ j < 10
          · rw [if_pos w2, if_pos (by omega)]
          · rw [if_neg w2, if_neg (by omega)]
      have z10 : zck 0 0 10 10 10 = true := by decide
      unfold f_X11_tried_43
      simp only
      rw [zg_i t4, zg_i t5, zg_i t6, if_neg l4, zg_i ia, zg_i ia, zg_i z10, na, t_cp2, e, nI_1]
  · have : zuc σ 0 = σ.1 116 := by
      funext i j
      exact if_neg (by omega)
    rw [this, ztab_id]
/-- the members' cows put to their alps: all houses before h, and of h the alps before a -/
def zuv (σ : zMem) (A : Nat) (D : Nat → Nat) (m h a : Nat) : Nat → Nat → Int32 := fun i j => if ((j < h ∧ i < m) ∨ (j = h ∧ i < a)) ∧ A.testBit j = true then (if D (zpk A j) = i then σ.1 62 j 2 else 0) else zuc σ 4 i j
theorem zuv_s (σ : zMem) {A : Nat} (D : Nat → Nat) (m h a : Nat) (ht : A.testBit h = true) : zup2 (zuv σ A D m h a) a h (if D (zpk A h) = a then σ.1 62 h 2 else 0) = zuv σ A D m h (a + 1) := by
  funext i j
  show (if i = a ∧ j = h then (if D (zpk A h) = a then σ.1 62 h 2 else 0) else zuv σ A D m h a i j) = zuv σ A D m h (a + 1) i j
  unfold zuv
  by_cases q : i = a ∧ j = h
  · obtain ⟨rfl, rfl⟩ := q
    rw [if_pos (show i = i ∧ j = j from ⟨rfl, rfl⟩), if_pos (show ((j < j ∧ i < m) ∨ (j = j ∧ i < i + 1)) ∧ A.testBit j = true from ⟨Or.inr ⟨rfl, by omega⟩, ht⟩)]
  · rw [if_neg q]
    by_cases p : ((j < h ∧ i < m) ∨ (j = h ∧ i < a)) ∧ A.testBit j = true
    · rw [if_pos p, if_pos (show ((j < h ∧ i < m) ∨ (j = h ∧ i < a + 1)) ∧ A.testBit j = true from ⟨by omega, p.2⟩)]
    · rw [if_neg p, if_neg (show ¬ (((j < h ∧ i < m) ∨ (j = h ∧ i < a + 1)) ∧ A.testBit j = true) from fun w => p ⟨by omega, w.2⟩)]
theorem zuv_e (σ : zMem) (A : Nat) (D : Nat → Nat) (m h : Nat) : zuv σ A D m h m = zuv σ A D m (h + 1) 0 := by
  funext i j
  unfold zuv
  by_cases p : ((j < h ∧ i < m) ∨ (j = h ∧ i < m)) ∧ A.testBit j = true
  · rw [if_pos p, if_pos (show ((j < h + 1 ∧ i < m) ∨ (j = h + 1 ∧ i < 0)) ∧ A.testBit j = true from ⟨by omega, p.2⟩)]
  · rw [if_neg p, if_neg (show ¬ (((j < h + 1 ∧ i < m) ∨ (j = h + 1 ∧ i < 0)) ∧ A.testBit j = true) from fun w => p ⟨by omega, w.2⟩)]
theorem zuv_f (σ : zMem) {A : Nat} (D : Nat → Nat) (m h : Nat) (ht : ¬ A.testBit h = true) : zuv σ A D m h 0 = zuv σ A D m (h + 1) 0 := by
  funext i j
  unfold zuv
  by_cases p : ((j < h ∧ i < m) ∨ (j = h ∧ i < 0)) ∧ A.testBit j = true
  · rw [if_pos p, if_pos (show ((j < h + 1 ∧ i < m) ∨ (j = h + 1 ∧ i < 0)) ∧ A.testBit j = true from ⟨by omega, p.2⟩)]
  · rw [if_neg p, if_neg (show ¬ (((j < h + 1 ∧ i < m) ∨ (j = h + 1 ∧ i < 0)) ∧ A.testBit j = true) from fun w => p ⟨by
      have w1 := w.1
      by_cases c : j = h
      · subst c
        exact absurd w.2 ht
      · omega, w.2⟩)]
theorem zwi3 (σ : zMem) (v1 v2 v3 : Int32) {k : Nat} (h : k ≠ 60) : (zwi (zwi (zwi σ 60 0 28 v1) 60 0 29 v2) 60 0 11 v3).1 k = σ.1 k := by
  funext i j
  rw [zwi_r (fun w => h w.1), zwi_r (fun w => h w.1), zwi_r (fun w => h w.1)]
theorem e_tr80 {σ : zMem} {A N k m n F : Nat} {D : Nat → Nat} {G S : Nat → Int32} (hF : 100 < F) (hA : A < 1024) (hN : N ≤ 10) (hk : zpk A N = k) (hk5 : k ≤ 5) (hm : m ≤ 4) (e1 : σ.1 60 0 1 = nI N) (em : σ.1 60 0 25 = nI m) (h117 : ∀ i, i < k → σ.1 117 0 i = nI (D i)) (hD : ∀ i, i < k → D i < m) : zit (f_X11_tried_80 F) F (zrq (ztab σ 116 (zuc σ 4)) G S) (nI A, nI n, 89, 90, 71, 0, 0) = zit (f_X11_tried_194 F) F (zrq (zwi (zwi (zwi (ztab σ 116 (zuv σ A D m N 0)) 60 0 28 (nI 113)) 60 0 29 (nI 114)) 60 0 11 (nI 115)) G S) (nI n, 89, 90, 71, 0, σ.1 60 0 0) := by
  have t4 : zdG 89 = true := by decide
  have t5 : zdS 90 = true := by decide
  have t6 : zdU 71 = true := by decide
  have ro : ∀ U K, K ≠ 113 → K ≠ 114 → K ≠ 116 → (zrq (ztab σ 116 U) G S).1 K = σ.1 K := fun U K h0 h1 h2 => by rw [zrq_c _ G S h0 h1, ztab_o σ 116 U h2]
  refine zit_m (fun i t x => ∃ h, h ≤ N ∧ i = N - h ∧ t = zrq (ztab σ 116 (zuv σ A D m h 0)) G S ∧ x = (nI A, nI n, 89, 90, 71, nI (zpk A h), nI h)) _ ?_ F N _ _ ⟨0, by omega, rfl, ?_, by rw [show zpk A 0 = 0 from rfl, nI_0]⟩ (by omega)
  · rintro i t x ⟨h, hh, rfl, rfl, rfl⟩
    have r1 : (zrq (ztab σ 116 (zuv σ A D m h 0)) G S).1 60 0 1 = nI N := by rw [ro _ 60 (by decide) (by decide) (by decide), e1]
    by_cases q : h = N
    · subst q
      refine Or.inl fun rec => ?_
      unfold f_X11_tried_80
      simp only
      rw [zg_i t4, zg_i t5, zg_i t6, r1, if_pos (Int32.le_refl _), zrq_wo _ G S 0 28 _ (by decide) (by decide), zrq_wo _ G S 0 29 _ (by decide) (by decide), zrq_wo _ G S 0 11 _ (by decide) (by decide), zrq_c _ G S (show 60 ≠ 113 by decide) (by decide), zwi_r (by decide), zwi_r (by decide), zwi_r (by decide), ztab_o σ 116 _ (show 60 ≠ 116 by decide)]
    · have b := zpb_1 A hA h (by omega)
      by_cases p : A.testBit h = true
      · have ks := zpk_s A h
        rw [if_pos p] at ks
        have km := zpk_mono A (i := h + 1) (N - (h + 1))
        rw [show h + 1 + (N - (h + 1)) = N by omega, hk] at km
        refine Or.inr ⟨N - (h + 1), zrq (ztab σ 116 (zuv σ A D m (h + 1) 0)) G S, (nI A, nI n, 89, 90, 71, nI (zpk A (h + 1)), nI (h + 1)), by omega, ⟨h + 1, by omega, rfl, rfl, rfl⟩, fun rec => ?_⟩
        unfold f_X11_tried_80
        simp only
        rw [zg_i t4, zg_i t5, zg_i t6, r1, if_neg (nle_s (by omega) (by omega)), if_pos (b.mpr p), nI_0.symm]
        refine zit_m (fun i t x => ∃ a, a ≤ m ∧ i = m - a ∧ t = zrq (ztab σ 116 (zuv σ A D m h a)) G S ∧ x = (nI A, nI n, 89, 90, 71, nI (zpk A h), nI h, nI a)) _ ?_ F m _ _ ⟨0, by omega, rfl, rfl, rfl⟩ (by omega)
        rintro i t x ⟨a, ha, rfl, rfl, rfl⟩
        have rm : (zrq (ztab σ 116 (zuv σ A D m h a)) G S).1 60 0 25 = nI m := by rw [ro _ 60 (by decide) (by decide) (by decide), em]
        by_cases q2 : a = m
        · subst q2
          refine Or.inl fun rec2 => ?_
          unfold f_X11_tried_102
          simp only
          rw [zg_i t4, zg_i t5, zg_i t6, rm, if_pos (Int32.le_refl _), zuv_e, nI_1, nI_1, ks]
        · have ia := inb_n (show a < 4 by omega) (show 4 < 100000 by decide)
          have na := nI_clamp (show a < 2 ^ 31 by omega)
          have iz := inb_n (show zpk A h < 5 by omega) (show 5 < 100000 by decide)
          have nz := nI_clamp (show zpk A h < 2 ^ 31 by omega)
          have ih := inb_n (show h < 10 by omega) (show 10 < 100000 by decide)
          have nh := nI_clamp (show h < 2 ^ 31 by omega)
          have s4 : decide (a < 4) = true := decide_eq_true (by omega)
          have i2 : inb 2 5 = true := by decide
          have dd := hD (zpk A h) (by omega)
          have r117 : (zrq (ztab σ 116 (zuv σ A D m h a)) G S).1 117 0 (zpk A h) = nI (D (zpk A h)) := by rw [ro _ 117 (by decide) (by decide) (by decide), h117 _ (by omega)]
          have us := zuv_s σ D m h a p
          have fin : ∀ v, v = (if D (zpk A h) = a then σ.1 62 h 2 else 0) → zwi (zrq (ztab σ 116 (zuv σ A D m h a)) G S) 116 a h v = zrq (ztab σ 116 (zuv σ A D m h (a + 1))) G S := fun v hv => by
            rw [zrq_wo _ G S a h v (by decide) (by decide), ztab_w, hv, us]
          refine Or.inr ⟨m - (a + 1), zrq (ztab σ 116 (zuv σ A D m h (a + 1))) G S, (nI A, nI n, 89, 90, 71, nI (zpk A h), nI h, nI (a + 1)), by omega, ⟨a + 1, by omega, rfl, rfl, rfl⟩, fun rec2 => ?_⟩
          unfold f_X11_tried_102 f_X11_tried_145
          simp only
          rw [zg_i t4, zg_i t5, zg_i t6, rm, if_neg (nle_s (by omega) (by omega)), zg_i ia, zg_i iz, nz, r117]
          by_cases w : D (zpk A h) = a
          · rw [if_pos (by rw [w]), zg_i ih, zg_i i2, zg_i t4, zg_i t5, zg_i t6, na, nh, zg_i s4, zg_i ih, fin _ (by rw [if_pos w, ro _ 62 (by decide) (by decide) (by decide)]), nI_1]
          · rw [if_neg (fun c => w ((nI_eq (by omega) (by omega)).mp c).symm), zg_i t4, zg_i t5, zg_i t6, na, nh, zg_i s4, zg_i ih, fin _ (by rw [if_neg w]), nI_1]
      · refine Or.inr ⟨N - (h + 1), zrq (ztab σ 116 (zuv σ A D m (h + 1) 0)) G S, (nI A, nI n, 89, 90, 71, nI (zpk A (h + 1)), nI (h + 1)), by omega, ⟨h + 1, by omega, rfl, rfl, rfl⟩, fun rec => ?_⟩
        have ks : zpk A (h + 1) = zpk A h := by
          rw [zpk_s, if_neg p]
          rfl
        unfold f_X11_tried_80
        simp only
        rw [zg_i t4, zg_i t5, zg_i t6, r1, if_neg (nle_s (by omega) (by omega)), if_neg (fun w => p (b.mp w)), nI_1, ks, zuv_f σ D m h p]
  · have : zuv σ A D m 0 0 = zuc σ 4 := by
      funext i j
      exact if_neg (fun w => by
        have := w.1
        omega)
    rw [this]

