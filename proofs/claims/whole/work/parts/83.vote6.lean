theorem zpick_r (t : Nat → Nat) (n p : Nat) : ∀ (ws : List (List Nat)) (k far : Nat), (zpick t n p ws k far).1 = -1 ∨ ∃ j, j < k + ws.length ∧ (zpick t n p ws k far).1 = nI j
  | [], _, _ => Or.inl rfl
  | w :: ws, k, far => by
    have ih := zpick_r t n p ws (k + 1) (max far (zlp t n w p))
    show (if zlp t n w p = w.length then (nI k, p + w.length) else zpick t n p ws (k + 1) (max far (zlp t n w p))).1 = -1 ∨ ∃ j, j < k + (ws.length + 1) ∧ (if zlp t n w p = w.length then (nI k, p + w.length) else zpick t n p ws (k + 1) (max far (zlp t n w p))).1 = nI j
    by_cases q : zlp t n w p = w.length
    · rw [if_pos q]
      exact Or.inr ⟨k, by omega, rfl⟩
    · rw [if_neg q]
      exact ih.elim (fun z => Or.inl z) (fun ⟨j, h1, h2⟩ => Or.inr ⟨j, by omega, h2⟩)
theorem j_test {σ σ' : zMem} {t : Nat → Nat} {n c c' i F : Nat} (hF : 100 < F) (ht : ztC σ t n) (ht' : ztR σ' t n) (S S' : Nat → Nat → Int32) {p : Nat} (f o : Int32) (hp : p ≤ n) (hc : c < 40) (hi : i < 4) : ∃ (ok : Bool) (q : Nat) (S1 S2 : Nat → Nat → Int32) (a f2 o2 : Int32), q ≤ n ∧ f_X9_readTest F (zvc σ c S p) c (nI i) = some (if ok then 1 else 0, zvc σ c S1 q) ∧ f_X11_testHere F (zrs σ' c' S' (nI p) f o) = some (if ok then 1 else 0, zrs σ' c' S2 a f2 o2) ∧ (∀ K j, ¬ (14 ≤ K ∧ K ≤ 17 ∧ j = i) → S1 K j = S K j) ∧ (∀ K j, ¬ (K = 111 ∧ j < 5) → S2 K j = S' K j) ∧ (ok = true → a = nI q ∧ ztr1 S1 S2 i) ∧ (ok = false → f2 = nI q) := by
  have d40 : decide (c < 40) = true := decide_eq_true hc
  have ii := inb_n hi (show 4 < 100000 by decide)
  have ni := nI_clamp (show i < 2 ^ 31 by omega)
  have b0 : (zbo 0 && inb (nI i) 4) = true := by rw [ii]; decide
  have b1 : (zbo 1 && inb (nI i) 4) = true := by rw [ii]; decide
  have i0 : inb 0 6 = true := by decide
  have nm := e_name (F := F) (c := c) (j := 2) hF ht S (p := p) (by decide) ztb2 (ztbb zFLDN (by decide)) (by decide) hp
  have hx : ∀ v : Int32, zwi (zrs σ' c' S' (nI p) f o) 111 0 0 v = zrs σ' c' (zup2 S' 111 0 v) (nI p) f o := fun v => zrs_w _ _ _ _ _ _ _ (zpv1 c' 0) (by decide)
  have h17 : ∀ (T : Nat → Nat → Int32) q (v : Int32), zwi (zvc σ c T q) 17 c i v = zvc σ c (zup2 T 17 i v) q := fun T q v => zvc_w _ _ _ _ _ (by decide) (by decide)
  have hr0 : ∀ (T : Nat → Nat → Int32) a f o, (zrs σ' c' T a f o).1 111 0 0 = T 111 0 := fun T a f o => zrs_i _ _ _ _ _ _ (zpv1 c' 0) (by decide)
  have hh := e_here (F := F) (c := c') ht' S' f o hp
  have f48 : ∀ (T : Nat → Nat → Int32) q, f_X9_readTest_48 F (zvc σ c T q) c (nI i) (-1) = some (0, zvc σ c T q) := fun T q => by
    unfold f_X9_readTest_48
    rw [zg_i d40, if_neg (by decide)]
  by_cases h110 : p < n ∧ t p = 110
  · rw [zp_zFLDN_6 (zlp_no h110)] at nm
    have z110 : zhc t n p = 110 := zhc_v h110
    have rf : ∀ x, f_X11_text F (zrs σ' c' (zup2 S' 111 0 1) (nI p) f o) 17 = x → f_X11_testHere F (zrs σ' c' S' (nI p) f o) = zb x fun r m => if r = 0 then some (0, m) else f_X11_testHere_42 F m := fun x hx' => by
      unfold f_X11_testHere
      rw [hh, zb_s, if_pos z110]
      unfold f_X11_testHere_19
      rw [zg_i i0, zg_i i0, t_i0, hx, hr0, zup2_i, if_pos rfl, hx']
    rcases e_tbl (F := F) (c := c) (c' := c') (j := 17) (w := [110, 111, 116]) hF ht ht' (zup2 S 17 i 1) (zup2 S' 111 0 1) f o hp (by decide) zrt17 (zrtb _ (by decide)) with ⟨q, hq, z1, z2, z3⟩ | ⟨q, hq, z3, ⟨z1, z2⟩ | ⟨z1, z2⟩⟩
    · have hz : zone t n p 6 [110, 111, 116] = (nI 6, p + [110, 111, 116].length) := if_pos z1
      rw [hz] at nm
      have rf := rf _ z3
      rw [zb_s, if_neg (by decide)] at rf
      obtain ⟨ok, q2, S1, S2, a, f2, o2, g1, g2, g3, g4, g5, g6, g7⟩ := j_42 (F := F) (c := c) (c' := c') hF ht ht' (zup2 S 17 i 1) (zup2 S' 111 0 1) f o hq hc hi
      have nm3 := e_name (F := F) (c := c) (j := 3) hF ht (zup2 S 17 i 1) (p := q) (by decide) ztb3 (ztbb zFLDS (by decide)) (by decide) hq
      refine ⟨ok, q2, S1, S2, a, f2, o2, g1, ?_, rf.trans g3, fun K j h => ?_, fun K j h => ?_, fun h => ?_, g7⟩
      · unfold f_X9_readTest
        rw [zg_i d40, nm, zb_s, if_pos (show (nI 6, p + [110, 111, 116].length).1 = 6 from rfl)]
        unfold f_X9_readTest_23
        rw [zg_i d40, zg_i d40, zg_i b1, if_pos (show (nI 6, p + [110, 111, 116].length).1 = 6 from rfl), ni, h17, z2, zb_s, if_neg (by decide), nm3, zb_s]
        exact g2
      · rw [g4 K j (fun w => h ⟨w.1, by omega, w.2.2⟩), zup2_n _ _ (fun w => h ⟨by omega, by omega, w.2⟩)]
      · rw [g5 K j (fun w => h ⟨w.1, by omega⟩), zup2_n _ _ (fun w => h ⟨w.1, by omega⟩)]
      · obtain ⟨e1, e2, e3, e4⟩ := g6 h
        have u1 : S1 17 i = 1 := by rw [g4 17 i (by omega), zup2_i]
        have u2 : S2 111 0 = 1 := by rw [g5 111 0 (by omega), zup2_i]
        exact ⟨e1, u1.trans u2.symm, Or.inr u1, e2, e3, e4⟩
    · have hz : zone t n p 6 [110, 111, 116] = (nI 6, p + [110, 111, 116].length) := if_pos z1
      rw [hz] at nm
      have rf := rf _ z3
      rw [zb_s, if_pos rfl] at rf
      refine ⟨false, q, zup2 S 17 i 1, zup2 S' 111 0 1, nI q, nI q, o, hq, ?_, rf, fun K j h => ?_, fun K j h => ?_, fun h => (by cases h), fun _ => rfl⟩
      · unfold f_X9_readTest
        rw [zg_i d40, nm, zb_s, if_pos (show (nI 6, p + [110, 111, 116].length).1 = 6 from rfl)]
        unfold f_X9_readTest_23
        rw [zg_i d40, zg_i d40, zg_i b1, if_pos (show (nI 6, p + [110, 111, 116].length).1 = 6 from rfl), ni, h17, z2, zb_s, if_pos rfl, f48]
        rfl
      · rw [zup2_n _ _ (fun w => h ⟨by omega, by omega, w.2⟩)]
      · rw [zup2_n _ _ (fun w => h ⟨w.1, by omega⟩)]
    · have hz : zone t n p 6 [110, 111, 116] = (-1, p + zlp t n [110, 111, 116] p) := if_neg z1
      rw [hz, ← z2] at nm
      have rf := rf _ z3
      rw [zb_s, if_pos rfl] at rf
      refine ⟨false, q, zup2 S 17 i 0, zup2 S' 111 0 1, nI q, nI q, o, hq, ?_, rf, fun K j h => ?_, fun K j h => ?_, fun h => (by cases h), fun _ => rfl⟩
      · unfold f_X9_readTest
        rw [zg_i d40, nm, zb_s, if_neg (show ¬ ((-1 : Int32), q).1 = 6 from (by decide : ¬ (-1 : Int32) = 6))]
        unfold f_X9_readTest_23
        rw [zg_i d40, zg_i d40, zg_i b0, if_neg (show ¬ ((-1 : Int32), q).1 = 6 from (by decide : ¬ (-1 : Int32) = 6)), ni, h17, f48]
        rfl
      · rw [zup2_n _ _ (fun w => h ⟨by omega, by omega, w.2⟩)]
      · rw [zup2_n _ _ (fun w => h ⟨w.1, by omega⟩)]
  · rw [zp_fldn h110] at nm
    have z110 : ¬ zhc t n p = 110 := fun z => h110 ((zhc_eq ht' (show 110 < 256 by decide)).mp z)
    obtain ⟨ok, q2, S1, S2, a, f2, o2, g1, g2, g3, g4, g5, g6, g7⟩ := j_42 (F := F) (c := c) (c' := c') hF ht ht' (zup2 S 17 i 0) (zup2 S' 111 0 0) f o hp hc hi
    have n6 : ¬ (zpick t n p zFLDS 0 0).1 = 6 := fun z => by
      rcases zpick_r t n p zFLDS 0 0 with h | ⟨j, hj, h⟩
      · rw [h] at z
        exact absurd z (by decide)
      · rw [h] at z
        have hj : j < 6 := by
          have : zFLDS.length = 6 := rfl
          omega
        have z : nI j = nI 6 := z
        have := (nI_eq (by omega) (by omega)).mp z
        omega
    refine ⟨ok, q2, S1, S2, a, f2, o2, g1, ?_, ?_, fun K j h => ?_, fun K j h => ?_, fun h => ?_, g7⟩
    · unfold f_X9_readTest
      rw [zg_i d40, nm, zb_s, if_neg n6]
      unfold f_X9_readTest_23
      rw [zg_i d40, zg_i d40, zg_i b0, if_neg n6, ni, h17]
      exact g2
    · unfold f_X11_testHere
      rw [hh, zb_s, if_neg z110]
      unfold f_X11_testHere_19
      rw [zg_i i0, zg_i i0, t_i0, hx, hr0, zup2_i, if_neg (by decide)]
      exact g3
    · rw [g4 K j (fun w => h ⟨w.1, by omega, w.2.2⟩), zup2_n _ _ (fun w => h ⟨by omega, by omega, w.2⟩)]
    · rw [g5 K j (fun w => h ⟨w.1, by omega⟩), zup2_n _ _ (fun w => h ⟨w.1, by omega⟩)]
    · obtain ⟨e1, e2, e3, e4⟩ := g6 h
      have u1 : S1 17 i = 0 := by rw [g4 17 i (by omega), zup2_i]
      have u2 : S2 111 0 = 0 := by rw [g5 111 0 (by omega), zup2_i]
      exact ⟨e1, u1.trans u2.symm, Or.inl u1, e2, e3, e4⟩
/-- the test row copied -/
def zt4 (S : Nat → Nat → Int32) (i : Nat) : Nat → Nat → Int32 := fun K j => if K = 82 ∧ 6 * i ≤ j ∧ j < 6 * i + 6 then S 111 (j - 6 * i) else S K j
theorem t_i6 : (6 : Int32).toNatClampNeg = 6 := by decide
theorem t_cp4 {σ : zMem} {c i : Nat} (hi : i < 4) (S : Nat → Nat → Int32) (a f o : Int32) : zcpi (zrs σ c S a f o) 111 0 0 82 c (6 * nI i) 6 = zrs σ c (zt4 S i) a f o := by
  have n6 : ((6 : Int32) * nI i).toNatClampNeg = 6 * i := by
    rw [show (6 : Int32) = nI 6 from rfl, nI_mu, nI_clamp (show 6 * i < 2 ^ 31 by omega)]
  unfold zcpi zcp
  rw [t_i0, t_i6, n6]
  refine Prod.ext ?_ rfl
  funext K I J
  show (if K = 82 ∧ I = c ∧ 6 * i ≤ J ∧ J < 6 * i + 6 then (zrs σ c S a f o).1 111 0 (0 + (J - 6 * i)) else (zrs σ c S a f o).1 K I J) = (zrs σ c (zt4 S i) a f o).1 K I J
  by_cases q : K = 82 ∧ I = c ∧ 6 * i ≤ J ∧ J < 6 * i + 6
  · rw [if_pos q, zrs_i _ _ _ _ _ _ (zpv1 c _) (by decide), q.1, q.2.1, zrs_i _ _ _ _ _ _ (by simp [zPv]) (by decide), Nat.zero_add]
    exact (if_pos ⟨rfl, q.2.2⟩).symm
  · rw [if_neg q]
    by_cases p : zPv c K I J = true
    · have e : zt4 S i K J = S K J := if_neg (fun w => q ⟨w.1, by
        simp [zPv, w.1] at p
        exact p, w.2⟩)
      unfold zrs
      rw [zsp_i _ p, zsp_i _ p]
      show (if K = 60 ∧ J = 60 then o else if K = 60 ∧ J = 59 then f else if K = 60 ∧ J = 58 then a else S K J) = (if K = 60 ∧ J = 60 then o else if K = 60 ∧ J = 59 then f else if K = 60 ∧ J = 58 then a else zt4 S i K J)
      rw [e]
    · have p : zPv c K I J = false := by simpa using p
      rw [zrs_o _ _ _ _ _ _ p, zrs_o _ _ _ _ _ _ p]

