/-- a name and then a blank -/
theorem zlp_bl (t : Nat → Nat) (n : Nat) : ∀ (w : List Nat) (p : Nat), zlp t n (w ++ [32]) p = if zlp t n w p = w.length then (if p + w.length < n ∧ t (p + w.length) = 32 then w.length + 1 else w.length) else zlp t n w p
  | [], p => by
    show (if p < n ∧ t p = 32 then 1 + 0 else 0) = if (0 : Nat) = 0 then (if p + 0 < n ∧ t (p + 0) = 32 then 0 + 1 else 0) else 0
    rw [if_pos (show (0 : Nat) = 0 from rfl)]
    rfl
  | c :: w, p => by
    have ih := zlp_bl t n w (p + 1)
    by_cases q : p < n ∧ t p = c
    · have e1 : zlp t n (c :: w ++ [32]) p = 1 + zlp t n (w ++ [32]) (p + 1) := zlp_1 _ q
      have el : (c :: w).length = w.length + 1 := rfl
      rw [e1, zlp_1 w q, ih, el, show p + (w.length + 1) = p + 1 + w.length by omega]
      by_cases z : zlp t n w (p + 1) = w.length
      · rw [if_pos z, if_pos (show 1 + zlp t n w (p + 1) = w.length + 1 by omega)]
        by_cases y : p + 1 + w.length < n ∧ t (p + 1 + w.length) = 32
        · rw [if_pos y, if_pos y]
          omega
        · rw [if_neg y, if_neg y]
          omega
      · rw [if_neg z, if_neg (show ¬ 1 + zlp t n w (p + 1) = w.length + 1 by omega)]
    · have e1 : zlp t n (c :: w ++ [32]) p = 0 := zlp_0 _ q
      have el : (c :: w).length = w.length + 1 := rfl
      rw [e1, zlp_0 w q, if_neg (show ¬ 0 = (c :: w).length by rw [el]; omega)]
/-- how two pieces end that read the same: both good and behind it at q, or both bad and the fault is q -/
theorem e_tbl {σ σ' : zMem} {t : Nat → Nat} {n c c' j F : Nat} {w : List Nat} (hF : 100 < F) (ht : ztC σ t n) (ht' : ztR σ' t n) (S S' : Nat → Nat → Int32) {p : Nat} (f o : Int32) (hp : p ≤ n) (hj : j < 28) (hw : zSbyt.getD j [] = (w ++ [32]).map nI) (hb : ∀ x, x ∈ w ++ [32] → x < 128) :
    (∃ q, q ≤ n ∧ zlp t n w p = w.length ∧ f_X9_readBlank F (zvc σ c S (p + w.length)) = some (1, zvc σ c S q) ∧ f_X11_text F (zrs σ' c' S' (nI p) f o) j = some (1, zrs σ' c' S' (nI q) f o)) ∨
    (∃ q, q ≤ n ∧ f_X11_text F (zrs σ' c' S' (nI p) f o) j = some (0, zrs σ' c' S' (nI q) (nI q) o) ∧ (zlp t n w p = w.length ∧ f_X9_readBlank F (zvc σ c S (p + w.length)) = some (0, zvc σ c S q) ∨ ¬ zlp t n w p = w.length ∧ q = p + zlp t n w p)) := by
  have tx := e_text (F := F) (c := c') hF ht' S' f o hp hj hw hb
  have ln := zlp_n t n w hp
  have le : (w ++ [32]).length = w.length + 1 := by rw [List.length_append]; rfl
  rw [zlp_bl, le] at tx
  by_cases z : zlp t n w p = w.length
  · rw [if_pos z] at tx
    have bl := e_blank (F := F) (c := c) ht S (p := p + w.length) (by omega)
    by_cases y : p + w.length < n ∧ t (p + w.length) = 32
    · rw [if_pos y, if_pos y] at bl
      rw [if_pos y, if_pos rfl] at tx
      exact Or.inl ⟨p + w.length + 1, by omega, z, bl, tx⟩
    · rw [if_neg y, if_neg y] at bl
      rw [if_neg y, if_neg (by omega)] at tx
      exact Or.inr ⟨p + w.length, by omega, tx, Or.inl ⟨z, bl⟩⟩
  · rw [if_neg z, if_neg (by have := zlp_le t n w p; omega)] at tx
    exact Or.inr ⟨p + zlp t n w p, ln, tx, Or.inr ⟨z, rfl⟩⟩
theorem e_bl14 {σ : zMem} {t : Nat → Nat} {n c F : Nat} (hF : 100 < F) (ht : ztR σ t n) (S : Nat → Nat → Int32) {p : Nat} (f o : Int32) (hp : p ≤ n) : f_X11_text F (zrs σ c S (nI p) f o) 14 = if p < n ∧ t p = 32 then some (1, zrs σ c S (nI (p + 1)) f o) else some (0, zrs σ c S (nI p) (nI p) o) := by
  have tx := e_text (F := F) (c := c) (j := 14) hF ht S f o hp (by decide) zrt14 (zrtb _ (by decide))
  by_cases q : p < n ∧ t p = 32
  · rw [zlp_1 _ q, if_pos (show 1 + zlp t n [] (p + 1) = [32].length from rfl)] at tx
    rw [if_pos q, tx]
    rfl
  · rw [zlp_0 _ q, if_neg (by decide)] at tx
    rw [if_neg q, tx]
    rfl
theorem zone_1c {t : Nat → Nat} {n q c g : Nat} (h : q < n ∧ t q = c) : zone t n q g [c] = (nI g, q + 1) := by
  unfold zone
  rw [zlp_1 _ h, if_pos (show 1 + zlp t n [] (q + 1) = [c].length from rfl)]
  rfl
/-- what one test has on both sides -/
def ztr1 (S S' : Nat → Nat → Int32) (i : Nat) : Prop := S 17 i = S' 111 0 ∧ (S 17 i = 0 ∨ S 17 i = 1) ∧ S 14 i = S' 111 1 ∧ (∃ g, g < 3 ∧ S 15 i = nI g ∧ S' 111 3 = nI (60 + g)) ∧ S 16 i = S' 111 4
theorem zpv1 (c : Nat) (j : Nat) : zPv c 111 0 j = true := by simp [zPv]
theorem j_42 {σ σ' : zMem} {t : Nat → Nat} {n c c' i F : Nat} (hF : 100 < F) (ht : ztC σ t n) (ht' : ztR σ' t n) (S S' : Nat → Nat → Int32) {p : Nat} (f o : Int32) (hp : p ≤ n) (hc : c < 40) (hi : i < 4) : ∃ (ok : Bool) (q : Nat) (S1 S2 : Nat → Nat → Int32) (a f2 o2 : Int32), q ≤ n ∧ f_X9_readTest_48 F (zvc σ c S (zpick t n p zFLDS 0 0).2) c (nI i) (zpick t n p zFLDS 0 0).1 = some (if ok then 1 else 0, zvc σ c S1 q) ∧ f_X11_testHere_42 F (zrs σ' c' S' (nI p) f o) = some (if ok then 1 else 0, zrs σ' c' S2 a f2 o2) ∧ (∀ K j, ¬ (14 ≤ K ∧ K ≤ 16 ∧ j = i) → S1 K j = S K j) ∧ (∀ K j, ¬ (K = 111 ∧ (j = 1 ∨ j = 3 ∨ j = 4)) → S2 K j = S' K j) ∧ (ok = true → a = nI q ∧ S1 14 i = S2 111 1 ∧ (∃ g, g < 3 ∧ S1 15 i = nI g ∧ S2 111 3 = nI (60 + g)) ∧ S1 16 i = S2 111 4) ∧ (ok = false → f2 = nI q) := by
  have d40 : decide (c < 40) = true := decide_eq_true hc
  have ii := inb_n hi (show 4 < 100000 by decide)
  have ni := nI_clamp (show i < 2 ^ 31 by omega)
  have ik : ∀ k, k < 6 → inb (nI k) 6 = true := fun k hk => inb_n hk (by decide)
  have i1 : inb 1 6 = true := by decide
  have i3 : inb 3 6 = true := by decide
  have i4 : inb 4 6 = true := by decide
  obtain ⟨hq, hr⟩ := e_field (F := F) (c := c') hF ht' S' f o hp
  generalize zpick t n p zFLDS 0 0 = r at hq hr ⊢
  obtain ⟨r, q⟩ := r
  simp only at hq hr ⊢
  rcases hr with ⟨k, f', hk, rfl, hx⟩ | ⟨rfl, a', o', hx⟩
  rotate_left
  · refine ⟨false, q, S, S', a', nI q, o', hq, ?_, ?_, fun _ _ _ => rfl, fun _ _ _ => rfl, fun h => (by cases h), fun _ => rfl⟩
    · unfold f_X9_readTest_48
      rw [zg_i d40, if_neg (by decide)]
      rfl
    · unfold f_X11_testHere_42
      rw [hx, zb_s, if_pos rfl]
      rfl
  have n0 : (0 : Int32) ≤ nI k := nI_pos' (by omega)
  have rn := e_name (F := F) (c := c) (j := 4) hF ht (zup2 S 14 i (nI k)) (p := q) (by decide) ztb4 (ztbb zSGNS (by decide)) (by decide) hq
  have h42 : f_X11_testHere_42 F (zrs σ' c' S' (nI p) f o) = (if zhc t n q = 60 then f_X11_testHere_89 F (zrs σ' c' (zup2 S' 111 1 (nI k)) (nI q) f' (nI k)) (zhc t n q) else if zhc t n q = 61 then f_X11_testHere_89 F (zrs σ' c' (zup2 S' 111 1 (nI k)) (nI q) f' (nI k)) (zhc t n q) else if zhc t n q = 62 then f_X11_testHere_89 F (zrs σ' c' (zup2 S' 111 1 (nI k)) (nI q) f' (nI k)) (zhc t n q) else some (0, zrs σ' c' (zup2 S' 111 1 (nI k)) (nI q) (nI q) (nI k))) := by
    unfold f_X11_testHere_42
    rw [hx, zb_s, if_neg (by decide), zg_i i1, zrs_rn, zrs_w _ _ _ _ _ _ _ (zpv1 c' 1) (by decide), e_here ht' _ f' _ hq, zb_s, e_wrong, zb_s, zg_i (by decide)]
  have sg : ∀ g, g < 3 → q < n ∧ t q = 60 + g → ∃ (ok : Bool) (q' : Nat) (S1 S2 : Nat → Nat → Int32) (a f2 o2 : Int32), q' ≤ n ∧ f_X9_readTest_48 F (zvc σ c S q) c (nI i) (nI k) = some (if ok then 1 else 0, zvc σ c S1 q') ∧ f_X11_testHere_89 F (zrs σ' c' (zup2 S' 111 1 (nI k)) (nI q) f' (nI k)) (zhc t n q) = some (if ok then 1 else 0, zrs σ' c' S2 a f2 o2) ∧ (∀ K j, ¬ (14 ≤ K ∧ K ≤ 16 ∧ j = i) → S1 K j = S K j) ∧ (∀ K j, ¬ (K = 111 ∧ (j = 1 ∨ j = 3 ∨ j = 4)) → S2 K j = S' K j) ∧ (ok = true → a = nI q' ∧ S1 14 i = S2 111 1 ∧ (∃ g, g < 3 ∧ S1 15 i = nI g ∧ S2 111 3 = nI (60 + g)) ∧ S1 16 i = S2 111 4) ∧ (ok = false → f2 = nI q') := by
    intro g hg hs
    have hq1 : q + 1 ≤ n := hs.1
    have pk : zpick t n q zSGNS 0 0 = (nI g, q + 1) := by
      have cs : g = 0 ∨ g = 1 ∨ g = 2 := by omega
      rcases cs with rfl | rfl | rfl
      · rw [zp_zSGNS_0 (zlp_no hs), zone_1c hs]
      · rw [zp_zSGNS_1 (zlp_no hs), zone_1c hs]
      · rw [zp_zSGNS_2 (zlp_no hs), zone_1c hs]
    rw [pk] at rn
    have g0 : (0 : Int32) ≤ nI g := nI_pos' (by omega)
    have nm := e_num (F := F) (c := c) hF ht (zup2 (zup2 S 14 i (nI k)) 15 i (nI g)) hq1
    obtain ⟨nb, nr⟩ := e_numr (F := F) (c := c') hF ht' (zup2 (zup2 S' 111 1 (nI k)) 111 3 (nI (60 + g))) f' (nI k) hq1
    have zq : zhc t n q = nI (60 + g) := zhc_v hs
    have cl : f_X9_readTest_48 F (zvc σ c S q) c (nI i) (nI k) = zb (f_X9_readNumber F (zvc σ c (zup2 (zup2 S 14 i (nI k)) 15 i (nI g)) (q + 1))) fun r m => if (zwi m 16 c i r).1 16 c i < 0 then some (0, zwi m 16 c i r) else some (1, zwi m 16 c i r) := by
      unfold f_X9_readTest_48
      rw [zg_i d40, if_pos n0, zg_i ii, ni, zvc_w _ _ _ _ _ (by decide) (by decide), rn, zb_s, zg_i ii, zg_i ii]
      simp only
      rw [zvc_w _ _ _ _ _ (by decide) (by decide), zvc_i _ _ _ _ (by decide) (by decide), zup2_i, if_pos g0]
      simp only [zg_i ii]
    have rf : f_X11_testHere_89 F (zrs σ' c' (zup2 S' 111 1 (nI k)) (nI q) f' (nI k)) (zhc t n q) = zb (f_X11_numberHere F (zrs σ' c' (zup2 (zup2 S' 111 1 (nI k)) 111 3 (nI (60 + g))) (nI (q + 1)) f' (nI k))) fun r m => zg (inb 4 6) (zg (zbo r) (some (r, zwi m 111 0 4 (m.1 60 0 60)))) := by
      unfold f_X11_testHere_89
      rw [zg_i i3, zrs_w _ _ _ _ _ _ _ (zpv1 c' 3) (by decide), zrs_ra, nI_1, zrs_a, zq]
    rw [cl, rf, nm, zb_s]
    simp only at nb nr
    rcases nr with ⟨v, f'', hv, e1, e2⟩ | ⟨e1, a', o', e2⟩
    · rw [e1, e2, zb_s, zg_i i4, zg_i (by decide), zrs_rn, zrs_w _ _ _ _ _ _ _ (zpv1 c' 4) (by decide), zvc_w _ _ _ _ _ (by decide) (by decide), zvc_i _ _ _ _ (by decide) (by decide), zup2_i, if_neg (nI_pos (by omega))]
      refine ⟨true, _, _, _, _, _, _, nb, rfl, rfl, fun K j h => ?_, fun K j h => ?_, fun _ => ⟨rfl, ?_, ⟨g, hg, ?_, ?_⟩, ?_⟩, fun h => (by cases h)⟩
      · rw [zup2_n _ _ (fun w => h ⟨by omega, by omega, w.2⟩), zup2_n _ _ (fun w => h ⟨by omega, by omega, w.2⟩), zup2_n _ _ (fun w => h ⟨by omega, by omega, w.2⟩)]
      · rw [zup2_n _ _ (fun w => h ⟨w.1, by omega⟩), zup2_n _ _ (fun w => h ⟨w.1, by omega⟩), zup2_n _ _ (fun w => h ⟨w.1, by omega⟩)]
      · rw [zup2_n _ _ (by omega), zup2_n _ _ (by omega), zup2_i, zup2_n _ _ (by omega), zup2_n _ _ (by omega), zup2_i]
      · rw [zup2_n _ _ (by omega), zup2_i]
      · rw [zup2_n _ _ (by omega), zup2_i]
      · rw [zup2_i, zup2_i]
    · rw [e1, e2, zb_s, zg_i i4, zg_i (by decide), zrs_rn, zrs_w _ _ _ _ _ _ _ (zpv1 c' 4) (by decide), zvc_w _ _ _ _ _ (by decide) (by decide), zvc_i _ _ _ _ (by decide) (by decide), zup2_i, if_pos (by decide)]
      refine ⟨false, _, _, _, _, _, _, nb, rfl, rfl, fun K j h => ?_, fun K j h => ?_, fun h => (by cases h), fun _ => rfl⟩
      · rw [zup2_n _ _ (fun w => h ⟨by omega, by omega, w.2⟩), zup2_n _ _ (fun w => h ⟨by omega, by omega, w.2⟩), zup2_n _ _ (fun w => h ⟨by omega, by omega, w.2⟩)]
      · rw [zup2_n _ _ (fun w => h ⟨w.1, by omega⟩), zup2_n _ _ (fun w => h ⟨w.1, by omega⟩), zup2_n _ _ (fun w => h ⟨w.1, by omega⟩)]
  have eq : ∀ c, c < 256 → (zhc t n q = nI c ↔ (q < n ∧ t q = c)) := fun c hc => zhc_eq ht' hc
  by_cases k60 : q < n ∧ t q = 60
  · have z := sg 0 (by decide) k60
    rw [h42, if_pos (show zhc t n q = 60 from (eq 60 (by decide)).mpr k60)]
    exact z
  by_cases k61 : q < n ∧ t q = 61
  · have z := sg 1 (by decide) k61
    rw [h42, if_neg (show ¬ zhc t n q = 60 from fun z => k60 ((eq 60 (by decide)).mp z)), if_pos (show zhc t n q = 61 from (eq 61 (by decide)).mpr k61)]
    exact z
  by_cases k62 : q < n ∧ t q = 62
  · have z := sg 2 (by decide) k62
    rw [h42, if_neg (show ¬ zhc t n q = 60 from fun z => k60 ((eq 60 (by decide)).mp z)), if_neg (show ¬ zhc t n q = 61 from fun z => k61 ((eq 61 (by decide)).mp z)), if_pos (show zhc t n q = 62 from (eq 62 (by decide)).mpr k62)]
    exact z
  rw [h42, if_neg (show ¬ zhc t n q = 60 from fun z => k60 ((eq 60 (by decide)).mp z)), if_neg (show ¬ zhc t n q = 61 from fun z => k61 ((eq 61 (by decide)).mp z)), if_neg (show ¬ zhc t n q = 62 from fun z => k62 ((eq 62 (by decide)).mp z))]
  have pk : zpick t n q zSGNS 0 0 = (-1, q) := zpick_f zSGNS 0 0 (zmm ⟨by rw [zlp_0 _ k60]; decide, by rw [zlp_0 _ k60]; decide⟩ (zmm ⟨by rw [zlp_0 _ k61]; decide, by rw [zlp_0 _ k61]; decide⟩ (zmm ⟨by rw [zlp_0 _ k62]; decide, by rw [zlp_0 _ k62]; decide⟩ zm0)))
  rw [pk] at rn
  refine ⟨false, q, zup2 (zup2 S 14 i (nI k)) 15 i (-1), zup2 S' 111 1 (nI k), nI q, nI q, nI k, hq, ?_, rfl, fun K j h => ?_, fun K j h => ?_, fun h => (by cases h), fun _ => rfl⟩
  · unfold f_X9_readTest_48
    rw [zg_i d40, if_pos n0, zg_i ii, ni, zvc_w _ _ _ _ _ (by decide) (by decide), rn, zb_s, zg_i ii, zg_i ii]
    simp only
    rw [zvc_w _ _ _ _ _ (by decide) (by decide), zvc_i _ _ _ _ (by decide) (by decide), zup2_i, if_neg (by decide)]
    rfl
  · rw [zup2_n _ _ (fun w => h ⟨by omega, by omega, w.2⟩), zup2_n _ _ (fun w => h ⟨by omega, by omega, w.2⟩)]
  · rw [zup2_n _ _ (fun w => h ⟨w.1, by omega⟩)]

