/-- what the reference sees at p -/
def zhc (t : Nat → Nat) (n p : Nat) : Int32 := if p < n then nI (t p) else -1
theorem e_here {σ : zMem} {t : Nat → Nat} {n c p F : Nat} (ht : ztR σ t n) (S : Nat → Nat → Int32) (f o : Int32) (hp : p ≤ n) : f_X11_here F (zrs σ c S (nI p) f o) = some (zhc t n p, zrs σ c S (nI p) f o) := by
  obtain ⟨h1, h2, h3⟩ := ht
  have r1 : (zrs σ c S (nI p) f o).1 60 0 19 = nI n := by rw [zrs_o _ _ _ _ _ _ (by simp [zPv]), h2]
  unfold f_X11_here zhc
  rw [r1, zrs_ra]
  by_cases q : p < n
  · rw [if_neg (nle_s q (by omega)), if_pos q, zg_i (inb_n (show p < 100 by omega) (by decide)), nI_clamp (show p < 2 ^ 31 by omega), zrs_o _ _ _ _ _ _ (by simp [zPv]), (h3 p q).2]
  · rw [if_neg q, if_pos (nI_le (Nat.not_lt.mp q) (by omega))]
theorem e_wrong {σ : zMem} {c F : Nat} (S : Nat → Nat → Int32) (a f o : Int32) : f_X11_wrong F (zrs σ c S a f o) = some (0, zrs σ c S a a o) := by
  unfold f_X11_wrong
  rw [zrs_ra, zrs_f]
theorem zhc_eq {σ : zMem} {t : Nat → Nat} {n p c : Nat} (ht : ztR σ t n) (hc : c < 256) : zhc t n p = nI c ↔ (p < n ∧ t p = c) := by
  unfold zhc
  by_cases q : p < n
  · have b := (ht.2.2 p q).1
    rw [if_pos q, nI_eq (by omega) (by omega)]
    exact ⟨fun w => ⟨q, w⟩, fun w => w.2⟩
  · rw [if_neg q]
    refine ⟨fun w => ?_, fun w => absurd w.1 q⟩
    have e : (-1 : Int32).toInt = (nI c).toInt := by rw [w]
    rw [nI_toInt (by omega)] at e
    have : (-1 : Int32).toInt = -1 := rfl
    omega
/-- a text of the reference -/
theorem e_text {σ : zMem} {t : Nat → Nat} {n c j F : Nat} {w : List Nat} (hF : 100 < F) (ht : ztR σ t n) (S : Nat → Nat → Int32) {p : Nat} (f o : Int32) (hp : p ≤ n) (hj : j < 28) (hw : zSbyt.getD j [] = w.map nI) (hb : ∀ x, x ∈ w → x < 128) : f_X11_text F (zrs σ c S (nI p) f o) j = if zlp t n w p = w.length then some (1, zrs σ c S (nI (p + w.length)) f o) else some (0, zrs σ c S (nI (p + zlp t n w p)) (nI (p + zlp t n w p)) o) := by
  have hm := zstm j hj
  have wl : w.length ≤ 41 := by
    have := congrArg List.length hw
    rw [List.length_map] at this
    omega
  unfold f_X11_text
  rw [zg_i (decide_eq_true hj)]
  refine zit_m (fun m s x => ∃ i v, m = v.length ∧ i + v.length = w.length ∧ s = zrs σ c S (nI (p + i)) f o ∧ x = (j, nI i) ∧ (zSbyt.getD j []).drop i = v.map nI ∧ p + i ≤ n ∧ zlp t n w p = i + zlp t n v (p + i) ∧ ∀ x, x ∈ v → x < 128) _ ?_ F w.length _ _ ⟨0, w, rfl, by omega, rfl, by rw [nI_0], by rw [List.drop_zero, hw], hp, by rw [Nat.zero_add, Nat.add_zero], hb⟩ (by
    have := congrArg List.length hw
    rw [List.length_map] at this
    omega)
  rintro m s x ⟨i, v, rfl, hl, rfl, rfl, hd, hn, hz, hv⟩
  rcases v with _ | ⟨ch, v⟩
  · refine Or.inl fun rec => ?_
    have e0 : zlp t n [] (p + i) = 0 := rfl
    have el : i = w.length := hl
    have ll : (zSbyt.getD j []).length ≤ i := by
      have := congrArg List.length hw
      rw [List.length_map] at this
      omega
    unfold f_X11_text_2
    simp only
    rw [zg_i (decide_eq_true hj), e_slen hj, zb_s, if_pos (nI_le ll (by omega)), hz, e0, if_pos (by omega), el]
  · have hd : (zSbyt.getD j []).drop i = nI ch :: v.map nI := hd
    obtain ⟨d1, d2, d3⟩ := zdrop_at hd
    have hc := hv ch (List.mem_cons_self ..)
    have hq := zhc_eq (p := p + i) ht (show ch < 256 by omega)
    by_cases q : p + i < n ∧ t (p + i) = ch
    · refine Or.inr ⟨v.length, zrs σ c S (nI (p + (i + 1))) f o, (j, nI (i + 1)), by show v.length < v.length + 1; omega, ⟨i + 1, v, rfl, by have : i + (v.length + 1) = w.length := hl; omega, rfl, rfl, d3, by omega, by rw [hz, zlp_1 v q, show p + (i + 1) = p + i + 1 by omega]; omega, fun x hx => hv x (List.mem_cons_of_mem _ hx)⟩, fun rec => ?_⟩
      unfold f_X11_text_2
      simp only
      rw [zg_i (decide_eq_true hj), e_slen hj, zb_s, if_neg (nle_s d1 (by omega)), e_here ht S f o hn, zb_s, e_schar hj d1, zb_s, d2, if_pos (hq.mpr q), zrs_ra, nI_1, zrs_a, nI_1]
      rfl
    · refine Or.inl fun rec => ?_
      have e0 := zlp_0 (t := t) (n := n) (p := p + i) (c := ch) v q
      unfold f_X11_text_2
      simp only
      rw [zg_i (decide_eq_true hj), e_slen hj, zb_s, if_neg (nle_s d1 (by omega)), e_here ht S f o hn, zb_s, e_schar hj d1, zb_s, d2, if_neg (fun z => q (hq.mp z)), e_wrong, zb_s, zg_i (by decide), hz, e0, if_neg (by have : i + (v.length + 1) = w.length := hl; omega), Nat.add_zero]
/-- which of the names stands at p -/
def zpick (t : Nat → Nat) (n p : Nat) : List (List Nat) → Nat → Nat → Int32 × Nat
  | [], _, far => (-1, p + far)
  | w :: ws, k, far => if zlp t n w p = w.length then (nI k, p + w.length) else zpick t n p ws (k + 1) (max far (zlp t n w p))
def zflat : List (List Nat) → List Nat
  | [] => []
  | w :: ws => w ++ 32 :: zflat ws
theorem zmax_n {a b : Nat} (ha : a ≤ 100) (hb : b ≤ 100) : zmax (nI a) (nI b) = nI (max a b) := by
  unfold zmax
  by_cases z : a < b
  · rw [if_pos (nI_lt z (by omega)), Nat.max_eq_right (by omega)]
  · rw [if_neg (nI_nlt (Nat.not_lt.mp z) (by omega)), Nat.max_eq_left (by omega)]
theorem e_name {σ : zMem} {t : Nat → Nat} {n c j F : Nat} {ws : List (List Nat)} (hF : 100 < F) (ht : ztC σ t n) (S : Nat → Nat → Int32) {p : Nat} (hj : j < 28) (hw : zSbyt.getD j [] = (zflat ws).map nI) (hb : ∀ w, w ∈ ws → ∀ x, x ∈ w → x < 128 ∧ x ≠ 32) (hl : ws.length ≤ 20) (hp : p ≤ n) : f_X9_readName F (zvc σ c S p) j = some ((zpick t n p ws 0 0).1, zvc σ c S (zpick t n p ws 0 0).2) := by
  have hm := zstm j hj
  obtain ⟨n1, t1, t2⟩ := ht
  have r1 : (zvc σ c S p).1 11 0 3 = nI n := by rw [zvc_o _ _ _ _ (by simp [zPc]), t1]
  have r2 : ∀ q, q < n → (zvc σ c S p).1 19 0 q = (nI (t q)).toInt8.toInt32 := fun q hq => by rw [zvc_o _ _ _ _ (by simp [zPc]), (t2 q hq).2]
  have hwl : (zflat ws).length ≤ 41 := by
    have h := congrArg List.length hw
    rw [List.length_map] at h
    omega
  have n32 : nI 32 = (32 : Int32) := rfl
  generalize hT : zpick t n p ws 0 0 = T
  have entry : ∀ (us : List (List Nat)) (k far : Nat), (∀ w, w ∈ us → ∀ x, x ∈ w → x < 128 ∧ x ≠ 32) → zpick t n p us k far = T → (zflat us = [] ∧ ((-1 : Int32), p + far) = T) ∨ ∃ v vs, zflat us = v ++ 32 :: zflat vs ∧ (∀ x, x ∈ v → x < 128 ∧ x ≠ 32) ∧ (∀ w, w ∈ vs → ∀ x, x ∈ w → x < 128 ∧ x ≠ 32) ∧ (((1 : Int32) = 1 ∧ (if zlp t n v (p + 0) = v.length then (nI k, p + 0 + v.length) else zpick t n p vs (k + 1) (max far (0 + zlp t n v (p + 0)))) = T) ∨ ((1 : Int32) = 0 ∧ zpick t n p vs (k + 1) far = T)) := by
    intro us k far hb hz
    rcases us with _ | ⟨w, us⟩
    · exact Or.inl ⟨rfl, hz⟩
    · refine Or.inr ⟨w, us, rfl, hb w (List.mem_cons_self ..), fun x hx => hb x (List.mem_cons_of_mem _ hx), Or.inl ⟨rfl, ?_⟩⟩
      rw [Nat.add_zero, Nat.zero_add]
      exact hz
  unfold f_X9_readName
  rw [zg_i (decide_eq_true hj)]
  refine zit_m (fun m st x => st = zvc σ c S p ∧ ∃ i s k far fl R, m = R.length ∧ x = (j, nI k, nI s, nI far, fl, nI i) ∧ (zSbyt.getD j []).drop i = R.map nI ∧ far ≤ 41 ∧ s ≤ i ∧ i + R.length ≤ 41 ∧ ((R = [] ∧ ((-1 : Int32), p + far) = T) ∨ ∃ v us, R = v ++ 32 :: zflat us ∧ (∀ x, x ∈ v → x < 128 ∧ x ≠ 32) ∧ (∀ w, w ∈ us → ∀ x, x ∈ w → x < 128 ∧ x ≠ 32) ∧ ((fl = 1 ∧ (if zlp t n v (p + s) = v.length then (nI k, p + s + v.length) else zpick t n p us (k + 1) (max far (s + zlp t n v (p + s)))) = T) ∨ (fl = 0 ∧ zpick t n p us (k + 1) far = T)))) _ ?_ F (zflat ws).length _ _ ⟨rfl, 0, 0, 0, 0, 1, zflat ws, rfl, by rw [nI_0], by rw [List.drop_zero, hw], by omega, by omega, by omega, entry ws 0 0 hb hT⟩ (by omega)
  rintro m st x ⟨rfl, i, s, k, far, fl, R, rfl, rfl, hd, hf, hs, hi, hR⟩
  rcases hR with ⟨rfl, hT2⟩ | ⟨v, us, rfl, hv, hus, hR⟩
  · refine Or.inl fun rec => ?_
    have ll : (zSbyt.getD j []).length ≤ i := List.drop_eq_nil_iff.mp hd
    unfold f_X9_readName_13
    simp only
    rw [zg_i (decide_eq_true hj), e_slen hj, zb_s, if_pos (nI_le ll (by omega)), zvc_r, nI_add, zvc_p, ← hT2]
  · rcases v with _ | ⟨ch, v⟩
    · have hd : (zSbyt.getD j []).drop i = nI 32 :: (zflat us).map nI := hd
      have hi : i + ((zflat us).length + 1) ≤ 41 := hi
      obtain ⟨d1, d2, d3⟩ := zdrop_at hd
      rcases hR with ⟨rfl, hR⟩ | ⟨rfl, hR⟩
      · refine Or.inl fun rec => ?_
        have hR : (nI k, p + s) = T := hR
        unfold f_X9_readName_13
        simp only
        rw [zg_i (decide_eq_true hj), e_slen hj, zb_s, if_neg (nle_s d1 (by omega)), e_schar hj d1, zb_s, d2, if_pos n32, if_neg (show ¬ (1 : Int32) = 0 by decide), zvc_r, nI_add, zvc_p, ← hR]
      · refine Or.inr ⟨(zflat us).length, zvc σ c S p, (j, nI (k + 1), nI 0, nI far, 1, nI (i + 1)), by show (zflat us).length < (zflat us).length + 1; omega, ⟨rfl, i + 1, 0, k + 1, far, 1, zflat us, rfl, rfl, d3, hf, by omega, by omega, entry us (k + 1) far hus hR⟩, fun rec => ?_⟩
        unfold f_X9_readName_13
        simp only
        rw [zg_i (decide_eq_true hj), e_slen hj, zb_s, if_neg (nle_s d1 (by omega)), e_schar hj d1, zb_s, d2, if_pos n32, if_pos trivial, nI_1, nI_1, nI_0]
    · have hd : (zSbyt.getD j []).drop i = nI ch :: (v ++ 32 :: zflat us).map nI := hd
      have hi : i + ((v ++ 32 :: zflat us).length + 1) ≤ 41 := hi
      obtain ⟨d1, d2, d3⟩ := zdrop_at hd
      obtain ⟨c1, c2⟩ := hv ch (List.mem_cons_self ..)
      have c32 : ¬ nI ch = (32 : Int32) := fun w => c2 ((nI_eq (by omega) (by omega)).mp (show nI ch = nI 32 from w))
      have hv2 : ∀ x, x ∈ v → x < 128 ∧ x ≠ 32 := fun x hx => hv x (List.mem_cons_of_mem _ hx)
      have lt : (v ++ 32 :: zflat us).length < (ch :: v ++ 32 :: zflat us).length := Nat.lt_succ_self _
      have no : ¬ 0 = (ch :: v).length := (Nat.succ_ne_zero _).symm
      rcases hR with ⟨rfl, hR⟩ | ⟨rfl, hR⟩
      · have miss : ¬ (p + s < n ∧ t (p + s) = ch) → zpick t n p us (k + 1) (max far s) = T := fun w => by
          rw [zlp_0 v w, if_neg no, Nat.add_zero] at hR
          exact hR
        by_cases q : p + s < n
        rotate_left
        · refine Or.inr ⟨(v ++ 32 :: zflat us).length, zvc σ c S p, (j, nI k, nI s, nI (max far s), 0, nI (i + 1)), lt, ⟨rfl, i + 1, s, k, max far s, 0, v ++ 32 :: zflat us, rfl, rfl, d3, by omega, by omega, by omega, Or.inr ⟨v, us, rfl, hv2, hus, Or.inr ⟨rfl, miss (fun w => q w.1)⟩⟩⟩, fun rec => ?_⟩
          unfold f_X9_readName_13
          simp only
          rw [zg_i (decide_eq_true hj), e_slen hj, zb_s, if_neg (nle_s d1 (by omega)), e_schar hj d1, zb_s, d2, if_neg c32, if_neg (show ¬ (1 : Int32) = 0 by decide), r1, zvc_r, nI_add, if_pos (nI_le (Nat.not_lt.mp q) (by omega))]
          unfold f_X9_readName_104 f_X9_readName_114
          rw [zg_i (decide_eq_true hj), if_pos rfl, zg_i (decide_eq_true hj), zmax_n (by omega) (by omega), nI_1]
        · have ip := inb_n (show p + s < 100 by omega) (show 100 < 100000 by decide)
          have np := nI_clamp (show p + s < 2 ^ 31 by omega)
          have ec := zby1 (t (p + s)) (t2 (p + s) q).1 ch c1
          by_cases kk : t (p + s) = ch
          · have hR2 : (if zlp t n v (p + (s + 1)) = v.length then (nI k, p + (s + 1) + v.length) else zpick t n p us (k + 1) (max (max far (s + 1)) (s + 1 + zlp t n v (p + (s + 1))))) = T := by
              rw [← hR, zlp_1 v ⟨q, kk⟩, show p + (s + 1) = p + s + 1 by omega, show (ch :: v).length = v.length + 1 from rfl]
              generalize zlp t n v (p + s + 1) = z
              by_cases e : z = v.length
              · rw [if_pos e, if_pos (by omega), show p + s + 1 + v.length = p + s + (v.length + 1) by omega]
              · rw [if_neg e, if_neg (by omega), show max (max far (s + 1)) (s + 1 + z) = max far (s + (1 + z)) by omega]
            refine Or.inr ⟨(v ++ 32 :: zflat us).length, zvc σ c S p, (j, nI k, nI (s + 1), nI (max far (s + 1)), 1, nI (i + 1)), lt, ⟨rfl, i + 1, s + 1, k, max far (s + 1), 1, v ++ 32 :: zflat us, rfl, rfl, d3, by omega, by omega, by omega, Or.inr ⟨v, us, rfl, hv2, hus, Or.inl ⟨rfl, hR2⟩⟩⟩, fun rec => ?_⟩
            unfold f_X9_readName_13
            simp only
            rw [zg_i (decide_eq_true hj), e_slen hj, zb_s, if_neg (nle_s d1 (by omega)), e_schar hj d1, zb_s, d2, if_neg c32, if_neg (show ¬ (1 : Int32) = 0 by decide), r1, zvc_r, nI_add, if_neg (nle_s q (by omega)), zg_i ip, np, r2 _ q, if_pos (ec.mpr kk)]
            unfold f_X9_readName_104 f_X9_readName_114
            rw [zg_i (decide_eq_true hj), if_neg (show ¬ (1 : Int32) = 0 by decide), zg_i (decide_eq_true hj), nI_1, zmax_n (by omega) (by omega), nI_1]
          · refine Or.inr ⟨(v ++ 32 :: zflat us).length, zvc σ c S p, (j, nI k, nI s, nI (max far s), 0, nI (i + 1)), lt, ⟨rfl, i + 1, s, k, max far s, 0, v ++ 32 :: zflat us, rfl, rfl, d3, by omega, by omega, by omega, Or.inr ⟨v, us, rfl, hv2, hus, Or.inr ⟨rfl, miss (fun w => kk w.2)⟩⟩⟩, fun rec => ?_⟩
            unfold f_X9_readName_13
            simp only
            rw [zg_i (decide_eq_true hj), e_slen hj, zb_s, if_neg (nle_s d1 (by omega)), e_schar hj d1, zb_s, d2, if_neg c32, if_neg (show ¬ (1 : Int32) = 0 by decide), r1, zvc_r, nI_add, if_neg (nle_s q (by omega)), zg_i ip, np, r2 _ q, if_neg (fun z => kk (ec.mp z))]
            unfold f_X9_readName_104 f_X9_readName_114
            rw [zg_i (decide_eq_true hj), if_pos rfl, zg_i (decide_eq_true hj), zmax_n (by omega) (by omega), nI_1]
      · refine Or.inr ⟨(v ++ 32 :: zflat us).length, zvc σ c S p, (j, nI k, nI s, nI far, 0, nI (i + 1)), lt, ⟨rfl, i + 1, s, k, far, 0, v ++ 32 :: zflat us, rfl, rfl, d3, hf, by omega, by omega, Or.inr ⟨v, us, rfl, hv2, hus, Or.inr ⟨rfl, hR⟩⟩⟩, fun rec => ?_⟩
        unfold f_X9_readName_13
        simp only
        rw [zg_i (decide_eq_true hj), e_slen hj, zb_s, if_neg (nle_s d1 (by omega)), e_schar hj d1, zb_s, d2, if_neg c32, if_pos trivial, nI_1]

