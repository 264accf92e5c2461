/-- what the reference sees at p -/
def zhc (t : Nat → Nat) (n p : Nat) : Int32 := if p < n then nI (t p) else -1
theorem e_here {σ : zMem} {t : Nat → Nat} {n c p F : Nat} (ht : ztR σ t n) (S : Nat → Nat → Int32) (f o : Int32) (hp : p ≤ n) : f_X11_here F (zrs σ c S (nI p) f o) = some (zhc t n p, zrs σ c S (nI p) f o) := by
  obtain ⟨h1, h2, h3⟩ := ht
  have r1 : (zrs σ c S (nI p) f o).1 60 0 19 = nI n := by rw [zrs_o _ _ _ _ _ _ (by simp [zPv]), h2]
  unfold f_X11_here zhc
  rw [r1, zrs_ra]
  by_cases q : p < n
  · rw [if_neg (nle_s q (by omega)), if_pos q, zg_i (inb_n (show p < 100 by omega) (by decide)), nI_clamp (show p < 2 ^ 31 by omega), zrs_o _ _ _ _ _ _ (by simp [zPv]), (h3 p q).2]
  · rw [if_neg q, if_pos (nI_le (Nat.not_lt.mp q) (by omega))]
theorem e_wrong {σ : zMem} {c F : Nat} (S : Nat → Nat → Int32) (a f o : Int32) : f_X11_wrong F (zrs σ c S a f o) = some (0, zrs σ c S a a o) := by
  unfold f_X11_wrong
  rw [zrs_ra, zrs_f]
theorem zhc_eq {σ : zMem} {t : Nat → Nat} {n p c : Nat} (ht : ztR σ t n) (hc : c < 256) : zhc t n p = nI c ↔ (p < n ∧ t p = c) := by
  unfold zhc
  by_cases q : p < n
  · have b := (ht.2.2 p q).1
    rw [if_pos q, nI_eq (by omega) (by omega)]
    exact ⟨fun w => ⟨q, w⟩, fun w => w.2⟩
  · rw [if_neg q]
    refine ⟨fun w => ?_, fun w => absurd w.1 q⟩
    have e : (-1 : Int32).toInt = (nI c).toInt := by rw [w]
    rw [nI_toInt (by omega)] at e
    have : (-1 : Int32).toInt = -1 := rfl
    omega
/-- a text of the reference -/
theorem e_text {σ : zMem} {t : Nat → Nat} {n c j F : Nat} {w : List Nat} (hF : 100 < F) (ht : ztR σ t n) (S : Nat → Nat → Int32) {p : Nat} (f o : Int32) (hp : p ≤ n) (hj : j < 28) (hw : zSbyt.getD j [] = w.map nI) (hb : ∀ x, x ∈ w → x < 128) : f_X11_text F (zrs σ c S (nI p) f o) j = if zlp t n w p = w.length then some (1, zrs σ c S (nI (p + w.length)) f o) else some (0, zrs σ c S (nI (p + zlp t n w p)) (nI (p + zlp t n w p)) o) := by
  have hm := zstm j hj
  have wl : w.length ≤ 41 := by
    have := congrArg List.length hw
    rw [List.length_map] at this
    omega
  unfold f_X11_text
  rw [zg_i (decide_eq_true hj)]
  refine zit_m (fun m s x => ∃ i v, m = v.length ∧ i + v.length = w.length ∧ s = zrs σ c S (nI (p + i)) f o ∧ x = (j, nI i) ∧ (zSbyt.getD j []).drop i = v.map nI ∧ p + i ≤ n ∧ zlp t n w p = i + zlp t n v (p + i) ∧ ∀ x, x ∈ v → x < 128) _ ?_ F w.length _ _ ⟨0, w, rfl, by omega, rfl, by rw [nI_0], by rw [List.drop_zero, hw], hp, by rw [Nat.zero_add, Nat.add_zero], hb⟩ (by
    have := congrArg List.length hw
    rw [List.length_map] at this
    omega)
  rintro m s x ⟨i, v, rfl, hl, rfl, rfl, hd, hn, hz, hv⟩
  rcases v with _ | ⟨ch, v⟩
  · refine Or.inl fun rec => ?_
    have e0 : zlp t n [] (p + i) = 0 := rfl
    have el : i = w.length := hl
    have ll : (zSbyt.getD j []).length ≤ i := by
      have := congrArg List.length hw
      rw [List.length_map] at this
      omega
    unfold f_X11_text_2
    simp only
    rw [zg_i (decide_eq_true hj), e_slen hj, zb_s, if_pos (nI_le ll (by omega)), hz, e0, if_pos (by omega), el]
  · have hd : (zSbyt.getD j []).drop i = nI ch :: v.map nI := hd
    obtain ⟨d1, d2, d3⟩ := zdrop_at hd
    have hc := hv ch (List.mem_cons_self ..)
    have hq := zhc_eq (p := p + i) ht (show ch < 256 by omega)
    by_cases q : p + i < n ∧ t (p + i) = ch
    · refine Or.inr ⟨v.length, zrs σ c S (nI (p + (i + 1))) f o, (j, nI (i + 1)), by show v.length < v.length + 1; omega, ⟨i + 1, v, rfl, by have : i + (v.length + 1) = w.length := hl; omega, rfl, rfl, d3, by omega, by rw [hz, zlp_1 v q, show p + (i + 1) = p + i + 1 by omega]; omega, fun x hx => hv x (List.mem_cons_of_mem _ hx)⟩, fun rec => ?_⟩
      unfold f_X11_text_2
      simp only
      rw [zg_i (decide_eq_true hj), e_slen hj, zb_s, if_neg (nle_s d1 (by omega)), e_here ht S f o hn, zb_s, e_schar hj d1, zb_s, d2, if_pos (hq.mpr q), zrs_ra, nI_1, zrs_a, nI_1]
      rfl
    · refine Or.inl fun rec => ?_
      have e0 := zlp_0 (t := t) (n := n) (p := p + i) (c := ch) v q
      unfold f_X11_text_2
      simp only
      rw [zg_i (decide_eq_true hj), e_slen hj, zb_s, if_neg (nle_s d1 (by omega)), e_here ht S f o hn, zb_s, e_schar hj d1, zb_s, d2, if_neg (fun z => q (hq.mp z)), e_wrong, zb_s, zg_i (by decide), hz, e0, if_neg (by have : i + (v.length + 1) = w.length := hl; omega), Nat.add_zero]
/-- the class's same bytes -/
theorem e_same {σ : zMem} {t : Nat → Nat} {n c j s F : Nat} {w : List Nat} {r : List Int32} (hF : 100 < F) (ht : ztC σ t n) (S : Nat → Nat → Int32) {p : Nat} (hj : j < 28) (hw : (zSbyt.getD j []).drop s = w.map nI ++ nI 32 :: r) (hb : ∀ x, x ∈ w → x < 128 ∧ x ≠ 32) (hp : p ≤ n) : f_X9_sameBytes F (zvc σ c S p) j (nI s) = some (nI (zlp t n w p), zvc σ c S p) := by
  have hm := zstm j hj
  have hlen : w.length + 1 ≤ 41 := by
    have h := congrArg List.length hw
    rw [List.length_drop, List.length_append, List.length_map, List.length_cons] at h
    omega
  obtain ⟨n1, t1, t2⟩ := ht
  have r1 : (zvc σ c S p).1 11 0 3 = nI n := by rw [zvc_o _ _ _ _ (by simp [zPc]), t1]
  have r2 : ∀ q, q < n → (zvc σ c S p).1 19 0 q = (nI (t q)).toInt8.toInt32 := fun q hq => by rw [zvc_o _ _ _ _ (by simp [zPc]), (t2 q hq).2]
  unfold f_X9_sameBytes
  rw [zg_i (decide_eq_true hj)]
  refine zit_m (fun m st x => st = zvc σ c S p ∧ ∃ i v, m = v.length ∧ x = (j, nI s, nI i) ∧ (zSbyt.getD j []).drop (s + i) = v.map nI ++ nI 32 :: r ∧ zlp t n w p = i + zlp t n v (p + i) ∧ i + v.length = w.length ∧ ∀ x, x ∈ v → x < 128 ∧ x ≠ 32) _ ?_ F w.length _ _ ⟨rfl, 0, w, rfl, by rw [nI_0], hw, by rw [Nat.zero_add, Nat.add_zero], by omega, hb⟩ (by omega)
  rintro m st x ⟨rfl, i, v, rfl, rfl, hd, hz, hl, hv⟩
  by_cases q : p + i < n
  rotate_left
  · refine Or.inl fun rec => ?_
    have e0 : zlp t n v (p + i) = 0 := by
      rcases v with _ | ⟨ch, v⟩
      · rfl
      · exact zlp_0 v (fun w => q w.1)
    unfold f_X9_sameBytes_2
    simp only
    rw [zg_i (decide_eq_true hj), r1, zvc_r, nI_add, if_pos (nI_le (Nat.not_lt.mp q) (by omega)), hz, e0, Nat.add_zero]
  · have ip := inb_n (show p + i < 100 by omega) (show 100 < 100000 by decide)
    have np := nI_clamp (show p + i < 2 ^ 31 by omega)
    have tb := (t2 (p + i) q).1
    have e32 := zby1 (t (p + i)) tb 32 (by decide)
    rcases v with _ | ⟨ch, v⟩
    · have hd : (zSbyt.getD j []).drop (s + i) = nI 32 :: r := hd
      obtain ⟨d1, d2, d3⟩ := zdrop_at hd
      refine Or.inl fun rec => ?_
      have e0 : zlp t n [] (p + i) = 0 := rfl
      have n32 : nI 32 = 32 := rfl
      unfold f_X9_sameBytes_2
      simp only
      rw [zg_i (decide_eq_true hj), r1, zvc_r, nI_add, if_neg (nle_s q (by omega)), e_slen hj, zb_s, nI_add, if_neg (nle_s d1 (by omega)), zvc_r, nI_add, zg_i ip, np, r2 _ q, hz, e0, Nat.add_zero]
      by_cases k : (nI (t (p + i))).toInt8.toInt32 = 32
      · rw [if_pos k]
      · rw [if_neg k, e_schar hj d1, zb_s, d2, if_neg (show ¬ (nI (t (p + i))).toInt8.toInt32 = nI 32 from k)]
    · have hd : (zSbyt.getD j []).drop (s + i) = nI ch :: (v.map nI ++ nI 32 :: r) := hd
      obtain ⟨d1, d2, d3⟩ := zdrop_at hd
      obtain ⟨c1, c2⟩ := hv ch (List.mem_cons_self ..)
      have ec := zby1 (t (p + i)) tb ch c1
      by_cases k : t (p + i) = ch
      · have k32 : ¬ (nI (t (p + i))).toInt8.toInt32 = 32 := fun z => c2 (k.symm.trans (e32.mp z))
        refine Or.inr ⟨v.length, zvc σ c S p, (j, nI s, nI (i + 1)), by show v.length < v.length + 1; omega, ⟨rfl, i + 1, v, rfl, rfl, d3, by rw [hz, zlp_1 v ⟨q, k⟩, show p + (i + 1) = p + i + 1 by omega]; omega, by have : i + (v.length + 1) = w.length := hl; omega, fun x hx => hv x (List.mem_cons_of_mem _ hx)⟩, fun rec => ?_⟩
        unfold f_X9_sameBytes_2
        simp only
        rw [zg_i (decide_eq_true hj), r1, zvc_r, nI_add, if_neg (nle_s q (by omega)), e_slen hj, zb_s, nI_add, if_neg (nle_s d1 (by omega)), zvc_r, nI_add, zg_i ip, np, r2 _ q, if_neg k32, e_schar hj d1, zb_s, d2, if_pos (ec.mpr k), nI_1]
      · refine Or.inl fun rec => ?_
        have e0 := zlp_0 (t := t) (n := n) (p := p + i) (c := ch) v (fun w => k w.2)
        unfold f_X9_sameBytes_2
        simp only
        rw [zg_i (decide_eq_true hj), r1, zvc_r, nI_add, if_neg (nle_s q (by omega)), e_slen hj, zb_s, nI_add, if_neg (nle_s d1 (by omega)), zvc_r, nI_add, zg_i ip, np, r2 _ q, hz, e0, Nat.add_zero]
        by_cases k3 : (nI (t (p + i))).toInt8.toInt32 = 32
        · rw [if_pos k3]
        · rw [if_neg k3, e_schar hj d1, zb_s, d2, if_neg (fun z => k (ec.mp z))]
theorem e_isof {F j i : Nat} {σ : zMem} (hj : j < 28) {x : Nat} {r : List Int32} (hd : (zSbyt.getD j []).drop i = nI x :: r) (hx : x < 128) : f_X9_isOfName F σ j (nI i) = some (if x = 32 then 0 else 1, σ) := by
  obtain ⟨d1, d2, d3⟩ := zdrop_at hd
  have hm := zstm j hj
  have n32 : (32 : Int32) = nI 32 := rfl
  unfold f_X9_isOfName
  rw [zg_i (decide_eq_true hj), e_slen hj, zb_s, if_neg (nle_s d1 (by omega)), e_schar hj d1, zb_s, d2, n32]
  by_cases q : x = 32
  · rw [if_pos q, if_pos (by rw [q])]
  · rw [if_neg q, if_neg (fun w => q ((nI_eq (by omega) (by omega)).mp w))]
theorem e_behind {F j s : Nat} {σ : zMem} {w : List Nat} {r : List Int32} (hF : 100 < F) (hj : j < 28) (hw : (zSbyt.getD j []).drop s = w.map nI ++ nI 32 :: r) (hb : ∀ x, x ∈ w → x < 128 ∧ x ≠ 32) : f_X9_behindBlank F σ j (nI s) = some (nI (s + w.length + 1), σ) := by
  have hm := zstm j hj
  have hlen : w.length + 1 ≤ 41 := by
    have h := congrArg List.length hw
    rw [List.length_drop, List.length_append, List.length_map, List.length_cons] at h
    omega
  unfold f_X9_behindBlank
  rw [zg_i (decide_eq_true hj)]
  refine zit_m (fun m st x => st = σ ∧ ∃ i v, m = v.length ∧ x = (j, nI (s + i)) ∧ (zSbyt.getD j []).drop (s + i) = v.map nI ++ nI 32 :: r ∧ i + v.length = w.length ∧ ∀ x, x ∈ v → x < 128 ∧ x ≠ 32) _ ?_ F w.length _ _ ⟨rfl, 0, w, rfl, rfl, hw, by omega, hb⟩ (by omega)
  rintro m st x ⟨rfl, i, v, rfl, rfl, hd, hl, hv⟩
  rcases v with _ | ⟨ch, v⟩
  · refine Or.inl fun rec => ?_
    have hd : (zSbyt.getD j []).drop (s + i) = nI 32 :: r := hd
    have hl : i = w.length := hl
    unfold f_X9_behindBlank_2
    simp only
    rw [zg_i (decide_eq_true hj), e_isof hj hd (by decide), zb_s, if_pos rfl, if_pos rfl, nI_1, hl]
  · have hd : (zSbyt.getD j []).drop (s + i) = nI ch :: (v.map nI ++ nI 32 :: r) := hd
    obtain ⟨c1, c2⟩ := hv ch (List.mem_cons_self ..)
    obtain ⟨d1, d2, d3⟩ := zdrop_at hd
    refine Or.inr ⟨v.length, st, (j, nI (s + (i + 1))), by show v.length < v.length + 1; omega, ⟨rfl, i + 1, v, rfl, rfl, d3, by have : i + (v.length + 1) = w.length := hl; omega, fun x hx => hv x (List.mem_cons_of_mem _ hx)⟩, fun rec => ?_⟩
    unfold f_X9_behindBlank_2
    simp only
    rw [zg_i (decide_eq_true hj), e_isof hj hd c1, zb_s, if_neg c2, if_neg (by decide), nI_1]
    rfl
/-- which of the names stands at p -/
def zpick (t : Nat → Nat) (n p : Nat) : List (List Nat) → Nat → Nat → Int32 × Nat
  | [], _, far => (-1, p + far)
  | w :: ws, k, far => if zlp t n w p = w.length then (nI k, p + w.length) else zpick t n p ws (k + 1) (max far (zlp t n w p))
def zflat : List (List Nat) → List Nat
  | [] => []
  | w :: ws => w ++ 32 :: zflat ws
theorem e_name {σ : zMem} {t : Nat → Nat} {n c j F : Nat} {ws : List (List Nat)} (hF : 100 < F) (ht : ztC σ t n) (S : Nat → Nat → Int32) {p : Nat} (hj : j < 28) (hw : zSbyt.getD j [] = (zflat ws).map nI) (hb : ∀ w, w ∈ ws → ∀ x, x ∈ w → x < 128 ∧ x ≠ 32) (hl : ws.length ≤ 20) (hp : p ≤ n) : f_X9_readName F (zvc σ c S p) j = some ((zpick t n p ws 0 0).1, zvc σ c S (zpick t n p ws 0 0).2) := by
  have hm := zstm j hj
  have n100 := ht.1
  unfold f_X9_readName
  rw [zg_i (decide_eq_true hj)]
  refine zit_m (fun m st x => st = zvc σ c S p ∧ ∃ us s k far, m = us.length ∧ x = (j, nI far, nI s, nI k) ∧ (zSbyt.getD j []).drop s = (zflat us).map nI ∧ zpick t n p us k far = zpick t n p ws 0 0 ∧ far ≤ 41 ∧ s ≤ 41 ∧ (∀ w, w ∈ us → ∀ x, x ∈ w → x < 128 ∧ x ≠ 32)) _ ?_ F ws.length _ _ ⟨rfl, ws, 0, 0, 0, rfl, by rw [nI_0], by rw [List.drop_zero, hw], rfl, by omega, by omega, hb⟩ (by omega)
  rintro m st x ⟨rfl, us, s, k, far, rfl, rfl, hd, hz, hf, hs41, hv⟩
  rcases us with _ | ⟨w, us⟩
  · refine Or.inl fun rec => ?_
    have hd : (zSbyt.getD j []).drop s = [] := hd
    have hs : (zSbyt.getD j []).length ≤ s := List.drop_eq_nil_iff.mp hd
    have hz : ((-1 : Int32), p + far) = zpick t n p ws 0 0 := hz
    unfold f_X9_readName_7
    simp only
    rw [zg_i (decide_eq_true hj), e_slen hj, zb_s, ← hz]
    simp only
    rw [if_pos (nI_le hs (by omega)), zvc_r, nI_add, zvc_p]
  · have hd : (zSbyt.getD j []).drop s = w.map nI ++ nI 32 :: (zflat us).map nI := by
      rw [hd]
      show (w ++ 32 :: zflat us).map nI = _
      rw [List.map_append, List.map_cons]
    have hw2 := hv w (List.mem_cons_self ..)
    have hlen : s + w.length + 1 ≤ 41 := by
      have h := congrArg List.length hd
      rw [List.length_drop, List.length_append, List.length_map, List.length_cons] at h
      omega
    have sb := e_same (F := F) (c := c) hF ht S hj hd hw2 hp
    have le := zlp_le t n w p
    obtain ⟨x, r, hx, hd2, hxe⟩ : ∃ x r, x < 128 ∧ (zSbyt.getD j []).drop (s + zlp t n w p) = nI x :: r ∧ (x = 32 ↔ zlp t n w p = w.length) := by
      generalize zlp t n w p = q at le
      have e1 : (zSbyt.getD j []).drop (s + q) = (w.map nI).drop q ++ nI 32 :: (zflat us).map nI := by
        rw [← List.drop_drop, hd, List.drop_append_of_le_length (show q ≤ (w.map nI).length by rw [List.length_map]; exact le)]
      by_cases c1 : q = w.length
      · refine ⟨32, (zflat us).map nI, by decide, ?_, ⟨fun _ => c1, fun _ => rfl⟩⟩
        rw [e1, List.drop_eq_nil_of_le (by rw [List.length_map]; omega)]
        rfl
      · have lt : q < w.length := by omega
        have := List.drop_eq_getElem_cons (l := w) lt
        refine ⟨w[q], (w.drop (q + 1)).map nI ++ nI 32 :: (zflat us).map nI, (hw2 _ (List.getElem_mem lt)).1, ?_, ⟨fun z => absurd z (hw2 _ (List.getElem_mem lt)).2, fun z => absurd z c1⟩⟩
        rw [e1, ← List.map_drop, this]
        rfl
    have io := e_isof (F := F) (σ := zvc σ c S p) hj hd2 hx
    have bb := e_behind (F := F) (σ := zvc σ c S p) hF hj hd hw2
    have s0 : s < (zSbyt.getD j []).length := by
      have h := congrArg List.length hd
      rw [List.length_drop, List.length_append, List.length_map, List.length_cons] at h
      omega
    by_cases q : zlp t n w p = w.length
    · refine Or.inl fun rec => ?_
      have hz : (if zlp t n w p = w.length then (nI k, p + w.length) else zpick t n p us (k + 1) (max far (zlp t n w p))) = zpick t n p ws 0 0 := hz
      rw [if_pos q] at hz
      unfold f_X9_readName_7
      simp only
      rw [zg_i (decide_eq_true hj), e_slen hj, zb_s, if_neg (nle_s s0 (by omega)), sb, zb_s, nI_add, io, zb_s, if_pos (hxe.mpr q), if_pos rfl, ← hz, zvc_r, q, nI_add, zvc_p]
    · have hz : (if zlp t n w p = w.length then (nI k, p + w.length) else zpick t n p us (k + 1) (max far (zlp t n w p))) = zpick t n p ws 0 0 := hz
      rw [if_neg q] at hz
      have mx : zmax (nI far) (nI (zlp t n w p)) = nI (max far (zlp t n w p)) := by
        unfold zmax
        by_cases z : far < zlp t n w p
        · rw [if_pos (nI_lt z (by omega)), Nat.max_eq_right (by omega)]
        · rw [if_neg (nI_nlt (Nat.not_lt.mp z) (by omega)), Nat.max_eq_left (by omega)]
      refine Or.inr ⟨us.length, zvc σ c S p, (j, nI (max far (zlp t n w p)), nI (s + w.length + 1), nI (k + 1)), by show us.length < us.length + 1; omega, ⟨rfl, us, s + w.length + 1, k + 1, max far (zlp t n w p), rfl, rfl, ?_, hz, by omega, hlen, fun w hw => hv w (List.mem_cons_of_mem _ hw)⟩, fun rec => ?_⟩
      · rw [show s + w.length + 1 = s + (w.length + 1) by omega, ← List.drop_drop, hd, ← List.drop_drop, List.drop_append_of_le_length (show w.length ≤ (w.map nI).length by simp), List.drop_eq_nil_of_le (show (w.map nI).length ≤ w.length by simp)]
        rfl
      · unfold f_X9_readName_7
        simp only
        rw [zg_i (decide_eq_true hj), e_slen hj, zb_s, if_neg (nle_s s0 (by omega)), sb, zb_s, nI_add, io, zb_s, if_neg (fun z => q (hxe.mp z)), if_neg (by decide), bb, zb_s, mx, nI_1]

