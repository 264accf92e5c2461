/-- blanks and numbers -/
theorem e_blank {σ : zMem} {t : Nat → Nat} {n c p F : Nat} (ht : ztC σ t n) (S : Nat → Nat → Int32) (hp : p ≤ n) : f_X9_readBlank F (zvc σ c S p) = some (if p < n ∧ t p = 32 then 1 else 0, zvc σ c S (if p < n ∧ t p = 32 then p + 1 else p)) := by
  obtain ⟨n1, t1, t2⟩ := ht
  have r1 : (zvc σ c S p).1 11 0 3 = nI n := by rw [zvc_o _ _ _ _ (by simp [zPc]), t1]
  unfold f_X9_readBlank
  rw [r1, zvc_r]
  by_cases q : p < n
  · have e := zby1 (t p) (t2 p q).1 32 (by decide)
    have n32 : nI 32 = 32 := rfl
    rw [n32] at e
    rw [if_neg (nle_s q (by omega)), zg_i (inb_n (show p < 100 by omega) (by decide)), nI_clamp (show p < 2 ^ 31 by omega), zvc_o _ _ _ _ (by simp [zPc]), (t2 p q).2]
    by_cases k : t p = 32
    · rw [if_pos (e.mpr k), if_pos ⟨q, k⟩, if_pos ⟨q, k⟩, nI_1, zvc_p]
    · rw [if_neg (fun z => k (e.mp z)), if_neg (fun z => k z.2), if_neg (fun z => k z.2)]
  · rw [if_pos (nI_le (Nat.not_lt.mp q) (by omega)), if_neg (fun z => q z.1), if_neg (fun z => q z.1)]
def zdig (t : Nat → Nat) (n p : Nat) : Prop := p < n ∧ 48 ≤ t p ∧ t p ≤ 57
/-- the number that stands at p, and the place behind it: k digits at most -/
def znm (t : Nat → Nat) (n : Nat) : Nat → Nat → Nat → Nat × Nat
  | 0, p, v => (v, p)
  | k + 1, p, v => if p < n ∧ 48 ≤ t p ∧ t p ≤ 57 then znm t n k (p + 1) (10 * v + (t p - 48)) else (v, p)
theorem znm_n (t : Nat → Nat) (n : Nat) : ∀ k p v, p ≤ n → (znm t n k p v).2 ≤ n ∧ p ≤ (znm t n k p v).2
  | 0, p, v, h => ⟨h, Nat.le_refl p⟩
  | k + 1, p, v, h => by
    show (if p < n ∧ 48 ≤ t p ∧ t p ≤ 57 then znm t n k (p + 1) (10 * v + (t p - 48)) else (v, p)).2 ≤ n ∧ p ≤ (if p < n ∧ 48 ≤ t p ∧ t p ≤ 57 then znm t n k (p + 1) (10 * v + (t p - 48)) else (v, p)).2
    by_cases q : p < n ∧ 48 ≤ t p ∧ t p ≤ 57
    · rw [if_pos q]
      have := znm_n t n k (p + 1) (10 * v + (t p - 48)) q.1
      exact ⟨this.1, by omega⟩
    · rw [if_neg q]
      exact ⟨h, Nat.le_refl p⟩
theorem znm_lt (t : Nat → Nat) (n : Nat) : ∀ k p v m, v < m → (znm t n k p v).1 < m * 10 ^ k
  | 0, p, v, m, h => by
    show v < m * 1
    omega
  | k + 1, p, v, m, h => by
    show (if p < n ∧ 48 ≤ t p ∧ t p ≤ 57 then znm t n k (p + 1) (10 * v + (t p - 48)) else (v, p)).1 < m * 10 ^ (k + 1)
    have e : m * 10 ^ (k + 1) = (m * 10) * 10 ^ k := by rw [Nat.pow_succ, Nat.mul_comm (10 ^ k) 10, Nat.mul_assoc]
    by_cases q : p < n ∧ 48 ≤ t p ∧ t p ≤ 57
    · rw [if_pos q, e]
      exact znm_lt t n k (p + 1) (10 * v + (t p - 48)) (m * 10) (by omega)
    · rw [if_neg q, e]
      have := Nat.le_mul_of_pos_right (m * 10) (Nat.pow_pos (n := k) (show 0 < 10 by decide))
      show v < m * 10 * 10 ^ k
      omega
theorem e_num {σ : zMem} {t : Nat → Nat} {n c p F : Nat} (hF : 100 < F) (ht : ztC σ t n) (S : Nat → Nat → Int32) (hp : p ≤ n) : f_X9_readNumber F (zvc σ c S p) = some (if p < n ∧ 48 ≤ t p ∧ t p ≤ 57 then nI (znm t n 5 p 0).1 else -1, zvc σ c S (znm t n 5 p 0).2) := by
  obtain ⟨n1, t1, t2⟩ := ht
  have r1 : ∀ q, (zvc σ c S q).1 11 0 3 = nI n := fun q => by rw [zvc_o _ _ _ _ (by simp [zPc]), t1]
  unfold f_X9_readNumber
  refine zit_m (fun m st x => ∃ i q v, i + m = 5 ∧ st = zvc σ c S q ∧ x = (if i = 0 then -1 else nI v, nI i) ∧ znm t n m q v = znm t n 5 p 0 ∧ q ≤ n ∧ (i = 0 → q = p ∧ v = 0) ∧ (0 < i → p < n ∧ 48 ≤ t p ∧ t p ≤ 57) ∧ v < 10 ^ i) _ ?_ F 5 _ _ ⟨0, p, 0, rfl, rfl, by rw [if_pos rfl, nI_0], rfl, hp, fun _ => ⟨rfl, rfl⟩, fun h => by omega, by decide⟩ (by omega)
  rintro m st x ⟨i, q, v, hi, rfl, rfl, hz, hq, h0, h1, hv⟩
  rcases m with _ | m
  · have i5 : i = 5 := by omega
    subst i5
    refine Or.inl fun rec => ?_
    unfold f_X9_readNumber_4
    simp only
    rw [if_pos (by decide), if_neg (by decide), if_pos (h1 (by decide)), ← hz]
    rfl
  · have l5 : ¬ (5 : Int32) ≤ nI i := nle_l 5 (n := 5) rfl (by omega) (by decide)
    by_cases dg : q < n ∧ 48 ≤ t q ∧ t q ≤ 57
    · have tb := (t2 q dg.1).1
      have e := zby2 (t q) tb
      rw [if_pos dg.2] at e
      obtain ⟨e1, e2, e3⟩ := e
      have v5 : v < 10000 := Nat.lt_of_lt_of_le hv (by
        have : 10 ^ i ≤ 10 ^ 4 := Nat.pow_le_pow_right (by decide) (by omega)
        exact this)
      have mx : zmax (if i = 0 then -1 else nI v) 0 = nI v := by
        by_cases k : i = 0
        · rw [if_pos k, (h0 k).2]
          decide
        · rw [if_neg k]
          unfold zmax
          rw [if_neg (nI_pos (by omega))]
      refine Or.inr ⟨m, zvc σ c S (q + 1), (if i + 1 = 0 then -1 else nI (10 * v + (t q - 48)), nI (i + 1)), by omega, ⟨i + 1, q + 1, 10 * v + (t q - 48), by omega, rfl, rfl, by
        rw [← hz]
        show _ = if q < n ∧ 48 ≤ t q ∧ t q ≤ 57 then znm t n m (q + 1) (10 * v + (t q - 48)) else (v, q)
        rw [if_pos dg], dg.1, fun h => by omega, fun _ => by
        by_cases k : i = 0
        · rw [← (h0 k).1]
          exact dg
        · exact h1 (by omega), by
        rw [Nat.pow_succ]
        omega⟩, fun rec => ?_⟩
      unfold f_X9_readNumber_4
      simp only
      rw [if_neg l5, r1, zvc_r, if_neg (nle_s dg.1 (by omega)), zg_i (inb_n (show q < 100 by omega) (by decide)), nI_clamp (show q < 2 ^ 31 by omega), zvc_o _ _ _ _ (show zPc c 19 0 q = false by simp [zPc]), (t2 q dg.1).2, if_neg e1, if_pos e2, e3, mx, nI_1, zvc_p, nI_1, if_neg (by omega), show (10 : Int32) = nI 10 from rfl, nI_mu, nI_add, Nat.mul_comm v 10]
    · refine Or.inl fun rec => ?_
      have hz : (if q < n ∧ 48 ≤ t q ∧ t q ≤ 57 then znm t n m (q + 1) (10 * v + (t q - 48)) else (v, q)) = znm t n 5 p 0 := hz
      rw [if_neg dg] at hz
      rw [← hz]
      have res : (if p < n ∧ 48 ≤ t p ∧ t p ≤ 57 then nI v else (-1 : Int32)) = if i = 0 then -1 else nI v := by
        by_cases k : i = 0
        · rw [if_pos k, if_neg (by rw [← (h0 k).1]; exact dg)]
        · rw [if_neg k, if_pos (h1 (by omega))]
      unfold f_X9_readNumber_4
      simp only
      rw [if_neg l5, r1, zvc_r, res]
      by_cases lt : q < n
      · have e := zby2 (t q) (t2 q lt).1
        rw [if_neg (fun z => dg ⟨lt, z⟩)] at e
        rw [if_neg (nle_s lt (by omega)), zg_i (inb_n (show q < 100 by omega) (by decide)), nI_clamp (show q < 2 ^ 31 by omega), zvc_o _ _ _ _ (show zPc c 19 0 q = false by simp [zPc]), (t2 q lt).2]
        by_cases z : (nI (t q)).toInt8.toInt32 - 48 < 0
        · rw [if_pos z]
        · rw [if_neg z, if_neg (e.resolve_left z)]
      · rw [if_pos (nI_le (Nat.not_lt.mp lt) (by omega))]
theorem zhc_d {σ : zMem} {t : Nat → Nat} {n p : Nat} (ht : ztR σ t n) : (¬ zhc t n p < 48 ∧ zhc t n p ≤ 57) ↔ (p < n ∧ 48 ≤ t p ∧ t p ≤ 57) := by
  unfold zhc
  by_cases q : p < n
  · have b := (ht.2.2 p q).1
    rw [if_pos q, show (48 : Int32) = nI 48 from rfl, show (57 : Int32) = nI 57 from rfl, nI_ltI (by omega) (by omega), nI_leI (by omega) (by omega)]
    exact ⟨fun w => ⟨q, by omega, w.2⟩, fun w => ⟨by omega, w.2.2⟩⟩
  · rw [if_neg q]
    exact ⟨fun w => absurd (by decide) w.1, fun w => absurd w.1 q⟩
/-- how a piece of the reference ends: it found k and stands at q, or its fault is q -/
def zRO (σ : zMem) (c : Nat) (S : Nat → Nat → Int32) (n : Nat) (r : Int32 × Nat) (x : Option (Int32 × zMem)) : Prop := r.2 ≤ n ∧ ((∃ k f', k < 100000 ∧ r.1 = nI k ∧ x = some (1, zrs σ c S (nI r.2) f' (nI k))) ∨ (r.1 = -1 ∧ ∃ a' o', x = some (0, zrs σ c S a' (nI r.2) o')))
theorem e_numr {σ : zMem} {t : Nat → Nat} {n c p F : Nat} (hF : 100 < F) (ht : ztR σ t n) (S : Nat → Nat → Int32) (f o : Int32) (hp : p ≤ n) : zRO σ c S n (if p < n ∧ 48 ≤ t p ∧ t p ≤ 57 then nI (znm t n 5 p 0).1 else -1, (znm t n 5 p 0).2) (f_X11_numberHere F (zrs σ c S (nI p) f o)) := by
  have lt := znm_lt t n 5 p 0 1 (by decide)
  have b := znm_n t n 5 p 0 hp
  refine ⟨b.1, ?_⟩
  have hd := zhc_d (p := p) ht
  by_cases dg : p < n ∧ 48 ≤ t p ∧ t p ≤ 57
  · obtain ⟨d1, d2⟩ := hd.mpr dg
    refine Or.inl ⟨(znm t n 5 p 0).1, f, by omega, if_pos dg, ?_⟩
    unfold f_X11_numberHere
    rw [e_here ht S f o hp, zb_s, if_neg d1, e_here ht S f o hp, zb_s, if_pos d2, zrs_n]
    show _ = some ((1 : Int32), zrs σ c S (nI (znm t n 5 p 0).2) f (nI (znm t n 5 p 0).1))
    refine zit_m (fun m st x => ∃ i q v, i + m = 5 ∧ st = zrs σ c S (nI q) f (nI v) ∧ x = nI i ∧ znm t n m q v = znm t n 5 p 0 ∧ q ≤ n ∧ v < 10 ^ i) _ ?_ F 5 _ _ ⟨0, p, 0, rfl, by rw [nI_0], by rw [nI_0], rfl, hp, by decide⟩ (by omega)
    rintro m st x ⟨i, q, v, hi, rfl, rfl, hz, hq, hv⟩
    rcases m with _ | m
    · have i5 : i = 5 := by omega
      subst i5
      refine Or.inl fun rec => ?_
      unfold f_X11_numberHere_30
      rw [if_pos (by decide), ← hz]
      rfl
    · have l5 : ¬ (5 : Int32) ≤ nI i := nle_l 5 (n := 5) rfl (by omega) (by decide)
      have hq2 := zhc_d (p := q) ht
      by_cases dg : q < n ∧ 48 ≤ t q ∧ t q ≤ 57
      · obtain ⟨d1, d2⟩ := hq2.mpr dg
        have v5 : v < 10000 := Nat.lt_of_lt_of_le hv (by
          have : 10 ^ i ≤ 10 ^ 4 := Nat.pow_le_pow_right (by decide) (by omega)
          exact this)
        refine Or.inr ⟨m, zrs σ c S (nI (q + 1)) f (nI (10 * v + (t q - 48))), nI (i + 1), by omega, ⟨i + 1, q + 1, 10 * v + (t q - 48), by omega, rfl, rfl, by
          rw [← hz]
          show _ = if q < n ∧ 48 ≤ t q ∧ t q ≤ 57 then znm t n m (q + 1) (10 * v + (t q - 48)) else (v, q)
          rw [if_pos dg], dg.1, by
          rw [Nat.pow_succ]
          omega⟩, fun rec => ?_⟩
        have zq : zhc t n q = nI (t q) := if_pos dg.1
        have ar : 10 * nI v + nI (t q) - 48 = nI (10 * v + (t q - 48)) := by
          rw [show (10 : Int32) = nI 10 from rfl, nI_mu, nI_add]
          apply Int32.toInt_inj.mp
          have k48 : (48 : Int32).toInt = 48 := rfl
          have tq := dg.2.2
          rw [t_sub (by rw [k48, nI_toInt (by omega)]; omega) (by rw [k48, nI_toInt (by omega)]; omega), k48, nI_toInt (by omega), nI_toInt (by omega)]
          omega
        unfold f_X11_numberHere_30
        rw [if_neg l5, e_here ht S f _ hq, zb_s, if_neg d1, e_here ht S f _ hq, zb_s, if_neg (Int32.not_lt.mpr d2), e_here ht S f _ hq, zb_s, zrs_rn, zq, ar, zrs_n, zrs_ra, nI_1, zrs_a, nI_1]
      · have hz : (if q < n ∧ 48 ≤ t q ∧ t q ≤ 57 then znm t n m (q + 1) (10 * v + (t q - 48)) else (v, q)) = znm t n 5 p 0 := hz
        rw [if_neg dg] at hz
        refine Or.inl fun rec => ?_
        rw [← hz]
        unfold f_X11_numberHere_30
        rw [if_neg l5, e_here ht S f _ hq, zb_s]
        by_cases z : zhc t n q < 48
        · rw [if_pos z]
        · rw [if_neg z, e_here ht S f _ hq, zb_s, if_pos (Int32.not_le.mp (fun y => dg (hq2.mp ⟨z, y⟩)))]
  · have e5 : (znm t n 5 p 0).2 = p := by
      show (if p < n ∧ 48 ≤ t p ∧ t p ≤ 57 then znm t n 4 (p + 1) (10 * 0 + (t p - 48)) else (0, p)).2 = p
      rw [if_neg dg]
    refine Or.inr ⟨if_neg dg, nI p, o, ?_⟩
    show _ = some ((0 : Int32), zrs σ c S (nI p) (nI (znm t n 5 p 0).2) o)
    rw [e5]
    have nh : ∀ F, f_X11_numberHere_18 F (zrs σ c S (nI p) f o) = some (0, zrs σ c S (nI p) (nI p) o) := fun F => by
      unfold f_X11_numberHere_18
      rw [e_wrong, zb_s, zg_i (by decide)]
    unfold f_X11_numberHere
    rw [e_here ht S f o hp, zb_s]
    by_cases z : zhc t n p < 48
    · rw [if_pos z, nh]
    · rw [if_neg z, e_here ht S f o hp, zb_s, if_neg (fun y => dg (hd.mp ⟨z, y⟩)), nh]
/-- one name alone at p -/
def zone (t : Nat → Nat) (n p k : Nat) (w : List Nat) : Int32 × Nat := if zlp t n w p = w.length then (nI k, p + w.length) else (-1, p + zlp t n w p)
theorem e_is {σ : zMem} {t : Nat → Nat} {n c j F k : Nat} {w : List Nat} (hF : 100 < F) (ht : ztR σ t n) (S : Nat → Nat → Int32) {p : Nat} (f o : Int32) (hp : p ≤ n) (hj : j < 28) (hk : k < 100000) (hw : zSbyt.getD j [] = w.map nI) (hb : ∀ x, x ∈ w → x < 128) : zRO σ c S n (zone t n p k w) (zb (f_X11_is F (zrs σ c S (nI p) f o) (nI k) j) fun r m => zg (zbo r) (some (r, m))) := by
  have tx := e_text (F := F) (c := c) hF ht S f (nI k) hp hj hw hb
  have ln := zlp_n t n w hp
  unfold zone
  by_cases q : zlp t n w p = w.length
  · rw [if_pos q] at tx ⊢
    refine ⟨by rw [← q]; exact ln, Or.inl ⟨k, f, hk, rfl, ?_⟩⟩
    unfold f_X11_is
    rw [zg_i (decide_eq_true hj), zrs_n, tx, zb_s, zg_i (by decide), zb_s, zg_i (by decide)]
  · rw [if_neg q] at tx ⊢
    refine ⟨ln, Or.inr ⟨rfl, nI (p + zlp t n w p), nI k, ?_⟩⟩
    unfold f_X11_is
    rw [zg_i (decide_eq_true hj), zrs_n, tx, zb_s, zg_i (by decide), zb_s, zg_i (by decide)]

