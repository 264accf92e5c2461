def bI (b : Bool) : Int32 := if b then 1 else 0
theorem zit_m {tl β : Type} {b : (zMem → tl → Option β) → zMem → tl → Option β} (P : Nat → zMem → tl → Prop) (res : Option β) (hs : ∀ m σ x, P m σ x → (∀ rec, b rec σ x = res) ∨ ∃ m' σ' x', m' < m ∧ P m' σ' x' ∧ ∀ rec, b rec σ x = rec σ' x') : ∀ F m σ x, P m σ x → m < F → zit b F σ x = res
  | 0, m, _, _, _, h => by omega
  | F + 1, m, σ, x, hP, h => by
    show b (zit b F) σ x = res
    rcases hs m σ x hP with h1 | ⟨m', σ', x', h2, h3, h4⟩
    · exact h1 _
    · rw [h4]
      exact zit_m P res hs F m' σ' x' h3 (by omega)
/-- the value of a field of a house with values H, as of a -/
def zfld (H : Nat → Int32) (a f : Int32) : Int32 := if f = 0 then H 2 else if f = 1 then H 3 else if f = 2 then H 1 else if f = 3 then H 0 else if f = 4 then a / 360 else zrem a 360
theorem zfld_c {H G : Nat → Int32} (h : ∀ j, j < 4 → H j = G j) (a f : Int32) : zfld H a f = zfld G a f := by
  unfold zfld
  rw [h 0 (by omega), h 1 (by omega), h 2 (by omega), h 3 (by omega)]
theorem e_X8_fieldOf {σ : zMem} {h : Nat} (hh : h < 10) (F : Nat) (a f : Int32) : f_X8_fieldOf F σ h a f = some (zfld (fun j => σ.1 3 h j) a f, σ) := by
  unfold f_X8_fieldOf
  rw [zg_i (by simpa using hh)]
  by_cases ho : f.toInt < 0 ∨ 4 < f.toInt
  · rw [if_pos ho, zg_i (by decide)]
    have n0 : ¬ f = 0 := fun q => by rw [q] at ho; revert ho; decide
    have n1 : ¬ f = 1 := fun q => by rw [q] at ho; revert ho; decide
    have n2 : ¬ f = 2 := fun q => by rw [q] at ho; revert ho; decide
    have n3 : ¬ f = 3 := fun q => by rw [q] at ho; revert ho; decide
    have n4 : ¬ f = 4 := fun q => by rw [q] at ho; revert ho; decide
    simp [zfld, n0, n1, n2, n3, n4]
  · rw [if_neg ho]
    obtain ⟨k, hk, rfl⟩ := zlit (m := 4) (by omega) ho
    rcases k with _ | _ | _ | _ | _ | k
    · rfl
    · rfl
    · rfl
    · rfl
    · rfl
    · omega
theorem e_X11_fieldOf {σ : zMem} {h : Nat} (hh : h < 10) (F : Nat) (a f : Int32) : f_X11_fieldOf F σ f (nI h) a = some (zfld (fun j => σ.1 62 h j) a f, σ) := by
  have i1 := inb_n hh (by omega)
  have i2 := nI_clamp (show h < 2 ^ 31 by omega)
  unfold f_X11_fieldOf
  by_cases ho : f.toInt < 0 ∨ 4 < f.toInt
  · rw [if_pos ho, zg_i (by decide)]
    have n0 : ¬ f = 0 := fun q => by rw [q] at ho; revert ho; decide
    have n1 : ¬ f = 1 := fun q => by rw [q] at ho; revert ho; decide
    have n2 : ¬ f = 2 := fun q => by rw [q] at ho; revert ho; decide
    have n3 : ¬ f = 3 := fun q => by rw [q] at ho; revert ho; decide
    have n4 : ¬ f = 4 := fun q => by rw [q] at ho; revert ho; decide
    simp [zfld, n0, n1, n2, n3, n4]
  · rw [if_neg ho, zg_i i1, zg_i i1, zg_i i1, zg_i i1, i2]
    obtain ⟨k, hk, rfl⟩ := zlit (m := 4) (by omega) ho
    rcases k with _ | _ | _ | _ | _ | k
    · rfl
    · rfl
    · rfl
    · rfl
    · rfl
    · omega
def zcmp (g : Nat) (v t : Int32) : Bool := if g = 0 then decide (v < t) else if g = 1 then decide (v = t) else decide (t < v)
theorem e_X8_isTrue {g : Nat} (hg : g < 3) (F : Nat) (σ : zMem) (v t : Int32) : f_X8_isTrue F σ v (nI g) t = some (bI (zcmp g v t), σ) := by
  unfold f_X8_isTrue
  rcases g with _ | _ | _ | g
  · by_cases h : t ≤ v
    · simp [zcmp, bI, nI_0, h, Int32.not_lt.mpr h]
    · simp [zcmp, bI, nI_0, h, Int32.not_le.mp h]
  · by_cases h : v = t <;> simp [zcmp, bI, h, show nI (0 + 1) = 1 by rfl]
  · by_cases h : v ≤ t
    · simp [zcmp, bI, h, Int32.not_lt.mpr h, show nI (0 + 1 + 1) = 2 by rfl]
    · simp [zcmp, bI, h, Int32.not_le.mp h, show nI (0 + 1 + 1) = 2 by rfl]
  · omega
/-- test i of word w -/
def ztst (σ : zMem) (w i : Nat) (H : Nat → Int32) (a : Int32) : Bool := (if σ.1 82 w (6 * i + 3) = 60 then decide (zfld H a (σ.1 82 w (6 * i + 1)) < σ.1 82 w (6 * i + 4)) else if σ.1 82 w (6 * i + 3) = 61 then decide (zfld H a (σ.1 82 w (6 * i + 1)) = σ.1 82 w (6 * i + 4)) else decide (σ.1 82 w (6 * i + 4) < zfld H a (σ.1 82 w (6 * i + 1)))) != decide (σ.1 82 w (6 * i) = 1)
/-- any and all ahead of test i -/
def zac (σ : zMem) (w : Nat) (H : Nat → Int32) (a : Int32) : Nat → Bool × Bool
  | 0 => (false, true)
  | i + 1 => (if σ.1 82 w (6 * i + 5) = 1 then (zac σ w H a i).1 || (zac σ w H a i).2 else (zac σ w H a i).1, (if σ.1 82 w (6 * i + 5) = 1 then true else (zac σ w H a i).2) && ztst σ w i H a)
def zhold (σ : zMem) (w : Nat) (H : Nat → Int32) (a : Int32) : Bool := if σ.1 80 w 2 = 0 then true else ((zac σ w H a (σ.1 80 w 3).toNatClampNeg).1 || (zac σ w H a (σ.1 80 w 3).toNatClampNeg).2) == decide (σ.1 80 w 2 = 1)
theorem ztst_c {σ : zMem} {H G : Nat → Int32} (h : ∀ j, j < 4 → H j = G j) (w i : Nat) (a : Int32) : ztst σ w i H a = ztst σ w i G a := by
  unfold ztst
  rw [zfld_c h]
theorem zac_c {σ : zMem} {H G : Nat → Int32} (h : ∀ j, j < 4 → H j = G j) (w : Nat) (a : Int32) : ∀ i, zac σ w H a i = zac σ w G a i
  | 0 => rfl
  | i + 1 => by
    unfold zac
    rw [zac_c h w a i, ztst_c h]
theorem zhold_c {σ : zMem} {H G : Nat → Int32} (h : ∀ j, j < 4 → H j = G j) (w : Nat) (a : Int32) : zhold σ w H a = zhold σ w G a := by
  unfold zhold
  rw [zac_c h]
theorem ix6 {i d : Nat} (hi : i < 4) (hd : d < 6) : inb (6 * nI i + nI d) 24 = true ∧ (6 * nI i + nI d).toNatClampNeg = 6 * i + d := by
  have : (6 : Int32) * nI i + nI d = nI (6 * i + d) := by
    rcases i with _ | _ | _ | _ | i
    all_goals first | omega | (rcases d with _ | _ | _ | _ | _ | _ | d <;> first | rfl | omega)
  rw [this]
  exact ⟨inb_n (by omega) (by omega), nI_clamp (by omega)⟩
theorem ix60 {i : Nat} (hi : i < 4) : inb (6 * nI i) 24 = true ∧ (6 * nI i).toNatClampNeg = 6 * i := by
  have := ix6 hi (d := 0) (by omega)
  simpa [nI_0] using this
theorem e_X11_one {σ : zMem} {w i h : Nat} (hw : w < 40) (hi : i < 4) (hh : h < 10) (F : Nat) (a : Int32) : f_X11_one F σ w (6 * nI i) (nI h) a = some (bI (ztst σ w i (fun j => σ.1 62 h j) a), σ) := by
  have d1 := ix6 hi (d := 1) (by omega)
  have d3 := ix6 hi (d := 3) (by omega)
  have d4 := ix6 hi (d := 4) (by omega)
  have d0 := ix60 hi
  have k85 : ∀ s0 : Bool, f_X11_one_85 F σ w (6 * nI i) (bI s0) = some (bI (s0 != decide (σ.1 82 w (6 * i) = 1)), σ) := by
    intro s0
    unfold f_X11_one_85 f_X11_one_101
    rw [zg_i (by simp; omega), zg_i d0.1, d0.2]
    by_cases q : σ.1 82 w (6 * i) = 1 <;> cases s0 <;> simp [q, bI]
  have k0 : f_X11_one_85 F σ w (6 * nI i) 0 = some (bI (false != decide (σ.1 82 w (6 * i) = 1)), σ) := k85 false
  have k1 : f_X11_one_85 F σ w (6 * nI i) 1 = some (bI (true != decide (σ.1 82 w (6 * i) = 1)), σ) := k85 true
  unfold f_X11_one ztst
  rw [show (6 * nI i + 1 : Int32) = 6 * nI i + nI 1 from rfl, show (6 * nI i + 3 : Int32) = 6 * nI i + nI 3 from rfl, show (6 * nI i + 4 : Int32) = 6 * nI i + nI 4 from rfl]
  rw [zg_i (by simp; omega), zg_i d1.1, d1.2, e_X11_fieldOf hh, zb_s, zg_i d3.1, d3.2, zg_i d4.1, d4.2, zg_i d4.1, zg_i d3.1, zg_i d4.1, k0, k1]
  by_cases q0 : σ.1 82 w (6 * i + 3) = 60
  · rw [if_pos q0, if_pos q0]
    by_cases q1 : σ.1 82 w (6 * i + 4) ≤ zfld (fun j => σ.1 62 h j) a (σ.1 82 w (6 * i + 1))
    · rw [if_pos q1, decide_eq_false (Int32.not_lt.mpr q1)]
    · rw [if_neg q1, decide_eq_true (Int32.not_le.mp q1)]
  · rw [if_neg q0, if_neg q0]
    by_cases q2 : σ.1 82 w (6 * i + 3) = 61
    · rw [if_pos q2, if_pos q2]
      by_cases q1 : zfld (fun j => σ.1 62 h j) a (σ.1 82 w (6 * i + 1)) = σ.1 82 w (6 * i + 4)
      · rw [if_pos q1, decide_eq_true q1]
      · rw [if_neg q1, decide_eq_false q1]
    · rw [if_neg q2, if_neg q2]
      by_cases q1 : zfld (fun j => σ.1 62 h j) a (σ.1 82 w (6 * i + 1)) ≤ σ.1 82 w (6 * i + 4)
      · rw [if_pos q1, decide_eq_false (Int32.not_lt.mpr q1)]
      · rw [if_neg q1, decide_eq_true (Int32.not_le.mp q1)]
theorem bI_or (a b : Bool) : bI a ||| bI b = bI (a || b) := by cases a <;> cases b <;> rfl
theorem bI_and (a b : Bool) : bI a &&& bI b = bI (a && b) := by cases a <;> cases b <;> rfl
theorem e_X11_hold {σ : zMem} {w h : Nat} (hw : w < 40) (hh : h < 10) {F : Nat} (hF : 100 < F) (ht : σ.1 80 w 2 = 0 ∨ ∃ t, t ≤ 4 ∧ σ.1 80 w 3 = nI t) (a : Int32) : f_X11_hold F σ (nI w) (nI h) a = some (bI (zhold σ w (fun j => σ.1 62 h j) a), σ) := by
  have i1 := inb_n (show w < 41 by omega) (by omega)
  have i2 := nI_clamp (show w < 2 ^ 31 by omega)
  unfold f_X11_hold zhold
  rw [zg_i i1, zg_i (by decide), i2]
  by_cases q0 : σ.1 80 w 2 = 0
  · rw [if_pos q0, if_pos q0]
    rfl
  rw [if_neg q0, if_neg q0]
  obtain ⟨t, ht, et⟩ := ht.resolve_left q0
  rw [et, nI_clamp (by omega)]
  refine zit_m (fun m s x => s = σ ∧ ∃ i, i ≤ t ∧ m = t - i ∧ x = (nI w, nI h, a, bI (zac σ w (fun j => σ.1 62 h j) a i).1, bI (zac σ w (fun j => σ.1 62 h j) a i).2, nI i)) _ ?_ F t σ _ ⟨rfl, 0, by omega, by omega, rfl⟩ (by omega)
  rintro m s x ⟨rfl, i, hi, rfl, rfl⟩
  by_cases c : i = t
  · subst c
    refine Or.inl fun rec => ?_
    unfold f_X11_hold_22 f_X11_hold_113
    simp only
    rw [zg_i i1, zg_i (by decide), i2, et, if_pos (Int32.le_refl _), zg_i i1, zg_i (by decide), bI_or]
    cases (zac s w (fun j => s.1 62 h j) a i).1 || (zac s w (fun j => s.1 62 h j) a i).2 <;> by_cases q1 : s.1 80 w 2 = 1 <;> simp [q1, bI]
  · refine Or.inr ⟨t - (i + 1), s, _, by omega, ⟨rfl, i + 1, by omega, rfl, rfl⟩, fun rec => ?_⟩
    have d5 := ix6 (show i < 4 by omega) (d := 5) (by omega)
    have kk : ∀ p q : Bool, f_X11_hold_63 F rec s (nI w) (nI h) a (bI p) (bI q) (nI i) = rec s (nI w, nI h, a, bI p, bI (q && ztst s w i (fun j => s.1 62 h j) a), nI (i + 1)) := by
      intro p q
      unfold f_X11_hold_63
      rw [zg_i i1, i2, e_X11_one hw (by omega) hh, zb_s, bI_and, nI_1]
    unfold f_X11_hold_22
    simp only
    rw [zg_i i1, zg_i (by decide), i2, et, if_neg (nle_s (by omega) (by omega)), zg_i i1, show (6 * nI i + 5 : Int32) = 6 * nI i + nI 5 from rfl, zg_i d5.1, d5.2, bI_or, kk, show (1 : Int32) = bI true from rfl, kk]
    simp only [zac]
    rw [show bI true = (1 : Int32) from rfl]
    by_cases q1 : s.1 82 w (6 * i + 5) = 1
    · simp only [if_pos q1]
    · simp only [if_neg q1]
/-- which p below n is the last that holds -/
def zlast (p : Nat → Bool) : Nat → Int32
  | 0 => -1
  | n + 1 => if p n then nI n else zlast p n
theorem zlast_o (p : Nat → Bool) : ∀ n, zlast p n = -1 ∨ ∃ i, i < n ∧ zlast p n = nI i
  | 0 => Or.inl rfl
  | n + 1 => by
    unfold zlast
    by_cases h : p n
    · rw [if_pos h]
      exact Or.inr ⟨n, by omega, rfl⟩
    · rw [if_neg h]
      rcases zlast_o p n with h | ⟨i, h1, h2⟩
      · exact Or.inl h
      · exact Or.inr ⟨i, by omega, h2⟩
theorem zlast_c {p q : Nat → Bool} : ∀ {n : Nat}, (∀ i, i < n → p i = q i) → zlast p n = zlast q n
  | 0, _ => rfl
  | n + 1, h => by
    unfold zlast
    rw [h n (by omega), zlast_c (fun i hi => h i (by omega))]
def zst (σ : zMem) (w : Nat) (key a k : Int32) : Bool := decide (σ.1 80 w 4 ≤ a) && decide (σ.1 80 w 4 ≤ k) && (decide (σ.1 80 w 5 < 0) || decide (k < σ.1 80 w 5)) && decide (σ.1 80 w 0 = key)
def zwhy (σ : zMem) (H : Nat → Int32) (n : Nat) (key a k : Int32) : Int32 := zlast (fun w => zst σ w key a k && zhold σ w H a) n
theorem zwhy_c {σ : zMem} {H G : Nat → Int32} (h : ∀ j, j < 4 → H j = G j) (n : Nat) (key a k : Int32) : zwhy σ H n key a k = zwhy σ G n key a k := by
  unfold zwhy
  exact zlast_c fun i _ => by rw [zhold_c h]
theorem e_X11_whyOf {σ : zMem} (hw : zRw σ) {h n : Nat} (hh : h < 10) {F : Nat} (hF : 100 < F) (hn : n ≤ 40) (e : σ.1 60 0 20 = nI n) (key a k : Int32) : f_X11_whyOf F σ (nI h) key a k = some (zwhy σ (fun j => σ.1 62 h j) n key a k, σ) := by
  have e11 : σ.1 11 0 1 = nI n := hw.2.1.symm.trans e
  unfold f_X11_whyOf
  refine zit_m (fun m s x => s = σ ∧ ∃ i, i ≤ n ∧ m = n - i ∧ x = (nI h, key, a, k, zwhy σ (fun j => σ.1 62 h j) i key a k, nI i)) _ ?_ F n σ _ ⟨rfl, 0, by omega, by omega, rfl⟩ (by omega)
  rintro m s x ⟨rfl, i, hi, rfl, rfl⟩
  by_cases c : i = n
  · subst c
    refine Or.inl fun rec => ?_
    unfold f_X11_whyOf_6
    simp only
    rw [e, if_pos (Int32.le_refl _)]
  · refine Or.inr ⟨n - (i + 1), s, _, by omega, ⟨rfl, i + 1, by omega, rfl, rfl⟩, fun rec => ?_⟩
    have i1 := inb_n (show i < 41 by omega) (by omega)
    have i2 := nI_clamp (show i < 2 ^ 31 by omega)
    have w0 := hw.2.2.2.2 i (by omega) (by rw [e11]; exact (nI_ltI (by omega) (by omega)).mpr (by omega))
    obtain ⟨w1, w2, w3, w4, t, w5, w6, w7, w8⟩ := w0
    have ht : s.1 80 i 2 = 0 ∨ ∃ t, t ≤ 4 ∧ s.1 80 i 3 = nI t := by
      rcases w7 with ⟨_, h2⟩ | ⟨_, h2, _⟩
      · exact Or.inl h2
      · exact Or.inr ⟨t, w5, h2⟩
    have k0 : f_X11_whyOf_73 F rec s (nI h) key a k (zwhy s (fun j => s.1 62 h j) i key a k) (nI i) 0 = rec s (nI h, key, a, k, zwhy s (fun j => s.1 62 h j) i key a k, nI (i + 1)) := by
      unfold f_X11_whyOf_73
      rw [if_pos rfl, nI_1]
    have k1 : f_X11_whyOf_73 F rec s (nI h) key a k (zwhy s (fun j => s.1 62 h j) i key a k) (nI i) 1 = rec s (nI h, key, a, k, if decide (s.1 80 i 0 = key) && zhold s i (fun j => s.1 62 h j) a then nI i else zwhy s (fun j => s.1 62 h j) i key a k, nI (i + 1)) := by
      unfold f_X11_whyOf_73
      rw [if_neg (by decide), zg_i i1, zg_i (by decide), i2, e_X11_hold (by omega) hh hF ht, zb_s, nI_1]
      by_cases q : s.1 80 i 0 = key
      · rw [if_pos q, decide_eq_true q]
        cases zhold s i (fun j => s.1 62 h j) a <;> simp [bI]
      · rw [if_neg q, decide_eq_false q]
        simp
    unfold f_X11_whyOf_6
    simp only
    rw [e, if_neg (nle_s (by omega) (by omega)), zg_i i1, zg_i (by decide), i2, zg_i i1, zg_i (by decide), zg_i i1, zg_i (by decide), zg_i i1, zg_i (by decide), k0, k1]
    have hz : zwhy s (fun j => s.1 62 h j) (i + 1) key a k = if zst s i key a k && zhold s i (fun j => s.1 62 h j) a then nI i else zwhy s (fun j => s.1 62 h j) i key a k := rfl
    rw [hz]
    by_cases q1 : a < s.1 80 i 4
    · rw [if_pos q1, show zst s i key a k = false by simp [zst, Int32.not_le.mpr q1]]
      simp
    rw [if_neg q1]
    by_cases q2 : k < s.1 80 i 4
    · rw [if_pos q2, show zst s i key a k = false by simp [zst, Int32.not_le.mpr q2]]
      simp
    rw [if_neg q2]
    by_cases q3 : s.1 80 i 5 < 0
    · rw [if_pos q3, show zst s i key a k = decide (s.1 80 i 0 = key) by simp [zst, Int32.not_lt.mp q1, Int32.not_lt.mp q2, q3]]
    rw [if_neg q3]
    by_cases q4 : s.1 80 i 5 ≤ k
    · rw [if_pos q4, show zst s i key a k = false by simp [zst, q3, Int32.not_lt.mpr q4]]
      simp
    · rw [if_neg q4, show zst s i key a k = decide (s.1 80 i 0 = key) by simp [zst, Int32.not_lt.mp q1, Int32.not_lt.mp q2, Int32.not_le.mp q4]]
