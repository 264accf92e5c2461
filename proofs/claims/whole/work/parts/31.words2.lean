theorem e_X8_holdsFor {σ : zMem} (hW : zRw σ) {w h n : Nat} (e11 : σ.1 11 0 1 = nI n) (hn : n ≤ 40) (hw : w < n) (hh : h < 10) {F : Nat} (hF : 100 < F) (a : Int32) : f_X8_holdsFor F σ w h a = some (bI (zhold σ w (fun j => σ.1 3 h j) a), σ) := by
  obtain ⟨w1, w2, w3, w4, t, w5, w6, w7, w8⟩ := hW.2.2.2.2 w (by omega) (by rw [e11]; exact (nI_ltI (by omega) (by omega)).mpr (by omega))
  have gw : (decide (w < 40)) = true := by simp; omega
  have gh : (decide (h < 10)) = true := by simp; omega
  unfold f_X8_holdsFor
  rw [zg_i gw, zg_i gh, w6]
  rcases w7 with ⟨h1, h2⟩ | ⟨h0, h2, h3⟩
  · subst h1
    rw [if_pos nI_0]
    simp [zhold, h2, bI]
  have t0 : ¬ nI t = 0 := nI_ne0 (by omega) (by omega)
  have k0 : ¬ σ.1 80 w 2 = 0 := by
    rcases h3 with ⟨_, h4⟩ | ⟨_, h4⟩ <;> rw [h4] <;> decide
  rw [if_neg t0]
  unfold zhold
  rw [if_neg k0, h2, nI_clamp (by omega)]
  have kend : ∀ p q : Bool, f_X8_holdsFor_117 F σ w (bI p) (bI q) = some (bI ((p || q) == decide (σ.1 80 w 2 = 1)), σ) := by
    intro p q
    unfold f_X8_holdsFor_117 f_X8_holdsFor_131
    rw [zg_i gw, zg_i gw, zg_i gw]
    rcases h3 with ⟨h4, h5⟩ | ⟨h4, h5⟩
    · rw [h4, h5]
      cases p <;> cases q <;> rfl
    · rw [h4, h5]
      cases p <;> cases q <;> rfl
  refine zit_m (fun m s x => s = σ ∧ ∃ i, i ≤ t ∧ m = t - i ∧ x = (w, h, a, bI (zac σ w (fun j => σ.1 3 h j) a i).1, bI (zac σ w (fun j => σ.1 3 h j) a i).2, nI i)) _ ?_ F t σ _ ⟨rfl, 0, by omega, by omega, rfl⟩ (by omega)
  rintro m s x ⟨rfl, i, hi, rfl, rfl⟩
  by_cases c : i = t
  · subst c
    refine Or.inl fun rec => ?_
    unfold f_X8_holdsFor_17
    simp only
    rw [zg_i gw, zg_i gh, w6, if_pos (Int32.le_refl _), kend]
  · refine Or.inr ⟨t - (i + 1), s, _, by omega, ⟨rfl, i + 1, by omega, rfl, rfl⟩, fun rec => ?_⟩
    obtain ⟨u1, u2, u3, ⟨g, hg, u4, u5⟩, u6, u7, u8⟩ := w8 i (by omega)
    have i1 := inb_n (show i < 4 by omega) (by omega)
    have i2 := nI_clamp (show i < 2 ^ 31 by omega)
    have ht : ztst s w i (fun j => s.1 3 h j) a = (zcmp g (zfld (fun j => s.1 3 h j) a (s.1 14 w i)) (s.1 16 w i) != decide (s.1 17 w i = 1)) := by
      unfold ztst zcmp
      rw [u5, u3, u6, ← u1]
      rcases g with _ | _ | _ | g
      · rfl
      · rfl
      · rfl
      · omega
    have kk : ∀ p q : Bool, f_X8_holdsFor_60 F rec s w h a (bI p) (bI q) (nI i) = rec s (w, h, a, bI p, bI (q && ztst s w i (fun j => s.1 3 h j) a), nI (i + 1)) := by
      intro p q
      unfold f_X8_holdsFor_60
      rw [zg_i gw, zg_i gh, nI_1]
      cases q
      · rw [if_pos (show bI false = 0 from rfl)]
        rfl
      · rw [if_neg (by decide), zg_i i1, zg_i i1, i2, e_X8_fieldOf hh, zb_s, zg_i i1, zg_i i1, u4, e_X8_isTrue hg, zb_s, ht]
        rcases u2 with u2 | u2 <;> rw [u2] <;> cases zcmp g (zfld (fun j => s.1 3 h j) a (s.1 14 w i)) (s.1 16 w i) <;> rfl
    unfold f_X8_holdsFor_17
    simp only
    rw [zg_i gw, zg_i gh, w6, if_neg (nle_s (by omega) (by omega)), if_neg (by have := nle_s (n := 4) (i := i) (by omega) (by omega); exact this), zg_i i1, i2, u7]
    simp only [zac]
    rcases u8 with u8 | u8
    · rw [u7] at u8
      rw [u8, if_pos rfl, kk, if_neg (by decide), if_neg (by decide)]
    · rw [u7] at u8
      rw [u8, if_neg (by decide), if_pos rfl, if_pos rfl]
      have k1 := kk true true
      have k2 := kk false true
      rw [show bI true = (1 : Int32) from rfl] at k1 k2
      rw [show bI false = (0 : Int32) from rfl] at k2
      rw [k1, k2]
      cases (zac s w (fun j => s.1 3 h j) a i).1 <;> cases (zac s w (fun j => s.1 3 h j) a i).2 <;> rfl
theorem e_X8_stands {σ : zMem} (hW : zRw σ) {w n : Nat} (e11 : σ.1 11 0 1 = nI n) (hn : n ≤ 40) (hw : w < n) (F : Nat) (key a k : Int32) : f_X8_stands F σ w key a k = some (bI (zst σ w key a k), σ) := by
  obtain ⟨w1, w2, w3, w4, -⟩ := hW.2.2.2.2 w (by omega) (by rw [e11]; exact (nI_ltI (by omega) (by omega)).mpr (by omega))
  have gw : (decide (w < 40)) = true := by simp; omega
  unfold f_X8_stands zst
  rw [zg_i gw, w1, w3]
  by_cases q0 : σ.1 80 w 0 = key
  · rw [if_pos q0]
    by_cases q1 : a < σ.1 80 w 4
    · simp [q1, Int32.not_le.mpr q1, bI]
    rw [if_neg q1]
    by_cases q2 : k < σ.1 80 w 4
    · simp [q2, Int32.not_le.mpr q2, bI]
    rw [if_neg q2]
    rcases w4 with ⟨h1, h2⟩ | ⟨h1, h2, h3⟩
    · rw [h1, h2, if_pos rfl]
      simp [q0, Int32.not_lt.mp q1, Int32.not_lt.mp q2, bI]
    · rw [h1, h2, if_neg (by decide)]
      have h4 : ¬ σ.1 13 w 3 < 0 := Int32.not_lt.mpr h3
      by_cases q3 : σ.1 13 w 3 ≤ k
      · simp [q3, h4, Int32.not_lt.mpr q3, bI]
      · simp [q3, q0, Int32.not_lt.mp q1, Int32.not_lt.mp q2, Int32.not_le.mp q3, bI]
  · simp [q0, bI]
theorem e_X9_latest {σ : zMem} (hW : zRw σ) {h n : Nat} (e11 : σ.1 11 0 1 = nI n) (hn : n ≤ 40) (hh : h < 10) {F : Nat} (hF : 100 < F) (key a k : Int32) : f_X9_latest F σ h key a k = some (zwhy σ (fun j => σ.1 3 h j) n key a k, σ) := by
  have gh : (decide (h < 10)) = true := by simp; omega
  unfold f_X9_latest
  rw [zg_i gh, e11]
  refine zit_m (fun m s x => s = σ ∧ ∃ i, i ≤ n ∧ i = m ∧ x = (h, key, a, k, nI i - 1) ∧ zwhy σ (fun j => σ.1 3 h j) i key a k = zwhy σ (fun j => σ.1 3 h j) n key a k) _ ?_ F n σ _ ⟨rfl, n, by omega, rfl, rfl, rfl⟩ (by omega)
  rintro m s x ⟨rfl, i, hi, rfl, rfl, hz⟩
  rw [← hz]
  rcases i with _ | i
  · refine Or.inl fun rec => ?_
    unfold f_X9_latest_8
    simp only
    rw [zg_i gh, if_pos (by decide)]
    rfl
  · have i1 := inb_n (show i < 40 by omega) (by omega)
    have i2 := nI_clamp (show i < 2 ^ 31 by omega)
    have hz2 : zwhy s (fun j => s.1 3 h j) (i + 1) key a k = if zst s i key a k && zhold s i (fun j => s.1 3 h j) a then nI i else zwhy s (fun j => s.1 3 h j) i key a k := rfl
    have kk : ∀ rec, f_X9_latest_8 F rec s (h, key, a, k, nI (i + 1) - 1) = if zst s i key a k && zhold s i (fun j => s.1 3 h j) a then some (nI i, s) else rec s (h, key, a, k, nI i - 1) := by
      intro rec
      unfold f_X9_latest_8
      simp only
      rw [nI_pred, zg_i gh, if_neg (nI_pos (by omega)), zg_i i1, i2, e_X8_stands hW e11 hn (by omega), zb_s, show nI i + -1 = nI i - 1 by rw [Int32.sub_eq_add_neg]]
      cases q : zst s i key a k
      · rw [if_pos (show bI false = 0 from rfl)]
        simp
      · rw [if_neg (by decide), zg_i i1, e_X8_holdsFor hW e11 hn (by omega) hh hF, zb_s]
        cases zhold s i (fun j => s.1 3 h j) a <;> simp [bI]
    rw [hz2]
    by_cases q : (zst s i key a k && zhold s i (fun j => s.1 3 h j) a) = true
    · refine Or.inl fun rec => ?_
      rw [kk, if_pos q, if_pos q]
    · refine Or.inr ⟨i, s, (h, key, a, k, nI i - 1), by omega, ⟨rfl, i, by omega, rfl, rfl, ?_⟩, fun rec => ?_⟩
      · rw [if_neg q]
      · rw [kk, if_neg q]
/-- the value of a key for a house with values H -/
def zval (σ : zMem) (H : Nat → Int32) (n : Nat) (key a k : Int32) : Int32 := if 0 ≤ zwhy σ H n key a k then σ.1 80 (zwhy σ H n key a k).toNatClampNeg 1 else ([30, 4, 150, 270, 2, 5, 3, 1] : List Int32).getD key.toNatClampNeg 0
theorem zval_c {σ : zMem} {H G : Nat → Int32} (h : ∀ j, j < 4 → H j = G j) (n : Nat) (key a k : Int32) : zval σ H n key a k = zval σ G n key a k := by
  unfold zval
  rw [zwhy_c h]
theorem zm1_nle : ¬ (0 : Int32) ≤ -1 := by decide
theorem e_X9_worth {σ : zMem} (hW : zRw σ) {n : Nat} (e11 : σ.1 11 0 1 = nI n) (hn : n ≤ 40) (F : Nat) {key : Int32} (hk : inb key 8 = true) (H : Nat → Int32) (a k : Int32) : f_X9_worth F σ (zwhy σ H n key a k) key = some (zval σ H n key a k, σ) := by
  unfold f_X9_worth zval
  rcases zlast_o (fun w => zst σ w key a k && zhold σ w H a) n with h | ⟨i, hi, h⟩
  · rw [show zwhy σ H n key a k = -1 from h, if_neg zm1_nle, if_neg zm1_nle, zg_i hk]
  · rw [show zwhy σ H n key a k = nI i from h, if_pos (nI_pos' (by omega)), if_pos (nI_pos' (by omega)), zg_i (inb_n (by omega) (by omega)), nI_clamp (by omega), (hW.2.2.2.2 i (by omega) (by rw [e11]; exact (nI_ltI (by omega) (by omega)).mpr (by omega))).2.1]
theorem e_X11_valueOf {σ : zMem} (hW : zRw σ) {h n : Nat} (hh : h < 10) {F : Nat} (hF : 100 < F) (hn : n ≤ 40) (e : σ.1 60 0 20 = nI n) {key : Int32} (hk : inb key 8 = true) (a k : Int32) : f_X11_valueOf F σ (nI h) key a k = some (zval σ (fun j => σ.1 62 h j) n key a k, σ) := by
  unfold f_X11_valueOf zval
  rw [e_X11_whyOf hW hh hF hn e, zb_s]
  rcases zlast_o (fun w => zst σ w key a k && zhold σ w (fun j => σ.1 62 h j) a) n with h | ⟨i, hi, h⟩
  · rw [show zwhy σ (fun j => σ.1 62 _ j) n key a k = -1 from h, if_neg zm1_nle, if_neg zm1_nle, zg_i hk]
  · rw [show zwhy σ (fun j => σ.1 62 _ j) n key a k = nI i from h, if_pos (nI_pos' (by omega)), if_pos (nI_pos' (by omega)), zg_i (inb_n (by omega) (by omega)), zg_i (by decide)]
theorem e_X11_now {σ : zMem} (hW : zRw σ) {h n : Nat} (hh : h < 10) {F : Nat} (hF : 100 < F) (hn : n ≤ 40) (e : σ.1 60 0 20 = nI n) {key : Int32} (hk : inb key 8 = true) : f_X11_now F σ (nI h) key = some (zval σ (fun j => σ.1 62 h j) n key (σ.1 60 0 0) (σ.1 60 0 0), σ) := by
  unfold f_X11_now
  rw [e_X11_valueOf hW hh hF hn e hk, zb_s]
theorem e_X10_worthNow {σ : zMem} (hW : zRw σ) {h n : Nat} (hh : h < 10) {F : Nat} (hF : 100 < F) (hn : n ≤ 40) (e11 : σ.1 11 0 1 = nI n) {key : Int32} (hk : inb key 8 = true) : f_X10_worthNow F σ h key = some (zval σ (fun j => σ.1 3 h j) n key (σ.1 0 0 11) (σ.1 0 0 11), σ) := by
  unfold f_X10_worthNow
  rw [zg_i (by simp; omega), e_X9_latest hW e11 hn hh hF, zb_s, e_X9_worth hW e11 hn F hk, zb_s]
theorem zval_b {σ : zMem} (hW : zRw σ) {n : Nat} (e11 : σ.1 11 0 1 = nI n) (hn : n ≤ 40) (y3 : ∀ w, w < 40 → nI w < σ.1 11 0 1 → zib (σ.1 13 w 1) 0 99999) {key : Int32} (hk : inb key 8 = true) (H : Nat → Int32) (a k : Int32) : zib (zval σ H n key a k) 0 99999 := by
  unfold zval
  rcases zlast_o (fun w => zst σ w key a k && zhold σ w H a) n with h | ⟨i, hi, h⟩
  · rw [show zwhy σ H n key a k = -1 from h, if_neg zm1_nle]
    have : key.toNatClampNeg < 8 := by
      have := inb_in hk
      unfold vp_in at this
      omega
    generalize key.toNatClampNeg = j at this
    rcases j with _ | _ | _ | _ | _ | _ | _ | _ | j
    · exact ⟨by decide, by decide⟩
    · exact ⟨by decide, by decide⟩
    · exact ⟨by decide, by decide⟩
    · exact ⟨by decide, by decide⟩
    · exact ⟨by decide, by decide⟩
    · exact ⟨by decide, by decide⟩
    · exact ⟨by decide, by decide⟩
    · exact ⟨by decide, by decide⟩
    · omega
  · have l : nI i < σ.1 11 0 1 := by rw [e11]; exact (nI_ltI (by omega) (by omega)).mpr (by omega)
    rw [show zwhy σ H n key a k = nI i from h, if_pos (nI_pos' (by omega)), nI_clamp (by omega), ← (hW.2.2.2.2 i (by omega) l).2.1]
    exact y3 i (by omega) l
theorem nle_l (x : Int32) {i n : Nat} (e : x = nI n) (h : i < n) (hn : n < 100000) : ¬ x ≤ nI i := by
  rw [e]
  exact nle_s h hn
theorem a_ask {σ : zMem} (hR : zRel σ) (F : Nat) (x y a k : Int32) : (∃ h j, h < 10 ∧ j < 8 ∧ x = nI h ∧ y = nI j ∧ f_X10_canAsk F σ x y a k = some (1, σ) ∧ f_X11_isAsked F σ x y a k = some (1, σ)) ∨ (f_X10_canAsk F σ x y a k = some (0, σ) ∧ f_X11_isAsked F σ x y a k = some (0, σ)) := by
  obtain ⟨n, hn, e1, e2⟩ := zRh_n hR.1
  rcases zix (n := n) (by omega) x with ⟨h, hh, rfl, b1, b2, b3, b4⟩ | ⟨_, b⟩
  · rcases zix (n := 8) (by omega) y with ⟨j, hj, rfl, c1, c2, c3, c4⟩ | ⟨_, c⟩
    · have c2' : ¬ (8 : Int32) ≤ nI j := c2
      have c3' : ¬ (7 : Int32) < nI j := c3
      by_cases a0 : a < 0
      · refine Or.inr ⟨?_, ?_⟩
        · unfold f_X10_canAsk
          rw [e_X10_isHouse e1 F b1 b2]
          simp [zb, c1, c2', a0]
        · unfold f_X11_isAsked
          rw [e_X11_isHouse e2 F b1 b3]
          simp [zb, e_X11_in, c1, c3', a0]
      by_cases k0 : k < 0
      · refine Or.inr ⟨?_, ?_⟩
        · unfold f_X10_canAsk
          rw [e_X10_isHouse e1 F b1 b2]
          simp [zb, c1, c2', a0, k0]
        · unfold f_X11_isAsked
          rw [e_X11_isHouse e2 F b1 b3]
          simp [zb, e_X11_in, c1, c3', a0, k0]
      refine Or.inl ⟨h, j, by omega, hj, rfl, rfl, ?_, ?_⟩
      · unfold f_X10_canAsk
        rw [e_X10_isHouse e1 F b1 b2]
        simp [zb, c1, c2', a0, k0]
      · unfold f_X11_isAsked
        rw [e_X11_isHouse e2 F b1 b3]
        simp [zb, e_X11_in, c1, c3', a0, k0]
    · rcases c with c | ⟨c0, c1, c2, c3⟩
      · refine Or.inr ⟨?_, ?_⟩
        · unfold f_X10_canAsk
          rw [e_X10_isHouse e1 F b1 b2]
          simp [zb, c]
        · unfold f_X11_isAsked
          rw [e_X11_isHouse e2 F b1 b3]
          simp [zb, e_X11_in, c]
      · have c1' : (8 : Int32) ≤ y := c1
        have c2' : (7 : Int32) < y := c2
        refine Or.inr ⟨?_, ?_⟩
        · unfold f_X10_canAsk
          rw [e_X10_isHouse e1 F b1 b2]
          simp [zb, c0, c1']
        · unfold f_X11_isAsked
          rw [e_X11_isHouse e2 F b1 b3]
          simp [zb, e_X11_in, c0, c2']
  · refine Or.inr ⟨?_, ?_⟩
    · unfold f_X10_canAsk
      rw [n_X10_isHouse e1 F b]
      simp [zb]
    · unfold f_X11_isAsked
      rw [n_X11_isHouse e2 F b]
      simp [zb]
theorem zRw_n {σ : zMem} (hW : zRw σ) : ∃ n, n ≤ 40 ∧ σ.1 11 0 1 = nI n ∧ σ.1 60 0 20 = nI n := by
  obtain ⟨⟨n, h1, h2, -⟩, h3, -⟩ := hW
  exact ⟨n, h1, h2, h3.trans h2⟩
theorem a_why {σ : zMem} (hR : zRel σ) {F : Nat} (hF : 100 < F) (x y a k : Int32) : zOK (fun σ => f_X10_why F σ x y a k) (fun σ => f_X11_why F σ x y a k) σ := by
  obtain ⟨n, hn, e1, e2⟩ := zRw_n hR.2.2.1
  rcases a_ask hR F x y a k with ⟨h, j, hh, hj, rfl, rfl, q1, q2⟩ | ⟨q1, q2⟩
  · have i1 := inb_n (show h < 10 by omega) (by omega)
    have i2 := nI_clamp (show h < 2 ^ 31 by omega)
    refine zOK_same hR (zwhy σ (fun j => σ.1 62 h j) n (nI j) a k) ?_ ?_
    · simp only [f_X10_why]
      rw [q1, zb_s, if_neg (by decide), zg_i i1, i2, e_X9_latest hR.2.2.1 e1 hn hh hF, zb_s, zwhy_c (fun j hj => hR.1.2.2.1 h j hh hj)]
    · simp only [f_X11_why]
      rw [q2, zb_s, if_neg (by decide), e_X11_whyOf hR.2.2.1 hh hF hn e2, zb_s]
  · exact zOK_same hR (-5) (by simp only [f_X10_why]; rw [q1, zb_s, if_pos rfl]) (by simp only [f_X11_why]; rw [q2, zb_s, if_pos rfl])
theorem a_value {σ : zMem} (hR : zRel σ) {F : Nat} (hF : 100 < F) (x y a k : Int32) : zOK (fun σ => f_X10_value F σ x y a k) (fun σ => f_X11_value F σ x y a k) σ := by
  obtain ⟨n, hn, e1, e2⟩ := zRw_n hR.2.2.1
  rcases a_ask hR F x y a k with ⟨h, j, hh, hj, rfl, rfl, q1, q2⟩ | ⟨q1, q2⟩
  · have i1 := inb_n (show h < 10 by omega) (by omega)
    have i2 := nI_clamp (show h < 2 ^ 31 by omega)
    refine zOK_same hR (zval σ (fun j => σ.1 62 h j) n (nI j) a k) ?_ ?_
    · simp only [f_X10_value]
      rw [q1, zb_s, if_neg (by decide), zg_i i1, i2, e_X9_latest hR.2.2.1 e1 hn hh hF, zb_s, e_X9_worth hR.2.2.1 e1 hn F (inb_n hj (by omega)), zb_s, zval_c (fun j hj => hR.1.2.2.1 h j hh hj)]
    · simp only [f_X11_value]
      rw [q2, zb_s, if_neg (by decide), e_X11_valueOf hR.2.2.1 hh hF hn e2 (inb_n hj (by omega)), zb_s]
  · exact zOK_same hR (-5) (by simp only [f_X10_value]; rw [q1, zb_s, if_pos rfl]) (by simp only [f_X11_value]; rw [q2, zb_s, if_pos rfl])
