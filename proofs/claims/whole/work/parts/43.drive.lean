theorem y_X11_isAlp (τ : zMem) (F : Nat) (σ : zMem) (a1 : Int32)  : f_X11_isAlp F (zmx τ σ) a1 = zY τ (f_X11_isAlp F σ a1) := by
  simp only [f_X11_isAlp, Nat.reduceLeDiff, zml_y, zmx_y, zwi_y, zwl_y, zY_zb, zY_fun, zY_ite, zY_iten, zY_zg, zY_some, y_X11_in τ]
theorem y_X11_commonOf (τ : zMem) (F : Nat) (σ : zMem) (a0 : Int32)  : f_X11_commonOf F (zmx τ σ) a0 = zY τ (f_X11_commonOf F σ a0) := by
  simp only [f_X11_commonOf, Nat.reduceLeDiff, zml_y, zmx_y, zwi_y, zwl_y, zY_zb, zY_fun, zY_ite, zY_iten, zY_zg, zY_some]
theorem y_X11_lent (τ : zMem) (F : Nat) (σ : zMem) (a1 : Int32)  : f_X11_lent F (zmx τ σ) a1 = zY τ (f_X11_lent F σ a1) := by
  simp only [f_X11_lent, Nat.reduceLeDiff, zml_y, zmx_y, zwi_y, zwl_y, zY_zb, zY_fun, zY_ite, zY_iten, zY_zg, zY_some]
theorem y_X11_holder (τ : zMem) (F : Nat) (σ : zMem) (a1 : Int32)  : f_X11_holder F (zmx τ σ) a1 = zY τ (f_X11_holder F σ a1) := by
  simp only [f_X11_holder, Nat.reduceLeDiff, zml_y, zmx_y, zwi_y, zwl_y, zY_zb, zY_fun, zY_ite, zY_iten, zY_zg, zY_some, y_X11_lent τ]
theorem y_X11_partsOf_44 (τ : zMem) (F : Nat) (rec5 rec5q : zMem → Int32 × Int32 × Int32 × Int32 → Option (Int32 × zMem)) (σ : zMem) (l1 : Int32) (l2 : Int32) (l4 : Int32) (s0 : Int32) (hrec5 : ∀ s y, rec5 (zmx τ s) y = zY τ (rec5q s y)) : f_X11_partsOf_44 F rec5 (zmx τ σ) l1 l2 l4 s0 = zY τ (f_X11_partsOf_44 F rec5q σ l1 l2 l4 s0) := by
  simp only [f_X11_partsOf_44, Nat.reduceLeDiff, zml_y, zmx_y, zwi_y, zwl_y, zY_zb, zY_fun, zY_ite, zY_iten, zY_zg, zY_some, hrec5]
theorem y_X11_partsOf_5 (τ : zMem) (F : Nat) (rec5 rec5q : zMem → Int32 × Int32 × Int32 × Int32 → Option (Int32 × zMem)) (σ : zMem) (x : Int32 × Int32 × Int32 × Int32) (hrec5 : ∀ s y, rec5 (zmx τ s) y = zY τ (rec5q s y)) : f_X11_partsOf_5 F rec5 (zmx τ σ) x = zY τ (f_X11_partsOf_5 F rec5q σ x) := by
  have kX11_partsOf_44 : ∀ s l1 l2 l4 s0, f_X11_partsOf_44 F rec5 (zmx τ s) l1 l2 l4 s0 = zY τ (f_X11_partsOf_44 F rec5q s l1 l2 l4 s0) := fun s l1 l2 l4 s0 => y_X11_partsOf_44 τ F rec5 rec5q s l1 l2 l4 s0 hrec5
  simp only [f_X11_partsOf_5, Nat.reduceLeDiff, zml_y, zmx_y, zwi_y, zwl_y, zY_zb, zY_fun, zY_ite, zY_iten, zY_zg, zY_some, y_X11_commonOf τ, y_X11_holder τ, kX11_partsOf_44, hrec5]
theorem y_X11_partsOf (τ : zMem) (F : Nat) (σ : zMem) (a1 : Int32) (a2 : Int32)  : f_X11_partsOf F (zmx τ σ) a1 a2 = zY τ (f_X11_partsOf F σ a1 a2) := by
  have kX11_partsOf_5 : ∀ s y, zit (f_X11_partsOf_5 F) F (zmx τ s) y = zY τ (zit (f_X11_partsOf_5 F) F s y) := y_it τ (fun r r2 hr s y => y_X11_partsOf_5 τ F r r2 s y hr) F
  simp only [f_X11_partsOf, Nat.reduceLeDiff, zml_y, zmx_y, zwi_y, zwl_y, zY_zb, zY_fun, zY_ite, zY_iten, zY_zg, zY_some, kX11_partsOf_5]
theorem y_X11_whyNot (τ : zMem) (F : Nat) (σ : zMem) (a1 : Int32) (a2 : Int32)  : f_X11_whyNot F (zmx τ σ) a1 a2 = zY τ (f_X11_whyNot F σ a1 a2) := by
  simp only [f_X11_whyNot, Nat.reduceLeDiff, zml_y, zmx_y, zwi_y, zwl_y, zY_zb, zY_fun, zY_ite, zY_iten, zY_zg, zY_some, y_X11_partsOf τ, y_X11_now τ, y_X11_upOf τ]
theorem zwi_r {σ : zMem} {k i j a b c : Nat} {v : Int32} (h : ¬ (a = k ∧ b = i ∧ c = j)) : (zwi σ k i j v).1 a b c = σ.1 a b c := if_neg h
theorem zac_s {σ s : zMem} (h : s.1 82 = σ.1 82) (w : Nat) (H : Nat → Int32) (a : Int32) : ∀ i, zac s w H a i = zac σ w H a i
  | 0 => rfl
  | i + 1 => by
    unfold zac ztst
    rw [zac_s h w H a i, h]
theorem zhold_s {σ s : zMem} (h0 : s.1 80 = σ.1 80) (h : s.1 82 = σ.1 82) (w : Nat) (H : Nat → Int32) (a : Int32) : zhold s w H a = zhold σ w H a := by
  unfold zhold
  rw [zac_s h, h0]
theorem zwhy_s {σ s : zMem} (h0 : s.1 80 = σ.1 80) (h : s.1 82 = σ.1 82) (H : Nat → Int32) (n : Nat) (key a k : Int32) : zwhy s H n key a k = zwhy σ H n key a k := by
  unfold zwhy
  refine zlast_c fun i _ => ?_
  rw [zhold_s h0 h]
  unfold zst
  rw [h0]
theorem zval_s {σ s : zMem} (h0 : s.1 80 = σ.1 80) (h : s.1 82 = σ.1 82) (H : Nat → Int32) (n : Nat) (key a k : Int32) : zval s H n key a k = zval σ H n key a k := by
  unfold zval
  rw [zwhy_s h0 h, h0]
theorem lg_mul {a b c : Int32} (h1 : -2147483648 ≤ a.toInt * b.toInt) (h2 : a.toInt * b.toInt ≤ 2147483647) : (lg_cmp (a.toInt64 * b.toInt64) c.toInt64 ≤ 0) ↔ a * b ≤ c := by
  rw [lg_cmp_le, Int64.le_iff_toInt_le, Int32.le_iff_toInt_le, Int64.toInt_mul, Int32.toInt_mul, Int32.toInt_toInt64, Int32.toInt_toInt64, Int32.toInt_toInt64, Int.bmod_eq_of_le (by omega) (by omega), Int.bmod_eq_of_le (by omega) (by omega)]
/-- the value of a key now for house h -/
def znw (σ : zMem) (h nw : Nat) (key : Int32) : Int32 := zval σ (fun j => σ.1 62 h j) nw key (σ.1 60 0 0) (σ.1 60 0 0)
theorem e_X10_wn {σ : zMem} (hR : zRel σ) {h nw : Nat} (hh : h < 10) {F : Nat} (hF : 100 < F) (hn : nw ≤ 40) (e11 : σ.1 11 0 1 = nI nw) {key : Int32} (hk : inb key 8 = true) : f_X10_worthNow F σ h key = some (znw σ h nw key, σ) := by
  rw [e_X10_worthNow hR.2.2.1 hh hF hn e11 hk, ← hR.2.2.2.2.1.2.1]
  unfold znw
  rw [zval_c (fun j hj => hR.1.2.2.1 h j hh hj)]
theorem e_X11_wn {σ : zMem} (hR : zRel σ) {h nw : Nat} (hh : h < 10) {F : Nat} (hF : 100 < F) (hn : nw ≤ 40) (e : σ.1 60 0 20 = nI nw) {key : Int32} (hk : inb key 8 = true) : f_X11_now F σ (nI h) key = some (znw σ h nw key, σ) := e_X11_now hR.2.2.1 hh hF hn e hk
theorem znw_b {σ : zMem} (hR : zRel σ) {nw : Nat} (hn : nw ≤ 40) (e11 : σ.1 11 0 1 = nI nw) (h : Nat) {key : Int32} (hk : inb key 8 = true) : zib (znw σ h nw key) 0 99999 := zval_b hR.2.2.1 e11 hn hR.2.2.2.2.2.2.2.2.2.2.2.2.1 hk _ _ _
/-- WHY not -/
def zwn (σ : zMem) (h nw n : Nat) (v : Int32) : Int32 :=
  if v ≤ σ.1 62 h 2 - zup σ h then (if zrem (σ.1 60 0 0) 360 < znw σ h nw 2 then 2 else if znw σ h nw 3 ≤ zrem (σ.1 60 0 0) 360 then 2 else if (zup σ h + v) * znw σ h nw 1 ≤ zsum (zpt σ (nI h) 0) n then (if znw σ h nw 0 ≤ 0 then 0 else if zup σ h + v ≤ σ.1 67 0 h / znw σ h nw 0 then 0 else 4) else 3) else 1
theorem zwn_up {σ : zMem} (hR : zRel σ) {h : Nat} (hh : h < 10) {v : Int32} (v1 : ¬ v < 1) (v2 : ¬ 99 < v) (q : v ≤ σ.1 62 h 2 - zup σ h) : (zup σ h + v).toInt = (zup σ h).toInt + v.toInt ∧ (zup σ h).toInt + v.toInt ≤ (σ.1 62 h 2).toInt ∧ (σ.1 62 h 2).toInt ≤ 99 ∧ 1 ≤ v.toInt := by
  obtain ⟨u1, u2, u3⟩ := zup_t hR hh
  have w3 := zib_i v1 v2 (A := 1) (B := 99) (by decide) (by decide)
  have w4 := w3.1
  have w5 := w3.2
  have c0 := (hR.2.2.2.2.2.2.2.2.2.2.1 h hh).2.2.1
  have c1 := c0.1
  have c2 := c0.2
  have q2 := Int32.le_iff_toInt_le.mp q
  rw [t_sub (by omega) (by omega)] at q2
  refine ⟨t_add (by omega) (by omega), by omega, by omega, by omega⟩
theorem e_X10_whyNot {σ : zMem} (hR : zRel σ) {h nw n : Nat} (hh : h < 10) {F : Nat} (hF : 100 < F) (hnw : nw ≤ 40) (e11 : σ.1 11 0 1 = nI nw) (hn : n ≤ 50) (e5 : σ.1 5 0 5 = nI n) {v : Int32} (v1 : ¬ v < 1) (v2 : ¬ 99 < v) : f_X10_whyNot F σ (nI h) v = some (zwn σ h nw n v, σ) := by
  have i1 := inb_n hh (by omega)
  have i2 := nI_clamp (show h < 2 ^ 31 by omega)
  have dd := hR.2.2.2.2.1.2.1
  have u2 := e_X2_allUp (σ := σ) (F := F) (h := h) hF (by omega)
  have w := fun key hk => e_X10_wn (σ := σ) hR hh hF hnw e11 (key := key) hk
  have gh : (decide (h < 10)) = true := by simp; omega
  have q6 := (hR.1.2.2.2.1 h hh).2.2.2.2.1
  have a1 : f_X2_atHome F σ h = some (σ.1 62 h 2 - zup σ h, σ) := by
    unfold f_X2_atHome
    rw [zg_i gh, zg_i (by decide), u2, zb_s, hR.1.2.2.1 h 2 hh (by omega)]
  unfold f_X10_whyNot zwn
  rw [zg_i i1, i2, a1, zb_s]
  by_cases c1 : v ≤ σ.1 62 h 2 - zup σ h
  · rw [if_pos c1, if_pos c1]
    unfold f_X10_inSeason
    rw [zg_i gh, zg_i (by decide), w 2 (by decide), zb_s, ← dd]
    by_cases c2 : zrem (σ.1 60 0 0) 360 < znw σ h nw 2
    · rw [if_pos c2, if_pos c2, zb_s, if_pos rfl]
    rw [if_neg c2, if_neg c2, w 3 (by decide), zb_s]
    by_cases c3 : znw σ h nw 3 ≤ zrem (σ.1 60 0 0) 360
    · rw [if_pos c3, if_pos c3, zb_s, if_pos rfl]
    rw [if_neg c3, if_neg c3, zb_s, if_neg (by decide), u2, zb_s, w 1 (by decide), zb_s, e_X3_held hR hF hn e5 (nI h) 0 (zm1_ne (by omega)), zb_s]
    by_cases c4 : (zup σ h + v) * znw σ h nw 1 ≤ zsum (zpt σ (nI h) 0) n
    · rw [if_pos c4, if_pos c4, w 0 (by decide), zb_s]
      by_cases c5 : znw σ h nw 0 ≤ 0
      · rw [if_pos c5, if_pos c5]
      · rw [if_neg c5, if_neg c5, zg_i (by have : ¬ znw σ h nw 0 = 0 := fun q => c5 (by rw [q]; exact Int32.le_refl _); simpa [zni] using this), q6]
        split <;> rfl
    · rw [if_neg c4, if_neg c4]
  · rw [if_neg c1, if_neg c1]
theorem e_X11_whyNot {σ : zMem} (hR : zRel σ) {h nw n : Nat} (hh : h < 10) {F : Nat} (hF : 100 < F) (hnw : nw ≤ 40) (e11 : σ.1 11 0 1 = nI nw) (e20 : σ.1 60 0 20 = nI nw) (hn : n ≤ 50) (e12 : σ.1 60 0 12 = nI n) {v : Int32} (v1 : ¬ v < 1) (v2 : ¬ 99 < v) : f_X11_whyNot F σ (nI h) v = some (zwn σ h nw n v, σ) := by
  have i1 := inb_n hh (by omega)
  have i2 := nI_clamp (show h < 2 ^ 31 by omega)
  obtain ⟨-, -, ⟨m, hm, em, -⟩, em2, -⟩ := id hR.2.2.2.2.1
  have em2 := em2.trans em
  have eu := hR.1.2.2.2.2.2
  have u1 := e_X11_upOf (σ := σ) (h := h) hF (by omega) hm em2 eu
  rw [zup_eq hR (by omega) hm em] at u1
  have w := fun key hk => e_X11_wn (σ := σ) hR hh hF hnw e20 (key := key) hk
  unfold f_X11_whyNot zwn
  rw [zg_i (by decide), zg_i i1, zg_i (by decide), u1, zb_s, i2]
  by_cases c1 : v ≤ σ.1 62 h 2 - zup σ h
  · rw [if_pos c1, if_pos c1, w 2 (by decide), zb_s]
    by_cases c2 : zrem (σ.1 60 0 0) 360 < znw σ h nw 2
    · rw [if_pos c2, if_pos c2]
    rw [if_neg c2, if_neg c2, w 3 (by decide), zb_s]
    by_cases c3 : znw σ h nw 3 ≤ zrem (σ.1 60 0 0) 360
    · rw [if_neg (Int32.not_lt.mpr c3), if_pos c3]
    rw [if_pos (Int32.not_le.mp c3), if_neg c3, u1, zb_s, w 1 (by decide), zb_s, e_X11_partsOf hF hn e12, zb_s]
    obtain ⟨k1, k2, k3, k4⟩ := zwn_up hR hh v1 v2 c1
    obtain ⟨u2, u3, u4⟩ := zup_t hR hh
    have b := znw_b hR hnw e11 h (key := 1) (by decide)
    have b1 := b.1
    have b2 := b.2
    have m1 : 0 ≤ (zup σ h + v).toInt * (znw σ h nw 1).toInt := Int.mul_nonneg (by omega) b1
    have m2 : (zup σ h + v).toInt * (znw σ h nw 1).toInt ≤ 99 * 99999 := Int.le_trans (Int.mul_le_mul_of_nonneg_right (show (zup σ h + v).toInt ≤ 99 by omega) b1) (Int.mul_le_mul_of_nonneg_left b2 (by omega))
    have lm := lg_mul (a := zup σ h + v) (b := znw σ h nw 1) (c := zsum (zpt σ (nI h) 0) n) (by omega) (by omega)
    by_cases c4 : (zup σ h + v) * znw σ h nw 1 ≤ zsum (zpt σ (nI h) 0) n
    · rw [if_pos (lm.mpr c4), if_pos c4, w 0 (by decide), zb_s]
      by_cases c5 : znw σ h nw 0 ≤ 0
      · rw [if_pos c5, if_pos c5]
      · rw [if_neg c5, if_neg c5, zg_i i1, zg_i (by have : ¬ znw σ h nw 0 = 0 := fun q => c5 (by rw [q]; exact Int32.le_refl _); simpa [zni] using this)]
        split <;> rfl
    · rw [if_neg (fun q => c4 (lm.mp q)), if_neg c4]
  · rw [if_neg c1, if_neg c1]
def z6 (a0 a1 a2 a3 a4 a5 : Int32) (i : Nat) : Int32 := match i with
  | 0 => a0
  | 1 => a1
  | 2 => a2
  | 3 => a3
  | 4 => a4
  | _ => a5
theorem zfl_6 (σ : zMem) (nb : Nat) (a0 a1 a2 a3 a4 a5 : Int32) : zwi (zwi (zwi (zwi (zwi (zwi σ 50 0 nb a0) 50 1 nb a1) 50 2 nb a2) 50 3 nb a3) 50 4 nb a4) 50 5 nb a5 = zfl σ 50 nb 6 (z6 a0 a1 a2 a3 a4 a5) := by
  have h : zwi σ 50 0 nb a0 = zfl σ 50 nb 1 (z6 a0 a1 a2 a3 a4 a5) := by
    rw [← zfl_s (n := 0) rfl, zfl_0]
    rfl
  rw [h, zfl_s (f := z6 a0 a1 a2 a3 a4 a5) (n := 1) (v := a1) rfl, zfl_s (f := z6 a0 a1 a2 a3 a4 a5) (n := 2) (v := a2) rfl, zfl_s (f := z6 a0 a1 a2 a3 a4 a5) (n := 3) (v := a3) rfl, zfl_s (f := z6 a0 a1 a2 a3 a4 a5) (n := 4) (v := a4) rfl, zfl_s (f := z6 a0 a1 a2 a3 a4 a5) (n := 5) (v := a5) rfl]
theorem zfa_6 (σ : zMem) (nb : Nat) (a0 a1 a2 a3 a4 a5 : Int32) : zwi (zwi (zwi (zwi (zwi (zwi σ 92 nb 0 a0) 92 nb 1 a1) 92 nb 2 a2) 92 nb 3 a3) 92 nb 4 a4) 92 nb 5 a5 = zfa σ 92 nb 6 (z6 a0 a1 a2 a3 a4 a5) := by
  have h : zwi σ 92 nb 0 a0 = zfa σ 92 nb 1 (z6 a0 a1 a2 a3 a4 a5) := by
    rw [← zfa_s (n := 0) rfl, zfa_0]
    rfl
  rw [h, zfa_s (f := z6 a0 a1 a2 a3 a4 a5) (n := 1) (v := a1) rfl, zfa_s (f := z6 a0 a1 a2 a3 a4 a5) (n := 2) (v := a2) rfl, zfa_s (f := z6 a0 a1 a2 a3 a4 a5) (n := 3) (v := a3) rfl, zfa_s (f := z6 a0 a1 a2 a3 a4 a5) (n := 4) (v := a4) rfl, zfa_s (f := z6 a0 a1 a2 a3 a4 a5) (n := 5) (v := a5) rfl]
theorem e_X10_writeDrive {σ : zMem} (hR : zRel σ) {h nw nb a : Nat} (hh : h < 10) {F : Nat} (hF : 100 < F) (hnw : nw ≤ 40) (e11 : σ.1 11 0 1 = nI nw) (hnb : nb < 200) (eb : σ.1 0 0 10 = nI nb) (v : Int32) : f_X10_writeDrive F σ (nI h) (nI a) v = some ((), zfl σ 50 nb 6 (z6 (σ.1 60 0 0) (nI h) (nI a) v (zwhy σ (fun j => σ.1 62 h j) nw 1 (σ.1 60 0 0) (σ.1 60 0 0)) (zwhy σ (fun j => σ.1 62 h j) nw 0 (σ.1 60 0 0) (σ.1 60 0 0)))) := by
  have i1 := inb_n hh (by omega)
  have i2 := nI_clamp (show h < 2 ^ 31 by omega)
  have i3 := inb_n hnb (by omega)
  have i4 := nI_clamp (show nb < 2 ^ 31 by omega)
  have dd := hR.2.2.2.2.1.2.1.symm
  have t0 : inb 0 6 = true ∧ inb 1 6 = true ∧ inb 2 6 = true ∧ inb 3 6 = true ∧ inb 4 6 = true ∧ inb 5 6 = true := by decide
  obtain ⟨t1, t2, t3, t4, t5, t6⟩ := t0
  have lat : ∀ (s : zMem) (key : Int32), zRw s → s.1 11 0 1 = nI nw → s.1 80 = σ.1 80 → s.1 82 = σ.1 82 → s.1 3 = σ.1 3 → f_X9_latest F s h key (σ.1 60 0 0) (σ.1 60 0 0) = some (zwhy σ (fun j => σ.1 62 h j) nw key (σ.1 60 0 0) (σ.1 60 0 0), s) := by
    intro s key h1 h2 h3 h4 h5
    rw [e_X9_latest h1 h2 hnw hh hF, zwhy_s h3 h4, h5, zwhy_c (fun j hj => hR.1.2.2.1 h j hh hj)]
  have l1 := lat (zwi (zwi (zwi (zwi σ 50 0 nb (σ.1 60 0 0)) 50 1 nb (nI h)) 50 2 nb (nI a)) 50 3 nb v) 1 (by simpa [zRw, zwi, zu] using hR.2.2.1) (by simpa [zwi, zu] using e11) (by funext x y; simp [zwi, zu]) (by funext x y; simp [zwi, zu]) (by funext x y; simp [zwi, zu])
  generalize hw1 : zwhy σ (fun j => σ.1 62 h j) nw 1 (σ.1 60 0 0) (σ.1 60 0 0) = w1 at l1
  have l2 := lat (zwi (zwi (zwi (zwi (zwi σ 50 0 nb (σ.1 60 0 0)) 50 1 nb (nI h)) 50 2 nb (nI a)) 50 3 nb v) 50 4 nb w1) 0 (by simpa [zRw, zwi, zu] using hR.2.2.1) (by simpa [zwi, zu] using e11) (by funext x y; simp [zwi, zu]) (by funext x y; simp [zwi, zu]) (by funext x y; simp [zwi, zu])
  unfold f_X10_writeDrive
  simp [zwi_r, dd, eb, i1, i2, i3, i4, t1, t2, t3, t4, t5, t6, zg, l1, l2, zb, zfl_6]
theorem zmx_fl {σ : zMem} {k s n : Nat} {f : Nat → Int32} (h : k < 60) : zmx (zfl σ k s n f) σ = zfl σ k s n f := by
  refine Prod.ext ?_ ?_
  · funext a b c
    by_cases ha : a < 60
    · exact zmx_x ha _ _
    · rw [zmx_y (by omega)]
      simp [zfl, show ¬ a = k by omega]
  · funext a b c
    show (if a < 60 then _ else _) = _
    split <;> rfl
theorem p_drive {σ : zMem} (hR : zRel σ) {h a n nb : Nat} (hh9 : h < 10) (ha9 : a < n) (hn4 : n ≤ 4) (e : σ.1 25 0 4 = nI n) (eb : σ.1 0 0 10 = nI nb) (hg : ∃ g, σ.1 999 0 0 = nI g ∧ nb + g ≤ 511) (v : Int32) (hv : 0 ≤ v.toInt) (hs : (σ.1 72 0 h).toInt + (σ.1 72 1 h).toInt + (σ.1 72 2 h).toInt + (σ.1 72 3 h).toInt - (σ.1 72 a h).toInt + v.toInt ≤ (σ.1 62 h 2).toInt) (f : Nat → Int32) : zRel (zwi (zwi (zwi (zwi σ 0 0 10 (nI nb + 1)) 4 h a v) 72 a h v) 60 0 30 (nI nb + 1)) ∧ (nb < 200 → zRel (zwi (zfa (zwi (zwi (zwi (zfl σ 50 nb 6 f) 0 0 10 (nI nb + 1)) 4 h a v) 72 a h v) 92 nb 6 f) 60 0 30 (nI nb + 1))) := by
  obtain ⟨g, hg1, hg2⟩ := hg
  have cut : ∀ m : Nat, σ.1 25 0 4 = nI m → m ≤ 4 → m = n := fun m em hm => (nI_eq (by omega) (by omega)).mp (em.symm.trans e)
  have eb2 : σ.1 60 0 30 = nI nb := hR.2.2.2.2.2.1.2.1.trans eb
  obtain ⟨hh, hr, hw, hk, ha, hd, hl, hc, ht, hb, hQ⟩ := hR
  have hd0 := hd
  refine ⟨?_, fun hb2 => ?_⟩
  · refine ⟨?_, ?_, ?_, ?_, ?_, ?_, ?_, ?_, ?_, ?_, ?_⟩
    · obtain ⟨g1, g2, g3, g4, g5, g6⟩ := hh
      refine ⟨by simpa [zwi, zu] using g1, by simpa [zwi, zu] using g2, by simpa [zwi, zu] using g3, by simpa [zwi, zu] using g4, fun y z hy hz => ?_, by simpa [zwi, zu] using g6⟩
      have := g5 y z hy hz
      by_cases q : y = h ∧ z = a
      · obtain ⟨rfl, rfl⟩ := q
        simp [zwi, zu]
      · have q2 : ¬ (z = a ∧ y = h) := fun k => q ⟨k.2, k.1⟩
        simpa [zwi, zu, q, q2] using this
    · simpa [zRr, zwi, zu] using hr
    · simpa [zRw, zwi, zu] using hw
    · simpa [zRk, zwi, zu] using hk
    · obtain ⟨p1, p2, ⟨m, hm, em, hz⟩, p4, p5, p6, p7⟩ := ha
      refine ⟨by simpa [zwi, zu] using p1, by simpa [zwi, zu] using p2, ⟨m, hm, by simpa [zwi, zu] using em, fun y z h1 h2 h3 => ?_⟩, by simpa [zwi, zu] using p4, by simpa [zwi, zu] using p5, by simpa [zwi, zu] using p6, by simpa [zwi, zu] using p7⟩
      have h4 := hz y z h1 h2 h3
      have q : ¬ z = a := fun q => by have := cut m em hm; omega
      simpa [zwi, zu, q] using h4
    · obtain ⟨p1, p2, p3⟩ := hd
      refine ⟨⟨nb + 1, by omega, by simp [zwi, zu, nI_1]⟩, by simp [zwi, zu], fun i c hi hc => ?_⟩
      simpa [zwi, zu] using p3 i c hi hc
    · simpa [zRl, zwi, zu] using hl
    · simpa [zRc, zwi, zu] using hc
    · simpa [zRt, zwi, zu] using ht
    · simpa [zRb, zwi, zu] using hb
    · obtain ⟨y1, y2, y3, y4, y5, y6, y7, y8, y9, y10⟩ := hQ
      refine ⟨by simpa [zwi, zu] using y1, ?_, by simpa [zwi, zu] using y3, by simpa [zwi, zu] using y4, by simpa [zwi, zu] using y5, by simpa [zwi, zu] using y6, by simpa [zwi, zu] using y7, by simpa [zwi, zu] using y8, by simpa [zwi, zu] using y9, ?_⟩
      · intro z hz
        obtain ⟨k1, k2⟩ := y2 z hz
        by_cases e : z = h
        · subst e
          refine ⟨fun b hb => ?_, ?_⟩
          · by_cases e2 : b = a
            · subst e2
              simpa [zwi, zu] using hv
            · simpa [zwi, zu, e2] using k1 b hb
          · rcases a with _ | _ | _ | _ | a
            · simp [zwi, zu]
              try simp at hs
              omega
            · simp [zwi, zu]
              try simp at hs
              omega
            · simp [zwi, zu]
              try simp at hs
              omega
            · simp [zwi, zu]
              try simp at hs
              omega
            · omega
        · simpa [zwi, zu, e] using (⟨k1, k2⟩ : _ ∧ _)
      · exact ⟨nb + 1, g, by simp [zwi, zu, nI_1], by simpa [zwi, zu] using hg1, by omega⟩
  · refine ⟨?_, ?_, ?_, ?_, ?_, ?_, ?_, ?_, ?_, ?_, ?_⟩
    · obtain ⟨g1, g2, g3, g4, g5, g6⟩ := hh
      refine ⟨by simpa [zwi, zu, zfl, zfa] using g1, by simpa [zwi, zu, zfl, zfa] using g2, by simpa [zwi, zu, zfl, zfa] using g3, by simpa [zwi, zu, zfl, zfa] using g4, fun y z hy hz => ?_, by simpa [zwi, zu, zfl, zfa] using g6⟩
      have := g5 y z hy hz
      by_cases q : y = h ∧ z = a
      · obtain ⟨rfl, rfl⟩ := q
        simp [zwi, zu, zfl, zfa]
      · have q2 : ¬ (z = a ∧ y = h) := fun k => q ⟨k.2, k.1⟩
        simpa [zwi, zu, zfl, zfa, q, q2] using this
    · simpa [zRr, zwi, zu, zfl, zfa] using hr
    · simpa [zRw, zwi, zu, zfl, zfa] using hw
    · simpa [zRk, zwi, zu, zfl, zfa] using hk
    · obtain ⟨p1, p2, ⟨m, hm, em, hz⟩, p4, p5, p6, p7⟩ := ha
      refine ⟨by simpa [zwi, zu, zfl, zfa] using p1, by simpa [zwi, zu, zfl, zfa] using p2, ⟨m, hm, by simpa [zwi, zu, zfl, zfa] using em, fun y z h1 h2 h3 => ?_⟩, by simpa [zwi, zu, zfl, zfa] using p4, by simpa [zwi, zu, zfl, zfa] using p5, by simpa [zwi, zu, zfl, zfa] using p6, by simpa [zwi, zu, zfl, zfa] using p7⟩
      have h4 := hz y z h1 h2 h3
      have q : ¬ z = a := fun q => by have := cut m em hm; omega
      simpa [zwi, zu, zfl, zfa, q] using h4
    · obtain ⟨p1, p2, p3⟩ := hd
      refine ⟨⟨nb + 1, by omega, by simp [zwi, zu, zfl, zfa, nI_1]⟩, by simp [zwi, zu, zfl, zfa], fun i c hi hc => ?_⟩
      have := p3 i c hi hc
      by_cases q : i = nb
      · subst q
        simp [zwi, zu, zfl, zfa, hc]
      · simpa [zwi, zu, zfl, zfa, q] using this
    · simpa [zRl, zwi, zu, zfl, zfa] using hl
    · simpa [zRc, zwi, zu, zfl, zfa] using hc
    · simpa [zRt, zwi, zu, zfl, zfa] using ht
    · simpa [zRb, zwi, zu, zfl, zfa] using hb
    · obtain ⟨y1, y2, y3, y4, y5, y6, y7, y8, y9, y10⟩ := hQ
      refine ⟨by simpa [zwi, zu, zfl, zfa] using y1, ?_, by simpa [zwi, zu, zfl, zfa] using y3, by simpa [zwi, zu, zfl, zfa] using y4, by simpa [zwi, zu, zfl, zfa] using y5, by simpa [zwi, zu, zfl, zfa] using y6, by simpa [zwi, zu, zfl, zfa] using y7, by simpa [zwi, zu, zfl, zfa] using y8, by simpa [zwi, zu, zfl, zfa] using y9, ?_⟩
      · intro z hz
        obtain ⟨k1, k2⟩ := y2 z hz
        by_cases e : z = h
        · subst e
          refine ⟨fun b hb => ?_, ?_⟩
          · by_cases e2 : b = a
            · subst e2
              simpa [zwi, zu, zfl, zfa] using hv
            · simpa [zwi, zu, zfl, zfa, e2] using k1 b hb
          · rcases a with _ | _ | _ | _ | a
            · simp [zwi, zu, zfl, zfa]
              try simp at hs
              omega
            · simp [zwi, zu, zfl, zfa]
              try simp at hs
              omega
            · simp [zwi, zu, zfl, zfa]
              try simp at hs
              omega
            · simp [zwi, zu, zfl, zfa]
              try simp at hs
              omega
            · omega
        · simpa [zwi, zu, zfl, zfa, e] using (⟨k1, k2⟩ : _ ∧ _)
      · exact ⟨nb + 1, g, by simp [zwi, zu, zfl, zfa, nI_1], by simpa [zwi, zu, zfl, zfa] using hg1, by omega⟩
theorem a_drive {σ : zMem} (hR : zRel σ) {F : Nat} (hF : 100 < F) (hg : ∃ n g, σ.1 0 0 10 = nI n ∧ σ.1 999 0 0 = nI g ∧ n + g ≤ 511) (x y v : Int32) : zOK (fun σ => f_X10_drive F σ x y v) (fun σ => f_X11_drive F σ x y v) σ := by
  obtain ⟨nh, hnh, h1, h2⟩ := zRh_n hR.1
  obtain ⟨-, -, ⟨n, hn, e1, hz⟩, e2, -⟩ := id hR.2.2.2.2.1
  have e2 := e2.trans e1
  have eu := hR.1.2.2.2.2.2
  have t : (71 : Int32).toNatClampNeg = 71 := by decide
  have t2 : zdU 71 = true := by decide
  obtain ⟨nb, g, eb, eg, hng⟩ := hg
  have eb2 : σ.1 60 0 30 = nI nb := hR.2.2.2.2.2.1.2.1.trans eb
  obtain ⟨nw, hnw, w1, w2⟩ := zRw_n hR.2.2.1
  obtain ⟨⟨nr, hnr, r1, -⟩, r2, -⟩ := id hR.2.1
  have r2 := r2.trans r1
  rcases zix (n := nh) (by omega) x with ⟨h, hh9, rfl, a1, a2, a3, a4⟩ | ⟨_, a⟩
  · have u1 := e_X10_isHouse h1 F a1 a2
    have u2 := fun s (hs : s.1 60 0 1 = nI nh) => e_X11_isHouse (σ := s) hs F a1 a3
    rcases zix (n := n) (by omega) y with ⟨j, hj, rfl, b1, b2, b3, b4⟩ | ⟨_, b⟩
    · have i1 := inb_n (show h < 10 by omega) (by omega)
      have i2 := nI_clamp (show h < 2 ^ 31 by omega)
      have i3 := inb_n (show j < 4 by omega) (by omega)
      have i4 := nI_clamp (show j < 2 ^ 31 by omega)
      have q := hR.1.2.2.2.2.1 h j (by omega) (by omega)
      have u3 := e_X0_has e1 F b1 b2
      have u4 := fun s (hs : s.1 60 0 25 = nI n) => e_X11_isAlp (σ := s) hs F b1 b3
      by_cases v1 : v < 1
      · refine zOK_same hR (-2) ?_ ?_
        · simp only [f_X10_drive]
          rw [u1, zb_s, if_neg (by decide), u3, zb_s, if_neg (by decide), if_pos v1]
        · simp only [f_X11_drive]
          rw [u2 σ h2, zb_s, if_neg (by decide), u4 σ e2, zb_s, if_neg (by decide), e_X11_in, if_pos v1, zb_s, if_pos rfl]
      by_cases v2 : 99 < v
      · refine zOK_same hR (-2) ?_ ?_
        · simp only [f_X10_drive]
          rw [u1, zb_s, if_neg (by decide), u3, zb_s, if_neg (by decide), if_neg v1, if_neg (Int32.not_le.mpr v2)]
        · simp only [f_X11_drive]
          rw [u2 σ h2, zb_s, if_neg (by decide), u4 σ e2, zb_s, if_neg (by decide), e_X11_in, if_neg v1, if_pos v2, zb_s, if_pos rfl]
      have y1 := e_X10_whyNot hR (show h < 10 by omega) hF hnw w1 hnr r1 v1 v2
      have y2 := e_X11_whyNot hR (show h < 10 by omega) hF hnw w1 w2 hnr r2 v1 v2
      by_cases z : zwn σ h nw nr v ≤ 0
      · -- driven
        have c1 : v ≤ σ.1 62 h 2 - zup σ h := by
          by_cases c : v ≤ σ.1 62 h 2 - zup σ h
          · exact c
          · exfalso
            unfold zwn at z
            rw [if_neg c] at z
            exact absurd z (by decide)
        obtain ⟨k1, k2, k3, k4⟩ := zwn_up hR (show h < 10 by omega) v1 v2 c1
        obtain ⟨u5, u6, u7⟩ := zup_t hR (show h < 10 by omega)
        have w0 := hR.2.2.2.2.2.2.2.2.2.2.2.1 h (by omega)
        have m0 := w0.1 0 (by omega)
        have m1 := w0.1 1 (by omega)
        have m2 := w0.1 2 (by omega)
        have m3 := w0.1 3 (by omega)
        have mj := w0.1 j (by omega)
        have mz : (σ.1 72 j h).toInt ≤ (zup σ h).toInt := by
          have hj4 : j = 0 ∨ j = 1 ∨ j = 2 ∨ j = 3 := by omega
          rcases hj4 with e | e | e | e <;> rw [e] <;> omega
        have ad : (σ.1 72 j h + v).toInt = (σ.1 72 j h).toInt + v.toInt := t_add (by omega) (by omega)
        have pd := p_drive hR (show h < 10 by omega) hj hn e1 eb ⟨g, eg, hng⟩ (σ.1 72 j h + v) (by omega) (by omega) (z6 (σ.1 60 0 0) (nI h) (nI j) v (zwhy σ (fun j => σ.1 62 h j) nw 1 (σ.1 60 0 0) (σ.1 60 0 0)) (zwhy σ (fun j => σ.1 62 h j) nw 0 (σ.1 60 0 0) (σ.1 60 0 0)))
        have s10 : f_X10_drive F σ (nI h) (nI j) v = if 200 ≤ nI nb then f_X10_drive_71 F σ (nI h) (nI j) v else zb (f_X10_writeDrive F σ (nI h) (nI j) v) fun r68 m68 => f_X10_drive_71 F m68 (nI h) (nI j) v := by
          simp only [f_X10_drive]
          rw [u1, zb_s, if_neg (by decide), u3, zb_s, if_neg (by decide), if_neg v1, if_pos (Int32.not_lt.mp v2), y1, zb_s, if_pos z, eb]
        have d71 : ∀ s : zMem, s.1 0 0 10 = nI nb → s.1 4 h j = σ.1 72 j h → f_X10_drive_71 F s (nI h) (nI j) v = some (σ.1 72 j h + v, zwi (zwi s 0 0 10 (nI nb + 1)) 4 h j (σ.1 72 j h + v)) := by
          intro s hs1 hs2
          unfold f_X10_drive_71
          rw [zg_i i1, zg_i i3, zg_i i3, zg_i i1, zg_i i3, i2, i4, hs1, show (zwi s 0 0 10 (nI nb + 1)).1 4 h j = s.1 4 h j by simp [zwi, zu], hs2, show (zwi (zwi s 0 0 10 (nI nb + 1)) 4 h j (σ.1 72 j h + v)).1 4 h j = σ.1 72 j h + v by simp [zwi, zu]]
        -- the reference, on any memory that agrees on her cells
        have r11 : ∀ s : zMem, zmx s σ = s → f_X11_drive F s (nI h) (nI j) v = some (σ.1 72 j h + v, if nb < 200 then zwi (zfa (zwi s 72 j h (σ.1 72 j h + v)) 92 nb 6 (z6 (σ.1 60 0 0) (nI h) (nI j) v (zwhy σ (fun j => σ.1 62 h j) nw 1 (σ.1 60 0 0) (σ.1 60 0 0)) (zwhy σ (fun j => σ.1 62 h j) nw 0 (σ.1 60 0 0) (σ.1 60 0 0)))) 60 0 30 (nI nb + 1) else zwi (zwi s 72 j h (σ.1 72 j h + v)) 60 0 30 (nI nb + 1)) := by
          intro s hs
          have hc : ∀ k i c, 60 ≤ k → s.1 k i c = σ.1 k i c := fun k i c hk => by rw [← hs, zmx_y hk]
          have ch : ∀ (a b : zMem) (k i c : Nat) (x : Int32), 60 ≤ k → a = zmx s b → zwi a k i c x = zmx s (zwi b k i c x) := fun a b k i c x hk e => by rw [e, zwi_y hk]
          have d142 : ∀ m : zMem, m.1 60 0 11 = 71 → m.1 60 0 30 = nI nb → m.1 72 j h = σ.1 72 j h + v → f_X11_drive_142 F m (nI h) (nI j) = some (σ.1 72 j h + v, zwi m 60 0 30 (nI nb + 1)) := by
            intro m hs1 hs2 hs3
            unfold f_X11_drive_142
            rw [hs2, show (zwi m 60 0 30 (nI nb + 1)).1 60 0 11 = 71 by simpa [zwi, zu] using hs1, t, zg_i t2, zg_i i3, zg_i i1, i2, i4, show (zwi m 60 0 30 (nI nb + 1)).1 (71 + 1) j h = σ.1 72 j h + v by simpa [zwi, zu] using hs3]
          have ys : f_X11_whyNot F s (nI h) v = some (zwn σ h nw nr v, s) := by
            have := y_X11_whyNot s F σ (nI h) v
            rw [hs, y2] at this
            rw [this]
            show some (_, zmx s σ) = _
            rw [hs]
          simp only [f_X11_drive]
          rw [u2 s ((hc 60 0 1 (by omega)).trans h2), zb_s, if_neg (by decide), u4 s ((hc 60 0 25 (by omega)).trans e2), zb_s, if_neg (by decide), e_X11_in, if_neg v1, if_neg v2, zb_s, if_neg (by decide), ys, zb_s, if_pos z, hc 60 0 11 (by omega), eu, t, zg_i t2, zg_i i3, zg_i i1, zg_i i1, i2, i4, hc (71 + 1) j h (by omega)]
          show (if 200 ≤ (zwi s 72 j h (σ.1 72 j h + v)).1 60 0 30 then _ else _) = _
          have g30 : (zwi s 72 j h (σ.1 72 j h + v)).1 60 0 30 = nI nb := (zwi_r (by omega)).trans ((hc 60 0 30 (by omega)).trans eb2)
          have g11 : (zwi s 72 j h (σ.1 72 j h + v)).1 60 0 11 = 71 := (zwi_r (by omega)).trans ((hc 60 0 11 (by omega)).trans eu)
          have g0 : (zwi s 72 j h (σ.1 72 j h + v)).1 60 0 0 = σ.1 60 0 0 := (zwi_r (by omega)).trans (hc 60 0 0 (by omega))
          have g72 : (zwi s 72 j h (σ.1 72 j h + v)).1 72 j h = σ.1 72 j h + v := by simp [zwi, zu]
          rw [g30]
          by_cases c : nb < 200
          · have i5 := inb_n c (by omega)
            have i6 := nI_clamp (show nb < 2 ^ 31 by omega)
            have lat : ∀ (m b : zMem) (key : Int32), m = zmx s b → zRw b → b.1 60 0 20 = nI nw → b.1 80 = σ.1 80 → b.1 82 = σ.1 82 → b.1 62 = σ.1 62 → f_X11_whyOf F m (nI h) key (σ.1 60 0 0) (σ.1 60 0 0) = some (zwhy σ (fun j => σ.1 62 h j) nw key (σ.1 60 0 0) (σ.1 60 0 0), m) := by
              intro m b key em k1 k2 k3 k4 k5
              rw [em, y_X11_whyOf s, e_X11_whyOf k1 (show h < 10 by omega) hF hnw k2, zwhy_s k3 k4, k5]
              rfl
            have t0 : inb 0 6 = true ∧ inb 1 6 = true ∧ inb 2 6 = true ∧ inb 3 6 = true ∧ inb 4 6 = true ∧ inb 5 6 = true := by decide
            obtain ⟨t3, t4, t5, t6, t7, t8⟩ := t0
            have x4 := ch _ _ 92 nb 3 v (by omega) (ch _ _ 92 nb 2 (nI j) (by omega) (ch _ _ 92 nb 1 (nI h) (by omega) (ch _ _ 92 nb 0 (σ.1 60 0 0) (by omega) (ch s σ 72 j h (σ.1 72 j h + v) (by omega) hs.symm))))
            have l1 := lat _ _ 1 x4 (by simpa [zRw, zwi, zu] using hR.2.2.1) (by simpa [zwi, zu] using w2) (by funext x y; simp [zwi, zu]) (by funext x y; simp [zwi, zu]) (by funext x y; simp [zwi, zu])
            generalize hw1 : zwhy σ (fun j => σ.1 62 h j) nw 1 (σ.1 60 0 0) (σ.1 60 0 0) = x1 at l1
            have l2 := lat _ _ 0 (ch _ _ 92 nb 4 x1 (by omega) x4) (by simpa [zRw, zwi, zu] using hR.2.2.1) (by simpa [zwi, zu] using w2) (by funext x y; simp [zwi, zu]) (by funext x y; simp [zwi, zu]) (by funext x y; simp [zwi, zu])
            generalize hw0 : zwhy σ (fun j => σ.1 62 h j) nw 0 (σ.1 60 0 0) (σ.1 60 0 0) = x0 at l2
            have d := d142 (zwi (zwi (zwi (zwi (zwi (zwi (zwi s 72 j h (σ.1 72 j h + v)) 92 nb 0 (σ.1 60 0 0)) 92 nb 1 (nI h)) 92 nb 2 (nI j)) 92 nb 3 v) 92 nb 4 x1) 92 nb 5 x0) (by rw [zwi_r (by omega), zwi_r (by omega), zwi_r (by omega), zwi_r (by omega), zwi_r (by omega), zwi_r (by omega)]; exact g11) (by rw [zwi_r (by omega), zwi_r (by omega), zwi_r (by omega), zwi_r (by omega), zwi_r (by omega), zwi_r (by omega)]; exact g30) (by rw [zwi_r (by omega), zwi_r (by omega), zwi_r (by omega), zwi_r (by omega), zwi_r (by omega), zwi_r (by omega)]; exact g72)
            rw [if_neg (nle_l 200 (n := 200) rfl c (by omega)), if_pos c, ← zfa_6, zg_i i5, zg_i t3, zg_i t4, zg_i t5, zg_i t6, i6]
            rw [g0]
            have rd : ∀ (a : zMem) (k i c : Nat) (x : Int32), k = 92 → (zwi a k i c x).1 60 0 0 = a.1 60 0 0 := fun a k i c x hk => zwi_r (by omega)
            rw [rd _ _ _ _ _ rfl, rd _ _ _ _ _ rfl, rd _ _ _ _ _ rfl, rd _ _ _ _ _ rfl, g0, l1, zb_s, zg_i t7, rd _ _ _ _ _ rfl, rd _ _ _ _ _ rfl, rd _ _ _ _ _ rfl, rd _ _ _ _ _ rfl, rd _ _ _ _ _ rfl, g0, l2, zb_s, zg_i t8, d]
          · rw [if_neg c, if_pos (show (200 : Int32) ≤ nI nb from (nI_leI (a := 200) (b := nb) (by omega) (by omega)).mpr (by omega))]
            exact d142 _ g11 g30 g72
        by_cases c : nb < 200
        · rw [if_neg (nle_l 200 (n := 200) rfl c (by omega)), e_X10_writeDrive hR (show h < 10 by omega) hF hnw w1 c eb, zb_s, d71 _ (by simpa [zfl] using eb) (by simpa [zfl] using q)] at s10
          have r := r11 (zwi (zwi (zfl σ 50 nb 6 (z6 (σ.1 60 0 0) (nI h) (nI j) v (zwhy σ (fun j => σ.1 62 h j) nw 1 (σ.1 60 0 0) (σ.1 60 0 0)) (zwhy σ (fun j => σ.1 62 h j) nw 0 (σ.1 60 0 0) (σ.1 60 0 0)))) 0 0 10 (nI nb + 1)) 4 h j (σ.1 72 j h + v)) (by rw [zmx_w2 (by omega), zmx_w2 (by omega), zmx_fl (by omega)])
          rw [if_pos c] at r
          exact ⟨_, _, _, s10, r, pd.2 c⟩
        · rw [if_pos (show (200 : Int32) ≤ nI nb from (nI_leI (a := 200) (b := nb) (by omega) (by omega)).mpr (by omega)), d71 σ eb q] at s10
          have r := r11 (zwi (zwi σ 0 0 10 (nI nb + 1)) 4 h j (σ.1 72 j h + v)) (by rw [zmx_w2 (by omega), zmx_w (by omega)])
          rw [if_neg c] at r
          exact ⟨_, _, _, s10, r, pd.1⟩
      · refine zOK_same hR (-20 - zwn σ h nw nr v) ?_ ?_
        · simp only [f_X10_drive]
          rw [u1, zb_s, if_neg (by decide), u3, zb_s, if_neg (by decide), if_neg v1, if_pos (Int32.not_lt.mp v2), y1, zb_s, if_neg z]
        · simp only [f_X11_drive]
          rw [u2 σ h2, zb_s, if_neg (by decide), u4 σ e2, zb_s, if_neg (by decide), e_X11_in, if_neg v1, if_neg v2, zb_s, if_neg (by decide), y2, zb_s, if_neg z]
    · refine zOK_same hR (-1) ?_ ?_
      · simp only [f_X10_drive]
        rw [u1, zb_s, if_neg (by decide), n_X0_has e1 F b, zb_s, if_pos rfl]
      · simp only [f_X11_drive]
        rw [u2 σ h2, zb_s, if_neg (by decide), n_X11_isAlp e2 F b, zb_s, if_pos rfl]
  · refine zOK_same hR (-1) ?_ ?_
    · simp only [f_X10_drive]
      rw [n_X10_isHouse h1 F a, zb_s, if_pos rfl]
    · simp only [f_X11_drive]
      rw [n_X11_isHouse h2 F a, zb_s, if_pos rfl]
