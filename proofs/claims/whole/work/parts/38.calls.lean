theorem i16 {x : Int32} (h1 : -32768 ≤ x.toInt) (h2 : x.toInt ≤ 32767) : x.toInt16.toInt32 = x := by
  apply Int32.toInt_inj.mp
  rw [Int16.toInt_toInt32, Int32.toInt_toInt16, Int.bmod_eq_of_le (by omega) (by omega)]
/-- a number of the sky (w 0 WARM, 1 FALL) that may be told -/
def zfit (w : Nat) (v : Int32) : Prop := (w = 0 → zib v (-40) 40) ∧ (w = 1 → zib v 0 200)
theorem zfit_b {w : Nat} (hw : w < 2) {v : Int32} (h : zfit w v) : zib v (-40) 200 := by
  rcases w with _ | _ | w
  · have := h.1 rfl
    exact ⟨this.1, by have := this.2; omega⟩
  · have := h.2 rfl
    exact ⟨by have := this.1; omega, this.2⟩
  · omega
def ztc (σ : zMem) (w d : Nat) (v : Int32) : zMem := zwi (if σ.1 22 w d = 0 then zwi σ 24 w (d / 60) (σ.1 24 w (d / 60) + 1) else σ) 22 w d (v + 41)
def ztr (σ : zMem) (w d : Nat) (v : Int32) : zMem := zwi (zwi σ 84 w d v) 86 w d 1
theorem e_X5_tell {σ : zMem} {w d : Nat} (hw : w < 2) (hd : d < 7200) {v : Int32} (hv : zfit w v) (F : Nat) : f_X5_tell F σ (nI d) (nI w) v = some ((), ztc σ w d v) := by
  have hb := zfit_b hw hv
  have k41 : (41 : Int32).toInt = 41 := rfl
  have s1 : (v + 41).toInt = v.toInt + 41 := by
    rw [t_add (by have := hb.1; omega) (by have := hb.2; omega), k41]
  have s2 : (v + 41).toInt16.toInt32 = v + 41 := i16 (by have := hb.1; omega) (by have := hb.2; omega)
  have i1 := inb_n hw (by omega)
  have i2 := nI_clamp (show w < 2 ^ 31 by omega)
  have i3 := inb_n hd (by omega)
  have i4 := nI_clamp (show d < 2 ^ 31 by omega)
  have db : nI d / 60 = nI (d / 60) := nI_div (a := d) (b := 60) (by omega) (by omega) (by omega)
  have i5 := inb_n (show d / 60 < 120 by omega) (by omega)
  have i6 := nI_clamp (show d / 60 < 2 ^ 31 by omega)
  unfold f_X5_tell f_X5_tell_26 ztc
  rw [zg_i i1, zg_i i3, i2, i4, db, i6]
  by_cases q : σ.1 22 w d = 0
  · rw [if_pos q, if_pos q, zg_i i1, zg_i (by decide), zg_i i5, zg_i i5, zg_i i1, zg_i i3, s2, s2]
  · rw [if_neg q, if_neg q, zg_i i1, zg_i i3, s2, s2]
theorem ztold_u {f : Nat → Int32} {b d : Nat} {v : Int32} (hv : v ≠ 0) : ∀ n, ztold (fun c => if c = d then v else f c) b n = ztold f b n + (if 60 * b ≤ d ∧ d < 60 * b + n ∧ f d = 0 then 1 else 0)
  | 0 => by
    rw [if_neg (by omega)]
    rfl
  | n + 1 => by
    unfold ztold
    rw [ztold_u hv n]
    by_cases e : 60 * b + n = d
    · subst e
      simp only [if_true]
      rw [if_neg hv, if_neg (by omega)]
      by_cases q : f (60 * b + n) = 0
      · rw [if_pos q, if_pos ⟨by omega, by omega, q⟩]
      · rw [if_neg q, if_neg (fun k => q k.2.2)]
    · rw [if_neg e]
      generalize (if f (60 * b + n) = 0 then 0 else 1) = t
      by_cases q : 60 * b ≤ d ∧ d < 60 * b + n ∧ f d = 0
      · have q2 : 60 * b ≤ d ∧ d < 60 * b + (n + 1) ∧ f d = 0 := ⟨q.1, by omega, q.2.2⟩
        rw [if_pos q, if_pos q2]
        omega
      · have q2 : ¬ (60 * b ≤ d ∧ d < 60 * b + (n + 1) ∧ f d = 0) := fun k => q ⟨k.1, by omega, k.2.2⟩
        rw [if_neg q, if_neg q2]
        omega
theorem p_tell {σ : zMem} (hR : zRel σ) {w d : Nat} (hw9 : w < 2) (hd9 : d < 7200) {v : Int32} (hv : zfit w v) : zRel (ztr (ztc σ w d v) w d v) := by
  have hvb := zfit_b hw9 hv
  have k41 : (41 : Int32).toInt = 41 := rfl
  have k0 : (0 : Int32).toInt = 0 := rfl
  have s1 : (v + 41).toInt = v.toInt + 41 := by
    rw [t_add (by have := hvb.1; omega) (by have := hvb.2; omega), k41]
  have s2 : v + 41 ≠ 0 := fun q => by
    rw [q, k0] at s1
    have := hvb.1
    omega
  obtain ⟨hh, hr, hw, hk, ha, hd, hl, hc, ht, hb, hQ⟩ := hR
  have hk0 := hk
  obtain ⟨k1, k2⟩ := hk0
  have kk : zRk (ztr (ztc σ w d v) w d v) := by
    refine ⟨fun w2 d2 h1 h2 => ?_, fun w2 b h1 h2 => ?_⟩
    · have := k1 w2 d2 h1 h2
      by_cases e : w2 = w ∧ d2 = d
      · obtain ⟨rfl, rfl⟩ := e
        refine Or.inr ?_
        have m1 : (ztr (ztc σ w2 d2 v) w2 d2 v).1 22 w2 d2 = v + 41 := by simp [ztr, ztc, zwi, zu]
        have m2 : (ztr (ztc σ w2 d2 v) w2 d2 v).1 86 w2 d2 = 1 := by simp [ztr, ztc, zwi, zu]
        have m3 : (ztr (ztc σ w2 d2 v) w2 d2 v).1 84 w2 d2 = v := by simp [ztr, ztc, zwi, zu]
        rw [m1, m2, m3]
        have c1 : (-40 : Int32).toInt = -40 := by decide
        have c2 : (200 : Int32).toInt = 200 := rfl
        have c3 : (40 : Int32).toInt = 40 := rfl
        refine ⟨rfl, rfl, ?_, ?_, fun q => ?_, fun q => ?_⟩
        · rw [Int32.le_iff_toInt_le, c1]
          exact hvb.1
        · rw [Int32.le_iff_toInt_le, c2]
          exact hvb.2
        · rw [Int32.le_iff_toInt_le, c3]
          exact (hv.1 q).2
        · rw [Int32.le_iff_toInt_le, k0]
          exact (hv.2 q).1
      · have m1 : (ztr (ztc σ w d v) w d v).1 22 w2 d2 = σ.1 22 w2 d2 := by
          by_cases q : σ.1 22 w d = 0 <;> simp [ztr, ztc, zwi, zu, q, e]
        have m2 : (ztr (ztc σ w d v) w d v).1 86 w2 d2 = σ.1 86 w2 d2 := by
          by_cases q : σ.1 22 w d = 0 <;> simp [ztr, ztc, zwi, zu, q, e]
        have m3 : (ztr (ztc σ w d v) w d v).1 84 w2 d2 = σ.1 84 w2 d2 := by
          by_cases q : σ.1 22 w d = 0 <;> simp [ztr, ztc, zwi, zu, q, e]
        rw [m1, m2, m3]
        exact this
    · have := k2 w2 b h1 h2
      by_cases e : w2 = w
      · subst e
        have m1 : (fun c => (ztr (ztc σ w2 d v) w2 d v).1 22 w2 c) = fun c => if c = d then v + 41 else σ.1 22 w2 c := by
          funext c
          by_cases e2 : c = d
          · subst e2
            simp [ztr, ztc, zwi, zu]
          · by_cases q : σ.1 22 w2 d = 0 <;> simp [ztr, ztc, zwi, zu, q, e2]
        rw [m1, ztold_u (f := fun c => σ.1 22 w2 c) s2]
        by_cases q : σ.1 22 w2 d = 0
        · by_cases e3 : b = d / 60
          · subst e3
            rw [if_pos ⟨by omega, by omega, q⟩, ← nI_add, ← this]
            simp [ztr, ztc, zwi, zu, q]
            rfl
          · rw [if_neg (by omega), Nat.add_zero, ← this]
            simp [ztr, ztc, zwi, zu, q, e3]
        · rw [if_neg (fun k => q k.2.2), Nat.add_zero, ← this]
          simp [ztr, ztc, zwi, zu, q]
      · have m1 : (fun c => (ztr (ztc σ w d v) w d v).1 22 w2 c) = fun c => σ.1 22 w2 c := by
          funext c
          by_cases q : σ.1 22 w d = 0 <;> simp [ztr, ztc, zwi, zu, q, e]
        rw [m1, ← this]
        by_cases q : σ.1 22 w d = 0 <;> simp [ztr, ztc, zwi, zu, q, e]
  by_cases q : σ.1 22 w d = 0
  · unfold ztr ztc at kk ⊢
    rw [if_pos q] at kk ⊢
    refine ⟨?_, ?_, ?_, ?_, ?_, ?_, ?_, ?_, ?_, ?_, ?_⟩
    · simpa [zRh, zwi, zu] using hh
    · simpa [zRr, zwi, zu] using hr
    · simpa [zRw, zwi, zu] using hw
    · exact kk
    · simpa [zRa, zwi, zu] using ha
    · simpa [zRd, zwi, zu] using hd
    · simpa [zRl, zwi, zu] using hl
    · simpa [zRc, zwi, zu] using hc
    · simpa [zRt, zwi, zu] using ht
    · simpa [zRb, zwi, zu] using hb
    · simpa [zRz, zwi, zu] using hQ
  · unfold ztr ztc at kk ⊢
    rw [if_neg q] at kk ⊢
    refine ⟨?_, ?_, ?_, ?_, ?_, ?_, ?_, ?_, ?_, ?_, ?_⟩
    · simpa [zRh, zwi, zu] using hh
    · simpa [zRr, zwi, zu] using hr
    · simpa [zRw, zwi, zu] using hw
    · exact kk
    · simpa [zRa, zwi, zu] using ha
    · simpa [zRd, zwi, zu] using hd
    · simpa [zRl, zwi, zu] using hl
    · simpa [zRc, zwi, zu] using hc
    · simpa [zRt, zwi, zu] using ht
    · simpa [zRb, zwi, zu] using hb
    · simpa [zRz, zwi, zu] using hQ
theorem lg_i (x y : Int32) : x.toInt64 < y.toInt64 ↔ x < y := by
  rw [Int64.lt_iff_toInt_lt, Int32.toInt_toInt64, Int32.toInt_toInt64, Int32.lt_iff_toInt_lt]
/-- what X5_fits says of an int -/
theorem e_X5_fits {w : Nat} (hw : w < 2) (F : Nat) (σ : zMem) (v : Int32) : (zfit w v ∧ f_X5_fits F σ (nI w) v.toInt64 = some (1, σ) ∧ f_X11_isSky F σ (nI w) v = some (1, σ)) ∨ (¬ zfit w v ∧ f_X5_fits F σ (nI w) v.toInt64 = some (0, σ) ∧ f_X11_isSky F σ (nI w) v = some (0, σ)) := by
  have i1 := inb_n hw (by omega)
  have i2 := nI_clamp (show w < 2 ^ 31 by omega)
  rcases w with _ | _ | w
  · have l0 : (lg_cmp v.toInt64 ((([-40, 0] : List Int32).getD 0 0)).toInt64 < 0) ↔ v < -40 := by
      rw [lg_cmp_lt]
      exact lg_i v (-40)
    have l1 : (0 < lg_cmp v.toInt64 ((([40, 200] : List Int32).getD 0 0)).toInt64) ↔ 40 < v := by
      rw [lg_cmp_gt]
      exact lg_i 40 v
    by_cases v1 : v < -40
    · refine Or.inr ⟨fun q => ?_, ?_, ?_⟩
      · have := (q.1 rfl).1
        rw [Int32.lt_iff_toInt_lt] at v1
        have c1 : (-40 : Int32).toInt = -40 := by decide
        omega
      · unfold f_X5_fits
        rw [zg_i i1, i2, if_pos (l0.mpr v1)]
      · simp [f_X11_isSky, nI_0, e_X11_in, zb, zg, zbo, v1]
    by_cases v2 : 40 < v
    · refine Or.inr ⟨fun q => ?_, ?_, ?_⟩
      · have := (q.1 rfl).2
        rw [Int32.lt_iff_toInt_lt] at v2
        have c1 : (40 : Int32).toInt = 40 := rfl
        omega
      · unfold f_X5_fits
        rw [zg_i i1, i2, if_neg (fun q => v1 (l0.mp q)), zg_i i1, if_pos (l1.mpr v2)]
      · simp [f_X11_isSky, nI_0, e_X11_in, zb, zg, zbo, v1, v2]
    · refine Or.inl ⟨⟨fun _ => zib_i v1 v2 (by decide) (by decide), fun q => by omega⟩, ?_, ?_⟩
      · unfold f_X5_fits
        rw [zg_i i1, i2, if_neg (fun q => v1 (l0.mp q)), zg_i i1, if_neg (fun q => v2 (l1.mp q))]
      · simp [f_X11_isSky, nI_0, e_X11_in, zb, zg, zbo, v1, v2]
  · have l0 : (lg_cmp v.toInt64 ((([-40, 0] : List Int32).getD 1 0)).toInt64 < 0) ↔ v < 0 := by
      rw [lg_cmp_lt]
      exact lg_i v 0
    have l1 : (0 < lg_cmp v.toInt64 ((([40, 200] : List Int32).getD 1 0)).toInt64) ↔ 200 < v := by
      rw [lg_cmp_gt]
      exact lg_i 200 v
    have w1 : ¬ nI (0 + 1) = 0 := by decide
    by_cases v1 : v < 0
    · refine Or.inr ⟨fun q => ?_, ?_, ?_⟩
      · have := (q.2 rfl).1
        rw [Int32.lt_iff_toInt_lt] at v1
        have c1 : (0 : Int32).toInt = 0 := rfl
        omega
      · unfold f_X5_fits
        rw [zg_i i1, i2, if_pos (l0.mpr v1)]
      · unfold f_X11_isSky
        rw [if_neg w1, e_X11_in, if_pos v1]
        rfl
    by_cases v2 : 200 < v
    · refine Or.inr ⟨fun q => ?_, ?_, ?_⟩
      · have := (q.2 rfl).2
        rw [Int32.lt_iff_toInt_lt] at v2
        have c1 : (200 : Int32).toInt = 200 := rfl
        omega
      · unfold f_X5_fits
        rw [zg_i i1, i2, if_neg (fun q => v1 (l0.mp q)), zg_i i1, if_pos (l1.mpr v2)]
      · unfold f_X11_isSky
        rw [if_neg w1, e_X11_in, if_neg v1, if_pos v2]
        rfl
    · refine Or.inl ⟨⟨fun q => by omega, fun _ => zib_i v1 v2 (by decide) (by decide)⟩, ?_, ?_⟩
      · unfold f_X5_fits
        rw [zg_i i1, i2, if_neg (fun q => v1 (l0.mp q)), zg_i i1, if_neg (fun q => v2 (l1.mp q))]
      · unfold f_X11_isSky
        rw [if_neg w1, e_X11_in, if_neg v1, if_neg v2]
        rfl
  · omega
theorem a_has {σ : zMem} (F : Nat) (x y : Int32) : (∃ d w, d < 7200 ∧ w < 2 ∧ x = nI d ∧ y = nI w ∧ f_X5_has F σ x y = some (1, σ) ∧ f_X11_in F σ x 0 7199 = some (1, σ) ∧ f_X11_in F σ y 0 1 = some (1, σ)) ∨ (f_X5_has F σ x y = some (0, σ) ∧ (f_X11_in F σ x 0 7199 = some (0, σ) ∨ f_X11_in F σ x 0 7199 = some (1, σ) ∧ f_X11_in F σ y 0 1 = some (0, σ))) := by
  by_cases x1 : x < 0
  · exact Or.inr ⟨by simp [f_X5_has, x1], Or.inl (by simp [e_X11_in, x1])⟩
  by_cases x2 : 7199 < x
  · exact Or.inr ⟨by simp [f_X5_has, x1, x2], Or.inl (by simp [e_X11_in, x1, x2])⟩
  obtain ⟨d, hd, rfl⟩ := nI_of2 (M := 7199) (n := 7199) rfl x1 (Int32.not_lt.mp x2)
  by_cases y1 : y < 0
  · exact Or.inr ⟨by simp [f_X5_has, x1, x2, y1], Or.inr ⟨by simp [e_X11_in, x1, x2], by simp [e_X11_in, y1]⟩⟩
  by_cases y2 : 1 < y
  · exact Or.inr ⟨by simp [f_X5_has, x1, x2, y1, y2], Or.inr ⟨by simp [e_X11_in, x1, x2], by simp [e_X11_in, y1, y2]⟩⟩
  obtain ⟨w, hw, rfl⟩ := nI_of2 (M := 1) (n := 1) rfl y1 (Int32.not_lt.mp y2)
  exact Or.inl ⟨d, w, by omega, by omega, rfl, rfl, by simp [f_X5_has, x1, x2, y1, y2], by simp [e_X11_in, x1, x2], by simp [e_X11_in, y1, y2]⟩
theorem a_weather {σ : zMem} (hR : zRel σ) (F : Nat) (x y v : Int32) : zOK (fun σ => f_X10_weather F σ x y v) (fun σ => f_X11_weather F σ x y v) σ := by
  rcases a_has (σ := σ) F x y with ⟨d, w, hd, hw, rfl, rfl, q1, q2, q3⟩ | ⟨q1, q2⟩
  · have i1 := inb_n hw (by omega)
    have i2 := nI_clamp (show w < 2 ^ 31 by omega)
    have i3 := inb_n hd (by omega)
    have i4 := nI_clamp (show d < 2 ^ 31 by omega)
    rcases e_X5_fits hw F σ v with ⟨r1, r2, r3⟩ | ⟨r1, r2, r3⟩
    · refine zOK_i 1 (ztc σ w d v) (ztr (ztc σ w d v) w d v) ?_ ?_ (p_tell hR hw hd r1)
      · simp only [f_X10_weather]
        rw [q1, zb_s, if_neg (by decide), r2, zb_s, if_neg (by decide), e_X5_tell hw hd r1, zb_s]
      · have e1 : ∀ s : zMem, f_X11_in F s (nI d) 0 7199 = some (1, s) := fun s => by
          rw [e_X11_in, if_neg (nI_pos (by omega)), if_neg (fun q => by have := (nI_ltI (a := 7199) (b := d) (by omega) (by omega)).mp q; omega)]
        have e2 : ∀ s : zMem, f_X11_in F s (nI w) 0 1 = some (1, s) := fun s => by
          rw [e_X11_in, if_neg (nI_pos (by omega)), if_neg (fun q => by have := (nI_ltI (a := 1) (b := w) (by omega) (by omega)).mp q; omega)]
        have r4 : f_X11_isSky F (ztc σ w d v) (nI w) v = some (1, ztc σ w d v) := by
          rcases e_X5_fits hw F (ztc σ w d v) v with ⟨_, _, h⟩ | ⟨h, _⟩
          · exact h
          · exact absurd r1 h
        simp only [f_X11_weather]
        rw [e1, zb_s, if_neg (by decide), e2, zb_s, if_neg (by decide), r4, zb_s, if_neg (by decide), zg_i i1, zg_i i3, zg_i i1, i2, i4, zg_i (by rw [i3]; rfl)]
        rfl
    · refine zOK_same hR (-2) ?_ ?_
      · simp only [f_X10_weather]
        rw [q1, zb_s, if_neg (by decide), r2, zb_s, if_pos rfl]
      · simp only [f_X11_weather]
        rw [q2, zb_s, if_neg (by decide), q3, zb_s, if_neg (by decide), r3, zb_s, if_pos rfl]
  · refine zOK_same hR (-1) ?_ ?_
    · simp only [f_X10_weather]
      rw [q1, zb_s, if_pos rfl]
    · simp only [f_X11_weather]
      rcases q2 with q2 | ⟨q2, q3⟩
      · rw [q2, zb_s, if_pos rfl]
      · rw [q2, zb_s, if_neg (by decide), q3, zb_s, if_pos rfl]
theorem e_X10_measure_19 {σ : zMem} {F n : Nat} (hF : 100 < F) (hn : n ≤ 10) (e : σ.1 0 0 1 = nI n) : zit (f_X10_measure_19 F) F σ (0, 0) = some (zsum (fun h => σ.1 2 h 4) n, zfl σ 2 5 n (fun h => σ.1 2 h 5 + σ.1 2 h 4)) := by
  have hs := zit_for (b := f_X10_measure_19 F) (S := fun i => (zfl σ 2 5 i (fun h => σ.1 2 h 5 + σ.1 2 h 4), (zsum (fun h => σ.1 2 h 4) i, nI i))) (some (zsum (fun h => σ.1 2 h 4) n, zfl σ 2 5 n (fun h => σ.1 2 h 5 + σ.1 2 h 4))) n 0 F (fun j _ hj rec => ?_) (fun rec => ?_) (by omega)
  · simp only [zfl_0] at hs
    exact hs
  · unfold f_X10_measure_19
    simp only
    rw [show (zfl σ 2 5 j (fun h => σ.1 2 h 5 + σ.1 2 h 4)).1 0 0 1 = nI n by simp [zfl, e], if_neg (nle_s (by omega) (by omega)), zg_i (inb_n (by omega) (by omega)), zg_i (inb_n (by omega) (by omega)), zg_i (inb_n (by omega) (by omega)), nI_clamp (by omega), nI_1, zfl_s (by simp [zfl])]
    congr 2
  · unfold f_X10_measure_19
    simp only
    rw [show (zfl σ 2 5 (0 + n) (fun h => σ.1 2 h 5 + σ.1 2 h 4)).1 0 0 1 = nI n by simp [zfl, e], Nat.zero_add, if_pos (Int32.le_refl _)]
theorem e_X11_measure_33 {σ : zMem} {F n : Nat} (hF : 100 < F) (hn : n ≤ 10) (e : σ.1 60 0 1 = nI n) : zit (f_X11_measure_33 F) F σ (0, 0) = some (zsum (fun h => σ.1 64 0 h) n, zfa σ 65 0 n (fun h => σ.1 65 0 h + σ.1 64 0 h)) := by
  have hs := zit_for (b := f_X11_measure_33 F) (S := fun i => (zfa σ 65 0 i (fun h => σ.1 65 0 h + σ.1 64 0 h), (zsum (fun h => σ.1 64 0 h) i, nI i))) (some (zsum (fun h => σ.1 64 0 h) n, zfa σ 65 0 n (fun h => σ.1 65 0 h + σ.1 64 0 h))) n 0 F (fun j _ hj rec => ?_) (fun rec => ?_) (by omega)
  · simp only [zfa_0] at hs
    exact hs
  · unfold f_X11_measure_33
    simp only
    rw [show (zfa σ 65 0 j (fun h => σ.1 65 0 h + σ.1 64 0 h)).1 60 0 1 = nI n by simp [zfa, e], if_neg (nle_s (by omega) (by omega)), zg_i (inb_n (by omega) (by omega)), zg_i (inb_n (by omega) (by omega)), zg_i (inb_n (by omega) (by omega)), zg_i (inb_n (by omega) (by omega)), nI_clamp (by omega), nI_1, zfa_s (by simp [zfa])]
    congr 2
  · unfold f_X11_measure_33
    simp only
    rw [show (zfa σ 65 0 (0 + n) (fun h => σ.1 65 0 h + σ.1 64 0 h)).1 60 0 1 = nI n by simp [zfa, e], Nat.zero_add, if_pos (Int32.le_refl _)]
theorem a_measure {σ : zMem} (hR : zRel σ) {F : Nat} (hF : 100 < F) : zOK (fun σ => f_X10_measure F σ) (fun σ => f_X11_measure F σ) σ := by
  obtain ⟨n, hn, e1, e2⟩ := zRh_n hR.1
  obtain ⟨-, -, -, -, -, -, -, w, wl, -⟩ := id hR.2.2.2.2.2.2.2.1
  rcases w.symm with ⟨w1, w2⟩ | ⟨w1, w2, w3⟩
  · refine zOK_same hR (-3) (by simp [f_X10_measure, w1]) ?_
    rcases w2 with w2 | w2
    · simp [f_X11_measure, w2]
    · by_cases q : σ.1 60 0 0 = 0 <;> simp [f_X11_measure, w2, q]
  have a1 := e_X10_measure_19 (σ := zwi σ 0 0 12 0) hF hn (by simpa [zwi, zu] using e1)
  have a2 := e_X11_measure_33 (σ := zwi (zfl (zwi σ 0 0 12 0) 2 5 n (fun h => (zwi σ 0 0 12 0).1 2 h 5 + (zwi σ 0 0 12 0).1 2 h 4)) 60 0 43 (σ.1 60 0 0)) hF hn (by simpa [zwi, zu, zfl] using e2)
  have q4 := hR.1.2.2.2.1
  have se : zsum (fun h => (zwi (zfl (zwi σ 0 0 12 0) 2 5 n (fun h => (zwi σ 0 0 12 0).1 2 h 5 + (zwi σ 0 0 12 0).1 2 h 4)) 60 0 43 (σ.1 60 0 0)).1 64 0 h) n = zsum (fun h => (zwi σ 0 0 12 0).1 2 h 4) n := zsum_c fun i hi => by
    have := (q4 i (by omega)).2.2.1
    simp [zwi, zu, zfl, this]
  rw [se] at a2
  have h10 : f_X10_measure F σ = zit (f_X10_measure_19 F) F (zwi σ 0 0 12 0) (0, 0) := by
    unfold f_X10_measure
    rw [if_neg (by rw [w1]; decide), zg_i (by decide)]
  have h11 : f_X11_measure F (zfl (zwi σ 0 0 12 0) 2 5 n (fun h => (zwi σ 0 0 12 0).1 2 h 5 + (zwi σ 0 0 12 0).1 2 h 4)) = zit (f_X11_measure_33 F) F (zwi (zfl (zwi σ 0 0 12 0) 2 5 n (fun h => (zwi σ 0 0 12 0).1 2 h 5 + (zwi σ 0 0 12 0).1 2 h 4)) 60 0 43 (σ.1 60 0 0)) (0, 0) := by
    unfold f_X11_measure
    rw [show (zfl (zwi σ 0 0 12 0) 2 5 n (fun h => (zwi σ 0 0 12 0).1 2 h 5 + (zwi σ 0 0 12 0).1 2 h 4)).1 60 0 0 = σ.1 60 0 0 by simp [zwi, zu, zfl], show (zfl (zwi σ 0 0 12 0) 2 5 n (fun h => (zwi σ 0 0 12 0).1 2 h 5 + (zwi σ 0 0 12 0).1 2 h 4)).1 60 0 43 = σ.1 60 0 43 by simp [zwi, zu, zfl], if_neg w2, if_neg w3]
  refine ⟨_, _, _, h10.trans a1, h11.trans a2, ?_⟩
  · obtain ⟨hh, hr, hw, hk, ha, hd, hl, hc, ht, hb, hQ⟩ := hR
    have lt : (σ.1 60 0 43).toInt < (σ.1 60 0 0).toInt := by
      have h1 := Int32.le_iff_toInt_le.mp wl
      have h2 : ¬ (σ.1 60 0 43).toInt = (σ.1 60 0 0).toInt := fun q => w3 (Int32.toInt_inj.mp q)
      omega
    have dl : (σ.1 60 0 0).toInt ≤ 7199 := by
      obtain ⟨⟨d, hd, ed⟩, e9, -⟩ := ha
      rw [e9, ed, nI_toInt (by omega)]
      omega
    have ml : -1 ≤ (σ.1 60 0 43).toInt := by
      obtain ⟨-, -, -, -, -, -, -, y8, -, -⟩ := hQ
      have h1 := (y8 0 (by omega)).2.1
      have h2 := h1.1
      have h3 := h1.2
      omega
    refine ⟨?_, ?_, ?_, ?_, ?_, ?_, ?_, ?_, ?_, ?_, ?_⟩
    · obtain ⟨g1, g2, g3, g4, g5, g6⟩ := hh
      refine ⟨by simpa [zwi, zu, zfl, zfa] using g1, by simpa [zwi, zu, zfl, zfa] using g2, by simpa [zwi, zu, zfl, zfa] using g3, fun y hy => ?_, by simpa [zwi, zu, zfl, zfa] using g5, by simpa [zwi, zu, zfl, zfa] using g6⟩
      obtain ⟨k1, k2, k3, k4, k5, k6, k7, k8, k9⟩ := g4 y hy
      by_cases q : y < n <;> simp [zwi, zu, zfl, zfa, q, k1, k2, k3, k4, k5, k6, k7, k8, k9]
    · simpa [zRr, zwi, zu, zfl, zfa] using hr
    · simpa [zRw, zwi, zu, zfl, zfa] using hw
    · simpa [zRk, zwi, zu, zfl, zfa] using hk
    · simpa [zRa, zwi, zu, zfl, zfa] using ha
    · simpa [zRd, zwi, zu, zfl, zfa] using hd
    · simpa [zRl, zwi, zu, zfl, zfa] using hl
    · obtain ⟨p1, p2, p3, p4, p5, p6, p7, p8, p9, p10⟩ := hc
      refine ⟨by simpa [zwi, zu, zfl, zfa] using p1, by simpa [zwi, zu, zfl, zfa] using p2, by simpa [zwi, zu, zfl, zfa] using p3, by simpa [zwi, zu, zfl, zfa] using p4, by simpa [zwi, zu, zfl, zfa] using p5, by simpa [zwi, zu, zfl, zfa] using p6, by simpa [zwi, zu, zfl, zfa] using p7, Or.inr ⟨by simp [zwi, zu, zfl, zfa], Or.inr (by simp [zwi, zu, zfl, zfa])⟩, by simp [zwi, zu, zfl, zfa], by simpa [zwi, zu, zfl, zfa] using p10⟩
    · simpa [zRt, zwi, zu, zfl, zfa] using ht
    · simpa [zRb, zwi, zu, zfl, zfa] using hb
    · obtain ⟨y1, y2, y3, y4, y5, y6, y7, y8, y9, y10⟩ := hQ
      refine ⟨by simpa [zwi, zu, zfl, zfa] using y1, by simpa [zwi, zu, zfl, zfa] using y2, by simpa [zwi, zu, zfl, zfa] using y3, by simpa [zwi, zu, zfl, zfa] using y4, fun y hy hz => ?_, by simpa [zwi, zu, zfl, zfa] using y6, by simpa [zwi, zu, zfl, zfa] using y7, fun y hy => ?_, ?_, by simpa [zwi, zu, zfl, zfa] using y10⟩
      · have h1 : σ.1 60 0 1 ≤ nI y := by simpa [zwi, zu, zfl, zfa] using hz
        have h2 : ¬ y < n := fun q => by
          rw [e2] at h1
          exact nle_s q (by omega) h1
        simpa [zwi, zu, zfl, zfa, h2] using y5 y hy h1
      · obtain ⟨k1, k2, k3⟩ := y8 y hy
        have k4 := k1.1
        have k5 := k1.2
        have k6 := k2.1
        have k7 := k2.2
        by_cases q : y < n
        · have ad : (σ.1 65 0 y + σ.1 64 0 y).toInt = (σ.1 65 0 y).toInt + (σ.1 64 0 y).toInt := t_add (by omega) (by omega)
          have c1 : zib (σ.1 65 0 y + σ.1 64 0 y) 0 (792 * ((σ.1 60 0 0).toInt + 1)) := ⟨by omega, by omega⟩
          simpa [zwi, zu, zfl, zfa, q] using (⟨k1, c1, k3⟩ : _ ∧ _ ∧ _)
        · have c1 : zib (σ.1 65 0 y) 0 (792 * ((σ.1 60 0 0).toInt + 1)) := ⟨by omega, by omega⟩
          simpa [zwi, zu, zfl, zfa, q] using (⟨k1, c1, k3⟩ : _ ∧ _ ∧ _)
      · obtain ⟨z1, z2, -⟩ := y9
        have c1 : zsz (fun h => (σ.1 66 0 h).toInt) 10 ≤ 0 ∧ -10 * ((σ.1 60 0 0).toInt + 1) ≤ zsz (fun h => (σ.1 66 0 h).toInt) 10 ∧ -10 * (σ.1 60 0 0).toInt ≤ zsz (fun h => (σ.1 66 0 h).toInt) 10 := ⟨z1, by omega, by omega⟩
        obtain ⟨c2, c3, c4⟩ := c1
        exact ⟨by simpa [zwi, zu, zfl, zfa] using c2, by simpa [zwi, zu, zfl, zfa] using c3, fun _ => by simpa [zwi, zu, zfl, zfa] using c4⟩
