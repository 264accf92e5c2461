/-- a body runs: the class's side, the reference's -/
def zenc (σ : zMem) (b : Int32) : zMem := zwi (zwi σ 52 0 (σ.1 0 0 17).toNatClampNeg b) 0 0 17 (σ.1 0 0 17 + 1)
def zenr (σ : zMem) (b : Int32) : zMem := zwi (zwi σ 110 0 (σ.1 60 0 57).toNatClampNeg b) 60 0 57 (σ.1 60 0 57 + 1)
def zlc (σ : zMem) : List Int32 → zMem
  | [] => σ
  | b :: l => zlc (zenc σ b) l
def zlr (σ : zMem) : List Int32 → zMem
  | [] => σ
  | b :: l => zlr (zenr σ b) l
theorem zlc_app (σ : zMem) : ∀ (l m : List Int32), zlc σ (l ++ m) = zlc (zlc σ l) m
  | [], _ => rfl
  | b :: l, m => zlc_app (zenc σ b) l m
theorem zlr_app (σ : zMem) : ∀ (l m : List Int32), zlr σ (l ++ m) = zlr (zlr σ l) m
  | [], _ => rfl
  | b :: l, m => zlr_app (zenr σ b) l m
theorem zen_cm (σ : zMem) (b d : Int32) : zenr (zenc σ b) d = zenc (zenr σ d) b := by
  unfold zenr zenc
  have h1 : (zwi (zwi σ 52 0 (σ.1 0 0 17).toNatClampNeg b) 0 0 17 (σ.1 0 0 17 + 1)).1 60 0 57 = σ.1 60 0 57 := by simp [zwi, zu]
  have h2 : (zwi (zwi σ 110 0 (σ.1 60 0 57).toNatClampNeg d) 60 0 57 (σ.1 60 0 57 + 1)).1 0 0 17 = σ.1 0 0 17 := by simp [zwi, zu]
  rw [h1, h2, zwi_cm (k := 0) (k2 := 110) (by omega), zwi_cm (k := 52) (k2 := 110) (by omega), zwi_cm (k := 0) (k2 := 60) (by omega), zwi_cm (k := 52) (k2 := 60) (by omega)]
theorem zlc_cm (d : Int32) : ∀ (l : List Int32) (σ : zMem), zenr (zlc σ l) d = zlc (zenr σ d) l
  | [], _ => rfl
  | b :: l, σ => by
    show zenr (zlc (zenc σ b) l) d = zlc (zenc (zenr σ d) b) l
    rw [zlc_cm d l, zen_cm]
theorem zlc_o {k i j : Nat} (hk : ¬ k = 52) (hk2 : ¬ (k = 0 ∧ i = 0 ∧ j = 17)) : ∀ (l : List Int32) (σ : zMem), (zlc σ l).1 k i j = σ.1 k i j
  | [], _ => rfl
  | b :: l, σ => by
    show (zlc (zenc σ b) l).1 k i j = _
    rw [zlc_o hk hk2 l]
    simp [zenc, zwi, zu, hk, hk2]
theorem zlr_o {k i j : Nat} (hk : ¬ k = 110) (hk2 : ¬ (k = 60 ∧ i = 0 ∧ j = 57)) : ∀ (l : List Int32) (σ : zMem), (zlr σ l).1 k i j = σ.1 k i j
  | [], _ => rfl
  | b :: l, σ => by
    show (zlr (zenr σ b) l).1 k i j = _
    rw [zlr_o hk hk2 l]
    simp [zenr, zwi, zu, hk, hk2]
theorem zlc_n : ∀ (l : List Int32) (σ : zMem) (c : Nat), σ.1 0 0 17 = nI c → (zlc σ l).1 0 0 17 = nI (c + l.length)
  | [], _, _, e => e
  | b :: l, σ, c, e => by
    have := zlc_n l (zenc σ b) (c + 1) (by simp [zenc, zwi, zu]; rw [e, nI_1])
    rw [show c + (b :: l).length = c + 1 + l.length by simp; omega]
    exact this
theorem zlr_n : ∀ (l : List Int32) (σ : zMem) (c : Nat), σ.1 60 0 57 = nI c → (zlr σ l).1 60 0 57 = nI (c + l.length)
  | [], _, _, e => e
  | b :: l, σ, c, e => by
    have := zlr_n l (zenr σ b) (c + 1) (by simp [zenr, zwi, zu]; rw [e, nI_1])
    rw [show c + (b :: l).length = c + 1 + l.length by simp; omega]
    exact this
theorem p_en {σ : zMem} (hR : zRel σ) {c : Nat} (hc9 : c < 20) (e : σ.1 0 0 17 = nI c) (b : Int32) : zRel (zenr (zenc σ b) b) := by
  have e2 : σ.1 60 0 57 = nI c := hR.2.2.2.2.2.2.2.2.2.1.2.1.trans e
  unfold zenr zenc
  rw [show (zwi (zwi σ 52 0 (σ.1 0 0 17).toNatClampNeg b) 0 0 17 (σ.1 0 0 17 + 1)).1 60 0 57 = σ.1 60 0 57 by simp [zwi, zu], e, e2, nI_clamp (by omega)]
  obtain ⟨hh, hr, hw, hk, ha, hd, hl, hc, ht, hb, hQ⟩ := hR
  refine ⟨?_, ?_, ?_, ?_, ?_, ?_, ?_, ?_, ?_, ?_, ?_⟩
  · simpa [zRh, zwi, zu] using hh
  · simpa [zRr, zwi, zu] using hr
  · simpa [zRw, zwi, zu] using hw
  · simpa [zRk, zwi, zu] using hk
  · simpa [zRa, zwi, zu] using ha
  · simpa [zRd, zwi, zu] using hd
  · simpa [zRl, zwi, zu] using hl
  · simpa [zRc, zwi, zu] using hc
  · simpa [zRt, zwi, zu] using ht
  · obtain ⟨p1, p2, p3⟩ := hb
    refine ⟨⟨c + 1, by omega, by simp [zwi, zu, nI_1]⟩, by simp [zwi, zu], fun i hi h2 => ?_⟩
    by_cases q : i = c
    · subst q
      simp [zwi, zu]
    · have h3 : nI i < σ.1 0 0 17 := by
        have h4 : nI i < nI c + 1 := by simpa [zwi, zu] using h2
        rw [nI_1, nI_ltI (by omega) (by omega)] at h4
        rw [e]
        exact (nI_ltI (by omega) (by omega)).mpr (by omega)
      simpa [zwi, zu, q] using p3 i hi h3
  · simpa [zRz, zwi, zu] using hQ
theorem p_el : ∀ (l : List Int32) (σ : zMem) (c : Nat), zRel σ → c + l.length ≤ 20 → σ.1 0 0 17 = nI c → zRel (zlr (zlc σ l) l)
  | [], _, _, h, _, _ => h
  | b :: l, σ, c, h, hl, e => by
    have hl2 : c + (l.length + 1) ≤ 20 := hl
    show zRel (zlr (zenr (zlc (zenc σ b) l) b) l)
    rw [zlc_cm]
    exact p_el l _ (c + 1) (p_en h (by omega) e b) (by omega) (by simp [zenr, zenc, zwi, zu]; rw [e, nI_1])
theorem p_e0 {σ : zMem} (hR : zRel σ) : zRel (zwi (zwi σ 0 0 17 0) 60 0 57 0) := by
  obtain ⟨hh, hr, hw, hk, ha, hd, hl, hc, ht, hb, hQ⟩ := hR
  refine ⟨?_, ?_, ?_, ?_, ?_, ?_, ?_, ?_, ?_, ?_, ?_⟩
  · simpa [zRh, zwi, zu] using hh
  · simpa [zRr, zwi, zu] using hr
  · simpa [zRw, zwi, zu] using hw
  · simpa [zRk, zwi, zu] using hk
  · simpa [zRa, zwi, zu] using ha
  · simpa [zRd, zwi, zu] using hd
  · simpa [zRl, zwi, zu] using hl
  · simpa [zRc, zwi, zu] using hc
  · simpa [zRt, zwi, zu] using ht
  · obtain ⟨p1, p2, p3⟩ := hb
    refine ⟨⟨0, by omega, by simp [zwi, zu, nI_0]⟩, by simp [zwi, zu], fun i hi h2 => ?_⟩
    have h4 : nI i < 0 := by simpa [zwi, zu] using h2
    exact absurd h4 (nI_pos (by omega))
  · simpa [zRz, zwi, zu] using hQ
theorem e_enter {σ : zMem} {c : Nat} (hc : c < 20) (e : σ.1 0 0 17 = nI c) (F : Nat) (b : Int32) : f_X10_enterBody F σ b = some ((), zenc σ b) := by
  unfold f_X10_enterBody f_X10_enterBody_19 zenc
  rw [e, if_neg (nle_l 20 (n := 20) rfl hc (by omega)), zg_i (inb_n hc (by omega)), show (zwi σ 52 0 (nI c).toNatClampNeg b).1 0 0 17 = σ.1 0 0 17 by simp [zwi, zu], e]
theorem zen_n {σ : zMem} {c : Nat} (e : σ.1 0 0 17 = nI c) (b : Int32) : (zenc σ b).1 0 0 17 = nI (c + 1) := by
  simp [zenc, zwi, zu]
  rw [e, nI_1]
theorem zenr_n {σ : zMem} {c : Nat} (e : σ.1 60 0 57 = nI c) (b : Int32) : (zenr σ b).1 60 0 57 = nI (c + 1) := by
  simp [zenr, zwi, zu]
  rw [e, nI_1]
theorem zen_o {σ : zMem} (b : Int32) {k i j : Nat} (hk : ¬ k = 52) (hk2 : ¬ (k = 0 ∧ i = 0 ∧ j = 17)) : (zenc σ b).1 k i j = σ.1 k i j := by simp [zenc, zwi, zu, hk, hk2]
theorem zenr_o {σ : zMem} (b : Int32) {k i j : Nat} (hk : ¬ k = 110) (hk2 : ¬ (k = 60 ∧ i = 0 ∧ j = 57)) : (zenr σ b).1 k i j = σ.1 k i j := by simp [zenr, zwi, zu, hk, hk2]
/-- the bodies that run by kinds, and what they answer -/
def zhl (k : Nat) : List Int32 := if k = 2 then [30, 10] else if k = 4 then [50, 10] else if k = 5 then [60, 10] else [10]
def zhv (k : Nat) (x p : Int32) : Int32 := if k = 2 then (x + p) * 3 else if k = 4 then (x + p) ^^^ 5 else if k = 5 then x + p - 7 else x + p
def zol (k : Nat) : List Int32 := if k = 4 then 51 :: 20 :: 11 :: zhl k else if k = 1 then 20 :: 11 :: zhl k else 11 :: zhl k
def zov (k : Nat) (x p r : Int32) : Int32 := if k = 4 then zhv k x p * 2 + r - p else if k = 1 then zhv k x p * 2 + r else zhv k x p * 2
def zpl (k : Nat) : List Int32 := if k = 3 then 40 :: 12 :: (zol k ++ zhl k) else 12 :: (zol k ++ zhl k)
def zpv (k : Nat) (x p r : Int32) : Int32 := if k = 3 then zov k (x + 1) p r ^^^ zhv k (x + 1 - r) p else zov k x p r ^^^ zhv k (x - r) p
theorem e_X10_holdsBy {σ : zMem} {c r k : Nat} (hc : c ≤ 18) (e : σ.1 0 0 17 = nI c) (hr : r < 50) (hk : k < 6) (ek : σ.1 6 0 r = nI k) (F : Nat) (x : Int32) : f_X10_holdsBy F σ (nI r) x = some (zhv k x (σ.1 8 0 r), zlc σ (zhl k)) := by
  have i1 := inb_n hr (by omega)
  have i2 := nI_clamp (show r < 2 ^ 31 by omega)
  have g1 := fun b => e_enter (σ := σ) (by omega) e F b
  have g2 := fun d b => e_enter (σ := zenc σ d) (by omega) (zen_n e d) F b
  have o1 : ∀ b d, (zenc (zenc σ b) d).1 8 0 r = σ.1 8 0 r := fun b d => by rw [zen_o d (by omega) (by omega), zen_o b (by omega) (by omega)]
  have o2 : ∀ b, (zenc σ b).1 8 0 r = σ.1 8 0 r := fun b => zen_o b (by omega) (by omega)
  unfold f_X10_holdsBy
  rw [zg_i i1, i2, ek]
  rcases k with _ | _ | _ | _ | _ | _ | k
  · simp [f_X10_holdsBy_21, f_X10_holdsBy_32, f_X10_holdsBy_43, g1, zb, zg, i1, i2, o2, zhv, zhl, zlc, nI_0, show ¬ (0 : Int32) = 2 by decide, show ¬ (0 : Int32) = 4 by decide, show ¬ (0 : Int32) = 5 by decide]
  · simp [f_X10_holdsBy_21, f_X10_holdsBy_32, f_X10_holdsBy_43, g1, zb, zg, i1, i2, o2, zhv, zhl, zlc, show nI 1 = 1 by rfl, show ¬ (1 : Int32) = 2 by decide, show ¬ (1 : Int32) = 4 by decide, show ¬ (1 : Int32) = 5 by decide]
  · simp [f_X10_holdsBy_21, f_X10_holdsBy_32, f_X10_holdsBy_43, g1, g2, zb, zg, i1, i2, o1, zhv, zhl, zlc, show nI 2 = 2 by rfl, show ¬ (2 : Int32) = 4 by decide, show ¬ (2 : Int32) = 5 by decide]
  · simp [f_X10_holdsBy_21, f_X10_holdsBy_32, f_X10_holdsBy_43, g1, zb, zg, i1, i2, o2, zhv, zhl, zlc, show nI 3 = 3 by rfl, show ¬ (3 : Int32) = 2 by decide, show ¬ (3 : Int32) = 4 by decide, show ¬ (3 : Int32) = 5 by decide]
  · simp [f_X10_holdsBy_21, f_X10_holdsBy_32, f_X10_holdsBy_43, g1, g2, zb, zg, i1, i2, o1, zhv, zhl, zlc, show nI 4 = 4 by rfl, show ¬ (4 : Int32) = 2 by decide, show ¬ (4 : Int32) = 5 by decide]
  · simp [f_X10_holdsBy_21, f_X10_holdsBy_32, f_X10_holdsBy_43, g1, g2, zb, zg, i1, i2, o1, zhv, zhl, zlc, show nI 5 = 5 by rfl, show ¬ (5 : Int32) = 2 by decide, show ¬ (5 : Int32) = 4 by decide]
  · omega
theorem nI_lit4 {k : Nat} (hk : k < 6) : (nI k = 4 ↔ k = 4) ∧ (nI k = 1 ↔ k = 1) ∧ (nI k = 3 ↔ k = 3) := ⟨nI_eq (a := k) (b := 4) (by omega) (by omega), nI_eq (a := k) (b := 1) (by omega) (by omega), nI_eq (a := k) (b := 3) (by omega) (by omega)⟩
theorem e_X10_owesBy_37 {σ : zMem} {c r k : Nat} (hc : c ≤ 17) (e : σ.1 0 0 17 = nI c) (hr : r < 50) (hk : k < 6) (ek : σ.1 6 0 r = nI k) (F : Nat) (x : Int32) : f_X10_owesBy_37 F σ (nI r) x (nI k) = some (zov k x (σ.1 8 0 r) (nI r), zlc σ (11 :: zhl k)) := by
  have i1 := inb_n hr (by omega)
  have i2 := nI_clamp (show r < 2 ^ 31 by omega)
  obtain ⟨l4, l1, -⟩ := nI_lit4 hk
  have h := e_X10_holdsBy (σ := zenc σ 11) (c := c + 1) (by omega) (zen_n e 11) hr hk ((zen_o 11 (by omega) (by omega)).trans ek) F x
  rw [zen_o 11 (by omega) (by omega)] at h
  have o : (zlc (zenc σ 11) (zhl k)).1 8 0 r = σ.1 8 0 r := by rw [zlc_o (by omega) (by omega), zen_o 11 (by omega) (by omega)]
  unfold f_X10_owesBy_37 f_X10_owesBy_63 f_X10_owesBy_69 zov
  rw [e_enter (by omega) e, zb_s, h, zb_s, i2]
  show _ = some (_, zlc (zenc σ 11) (zhl k))
  by_cases q4 : k = 4
  · rw [if_pos (l4.mpr q4), if_pos (l4.mpr q4), zg_i i1, o, if_pos q4]
  · rw [if_neg (fun q => q4 (l4.mp q)), if_neg (fun q => q4 (l4.mp q)), if_neg (fun q => q4 (l4.mp q)), if_neg q4]
    by_cases q1 : k = 1
    · rw [if_pos (l1.mpr q1), if_pos q1]
    · rw [if_neg (fun q => q1 (l1.mp q)), if_neg q1]
theorem e_X10_owesBy {σ : zMem} {c r k : Nat} (hc : c ≤ 15) (e : σ.1 0 0 17 = nI c) (hr : r < 50) (hk : k < 6) (ek : σ.1 6 0 r = nI k) (F : Nat) (x : Int32) : f_X10_owesBy F σ (nI r) x = some (zov k x (σ.1 8 0 r) (nI r), zlc σ (zol k)) := by
  have i1 := inb_n hr (by omega)
  have i2 := nI_clamp (show r < 2 ^ 31 by omega)
  obtain ⟨l4, l1, -⟩ := nI_lit4 hk
  unfold f_X10_owesBy
  rw [zg_i i1, i2, ek]
  by_cases q4 : k = 4
  · have a1 := e_X10_owesBy_37 (σ := zenc (zenc σ 51) 20) (c := c + 1 + 1) (by omega) (zen_n (zen_n e 51) 20) hr hk (by rw [zen_o 20 (by omega) (by omega), zen_o 51 (by omega) (by omega)]; exact ek) F x
    rw [zen_o 20 (by omega) (by omega), zen_o 51 (by omega) (by omega)] at a1
    rw [if_pos (l4.mpr q4), e_enter (by omega) e, zb_s]
    unfold f_X10_owesBy_21 f_X10_owesBy_31
    rw [if_pos (l4.mpr q4), e_enter (c := c + 1) (by omega) (zen_n e 51), zb_s, a1]
    unfold zol
    rw [if_pos q4]
    rfl
  · rw [if_neg (fun q => q4 (l4.mp q))]
    unfold f_X10_owesBy_21 f_X10_owesBy_31
    rw [if_neg (fun q => q4 (l4.mp q))]
    by_cases q1 : k = 1
    · have a1 := e_X10_owesBy_37 (σ := zenc σ 20) (c := c + 1) (by omega) (zen_n e 20) hr hk ((zen_o 20 (by omega) (by omega)).trans ek) F x
      rw [zen_o 20 (by omega) (by omega)] at a1
      rw [if_pos (l1.mpr q1), e_enter (by omega) e, zb_s, a1]
      unfold zol
      rw [if_neg q4, if_pos q1]
      rfl
    · rw [if_neg (fun q => q1 (l1.mp q)), e_X10_owesBy_37 (by omega) e hr hk ek]
      unfold zol
      rw [if_neg q4, if_neg q1]
theorem zhl_len (k : Nat) : (zhl k).length ≤ 2 := by
  unfold zhl
  split
  · exact Nat.le_refl 2
  · split
    · exact Nat.le_refl 2
    · split
      · exact Nat.le_refl 2
      · exact Nat.le_succ 1
theorem zol_len (k : Nat) : (zol k).length ≤ 5 := by
  have := zhl_len k
  unfold zol
  split
  · simp
    omega
  · split
    · simp
      omega
    · simp
      omega
theorem zpl_len (k : Nat) : (zpl k).length ≤ 9 := by
  have := zhl_len k
  have := zol_len k
  unfold zpl
  split <;> simp <;> omega
theorem e_X10_passesBy_25 {σ : zMem} {c r k : Nat} (hc : c ≤ 8) (e : σ.1 0 0 17 = nI c) (hr : r < 50) (hk : k < 6) (ek : σ.1 6 0 r = nI k) (F : Nat) (x : Int32) : f_X10_passesBy_25 F σ (nI r) x = some (zov k x (σ.1 8 0 r) (nI r) ^^^ zhv k (x - nI r) (σ.1 8 0 r), zlc σ (12 :: (zol k ++ zhl k))) := by
  have a1 := e_X10_owesBy (σ := zenc σ 12) (c := c + 1) (by omega) (zen_n e 12) hr hk ((zen_o 12 (by omega) (by omega)).trans ek) F x
  have ln := zol_len k
  have a2 := e_X10_holdsBy (σ := zlc (zenc σ 12) (zol k)) (c := c + 1 + (zol k).length) (by omega) (zlc_n _ _ _ (zen_n e 12)) hr hk (by rw [zlc_o (by omega) (by omega), zen_o 12 (by omega) (by omega)]; exact ek) F (x - nI r)
  rw [zlc_o (by omega) (by omega), zen_o 12 (by omega) (by omega)] at a2
  rw [zen_o 12 (by omega) (by omega)] at a1
  unfold f_X10_passesBy_25
  rw [e_enter (by omega) e, zb_s, a1, zb_s, a2, zb_s, ← zlc_app]
  rfl
theorem e_X10_passesBy {σ : zMem} {c r k : Nat} (hc : c ≤ 7) (e : σ.1 0 0 17 = nI c) (hr : r < 50) (hk : k < 6) (ek : σ.1 6 0 r = nI k) (F : Nat) (x : Int32) : f_X10_passesBy F σ (nI r) x = some (zpv k x (σ.1 8 0 r) (nI r), zlc σ (zpl k)) := by
  have i1 := inb_n hr (by omega)
  have i2 := nI_clamp (show r < 2 ^ 31 by omega)
  obtain ⟨-, -, l3⟩ := nI_lit4 hk
  unfold f_X10_passesBy zpv zpl
  rw [zg_i i1, i2, ek]
  by_cases q3 : k = 3
  · have a1 := e_X10_passesBy_25 (σ := zenc σ 40) (c := c + 1) (by omega) (zen_n e 40) hr hk ((zen_o 40 (by omega) (by omega)).trans ek) F (x + 1)
    rw [zen_o 40 (by omega) (by omega)] at a1
    rw [if_pos (l3.mpr q3), e_enter (by omega) e, zb_s, a1, if_pos q3, if_pos q3]
    rfl
  · rw [if_neg (fun q => q3 (l3.mp q)), e_X10_passesBy_25 (by omega) e hr hk ek, if_neg q3, if_neg q3]
/-- one step of the reference's run: kind k has a body b for the act -/
theorem e_run {σ : zMem} {c r : Nat} (hc : c < 20) (e : σ.1 60 0 57 = nI c) {F D : Nat} (hF : 100 < F) (l4 : Int32) {a k b : Int32} (hb : ∀ s, f_X11_bodyOf F s k a = some (b, s)) (b0 : ¬ b = 0) : f_X11_runN F (D + 1) σ (nI r) k a l4 = f_X11_run_50 F (f_X11_runN F D) (zwi σ 110 0 c b) (nI r) l4 k b := by
  obtain ⟨F, rfl⟩ : ∃ G, F = G + 1 := ⟨F - 1, by omega⟩
  show f_X11_run_3 (F + 1) (f_X11_runN (F + 1) D) _ σ (nI r, a, l4, k) = _
  unfold f_X11_run_3
  simp only
  rw [hb, zb_s, if_neg b0, hb, zb_s, e, if_neg (nle_l 20 (n := 20) rfl hc (by omega)), zg_i (inb_n hc (by omega)), nI_clamp (by omega)]
/-- one step up where kind k has no body -/
theorem e_up {σ : zMem} {c r : Nat} (hc : c < 20) (e : σ.1 60 0 57 = nI c) {F D : Nat} (hF : 100 < F) (l4 : Int32) {a k k2 b : Int32} (h0 : ∀ s, f_X11_bodyOf F s k a = some (0, s)) (hu : ∀ s, f_X11_above F s k = some (k2, s)) (hb : ∀ s, f_X11_bodyOf F s k2 a = some (b, s)) (b0 : ¬ b = 0) : f_X11_runN F (D + 1) σ (nI r) k a l4 = f_X11_run_50 F (f_X11_runN F D) (zwi σ 110 0 c b) (nI r) l4 k2 b := by
  obtain ⟨F, rfl⟩ : ∃ G, F = G + 2 := ⟨F - 2, by omega⟩
  show f_X11_run_3 (F + 2) (f_X11_runN (F + 2) D) (zit (f_X11_run_3 (F + 2) (f_X11_runN (F + 2) D)) (F + 1)) σ (nI r, a, l4, k) = _
  have st : ∀ rec, f_X11_run_3 (F + 2) (f_X11_runN (F + 2) D) rec σ (nI r, a, l4, k) = rec σ (nI r, a, l4, k2) := by
    intro rec
    unfold f_X11_run_3
    simp only
    rw [h0, zb_s, if_pos rfl, hu, zb_s]
  rw [st]
  show f_X11_run_3 (F + 2) (f_X11_runN (F + 2) D) _ σ (nI r, a, l4, k2) = _
  unfold f_X11_run_3
  simp only
  rw [hb, zb_s, if_neg b0, hb, zb_s, e, if_neg (nle_l 20 (n := 20) rfl hc (by omega)), zg_i (inb_n hc (by omega)), nI_clamp (by omega)]
theorem zenr_e {σ : zMem} {c : Nat} (hc : c < 20) (e : σ.1 60 0 57 = nI c) (b : Int32) : zwi (zwi σ 110 0 c b) 60 0 57 ((zwi σ 110 0 c b).1 60 0 57 + 1) = zenr σ b := by
  unfold zenr
  rw [show (zwi σ 110 0 c b).1 60 0 57 = σ.1 60 0 57 by simp [zwi, zu], e, nI_clamp (by omega)]
theorem e_hold {σ : zMem} {c r k : Nat} (hc : c ≤ 18) (e : σ.1 60 0 57 = nI c) (hr : r < 50) (hk : k < 6) {F D : Nat} (hF : 100 < F) (x : Int32) : f_X11_runN F (D + 2) σ (nI r) (nI k) 0 x = some (zhv k x (σ.1 75 0 r), zlr σ (zhl k)) := by
  have i1 := inb_n hr (by omega)
  have i2 := nI_clamp (show r < 2 ^ 31 by omega)
  have up : ∀ k2, (∀ s, f_X11_above F s k2 = some (0, s)) → True := fun _ _ => trivial
  -- the body of RIGHT
  have h0 : ∀ (s : zMem) (d D : Nat), d < 20 → s.1 60 0 57 = nI d → f_X11_runN F (D + 1) s (nI r) 0 0 x = some (x + s.1 75 0 r, zenr s 10) := by
    intro s d D hd es
    rw [e_run (c := d) hd es hF x (b := 10) (fun _ => by simp [f_X11_bodyOf]) (by decide)]
    unfold f_X11_run_50
    rw [if_pos rfl, zenr_e hd es, zg_i i1, i2, zenr_o 10 (by omega) (by omega)]
  have hz : ∀ (s : zMem) (d D : Nat) (kk b : Int32), d < 20 → s.1 60 0 57 = nI d → (∀ s, f_X11_bodyOf F s kk 0 = some (0, s)) → (∀ s, f_X11_above F s kk = some (0, s)) → f_X11_runN F (D + 1) s (nI r) kk 0 x = some (x + s.1 75 0 r, zenr s 10) := by
    intro s d D kk b hd es hb hu
    rw [e_up (c := d) hd es hF x hb hu (b := 10) (fun _ => by simp [f_X11_bodyOf]) (by decide)]
    unfold f_X11_run_50
    rw [if_pos rfl, zenr_e hd es, zg_i i1, i2, zenr_o 10 (by omega) (by omega)]
  rcases k with _ | _ | _ | _ | _ | _ | k
  · rw [nI_0, h0 σ c (D + 1) (by omega) e]
    rfl
  · rw [show nI 1 = 1 from rfl, hz σ c (D + 1) 1 0 (by omega) e (fun _ => by simp [f_X11_bodyOf]) (fun _ => by simp [f_X11_above])]
    rfl
  · rw [show nI 2 = 2 from rfl, e_run (c := c) (by omega) e hF x (b := 30) (fun _ => by simp [f_X11_bodyOf]) (by decide)]
    unfold f_X11_run_50
    rw [if_neg (by decide), if_neg (by decide), if_neg (by decide), if_neg (by decide), if_pos rfl, zenr_e (by omega) e]
    rw [show f_X11_above F (zenr σ 30) 2 = some (0, zenr σ 30) by simp [f_X11_above], zb_s, h0 (zenr σ 30) (c + 1) D (by omega) (zenr_n e 30), zb_s, zenr_o 30 (by omega) (by omega)]
    rfl
  · rw [show nI 3 = 3 from rfl, hz σ c (D + 1) 3 0 (by omega) e (fun _ => by simp [f_X11_bodyOf]) (fun _ => by simp [f_X11_above])]
    rfl
  · rw [show nI 4 = 4 from rfl, e_run (c := c) (by omega) e hF x (b := 50) (fun _ => by simp [f_X11_bodyOf]) (by decide)]
    unfold f_X11_run_50
    rw [if_neg (by decide), if_neg (by decide), if_neg (by decide), if_neg (by decide), if_neg (by decide), if_neg (by decide), if_pos rfl, zenr_e (by omega) e]
    rw [show f_X11_above F (zenr σ 50) 4 = some (1, zenr σ 50) by simp [f_X11_above], zb_s, hz (zenr σ 50) (c + 1) D 1 0 (by omega) (zenr_n e 50) (fun _ => by simp [f_X11_bodyOf]) (fun _ => by simp [f_X11_above]), zb_s, zenr_o 50 (by omega) (by omega)]
    rfl
  · rw [show nI 5 = 5 from rfl, e_run (c := c) (by omega) e hF x (b := 60) (fun _ => by simp [f_X11_bodyOf]) (by decide)]
    unfold f_X11_run_50
    rw [if_neg (by decide), if_neg (by decide), if_neg (by decide), if_neg (by decide), if_neg (by decide), if_neg (by decide), if_neg (by decide), if_neg (by decide), zenr_e (by omega) e]
    rw [show f_X11_above F (zenr σ 60) 5 = some (0, zenr σ 60) by simp [f_X11_above], zb_s, h0 (zenr σ 60) (c + 1) D (by omega) (zenr_n e 60), zb_s, zenr_o 60 (by omega) (by omega)]
    rfl
  · omega
theorem e_owe {σ : zMem} {c r k : Nat} (hc : c ≤ 15) (e : σ.1 60 0 57 = nI c) (hr : r < 50) (hk : k < 6) (ek : σ.1 73 0 r = nI k) {F D : Nat} (hF : 100 < F) (x : Int32) : f_X11_runN F (D + 5) σ (nI r) (nI k) 1 x = some (zov k x (σ.1 75 0 r) (nI r), zlr σ (zol k)) := by
  have i1 := inb_n hr (by omega)
  have i2 := nI_clamp (show r < 2 ^ 31 by omega)
  -- what RIGHT's body gives
  have body : ∀ (s : zMem) (d D : Nat), d ≤ 17 → s.1 60 0 57 = nI d → s.1 73 0 r = nI k → f_X11_run_50 F (f_X11_runN F (D + 2)) (zwi s 110 0 d 11) (nI r) x 0 11 = some (zhv k x (s.1 75 0 r) * 2, zlr s (11 :: zhl k)) := by
    intro s d D hd es es2
    unfold f_X11_run_50
    rw [if_neg (by decide), if_pos rfl, zenr_e (by omega) es, zg_i i1, i2, zenr_o 11 (by omega) (by omega), es2, e_hold (c := d + 1) (by omega) (zenr_n es 11) hr hk hF, zb_s, zenr_o 11 (by omega) (by omega)]
    rfl
  have h0 : ∀ (s : zMem) (d D : Nat), d ≤ 17 → s.1 60 0 57 = nI d → s.1 73 0 r = nI k → f_X11_runN F (D + 3) s (nI r) 0 1 x = some (zhv k x (s.1 75 0 r) * 2, zlr s (11 :: zhl k)) := by
    intro s d D hd es es2
    rw [e_run (c := d) (D := D + 2) (by omega) es hF x (b := 11) (fun _ => by simp [f_X11_bodyOf]) (by decide), body s d D hd es es2]
  have hz : ∀ (s : zMem) (d D : Nat) (kk : Int32), d ≤ 17 → s.1 60 0 57 = nI d → s.1 73 0 r = nI k → (∀ s, f_X11_bodyOf F s kk 1 = some (0, s)) → (∀ s, f_X11_above F s kk = some (0, s)) → f_X11_runN F (D + 3) s (nI r) kk 1 x = some (zhv k x (s.1 75 0 r) * 2, zlr s (11 :: zhl k)) := by
    intro s d D kk hd es es2 hb hu
    rw [e_up (c := d) (D := D + 2) (by omega) es hF x hb hu (b := 11) (fun _ => by simp [f_X11_bodyOf]) (by decide), body s d D hd es es2]
  -- COW's body
  have h1 : ∀ (s : zMem) (d D : Nat), d ≤ 16 → s.1 60 0 57 = nI d → s.1 73 0 r = nI k → f_X11_runN F (D + 4) s (nI r) 1 1 x = some (zhv k x (s.1 75 0 r) * 2 + nI r, zlr s (20 :: 11 :: zhl k)) := by
    intro s d D hd es es2
    rw [e_run (c := d) (D := D + 3) (by omega) es hF x (b := 20) (fun _ => by simp [f_X11_bodyOf]) (by decide)]
    unfold f_X11_run_50
    rw [if_neg (by decide), if_neg (by decide), if_neg (by decide), if_pos rfl, zenr_e (by omega) es, show f_X11_above F (zenr s 20) 1 = some (0, zenr s 20) by simp [f_X11_above], zb_s, h0 (zenr s 20) (d + 1) D (by omega) (zenr_n es 20) ((zenr_o 20 (by omega) (by omega)).trans es2), zb_s, zenr_o 20 (by omega) (by omega)]
    rfl
  rcases k with _ | _ | _ | _ | _ | _ | k
  · rw [nI_0, h0 σ c (D + 2) (by omega) e ek]
    rfl
  · rw [show nI 1 = 1 from rfl, h1 σ c (D + 1) (by omega) e ek]
    rfl
  · rw [show nI 2 = 2 from rfl, hz σ c (D + 2) 2 (by omega) e ek (fun _ => by simp [f_X11_bodyOf]) (fun _ => by simp [f_X11_above])]
    rfl
  · rw [show nI 3 = 3 from rfl, hz σ c (D + 2) 3 (by omega) e ek (fun _ => by simp [f_X11_bodyOf]) (fun _ => by simp [f_X11_above])]
    rfl
  · rw [show nI 4 = 4 from rfl, e_run (c := c) (D := D + 4) (by omega) e hF x (b := 51) (fun _ => by simp [f_X11_bodyOf]) (by decide)]
    unfold f_X11_run_50
    rw [if_neg (by decide), if_neg (by decide), if_neg (by decide), if_neg (by decide), if_neg (by decide), if_neg (by decide), if_neg (by decide), if_pos rfl, zenr_e (by omega) e]
    rw [show f_X11_above F (zenr σ 51) 4 = some (1, zenr σ 51) by simp [f_X11_above], zb_s, h1 (zenr σ 51) (c + 1) D (by omega) (zenr_n e 51) ((zenr_o 51 (by omega) (by omega)).trans ek), zb_s, zg_i i1, i2, zlr_o (by omega) (by omega), zenr_o 51 (by omega) (by omega)]
    rfl
  · rw [show nI 5 = 5 from rfl, hz σ c (D + 2) 5 (by omega) e ek (fun _ => by simp [f_X11_bodyOf]) (fun _ => by simp [f_X11_above])]
    rfl
  · omega
theorem e_pass {σ : zMem} {c r k : Nat} (hc : c ≤ 7) (e : σ.1 60 0 57 = nI c) (hr : r < 50) (hk : k < 6) (ek : σ.1 73 0 r = nI k) {F : Nat} (hF : 100 < F) (x : Int32) : f_X11_runN F 8 σ (nI r) (nI k) 2 x = some (zpv k x (σ.1 75 0 r) (nI r), zlr σ (zpl k)) := by
  have i1 := inb_n hr (by omega)
  have i2 := nI_clamp (show r < 2 ^ 31 by omega)
  have ln := zol_len k
  have body : ∀ (s : zMem) (d D : Nat) (x : Int32), d ≤ 8 → s.1 60 0 57 = nI d → s.1 73 0 r = nI k → f_X11_run_50 F (f_X11_runN F (D + 5)) (zwi s 110 0 d 12) (nI r) x 0 12 = some (zov k x (s.1 75 0 r) (nI r) ^^^ zhv k (x - nI r) (s.1 75 0 r), zlr s (12 :: (zol k ++ zhl k))) := by
    intro s d D x hd es es2
    have es3 : (zenr s 12).1 73 0 r = nI k := (zenr_o 12 (by omega) (by omega)).trans es2
    have es4 : (zlr (zenr s 12) (zol k)).1 73 0 r = nI k := by rw [zlr_o (by omega) (by omega)]; exact es3
    unfold f_X11_run_50
    rw [if_neg (by decide), if_neg (by decide), if_pos rfl, zenr_e (by omega) es, zg_i i1, i2, es3, e_owe (c := d + 1) (by omega) (zenr_n es 12) hr hk es3 hF, zb_s, zg_i i1, es4, e_hold (D := D + 3) (c := d + 1 + (zol k).length) (by omega) (zlr_n _ _ _ (zenr_n es 12)) hr hk hF, zb_s, zlr_o (by omega) (by omega), zenr_o 12 (by omega) (by omega), ← zlr_app]
    rfl
  have h0 : ∀ (s : zMem) (d D : Nat) (x : Int32), d ≤ 8 → s.1 60 0 57 = nI d → s.1 73 0 r = nI k → f_X11_runN F (D + 6) s (nI r) 0 2 x = some (zov k x (s.1 75 0 r) (nI r) ^^^ zhv k (x - nI r) (s.1 75 0 r), zlr s (12 :: (zol k ++ zhl k))) := by
    intro s d D x hd es es2
    rw [e_run (c := d) (D := D + 5) (by omega) es hF x (b := 12) (fun _ => by simp [f_X11_bodyOf]) (by decide), body s d D x hd es es2]
  have hz : ∀ (s : zMem) (d D : Nat) (kk x : Int32), d ≤ 8 → s.1 60 0 57 = nI d → s.1 73 0 r = nI k → (∀ s, f_X11_bodyOf F s kk 2 = some (0, s)) → (∀ s, f_X11_above F s kk = some (0, s)) → f_X11_runN F (D + 6) s (nI r) kk 2 x = some (zov k x (s.1 75 0 r) (nI r) ^^^ zhv k (x - nI r) (s.1 75 0 r), zlr s (12 :: (zol k ++ zhl k))) := by
    intro s d D kk x hd es es2 hb hu
    rw [e_up (c := d) (D := D + 5) (by omega) es hF x hb hu (b := 12) (fun _ => by simp [f_X11_bodyOf]) (by decide), body s d D x hd es es2]
  rcases k with _ | _ | _ | _ | _ | _ | k
  · rw [nI_0, h0 σ c 2 x (by omega) e ek]
    rfl
  · rw [show nI 1 = 1 from rfl, hz σ c 2 1 x (by omega) e ek (fun _ => by simp [f_X11_bodyOf]) (fun _ => by simp [f_X11_above])]
    rfl
  · rw [show nI 2 = 2 from rfl, hz σ c 2 2 x (by omega) e ek (fun _ => by simp [f_X11_bodyOf]) (fun _ => by simp [f_X11_above])]
    rfl
  · rw [show nI 3 = 3 from rfl, e_run (c := c) (D := 7) (by omega) e hF x (b := 40) (fun _ => by simp [f_X11_bodyOf]) (by decide)]
    unfold f_X11_run_50
    rw [if_neg (by decide), if_neg (by decide), if_neg (by decide), if_neg (by decide), if_neg (by decide), if_pos rfl, zenr_e (by omega) e]
    rw [show f_X11_above F (zenr σ 40) 3 = some (0, zenr σ 40) by simp [f_X11_above], zb_s, h0 (zenr σ 40) (c + 1) 1 (x + 1) (by omega) (zenr_n e 40) ((zenr_o 40 (by omega) (by omega)).trans ek), zb_s, zenr_o 40 (by omega) (by omega)]
    rfl
  · have st : ∀ rec, f_X11_run_3 F (f_X11_runN F 7) rec σ (nI r, 2, x, nI 4) = rec σ (nI r, 2, x, 1) := by
      intro rec
      unfold f_X11_run_3
      simp only
      rw [show f_X11_bodyOf F σ (nI 4) 2 = some (0, σ) by simp [f_X11_bodyOf, show nI 4 = 4 from rfl], zb_s, if_pos rfl, show f_X11_above F σ (nI 4) = some (1, σ) by simp [f_X11_above, show nI 4 = 4 from rfl], zb_s]
    have st1 : ∀ rec, f_X11_run_3 F (f_X11_runN F 7) rec σ (nI r, 2, x, 1) = rec σ (nI r, 2, x, 0) := by
      intro rec
      unfold f_X11_run_3
      simp only
      rw [show f_X11_bodyOf F σ 1 2 = some (0, σ) by simp [f_X11_bodyOf], zb_s, if_pos rfl, show f_X11_above F σ 1 = some (0, σ) by simp [f_X11_above], zb_s]
    have st2 : ∀ rec, f_X11_run_3 F (f_X11_runN F 7) rec σ (nI r, 2, x, 0) = f_X11_run_50 F (f_X11_runN F 7) (zwi σ 110 0 c 12) (nI r) x 0 12 := by
      intro rec
      unfold f_X11_run_3
      simp only
      rw [show f_X11_bodyOf F σ 0 2 = some (12, σ) by simp [f_X11_bodyOf], zb_s, if_neg (by decide), show f_X11_bodyOf F σ 0 2 = some (12, σ) by simp [f_X11_bodyOf], zb_s, e, if_neg (nle_l 20 (n := 20) rfl (by omega) (by omega)), zg_i (inb_n (by omega) (by omega)), nI_clamp (by omega)]
    have it : f_X11_runN F 8 σ (nI r) (nI 4) 2 x = zit (f_X11_run_3 F (f_X11_runN F 7)) F σ (nI r, 2, x, nI 4) := rfl
    obtain ⟨G, hG⟩ : ∃ G, F = G + 3 := ⟨F - 3, by omega⟩
    have it2 : zit (f_X11_run_3 F (f_X11_runN F 7)) F σ (nI r, 2, x, nI 4) = zit (f_X11_run_3 F (f_X11_runN F 7)) (G + 3) σ (nI r, 2, x, nI 4) := by rw [← hG]
    rw [it, it2]
    show f_X11_run_3 F (f_X11_runN F 7) (zit (f_X11_run_3 F (f_X11_runN F 7)) (G + 2)) σ (nI r, 2, x, nI 4) = _
    rw [st]
    show f_X11_run_3 F (f_X11_runN F 7) (zit (f_X11_run_3 F (f_X11_runN F 7)) (G + 1)) σ (nI r, 2, x, 1) = _
    rw [st1]
    show f_X11_run_3 F (f_X11_runN F 7) (zit (f_X11_run_3 F (f_X11_runN F 7)) G) σ (nI r, 2, x, 0) = _
    rw [st2, body σ c 2 x (by omega) e ek]
    rfl
  · rw [show nI 5 = 5 from rfl, hz σ c 2 5 x (by omega) e ek (fun _ => by simp [f_X11_bodyOf]) (fun _ => by simp [f_X11_above])]
    rfl
  · omega
theorem a_act {σ : zMem} (hR : zRel σ) {F : Nat} (hF : 100 < F) (x y v : Int32) : zOK (fun σ => f_X10_act F σ x y v) (fun σ => f_X11_act F σ x y v) σ := by
  obtain ⟨⟨n, hn, e1, f1⟩, e2, g3, g4⟩ := id hR.2.1
  have e2 := e2.trans e1
  have p0 := p_e0 hR
  have bad : ∀ (h1 : f_X10_act F σ x y v = some (0, zwi σ 0 0 17 0)) (h2 : f_X11_act F (zwi σ 0 0 17 0) x y v = some (0, zwi (zwi σ 0 0 17 0) 60 0 57 0)), zOK (fun σ => f_X10_act F σ x y v) (fun σ => f_X11_act F σ x y v) σ := fun h1 h2 => ⟨0, _, _, h1, h2, p0⟩
  have t1 : (zwi σ 0 0 17 0).1 5 0 5 = nI n := by simpa [zwi, zu] using e1
  have t2 : (zwi (zwi σ 0 0 17 0) 60 0 57 0).1 60 0 12 = nI n := by simpa [zwi, zu] using e2
  rcases zix (n := n) (by omega) x with ⟨r, hr, rfl, a1, a2, a3, a4⟩ | ⟨_, a⟩
  · have u1 := e_X3_has t1 F a1 a2
    have u2 := e_X11_isRight t2 F a1 a3
    have i1 := inb_n (show r < 50 by omega) (by omega)
    have i2 := nI_clamp (show r < 2 ^ 31 by omega)
    by_cases ho : y.toInt < 0 ∨ 2 < y.toInt
    · refine bad ?_ ?_
      · unfold f_X10_act
        rw [u1, zb_s, if_neg (by decide), if_pos ho]
      · unfold f_X11_act
        rw [u2, zb_s, if_neg (by decide), e_X11_in]
        have t0 : (0 : Int32).toInt = 0 := rfl
        have t2 : (2 : Int32).toInt = 2 := rfl
        by_cases y0 : y < 0
        · rw [if_pos y0, zb_s, if_pos rfl]
        · rw [if_neg y0, if_pos (by rw [Int32.lt_iff_toInt_lt] at y0 ⊢; omega), zb_s, if_pos rfl]
    obtain ⟨j, hj, rfl⟩ := zlit (m := 2) (by omega) ho
    obtain ⟨q1, q2, q3, -⟩ := g3 r (by omega)
    obtain ⟨k1, k2, -⟩ := g4 r (by omega)
    obtain ⟨k, hk, ek⟩ := zk6 k1 k2
    have m1 : (zwi σ 0 0 17 0).1 6 0 r = nI k := by
      simp [zwi, zu]
      rw [q1, ek]
    have m2 : (zwi σ 0 0 17 0).1 8 0 r = σ.1 75 0 r := by simpa [zwi, zu] using q3
    have m3 : (zwi σ 0 0 17 0).1 0 0 17 = nI 0 := by simp [zwi, zu, nI_0]
    have in2 : ∀ s, f_X11_in F s (nI j) 0 2 = some (1, s) := fun s => by rw [e_X11_in, if_neg (nI_pos (by omega)), if_neg (fun q => by have := (nI_ltI (a := 2) (b := j) (by omega) (by omega)).mp q; omega)]
    -- an answer and its bodies close it
    have fin : ∀ (val : Int32) (l : List Int32), l.length ≤ 20 → f_X10_act F σ (nI r) (nI j) v = some (val, zlc (zwi σ 0 0 17 0) l) → (∀ s : zMem, s.1 60 0 57 = nI 0 → s.1 73 0 r = nI k → s.1 75 0 r = σ.1 75 0 r → f_X11_runN F 8 s (nI r) (nI k) (nI j) v = some (val, zlr s l)) → zOK (fun σ => f_X10_act F σ (nI r) (nI j) v) (fun σ => f_X11_act F σ (nI r) (nI j) v) σ := by
      intro val l hl h1 h2
      have s1 : (zwi (zlc (zwi σ 0 0 17 0) l) 60 0 57 0).1 60 0 12 = nI n := by
        show (zwi (zlc (zwi σ 0 0 17 0) l) 60 0 57 0).1 60 0 12 = nI n
        have : (zwi (zlc (zwi σ 0 0 17 0) l) 60 0 57 0).1 60 0 12 = (zlc (zwi σ 0 0 17 0) l).1 60 0 12 := by simp [zwi, zu]
        rw [this, zlc_o (by omega) (by omega)]
        simpa [zwi, zu] using e2
      have s2 : (zwi (zlc (zwi σ 0 0 17 0) l) 60 0 57 0).1 73 0 r = nI k := by
        have : (zwi (zlc (zwi σ 0 0 17 0) l) 60 0 57 0).1 73 0 r = (zlc (zwi σ 0 0 17 0) l).1 73 0 r := by simp [zwi, zu]
        rw [this, zlc_o (by omega) (by omega)]
        simpa [zwi, zu] using ek
      have s3 : (zwi (zlc (zwi σ 0 0 17 0) l) 60 0 57 0).1 75 0 r = σ.1 75 0 r := by
        have : (zwi (zlc (zwi σ 0 0 17 0) l) 60 0 57 0).1 75 0 r = (zlc (zwi σ 0 0 17 0) l).1 75 0 r := by simp [zwi, zu]
        rw [this, zlc_o (by omega) (by omega)]
        simp [zwi, zu]
      have s4 : (zwi (zlc (zwi σ 0 0 17 0) l) 60 0 57 0).1 60 0 57 = nI 0 := by simp [zwi, zu, nI_0]
      have cm : ∀ (l : List Int32) (s : zMem), zwi (zlc s l) 60 0 57 0 = zlc (zwi s 60 0 57 0) l := by
        intro l
        induction l with
        | nil => exact fun _ => rfl
        | cons b l ih =>
          intro s
          show zwi (zlc (zenc s b) l) 60 0 57 0 = zlc (zenc (zwi s 60 0 57 0) b) l
          rw [ih]
          unfold zenc
          rw [show (zwi s 60 0 57 0).1 0 0 17 = s.1 0 0 17 by simp [zwi, zu], zwi_cm (k := 0) (k2 := 60) (by omega), zwi_cm (k := 52) (k2 := 60) (by omega)]
      refine ⟨val, _, zlr (zwi (zlc (zwi σ 0 0 17 0) l) 60 0 57 0) l, h1, ?_, ?_⟩
      · show f_X11_act F _ (nI r) (nI j) v = _
        unfold f_X11_act
        rw [e_X11_isRight s1 F a1 a3, zb_s, if_neg (by decide), in2, zb_s, if_neg (by decide), zg_i i1, i2, s2]
        unfold f_X11_run
        rw [h2 _ s4 s2 s3, zb_s]
      · rw [cm]
        refine p_el l _ 0 p0 (by omega) ?_
        simp [zwi, zu, nI_0]
    rcases j with _ | _ | _ | j
    · refine fin (zhv k v (σ.1 75 0 r)) (zhl k) (by have := zhl_len k; omega) ?_ fun s hs1 hs2 hs3 => ?_
      · unfold f_X10_act
        rw [u1, zb_s, if_neg (by decide), if_neg ho, if_pos nI_0, e_X10_holdsBy (c := 0) (by omega) m3 (by omega) hk m1, zb_s, m2]
      · rw [nI_0, e_hold (c := 0) (D := 6) (by omega) hs1 (by omega) hk hF, hs3]
    · refine fin (zov k v (σ.1 75 0 r) (nI r)) (zol k) (by have := zol_len k; omega) ?_ fun s hs1 hs2 hs3 => ?_
      · unfold f_X10_act
        rw [u1, zb_s, if_neg (by decide), if_neg ho, if_neg (by decide), if_pos (show nI (0 + 1) = 1 from rfl), e_X10_owesBy (c := 0) (by omega) m3 (by omega) hk m1, zb_s, m2]
      · rw [show nI (0 + 1) = 1 from rfl, e_owe (c := 0) (D := 3) (by omega) hs1 (by omega) hk hs2 hF, hs3]
    · refine fin (zpv k v (σ.1 75 0 r) (nI r)) (zpl k) (by have := zpl_len k; omega) ?_ fun s hs1 hs2 hs3 => ?_
      · unfold f_X10_act
        rw [u1, zb_s, if_neg (by decide), if_neg ho, if_neg (by decide), if_neg (by decide), if_pos (show nI (0 + 1 + 1) = 2 from rfl), e_X10_passesBy (c := 0) (by omega) m3 (by omega) hk m1, zb_s, m2]
      · rw [show nI (0 + 1 + 1) = 2 from rfl, e_pass (c := 0) (by omega) hs1 (by omega) hk hs2 hF, hs3]
    · omega
  · refine bad ?_ ?_
    · unfold f_X10_act
      rw [n_X3_has t1 F a, zb_s, if_pos rfl]
    · unfold f_X11_act
      rw [n_X11_isRight t2 F a, zb_s, if_pos rfl]
