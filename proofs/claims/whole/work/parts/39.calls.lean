def zvd (σ : zMem) (w : Int32) (i : Nat) : Int32 := if σ.1 92 i 4 = w then 1 else if σ.1 92 i 5 = w then 1 else 0
theorem e_X10_voids_64 {σ : zMem} {F n : Nat} (hF : 300 < F) (hn : n ≤ 512) (e : σ.1 0 0 10 = nI n) (g : ∀ i c, i < 200 → c < 6 → σ.1 50 c i = σ.1 92 i c) (w : Int32) : zit (f_X10_voids_64 F) F σ (w, 0, 0) = some (zsum (zvd σ w) (min n 200), σ) := by
  refine zit_for (S := fun i => (σ, (w, zsum (zvd σ w) i, nI i))) _ (min n 200) 0 F (fun j _ hj rec => ?_) (fun rec => ?_) (by omega)
  · unfold f_X10_voids_64
    simp only
    have i1 := inb_n (show j < 200 by omega) (by omega)
    have i2 := nI_clamp (show j < 2 ^ 31 by omega)
    rw [e, if_neg (nle_s (by omega) (by omega)), if_neg (nle_l 200 (n := 200) rfl (by omega) (by omega)), zg_i (by decide), zg_i i1, zg_i (by decide), zg_i i1, i2, g j 4 (by omega) (by omega), g j 5 (by omega) (by omega), nI_1]
    by_cases q1 : σ.1 92 j 4 = w
    · rw [if_pos q1, zsum_1 (f := zvd σ w) (by simp [zvd, q1])]
    · rw [if_neg q1]
      by_cases q2 : σ.1 92 j 5 = w
      · rw [if_pos q2, zsum_1 (f := zvd σ w) (by simp [zvd, q2])]
      · rw [if_neg q2]
        have := zsum_1 (f := zvd σ w) (j := j) (v := 0) (by simp [zvd, q1, q2])
        rw [← this, Int32.add_zero]
  · unfold f_X10_voids_64
    simp only
    rw [e, Nat.zero_add]
    by_cases q : n ≤ 200
    · rw [Nat.min_eq_left q, if_pos (Int32.le_refl _)]
    · rw [Nat.min_eq_right (by omega), if_neg (nle_s (by omega) (by omega)), if_pos (show (200 : Int32) ≤ nI 200 by decide)]
theorem e_X11_voids_46 {σ : zMem} {F n : Nat} (hF : 300 < F) (hn : n ≤ 512) (e : σ.1 60 0 30 = nI n) (w : Int32) : zit (f_X11_voids_46 F) F σ (w, 0, 0) = some (zsum (zvd σ w) (min n 200), σ) := by
  have zm : zmin (nI n) 200 = nI (min n 200) := zmin_n (a := n) (b := 200) (by omega) (by omega)
  refine zit_for (S := fun i => (σ, (w, zsum (zvd σ w) i, nI i))) _ (min n 200) 0 F (fun j _ hj rec => ?_) (fun rec => ?_) (by omega)
  · unfold f_X11_voids_46
    simp only
    have i1 := inb_n (show j < 200 by omega) (by omega)
    have i2 := nI_clamp (show j < 2 ^ 31 by omega)
    rw [e, zm, if_neg (nle_s (by omega) (by omega)), zg_i i1, zg_i (by decide), zg_i i1, zg_i (by decide), i2, nI_1]
    by_cases q1 : σ.1 92 j 4 = w
    · rw [if_pos q1, zsum_1 (f := zvd σ w) (by simp [zvd, q1])]
    · rw [if_neg q1]
      by_cases q2 : σ.1 92 j 5 = w
      · rw [if_pos q2, zsum_1 (f := zvd σ w) (by simp [zvd, q2])]
      · rw [if_neg q2, zsum_1 (f := zvd σ w) (by simp [zvd, q1, q2])]
  · unfold f_X11_voids_46
    simp only
    rw [e, zm, Nat.zero_add, if_pos (Int32.le_refl _)]
theorem a_voids {σ : zMem} (hR : zRel σ) {F : Nat} (hF : 300 < F) (x : Int32) : zOK (fun σ => f_X10_voids F σ x) (fun σ => f_X11_voids F σ x) σ := by
  obtain ⟨n, hn, e1, e2⟩ := zRw_n hR.2.2.1
  obtain ⟨⟨nb, hnb, b1⟩, b2, g⟩ := id hR.2.2.2.2.2.1
  have b2 := b2.trans b1
  rcases zix (n := n) (by omega) x with ⟨w, hw9, rfl, a1, a2, a3, a4⟩ | ⟨_, a⟩
  · have i1 := inb_n (show w < 40 by omega) (by omega)
    have i3 := inb_n (show w < 41 by omega) (by omega)
    have i2 := nI_clamp (show w < 2 ^ 31 by omega)
    have wl : nI w < σ.1 11 0 1 := by rw [e1]; exact a4
    obtain ⟨w1, w2, w3, w4, w5⟩ := hR.2.2.1.2.2.2.2 w (by omega) wl
    have h10 := e_X9_has e1 F a1 a2
    rcases w4 with ⟨u1, u2⟩ | ⟨u1, u2, u3⟩
    · obtain ⟨⟨d, hd, d1⟩, d2, -⟩ := id hR.2.2.2.2.1
      have c1 := e_X10_voids_64 (σ := zwi (zwi σ 13 w 4 1) 13 w 3 (σ.1 0 0 11)) hF hnb (by simpa [zwi, zu] using b1) (fun i c hi hc => by simpa [zwi, zu] using g i c hi hc) (nI w)
      have c2 := e_X11_voids_46 (σ := zwi (zwi (zwi σ 13 w 4 1) 13 w 3 (σ.1 0 0 11)) 80 w 5 (σ.1 60 0 0)) hF hnb (by simpa [zwi, zu] using b2) (nI w)
      have s1 : zsum (zvd (zwi (zwi (zwi σ 13 w 4 1) 13 w 3 (σ.1 0 0 11)) 80 w 5 (σ.1 60 0 0)) (nI w)) (min nb 200) = zsum (zvd (zwi (zwi σ 13 w 4 1) 13 w 3 (σ.1 0 0 11)) (nI w)) (min nb 200) := zsum_c fun i _ => by simp [zvd, zwi, zu]
      rw [s1] at c2
      have h10 : f_X10_voids F σ (nI w) = zit (f_X10_voids_64 F) F (zwi (zwi σ 13 w 4 1) 13 w 3 (σ.1 0 0 11)) (nI w, 0, 0) := by
        unfold f_X10_voids
        rw [h10, zb_s, if_neg (by decide), zg_i i1, i2, if_pos u1, zg_i i1, zg_i (by decide), zg_i i1, show (zwi σ 13 w 4 1).1 0 0 11 = σ.1 0 0 11 by simp [zwi, zu]]
      have h11 : f_X11_voids F (zwi (zwi σ 13 w 4 1) 13 w 3 (σ.1 0 0 11)) (nI w) = zit (f_X11_voids_46 F) F (zwi (zwi (zwi σ 13 w 4 1) 13 w 3 (σ.1 0 0 11)) 80 w 5 (σ.1 60 0 0)) (nI w, 0, 0) := by
        unfold f_X11_voids
        rw [show (zwi (zwi σ 13 w 4 1) 13 w 3 (σ.1 0 0 11)).1 60 0 20 = nI n by simpa [zwi, zu] using e2, e_X11_in, if_neg a1, if_neg a3, zb_s, if_neg (by decide), zg_i i3, zg_i (by decide), i2, show (zwi (zwi σ 13 w 4 1) 13 w 3 (σ.1 0 0 11)).1 80 w 5 = -1 by simpa [zwi, zu] using u2, if_pos (by decide), zg_i i3, zg_i (by decide), show (zwi (zwi σ 13 w 4 1) 13 w 3 (σ.1 0 0 11)).1 60 0 0 = σ.1 60 0 0 by simp [zwi, zu]]
      refine ⟨_, _, _, h10.trans c1, h11.trans c2, ?_⟩
      · have dd : σ.1 60 0 0 = σ.1 0 0 11 := d2
        have dp : (0 : Int32) ≤ σ.1 0 0 11 := by rw [d1]; exact nI_pos' (by omega)
        rw [dd]
        obtain ⟨hh, hr, hw, hk, ha, hd, hl, hc, ht, hb, hQ⟩ := hR
        refine ⟨?_, ?_, ?_, ?_, ?_, ?_, ?_, ?_, ?_, ?_, ?_⟩
        · simpa [zRh, zwi, zu] using hh
        · simpa [zRr, zwi, zu] using hr
        · obtain ⟨⟨m, hm, em, f1⟩, p2, p3, p4, p5⟩ := hw
          have hmn : m = n := (nI_eq (by omega) (by omega)).mp (em.symm.trans e1)
          subst hmn
          refine ⟨⟨m, hm, by simpa [zwi, zu] using em, fun z z1 z2 => ?_⟩, by simpa [zwi, zu] using p2, by simpa [zwi, zu] using p3, by simpa [zwi, zu] using p4, fun z z1 z2 => ?_⟩
          · have e : ¬ z = w := by omega
            simpa [zwi, zu, e] using f1 z z1 z2
          · have z3 : nI z < σ.1 11 0 1 := by simpa [zwi, zu] using z2
            have := p5 z z1 z3
            by_cases e : z = w
            · subst e
              obtain ⟨k1, k2, k3, k4, k5⟩ := this
              refine ⟨by simpa [zwi, zu] using k1, by simpa [zwi, zu] using k2, by simpa [zwi, zu] using k3, Or.inr ⟨by simp [zwi, zu], by simp [zwi, zu], by simpa [zwi, zu] using dp⟩, by simpa [zwi, zu] using k5⟩
            · simpa [zwi, zu, e] using this
        · simpa [zRk, zwi, zu] using hk
        · simpa [zRa, zwi, zu] using ha
        · simpa [zRd, zwi, zu] using hd
        · simpa [zRl, zwi, zu] using hl
        · simpa [zRc, zwi, zu] using hc
        · simpa [zRt, zwi, zu] using ht
        · simpa [zRb, zwi, zu] using hb
        · simpa [zRz, zwi, zu] using hQ
    · refine zOK_same hR (-3) ?_ ?_
      · simp only [f_X10_voids]
        rw [h10, zb_s, if_neg (by decide), zg_i i1, i2, if_neg (by rw [u1]; decide)]
      · simp only [f_X11_voids]
        rw [e2, e_X11_in, if_neg a1, if_neg a3, zb_s, if_neg (by decide), zg_i i3, zg_i (by decide), i2, if_neg (by rw [u2]; exact Int32.not_lt.mpr u3)]
  · refine zOK_same hR (-1) ?_ ?_
    · simp only [f_X10_voids]
      rw [n_X9_has e1 F a, zb_s, if_pos rfl]
    · simp only [f_X11_voids]
      rw [e2, e_X11_in]
      rcases a with a | ⟨b0, -, b1, -⟩
      · rw [if_pos a, zb_s, if_pos rfl]
      · rw [if_neg b0, if_pos b1, zb_s, if_pos rfl]
theorem zmx_w {σ : zMem} {k i j : Nat} {v : Int32} (h : k < 60) : zmx (zwi σ k i j v) σ = zwi σ k i j v := by
  rw [← zwi_x h, zmx_self]
theorem zmx_w2 {σ τ : zMem} {k i j : Nat} {v : Int32} (h : k < 60) : zmx (zwi σ k i j v) τ = zwi (zmx σ τ) k i j v := (zwi_x h i j v).symm
theorem nI_rem {a b : Nat} (ha : a < 100000) (hb : 0 < b) (hb2 : b < 100000) : zrem (nI a) (nI b) = nI (a % b) := by
  unfold zrem
  rw [nI_div ha hb hb2]
  have h1 : a / b * b ≤ a := Nat.div_mul_le_self a b
  have h2 := Nat.mod_add_div a b
  have h4 : (nI (a / b) * nI b) = nI (a / b * b) := by
    apply Int32.toInt_inj.mp
    have h5 : a / b ≤ a := Nat.div_le_self a b
    rw [Int32.toInt_mul, nI_toInt (by omega), nI_toInt (by omega), nI_toInt (by omega), ← Int.natCast_mul, Int.bmod_eq_of_le (by omega) (by omega)]
  rw [h4]
  apply Int32.toInt_inj.mp
  have h3 : a % b = a - a / b * b := by
    rw [Nat.mul_comm] at h2
    omega
  rw [t_sub (by rw [nI_toInt (by omega), nI_toInt (by omega)]; omega) (by rw [nI_toInt (by omega), nI_toInt (by omega)]; omega), nI_toInt (by omega), nI_toInt (by omega), nI_toInt (by omega)]
  omega
/-- whether a TURN k may go to house h -/
def ztk (σ : zMem) (k : Int32) (h : Nat) : Bool := if k = 0 then decide (0 < σ.1 62 h 2) else if k = 2 then decide (3 ≤ σ.1 62 h 1) else true
/-- the next house behind l - 1: m are left to look at -/
def znt (σ : zMem) (k : Int32) (l n : Nat) : Nat → Int32
  | 0 => -1
  | m + 1 => if ztk σ k ((l + (n - m) - 1) % n) then nI ((l + (n - m) - 1) % n) else znt σ k l n m
theorem e_X10_takesTurn {σ : zMem} {h : Nat} (hh : h < 10) (g : ∀ j, j < 4 → σ.1 3 h j = σ.1 62 h j) (F : Nat) (k : Int32) : f_X10_takesTurn F σ k h = some (bI (ztk σ k h), σ) := by
  unfold f_X10_takesTurn ztk
  rw [zg_i (by simp; omega), zg_i (by decide), zg_i (by decide), g 2 (by omega), g 1 (by omega)]
  by_cases q0 : k = 0
  · rw [if_pos q0, if_pos q0]
    by_cases q : σ.1 62 h 2 ≤ 0
    · rw [if_pos q, decide_eq_false (Int32.not_lt.mpr q)]
      rfl
    · rw [if_neg q, decide_eq_true (Int32.not_le.mp q)]
      rfl
  · rw [if_neg q0, if_neg q0]
    by_cases q2 : k = 2
    · rw [if_pos q2, if_pos q2]
      by_cases q : σ.1 62 h 1 < 3
      · rw [if_pos q, decide_eq_false (Int32.not_le.mpr q)]
        rfl
      · rw [if_neg q, decide_eq_true (Int32.not_lt.mp q)]
        rfl
    · rw [if_neg q2, if_neg q2]
      rfl
theorem e_X11_canHave {σ : zMem} {h : Nat} (hh : h < 10) (F : Nat) (k : Int32) : f_X11_canHave F σ k (nI h) = some (bI (ztk σ k h), σ) := by
  unfold f_X11_canHave ztk
  rw [zg_i (inb_n hh (by omega)), zg_i (inb_n hh (by omega)), zg_i (by decide), zg_i (by decide), nI_clamp (by omega)]
  by_cases q0 : k = 0
  · rw [if_pos q0, if_pos q0]
    by_cases q : σ.1 62 h 2 ≤ 0
    · rw [if_pos q, decide_eq_false (Int32.not_lt.mpr q)]
      rfl
    · rw [if_neg q, decide_eq_true (Int32.not_le.mp q)]
      rfl
  · rw [if_neg q0, if_neg q0]
    by_cases q2 : k = 2
    · rw [if_pos q2, if_pos q2]
      by_cases q : σ.1 62 h 1 < 3
      · rw [if_pos q, decide_eq_false (Int32.not_le.mpr q)]
        rfl
      · rw [if_neg q, decide_eq_true (Int32.not_lt.mp q)]
        rfl
    · rw [if_neg q2, if_neg q2]
      rfl
theorem znt_o (σ : zMem) (k : Int32) (l : Nat) {n : Nat} : ∀ m, m ≤ n → znt σ k l n m = -1 ∨ ∃ h, h < n ∧ znt σ k l n m = nI h
  | 0, _ => Or.inl rfl
  | m + 1, hm => by
    unfold znt
    split
    · exact Or.inr ⟨_, Nat.mod_lt _ (by omega), rfl⟩
    · exact znt_o σ k l m (by omega)
theorem turn_at {l n m : Nat} (hm : m < n) (hl : l ≤ 10) (hn : n ≤ 10) : zrem (nI l - 1 + nI (n - m)) (nI n) = nI ((l + (n - m) - 1) % n) := by
  have h : nI l - 1 + nI (n - m) = nI (l + (n - m) - 1) := by
    apply Int32.toInt_inj.mp
    have k1 : (1 : Int32).toInt = 1 := rfl
    have a1 : (nI l - 1).toInt = (l : Int) - 1 := by rw [t_sub (by rw [nI_toInt (by omega)]; omega) (by rw [nI_toInt (by omega)]; omega), nI_toInt (by omega), k1]
    rw [t_add (by rw [a1, nI_toInt (by omega)]; omega) (by rw [a1, nI_toInt (by omega)]; omega), a1, nI_toInt (by omega), nI_toInt (by omega)]
    omega
  rw [h, nI_rem (by omega) (by omega) (by omega)]
theorem e_X10_nextTurn {σ : zMem} (hR : zRel σ) {F n l : Nat} (hF : 100 < F) (hn : n ≤ 10) (e : σ.1 0 0 1 = nI n) (hl : l ≤ 10) (k : Int32) : f_X10_nextTurn F σ k (nI l - 1) = some (znt σ k l n n, σ) := by
  have g := hR.1.2.2.1
  unfold f_X10_nextTurn
  refine zit_m (fun m s x => s = σ ∧ m ≤ n ∧ x = (k, nI l - 1, nI (n + 1 - m)) ∧ znt σ k l n m = znt σ k l n n) _ ?_ F n σ _ ⟨rfl, Nat.le_refl n, by rw [show n + 1 - n = 1 by omega]; rfl, rfl⟩ (by omega)
  rintro m s x ⟨rfl, hm, rfl, hz⟩
  rw [← hz]
  rcases m with _ | m
  · refine Or.inl fun rec => ?_
    unfold f_X10_nextTurn_2
    simp only
    rw [e, if_pos ((nI_ltI (by omega) (by omega)).mpr (by omega))]
    rfl
  · have hm9 : (l + (n - m) - 1) % n < n := Nat.mod_lt _ (by omega)
    have hz2 : znt s k l n (m + 1) = if ztk s k ((l + (n - m) - 1) % n) then nI ((l + (n - m) - 1) % n) else znt s k l n m := rfl
    have kk : ∀ rec, f_X10_nextTurn_2 F rec s (k, nI l - 1, nI (n + 1 - (m + 1))) = if ztk s k ((l + (n - m) - 1) % n) then some (nI ((l + (n - m) - 1) % n), s) else rec s (k, nI l - 1, nI (n + 1 - m)) := by
      intro rec
      unfold f_X10_nextTurn_2
      simp only
      rw [e, show n + 1 - (m + 1) = n - m by omega, if_neg (fun q => by have := (nI_ltI (by omega) (by omega)).mp q; omega), zg_i (by have := nI_ne0 (n := n) (by omega) (by omega); simpa [zni] using this), turn_at (by omega) hl hn, zg_i (inb_n (by omega) (by omega)), nI_clamp (by omega), e_X10_takesTurn (by omega) (fun j hj => g _ j (by omega) hj), zb_s, nI_suc (show n - m + 1 = n + 1 - m by omega)]
      cases ztk s k ((l + (n - m) - 1) % n) <;> simp [bI]
    rw [hz2]
    by_cases c : ztk s k ((l + (n - m) - 1) % n) = true
    · exact Or.inl fun rec => by rw [kk, if_pos c, if_pos c]
    · refine Or.inr ⟨m, s, _, by omega, ⟨rfl, by omega, rfl, ?_⟩, fun rec => by rw [kk, if_neg c]⟩
      rw [if_neg c]
theorem e_X11_turn_59 {σ : zMem} {F n l : Nat} (hF : 100 < F) (hn : n ≤ 10) (e : σ.1 60 0 1 = nI n) (hl : l ≤ 10) {j : Nat} (hj : j < 3) : zit (f_X11_turn_59 F) F σ (nI j, nI l - 1, 1) = some (if 0 ≤ znt σ (nI j) l n n then (znt σ (nI j) l n n, if nI j = 1 then zwi (zwi σ 103 0 j (znt σ (nI j) l n n)) 60 0 50 1 else zwi σ 103 0 j (znt σ (nI j) l n n)) else (-1, σ)) := by
  refine zit_m (fun m s x => s = σ ∧ m ≤ n ∧ x = (nI j, nI l - 1, nI (n + 1 - m)) ∧ znt σ (nI j) l n m = znt σ (nI j) l n n) _ ?_ F n σ _ ⟨rfl, Nat.le_refl n, by rw [show n + 1 - n = 1 by omega]; rfl, rfl⟩ (by omega)
  rintro m s x ⟨rfl, hm, rfl, hz⟩
  rw [← hz]
  rcases m with _ | m
  · refine Or.inl fun rec => ?_
    unfold f_X11_turn_59
    simp only
    rw [e, if_pos ((nI_ltI (by omega) (by omega)).mpr (by omega))]
    show _ = some (if 0 ≤ (-1 : Int32) then _ else _)
    rw [if_neg zm1_nle]
  · have hm9 : (l + (n - m) - 1) % n < n := Nat.mod_lt _ (by omega)
    have hz2 : znt s (nI j) l n (m + 1) = if ztk s (nI j) ((l + (n - m) - 1) % n) then nI ((l + (n - m) - 1) % n) else znt s (nI j) l n m := rfl
    have kk : ∀ rec, f_X11_turn_59 F rec s (nI j, nI l - 1, nI (n + 1 - (m + 1))) = if ztk s (nI j) ((l + (n - m) - 1) % n) then some (nI ((l + (n - m) - 1) % n), if nI j = 1 then zwi (zwi s 103 0 j (nI ((l + (n - m) - 1) % n))) 60 0 50 1 else zwi s 103 0 j (nI ((l + (n - m) - 1) % n))) else rec s (nI j, nI l - 1, nI (n + 1 - m)) := by
      intro rec
      unfold f_X11_turn_59 f_X11_turn_109
      simp only
      rw [e, show n + 1 - (m + 1) = n - m by omega, if_neg (fun q => by have := (nI_ltI (by omega) (by omega)).mp q; omega), zg_i (by have := nI_ne0 (n := n) (by omega) (by omega); simpa [zni] using this), turn_at (by omega) hl hn, e_X11_canHave (by omega), zb_s, nI_suc (show n - m + 1 = n + 1 - m by omega), zg_i (inb_n hj (by omega)), nI_clamp (show j < 2 ^ 31 by omega), zwi_id (σ := zwi s 103 0 j (nI ((l + (n - m) - 1) % n))) rfl]
      cases ztk s (nI j) ((l + (n - m) - 1) % n)
      · simp [bI]
      · rw [if_neg (by decide), if_pos rfl]
        by_cases q : nI j = 1
        · rw [if_pos q, if_pos q]
        · rw [if_neg q, if_neg q]
    rw [hz2]
    by_cases c : ztk s (nI j) ((l + (n - m) - 1) % n) = true
    · refine Or.inl fun rec => ?_
      rw [kk, if_pos c, if_pos c, if_pos (nI_pos' (by omega))]
    · rw [if_neg c]
      refine Or.inr ⟨m, s, _, by omega, ⟨rfl, by omega, rfl, ?_⟩, fun rec => ?_⟩
      · rfl
      · rw [kk, if_neg c]
theorem e_X10_turn_62 {σ : zMem} (hR : zRel σ) {F n l : Nat} (hF : 100 < F) (hn : n ≤ 10) (e : σ.1 0 0 1 = nI n) (hl : l ≤ 10) {j : Nat} (hj : j < 3) : f_X10_turn_62 F σ (nI j) (nI l - 1) = some (if 0 ≤ znt σ (nI j) l n n then (znt σ (nI j) l n n, if nI j = 1 then zwi (zwi σ 51 0 j (znt σ (nI j) l n n)) 0 0 15 1 else zwi σ 51 0 j (znt σ (nI j) l n n)) else (-1, σ)) := by
  unfold f_X10_turn_62
  rw [e_X10_nextTurn hR hF hn e hl, zb_s, zg_i (inb_n hj (by omega)), nI_clamp (show j < 2 ^ 31 by omega)]
  by_cases q : 0 ≤ znt σ (nI j) l n n
  · rw [if_pos q, if_pos q]
    by_cases q1 : nI j = 1
    · rw [if_pos q1, if_pos q1]
    · rw [if_neg q1, if_neg q1]
  · rw [if_neg q, if_neg q]

theorem a_turn {σ : zMem} (hR : zRel σ) {F : Nat} (hF : 100 < F) (x : Int32) : zOK (fun σ => f_X10_turn F σ x) (fun σ => f_X11_turn F σ x) σ := by
  obtain ⟨n, hn, e1, e2⟩ := zRh_n hR.1
  have hc0 := hR.2.2.2.2.2.2.2.1
  obtain ⟨-, -, -, c4, c5, c6, -⟩ := id hc0
  by_cases x1 : x < 0
  · exact zOK_same hR (-1) (by simp [f_X10_turn, x1]) (by simp [f_X11_turn, e_X11_in, zb, x1])
  by_cases x2 : 2 < x
  · have x3 : ¬ x < 3 := by
      rw [Int32.lt_iff_toInt_lt] at x2 ⊢
      have t2 : (2 : Int32).toInt = 2 := rfl
      have t3 : (3 : Int32).toInt = 3 := rfl
      omega
    exact zOK_same hR (-1) (by simp [f_X10_turn, x1, x3]) (by simp [f_X11_turn, e_X11_in, zb, x1, x2])
  obtain ⟨j, hj, rfl⟩ := nI_of2 (M := 2) (n := 2) rfl x1 (Int32.not_lt.mp x2)
  have x3 : nI j < 3 := (nI_ltI (a := j) (b := 3) (by omega) (by omega)).mpr (by omega)
  have i1 := inb_n (show j < 3 by omega) (by omega)
  have i2 := nI_clamp (show j < 2 ^ 31 by omega)
  obtain ⟨q1, q2⟩ := c4 j (by omega)
  -- the last one as l - 1
  have hl : ∃ l, l ≤ n ∧ σ.1 103 0 j = nI l - 1 := by
    rcases q2 with q | ⟨q, q3⟩
    · exact ⟨0, by omega, by rw [q]; decide⟩
    · obtain ⟨h, hh, eh⟩ := nI_of (Int32.not_lt.mpr q)
      rw [eh, e2] at q3
      have := (nI_ltI (by omega) (by omega)).mp q3
      exact ⟨h + 1, by omega, by rw [eh, nI_pred]⟩
  obtain ⟨l, hl, el⟩ := hl
  have el1 : σ.1 51 0 j = nI l - 1 := q1.trans el
  -- what turns ends in, on both sides
  have fin : ∀ (h10 : f_X10_turn F σ (nI j) = f_X10_turn_62 F σ (nI j) (nI l - 1)) (h11 : ∀ s : zMem, (∀ k i c, 60 ≤ k → s.1 k i c = σ.1 k i c) → zmx s σ = s → f_X11_turn F s (nI j) = zit (f_X11_turn_59 F) F s (nI j, nI l - 1, 1)), zOK (fun σ => f_X10_turn F σ (nI j)) (fun σ => f_X11_turn F σ (nI j)) σ := by
    intro h10 h11
    rw [e_X10_turn_62 hR hF hn e1 (by omega) (by omega)] at h10
    have zc : ∀ s : zMem, (∀ k i c, 60 ≤ k → s.1 k i c = σ.1 k i c) → ∀ m, znt s (nI j) l n m = znt σ (nI j) l n m := by
      intro s hs m
      induction m with
      | zero => rfl
      | succ m ih =>
        unfold znt
        rw [ih]
        unfold ztk
        rw [hs 62 _ _ (by omega), hs 62 _ _ (by omega)]
    rcases znt_o σ (nI j) l n (Nat.le_refl n) with o | ⟨h, hh, o⟩
    · rw [o, if_neg zm1_nle] at h10
      have k2 := h11 σ (fun _ _ _ _ => rfl) (zmx_self σ)
      rw [e_X11_turn_59 hF hn e2 (by omega) (by omega), o, if_neg zm1_nle] at k2
      exact zOK_same hR (-1) h10 k2
    · rw [o, if_pos (nI_pos' (by omega))] at h10
      by_cases j1 : nI j = 1
      · rw [if_pos j1] at h10
        have hs : ∀ k i c, 60 ≤ k → (zwi (zwi σ 51 0 j (nI h)) 0 0 15 1).1 k i c = σ.1 k i c := fun k i c hk => by simp [zwi, zu, show ¬ k = 51 by omega, show ¬ k = 0 by omega]
        have k2 := h11 (zwi (zwi σ 51 0 j (nI h)) 0 0 15 1) hs (by rw [zmx_w2 (by omega), zmx_w (by omega)])
        rw [e_X11_turn_59 hF hn ((hs 60 0 1 (by omega)).trans e2) (by omega) (by omega), zc _ hs, o, if_pos (nI_pos' (by omega)), if_pos j1] at k2
        refine ⟨_, _, _, h10, k2, ?_⟩
        have jj : j = 1 := (nI_eq (a := j) (b := 1) (by omega) (by omega)).mp j1
        subst jj
        have hl2 : nI h < σ.1 60 0 1 := by rw [e2]; exact (nI_ltI (by omega) (by omega)).mpr hh
        have hl3 : (0 : Int32) ≤ nI h := nI_pos' (by omega)
        obtain ⟨hh, hr, hw, hk, ha, hd, hl, hc, ht, hb, hQ⟩ := hR
        refine ⟨?_, ?_, ?_, ?_, ?_, ?_, ?_, ?_, ?_, ?_, ?_⟩
        · simpa [zRh, zwi, zu] using hh
        · simpa [zRr, zwi, zu] using hr
        · simpa [zRw, zwi, zu] using hw
        · simpa [zRk, zwi, zu] using hk
        · simpa [zRa, zwi, zu] using ha
        · simpa [zRd, zwi, zu] using hd
        · simpa [zRl, zwi, zu] using hl
        · obtain ⟨p1, p2, p3, p4, p5, p6, p7⟩ := hc
          refine ⟨by simpa [zwi, zu] using p1, by simpa [zwi, zu] using p2, by simpa [zwi, zu] using p3, fun k hk => ?_, by simp [zwi, zu], Or.inr (by simp [zwi, zu]), by simpa [zwi, zu] using p7⟩
          by_cases e : k = 1
          · subst e
            refine ⟨by simp [zwi, zu], Or.inr ⟨by simpa [zwi, zu] using hl3, by simpa [zwi, zu] using hl2⟩⟩
          · simpa [zwi, zu, e] using p4 k hk
        · simpa [zRt, zwi, zu] using ht
        · simpa [zRb, zwi, zu] using hb
        · simpa [zRz, zwi, zu] using hQ
      · rw [if_neg j1] at h10
        have hs : ∀ k i c, 60 ≤ k → (zwi σ 51 0 j (nI h)).1 k i c = σ.1 k i c := fun k i c hk => by simp [zwi, zu, show ¬ k = 51 by omega]
        have k2 := h11 (zwi σ 51 0 j (nI h)) hs (zmx_w (by omega))
        rw [e_X11_turn_59 hF hn ((hs 60 0 1 (by omega)).trans e2) (by omega) (by omega), zc _ hs, o, if_pos (nI_pos' (by omega)), if_neg j1] at k2
        refine ⟨_, _, _, h10, k2, ?_⟩
        have jj : ¬ 1 = j := fun q => j1 (by rw [← q]; rfl)
        have hl2 : nI h < σ.1 60 0 1 := by rw [e2]; exact (nI_ltI (by omega) (by omega)).mpr hh
        have hl3 : (0 : Int32) ≤ nI h := nI_pos' (by omega)
        obtain ⟨hh, hr, hw, hk, ha, hd, hl, hc, ht, hb, hQ⟩ := hR
        refine ⟨?_, ?_, ?_, ?_, ?_, ?_, ?_, ?_, ?_, ?_, ?_⟩
        · simpa [zRh, zwi, zu] using hh
        · simpa [zRr, zwi, zu] using hr
        · simpa [zRw, zwi, zu] using hw
        · simpa [zRk, zwi, zu] using hk
        · simpa [zRa, zwi, zu] using ha
        · simpa [zRd, zwi, zu] using hd
        · simpa [zRl, zwi, zu] using hl
        · obtain ⟨p1, p2, p3, p4, p5, p6, p7⟩ := hc
          refine ⟨by simpa [zwi, zu] using p1, by simpa [zwi, zu] using p2, by simpa [zwi, zu] using p3, fun k hk => ?_, by simpa [zwi, zu] using p5, by simpa [zwi, zu, jj] using p6, by simpa [zwi, zu] using p7⟩
          by_cases e : k = j
          · subst e
            refine ⟨by simp [zwi, zu], Or.inr ⟨by simpa [zwi, zu] using hl3, by simpa [zwi, zu] using hl2⟩⟩
          · simpa [zwi, zu, e] using p4 k hk
        · simpa [zRt, zwi, zu] using ht
        · simpa [zRb, zwi, zu] using hb
        · simpa [zRz, zwi, zu] using hQ
  by_cases j1 : nI j = 1
  · have jj : j = 1 := (nI_eq (a := j) (b := 1) (by omega) (by omega)).mp j1
    subst jj
    rcases q2 with q | ⟨q, q3⟩
    · refine fin ?_ fun s hs hs2 => ?_
      · unfold f_X10_turn
        have nh : f_X10_isHouse F σ (σ.1 51 0 1) = some (0, σ) := by
          rw [q1, q]
          exact n_X10_isHouse e1 F (Or.inl (by decide))
        rw [if_neg x1, if_pos x3, zg_i i1, if_pos j1, i2, nh, zb_s, if_pos rfl, el1]
      · unfold f_X11_turn
        rw [e_X11_in, if_neg x1, if_neg x2, zb_s, if_neg (by decide), zg_i i1, if_pos j1, i2, hs 103 _ _ (by omega), q, if_pos (by decide), ← el, q]
    · obtain ⟨h, hh, eh⟩ := nI_of (Int32.not_lt.mpr q)
      have hn2 : h < n := by
        rw [eh, e2] at q3
        exact (nI_ltI (by omega) (by omega)).mp q3
      have hh0 : ¬ nI h < 0 := nI_pos (by omega)
      have hh1 : ¬ nI n ≤ nI h := nle_s hn2 (by omega)
      have eh1 : σ.1 51 0 1 = nI h := q1.trans eh
      have i3 := inb_n (show h < 10 by omega) (by omega)
      have i4 := nI_clamp (show h < 2 ^ 31 by omega)
      obtain ⟨nw, hnw, w1, w2⟩ := zRw_n hR.2.2.1
      have v10 := e_X10_worthNow hR.2.2.1 (show h < 10 by omega) hF hnw w1 (key := 7) (by decide)
      have dd := hR.2.2.2.2.1.2.1
      have vv : zval σ (fun j => σ.1 3 h j) nw 7 (σ.1 0 0 11) (σ.1 0 0 11) = zval σ (fun j => σ.1 62 h j) nw 7 (σ.1 60 0 0) (σ.1 60 0 0) := by
        rw [dd]
        exact zval_c (fun j hj => hR.1.2.2.1 h j (by omega) hj) _ _ _ _
      rw [vv] at v10
      have v11 := e_X11_now hR.2.2.1 (show h < 10 by omega) hF hnw w2 (key := 7) (by decide)
      have vb := zval_b hR.2.2.1 w1 hnw hR.2.2.2.2.2.2.2.2.2.2.2.2.1 (key := 7) (by decide) (fun j => σ.1 62 h j) (σ.1 60 0 0) (σ.1 60 0 0)
      generalize hv : zval σ (fun j => σ.1 62 h j) nw 7 (σ.1 60 0 0) (σ.1 60 0 0) = v at v10 v11 vb
      have r1 : (1 : Int32) ≤ σ.1 60 0 50 := by
        rcases c6 with c6 | c6
        · exfalso
          rw [eh] at c6
          exact zm1_ne (by omega) c6
        · exact c6
      have mx : zmax 1 v ≤ σ.1 60 0 50 ↔ v ≤ σ.1 60 0 50 := by
        unfold zmax
        by_cases c : 1 < v
        · rw [if_pos c]
        · rw [if_neg c]
          exact ⟨fun _ => Int32.le_trans (Int32.not_lt.mp c) r1, fun _ => r1⟩
      by_cases c : v ≤ σ.1 60 0 50
      · refine fin ?_ fun s hs hs2 => ?_
        · unfold f_X10_turn
          rw [if_neg x1, if_pos x3, zg_i i1, if_pos j1, i2, eh1, e_X10_isHouse e1 F hh0 hh1, zb_s, if_neg (by decide), zg_i i3, i4, v10, zb_s, c5, if_pos c, ← eh1, el1]
        · have hW : f_X11_now F s (nI h) 7 = some (v, s) := by
            have := y_X11_now s F σ (nI h) 7
            rw [v11, hs2] at this
            rw [this]
            show some (v, zmx s σ) = _
            rw [hs2]
          unfold f_X11_turn
          rw [e_X11_in, if_neg x1, if_neg x2, zb_s, if_neg (by decide), zg_i i1, if_pos j1, i2, hs 103 _ _ (by omega), eh, if_neg hh0, hW, zb_s, hs 60 _ _ (by omega), if_pos (mx.mpr c), ← eh, el]
      · refine ⟨nI h, zwi σ 0 0 15 (σ.1 60 0 50 + 1), zwi (zwi σ 0 0 15 (σ.1 60 0 50 + 1)) 60 0 50 (σ.1 60 0 50 + 1), ?_, ?_, ?_⟩
        · show f_X10_turn F σ (nI 1) = _
          unfold f_X10_turn
          rw [if_neg x1, if_pos x3, zg_i i1, if_pos j1, i2, eh1, e_X10_isHouse e1 F hh0 hh1, zb_s, if_neg (by decide), zg_i i3, i4, v10, zb_s, c5, if_neg c]
        · show f_X11_turn F _ (nI 1) = _
          have hW : f_X11_now F (zwi σ 0 0 15 (σ.1 60 0 50 + 1)) (nI h) 7 = some (v, zwi σ 0 0 15 (σ.1 60 0 50 + 1)) := by
            have := y_X11_now (zwi σ 0 0 15 (σ.1 60 0 50 + 1)) F σ (nI h) 7
            rw [v11, zmx_w (by omega)] at this
            rw [this]
            show some (v, zmx (zwi σ 0 0 15 (σ.1 60 0 50 + 1)) σ) = _
            rw [zmx_w (by omega)]
          unfold f_X11_turn
          rw [e_X11_in, if_neg x1, if_neg x2, zb_s, if_neg (by decide), zg_i i1, if_pos j1, i2, show (zwi σ 0 0 15 (σ.1 60 0 50 + 1)).1 103 0 1 = σ.1 103 0 1 by simp [zwi, zu], eh, if_neg hh0, hW, zb_s, show (zwi σ 0 0 15 (σ.1 60 0 50 + 1)).1 60 0 50 = σ.1 60 0 50 by simp [zwi, zu], if_neg (fun q => c (mx.mp q))]
        · have r2 : (1 : Int32) ≤ σ.1 60 0 50 + 1 := by
            have c1 := Int32.not_le.mp c
            rw [Int32.lt_iff_toInt_lt] at c1
            rw [Int32.le_iff_toInt_le] at r1 ⊢
            have k1 : (1 : Int32).toInt = 1 := rfl
            have b2 := vb.2
            rw [t_add (by omega) (by omega)]
            omega
          obtain ⟨hh, hr, hw, hk, ha, hd, hl, hc, ht, hb, hQ⟩ := hR
          refine ⟨?_, ?_, ?_, ?_, ?_, ?_, ?_, ?_, ?_, ?_, ?_⟩
          · simpa [zRh, zwi, zu] using hh
          · simpa [zRr, zwi, zu] using hr
          · simpa [zRw, zwi, zu] using hw
          · simpa [zRk, zwi, zu] using hk
          · simpa [zRa, zwi, zu] using ha
          · simpa [zRd, zwi, zu] using hd
          · simpa [zRl, zwi, zu] using hl
          · obtain ⟨p1, p2, p3, p4, p5, p6, p7⟩ := hc
            refine ⟨by simpa [zwi, zu] using p1, by simpa [zwi, zu] using p2, by simpa [zwi, zu] using p3, by simpa [zwi, zu] using p4, by simp [zwi, zu], Or.inr ?_, by simpa [zwi, zu] using p7⟩
            simpa [zwi, zu] using r2
          · simpa [zRt, zwi, zu] using ht
          · simpa [zRb, zwi, zu] using hb
          · simpa [zRz, zwi, zu] using hQ
  · refine fin ?_ fun s hs hs2 => ?_
    · unfold f_X10_turn
      rw [if_neg x1, if_pos x3, zg_i i1, if_neg j1, i2, el1]
    · unfold f_X11_turn
      rw [e_X11_in, if_neg x1, if_neg x2, zb_s, if_neg (by decide), zg_i i1, if_neg j1, i2, hs 103 _ _ (by omega), el]
