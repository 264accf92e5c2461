theorem zwi_cm {σ : zMem} {k i j k2 i2 j2 : Nat} {v v2 : Int32} (h : ¬ (k = k2 ∧ i = i2 ∧ j = j2)) : zwi (zwi σ k i j v) k2 i2 j2 v2 = zwi (zwi σ k2 i2 j2 v2) k i j v := by
  refine Prod.ext ?_ rfl
  funext a b c
  simp only [zwi, zu]
  by_cases q : a = k ∧ b = i ∧ c = j
  · obtain ⟨rfl, rfl, rfl⟩ := q
    rw [if_neg h, if_pos ⟨rfl, rfl, rfl⟩, if_pos ⟨rfl, rfl, rfl⟩]
  · rw [if_neg q, if_neg q]
theorem zsz_mem {f : Nat → Int} : ∀ {n : Nat}, (∀ i, i < n → 0 ≤ f i) → ∀ k, k < n → f k ≤ zsz f n
  | 0, _, k, h => by omega
  | n + 1, h, k, hk => by
    show f k ≤ zsz f n + f n
    have h1 := h n (by omega)
    have h2 := zsz_0 (f := f) (n := n) fun i hi => h i (by omega)
    by_cases e : k = n
    · subst e
      omega
    · have := zsz_mem (f := f) (n := n) (fun i hi => h i (by omega)) k (by omega)
      omega
theorem zparts_0 {σ : zMem} (hR : zRel σ) {r : Nat} (hr : r < 50) : 0 ≤ (σ.1 75 0 r).toInt := by
  have := Int32.le_iff_toInt_le.mp (hR.2.1.2.2.2 r hr).2.2
  have o : (0 : Int32).toInt = 0 := rfl
  omega
/-- PARTS of one right told anew on both sides -/
theorem p_parts {σ : zMem} (hR : zRel σ) {r : Nat} (hr9 : r < 50) {x : Int32} (x0 : 0 ≤ x.toInt) (xs : zsz (fun r => (σ.1 75 0 r).toInt) 50 - (σ.1 75 0 r).toInt + x.toInt ≤ 999 * (σ.1 60 0 12).toInt) : zRel (zwi (zwi σ 8 0 r x) 75 0 r x) ∧ zsz (fun z => ((zwi (zwi σ 8 0 r x) 75 0 r x).1 75 0 z).toInt) 50 = zsz (fun r => (σ.1 75 0 r).toInt) 50 - (σ.1 75 0 r).toInt + x.toInt := by
  have ks : zsz (fun z => ((zwi (zwi σ 8 0 r x) 75 0 r x).1 75 0 z).toInt) 50 = zsz (fun r => (σ.1 75 0 r).toInt) 50 - (σ.1 75 0 r).toInt + x.toInt := by
    rw [← zsz_u (fun r => (σ.1 75 0 r).toInt) hr9]
    refine zsz_c fun z _ => ?_
    by_cases e : z = r
    · subst e
      simp [zwi, zu]
    · simp [zwi, zu, e]
  refine ⟨?_, ks⟩
  obtain ⟨hh, hr, hw, hk, ha, hd, hl, hc, ht, hb, hQ⟩ := hR
  refine ⟨?_, ?_, ?_, ?_, ?_, ?_, ?_, ?_, ?_, ?_, ?_⟩
  · simpa [zRh, zwi, zu] using hh
  · obtain ⟨p1, p2, p3, p4⟩ := hr
    refine ⟨by simpa [zwi, zu] using p1, by simpa [zwi, zu] using p2, fun z hz => ?_, fun z hz => ?_⟩
    · have := p3 z hz
      by_cases e : z = r
      · subst e
        simpa [zwi, zu] using (⟨this.1, this.2.1, this.2.2.2⟩ : _ ∧ _ ∧ _)
      · simpa [zwi, zu, e] using this
    · have := p4 z hz
      by_cases e : z = r
      · subst e
        have x1 : (0 : Int32) ≤ x := Int32.le_iff_toInt_le.mpr x0
        simpa [zwi, zu] using (⟨this.1, this.2.1, x1⟩ : _ ∧ _ ∧ _)
      · simpa [zwi, zu, e] using this
  · simpa [zRw, zwi, zu] using hw
  · simpa [zRk, zwi, zu] using hk
  · simpa [zRa, zwi, zu] using ha
  · simpa [zRd, zwi, zu] using hd
  · simpa [zRl, zwi, zu] using hl
  · simpa [zRc, zwi, zu] using hc
  · simpa [zRt, zwi, zu] using ht
  · simpa [zRb, zwi, zu] using hb
  · obtain ⟨y1, y2, y3, y4, y5, y6, y7, y8, y9, y10⟩ := hQ
    refine ⟨by simpa [zwi, zu] using y1, by simpa [zwi, zu] using y2, by simpa [zwi, zu] using y3, ?_, by simpa [zwi, zu] using y5, by simpa [zwi, zu] using y6, by simpa [zwi, zu] using y7, by simpa [zwi, zu] using y8, by simpa [zwi, zu] using y9, by simpa [zwi, zu] using y10⟩
    · rw [ks]
      simpa [zwi, zu] using xs
theorem zcom_n (k : Int32) : zcom k < 0 ↔ zcom k = -1 := by
  unfold zcom
  by_cases h1 : k = 1
  · subst h1
    decide
  by_cases h2 : k = 4
  · subst h2
    decide
  by_cases h3 : k = 2
  · subst h3
    decide
  by_cases h4 : k = 3
  · subst h4
    decide
  · rw [if_neg h1, if_neg h2, if_neg h3, if_neg h4]
    decide
theorem zcom_2 (k : Int32) : zcom k = 2 ↔ k = 3 := by
  unfold zcom
  by_cases h1 : k = 1
  · subst h1
    decide
  by_cases h2 : k = 4
  · subst h2
    decide
  by_cases h3 : k = 2
  · subst h3
    decide
  by_cases h4 : k = 3
  · subst h4
    decide
  · rw [if_neg h1, if_neg h2, if_neg h3, if_neg h4]
    simp [h4]
theorem a_join {σ : zMem} (hR : zRel σ) (F : Nat) (x y : Int32) : zOK (fun σ => f_X10_join F σ x y) (fun σ => f_X11_join F σ x y) σ := by
  obtain ⟨⟨n, hn, e1, f1⟩, e2, g3, g4⟩ := id hR.2.1
  have e2 := e2.trans e1
  rcases zix (n := n) (by omega) x with ⟨r, hr, rfl, a1, a2, a3, a4⟩ | ⟨_, a⟩
  · rcases zix (n := n) (by omega) y with ⟨o, ho, rfl, b1, b2, b3, b4⟩ | ⟨_, b⟩
    · by_cases ro : r = o
      · subst ro
        refine zOK_same hR (-2) ?_ ?_
        · simp only [f_X10_join]
          rw [e_X3_has e1 F a1 a2, zb_s, if_neg (by decide), e_X3_has e1 F a1 a2, zb_s, if_neg (by decide), if_pos trivial]
        · simp only [f_X11_join]
          rw [e_X11_isRight e2 F a1 a3, zb_s, if_neg (by decide), e_X11_isRight e2 F a1 a3, zb_s, if_neg (by decide), if_pos trivial]
      have ne : ¬ nI r = nI o := fun q => ro ((nI_eq (by omega) (by omega)).mp q)
      have i1 := inb_n (show r < 50 by omega) (by omega)
      have i2 := nI_clamp (show r < 2 ^ 31 by omega)
      have i3 := inb_n (show o < 50 by omega) (by omega)
      have i4 := nI_clamp (show o < 2 ^ 31 by omega)
      obtain ⟨q1, q2, q3, -⟩ := g3 r (by omega)
      obtain ⟨p1, p2, p3, -⟩ := g3 o (by omega)
      obtain ⟨k1, k2, k3⟩ := g4 r (by omega)
      obtain ⟨l1, l2, l3⟩ := g4 o (by omega)
      have c1 := e_X3_commonOf (σ := σ) (r := r) F (by omega) (by rw [q1]; exact k1) (by rw [q1]; exact k2)
      have c2 := e_X3_commonOf (σ := σ) (r := o) F (by omega) (by rw [p1]; exact l1) (by rw [p1]; exact l2)
      rw [q1] at c1
      rw [p1] at c2
      have d1 := e_X3_isLent (σ := σ) (r := r) F (by omega) (σ.1 0 0 11)
      have d2 := e_X3_isLent (σ := σ) (r := o) F (by omega) (σ.1 0 0 11)
      simp only [(zlent hR (show r < 50 by omega)).1] at d1
      simp only [(zlent hR (show o < 50 by omega)).1] at d2
      have start10 : f_X10_join F σ (nI r) (nI o) = zb (f_X3_joinable F σ (nI r) (nI o) (σ.1 0 0 11)) fun r42 m42 => if r42 = 0 then (some ((-3), m42)) else (zg (inb (nI o) 50) (zg (inb (nI r) 50) (zg (inb (nI o) 50) (zg (inb (nI r) 50) (zg (inb (nI o) 50) (some (((zwi (zwi m42 8 0 (nI o).toNatClampNeg (((m42.1 8 0 (nI o).toNatClampNeg) + (m42.1 8 0 (nI r).toNatClampNeg)))) 8 0 (nI r).toNatClampNeg 0).1 8 0 (nI o).toNatClampNeg), (zwi (zwi m42 8 0 (nI o).toNatClampNeg (((m42.1 8 0 (nI o).toNatClampNeg) + (m42.1 8 0 (nI r).toNatClampNeg)))) 8 0 (nI r).toNatClampNeg 0)))))))) := by
        simp only [f_X10_join]
        rw [e_X3_has e1 F a1 a2, zb_s, if_neg (by decide), e_X3_has e1 F b1 b2, zb_s, if_neg (by decide), if_neg ne]
      have s11 : ∀ s : zMem, s.1 60 0 12 = nI n → f_X11_isRight F s (nI r) = some (1, s) ∧ f_X11_isRight F s (nI o) = some (1, s) := fun s hs => ⟨e_X11_isRight hs F a1 a3, e_X11_isRight hs F b1 b3⟩
      have bad : ∀ (h1 : f_X3_joinable F σ (nI r) (nI o) (σ.1 0 0 11) = some (0, σ)) (h2 : f_X11_join F σ (nI r) (nI o) = some (-3, σ)), zOK (fun σ => f_X10_join F σ (nI r) (nI o)) (fun σ => f_X11_join F σ (nI r) (nI o)) σ := by
        intro h1 h2
        refine zOK_same hR (-3) ?_ h2
        show f_X10_join F σ (nI r) (nI o) = _
        rw [start10, h1]
        rfl
      by_cases w1 : zcom (σ.1 73 0 r) = -1
      · exact bad (by simp [f_X3_joinable, c1, zb, zg, w1, show ((-1 : Int32) < 0) = True by decide]) (by simp [f_X11_join, (s11 σ e2).1, (s11 σ e2).2, zb, zg, ne, i1, i2, e_X11_commonOf, w1])
      have w1' : ¬ zcom (σ.1 73 0 r) < 0 := fun q => w1 ((zcom_n _).mp q)
      by_cases w2 : ¬ (zcom (σ.1 73 0 r) = zcom (σ.1 73 0 o))
      · exact bad (by simp [f_X3_joinable, c1, c2, zb, zg, w1', w2]) (by simp [f_X11_join, (s11 σ e2).1, (s11 σ e2).2, zb, zg, ne, i1, i2, i3, i4, e_X11_commonOf, w1, w2])
      have w2 := Decidable.not_not.mp w2
      by_cases w3 : ¬ (σ.1 74 0 r = σ.1 74 0 o)
      · exact bad (by simp [f_X3_joinable, c1, c2, zb, zg, w1', ← w2, i1, i2, i3, i4, q2, p2, w3]) (by simp [f_X11_join, (s11 σ e2).1, (s11 σ e2).2, zb, zg, ne, i1, i2, i3, i4, e_X11_commonOf, w1, ← w2, w3])
      have w3 := Decidable.not_not.mp w3
      by_cases w4 : ¬ (σ.1 77 0 r ≤ σ.1 60 0 0)
      · exact bad (by simp [f_X3_joinable, c1, c2, d1, zb, zg, w1', ← w2, i1, i2, i3, i4, q2, p2, w3, w4]) (by simp [f_X11_join, (s11 σ e2).1, (s11 σ e2).2, zb, zg, ne, i1, i2, i3, i4, e_X11_commonOf, e_X11_lent F (show r < 50 by omega), w1, ← w2, w3, w4])
      have w4 := Decidable.not_not.mp w4
      by_cases w5 : ¬ (σ.1 77 0 o ≤ σ.1 60 0 0)
      · exact bad (by simp [f_X3_joinable, c1, c2, d1, d2, zb, zg, w1', ← w2, i1, i2, i3, i4, q2, p2, w3, w4, w5]) (by simp [f_X11_join, (s11 σ e2).1, (s11 σ e2).2, zb, zg, ne, i1, i2, i3, i4, e_X11_commonOf, e_X11_lent F (show r < 50 by omega), e_X11_lent F (show o < 50 by omega), w1, ← w2, w3, w4, w5])
      have w5 := Decidable.not_not.mp w5
      have t0 : (0 : Int32).toInt = 0 := rfl
      have r0 := zparts_0 hR (show r < 50 by omega)
      have o0 := zparts_0 hR (show o < 50 by omega)
      have le0 : ∀ x : Int32, 0 ≤ x.toInt → (x ≤ 0 ↔ x = 0) := fun x hx => by
        rw [Int32.le_iff_toInt_le, ← Int32.toInt_inj]
        omega
      by_cases w6 : σ.1 75 0 r = 0
      · exact bad (by simp [f_X3_joinable, c1, c2, d1, d2, zb, zg, w1', ← w2, i1, i2, i3, i4, q2, p2, q3, w3, w4, w5, w6]) (by simp [f_X11_join, (s11 σ e2).1, (s11 σ e2).2, zb, zg, ne, i1, i2, i3, i4, e_X11_commonOf, e_X11_lent F (show r < 50 by omega), e_X11_lent F (show o < 50 by omega), w1, ← w2, w3, w4, w5, w6])
      have w6' : ¬ σ.1 75 0 r ≤ 0 := fun q => w6 ((le0 _ r0).mp q)
      by_cases w7 : σ.1 75 0 o = 0
      · exact bad (by simp [f_X3_joinable, c1, c2, d1, d2, zb, zg, w1', ← w2, i1, i2, i3, i4, q2, p2, q3, p3, w3, w4, w5, w6', w7]) (by simp [f_X11_join, (s11 σ e2).1, (s11 σ e2).2, zb, zg, ne, i1, i2, i3, i4, e_X11_commonOf, e_X11_lent F (show r < 50 by omega), e_X11_lent F (show o < 50 by omega), w1, ← w2, w3, w4, w5, w6, w7])
      have w7' : ¬ σ.1 75 0 o ≤ 0 := fun q => w7 ((le0 _ o0).mp q)
      have good : f_X3_joinable F σ (nI r) (nI o) (σ.1 0 0 11) = some (1, σ) := by simp [f_X3_joinable, c1, c2, d1, d2, zb, zg, w1', ← w2, i1, i2, i3, i4, q2, p2, q3, p3, w3, w4, w5, w6', w7']
      refine zOK_i (σ.1 75 0 o + σ.1 75 0 r) (zwi (zwi σ 8 0 o (σ.1 75 0 o + σ.1 75 0 r)) 8 0 r 0) (zwi (zwi (zwi (zwi σ 8 0 o (σ.1 75 0 o + σ.1 75 0 r)) 8 0 r 0) 75 0 o (σ.1 75 0 o + σ.1 75 0 r)) 75 0 r 0) ?_ ?_ ?_
      · show f_X10_join F σ (nI r) (nI o) = _
        rw [start10, good, zb_s, if_neg (by decide)]
        simp [zg, i1, i2, i3, i4, q3, p3, zwi, zu, ro, Ne.symm (show r ≠ o from ro)]
      · have s3 := s11 (zwi (zwi σ 8 0 o (σ.1 75 0 o + σ.1 75 0 r)) 8 0 r 0) (by simpa [zwi, zu] using e2)
        have m1 := e_X11_lent (σ := zwi (zwi σ 8 0 o (σ.1 75 0 o + σ.1 75 0 r)) 8 0 r 0) F (show r < 50 by omega)
        have m2 := e_X11_lent (σ := zwi (zwi σ 8 0 o (σ.1 75 0 o + σ.1 75 0 r)) 8 0 r 0) F (show o < 50 by omega)
        rw [show (zwi (zwi σ 8 0 o (σ.1 75 0 o + σ.1 75 0 r)) 8 0 r 0).1 77 0 r = σ.1 77 0 r by simp [zwi, zu], show (zwi (zwi σ 8 0 o (σ.1 75 0 o + σ.1 75 0 r)) 8 0 r 0).1 60 0 0 = σ.1 60 0 0 by simp [zwi, zu], if_pos w4] at m1
        rw [show (zwi (zwi σ 8 0 o (σ.1 75 0 o + σ.1 75 0 r)) 8 0 r 0).1 77 0 o = σ.1 77 0 o by simp [zwi, zu], show (zwi (zwi σ 8 0 o (σ.1 75 0 o + σ.1 75 0 r)) 8 0 r 0).1 60 0 0 = σ.1 60 0 0 by simp [zwi, zu], if_pos w5] at m2
        simp only [f_X11_join]
        rw [s3.1, zb_s, if_neg (by decide), s3.2, zb_s, if_neg (by decide), if_neg ne, zg_i i1, i2, e_X11_commonOf, zb_s, show (zwi (zwi σ 8 0 o (σ.1 75 0 o + σ.1 75 0 r)) 8 0 r 0).1 73 0 r = σ.1 73 0 r by simp [zwi, zu], if_neg w1, zg_i i3, i4, e_X11_commonOf, zb_s, show (zwi (zwi σ 8 0 o (σ.1 75 0 o + σ.1 75 0 r)) 8 0 r 0).1 73 0 o = σ.1 73 0 o by simp [zwi, zu], if_pos w2, zg_i i1, zg_i i3, if_pos (by simpa [zwi, zu] using w3), m1, zb_s, if_pos rfl, m2, zb_s, if_pos rfl]
        simp [zg, i1, i3, w6, w7, zwi, zu, ro, Ne.symm (show r ≠ o from ro)]
      · have u1 := p_parts hR (show r < 50 by omega) (x := 0) (Int.le_refl 0) (by have := hR.2.2.2.2.2.2.2.2.2.2.2.2.2.1; omega)
        have u2 := zsz_mem (f := fun z => ((zwi (zwi σ 8 0 r 0) 75 0 r 0).1 75 0 z).toInt) (n := 50) (fun i hi => zparts_0 u1.1 hi) o (by omega)
        have u3 : (zwi (zwi σ 8 0 r 0) 75 0 r 0).1 75 0 o = σ.1 75 0 o := by simp [zwi, zu, Ne.symm (show r ≠ o from ro)]
        have u4 : (zwi (zwi σ 8 0 r 0) 75 0 r 0).1 60 0 12 = nI n := by simpa [zwi, zu] using e2
        have y4 := hR.2.2.2.2.2.2.2.2.2.2.2.2.2.1
        rw [e2, nI_toInt (by omega)] at y4
        simp only [u3] at u2
        rw [u1.2] at u2
        have u5 : (σ.1 75 0 o + σ.1 75 0 r).toInt = (σ.1 75 0 o).toInt + (σ.1 75 0 r).toInt := t_add (by omega) (by omega)
        have u6 := p_parts u1.1 (show o < 50 by omega) (x := σ.1 75 0 o + σ.1 75 0 r) (by omega) (by rw [u1.2, u3, u4, nI_toInt (by omega)]; omega)
        have u7 := u6.1
        rw [zwi_cm (k := 75) (j := r) (k2 := 8) (j2 := o) (by omega), zwi_cm (k := 8) (j := r) (k2 := 8) (j2 := o) (by omega), zwi_cm (k := 75) (j := r) (k2 := 75) (j2 := o) (by omega)] at u7
        exact u7
    · refine zOK_same hR (-1) ?_ ?_
      · simp only [f_X10_join]
        rw [e_X3_has e1 F a1 a2, zb_s, if_neg (by decide), n_X3_has e1 F b]
        simp [zb]
      · simp only [f_X11_join]
        rw [e_X11_isRight e2 F a1 a3, zb_s, if_neg (by decide), n_X11_isRight e2 F b]
        simp [zb]
  · refine zOK_same hR (-1) ?_ ?_
    · simp only [f_X10_join]
      rw [n_X3_has e1 F a]
      simp [zb]
    · simp only [f_X11_join]
      rw [n_X11_isRight e2 F a]
      simp [zb]
theorem zlt_p {p v : Int32} (hp : 0 ≤ p.toInt) : p - 1 < v ↔ ¬ v < p := by
  have k : (1 : Int32).toInt = 1 := rfl
  have b := Int32.toInt_lt p
  rw [Int32.lt_iff_toInt_lt, Int32.lt_iff_toInt_lt, t_sub (by omega) (by omega)]
  omega
theorem a_split {σ : zMem} (hR : zRel σ) (F : Nat) (x v : Int32) : zOK (fun σ => f_X10_split F σ x v) (fun σ => f_X11_split F σ x v) σ := by
  obtain ⟨⟨n, hn, e1, f1⟩, e2, g3, g4⟩ := id hR.2.1
  have e2 := e2.trans e1
  rcases zix (n := n) (by omega) x with ⟨r, hr, rfl, a1, a2, a3, a4⟩ | ⟨_, a⟩
  · have i1 := inb_n (show r < 50 by omega) (by omega)
    have i2 := nI_clamp (show r < 2 ^ 31 by omega)
    obtain ⟨q1, q2, q3, -⟩ := g3 r (by omega)
    obtain ⟨k1, k2, k3⟩ := g4 r (by omega)
    have c1 := e_X3_commonOf (σ := σ) (r := r) F (by omega) (by rw [q1]; exact k1) (by rw [q1]; exact k2)
    rw [q1] at c1
    have d1 := e_X3_isLent (σ := σ) (r := r) F (by omega) (σ.1 0 0 11)
    simp only [(zlent hR (show r < 50 by omega)).1] at d1
    have h10 := e_X3_has e1 F a1 a2
    have h11 := e_X11_isRight e2 F a1 a3
    have m1 := e_X11_lent (σ := σ) F (show r < 50 by omega)
    have r0 := zparts_0 hR (show r < 50 by omega)
    by_cases v1 : v < 1
    · exact zOK_same hR (-2) (by simp [f_X10_split, h10, zb, v1]) (by simp [f_X11_split, h11, zb, zg, i1, e_X11_in, v1])
    by_cases v2 : ¬ v < σ.1 75 0 r
    · exact zOK_same hR (-2) (by simp [f_X10_split, h10, zb, zg, i1, i2, v1, q3, v2]) (by simp [f_X11_split, h11, zb, zg, i1, i2, e_X11_in, v1, (zlt_p r0).mpr v2])
    have v2 := Decidable.not_not.mp v2
    have v2' : ¬ σ.1 75 0 r - 1 < v := fun q => (zlt_p r0).mp q v2
    by_cases w1 : zcom (σ.1 73 0 r) = -1
    · exact zOK_same hR (-3) (by simp [f_X10_split, h10, c1, zb, zg, i1, i2, v1, q3, v2, w1, show ((-1 : Int32) < 0) = True by decide]) (by simp [f_X11_split, h11, zb, zg, i1, i2, e_X11_in, v1, v2', e_X11_commonOf, w1])
    have w1' : ¬ zcom (σ.1 73 0 r) < 0 := fun q => w1 ((zcom_n _).mp q)
    by_cases w4 : ¬ σ.1 77 0 r ≤ σ.1 60 0 0
    · exact zOK_same hR (-3) (by simp [f_X10_split, h10, c1, d1, zb, zg, i1, i2, v1, q3, v2, w1', w4]) (by simp [f_X11_split, h11, zb, zg, i1, i2, e_X11_in, v1, v2', e_X11_commonOf, w1, m1, w4])
    have w4 := Decidable.not_not.mp w4
    by_cases n50 : n = 50
    · subst n50
      exact zOK_same hR (-4) (by simp [f_X10_split, h10, c1, d1, zb, zg, i1, i2, v1, q3, v2, w1', w4, e1, show ¬ nI 50 < 50 by decide]) (by simp [f_X11_split, h11, zb, zg, i1, i2, e_X11_in, v1, v2', e_X11_commonOf, w1, m1, w4, e2, show nI 50 = 50 by rfl])
    have o1 : nI n < 50 := (nI_ltI (a := n) (b := 50) (by omega) (by omega)).mpr (by omega)
    have o2 : ¬ nI n = 50 := fun q => n50 ((nI_eq (a := n) (b := 50) (by omega) (by omega)).mp q)
    have t1 : (1 : Int32).toInt = 1 := rfl
    have b1 : ¬ v.toInt < (1 : Int32).toInt := fun q => v1 (Int32.lt_iff_toInt_lt.mpr q)
    have b2 := Int32.lt_iff_toInt_lt.mp v2
    have b3 := Int32.toInt_lt (σ.1 75 0 r)
    have b4 : (σ.1 75 0 r - v).toInt = (σ.1 75 0 r).toInt - v.toInt := t_sub (by omega) (by omega)
    have y4 := hR.2.2.2.2.2.2.2.2.2.2.2.2.2.1
    have u1 := p_parts hR (show r < 50 by omega) (x := σ.1 75 0 r - v) (by omega) (by omega)
    have u2 : (zwi (zwi σ 8 0 r (σ.1 75 0 r - v)) 75 0 r (σ.1 75 0 r - v)).1 5 0 5 = nI n := by simpa [zwi, zu] using e1
    have ks : (if zcom (σ.1 73 0 r) = 0 then (4 : Int32) else σ.1 73 0 r) = if σ.1 73 0 r = 1 then 4 else σ.1 73 0 r := by
      obtain ⟨j, hj, ej⟩ := zk6 k1 k2
      rw [ej]
      rcases j with _ | _ | _ | _ | _ | _ | j
      · rfl
      · rfl
      · rfl
      · rfl
      · rfl
      · rfl
      · omega
    have kb : (0 : Int32) ≤ (if zcom (σ.1 73 0 r) = 0 then (4 : Int32) else σ.1 73 0 r) ∧ (if zcom (σ.1 73 0 r) = 0 then (4 : Int32) else σ.1 73 0 r) ≤ 5 := by
      by_cases q : zcom (σ.1 73 0 r) = 0
      · rw [if_pos q]
        decide
      · rw [if_neg q]
        exact ⟨k1, k2⟩
    rw [e2, nI_toInt (by omega)] at y4
    have u3 := p_right u1.1 (n := n) (by omega) u2 (k := if zcom (σ.1 73 0 r) = 0 then (4 : Int32) else σ.1 73 0 r) (h := σ.1 74 0 r) (p := v) kb.1 kb.2 (Int32.le_iff_toInt_le.mpr (by have t0 : (0 : Int32).toInt = 0 := rfl; omega)) (by rw [u1.2]; omega)
    rw [zwi_cm (k := 75) (j := r) (k2 := 6) (by omega), zwi_cm (k := 75) (j := r) (k2 := 7) (by omega), zwi_cm (k := 75) (j := r) (k2 := 8) (by omega), zwi_cm (k := 75) (j := r) (k2 := 5) (by omega)] at u3
    generalize hk' : (if zcom (σ.1 73 0 r) = 0 then (4 : Int32) else σ.1 73 0 r) = kk at u3 kb ks
    have en := e_X3_enter (σ := zwi σ 8 0 r (σ.1 75 0 r - v)) (n := n) (by omega) (by simpa [zwi, zu] using e1) F kk (σ.1 74 0 r) v
    refine zOK_i (nI n) (zwi (zwi (zwi (zwi (zwi σ 8 0 r (σ.1 75 0 r - v)) 6 0 n kk) 7 0 n (σ.1 74 0 r)) 8 0 n v) 5 0 5 (nI n + 1)) _ ?_ ?_ u3
    · simp only [f_X10_split]
      rw [h10, zb_s, if_neg (by decide), if_neg v1, zg_i i1, i2, q3, if_pos v2, c1, zb_s, if_neg w1', d1, zb_s, if_pos w4, if_pos rfl, e1, if_pos o1, zg_i i1, zg_i i1, zg_i i1, zg_i i1, q3, show (zwi σ 8 0 r (σ.1 75 0 r - v)).1 6 0 r = σ.1 73 0 r by simp [zwi, zu, q1]]
      have f117 : f_X10_split_117 F (zwi σ 8 0 r (σ.1 75 0 r - v)) (nI r) v kk = some (nI n, zwi (zwi (zwi (zwi (zwi σ 8 0 r (σ.1 75 0 r - v)) 6 0 n kk) 7 0 n (σ.1 74 0 r)) 8 0 n v) 5 0 5 (nI n + 1)) := by
        unfold f_X10_split_117
        rw [zg_i i1, i2, show (zwi σ 8 0 r (σ.1 75 0 r - v)).1 7 0 r = σ.1 74 0 r by simp [zwi, zu, q2], en, zb_s]
      by_cases q : σ.1 73 0 r = 1
      · rw [if_pos q]
        rw [if_pos q] at ks
        rw [← f117, ks]
      · rw [if_neg q]
        rw [if_neg q] at ks
        rw [← f117, ks]
    · have z1 : ∀ (k i j : Nat), 60 ≤ k → (zwi (zwi (zwi (zwi (zwi σ 8 0 r (σ.1 75 0 r - v)) 6 0 n kk) 7 0 n (σ.1 74 0 r)) 8 0 n v) 5 0 5 (nI n + 1)).1 k i j = σ.1 k i j := by
        intro k i j hk
        simp [zwi, zu, show ¬ k = 5 by omega, show ¬ k = 6 by omega, show ¬ k = 7 by omega, show ¬ k = 8 by omega]
      generalize zwi (zwi (zwi (zwi (zwi σ 8 0 r (σ.1 75 0 r - v)) 6 0 n kk) 7 0 n (σ.1 74 0 r)) 8 0 n v) 5 0 5 (nI n + 1) = s at z1
      have n11 := e_X11_newRight (σ := zwi s 75 0 r (σ.1 75 0 r - v)) (n := n) (by omega) (by simp [zwi, zu, z1, e2]) F (σ.1 74 0 r) kk v
      have l11 := e_X11_lent (σ := s) F (show r < 50 by omega)
      rw [z1 77 0 r (by omega), z1 60 0 0 (by omega), if_pos w4] at l11
      simp only [f_X11_split]
      rw [e_X11_isRight ((z1 60 0 12 (by omega)).trans e2) F a1 a3, zb_s, if_neg (by decide), zg_i i1, i2, z1 75 0 r (by omega), e_X11_in, if_neg v1, if_neg v2', zb_s, if_neg (by decide), zg_i i1, e_X11_commonOf, zb_s, z1 73 0 r (by omega), if_neg w1, l11, zb_s, if_pos rfl, z1 60 0 12 (by omega), e2, if_neg o2, zg_i i1, zg_i i1, zg_i i1, zg_i i1, e_X11_commonOf, zb_s, z1 75 0 r (by omega), show (zwi s 75 0 r (σ.1 75 0 r - v)).1 73 0 r = σ.1 73 0 r by simp [zwi, zu, z1], show (zwi s 75 0 r (σ.1 75 0 r - v)).1 74 0 r = σ.1 74 0 r by simp [zwi, zu, z1]]
      have f104 : f_X11_split_104 F (zwi s 75 0 r (σ.1 75 0 r - v)) v kk (σ.1 74 0 r) = some (nI n, zwi (zwi (zwi (zwi (zwi (zwi s 75 0 r (σ.1 75 0 r - v)) 73 0 n kk) 74 0 n (σ.1 74 0 r)) 75 0 n v) 77 0 n (-1)) 60 0 12 (nI n + 1)) := by
        unfold f_X11_split_104
        rw [n11, zb_s]
      by_cases q : zcom (σ.1 73 0 r) = 0
      · rw [if_pos q] at hk' ⊢
        rw [hk', f104]
      · rw [if_neg q] at hk' ⊢
        rw [zg_i i1, hk', f104]
  · exact zOK_same hR (-1) (by simp only [f_X10_split]; rw [n_X3_has e1 F a]; simp [zb]) (by simp only [f_X11_split]; rw [n_X11_isRight e2 F a]; simp [zb])
/-- the right that has an hour: m rights are left to look at -/
def zat (σ : zMem) (n : Nat) : Nat → Int32 → Int32
  | 0, _ => -1
  | m + 1, left => if σ.1 73 0 (n - (m + 1)) = 3 then (if σ.1 75 0 (n - (m + 1)) ≤ left then zat σ n m (left - σ.1 75 0 (n - (m + 1))) else nI (n - (m + 1))) else zat σ n m left
theorem zat_o (σ : zMem) (n : Nat) : ∀ m left, m ≤ n → zat σ n m left = -1 ∨ ∃ r, r < n ∧ zat σ n m left = nI r
  | 0, _, _ => Or.inl rfl
  | m + 1, left, h => by
    unfold zat
    split
    · split
      · exact zat_o σ n m _ (by omega)
      · exact Or.inr ⟨n - (m + 1), by omega, rfl⟩
    · exact zat_o σ n m _ (by omega)
def zha (σ : zMem) (n : Nat) (h : Int32) : Int32 := if zsum (zpt σ (-1) 2) n = 0 then -1 else zat σ n n (zrem h (zsum (zpt σ (-1) 2) n))
theorem e_X3_atHour {σ : zMem} (hR : zRel σ) {F n : Nat} (hF : 100 < F) (hn : n ≤ 50) (e : σ.1 5 0 5 = nI n) (h : Int32) : f_X3_atHour F σ h = some (zha σ n h, σ) := by
  obtain ⟨-, -, g3, g4⟩ := id hR.2.1
  have b := zpt_s hR hn (-1) 2
  unfold f_X3_atHour zha
  rw [e_X3_whole hR hF hn e, zb_s]
  generalize hw : zsum (zpt σ (-1) 2) n = w at b
  have t0 : (0 : Int32).toInt = 0 := rfl
  by_cases w0 : w = 0
  · subst w0
    rfl
  have w1 : 0 < w := by
    rw [Int32.lt_iff_toInt_lt]
    have : ¬ w.toInt = (0 : Int32).toInt := fun q => w0 (Int32.toInt_inj.mp q)
    omega
  rw [if_neg w0, if_pos w1, zg_i (by simpa [zni] using w0)]
  refine zit_m (fun m s x => s = σ ∧ m ≤ n ∧ ∃ left, x = (left, nI (n - m)) ∧ zat σ n m left = zat σ n n (zrem h w)) _ ?_ F n σ _ ⟨rfl, Nat.le_refl n, _, by rw [Nat.sub_self, nI_0], rfl⟩ (by omega)
  rintro m s x ⟨rfl, hm, left, rfl, hz⟩
  rw [← hz]
  rcases m with _ | m
  · refine Or.inl fun rec => ?_
    unfold f_X3_atHour_19
    simp only
    rw [e, Nat.sub_zero, if_pos (Int32.le_refl _)]
    rfl
  · obtain ⟨q1, q2, q3, -⟩ := g3 (n - (m + 1)) (by omega)
    obtain ⟨k1, k2, -⟩ := g4 (n - (m + 1)) (by omega)
    have i1 := inb_n (show n - (m + 1) < 50 by omega) (by omega)
    have i2 := nI_clamp (show n - (m + 1) < 2 ^ 31 by omega)
    have hs : nI (n - (m + 1)) + 1 = nI (n - m) := by
      rw [nI_1]
      congr 1
      omega
    have hz2 : zat s n (m + 1) left = if s.1 73 0 (n - (m + 1)) = 3 then (if s.1 75 0 (n - (m + 1)) ≤ left then zat s n m (left - s.1 75 0 (n - (m + 1))) else nI (n - (m + 1))) else zat s n m left := rfl
    have kk : ∀ rec, f_X3_atHour_19 F rec s (left, nI (n - (m + 1))) = if s.1 73 0 (n - (m + 1)) = 3 then (if s.1 75 0 (n - (m + 1)) ≤ left then rec s (left - s.1 75 0 (n - (m + 1)), nI (n - m)) else some (nI (n - (m + 1)), s)) else rec s (left, nI (n - m)) := by
      intro rec
      unfold f_X3_atHour_19
      simp only
      rw [e, if_neg (nle_s (by omega) (by omega)), e_X3_commonOf F (by omega) (by rw [q1]; exact k1) (by rw [q1]; exact k2), zb_s, q1, zg_i i1, i2, q3, zg_i i1, hs]
      by_cases c : s.1 73 0 (n - (m + 1)) = 3
      · rw [if_pos c, if_pos ((zcom_2 _).mpr c)]
      · rw [if_neg c, if_neg (fun q => c ((zcom_2 _).mp q))]
    rw [hz2]
    by_cases c : s.1 73 0 (n - (m + 1)) = 3
    · by_cases c2 : s.1 75 0 (n - (m + 1)) ≤ left
      · refine Or.inr ⟨m, s, _, by omega, ⟨rfl, by omega, left - s.1 75 0 (n - (m + 1)), rfl, ?_⟩, fun rec => ?_⟩
        rotate_left
        · rw [kk, if_pos c, if_pos c2]
        · rw [if_pos c, if_pos c2]
      · exact Or.inl fun rec => by rw [kk, if_pos c, if_neg c2, if_pos c, if_neg c2]
    · refine Or.inr ⟨m, s, _, by omega, ⟨rfl, by omega, left, rfl, ?_⟩, fun rec => ?_⟩
      rotate_left
      · rw [kk, if_neg c]
      · rw [if_neg c]
theorem e_X11_rightAt {σ : zMem} {F n : Nat} (hF : 100 < F) (hn : n ≤ 50) (e : σ.1 60 0 12 = nI n) (h : Int32) : f_X11_rightAt F σ h = some (zha σ n h, σ) := by
  unfold f_X11_rightAt zha
  rw [e_X11_partsOf hF hn e, zb_s]
  generalize hw : zsum (zpt σ (-1) 2) n = w
  by_cases w0 : w = 0
  · rw [if_pos w0, if_pos w0]
  rw [if_neg w0, if_neg w0, zg_i (by simpa [zni] using w0)]
  refine zit_m (fun m s x => s = σ ∧ m ≤ n ∧ ∃ left, x = (left, nI (n - m)) ∧ zat σ n m left = zat σ n n (zrem h w)) _ ?_ F n σ _ ⟨rfl, Nat.le_refl n, _, by rw [Nat.sub_self, nI_0], rfl⟩ (by omega)
  rintro m s x ⟨rfl, hm, left, rfl, hz⟩
  rw [← hz]
  rcases m with _ | m
  · refine Or.inl fun rec => ?_
    unfold f_X11_rightAt_20
    simp only
    rw [e, Nat.sub_zero, if_pos (Int32.le_refl _)]
    rfl
  · have i1 := inb_n (show n - (m + 1) < 50 by omega) (by omega)
    have i2 := nI_clamp (show n - (m + 1) < 2 ^ 31 by omega)
    have hs : nI (n - (m + 1)) + 1 = nI (n - m) := by
      rw [nI_1]
      congr 1
      omega
    have hz2 : zat s n (m + 1) left = if s.1 73 0 (n - (m + 1)) = 3 then (if s.1 75 0 (n - (m + 1)) ≤ left then zat s n m (left - s.1 75 0 (n - (m + 1))) else nI (n - (m + 1))) else zat s n m left := rfl
    have kk : ∀ rec, f_X11_rightAt_20 F rec s (left, nI (n - (m + 1))) = if s.1 73 0 (n - (m + 1)) = 3 then (if s.1 75 0 (n - (m + 1)) ≤ left then rec s (left - s.1 75 0 (n - (m + 1)), nI (n - m)) else some (nI (n - (m + 1)), s)) else rec s (left, nI (n - m)) := by
      intro rec
      unfold f_X11_rightAt_20
      simp only
      rw [e, if_neg (nle_s (by omega) (by omega)), zg_i i1, i2, zg_i i1, zg_i i1, hs]
    rw [hz2]
    by_cases c : s.1 73 0 (n - (m + 1)) = 3
    · by_cases c2 : s.1 75 0 (n - (m + 1)) ≤ left
      · refine Or.inr ⟨m, s, _, by omega, ⟨rfl, by omega, left - s.1 75 0 (n - (m + 1)), rfl, ?_⟩, fun rec => ?_⟩
        rotate_left
        · rw [kk, if_pos c, if_pos c2]
        · rw [if_pos c, if_pos c2]
      · exact Or.inl fun rec => by rw [kk, if_pos c, if_neg c2, if_pos c, if_neg c2]
    · refine Or.inr ⟨m, s, _, by omega, ⟨rfl, by omega, left, rfl, ?_⟩, fun rec => ?_⟩
      rotate_left
      · rw [kk, if_neg c]
      · rw [if_neg c]
theorem a_hour {σ : zMem} (hR : zRel σ) {F : Nat} (hF : 100 < F) (h : Int32) : zOK (fun σ => f_X10_hour F σ h) (fun σ => f_X11_hour F σ h) σ := by
  obtain ⟨⟨n, hn, e1, f1⟩, e2, g3, g4⟩ := id hR.2.1
  have e2 := e2.trans e1
  have p1 := e_X3_whole hR hF hn e1 2
  have p2 := e_X11_partsOf (σ := σ) hF hn e2 (-1) 2
  by_cases w0 : zsum (zpt σ (-1) 2) n = 0
  · exact zOK_same hR (-1) (by simp only [f_X10_hour]; rw [p1, zb_s, if_pos w0]) (by simp only [f_X11_hour]; rw [p2, zb_s, if_pos w0])
  by_cases h0 : 0 ≤ h
  · exact zOK_same hR (zha σ n h) (by simp only [f_X10_hour]; rw [p1, zb_s, if_neg w0, if_pos h0, e_X3_atHour hR hF hn e1, zb_s]) (by simp only [f_X11_hour]; rw [p2, zb_s, if_neg w0, if_pos h0, e_X11_rightAt hF hn e2, zb_s])
  · exact zOK_same hR (-2) (by simp only [f_X10_hour]; rw [p1, zb_s, if_neg w0, if_neg h0]) (by simp only [f_X11_hour]; rw [p2, zb_s, if_neg w0, if_neg h0])
/-- what comes to house x: m places are left to look at -/
def zcm (σ : zMem) (n : Nat) (x : Int32) : Nat → Int32 → Int32
  | 0, _ => 0
  | m + 1, c => if σ.1 101 0 (n - (m + 1)) = x then c * (100 - σ.1 102 0 (n - (m + 1))) / 100 else zcm σ n x m (c * (100 - σ.1 102 0 (n - (m + 1))) / 100)
theorem e_X1_comesTo {σ : zMem} (hR : zRel σ) {F n : Nat} (hF : 100 < F) (hn : n ≤ 10) (e : σ.1 43 0 2 = nI n) (x c : Int32) : f_X1_comesTo F σ x c = some (zcm σ n x n c, σ) := by
  have g := hR.2.2.2.2.2.2.2.1.2.2.1
  unfold f_X1_comesTo
  refine zit_m (fun m s y => s = σ ∧ m ≤ n ∧ ∃ d, y = (x, d, nI (n - m)) ∧ zcm σ n x m d = zcm σ n x n c) _ ?_ F n σ _ ⟨rfl, Nat.le_refl n, _, by rw [Nat.sub_self, nI_0], rfl⟩ (by omega)
  rintro m s y ⟨rfl, hm, d, rfl, hz⟩
  rw [← hz]
  rcases m with _ | m
  · refine Or.inl fun rec => ?_
    unfold f_X1_comesTo_5
    simp only
    rw [e, Nat.sub_zero, if_pos (Int32.le_refl _)]
    rfl
  · have i1 := inb_n (show n - (m + 1) < 10 by omega) (by omega)
    have i2 := nI_clamp (show n - (m + 1) < 2 ^ 31 by omega)
    have hs : nI (n - (m + 1)) + 1 = nI (n - m) := by
      rw [nI_1]
      congr 1
      omega
    obtain ⟨q1, q2⟩ := g (n - (m + 1)) (by omega)
    have hz2 : zcm s n x (m + 1) d = if s.1 101 0 (n - (m + 1)) = x then d * (100 - s.1 102 0 (n - (m + 1))) / 100 else zcm s n x m (d * (100 - s.1 102 0 (n - (m + 1))) / 100) := rfl
    have kk : ∀ rec, f_X1_comesTo_5 F rec s (x, d, nI (n - (m + 1))) = if s.1 101 0 (n - (m + 1)) = x then some (d * (100 - s.1 102 0 (n - (m + 1))) / 100, s) else rec s (x, d * (100 - s.1 102 0 (n - (m + 1))) / 100, nI (n - m)) := by
      intro rec
      unfold f_X1_comesTo_5
      simp only
      rw [e, if_neg (nle_s (by omega) (by omega)), zg_i i1, zg_i (by decide), zg_i i1, i2, q1, q2, hs]
    rw [hz2]
    by_cases c2 : s.1 101 0 (n - (m + 1)) = x
    · exact Or.inl fun rec => by rw [kk, if_pos c2, if_pos c2]
    · refine Or.inr ⟨m, s, _, by omega, ⟨rfl, by omega, d * (100 - s.1 102 0 (n - (m + 1))) / 100, rfl, ?_⟩, fun rec => ?_⟩
      rotate_left
      · rw [kk, if_neg c2]
      · rw [if_neg c2]
theorem e_X11_gets_56 {σ : zMem} {F n : Nat} (hF : 100 < F) (hn : n ≤ 10) (e : σ.1 60 0 46 = nI n) (x c : Int32) : zit (f_X11_gets_56 F) F σ (x, c, 0) = some (zcm σ n x n c, σ) := by
  refine zit_m (fun m s y => s = σ ∧ m ≤ n ∧ ∃ d, y = (x, d, nI (n - m)) ∧ zcm σ n x m d = zcm σ n x n c) _ ?_ F n σ _ ⟨rfl, Nat.le_refl n, _, by rw [Nat.sub_self, nI_0], rfl⟩ (by omega)
  rintro m s y ⟨rfl, hm, d, rfl, hz⟩
  rw [← hz]
  rcases m with _ | m
  · refine Or.inl fun rec => ?_
    unfold f_X11_gets_56
    simp only
    rw [e, Nat.sub_zero, if_pos (Int32.le_refl _)]
    rfl
  · have i1 := inb_n (show n - (m + 1) < 10 by omega) (by omega)
    have i2 := nI_clamp (show n - (m + 1) < 2 ^ 31 by omega)
    have hs : nI (n - (m + 1)) + 1 = nI (n - m) := by
      rw [nI_1]
      congr 1
      omega
    have hz2 : zcm s n x (m + 1) d = if s.1 101 0 (n - (m + 1)) = x then d * (100 - s.1 102 0 (n - (m + 1))) / 100 else zcm s n x m (d * (100 - s.1 102 0 (n - (m + 1))) / 100) := rfl
    have kk : ∀ rec, f_X11_gets_56 F rec s (x, d, nI (n - (m + 1))) = if s.1 101 0 (n - (m + 1)) = x then some (d * (100 - s.1 102 0 (n - (m + 1))) / 100, s) else rec s (x, d * (100 - s.1 102 0 (n - (m + 1))) / 100, nI (n - m)) := by
      intro rec
      unfold f_X11_gets_56
      simp only
      rw [e, if_neg (nle_s (by omega) (by omega)), zg_i i1, zg_i (by decide), zg_i i1, i2, hs]
    rw [hz2]
    by_cases c2 : s.1 101 0 (n - (m + 1)) = x
    · exact Or.inl fun rec => by rw [kk, if_pos c2, if_pos c2]
    · refine Or.inr ⟨m, s, _, by omega, ⟨rfl, by omega, d * (100 - s.1 102 0 (n - (m + 1))) / 100, rfl, ?_⟩, fun rec => ?_⟩
      rotate_left
      · rw [kk, if_neg c2]
      · rw [if_neg c2]
theorem a_gets {σ : zMem} (hR : zRel σ) {F : Nat} (hF : 100 < F) (x h f : Int32) : zOK (fun σ => f_X10_gets F σ x h f) (fun σ => f_X11_gets F σ x h f) σ := by
  obtain ⟨nh, hnh, h1, h2⟩ := zRh_n hR.1
  obtain ⟨⟨n, hn, e1, f1⟩, e2, g3, g4⟩ := id hR.2.1
  have e2 := e2.trans e1
  obtain ⟨⟨nc, hnc, c1⟩, c2, -⟩ := id hR.2.2.2.2.2.2.2.1
  have c2 := c2.trans c1
  rcases zix (n := nh) (by omega) x with ⟨j, hj, rfl, a1, a2, a3, a4⟩ | ⟨_, a⟩
  · have u1 := e_X10_isHouse h1 F a1 a2
    have u2 := e_X11_isHouse h2 F a1 a3
    by_cases h0 : h < 0
    · exact zOK_same hR (-5) (by simp only [f_X10_gets]; rw [u1, zb_s, if_neg (by decide), if_pos h0]) (by simp only [f_X11_gets]; rw [u2, zb_s, if_neg (by decide), if_pos h0])
    by_cases f0 : f < 0
    · exact zOK_same hR (-5) (by simp only [f_X10_gets]; rw [u1, zb_s, if_neg (by decide), if_neg h0, if_pos f0]) (by simp only [f_X11_gets]; rw [u2, zb_s, if_neg (by decide), if_neg h0, e_X11_in, if_pos f0]; rfl)
    by_cases f9 : 10000 < f
    · exact zOK_same hR (-5) (by simp only [f_X10_gets]; rw [u1, zb_s, if_neg (by decide), if_neg h0, if_neg f0, if_neg (Int32.not_le.mpr f9)]) (by simp only [f_X11_gets]; rw [u2, zb_s, if_neg (by decide), if_neg h0, e_X11_in, if_neg f0, if_pos f9]; rfl)
    have s10 : f_X10_gets F σ (nI j) h f = zb (f_X3_atHour F σ h) fun r31 m31 => if r31 < 0 then (some (0, m31)) else (zb (f_X3_holder F m31 r31 ((m31.1 0 0 11))) fun r51 m51 => if r51 = nI j then (zb (f_X1_comesTo F m51 (nI j) f) fun r66 m66 => some (r66, m66)) else (some (0, m51))) := by
      simp only [f_X10_gets]
      rw [u1, zb_s, if_neg (by decide), if_neg h0, if_neg f0, if_pos (Int32.not_lt.mp f9)]
    have s11 : f_X11_gets F σ (nI j) h f = zb (f_X11_rightAt F σ h) fun r28 m28 => if r28 < 0 then (some (0, m28)) else (zb (f_X11_holder F m28 r28) fun r41 m41 => if r41 = nI j then (zit (f_X11_gets_56 F) F m41 ((nI j, f, 0))) else (some (0, m41))) := by
      simp only [f_X11_gets]
      rw [u2, zb_s, if_neg (by decide), if_neg h0, e_X11_in, if_neg f0, if_neg f9, zb_s, if_neg (by decide)]
    rw [e_X3_atHour hR hF hn e1, zb_s] at s10
    rw [e_X11_rightAt hF hn e2, zb_s] at s11
    have o : zha σ n h = -1 ∨ ∃ r, r < n ∧ zha σ n h = nI r := by
      unfold zha
      split
      · exact Or.inl rfl
      · exact zat_o σ n n _ (Nat.le_refl n)
    rcases o with o | ⟨r, hr, o⟩
    · rw [o, if_pos (by decide)] at s10 s11
      exact zOK_same hR 0 s10 s11
    · rw [o, if_neg (nI_pos (by omega)), e_X3_holder hR F (by omega), zb_s] at s10
      rw [o, if_neg (nI_pos (by omega)), e_X11_holder F (by omega), zb_s] at s11
      by_cases q : zho σ r = nI j
      · rw [if_pos q, e_X1_comesTo hR hF hnc c1, zb_s] at s10
        rw [if_pos q, e_X11_gets_56 hF hnc c2] at s11
        exact zOK_same hR _ s10 s11
      · rw [if_neg q] at s10 s11
        exact zOK_same hR 0 s10 s11
  · exact zOK_same hR (-5) (by simp only [f_X10_gets]; rw [n_X10_isHouse h1 F a, zb_s, if_pos rfl]) (by simp only [f_X11_gets]; rw [n_X11_isHouse h2 F a, zb_s, if_pos rfl])
