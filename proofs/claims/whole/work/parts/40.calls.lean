def zapc (σ : zMem) (v : Int32) : zMem := zwi (zwi σ 11 0 3 (σ.1 11 0 3 + 1)) 19 0 (σ.1 11 0 3).toNatClampNeg v
def zapr (σ : zMem) (v : Int32) : zMem := zwi (zwi σ 60 0 19 (σ.1 60 0 19 + 1)) 78 0 (σ.1 60 0 19).toNatClampNeg v
def zfdc (x : Int32) : Nat → zMem → zMem
  | 0, σ => σ
  | m + 1, σ => zfdc x m (zapc σ (x >>> ((8 * nI m) &&& 31)).toInt8.toInt32)
def zfdr (x : Int32) : Nat → zMem → zMem
  | 0, σ => σ
  | m + 1, σ => zfdr x m (zapr σ ((x >>> ((8 * nI m) &&& 31)) &&& 255))
theorem zap_cm (σ : zMem) (v w : Int32) : zapr (zapc σ v) w = zapc (zapr σ w) v := by
  unfold zapr zapc
  have h1 : (zwi (zwi σ 11 0 3 (σ.1 11 0 3 + 1)) 19 0 (σ.1 11 0 3).toNatClampNeg v).1 60 0 19 = σ.1 60 0 19 := by simp [zwi, zu]
  have h2 : (zwi (zwi σ 60 0 19 (σ.1 60 0 19 + 1)) 78 0 (σ.1 60 0 19).toNatClampNeg w).1 11 0 3 = σ.1 11 0 3 := by simp [zwi, zu]
  rw [h1, h2, zwi_cm (k := 19) (k2 := 60) (by omega), zwi_cm (k := 11) (k2 := 60) (by omega), zwi_cm (k := 19) (k2 := 78) (by omega), zwi_cm (k := 11) (k2 := 78) (by omega)]
theorem zfd_cm (x w : Int32) : ∀ m σ, zapr (zfdc x m σ) w = zfdc x m (zapr σ w)
  | 0, _ => rfl
  | m + 1, σ => by
    show zapr (zfdc x m (zapc σ _)) w = zfdc x m (zapc (zapr σ w) _)
    rw [zfd_cm x w m, zap_cm]
theorem zfd_len (x : Int32) : ∀ m σ, (zfdc x m σ).1 60 0 19 = σ.1 60 0 19
  | 0, _ => rfl
  | m + 1, σ => by
    show (zfdc x m (zapc σ _)).1 60 0 19 = _
    rw [zfd_len x m]
    simp [zapc, zwi, zu]
theorem i8_255 (y : Int32) : ∃ b, b < 256 ∧ y &&& 255 = nI b ∧ y.toInt8.toInt32 = (nI b).toInt8.toInt32 := by
  obtain ⟨b, hb, e⟩ := vp_in_of (pk_andIn y (m := 255) 8 (by decide) (by decide)) (by decide)
  refine ⟨b, hb, e, ?_⟩
  rw [← e, Int32.toInt8_and, show (255 : Int32).toInt8 = -1 by decide, Int8.and_neg_one]
/-- a byte more on THE TAPE, on both sides -/
theorem p_ap {σ : zMem} (hR : zRel σ) {L : Nat} (hL : L < 100) (e : σ.1 11 0 3 = nI L) (y : Int32) : zRel (zapr (zapc σ y.toInt8.toInt32) (y &&& 255)) := by
  obtain ⟨b, hb9, eb, ey⟩ := i8_255 y
  have e2 : σ.1 60 0 19 = nI L := hR.2.2.1.2.2.2.1.trans e
  unfold zapr zapc
  rw [show (zwi (zwi σ 11 0 3 (σ.1 11 0 3 + 1)) 19 0 (σ.1 11 0 3).toNatClampNeg y.toInt8.toInt32).1 60 0 19 = σ.1 60 0 19 by simp [zwi, zu], e, e2, nI_clamp (by omega), eb, ey]
  obtain ⟨hh, hr, hw, hk, ha, hd, hl, hc, ht, hb, hQ⟩ := hR
  refine ⟨?_, ?_, ?_, ?_, ?_, ?_, ?_, ?_, ?_, ?_, ?_⟩
  · simpa [zRh, zwi, zu] using hh
  · simpa [zRr, zwi, zu] using hr
  · obtain ⟨p1, p2, ⟨m, hm, em, g⟩, p4, p5⟩ := hw
    have hmn : m = L := (nI_eq (by omega) (by omega)).mp (em.symm.trans e)
    subst hmn
    refine ⟨by simpa [zwi, zu] using p1, by simpa [zwi, zu] using p2, ⟨m + 1, by omega, by simp [zwi, zu, nI_1], fun j hj => ?_⟩, by simp [zwi, zu], by simpa [zwi, zu] using p5⟩
    by_cases q : j = m
    · subst q
      exact ⟨b, hb9, by simp [zwi, zu], by simp [zwi, zu]⟩
    · simpa [zwi, zu, q] using g j (by omega)
  · simpa [zRk, zwi, zu] using hk
  · simpa [zRa, zwi, zu] using ha
  · simpa [zRd, zwi, zu] using hd
  · simpa [zRl, zwi, zu] using hl
  · simpa [zRc, zwi, zu] using hc
  · simpa [zRt, zwi, zu] using ht
  · simpa [zRb, zwi, zu] using hb
  · simpa [zRz, zwi, zu] using hQ
theorem p_fd (x : Int32) : ∀ m σ, zRel σ → ∀ L, L + m ≤ 100 → σ.1 11 0 3 = nI L → zRel (zfdr x m (zfdc x m σ)) ∧ (zfdr x m (zfdc x m σ)).1 60 0 19 = nI (L + m) ∧ (zfdc x m σ).1 11 0 3 = nI (L + m)
  | 0, σ, h, L, _, e => ⟨h, h.2.2.1.2.2.2.1.trans e, e⟩
  | m + 1, σ, h, L, hL, e => by
    have h1 := p_ap h (L := L) (by omega) e (x >>> ((8 * nI m) &&& 31))
    have e1 : (zapr (zapc σ (x >>> ((8 * nI m) &&& 31)).toInt8.toInt32) ((x >>> ((8 * nI m) &&& 31)) &&& 255)).1 11 0 3 = nI (L + 1) := by
      unfold zapr zapc
      simp [zwi, zu]
      rw [e, nI_1]
    have h2 := p_fd x m _ h1 (L + 1) (by omega) e1
    show zRel (zfdr x m (zapr (zfdc x m (zapc σ _)) _)) ∧ (zfdr x m (zapr (zfdc x m (zapc σ _)) _)).1 60 0 19 = _ ∧ (zfdc x m (zapc σ _)).1 11 0 3 = _
    rw [zfd_cm, show L + (m + 1) = L + 1 + m by omega]
    refine ⟨h2.1, h2.2.1, ?_⟩
    rw [← h2.2.2, ← zfd_cm]
    simp [zapr, zwi, zu]
theorem e_X10_feed_33 (F0 : Nat) (x : Int32) : ∀ m σ L F, m < F → L + m ≤ 100 → σ.1 11 0 3 = nI L → zit (f_X10_feed_33 F0) F σ (x, nI m - 1) = some ((zfdc x m σ).1 11 0 3, zfdc x m σ)
  | 0, σ, L, F, hF, _, e => by
    obtain ⟨F, rfl⟩ : ∃ G, F = G + 1 := ⟨F - 1, by omega⟩
    show f_X10_feed_33 F0 _ σ (x, nI 0 - 1) = _
    unfold f_X10_feed_33
    simp only
    rw [if_pos (by decide)]
    rfl
  | m + 1, σ, L, F, hF, hL, e => by
    obtain ⟨F, rfl⟩ : ∃ G, F = G + 1 := ⟨F - 1, by omega⟩
    have ih := e_X10_feed_33 F0 x m (zapc σ (x >>> ((8 * nI m) &&& 31)).toInt8.toInt32) (L + 1) F (by omega) (by omega) (by simp [zapc, zwi, zu]; rw [e, nI_1])
    have st : ∀ rec, f_X10_feed_33 F0 rec σ (x, nI (m + 1) - 1) = rec (zapc σ (x >>> ((8 * nI m) &&& 31)).toInt8.toInt32) (x, nI m - 1) := by
      intro rec
      unfold f_X10_feed_33
      simp only
      rw [nI_pred, if_neg (nI_pos (by omega))]
      have ap : f_X9_append F0 σ (x >>> ((8 * nI m) &&& 31)).toInt8.toInt32 = some ((), zapc σ (x >>> ((8 * nI m) &&& 31)).toInt8.toInt32) := by
        unfold f_X9_append zapc
        rw [e, if_neg (nle_l 100 (n := 100) rfl (by omega) (by omega)), zg_i (inb_n (by omega) (by omega)), Int8.toInt8_toInt32]
      rw [ap, zb_s, ← Int32.sub_eq_add_neg]
    show f_X10_feed_33 F0 (zit (f_X10_feed_33 F0) F) σ (x, nI (m + 1) - 1) = _
    rw [st, ih]
    rfl
theorem e_X11_feed_30 (F0 : Nat) (x : Int32) : ∀ m σ L F, m < F → L + m ≤ 100 → σ.1 60 0 19 = nI L → zit (f_X11_feed_30 F0) F σ (x, nI m - 1) = some ((zfdr x m σ).1 60 0 19, zfdr x m σ)
  | 0, σ, L, F, hF, _, e => by
    obtain ⟨F, rfl⟩ : ∃ G, F = G + 1 := ⟨F - 1, by omega⟩
    show f_X11_feed_30 F0 _ σ (x, nI 0 - 1) = _
    unfold f_X11_feed_30
    simp only
    rw [if_pos (by decide)]
    rfl
  | m + 1, σ, L, F, hF, hL, e => by
    obtain ⟨F, rfl⟩ : ∃ G, F = G + 1 := ⟨F - 1, by omega⟩
    have ih := e_X11_feed_30 F0 x m (zapr σ ((x >>> ((8 * nI m) &&& 31)) &&& 255)) (L + 1) F (by omega) (by omega) (by simp [zapr, zwi, zu]; rw [e, nI_1])
    have st : ∀ rec, f_X11_feed_30 F0 rec σ (x, nI (m + 1) - 1) = rec (zapr σ ((x >>> ((8 * nI m) &&& 31)) &&& 255)) (x, nI m - 1) := by
      intro rec
      unfold f_X11_feed_30
      simp only
      rw [nI_pred, if_neg (nI_pos (by omega)), e, zg_i (inb_n (by omega) (by omega)), ← Int32.sub_eq_add_neg]
      unfold zapr
      rw [e]
    show f_X11_feed_30 F0 (zit (f_X11_feed_30 F0) F) σ (x, nI (m + 1) - 1) = _
    rw [st, ih]
    rfl
theorem a_feed {σ : zMem} (hR : zRel σ) {F : Nat} (hF : 100 < F) (x y : Int32) : zOK (fun σ => f_X10_feed F σ x y) (fun σ => f_X11_feed F σ x y) σ := by
  obtain ⟨-, -, ⟨L, hL, e, -⟩, e2, -⟩ := id hR.2.2.1
  have e2 := e2.trans e
  by_cases y1 : y < 0
  · exact zOK_same hR (-2) (by simp [f_X10_feed, y1]) (by simp [f_X11_feed, e_X11_in, zb, y1])
  by_cases y2 : 4 < y
  · exact zOK_same hR (-2) (by simp [f_X10_feed, y1, Int32.not_le.mpr y2]) (by simp [f_X11_feed, e_X11_in, zb, y1, y2])
  obtain ⟨n, hn, rfl⟩ := nI_of2 (M := 4) (n := 4) rfl y1 (Int32.not_lt.mp y2)
  have s : nI L + nI n = nI (L + n) := nI_add L n
  by_cases c : L + n ≤ 100
  · have c1 : nI (L + n) ≤ 100 := (nI_leI (a := L + n) (b := 100) (by omega) (by omega)).mpr c
    have h := p_fd x n σ hR L c e
    refine ⟨nI (L + n), zfdc x n σ, zfdr x n (zfdc x n σ), ?_, ?_, h.1⟩
    · show f_X10_feed F σ x (nI n) = _
      unfold f_X10_feed
      rw [if_neg y1, if_pos (Int32.not_lt.mp y2), e, s, if_pos c1, e_X10_feed_33 F x n σ L F (by omega) c e, h.2.2]
    · show f_X11_feed F _ x (nI n) = _
      have e3 := (zfd_len x n σ).trans e2
      unfold f_X11_feed
      rw [e_X11_in, if_neg y1, if_neg y2, zb_s, if_neg (by decide), e3, s, if_pos c1, e_X11_feed_30 F x n _ L F (by omega) c e3, h.2.1]
  · have c1 : ¬ nI (L + n) ≤ 100 := fun q => c ((nI_leI (a := L + n) (b := 100) (by omega) (by omega)).mp q)
    refine zOK_same hR (-4) ?_ ?_
    · simp only [f_X10_feed]
      rw [if_neg y1, if_pos (Int32.not_lt.mp y2), e, s, if_neg c1]
    · simp only [f_X11_feed]
      rw [e_X11_in, if_neg y1, if_neg y2, zb_s, if_neg (by decide), e2, s, if_neg c1]
/-- the items 0 .. n - 1 of a cell of longs told anew -/
def zfb (σ : zMem) (k i n : Nat) (f : Nat → Int64) : zMem := (σ.1, fun a b c => if a = k ∧ b = i ∧ c < n then f c else σ.2 a b c)
theorem zfb_0 (σ : zMem) (k i : Nat) (f : Nat → Int64) : zfb σ k i 0 f = σ := by
  refine Prod.ext rfl ?_
  funext a b c
  simp [zfb]
theorem zfb_s {σ : zMem} {k i n : Nat} {f : Nat → Int64} {v : Int64} (hv : v = f n) : zwl (zfb σ k i n f) k i n v = zfb σ k i (n + 1) f := by
  subst hv
  refine Prod.ext rfl ?_
  funext a b c
  simp only [zwl, zu, zfb]
  by_cases h1 : a = k ∧ b = i ∧ c = n
  · obtain ⟨rfl, rfl, rfl⟩ := h1
    simp
  · rw [if_neg h1]
    by_cases h2 : a = k ∧ b = i ∧ c < n
    · rw [if_pos h2, if_pos ⟨h2.1, h2.2.1, by omega⟩]
    · rw [if_neg h2, if_neg]
      rintro ⟨rfl, rfl, h⟩
      by_cases e : c = n
      · exact h1 ⟨rfl, rfl, e⟩
      · exact h2 ⟨rfl, rfl, by omega⟩
theorem zfa_cm {σ : zMem} {k i n k2 i2 j : Nat} {f : Nat → Int32} {v : Int32} (h : k ≠ k2) : zwi (zfa σ k i n f) k2 i2 j v = zfa (zwi σ k2 i2 j v) k i n f := by
  refine Prod.ext ?_ rfl
  funext a b c
  simp only [zwi, zu, zfa]
  by_cases h1 : a = k2 ∧ b = i2 ∧ c = j
  · rw [if_pos h1, if_neg (fun q => h (q.1.symm.trans h1.1)), if_pos h1]
  · rw [if_neg h1, if_neg h1]
theorem e_X4_becomeRow {σ : zMem} {t F : Nat} (hF : 100 < F) (ht : t < 3) (so n : Int32) : f_X4_becomeRow F σ t so n = some ((), zfb (zwi (zwi σ 47 t 0 so) 47 t 1 n) 48 t 60 (fun _ => 0)) := by
  have gt : (decide (t < 3)) = true := by simp; omega
  unfold f_X4_becomeRow
  rw [zg_i gt]
  have hs := zit_for (b := f_X4_becomeRow_12 F) (S := fun i => (zfb (zwi (zwi σ 47 t 0 so) 47 t 1 n) 48 t i (fun _ => 0), (t, nI i))) (some ((), zfb (zwi (zwi σ 47 t 0 so) 47 t 1 n) 48 t 60 (fun _ => 0))) 60 0 F (fun j _ hj rec => ?_) (fun rec => ?_) (by omega)
  · simp only [zfb_0] at hs
    exact hs
  · unfold f_X4_becomeRow_12
    simp only
    rw [zg_i gt, if_neg (nle_l 60 (n := 60) rfl (by omega) (by omega)), zg_i (inb_n (by omega) (by omega)), nI_clamp (by omega), zfb_s rfl, nI_1]
  · unfold f_X4_becomeRow_12
    simp only
    rw [zg_i gt, if_pos (by decide)]
theorem e_X11_sheet_67 {σ : zMem} {t F : Nat} (hF : 100 < F) (ht : t < 3) : zit (f_X11_sheet_67 F) F σ (nI t, 0) = some (1, zfa (zfa σ 107 t 60 (fun _ => 0)) 109 t 60 (fun _ => 0)) := by
  have i1 := inb_n ht (by omega)
  have i2 := nI_clamp (show t < 2 ^ 31 by omega)
  have hs := zit_for (b := f_X11_sheet_67 F) (S := fun i => (zfa (zfa σ 107 t i (fun _ => 0)) 109 t i (fun _ => 0), (nI t, nI i))) (some (1, zfa (zfa σ 107 t 60 (fun _ => 0)) 109 t 60 (fun _ => 0))) 60 0 F (fun j _ hj rec => ?_) (fun rec => ?_) (by omega)
  · simp only [zfa_0] at hs
    exact hs
  · have i3 := inb_n (show j < 60 by omega) (by omega)
    unfold f_X11_sheet_67
    simp only
    rw [if_neg (nle_l 60 (n := 60) rfl (by omega) (by omega)), zg_i i1, zg_i i3, zg_i i1, zg_i (by rw [i3]; rfl), i2, nI_clamp (by omega), zfa_cm (by omega), zfa_s rfl, zfa_s rfl, nI_1]
  · unfold f_X11_sheet_67
    simp only
    rw [if_pos (by decide)]
/-- a SHEET told anew on both sides -/
theorem p_sheet {σ : zMem} (hR : zRel σ) {t n : Nat} (ht9 : t < 3) (hn : n ≤ 60) {so : Int32} (s1 : -1 ≤ so) (s2 : so ≤ 2) : zRel (zfa (zfa (zwi (zwi (zfb (zwi (zwi σ 47 t 0 so) 47 t 1 (nI n)) 48 t 60 (fun _ => 0)) 104 0 t so) 105 0 t (nI n)) 107 t 60 (fun _ => 0)) 109 t 60 (fun _ => 0)) := by
  obtain ⟨hh, hr, hw, hk, ha, hd, hl, hc, ht, hb, hQ⟩ := hR
  refine ⟨?_, ?_, ?_, ?_, ?_, ?_, ?_, ?_, ?_, ?_, ?_⟩
  · simpa [zRh, zwi, zu, zfa, zfb] using hh
  · simpa [zRr, zwi, zu, zfa, zfb] using hr
  · simpa [zRw, zwi, zu, zfa, zfb] using hw
  · simpa [zRk, zwi, zu, zfa, zfb] using hk
  · simpa [zRa, zwi, zu, zfa, zfb] using ha
  · simpa [zRd, zwi, zu, zfa, zfb] using hd
  · simpa [zRl, zwi, zu, zfa, zfb] using hl
  · simpa [zRc, zwi, zu, zfa, zfb] using hc
  · intro z hz
    have := ht z hz
    by_cases e : z = t
    · subst e
      refine ⟨by simp [zwi, zu, zfa, zfb], by simpa [zwi, zu, zfa, zfb] using s1, by simpa [zwi, zu, zfa, zfb] using s2, by simp [zwi, zu, zfa, zfb], ⟨n, hn, by simp [zwi, zu, zfa, zfb]⟩, fun i hi => Or.inr ⟨by simp [zwi, zu, zfa, zfb, hi], by simp [zwi, zu, zfa, zfb, hi]⟩⟩
    · simpa [zwi, zu, zfa, zfb, e] using this
  · simpa [zRb, zwi, zu, zfa, zfb] using hb
  · simpa [zRz, zwi, zu, zfa, zfb] using hQ
theorem a_isSheet (F : Nat) (x : Int32) : (∃ t, t < 3 ∧ x = nI t ∧ (∀ σ, f_X10_isSheet F σ x = some (1, σ)) ∧ (∀ σ, f_X11_in F σ x 0 2 = some (1, σ))) ∨ ((∀ σ, f_X10_isSheet F σ x = some (0, σ)) ∧ (∀ σ, f_X11_in F σ x 0 2 = some (0, σ))) := by
  rcases zix (n := 3) (by omega) x with ⟨t, ht, rfl, b1, b2, b3, b4⟩ | ⟨_, b⟩
  · have b2' : ¬ (3 : Int32) ≤ nI t := b2
    have b3' : ¬ (2 : Int32) < nI t := b3
    exact Or.inl ⟨t, ht, rfl, fun σ => by simp [f_X10_isSheet, b1, b2'], fun σ => by simp [e_X11_in, b1, b3']⟩
  · rcases b with b | ⟨b0, b1, b2, b3⟩
    · exact Or.inr ⟨fun σ => by simp [f_X10_isSheet, b], fun σ => by simp [e_X11_in, b]⟩
    · have b1' : (3 : Int32) ≤ x := b1
      have b2' : (2 : Int32) < x := b2
      exact Or.inr ⟨fun σ => by simp [f_X10_isSheet, b0, b1'], fun σ => by simp [e_X11_in, b0, b2']⟩
theorem a_sheet {σ : zMem} (hR : zRel σ) {F : Nat} (hF : 100 < F) (x y v : Int32) : zOK (fun σ => f_X10_sheet F σ x y v) (fun σ => f_X11_sheet F σ x y v) σ := by
  rcases a_isSheet F x with ⟨t, ht, rfl, q1, q2⟩ | ⟨q1, q2⟩
  · have i1 := inb_n ht (by omega)
    have i2 := nI_clamp (show t < 2 ^ 31 by omega)
    by_cases y1 : y < -1
    · exact zOK_same hR (-2) (by simp [f_X10_sheet, q1, zb, y1]) (by simp [f_X11_sheet, q2, e_X11_in, zb, y1])
    by_cases y2 : 2 < y
    · exact zOK_same hR (-2) (by simp [f_X10_sheet, q1, zb, y1, Int32.not_le.mpr y2]) (by simp [f_X11_sheet, q2, e_X11_in, zb, y1, y2])
    have y1' := Int32.not_lt.mp y1
    have y2' := Int32.not_lt.mp y2
    have kin : ∀ s, f_X11_in F s y (-1) 2 = some (1, s) := fun s => by rw [e_X11_in, if_neg y1, if_neg y2]
    have go11 : ∀ (s : zMem) (w : Int32), f_X11_sheet_63 F (zwi s 104 0 t y) (nI t) w (nI t) = some (1, zfa (zfa (zwi (zwi s 104 0 t y) 105 0 t w) 107 t 60 (fun _ => 0)) 109 t 60 (fun _ => 0)) := fun s w => by
      unfold f_X11_sheet_63
      rw [zg_i i1, i2, e_X11_sheet_67 hF ht]
    have ym : y < 0 ↔ y = -1 := by
      rw [Int32.lt_iff_toInt_lt, ← Int32.toInt_inj]
      rw [Int32.le_iff_toInt_le] at y1'
      have t1 : (-1 : Int32).toInt = -1 := by decide
      have t0 : (0 : Int32).toInt = 0 := rfl
      omega
    by_cases y0 : y < 0
    · have ye := ym.mp y0
      refine ⟨1, zfb (zwi (zwi σ 47 t 0 y) 47 t 1 (nI 0)) 48 t 60 (fun _ => 0), _, ?_, ?_, p_sheet hR ht (n := 0) (by omega) y1' y2'⟩
      · show f_X10_sheet F σ (nI t) y v = _
        unfold f_X10_sheet
        rw [q1, zb_s, if_neg (by decide), if_neg y1, if_pos y2', if_pos ye, zg_i i1, i2, ye, e_X4_becomeRow hF ht, zb_s]
        rfl
      · show f_X11_sheet F _ (nI t) y v = _
        unfold f_X11_sheet
        rw [q2, zb_s, if_neg (by decide), kin, zb_s, if_neg (by decide), if_pos y0]
        unfold f_X11_sheet_31
        rw [if_pos y0]
        unfold f_X11_sheet_42
        rw [zg_i i1, i2, if_neg (Int32.not_le.mpr y0), go11]
        rfl
    · have ye : ¬ y = -1 := fun q => y0 (ym.mpr q)
      by_cases v1 : ¬ (v ≤ 60)
      · exact zOK_same hR (-2) (by simp [f_X10_sheet, q1, zb, y1, y2', ye, v1]) (by simp [f_X11_sheet, q2, kin, zb, y0, v1])
      have v1 := Decidable.not_not.mp v1
      by_cases v0 : ¬ (0 ≤ v)
      · exact zOK_same hR (-14) (by simp [f_X10_sheet, q1, zb, y1, y2', ye, v1, v0]) (by simp [f_X11_sheet, f_X11_sheet_31, q2, kin, zb, y0, v1, v0])
      have v0 := Decidable.not_not.mp v0
      obtain ⟨n, hn, rfl⟩ := nI_of2 (M := 60) (n := 60) rfl (Int32.not_lt.mpr v0) v1
      refine ⟨1, zfb (zwi (zwi σ 47 t 0 y) 47 t 1 (nI n)) 48 t 60 (fun _ => 0), _, ?_, ?_, p_sheet hR ht hn y1' y2'⟩
      · show f_X10_sheet F σ (nI t) y (nI n) = _
        unfold f_X10_sheet
        rw [q1, zb_s, if_neg (by decide), if_neg y1, if_pos y2', if_neg ye, if_pos v1, if_pos v0, zg_i i1, i2, e_X4_becomeRow hF ht, zb_s]
      · show f_X11_sheet F _ (nI t) y (nI n) = _
        unfold f_X11_sheet
        rw [q2, zb_s, if_neg (by decide), kin, zb_s, if_neg (by decide), if_neg y0, if_pos v1]
        unfold f_X11_sheet_31
        rw [if_neg y0, if_pos v0]
        unfold f_X11_sheet_42
        rw [zg_i i1, i2, if_pos (Int32.not_lt.mp y0), go11]
  · exact zOK_same hR (-2) (by simp [f_X10_sheet, q1, zb]) (by simp [f_X11_sheet, q2, zb])
/-- one item of a SHEET told anew on both sides -/
theorem p_cell {σ : zMem} (hR : zRel σ) {t i : Nat} (ht9 : t < 3) (hi9 : i < 60) (v : Int32) : zRel (zwi (zwi (zwl σ 48 t i v.toInt64) 107 t i v) 109 t i 0) := by
  obtain ⟨hh, hr, hw, hk, ha, hd, hl, hc, ht, hb, hQ⟩ := hR
  refine ⟨?_, ?_, ?_, ?_, ?_, ?_, ?_, ?_, ?_, ?_, ?_⟩
  · simpa [zRh, zwi, zwl, zu] using hh
  · simpa [zRr, zwi, zwl, zu] using hr
  · simpa [zRw, zwi, zwl, zu] using hw
  · simpa [zRk, zwi, zwl, zu] using hk
  · simpa [zRa, zwi, zwl, zu] using ha
  · simpa [zRd, zwi, zwl, zu] using hd
  · simpa [zRl, zwi, zwl, zu] using hl
  · simpa [zRc, zwi, zwl, zu] using hc
  · intro z hz
    have := ht z hz
    by_cases e : z = t
    · subst e
      obtain ⟨k1, k2, k3, k4, k5, k6⟩ := this
      refine ⟨by simpa [zwi, zwl, zu] using k1, by simpa [zwi, zwl, zu] using k2, by simpa [zwi, zwl, zu] using k3, by simpa [zwi, zwl, zu] using k4, by simpa [zwi, zwl, zu] using k5, fun j hj => ?_⟩
      by_cases q : j = i
      · subst q
        exact Or.inr ⟨by simp [zwi, zwl, zu], by simp [zwi, zwl, zu]⟩
      · simpa [zwi, zwl, zu, q] using k6 j hj
    · simpa [zwi, zwl, zu, e] using this
  · simpa [zRb, zwi, zwl, zu] using hb
  · simpa [zRz, zwi, zwl, zu] using hQ
theorem p_lose {σ : zMem} (hR : zRel σ) {t i : Nat} (ht9 : t < 3) (hi9 : i < 60) : zRel (zwi (zwl σ 48 t i (-9000000000)) 109 t i 1) := by
  obtain ⟨hh, hr, hw, hk, ha, hd, hl, hc, ht, hb, hQ⟩ := hR
  refine ⟨?_, ?_, ?_, ?_, ?_, ?_, ?_, ?_, ?_, ?_, ?_⟩
  · simpa [zRh, zwi, zwl, zu] using hh
  · simpa [zRr, zwi, zwl, zu] using hr
  · simpa [zRw, zwi, zwl, zu] using hw
  · simpa [zRk, zwi, zwl, zu] using hk
  · simpa [zRa, zwi, zwl, zu] using ha
  · simpa [zRd, zwi, zwl, zu] using hd
  · simpa [zRl, zwi, zwl, zu] using hl
  · simpa [zRc, zwi, zwl, zu] using hc
  · intro z hz
    have := ht z hz
    by_cases e : z = t
    · subst e
      obtain ⟨k1, k2, k3, k4, k5, k6⟩ := this
      refine ⟨by simpa [zwi, zwl, zu] using k1, by simpa [zwi, zwl, zu] using k2, by simpa [zwi, zwl, zu] using k3, by simpa [zwi, zwl, zu] using k4, by simpa [zwi, zwl, zu] using k5, fun j hj => ?_⟩
      by_cases q : j = i
      · subst q
        exact Or.inl ⟨by simp [zwi, zwl, zu], by simp [zwi, zwl, zu]⟩
      · simpa [zwi, zwl, zu, q] using k6 j hj
    · simpa [zwi, zwl, zu, e] using this
  · simpa [zRb, zwi, zwl, zu] using hb
  · simpa [zRz, zwi, zwl, zu] using hQ
/-- whether a SHEET holds item i -/
theorem a_holds1 {σ : zMem} {t n : Nat} (ht : t < 3) (hn : n ≤ 60) (e : σ.1 47 t 1 = nI n) (F : Nat) (y : Int32) : (∃ i, i < n ∧ y = nI i ∧ f_X4_holds F σ t y 1 = some (1, σ) ∧ (∀ s, f_X11_in F s y 0 (nI n - 1) = some (1, s))) ∨ (f_X4_holds F σ t y 1 = some (0, σ) ∧ (∀ s, f_X11_in F s y 0 (nI n - 1) = some (0, s))) := by
  have gt : (decide (t < 3)) = true := by simp; omega
  unfold f_X4_holds
  rw [zg_i gt, e, if_neg (show ¬ (1 : Int32) < 0 by decide)]
  have t1 : (1 : Int32).toInt = 1 := rfl
  have t0 : (0 : Int32).toInt = 0 := rfl
  by_cases y0 : y < 0
  · exact Or.inr ⟨if_pos y0, fun s => by rw [e_X11_in, if_pos y0]⟩
  obtain ⟨i, hi, rfl⟩ := nI_of y0
  have d1 : (nI n - nI i).toInt = (n : Int) - i := by
    rw [t_sub (by rw [nI_toInt (by omega), nI_toInt hi]; omega) (by rw [nI_toInt (by omega), nI_toInt hi]; omega), nI_toInt (by omega), nI_toInt hi]
  have d2 : (nI n - 1).toInt = (n : Int) - 1 := by
    rw [t_sub (by rw [nI_toInt (by omega)]; omega) (by rw [nI_toInt (by omega)]; omega), nI_toInt (by omega), t1]
  by_cases c : i < n
  · refine Or.inl ⟨i, c, rfl, ?_, fun s => ?_⟩
    · rw [if_neg y0, if_neg]
      rw [Int32.lt_iff_toInt_lt, d1]
      omega
    · rw [e_X11_in, if_neg y0, if_neg]
      rw [Int32.lt_iff_toInt_lt, d2, nI_toInt hi]
      omega
  · refine Or.inr ⟨?_, fun s => ?_⟩
    · rw [if_neg y0, if_pos]
      rw [Int32.lt_iff_toInt_lt, d1]
      omega
    · rw [e_X11_in, if_neg y0, if_pos]
      rw [Int32.lt_iff_toInt_lt, d2, nI_toInt hi]
      omega
theorem zso {x : Int32} (h1 : -1 ≤ x) (h2 : x ≤ 2) : x = -1 ∨ x = 0 ∨ x = 1 ∨ x = 2 := by
  rw [Int32.le_iff_toInt_le] at h1 h2
  have t1 : (-1 : Int32).toInt = -1 := by decide
  have t2 : (2 : Int32).toInt = 2 := rfl
  have c : x.toInt = -1 ∨ x.toInt = 0 ∨ x.toInt = 1 ∨ x.toInt = 2 := by omega
  rcases c with c | c | c | c
  · exact Or.inl (Int32.toInt_inj.mp (c.trans t1.symm))
  · exact Or.inr (Or.inl (Int32.toInt_inj.mp c))
  · exact Or.inr (Or.inr (Or.inl (Int32.toInt_inj.mp c)))
  · exact Or.inr (Or.inr (Or.inr (Int32.toInt_inj.mp c)))
theorem a_cell {σ : zMem} (hR : zRel σ) (F : Nat) (x y v : Int32) : zOK (fun σ => f_X10_cell F σ x y v) (fun σ => f_X11_cell F σ x y v) σ := by
  rcases a_isSheet F x with ⟨t, ht, rfl, q1, q2⟩ | ⟨q1, q2⟩
  · have i1 := inb_n ht (by omega)
    have i2 := nI_clamp (show t < 2 ^ 31 by omega)
    have gt : (decide (t < 3)) = true := by simp; omega
    obtain ⟨k1, k2, k3, k4, ⟨n, hn, k5⟩, k6⟩ := hR.2.2.2.2.2.2.2.2.1 t ht
    have k4 := k4.trans k5
    by_cases m : σ.1 104 0 t = -1
    · exact zOK_same hR (-11) (by simp [f_X10_cell, q1, zb, zg, i1, i2, k1, m]) (by simp [f_X11_cell, q2, zb, zg, i1, i2, m, show ¬ (0 : Int32) ≤ -1 by decide])
    have m0 : 0 ≤ σ.1 104 0 t := by rcases zso k2 k3 with h | h | h | h <;> first | exact absurd h m | (rw [h]; decide)
    rcases a_holds1 ht hn k4 F y with ⟨i, hi, rfl, r1, r2⟩ | ⟨r1, r2⟩
    · have i3 := inb_n (show i < 60 by omega) (by omega)
      have i4 := nI_clamp (show i < 2 ^ 31 by omega)
      have fin : ∀ w : Int32, f_X4_cut F σ t v = some (w.toInt64, σ) → (∀ s : zMem, s.1 104 0 t = σ.1 104 0 t → s.1 105 0 t = nI n → f_X11_cell F s (nI t) (nI i) v = f_X11_cell_80 F s (nI t) (nI i) w (nI i) t) → zOK (fun σ => f_X10_cell F σ (nI t) (nI i) v) (fun σ => f_X11_cell F σ (nI t) (nI i) v) σ := by
        intro w h1 h2
        refine ⟨1, zwl σ 48 t i w.toInt64, _, ?_, ?_, p_cell hR ht (show i < 60 by omega) w⟩
        · show f_X10_cell F σ (nI t) (nI i) v = _
          unfold f_X10_cell
          rw [q1, zb_s, if_neg (by decide), zg_i i1, i2, k1, if_neg m, r1, zb_s, if_neg (by decide), h1, zb_s, zg_i i3, i4]
        · show f_X11_cell F _ (nI t) (nI i) v = _
          rw [h2 (zwl σ 48 t i w.toInt64) rfl k5]
          unfold f_X11_cell_80
          rw [zg_i gt, zg_i i3, zg_i i1, zg_i (by rw [i3]; rfl), i2, i4]
      rcases zso k2 k3 with h | h | h | h
      · exact absurd h m
      · refine fin v.toInt8.toInt32 ?_ fun s hs1 hs2 => ?_
        · unfold f_X4_cut
          rw [zg_i gt, k1, h, if_pos rfl]
        · unfold f_X11_cell
          rw [q2, zb_s, if_neg (by decide), zg_i i1, i2, hs1, if_pos m0, zg_i i1, hs2, r2, zb_s, if_neg (by decide), zg_i i1, zg_i i1, hs1, if_pos h]
      · refine fin v.toInt16.toInt32 ?_ fun s hs1 hs2 => ?_
        · unfold f_X4_cut
          rw [zg_i gt, k1, h, if_neg (by decide), if_pos rfl]
        · unfold f_X11_cell
          rw [q2, zb_s, if_neg (by decide), zg_i i1, i2, hs1, if_pos m0, zg_i i1, hs2, r2, zb_s, if_neg (by decide), zg_i i1, zg_i i1, hs1, if_neg (by rw [h]; decide), zg_i i1, if_pos h]
      · refine fin v ?_ fun s hs1 hs2 => ?_
        · unfold f_X4_cut
          rw [zg_i gt, k1, h, if_neg (by decide), if_neg (by decide)]
        · unfold f_X11_cell
          rw [q2, zb_s, if_neg (by decide), zg_i i1, i2, hs1, if_pos m0, zg_i i1, hs2, r2, zb_s, if_neg (by decide), zg_i i1, zg_i i1, hs1, if_neg (by rw [h]; decide), zg_i i1, if_neg (by rw [h]; decide)]
    · refine zOK_same hR (-12) ?_ ?_
      · simp only [f_X10_cell]
        rw [q1, zb_s, if_neg (by decide), zg_i i1, i2, k1, if_neg m, r1, zb_s, if_pos rfl]
      · simp only [f_X11_cell]
        rw [q2, zb_s, if_neg (by decide), zg_i i1, i2, if_pos m0, zg_i i1, k5, r2, zb_s, if_pos rfl]
  · exact zOK_same hR (-2) (by simp [f_X10_cell, q1, zb]) (by simp [f_X11_cell, q2, zb])
theorem a_lose {σ : zMem} (hR : zRel σ) (F : Nat) (x y : Int32) : zOK (fun σ => f_X10_lose F σ x y) (fun σ => f_X11_lose F σ x y) σ := by
  rcases a_isSheet F x with ⟨t, ht, rfl, q1, q2⟩ | ⟨q1, q2⟩
  · have i1 := inb_n ht (by omega)
    have i2 := nI_clamp (show t < 2 ^ 31 by omega)
    obtain ⟨k1, k2, k3, k4, ⟨n, hn, k5⟩, k6⟩ := hR.2.2.2.2.2.2.2.2.1 t ht
    have k4 := k4.trans k5
    by_cases m : σ.1 104 0 t = -1
    · exact zOK_same hR (-11) (by simp [f_X10_lose, q1, zb, zg, i1, i2, k1, m]) (by simp [f_X11_lose, q2, zb, zg, i1, i2, m, show ¬ (0 : Int32) ≤ -1 by decide])
    have m0 : 0 ≤ σ.1 104 0 t := by rcases zso k2 k3 with h | h | h | h <;> first | exact absurd h m | (rw [h]; decide)
    by_cases m2 : ¬ (σ.1 104 0 t = 2)
    · exact zOK_same hR (-13) (by simp [f_X10_lose, q1, zb, zg, i1, i2, k1, m, m2]) (by simp [f_X11_lose, q2, zb, zg, i1, i2, m0, m2])
    have m2 := Decidable.not_not.mp m2
    rcases a_holds1 ht hn k4 F y with ⟨i, hi, rfl, r1, r2⟩ | ⟨r1, r2⟩
    · have i3 := inb_n (show i < 60 by omega) (by omega)
      have i4 := nI_clamp (show i < 2 ^ 31 by omega)
      refine ⟨1, zwl σ 48 t i (-9000000000), _, ?_, ?_, p_lose hR ht (show i < 60 by omega)⟩
      · show f_X10_lose F σ (nI t) (nI i) = _
        unfold f_X10_lose
        rw [q1, zb_s, if_neg (by decide), zg_i i1, i2, k1, if_neg m, if_pos m2, r1, zb_s, if_neg (by decide), zg_i i3, i4]
      · show f_X11_lose F _ (nI t) (nI i) = _
        unfold f_X11_lose
        rw [q2, zb_s, if_neg (by decide), zg_i i1, i2, show (zwl σ 48 t i (-9000000000)).1 104 0 t = σ.1 104 0 t from rfl, show (zwl σ 48 t i (-9000000000)).1 105 0 t = σ.1 105 0 t from rfl, if_pos m0, zg_i i1, if_pos m2, zg_i i1, k5, r2, zb_s, if_neg (by decide), zg_i i1, zg_i (by rw [i3]; rfl), i4]
    · refine zOK_same hR (-12) ?_ ?_
      · simp only [f_X10_lose]
        rw [q1, zb_s, if_neg (by decide), zg_i i1, i2, k1, if_neg m, if_pos m2, r1, zb_s, if_pos rfl]
      · simp only [f_X11_lose]
        rw [q2, zb_s, if_neg (by decide), zg_i i1, i2, if_pos m0, zg_i i1, if_pos m2, zg_i i1, k5, r2, zb_s, if_pos rfl]
  · exact zOK_same hR (-2) (by simp [f_X10_lose, q1, zb]) (by simp [f_X11_lose, q2, zb])
