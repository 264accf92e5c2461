theorem zsz_le {f g : Nat → Int} : ∀ {n : Nat}, (∀ i, i < n → f i ≤ g i) → zsz f n ≤ zsz g n
  | 0, _ => Int.le_refl 0
  | n + 1, h => by
    have h1 := zsz_le (n := n) fun i hi => h i (by omega)
    have h2 := h n (by omega)
    show zsz f n + f n ≤ zsz g n + g n
    omega
theorem zsz_0 {f : Nat → Int} : ∀ {n : Nat}, (∀ i, i < n → 0 ≤ f i) → 0 ≤ zsz f n
  | 0, _ => Int.le_refl 0
  | n + 1, h => by
    have h1 := zsz_0 (n := n) fun i hi => h i (by omega)
    have h2 := h n (by omega)
    show 0 ≤ zsz f n + f n
    omega
theorem zsz_mono {f : Nat → Int} (n : Nat) : ∀ m, (∀ i, n ≤ i → i < n + m → 0 ≤ f i) → zsz f n ≤ zsz f (n + m)
  | 0, _ => Int.le_refl _
  | m + 1, h => by
    have h1 := zsz_mono n m fun i h1 h2 => h i h1 (by omega)
    have h2 := h (n + m) (by omega) (by omega)
    show zsz f n ≤ zsz f (n + m) + f (n + m)
    omega
theorem zsz_cut {f : Nat → Int} (n : Nat) : ∀ m, (∀ i, n ≤ i → i < n + m → f i = 0) → zsz f (n + m) = zsz f n
  | 0, _ => rfl
  | m + 1, h => by
    have h1 := zsz_cut n m fun i h1 h2 => h i h1 (by omega)
    have h2 := h (n + m) (by omega) (by omega)
    show zsz f (n + m) + f (n + m) = zsz f n
    omega
theorem zsum_cut {f : Nat → Int32} (n : Nat) : ∀ m, (∀ i, n ≤ i → i < n + m → f i = 0) → zsum f (n + m) = zsum f n
  | 0, _ => rfl
  | m + 1, h => by
    have h1 := zsum_cut n m fun i h1 h2 => h i h1 (by omega)
    have h2 := h (n + m) (by omega) (by omega)
    show zsum f (n + m) + f (n + m) = zsum f n
    rw [h2, h1, Int32.add_zero]
theorem zsum_t {f : Nat → Int32} : ∀ {n : Nat}, (∀ i, i < n → 0 ≤ (f i).toInt) → zsz (fun i => (f i).toInt) n ≤ 2147483647 → (zsum f n).toInt = zsz (fun i => (f i).toInt) n
  | 0, _, _ => rfl
  | n + 1, h, hb => by
    have h0 : zsz (fun i => (f i).toInt) n + (f n).toInt ≤ 2147483647 := hb
    have h2 := h n (by omega)
    have h3 := zsz_0 (f := fun i => (f i).toInt) (n := n) fun i hi => h i (by omega)
    have h1 := zsum_t (n := n) (fun i hi => h i (by omega)) (by omega)
    show (zsum f n + f n).toInt = zsz (fun i => (f i).toInt) n + (f n).toInt
    rw [t_add (by omega) (by omega), h1]
theorem zpt_b {σ : zMem} (h c : Int32) (r : Nat) (k : 0 ≤ (σ.1 75 0 r).toInt) : 0 ≤ (zpt σ h c r).toInt ∧ (zpt σ h c r).toInt ≤ (σ.1 75 0 r).toInt := by
  unfold zpt
  by_cases q : zcom (σ.1 73 0 r) = c ∧ (h = -1 ∨ zho σ r = h)
  · rw [if_pos q]
    omega
  · rw [if_neg q]
    exact ⟨Int.le_refl 0, k⟩
/-- PARTS together: no overflow -/
theorem zpt_s {σ : zMem} (hR : zRel σ) {n : Nat} (hn : n ≤ 50) (h c : Int32) : 0 ≤ (zsum (zpt σ h c) n).toInt ∧ (zsum (zpt σ h c) n).toInt ≤ 49950 := by
  obtain ⟨⟨m, hm, em, -⟩, e2, g3, g4⟩ := hR.2.1
  have k0 : ∀ r, r < 50 → 0 ≤ (σ.1 75 0 r).toInt := fun r hr => by
    have := Int32.le_iff_toInt_le.mp (g4 r hr).2.2
    have o : (0 : Int32).toInt = 0 := rfl
    omega
  have y4 := hR.2.2.2.2.2.2.2.2.2.2.2.2.2.1
  rw [e2.trans em, nI_toInt (by omega)] at y4
  have a1 := zsz_mono (f := fun r => (σ.1 75 0 r).toInt) n (50 - n) fun i _ hi => k0 i (by omega)
  rw [show n + (50 - n) = 50 by omega] at a1
  have a2 := zsz_le (f := fun r => (zpt σ h c r).toInt) (g := fun r => (σ.1 75 0 r).toInt) (n := n) fun i hi => (zpt_b h c i (k0 i (by omega))).2
  have a3 := zsz_0 (f := fun r => (zpt σ h c r).toInt) (n := n) fun i hi => (zpt_b h c i (k0 i (by omega))).1
  have a4 := zsum_t (f := zpt σ h c) (n := n) (fun i hi => (zpt_b h c i (k0 i (by omega))).1) (by omega)
  omega
theorem e_X10_wheelsGiven {σ : zMem} {F n : Nat} (hF : 100 < F) (hn : n ≤ 10) (e : σ.1 0 0 1 = nI n) : f_X10_wheelsGiven F σ = some (zsum (fun h => σ.1 2 h 7) n, σ) := by
  unfold f_X10_wheelsGiven
  refine zit_for (S := fun i => (σ, (zsum (fun h => σ.1 2 h 7) i, nI i))) _ n 0 F (fun j _ hj rec => ?_) (fun rec => ?_) (by omega)
  · unfold f_X10_wheelsGiven_4
    simp only
    rw [e, if_neg (nle_s (by omega) (by omega)), zg_i (inb_n (by omega) (by omega)), nI_clamp (by omega), nI_1]
    rfl
  · unfold f_X10_wheelsGiven_4
    simp only
    rw [e, Nat.zero_add, if_pos (Int32.le_refl _)]
theorem a_count {σ : zMem} (hR : zRel σ) {F : Nat} (hF : 100 < F) (y : Int32) : zOK (fun σ => f_X10_count F σ y) (fun σ => f_X11_count F σ y) σ := by
  by_cases ho : y.toInt < 0 ∨ 14 < y.toInt
  · exact zOK_same hR (-2) (by simp [f_X10_count, ho]) (by simp [f_X11_count, ho])
  obtain ⟨k, hk, rfl⟩ := zlit (m := 14) (by omega) ho
  obtain ⟨n, hn, e1, e2⟩ := zRh_n hR.1
  have w := e_X10_wheelsGiven (σ := σ) hF hn e1
  have w2 : zsum (fun h => σ.1 2 h 7) n = σ.1 60 0 44 := by
    rw [hR.2.2.2.2.2.2.2.1.2.2.2.2.2.2.2.2.2]
    have := zsum_cut (f := fun h => σ.1 2 h 7) n (10 - n) fun i h1 h2 => by
      have q := (hR.2.2.2.2.2.2.2.2.2.2.2.2.2.2.1 i (by omega) (by rw [e2]; exact (nI_leI (by omega) (by omega)).mpr h1)).2.2.2.2
      have q2 := (hR.1.2.2.2.1 i (by omega)).2.2.2.2.2.1
      exact q2.trans q
    rw [show n + (10 - n) = 10 by omega] at this
    exact this.symm
  rw [w2] at w
  have r1 := hR.1.2.1
  have r2 := hR.2.1.2.1
  have r3 := hR.2.2.1.2.1
  have r4 := hR.2.2.1.2.2.2.1
  have r5 := hR.2.2.2.2.1.2.1
  have r6 := hR.2.2.2.2.1.2.2.2.1
  have r7 := hR.2.2.2.2.2.1.2.1
  obtain ⟨-, l2, -, l4, -, l6, l7, l8, l9⟩ := id hR.2.2.2.2.2.2.1
  have r8 := hR.2.2.2.2.2.2.2.2.2.1.2.1
  rcases k with _ | _ | _ | _ | _ | _ | _ | _ | _ | _ | _ | _ | _ | _ | _ | k
  · show zOK (fun σ => f_X10_count F σ 0) (fun σ => f_X11_count F σ 0) σ
    exact zOK_same hR (σ.1 60 0 1) (by simp [f_X10_count, zb, w, r1, r2, r3, r4, r5, r6, r7, r8, l2, l6, l7, l8, l9]) (by simp [f_X11_count, r1, r2, r3, r4, r5, r6, r7, r8, l2])
  · show zOK (fun σ => f_X10_count F σ 1) (fun σ => f_X11_count F σ 1) σ
    exact zOK_same hR (σ.1 60 0 12) (by simp [f_X10_count, zb, w, r1, r2, r3, r4, r5, r6, r7, r8, l2, l6, l7, l8, l9]) (by simp [f_X11_count, r1, r2, r3, r4, r5, r6, r7, r8, l2])
  · show zOK (fun σ => f_X10_count F σ 2) (fun σ => f_X11_count F σ 2) σ
    exact zOK_same hR (σ.1 60 0 20) (by simp [f_X10_count, zb, w, r1, r2, r3, r4, r5, r6, r7, r8, l2, l6, l7, l8, l9]) (by simp [f_X11_count, r1, r2, r3, r4, r5, r6, r7, r8, l2])
  · show zOK (fun σ => f_X10_count F σ 3) (fun σ => f_X11_count F σ 3) σ
    exact zOK_same hR (σ.1 60 0 0) (by simp [f_X10_count, zb, w, r1, r2, r3, r4, r5, r6, r7, r8, l2, l6, l7, l8, l9]) (by simp [f_X11_count, r1, r2, r3, r4, r5, r6, r7, r8, l2])
  · show zOK (fun σ => f_X10_count F σ 4) (fun σ => f_X11_count F σ 4) σ
    exact zOK_same hR (σ.1 60 0 25) (by simp [f_X10_count, zb, w, r1, r2, r3, r4, r5, r6, r7, r8, l2, l6, l7, l8, l9]) (by simp [f_X11_count, r1, r2, r3, r4, r5, r6, r7, r8, l2])
  · show zOK (fun σ => f_X10_count F σ 5) (fun σ => f_X11_count F σ 5) σ
    exact zOK_same hR (σ.1 60 0 32) (by simp [f_X10_count, zb, w, r1, r2, r3, r4, r5, r6, r7, r8, l2, l6, l7, l8, l9]) (by simp [f_X11_count, r1, r2, r3, r4, r5, r6, r7, r8, l2])
  · show zOK (fun σ => f_X10_count F σ 6) (fun σ => f_X11_count F σ 6) σ
    exact zOK_same hR (σ.1 60 0 30) (by simp [f_X10_count, zb, w, r1, r2, r3, r4, r5, r6, r7, r8, l2, l6, l7, l8, l9]) (by simp [f_X11_count, r1, r2, r3, r4, r5, r6, r7, r8, l2])
  · show zOK (fun σ => f_X10_count F σ 7) (fun σ => f_X11_count F σ 7) σ
    exact zOK_same hR (σ.1 60 0 40) (by simp [f_X10_count, zb, w, r1, r2, r3, r4, r5, r6, r7, r8, l2, l6, l7, l8, l9]) (by simp [f_X11_count, r1, r2, r3, r4, r5, r6, r7, r8, l2])
  · show zOK (fun σ => f_X10_count F σ 8) (fun σ => f_X11_count F σ 8) σ
    exact zOK_same hR (σ.1 60 0 41) (by simp [f_X10_count, zb, w, r1, r2, r3, r4, r5, r6, r7, r8, l2, l6, l7, l8, l9]) (by simp [f_X11_count, r1, r2, r3, r4, r5, r6, r7, r8, l2])
  · show zOK (fun σ => f_X10_count F σ 9) (fun σ => f_X11_count F σ 9) σ
    exact zOK_same hR (σ.1 60 0 42) (by simp [f_X10_count, zb, w, r1, r2, r3, r4, r5, r6, r7, r8, l2, l6, l7, l8, l9]) (by simp [f_X11_count, r1, r2, r3, r4, r5, r6, r7, r8, l2])
  · show zOK (fun σ => f_X10_count F σ 10) (fun σ => f_X11_count F σ 10) σ
    exact zOK_same hR (σ.1 60 0 44) (by simp [f_X10_count, zb, w, r1, r2, r3, r4, r5, r6, r7, r8, l2, l6, l7, l8, l9]) (by simp [f_X11_count, r1, r2, r3, r4, r5, r6, r7, r8, l2])
  · show zOK (fun σ => f_X10_count F σ 11) (fun σ => f_X11_count F σ 11) σ
    exact zOK_same hR (σ.1 60 0 45) (by simp [f_X10_count, zb, w, r1, r2, r3, r4, r5, r6, r7, r8, l2, l6, l7, l8, l9]) (by simp [f_X11_count, r1, r2, r3, r4, r5, r6, r7, r8, l2])
  · show zOK (fun σ => f_X10_count F σ 12) (fun σ => f_X11_count F σ 12) σ
    exact zOK_same hR (σ.1 60 0 19) (by simp [f_X10_count, zb, w, r1, r2, r3, r4, r5, r6, r7, r8, l2, l6, l7, l8, l9]) (by simp [f_X11_count, r1, r2, r3, r4, r5, r6, r7, r8, l2])
  · show zOK (fun σ => f_X10_count F σ 13) (fun σ => f_X11_count F σ 13) σ
    refine zOK_same hR (if σ.1 60 0 39 = 0 then 0 else 1) ?_ ?_
    · by_cases q : σ.1 60 0 39 = 0 <;> simp [f_X10_count, l4, q]
    · by_cases q : σ.1 60 0 39 = 0 <;> simp [f_X11_count, q]
  · show zOK (fun σ => f_X10_count F σ 14) (fun σ => f_X11_count F σ 14) σ
    exact zOK_same hR (σ.1 60 0 57) (by simp [f_X10_count, zb, w, r1, r2, r3, r4, r5, r6, r7, r8, l2, l6, l7, l8, l9]) (by simp [f_X11_count, r1, r2, r3, r4, r5, r6, r7, r8, l2])
  · omega
/-- WARM (w 0) or FALL (w 1) as it counts on the days below d -/
def zsk (σ : zMem) (w : Nat) : Nat → Int32
  | 0 => if w = 0 then 5 else 0
  | d + 1 => if σ.1 86 w d = 0 then zsk σ w d else σ.1 84 w d
theorem e_X11_skyAt {σ : zMem} {w d F : Nat} (hw : w < 2) (hd : d < 7200) (hF : 8000 < F) : f_X11_skyAt F σ (nI d) (nI w) = some (zsk σ w (d + 1), σ) := by
  unfold f_X11_skyAt
  refine zit_m (fun m s x => s = σ ∧ ∃ i, i ≤ d + 1 ∧ i = m ∧ x = (nI w, nI i - 1) ∧ zsk σ w i = zsk σ w (d + 1)) _ ?_ F (d + 1) σ _ ⟨rfl, d + 1, by omega, rfl, by rw [nI_pred], rfl⟩ (by omega)
  rintro m s x ⟨rfl, i, hi, rfl, rfl, hz⟩
  rw [← hz]
  rcases i with _ | i
  · refine Or.inl fun rec => ?_
    unfold f_X11_skyAt_2
    simp only
    rw [if_pos (by decide)]
    unfold zsk
    by_cases q : w = 0
    · subst q
      rfl
    · rw [if_neg q, if_neg (nI_ne0 (by omega) (by omega))]
  · have i1 := inb_n hw (by omega)
    have i2 := nI_clamp (show w < 2 ^ 31 by omega)
    have i3 := inb_n (show i < 7200 by omega) (by omega)
    have i4 := nI_clamp (show i < 2 ^ 31 by omega)
    by_cases q : s.1 86 w i = 0
    · refine Or.inr ⟨i, s, (nI w, nI i - 1), by omega, ⟨rfl, i, by omega, rfl, rfl, ?_⟩, fun rec => ?_⟩
      · show _ = if s.1 86 w i = 0 then zsk s w i else s.1 84 w i
        rw [if_pos q]
      · unfold f_X11_skyAt_2
        simp only
        rw [nI_pred, if_neg (nI_pos (by omega)), zg_i i1, zg_i i3, i2, i4, if_pos q, ← Int32.sub_eq_add_neg]
    · refine Or.inl fun rec => ?_
      unfold f_X11_skyAt_2
      simp only
      rw [nI_pred, if_neg (nI_pos (by omega)), zg_i i1, zg_i i3, i2, i4, if_neg q, zg_i i1, zg_i i3]
      show _ = some (if s.1 86 w i = 0 then zsk s w i else s.1 84 w i, s)
      rw [if_neg q]
theorem ztold_0 {f : Nat → Int32} {b : Nat} : ∀ {n : Nat}, ztold f b n = 0 → ∀ i, i < n → f (60 * b + i) = 0
  | 0, _, i, h => by omega
  | n + 1, h, i, hi => by
    unfold ztold at h
    by_cases q : f (60 * b + n) = 0
    · by_cases e : i = n
      · subst e
        exact q
      · exact ztold_0 (n := n) (by omega) i (by omega)
    · rw [if_neg q] at h
      omega
theorem ztold_le (f : Nat → Int32) (b : Nat) : ∀ n, ztold f b n ≤ n
  | 0 => Nat.le_refl 0
  | n + 1 => by
    have := ztold_le f b n
    unfold ztold
    split <;> omega
theorem zsk_skip {σ : zMem} {w a : Nat} : ∀ m, (∀ i, i < m → σ.1 86 w (a + i) = 0) → zsk σ w (a + m) = zsk σ w a
  | 0, _ => rfl
  | m + 1, h => by
    have h1 := zsk_skip (σ := σ) (w := w) (a := a) m fun i hi => h i (by omega)
    show (if σ.1 86 w (a + m) = 0 then zsk σ w (a + m) else σ.1 84 w (a + m)) = _
    rw [if_pos (h m (by omega)), h1]
theorem nI_div {a b : Nat} (ha : a < 100000) (hb : 0 < b) (hb2 : b < 100000) : nI a / nI b = nI (a / b) := by
  apply Int32.toInt_inj.mp
  have h2 : a / b ≤ a := Nat.div_le_self a b
  rw [Int32.toInt_div_of_ne_left, nI_toInt (by omega), nI_toInt (by omega), nI_toInt (by omega)]
  · simp
  · intro q
    have := congrArg Int32.toInt q
    rw [nI_toInt (by omega)] at this
    have k : Int32.minValue.toInt = -2147483648 := by decide
    omega
theorem e_X5_on {σ : zMem} (hk : zRk σ) {w d F : Nat} (hw : w < 2) (hd : d < 7200) (hF : 8000 < F) : f_X5_on F σ (nI d) (nI w) = some (zsk σ w (d + 1), σ) := by
  unfold f_X5_on
  refine zit_m (fun m s x => s = σ ∧ ∃ i, i ≤ d + 1 ∧ i = m ∧ x = (nI w, nI i - 1) ∧ zsk σ w i = zsk σ w (d + 1)) _ ?_ F (d + 1) σ _ ⟨rfl, d + 1, by omega, rfl, by rw [nI_pred], rfl⟩ (by omega)
  rintro m s x ⟨rfl, i, hi, rfl, rfl, hz⟩
  rw [← hz]
  have i1 := inb_n hw (by omega)
  have i2 := nI_clamp (show w < 2 ^ 31 by omega)
  rcases i with _ | i
  · refine Or.inl fun rec => ?_
    unfold f_X5_on_2
    simp only
    rw [if_pos (by decide), zg_i i1, i2]
    unfold zsk
    rcases w with _ | _ | w
    · rfl
    · rfl
    · omega
  · have i3 := inb_n (show i < 7200 by omega) (by omega)
    have i4 := nI_clamp (show i < 2 ^ 31 by omega)
    have hq := hk.1 w i hw (by omega)
    have hz2 : zsk s w (i + 1) = if s.1 86 w i = 0 then zsk s w i else s.1 84 w i := rfl
    by_cases q : s.1 22 w i = 0
    · have q2 : s.1 86 w i = 0 := by
        rcases hq with hq | ⟨h1, h2, h3, h4⟩
        · exact hq.2
        · exfalso
          rw [q] at h1
          have := congrArg Int32.toInt h1
          rw [Int32.le_iff_toInt_le] at h3
          have k0 : (0 : Int32).toInt = 0 := rfl
          have k1 : (41 : Int32).toInt = 41 := rfl
          have k2 : (-40 : Int32).toInt = -40 := by decide
          have h5 := Int32.le_iff_toInt_le.mp h4.1
          have k3 : (200 : Int32).toInt = 200 := rfl
          rw [t_add (by omega) (by omega)] at this
          omega
      have db : nI i / 60 = nI (i / 60) := nI_div (a := i) (b := 60) (by omega) (by omega) (by omega)
      have b1 : i / 60 < 120 := by omega
      have i5 := inb_n b1 (by omega)
      have i6 := nI_clamp (show i / 60 < 2 ^ 31 by omega)
      by_cases q3 : s.1 24 w (i / 60) = 0
      · refine Or.inr ⟨60 * (i / 60), s, (nI w, nI (60 * (i / 60)) - 1), by omega, ⟨rfl, 60 * (i / 60), by omega, rfl, rfl, ?_⟩, fun rec => ?_⟩
        · rw [hz2, if_pos q2]
          have c := hk.2 w (i / 60) hw b1
          rw [q3] at c
          have c2 : ztold (fun d => s.1 22 w d) (i / 60) 60 = 0 := by
            have l := ztold_le (fun d => s.1 22 w d) (i / 60) 60
            have := (nI_eq (a := 0) (b := ztold (fun d => s.1 22 w d) (i / 60) 60) (by omega) (by omega)).mp (by rw [nI_0]; exact c)
            omega
          have c3 := ztold_0 c2
          have c4 := zsk_skip (σ := s) (w := w) (a := 60 * (i / 60)) (i - 60 * (i / 60)) fun j hj => by
            have h1 := c3 j (by omega)
            rcases hk.1 w (60 * (i / 60) + j) hw (by omega) with h2 | ⟨h2, h3, h4, h5⟩
            · exact h2.2
            · exfalso
              have h6 : s.1 84 w (60 * (i / 60) + j) + 41 = 0 := h2.symm.trans h1
              have := congrArg Int32.toInt h6
              rw [Int32.le_iff_toInt_le] at h4
              have h5' := Int32.le_iff_toInt_le.mp h5.1
              have k0 : (0 : Int32).toInt = 0 := rfl
              have k1 : (41 : Int32).toInt = 41 := rfl
              have k2 : (-40 : Int32).toInt = -40 := by decide
              have k3 : (200 : Int32).toInt = 200 := rfl
              rw [t_add (by omega) (by omega)] at this
              omega
          rw [show 60 * (i / 60) + (i - 60 * (i / 60)) = i by omega] at c4
          exact c4.symm
        · have m60 : nI (i / 60) * 60 = nI (60 * (i / 60)) := by
            apply Int32.toInt_inj.mp
            have k3 : (60 : Int32).toInt = 60 := rfl
            rw [Int32.toInt_mul, nI_toInt (by omega), nI_toInt (by omega), k3, Int.bmod_eq_of_le (by omega) (by omega)]
            omega
          unfold f_X5_on_2
          simp only
          rw [nI_pred, if_neg (nI_pos (by omega)), zg_i i1, zg_i i3, i2, i4, if_pos q, zg_i (by decide), zg_i i1, db, zg_i i5, i6, if_pos q3, m60]
      · refine Or.inr ⟨i, s, (nI w, nI i - 1), by omega, ⟨rfl, i, by omega, rfl, rfl, ?_⟩, fun rec => ?_⟩
        · rw [hz2, if_pos q2]
        · unfold f_X5_on_2
          simp only
          rw [nI_pred, if_neg (nI_pos (by omega)), zg_i i1, zg_i i3, i2, i4, if_pos q, zg_i (by decide), zg_i i1, db, zg_i i5, i6, if_neg q3]
    · refine Or.inl fun rec => ?_
      rcases hq with hq | ⟨h1, h2, -⟩
      · exact absurd hq.1 q
      unfold f_X5_on_2
      simp only
      rw [nI_pred, if_neg (nI_pos (by omega)), zg_i i1, zg_i i3, i2, i4, if_neg q, zg_i i1, zg_i i3, hz2, if_neg (by rw [h2]; decide), h1, Int32.add_sub_cancel]
theorem a_skyOf {σ : zMem} (hR : zRel σ) {F : Nat} (hF : 8000 < F) (x y : Int32) : zOK (fun σ => f_X10_skyOf F σ x y) (fun σ => f_X11_skyOf F σ x y) σ := by
  rcases zix (n := 2) (by omega) y with ⟨w, hw, rfl, c1, c2, c3, c4⟩ | ⟨_, c⟩
  · have c3' : ¬ (1 : Int32) < nI w := c3
    by_cases x1 : x < 0
    · exact zOK_same hR (-1000) (by simp [f_X10_skyOf, f_X5_has, zb, x1]) (by simp [f_X11_skyOf, e_X11_in, zb, x1])
    by_cases x2 : 7199 < x
    · exact zOK_same hR (-1000) (by simp [f_X10_skyOf, f_X5_has, zb, x1, x2]) (by simp [f_X11_skyOf, e_X11_in, zb, x1, x2])
    obtain ⟨d, hd, rfl⟩ := nI_of2 (M := 7199) (n := 7199) rfl x1 (Int32.not_lt.mp x2)
    exact zOK_same hR (zsk σ w (d + 1)) (by simp [f_X10_skyOf, f_X5_has, zb, x1, x2, c1, c3', e_X5_on hR.2.2.2.1 hw (show d < 7200 by omega) hF]) (by simp [f_X11_skyOf, e_X11_in, zb, x1, x2, c1, c3', e_X11_skyAt (σ := σ) hw (show d < 7200 by omega) hF])
  · have r1 : ∀ z : Int32, z = x → True := fun _ _ => trivial
    rcases c with c | ⟨c0, c1, c2, c3⟩
    · by_cases x1 : x < 0
      · exact zOK_same hR (-1000) (by simp [f_X10_skyOf, f_X5_has, zb, x1]) (by simp [f_X11_skyOf, e_X11_in, zb, x1])
      by_cases x2 : 7199 < x
      · exact zOK_same hR (-1000) (by simp [f_X10_skyOf, f_X5_has, zb, x1, x2]) (by simp [f_X11_skyOf, e_X11_in, zb, x1, x2])
      exact zOK_same hR (-1000) (by simp [f_X10_skyOf, f_X5_has, zb, x1, x2, c]) (by simp [f_X11_skyOf, e_X11_in, zb, x1, x2, c])
    · have c2' : (1 : Int32) < y := c2
      by_cases x1 : x < 0
      · exact zOK_same hR (-1000) (by simp [f_X10_skyOf, f_X5_has, zb, x1]) (by simp [f_X11_skyOf, e_X11_in, zb, x1])
      by_cases x2 : 7199 < x
      · exact zOK_same hR (-1000) (by simp [f_X10_skyOf, f_X5_has, zb, x1, x2]) (by simp [f_X11_skyOf, e_X11_in, zb, x1, x2])
      exact zOK_same hR (-1000) (by simp [f_X10_skyOf, f_X5_has, zb, x1, x2, c0, c2']) (by simp [f_X11_skyOf, e_X11_in, zb, x1, x2, c0, c2'])
