theorem zsk_b {σ : zMem} (hk : zRk σ) : ∀ d, d ≤ 7200 → zib (zsk σ 0 d) (-40) 40 ∧ zib (zsk σ 1 d) 0 200
  | 0, _ => ⟨⟨by show (-40 : Int) ≤ (5 : Int32).toInt; decide, by show (5 : Int32).toInt ≤ (40 : Int); decide⟩, ⟨by show (0 : Int) ≤ (0 : Int32).toInt; decide, by show (0 : Int32).toInt ≤ (200 : Int); decide⟩⟩
  | d + 1, hd => by
    obtain ⟨i1, i2⟩ := zsk_b hk d (by omega)
    have c1 : (-40 : Int32).toInt = -40 := by decide
    have c2 : (200 : Int32).toInt = 200 := rfl
    have c3 : (40 : Int32).toInt = 40 := rfl
    have c0 : (0 : Int32).toInt = 0 := rfl
    refine ⟨?_, ?_⟩
    · show zib (if σ.1 86 0 d = 0 then zsk σ 0 d else σ.1 84 0 d) _ _
      rcases hk.1 0 d (by omega) (by omega) with h | ⟨_, h2, h3, h4, h5, h6⟩
      · rw [if_pos h.2]
        exact i1
      · rw [if_neg (by rw [h2]; decide)]
        have := Int32.le_iff_toInt_le.mp h3
        have := Int32.le_iff_toInt_le.mp (h5 rfl)
        exact ⟨by omega, by omega⟩
    · show zib (if σ.1 86 1 d = 0 then zsk σ 1 d else σ.1 84 1 d) _ _
      rcases hk.1 1 d (by omega) (by omega) with h | ⟨_, h2, h3, h4, h5, h6⟩
      · rw [if_pos h.2]
        exact i2
      · rw [if_neg (by rw [h2]; decide)]
        have := Int32.le_iff_toInt_le.mp h4
        have := Int32.le_iff_toInt_le.mp (h6 rfl)
        exact ⟨by omega, by omega⟩
/-- the relation as it will be tomorrow, with c slides of today still to be told on the class's side -/
def zTm (d c : Nat) (τ : zMem) : zMem := zwi (zwi (zwi (zwi (zwi τ 38 0 3 (τ.1 38 0 3 + nI c)) 38 0 4 (τ.1 38 0 4 + (if τ.1 60 0 39 = 0 then nI c else 0))) 0 0 12 1) 0 0 11 (nI (d + 1))) 60 0 0 (nI (d + 1))
theorem zTm_o (d c : Nat) (τ : zMem) {k i j : Nat} (h : ¬ (k = 38 ∧ (j = 3 ∨ j = 4)) ∧ ¬ (k = 0 ∧ (j = 11 ∨ j = 12)) ∧ ¬ (k = 60 ∧ j = 0)) : (zTm d c τ).1 k i j = τ.1 k i j := by
  unfold zTm
  rw [zwi_r (by omega), zwi_r (by omega), zwi_r (by omega), zwi_r (by omega), zwi_r (by omega)]
def zd5 (F : Nat) (rec5 : zMem → Int32 × Int32 × Int32 × Int32 → Option (Int32 × zMem)) (σ : zMem) (x : Int32 × Int32 × Int32 × Int32) : Option (Int32 × zMem) := if (σ.1 38 0 1) ≤ x.2.2.2 then some (x.2.2.1, σ) else (zg (inb x.2.2.2 6) (zb (f_X6_live F σ x.2.2.2.toNatClampNeg x.1 x.2.1) fun r23 m23 => if r23 = 0 then (rec5 m23 ((x.1, x.2.1, x.2.2.1, (x.2.2.2 + 1)))) else (rec5 m23 ((x.1, x.2.1, (x.2.2.1 + 1), (x.2.2.2 + 1))))))
def zend (c : Int32) (σ : zMem) : Option (Unit × zMem) := if (σ.1 38 0 2) = 0 then some ((), zwi (zwi σ 38 0 3 (σ.1 38 0 3 + c)) 38 0 4 (σ.1 38 0 4 + c)) else (if c = 0 then some ((), zwi (zwi σ 38 0 3 (σ.1 38 0 3 + c)) 38 0 5 (σ.1 38 0 5 + 1)) else some ((), zwi σ 38 0 3 (σ.1 38 0 3 + c)))
def zl12 (F : Nat) (rec12 : zMem → Int32 × Int32 → Option (Int32 × zMem)) (σ : zMem) (x : Int32 × Int32) : Option (Int32 × zMem) := if (σ.1 60 0 32) ≤ x.2 then some (x.1, σ) else (zb (f_X11_slopeDay F σ x.2) fun r23 m23 => rec12 m23 (((x.1 ||| r23), (x.2 + 1))))
def zlend (F : Nat) (any : Int32) (σ : zMem) : Option (Unit × zMem) := if (σ.1 60 0 39) = 0 then (f_X11_oneDay_55 F σ 0 ((σ.1 60 0 42))) else (if any = 0 then (f_X11_oneDay_55 F σ 1 ((σ.1 60 0 42))) else (f_X11_oneDay_55 F σ 0 ((σ.1 60 0 42))))
theorem s_live_5 (F : Nat) : ∀ G s y, True → zit (f_X7_live_5 F) G s y = zb (zit (zd5 F) G s y) zend := by
  refine zit_split (fun _ => True) fun r r2 hr s y _ => ?_
  have hr2 : ∀ s k, r s k = zb (r2 s k) zend := fun s k => hr s k trivial
  unfold f_X7_live_5 zd5
  simp only [zb_ite, zb_s, zb_zg, zb_zb, hr2]
  unfold zend
  by_cases q : s.1 38 0 1 ≤ y.2.2.2
  · rw [if_pos q, if_pos q, zwi_r (by omega), zwi_r (by omega), zwi_r (by omega)]
  · rw [if_neg q, if_neg q]
theorem s_oneDay_12 (F : Nat) : ∀ G s y, True → zit (f_X11_oneDay_12 F) G s y = zb (zit (zl12 F) G s y) (zlend F) := by
  refine zit_split (fun _ => True) fun r r2 hr s y _ => ?_
  have hr2 : ∀ s k, r s k = zb (r2 s k) (zlend F) := fun s k => hr s k trivial
  unfold f_X11_oneDay_12 zl12
  simp only [zb_ite, zb_s, zb_zg, zb_zb, hr2]
  rfl
theorem x_zd5 (τ : zMem) (F : Nat) (rec5 rec5q : zMem → Int32 × Int32 × Int32 × Int32 → Option (Int32 × zMem)) (σ : zMem) (x : Int32 × Int32 × Int32 × Int32) (h : ∀ s y, rec5 (zmx s τ) y = zM τ (rec5q s y)) : zd5 F rec5 (zmx σ τ) x = zM τ (zd5 F rec5q σ x) := by
  simp only [zd5, Nat.reduceLT, zmx_x, zml_x, zwi_x, zwl_x, zM_zb, zM_fun, zM_ite, zM_iten, zM_zg, zM_some, x_X6_live τ, h]
theorem x_zend (τ : zMem) (c : Int32) (σ : zMem) : zend c (zmx σ τ) = zM τ (zend c σ) := by
  simp only [zend, Nat.reduceLT, zmx_x, zml_x, zwi_x, zwl_x, zM_zb, zM_fun, zM_ite, zM_iten, zM_zg, zM_some]
theorem y_zl12 (τ : zMem) (F : Nat) (rec12 rec12q : zMem → Int32 × Int32 → Option (Int32 × zMem)) (σ : zMem) (x : Int32 × Int32) (h : ∀ s y, rec12 (zmx τ s) y = zY τ (rec12q s y)) : zl12 F rec12 (zmx τ σ) x = zY τ (zl12 F rec12q σ x) := by
  simp only [zl12, Nat.reduceLeDiff, zmx_y, zml_y, zwi_y, zwl_y, zY_zb, zY_fun, zY_ite, zY_iten, zY_zg, zY_some, y_X11_slopeDay τ, h]
theorem x_zd98 (τ : zMem) (F : Nat) (rec98 rec98q : zMem → Int32 × Int32 × Int32 × Int32 → Option (Unit × zMem)) (σ : zMem) (x : Int32 × Int32 × Int32 × Int32) (h : ∀ s y, rec98 (zmx s τ) y = zM τ (rec98q s y)) : zd98 F rec98 (zmx σ τ) x = zM τ (zd98 F rec98q σ x) := by
  have k1 : ∀ s l1 l2 l3 l4 l5, f_X10_liveDay_134 F rec98 (zmx s τ) l1 l2 l3 l4 l5 = zM τ (f_X10_liveDay_134 F rec98q s l1 l2 l3 l4 l5) := fun s l1 l2 l3 l4 l5 => x_X10_liveDay_134 τ F rec98 rec98q s l1 l2 l3 l4 l5 h
  have k2 : ∀ s l1 l2 l3 l4 l5, f_X10_liveDay_129 F rec98 (zmx s τ) l1 l2 l3 l4 l5 = zM τ (f_X10_liveDay_129 F rec98q s l1 l2 l3 l4 l5) := fun s l1 l2 l3 l4 l5 => x_X10_liveDay_129 τ F rec98 rec98q s l1 l2 l3 l4 l5 h
  simp only [zd98, Nat.reduceLT, zmx_x, zml_x, zwi_x, zwl_x, zM_zb, zM_fun, zM_ite, zM_iten, zM_zg, zM_some, k1, k2]
theorem zTm_s (d cc j : Nat) (τ : zMem) (C D : zSl) : zTm d cc (zsr (zsc τ j C) j D) = zsr (zsc (zTm d cc τ) j C) j D := by
  refine Prod.ext ?_ rfl
  funext x y z
  have g39 : (zsr (zsc τ j C) j D).1 60 0 39 = τ.1 60 0 39 := by rw [zsr_o _ _ _ (by omega), zsc_o _ _ _ (by omega)]
  have g3 : (zsr (zsc τ j C) j D).1 38 0 3 = τ.1 38 0 3 := by rw [zsr_o _ _ _ (by omega), zsc_o _ _ _ (by omega)]
  have g4 : (zsr (zsc τ j C) j D).1 38 0 4 = τ.1 38 0 4 := by rw [zsr_o _ _ _ (by omega), zsc_o _ _ _ (by omega)]
  by_cases hx : x = 38 ∨ x = 0 ∨ x = 60
  · rw [zsr_o _ _ _ (by omega), zsc_o _ _ _ (by omega)]
    unfold zTm
    rw [g39, g3, g4]
    simp only [zwi, zu]
    have gg : ∀ y z, (zsr (zsc τ j C) j D).1 x y z = τ.1 x y z := fun y z => by rw [zsr_o _ _ _ (by omega), zsc_o _ _ _ (by omega)]
    rw [gg]
  · rw [zTm_o d cc _ (by omega)]
    simp only [zsr, zsc]
    rw [zTm_o d cc _ (by omega)]
theorem p_slope {σ : zMem} {d j : Nat} (hR : zRel σ) (hj6 : j < 6) {C1 D1 : zSl} (he : zeqD C1 D1) (hi : zinD (200 * ((d : Int) + 1)) D1) {a : Nat} (ha4 : a ≤ 400) (ea : D1.1 = nI a) (hd : d < 7199) (ed : σ.1 60 0 0 = nI (d + 1)) : zRel (zsr (zsc σ j C1) j D1) := by
  obtain ⟨e1, e2, e3, e4⟩ := he
  obtain ⟨i1, i2⟩ := hi
  have a0 : (0 : Int32) ≤ nI a := nI_pos' (by omega)
  have a4 : nI a ≤ 400 := (nI_leI (a := a) (b := 400) (by omega) (by omega)).mpr ha4
  obtain ⟨hh, hr, hw, hk, ha, hd, hl, hc, ht, hb, hQ⟩ := hR
  refine ⟨?_, ?_, ?_, ?_, ?_, ?_, ?_, ?_, ?_, ?_, ?_⟩
  · simpa [zRh, zsc, zsr] using hh
  · simpa [zRr, zsc, zsr] using hr
  · simpa [zRw, zsc, zsr] using hw
  · simpa [zRk, zsc, zsr] using hk
  · simpa [zRa, zsc, zsr] using ha
  · simpa [zRd, zsc, zsr] using hd
  · obtain ⟨p1, p2, p3, p4⟩ := hl
    refine ⟨by simpa [zsc, zsr] using p1, by simpa [zsc, zsr] using p2, fun z hz => ?_, by simpa [zsc, zsr] using p4⟩
    have q := p3 z hz
    by_cases e : z = j
    · subst e
      refine ⟨by simp [zsc, zsr, e1], by simpa [zsc, zsr] using q.2.1, by simpa [zsc, zsr] using q.2.2.1, by simpa [zsc, zsr, ea] using a0, by simpa [zsc, zsr, ea] using a4, by simp [zsc, zsr, e4], D1.2.1, i1, by simp [zsc, zsr, e2], by simp [zsc, zsr], fun i hi => ?_⟩
      have m1 := e3 i (by omega)
      have m2 := (i2 i hi).2
      simpa [zsc, zsr, m1.1, m1.2] using m2
    · simpa [zsc, zsr, e] using q
  · simpa [zRc, zsc, zsr] using hc
  · simpa [zRt, zsc, zsr] using ht
  · simpa [zRb, zsc, zsr] using hb
  · obtain ⟨y1, y2, y3, y4, y5, y6, y7, y8, y9, y10⟩ := hQ
    refine ⟨by simpa [zsc, zsr] using y1, by simpa [zsc, zsr] using y2, by simpa [zsc, zsr] using y3, by simpa [zsc, zsr] using y4, by simpa [zsc, zsr] using y5, by simpa [zsc, zsr] using y6, ?_, by simpa [zsc, zsr] using y8, by simpa [zsc, zsr] using y9, by simpa [zsc, zsr] using y10⟩
    · intro s i hs hi hlt
      by_cases e : s = j
      · subst e
        have h1 : nI i < nI D1.2.1 := by simpa [zsc, zsr] using hlt
        have h2 := (i2 i ((nI_ltI (by omega) (by omega)).mp h1)).1
        rw [show 200 * ((d : Int) + 1) = 200 * (nI (d + 1)).toInt by rw [nI_toInt (by omega)]; omega, ← ed] at h2
        simpa [zsc, zsr] using h2
      · have h1 : nI i < σ.1 95 0 s := by simpa [zsc, zsr, e] using hlt
        simpa [zsc, zsr, e] using y7 s i hs hi h1
theorem p_slid {τ : zMem} {d cc : Nat} (hR : zRel (zTm d cc τ)) : zRel (zTm d (cc + 1) (zsld τ)) := by
  have e : zTm d (cc + 1) (zsld τ) = zwi (zwi (zwi (zwi (zTm d cc τ) 38 0 3 ((zTm d cc τ).1 38 0 3 + 1)) 38 0 4 ((zTm d cc τ).1 38 0 4 + (if (zTm d cc τ).1 60 0 39 = 0 then 1 else 0))) 60 0 40 ((zTm d cc τ).1 60 0 40 + 1)) 60 0 41 ((zTm d cc τ).1 60 0 41 + (if (zTm d cc τ).1 60 0 39 = 0 then 1 else 0)) := by
    have s3 : τ.1 38 0 3 + nI (cc + 1) = τ.1 38 0 3 + nI cc + 1 := by rw [Int32.add_assoc, nI_1]
    have s4 : τ.1 38 0 4 + (if τ.1 60 0 39 = 0 then nI (cc + 1) else 0) = τ.1 38 0 4 + (if τ.1 60 0 39 = 0 then nI cc else 0) + (if τ.1 60 0 39 = 0 then 1 else 0) := by
      split
      · rw [Int32.add_assoc, nI_1]
      · rw [Int32.add_zero, Int32.add_zero]
    have r3 : (zTm d cc τ).1 38 0 3 = τ.1 38 0 3 + nI cc := by simp [zTm, zwi, zu]
    have r4 : (zTm d cc τ).1 38 0 4 = τ.1 38 0 4 + (if τ.1 60 0 39 = 0 then nI cc else 0) := by simp [zTm, zwi, zu]
    rw [r3, r4, zTm_o d cc τ (by omega), zTm_o d cc τ (by omega), zTm_o d cc τ (by omega), ← s3, ← s4]
    have q39 : (zsld τ).1 60 0 39 = τ.1 60 0 39 := by
      unfold zsld
      rw [zwi_r (by omega), zwi_r (by omega)]
    have q3 : (zsld τ).1 38 0 3 = τ.1 38 0 3 := by
      unfold zsld
      rw [zwi_r (by omega), zwi_r (by omega)]
    have q4 : (zsld τ).1 38 0 4 = τ.1 38 0 4 := by
      unfold zsld
      rw [zwi_r (by omega), zwi_r (by omega)]
    refine Prod.ext ?_ rfl
    funext x y z
    unfold zTm
    rw [q39, q3, q4]
    unfold zsld
    simp only [zwi, zu]
    by_cases h1 : x = 60 ∧ y = 0 ∧ z = 0
    · rw [if_pos h1, if_neg (by omega), if_neg (by omega), if_neg (by omega), if_neg (by omega), if_pos h1]
    rw [if_neg h1]
    by_cases h2 : x = 0 ∧ y = 0 ∧ z = 11
    · rw [if_pos h2, if_neg (by omega), if_neg (by omega), if_neg (by omega), if_neg (by omega), if_neg h1, if_pos h2]
    rw [if_neg h2]
    by_cases h3 : x = 0 ∧ y = 0 ∧ z = 12
    · rw [if_pos h3, if_neg (by omega), if_neg (by omega), if_neg (by omega), if_neg (by omega), if_neg h1, if_neg h2, if_pos h3]
    rw [if_neg h3]
    by_cases h4 : x = 38 ∧ y = 0 ∧ z = 4
    · obtain ⟨rfl, rfl, rfl⟩ := h4
      simp
    rw [if_neg h4]
    by_cases h5 : x = 38 ∧ y = 0 ∧ z = 3
    · rw [if_pos h5, if_neg (by omega), if_neg (by omega), if_neg (by omega), if_pos h5]
    rw [if_neg h5]
    by_cases h6 : x = 60 ∧ y = 0 ∧ z = 41
    · rw [if_pos h6, if_pos h6]
    rw [if_neg h6, if_neg h6]
    by_cases h7 : x = 60 ∧ y = 0 ∧ z = 40
    · rw [if_pos h7, if_pos h7]
    rw [if_neg h7, if_neg h7, if_neg h4, if_neg h5, if_neg h1, if_neg h2, if_neg h3]
    rw [if_neg h4, if_neg h5]
  rw [e]
  generalize zTm d cc τ = σ at hR
  have l4 := hR.2.2.2.2.2.2.1.2.2.2.2.2
  obtain ⟨hh, hr, hw, hk, ha, hd, hl, hc, ht, hb, hQ⟩ := hR
  refine ⟨?_, ?_, ?_, ?_, ?_, ?_, ?_, ?_, ?_, ?_, ?_⟩
  · simpa [zRh, zwi, zu] using hh
  · simpa [zRr, zwi, zu] using hr
  · simpa [zRw, zwi, zu] using hw
  · simpa [zRk, zwi, zu] using hk
  · simpa [zRa, zwi, zu] using ha
  · simpa [zRd, zwi, zu] using hd
  · obtain ⟨p1, p2, p3, p4, p5, p6, p7, p8, p9⟩ := hl
    refine ⟨by simpa [zwi, zu] using p1, by simpa [zwi, zu] using p2, by simpa [zwi, zu] using p3, by simpa [zwi, zu] using p4, by simpa [zwi, zu] using p5, by simp [zwi, zu, p6], by simp [zwi, zu, p7], by simpa [zwi, zu] using p8, by simpa [zwi, zu] using p9⟩
  · simpa [zRc, zwi, zu] using hc
  · simpa [zRt, zwi, zu] using ht
  · simpa [zRb, zwi, zu] using hb
  · simpa [zRz, zwi, zu] using hQ
/-- today's relation is tomorrow's, but for the day -/
theorem p_P0 {σ : zMem} (hR : zRel σ) {d : Nat} (hd : d < 7199) (ed : σ.1 60 0 0 = nI d) : zRel (zTm d 0 σ) := by
  have e : zTm d 0 σ = zwi (zwi (zwi σ 0 0 12 1) 0 0 11 (nI (d + 1))) 60 0 0 (nI (d + 1)) := by
    unfold zTm
    rw [nI_0, Int32.add_zero, zwi_id (σ := σ) (k := 38) (i := 0) (j := 3) rfl]
    have : (if σ.1 60 0 39 = 0 then (0 : Int32) else 0) = 0 := by split <;> rfl
    rw [this, Int32.add_zero, zwi_id (σ := σ) (k := 38) (i := 0) (j := 4) rfl]
  rw [e]
  have b1 : (σ.1 60 0 0).toInt = d := by rw [ed, nI_toInt (by omega)]
  have b2 : (nI (d + 1)).toInt = (d : Int) + 1 := by rw [nI_toInt (by omega)]; omega
  obtain ⟨hh, hr, hw, hk, ha, hd, hl, hc, ht, hb, hQ⟩ := hR
  refine ⟨?_, ?_, ?_, ?_, ?_, ?_, ?_, ?_, ?_, ?_, ?_⟩
  · simpa [zRh, zwi, zu] using hh
  · simpa [zRr, zwi, zu] using hr
  · simpa [zRw, zwi, zu] using hw
  · simpa [zRk, zwi, zu] using hk
  · obtain ⟨p1, p2, p3⟩ := ha
    exact ⟨⟨d + 1, by omega, by simp [zwi, zu]⟩, by simp [zwi, zu], by simpa [zwi, zu] using p3⟩
  · simpa [zRd, zwi, zu] using hd
  · simpa [zRl, zwi, zu] using hl
  · obtain ⟨p1, p2, p3, p4, p5, p6, p7, p8, p9, p10⟩ := hc
    have m1 := Int32.le_iff_toInt_le.mp p9
    have n1 : ¬ nI (d + 1) = 0 := nI_ne0 (by omega) (by omega)
    have n2 : ¬ σ.1 60 0 43 = nI (d + 1) := fun q => by
      have := congrArg Int32.toInt q
      omega
    have n3 : σ.1 60 0 43 ≤ nI (d + 1) := by
      rw [Int32.le_iff_toInt_le]
      omega
    refine ⟨by simpa [zwi, zu] using p1, by simpa [zwi, zu] using p2, by simpa [zwi, zu] using p3, by simpa [zwi, zu] using p4, by simpa [zwi, zu] using p5, by simpa [zwi, zu] using p6, by simpa [zwi, zu] using p7, Or.inl ⟨by simp [zwi, zu], by simpa [zwi, zu] using n1, by simpa [zwi, zu] using n2⟩, by simpa [zwi, zu] using n3, by simpa [zwi, zu] using p10⟩
  · simpa [zRt, zwi, zu] using ht
  · simpa [zRb, zwi, zu] using hb
  · obtain ⟨y1, y2, y3, y4, y5, y6, y7, y8, y9, y10⟩ := hQ
    refine ⟨by simpa [zwi, zu] using y1, by simpa [zwi, zu] using y2, by simpa [zwi, zu] using y3, by simpa [zwi, zu] using y4, by simpa [zwi, zu] using y5, by simpa [zwi, zu] using y6, ?_, by simpa [zwi, zu] using y8, by simpa [zwi, zu] using y9, by simpa [zwi, zu] using y10⟩
    · intro s i hs hi hlt
      have h1 : nI i < σ.1 95 0 s := by simpa [zwi, zu] using hlt
      have h2 := y7 s i hs hi h1
      rw [b1] at h2
      have h3 : zib (σ.1 97 s i) 0 (if i = 0 then 200 * (nI (d + 1)).toInt else 200) := by
        refine ⟨h2.1, ?_⟩
        have h4 := h2.2
        rw [b2]
        by_cases c0 : i = 0
        · rw [if_pos c0] at h4 ⊢
          omega
        · rw [if_neg c0] at h4 ⊢
          exact h4
      simpa [zwi, zu] using h3
theorem ro' (τ : zMem) (j : Nat) (C1 : zSl) {k x y : Nat} (h : 60 ≤ k) : (zsc τ j C1).1 k x y = τ.1 k x y := zsc_o _ _ _ (by omega)
theorem j_slopes {σ : zMem} (hR : zRel σ) {F d ns : Nat} (hF : 8000 < F) (hd : d < 7199) (hns : ns ≤ 6) (ed : σ.1 60 0 0 = nI d) (en : σ.1 38 0 1 = nI ns) : zJ (fun r s τ => ∃ c, c ≤ 6 ∧ r = nI c ∧ s = bI (decide (0 < c)) ∧ zRel (zTm d c τ) ∧ τ.1 0 0 11 = nI d ∧ τ.1 60 0 0 = nI d ∧ τ.1 38 0 1 = nI ns) (fun σ => zit (zd5 F) F σ (zsk σ 0 (d + 1), zsk σ 1 (d + 1), 0, 0)) (fun σ => zit (zl12 F) F σ (0, 0)) σ := by
  have dd := hR.2.2.2.2.1.2.1
  obtain ⟨wb, fb⟩ := zsk_b hR.2.2.2.1 (d + 1) (by omega)
  have y7 := hR.2.2.2.2.2.2.2.2.2.2.2.2.2.2.2.2.1
  rw [ed, nI_toInt (by omega)] at y7
  generalize hw : zsk σ 0 (d + 1) = w at wb
  generalize hf : zsk σ 1 (d + 1) = f at fb
  show zJ _ (fun s => zit (zd5 F) F s (zsk s 0 (d + 1), zsk s 1 (d + 1), 0, 0)) _ σ
  suffices h : zJ (fun r s τ => ∃ c, c ≤ 6 ∧ r = nI c ∧ s = bI (decide (0 < c)) ∧ zRel (zTm d c τ) ∧ τ.1 0 0 11 = nI d ∧ τ.1 60 0 0 = nI d ∧ τ.1 38 0 1 = nI ns) (fun σ => zit (zd5 F) F σ (w, f, 0, 0)) (fun σ => zit (zl12 F) F σ (0, 0)) σ by
    obtain ⟨r, s, σ1, σ2, h1, h2, h3⟩ := h
    refine ⟨r, s, σ1, σ2, ?_, h2, h3⟩
    show zit (zd5 F) F σ (zsk σ 0 (d + 1), zsk σ 1 (d + 1), 0, 0) = _
    rw [hw, hf]
    exact h1
  refine zlock (0 : Int32) (0 : Int32) (fun τ r r2 h s y => x_zd5 τ F r r2 s y h) (fun τ r r2 h s y => y_zl12 τ F r r2 s y h)
    (fun m τ x y => ∃ j c, j ≤ ns ∧ c ≤ j ∧ m = ns - j ∧ x = (w, f, nI c, nI j) ∧ y = (bI (decide (0 < c)), nI j) ∧ zRel (zTm d c τ) ∧ τ.1 0 0 11 = nI d ∧ τ.1 60 0 0 = nI d ∧ τ.1 38 0 1 = nI ns ∧ (∀ k i, zsk τ k i = zsk σ k i) ∧ (∀ s i, j ≤ s → s < 6 → i < 6 → nI i < τ.1 95 0 s → zib (τ.1 97 s i) 0 (if i = 0 then 200 * (d : Int) else 200))) _ ?_ F ns σ _ _ (by omega) ⟨0, 0, by omega, by omega, by omega, rfl, rfl, p_P0 hR hd ed, dd.symm.trans ed, ed, en, fun _ _ => rfl, fun s i _ hs hi hlt => y7 s i hs hi hlt⟩
  rintro m τ x y ⟨j, c, hj, hc, rfl, rfl, rfl, hτ, d1, d2, n1, zs, ob⟩
  have n2 : τ.1 60 0 32 = nI ns := by
    have := hτ.2.2.2.2.2.2.1.2.1
    rw [zTm_o d c τ (by omega), zTm_o d c τ (by omega)] at this
    exact this.trans n1
  by_cases e : j = ns
  · subst e
    refine Or.inl ⟨nI c, bI (decide (0 < c)), τ, τ, fun rec => ?_, fun rec => ?_, c, by omega, rfl, rfl, hτ, d1, d2, n1⟩
    · unfold zd5
      simp only
      rw [n1, if_pos (Int32.le_refl _)]
    · unfold zl12
      simp only
      rw [n2, if_pos (Int32.le_refl _)]
  have hjn : ¬ nI ns ≤ nI j := nle_s (by omega) (by omega)
  have hj6 : j < 6 := by omega
  have i1 := inb_n hj6 (by omega)
  have i2 := nI_clamp (show j < 2 ^ 31 by omega)
  -- slope j
  have hl := hτ.2.2.2.2.2.2.1.2.2.1 j hj6
  rw [zTm_o d c τ (by omega), zTm_o d c τ (by omega), zTm_o d c τ (by omega), zTm_o d c τ (by omega), zTm_o d c τ (by omega), zTm_o d c τ (by omega), zTm_o d c τ (by omega), zTm_o d c τ (by omega)] at hl
  obtain ⟨l1, l2, l3, l4, l5, l6, m, hm, l7, l8, l9⟩ := hl
  obtain ⟨a, ha4, ea⟩ := nI_of2 (M := 400) (n := 400) rfl (Int32.not_lt.mpr l4) l5
  have l9 : ∀ i, i < m → τ.1 41 j i = τ.1 97 j i ∧ τ.1 42 j i = τ.1 99 j i ∧ (τ.1 99 j i = 0 ∨ τ.1 99 j i = 1) := fun i hi => by
    have := l9 i hi
    rw [zTm_o d c τ (by omega), zTm_o d c τ (by omega), zTm_o d c τ (by omega), zTm_o d c τ (by omega)] at this
    exact this
  have e0 : zeqD (τ.1 40 j 0, m, fun i => τ.1 41 j i, fun i => τ.1 42 j i, τ.1 40 j 2) (τ.1 93 0 j, m, fun i => τ.1 97 j i, fun i => τ.1 99 j i, τ.1 100 0 j) := ⟨l1, rfl, fun i hi => ⟨(l9 i hi).1, (l9 i hi).2.1⟩, l6⟩
  have d0 : zinD (200 * (d : Int)) (τ.1 93 0 j, m, fun i => τ.1 97 j i, fun i => τ.1 99 j i, τ.1 100 0 j) := ⟨hm, fun i hi => by
    have hi : i < m := hi
    exact ⟨ob j i (Nat.le_refl j) hj6 (by omega) (by rw [l8]; exact (nI_ltI (by omega) (by omega)).mpr hi), (l9 i hi).2.2⟩⟩
  have eC := zsc_0 τ j m l7
  generalize hC : ((τ.1 40 j 0, m, fun i => τ.1 41 j i, fun i => τ.1 42 j i, τ.1 40 j 2) : zSl) = C at e0 eC
  generalize hD : ((τ.1 93 0 j, m, fun i => τ.1 97 j i, fun i => τ.1 99 j i, τ.1 100 0 j) : zSl) = D at e0 d0
  have aD : D.1 = nI a := by rw [← hD]; exact ea
  have cm : C.2.1 ≤ 6 := by rw [← hC]; exact hm
  have cs : ∀ i, i < C.2.1 → C.2.2.2.1 i = 0 ∨ C.2.2.2.1 i = 1 := fun i hi => by
    rw [(e0.2.2.1 i hi).2]
    exact (d0.2 i (by rw [← e0.2.1]; exact hi)).2
  have lv := e_live (σ := τ) (s := j) (F := F) (D := C) (w := w) (f := f) (wk := τ.1 40 j 3) (by omega) hj6 cm cs rfl
  rw [eC] at lv
  have e1 := zeqD_dl (w := w) (f := f) e0 d0
  have i3 := zinD_dl wb fb (by omega) (by omega) d0
  rw [show 200 * (d : Int) + 200 = 200 * ((d : Int) + 1) by omega] at i3
  have age : (zdlr w f D).1 = D.1 := by
    rw [← e1.1, (zdlc_1 w f C).1]
    exact e0.1
  -- the reference
  have sd : ∀ C1 : zSl, f_X11_slopeDay F (zsc τ j C1) (nI j) = if zslb (τ.1 40 j 3) (zdlr w f D) then some (1, zsld (zsr (zsc τ j C1) j (zsli (zdlr w f D)))) else some (0, zsr (zsc τ j C1) j (zdlr w f D)) := by
    intro C1
    have rc : ∀ k x y, 60 ≤ k → (zsc τ j C1).1 k x y = τ.1 k x y := fun k x y hk => zsc_o _ _ _ (by omega)
    have z0 := zsr_0 (zsc τ j C1) j m ((rc _ _ _ (by omega)).trans l8)
    have g1 : (fun i => (zsc τ j C1).1 97 j i) = fun i => τ.1 97 j i := by funext i; exact rc _ _ _ (by omega)
    have g2 : (fun i => (zsc τ j C1).1 99 j i) = fun i => τ.1 99 j i := by funext i; exact rc _ _ _ (by omega)
    rw [rc 93 _ _ (by omega), rc 100 _ _ (by omega), g1, g2, hD] at z0
    have zz : ∀ k i, zsk (zsc τ j C1) k i = zsk σ k i := fun k i => by
      rw [zsk_s (σ := τ) (s := zsc τ j C1) (by funext a b; exact rc _ _ _ (by omega)) (by funext a b; exact rc _ _ _ (by omega)), zs]
    have r := e_slopeDay (σ := zsc τ j C1) (s := j) (F := F) (j := a) (d := d) (D := D) (wk := τ.1 40 j 3) hF hj6 ha4 aD ((rc _ _ _ (by omega)).trans l2.symm) (B0 := 200 * (d : Int)) (by omega) (by omega) d0 (by omega) ((rc _ _ _ (by omega)).trans d2) (by rw [zz, hw]; exact wb) (by rw [zz, hf]; exact fb)
    rw [zz, zz, hw, hf, z0] at r
    exact r
  -- what holds behind it
  have keepo : ∀ (s i : Nat) (C1 D1 : zSl), j + 1 ≤ s → s < 6 → i < 6 → nI i < (zsr (zsc τ j C1) j D1).1 95 0 s → zib ((zsr (zsc τ j C1) j D1).1 97 s i) 0 (if i = 0 then 200 * (d : Int) else 200) := by
    intro s i C1 D1 h1 h2 h3 h4
    have n : ¬ s = j := by omega
    have g1 : (zsr (zsc τ j C1) j D1).1 95 0 s = τ.1 95 0 s := by simp [zsr, zsc, n]
    have g2 : (zsr (zsc τ j C1) j D1).1 97 s i = τ.1 97 s i := by simp [zsr, zsc, n]
    rw [g1] at h4
    rw [g2]
    exact ob s i (by omega) h2 h3 h4
  have ro : ∀ (C1 D1 : zSl) (k x y : Nat), (¬ k = 40 ∧ ¬ k = 41 ∧ ¬ k = 42) → (¬ k = 93 ∧ ¬ k = 95 ∧ ¬ k = 97 ∧ ¬ k = 99 ∧ ¬ k = 100) → (zsr (zsc τ j C1) j D1).1 k x y = τ.1 k x y := fun C1 D1 k x y h1 h2 => by rw [zsr_o _ _ _ h2, zsc_o _ _ _ (by omega)]
  have dP : (zTm d c τ).1 60 0 0 = nI (d + 1) := by simp [zTm, zwi, zu]
  by_cases q : zslb (τ.1 40 j 3) (zdlc w f C) = true
  · have q2 : zslb (τ.1 40 j 3) (zdlr w f D) = true := by rw [← zslb_c e1]; exact q
    rw [if_pos q] at lv
    have r := sd (zsli (zdlc w f C))
    rw [if_pos q2] at r
    have age2 : ∃ a2, a2 ≤ 400 ∧ (zsli (zdlr w f D)).1 = nI a2 := by
      show ∃ a2, a2 ≤ 400 ∧ (if 40 ≤ (zdlr w f D).1 then (zdlr w f D).1 else 0) = nI a2
      rw [age, aD]
      split
      · exact ⟨a, ha4, rfl⟩
      · exact ⟨0, by omega, rfl⟩
    obtain ⟨a2, ha2, ea2⟩ := age2
    have pr := p_slope (σ := zTm d c τ) (d := d) (j := j) hτ hj6 (zeqD_sl e1) (zinD_sl i3) ha2 ea2 hd dP
    rw [← zTm_s] at pr
    have ps := p_slid pr
    refine Or.inr ⟨ns - (j + 1), (w, f, nI (c + 1), nI (j + 1)), (bI (decide (0 < c + 1)), nI (j + 1)), zsc τ j (zsli (zdlc w f C)), zsld (zsr (zsc τ j (zsli (zdlc w f C))) j (zsli (zdlr w f D))), by omega, fun rec => ?_, fun rec => ?_, j + 1, c + 1, by omega, by omega, rfl, rfl, rfl, ps, ?_, ?_, ?_, ?_, ?_⟩
    rotate_left
    rotate_left
    · unfold zsld
      rw [zwi_r (by omega), zwi_r (by omega), ro _ _ _ _ _ (by omega) (by omega)]
      exact d1
    · unfold zsld
      rw [zwi_r (by omega), zwi_r (by omega), ro _ _ _ _ _ (by omega) (by omega)]
      exact d2
    · unfold zsld
      rw [zwi_r (by omega), zwi_r (by omega), ro _ _ _ _ _ (by omega) (by omega)]
      exact n1
    · intro k i
      rw [← zs]
      refine zsk_s ?_ ?_ i
      · funext x y
        unfold zsld
        rw [zwi_r (by omega), zwi_r (by omega), ro _ _ _ _ _ (by omega) (by omega)]
      · funext x y
        unfold zsld
        rw [zwi_r (by omega), zwi_r (by omega), ro _ _ _ _ _ (by omega) (by omega)]
    · intro s i h1 h2 h3 h4
      unfold zsld at h4 ⊢
      rw [zwi_r (by omega), zwi_r (by omega)] at h4 ⊢
      exact keepo s i _ _ h1 h2 h3 h4
    · unfold zd5
      simp only
      rw [n1, if_neg hjn, zg_i i1, i2, lv, zb_s, if_neg (by decide), nI_1, nI_1]
    · unfold zl12
      simp only
      rw [ro' τ j (zsli (zdlc w f C)) (by omega), n2, if_neg hjn, r, zb_s, nI_1]
      have : bI (decide (0 < c)) ||| 1 = bI (decide (0 < c + 1)) := by
        rw [show decide (0 < c + 1) = true by simp, show (1 : Int32) = bI true from rfl, bI_or]
        cases decide (0 < c) <;> rfl
      rw [this]
  · have q2 : ¬ zslb (τ.1 40 j 3) (zdlr w f D) = true := by rw [← zslb_c e1]; exact q
    rw [if_neg q] at lv
    have r := sd (zdlc w f C)
    rw [if_neg q2] at r
    have pr := p_slope (σ := zTm d c τ) (d := d) (j := j) hτ hj6 e1 i3 ha4 (age.trans aD) hd dP
    rw [← zTm_s] at pr
    refine Or.inr ⟨ns - (j + 1), (w, f, nI c, nI (j + 1)), (bI (decide (0 < c)), nI (j + 1)), zsc τ j (zdlc w f C), zsr (zsc τ j (zdlc w f C)) j (zdlr w f D), by omega, fun rec => ?_, fun rec => ?_, j + 1, c, by omega, by omega, rfl, rfl, rfl, pr, ?_, ?_, ?_, ?_, ?_⟩
    rotate_left
    rotate_left
    · rw [ro _ _ _ _ _ (by omega) (by omega)]
      exact d1
    · rw [ro _ _ _ _ _ (by omega) (by omega)]
      exact d2
    · rw [ro _ _ _ _ _ (by omega) (by omega)]
      exact n1
    · intro k i
      rw [← zs]
      refine zsk_s ?_ ?_ i
      · funext x y
        rw [ro _ _ _ _ _ (by omega) (by omega)]
      · funext x y
        rw [ro _ _ _ _ _ (by omega) (by omega)]
    · intro s i h1 h2 h3 h4
      exact keepo s i _ _ h1 h2 h3 h4
    · unfold zd5
      simp only
      rw [n1, if_neg hjn, zg_i i1, i2, lv, zb_s, if_pos rfl, nI_1]
    · unfold zl12
      simp only
      rw [ro' τ j (zdlc w f C) (by omega), n2, if_neg hjn, r, zb_s, nI_1]
      have : bI (decide (0 < c)) ||| 0 = bI (decide (0 < c)) := by
        rw [show (0 : Int32) = bI false from rfl, bI_or, Bool.or_false]
      rw [this]
