/-- a slide is told -/
def zsld (σ : zMem) : zMem := zwi (zwi σ 60 0 40 (σ.1 60 0 40 + 1)) 60 0 41 (σ.1 60 0 41 + (if σ.1 60 0 39 = 0 then 1 else 0))
theorem zbh_n (wk : Int32) {j : Nat} (hj : j ≤ 400) : ∃ b, 40 ≤ b ∧ b ≤ 150 ∧ zbh wk (nI j) = nI b := by
  have d : nI j / 5 = nI (j / 5) := nI_div (a := j) (b := 5) (by omega) (by omega) (by omega)
  unfold zbh
  rw [d]
  split
  · refine ⟨40 + j / 5 + 0, by omega, by omega, ?_⟩
    rw [← nI_add, ← nI_add]
    rfl
  · refine ⟨40 + j / 5 + 30, by omega, by omega, ?_⟩
    rw [← nI_add, ← nI_add]
    rfl
theorem e_107 {σ : zMem} {s F j : Nat} {D : zSl} {wk : Int32} (hF : 100 < F) (hs : s < 6) (hm : D.2.1 ≤ 6) (hj : j ≤ 400) (ha : D.1 = nI j) (hw : σ.1 94 0 s = wk) : f_X11_slopeDay_107 F (zsr σ s D) (nI s) = if zslb wk D then some (1, zsld (zsr σ s (zsli D))) else some (0, zsr σ s D) := by
  have i1 := inb_n hs (by omega)
  have i2 := nI_clamp (show s < 2 ^ 31 by omega)
  have l := zlg_le D.2.2.2.1 D.2.1 D.2.1 (Nat.le_refl _)
  have low := e_X11_lowestSoft (σ := zsr σ s D) hF hs hm (zsr_rm σ s D)
  have f1 : (fun i => (zsr σ s D).1 99 s i) = D.2.2.2.1 := by funext i; exact zsr_rs σ s D i
  have f2 : (fun i => (zsr σ s D).1 97 s i) = D.2.2.1 := by funext i; exact zsr_rd σ s D i
  rw [zlf_g, f1] at low
  unfold f_X11_slopeDay_107
  rw [low, zb_s]
  unfold zslb
  obtain ⟨b, b1, b2, b3⟩ := zbh_n wk hj
  by_cases q : zlg D.2.2.2.1 D.2.1 D.2.1 = D.2.1
  · rw [if_pos q, if_pos (by decide), q, show D.2.1 - (D.2.1 + 1) = 0 by omega, if_neg]
    rw [ha, b3]
    have : ¬ nI b ≤ zlz D.2.2.1 D.2.1 0 0 := fun k => by
      have := (nI_leI (a := b) (b := 0) (by omega) (by omega)).mp k
      omega
    simpa using this
  · have ov := e_X11_over (σ := zsr σ s D) hF hs hm (l := zlg D.2.2.2.1 D.2.1 D.2.1 + 1) (by omega) (zsr_rm σ s D) (p := nI (zlg D.2.2.2.1 D.2.1 D.2.1)) (nI_1 _)
    rw [zly_z, f2] at ov
    have ho := e_X11_holdsOf (σ := zsr σ s D) hs F D.1
    have hz : zbea (zsr σ s D) s D.1 = zbh wk D.1 := by
      unfold zbea zbh
      rw [zsr_o σ s D (by omega), hw]
    rw [hz] at ho
    rw [if_neg q, if_neg (nI_pos (by omega)), ov, zb_s, zg_i i1, i2, zsr_ra, ho, zb_s]
    by_cases q2 : zbh wk D.1 ≤ zlz D.2.2.1 D.2.1 (D.2.1 - (zlg D.2.2.2.1 D.2.1 D.2.1 + 1)) 0
    · rw [if_pos q2, if_pos (decide_eq_true q2), zg_i i1, zg_i i1, zsr_m, zsr_ra]
      have fin : ∀ v : Int32, f_X11_slopeDay_176 F (zsr σ s (D.1, zlg D.2.2.2.1 D.2.1 D.2.1, D.2.2.1, D.2.2.2.1, D.2.2.2.2)) (nI s) v (nI s) = some (1, zsld (zsr σ s (v, zlg D.2.2.2.1 D.2.1 D.2.1, D.2.2.1, D.2.2.2.1, D.2.2.2.2 + 1))) := by
        intro v
        unfold f_X11_slopeDay_176 f_X11_slopeDay_214 zsld
        rw [zg_i i1, zg_i i1, zg_i i1, i2, zsr_a, zsr_rl, zsr_l]
        have r39 : (zwi (zsr σ s (v, zlg D.2.2.2.1 D.2.1 D.2.1, D.2.2.1, D.2.2.2.1, D.2.2.2.2 + 1)) 60 0 40 ((zsr σ s (v, zlg D.2.2.2.1 D.2.1 D.2.1, D.2.2.1, D.2.2.2.1, D.2.2.2.2 + 1)).1 60 0 40 + 1)).1 60 0 39 = (zsr σ s (v, zlg D.2.2.2.1 D.2.1 D.2.1, D.2.2.1, D.2.2.2.1, D.2.2.2.2 + 1)).1 60 0 39 := zwi_r (by omega)
        have r41 : (zwi (zsr σ s (v, zlg D.2.2.2.1 D.2.1 D.2.1, D.2.2.1, D.2.2.2.1, D.2.2.2.2 + 1)) 60 0 40 ((zsr σ s (v, zlg D.2.2.2.1 D.2.1 D.2.1, D.2.2.1, D.2.2.2.1, D.2.2.2.2 + 1)).1 60 0 40 + 1)).1 60 0 41 = (zsr σ s (v, zlg D.2.2.2.1 D.2.1 D.2.1, D.2.2.1, D.2.2.2.1, D.2.2.2.2 + 1)).1 60 0 41 := zwi_r (by omega)
        show (if (zwi (zsr σ s (v, zlg D.2.2.2.1 D.2.1 D.2.1, D.2.2.1, D.2.2.2.1, D.2.2.2.2 + 1)) 60 0 40 ((zsr σ s (v, zlg D.2.2.2.1 D.2.1 D.2.1, D.2.2.1, D.2.2.2.1, D.2.2.2.2 + 1)).1 60 0 40 + 1)).1 60 0 39 = 0 then some (1, zwi (zwi (zsr σ s (v, zlg D.2.2.2.1 D.2.1 D.2.1, D.2.2.1, D.2.2.2.1, D.2.2.2.2 + 1)) 60 0 40 ((zsr σ s (v, zlg D.2.2.2.1 D.2.1 D.2.1, D.2.2.1, D.2.2.2.1, D.2.2.2.2 + 1)).1 60 0 40 + 1)) 60 0 41 ((zwi (zsr σ s (v, zlg D.2.2.2.1 D.2.1 D.2.1, D.2.2.1, D.2.2.2.1, D.2.2.2.2 + 1)) 60 0 40 ((zsr σ s (v, zlg D.2.2.2.1 D.2.1 D.2.1, D.2.2.1, D.2.2.2.1, D.2.2.2.2 + 1)).1 60 0 40 + 1)).1 60 0 41 + 1)) else some (1, zwi (zwi (zsr σ s (v, zlg D.2.2.2.1 D.2.1 D.2.1, D.2.2.1, D.2.2.2.1, D.2.2.2.2 + 1)) 60 0 40 ((zsr σ s (v, zlg D.2.2.2.1 D.2.1 D.2.1, D.2.2.1, D.2.2.2.1, D.2.2.2.2 + 1)).1 60 0 40 + 1)) 60 0 41 ((zwi (zsr σ s (v, zlg D.2.2.2.1 D.2.1 D.2.1, D.2.2.1, D.2.2.2.1, D.2.2.2.2 + 1)) 60 0 40 ((zsr σ s (v, zlg D.2.2.2.1 D.2.1 D.2.1, D.2.2.1, D.2.2.2.1, D.2.2.2.2 + 1)).1 60 0 40 + 1)).1 60 0 41 + 0))) = _
        rw [r39, r41]
        split <;> rfl
      unfold zsli
      by_cases q4 : 40 ≤ D.1
      · rw [if_pos q4, zg_i i1, fin, if_pos q4]
      · rw [if_neg q4, fin, if_neg q4]
    · rw [if_neg q2, if_neg (by simpa using q2)]
/-- what a day does to a slope, ahead of the slide: the class's side and the reference's -/
def zdlc (w f : Int32) (D : zSl) : zSl := if w ≤ 2 then (if f ≤ 0 then D else zaddc f (if w ≤ -5 then 0 else 1) D) else zmel (3 * w) D
def zdlr (w f : Int32) (D : zSl) : zSl := if w ≤ 2 then (if f ≤ 0 then D else zaddr f (if w ≤ -5 then 0 else 1) D) else zmer (3 * w) D
theorem zaddc_1 (f b : Int32) (D : zSl) : (zaddc f b D).1 = D.1 ∧ ((D.2.1 ≤ 6 → (zaddc f b D).2.1 ≤ 6)) := by
  unfold zaddc
  split
  · rename_i h
    exact ⟨rfl, fun _ => h⟩
  · exact ⟨rfl, fun _ => Nat.le_refl 6⟩
theorem zmel_1 (l : Int32) (D : zSl) : (zmel l D).1 = D.1 ∧ ((D.2.1 ≤ 6 → (zmel l D).2.1 ≤ 6)) := by
  unfold zmel
  split
  · exact ⟨rfl, fun h => h⟩
  · split
    · exact ⟨rfl, fun h => Nat.le_trans (Nat.sub_le _ _) h⟩
    · exact ⟨rfl, fun h => h⟩
theorem zdlc_1 (w f : Int32) (D : zSl) : (zdlc w f D).1 = D.1 ∧ (D.2.1 ≤ 6 → (zdlc w f D).2.1 ≤ 6) := by
  unfold zdlc
  split
  · split
    · exact ⟨rfl, fun h => h⟩
    · exact zaddc_1 _ _ _
  · exact zmel_1 _ _
theorem b01 (w : Int32) : (if w ≤ -5 then (0 : Int32) else 1) = 0 ∨ (if w ≤ -5 then (0 : Int32) else 1) = 1 := by
  split
  · exact Or.inl rfl
  · exact Or.inr rfl
theorem zeqD_dl {w f : Int32} {B0 : Int} {C D : zSl} (h : zeqD C D) (hD : zinD B0 D) : zeqD (zdlc w f C) (zdlr w f D) := by
  unfold zdlc zdlr
  split
  · split
    · exact h
    · exact zeqD_add (b01 w) h hD
  · exact zeqD_mel _ h
theorem zinD_dl {w f : Int32} (hw : zib w (-40) 40) (hf : zib f 0 200) {B0 : Int} (h0 : 0 ≤ B0) (h9 : B0 ≤ 1900000) {D : zSl} (hD : zinD B0 D) : zinD (B0 + 200) (zdlr w f D) := by
  have mono : zinD (B0 + 200) D := ⟨hD.1, fun c hc => by
    obtain ⟨k1, k2⟩ := hD.2 c hc
    refine ⟨⟨k1.1, ?_⟩, k2⟩
    have k3 := k1.2
    by_cases c0 : c = 0
    · rw [if_pos c0] at k3 ⊢
      omega
    · rw [if_neg c0] at k3 ⊢
      exact k3⟩
  unfold zdlr
  split
  · split
    · exact mono
    · exact zinD_add (b01 w) hf h0 (by omega) hD
  · rename_i q
    refine zinD_mel ?_ (by omega) mono
    have k3 : (3 : Int32).toInt = 3 := rfl
    have k2 : (2 : Int32).toInt = 2 := rfl
    have := hw.2
    rw [Int32.le_iff_toInt_le] at q
    have e : (3 * w).toInt = 3 * w.toInt := by rw [Int32.toInt_mul, k3, Int.bmod_eq_of_le (by omega) (by omega)]
    omega
theorem e_live {σ : zMem} {s F : Nat} {D : zSl} {w f wk : Int32} (hF : 100 < F) (hs : s < 6) (hm : D.2.1 ≤ 6) (hso : ∀ c, c < D.2.1 → D.2.2.2.1 c = 0 ∨ D.2.2.2.1 c = 1) (hw : σ.1 40 s 3 = wk) : f_X6_live F (zsc σ s D) s w f = if zslb wk (zdlc w f D) then some (1, zsc σ s (zsli (zdlc w f D))) else some (0, zsc σ s (zdlc w f D)) := by
  have gs : (decide (s < 6)) = true := by simp; omega
  have m6 := (zdlc_1 w f D).2 hm
  unfold f_X6_live
  rw [zg_i gs]
  unfold zdlc at m6 ⊢
  by_cases q : w ≤ 2
  · rw [if_pos q] at m6 ⊢
    rw [if_pos q]
    by_cases q2 : f ≤ 0
    · rw [if_pos q2] at m6 ⊢
      rw [if_pos q2, e_live_35 hF hs m6 hw]
    · rw [if_neg q2] at m6 ⊢
      rw [if_neg q2]
      unfold f_X6_live_32
      by_cases q3 : w ≤ -5
      · rw [if_pos q3] at m6 ⊢
        rw [if_pos q3, zg_i gs, zg_i gs, e_addLayer hF hs hm (Or.inl rfl) hso, zb_s, e_live_35 hF hs m6 hw]
      · rw [if_neg q3] at m6 ⊢
        rw [if_neg q3, zg_i gs, zg_i gs, e_addLayer hF hs hm (Or.inr rfl) hso, zb_s, e_live_35 hF hs m6 hw]
  · rw [if_neg q] at m6 ⊢
    rw [if_neg q, e_melt hs hm, zb_s, e_live_35 hF hs m6 hw]
theorem e_46 {σ : zMem} {s F j : Nat} {D : zSl} {w wk : Int32} (hF : 100 < F) (hs : s < 6) (hm : D.2.1 ≤ 6) (hj : j ≤ 400) (ha : D.1 = nI j) (hk : σ.1 94 0 s = wk) {B0 : Int} (h9 : B0 ≤ 2000000) (hD : zinD B0 D) (hw : zib w (-40) 40) : f_X11_slopeDay_46 F (zsr σ s D) (nI s) w = f_X11_slopeDay_107 F (zsr σ s (if w ≤ 2 then D else zmer (3 * w) D)) (nI s) := by
  have i1 := inb_n hs (by omega)
  have i2 := nI_clamp (show s < 2 ^ 31 by omega)
  unfold f_X11_slopeDay_46
  by_cases q : w ≤ 2
  · rw [if_pos q, if_pos q]
  rw [if_neg q, if_neg q, zg_i i1, i2, zsr_rm]
  unfold zmer
  by_cases q0 : D.2.1 = 0
  · rw [if_pos (by rw [q0]; exact Int32.le_refl _), if_pos q0]
  obtain ⟨t, ht⟩ : ∃ t, D.2.1 = t + 1 := ⟨D.2.1 - 1, by omega⟩
  have e : nI D.2.1 - 1 = nI t := by rw [ht, nI_pred]
  have j1 := inb_n (show t < 8 by omega) (by omega)
  have j2 := nI_clamp (show t < 2 ^ 31 by omega)
  have nl : ¬ nI D.2.1 ≤ (0 : Int32) := nI_nle (by omega) (by omega)
  rw [if_neg nl, if_neg q0, zg_i i1, zg_i i1, e, zg_i j1, zg_i j1, zg_i i1, zg_i j1, j2, zsr_rd, zsr_d, show D.2.1 - 1 = t by omega]
  have rd : (zsr σ s (D.1, D.2.1, zup1 D.2.2.1 t (D.2.2.1 t - 3 * w), D.2.2.2.1, D.2.2.2.2)).1 97 s t = D.2.2.1 t - 3 * w := by
    rw [zsr_rd]
    exact zup1_at _ _ _
  rw [rd]
  have k := (hD.2 t (by omega)).1
  have k0 := k.1
  have k1 := k.2
  have kb : (D.2.2.1 t).toInt ≤ 2000000 := by split at k1 <;> omega
  have k3 : (3 : Int32).toInt = 3 := rfl
  have t0 : (0 : Int32).toInt = 0 := rfl
  have w0 := hw.1
  have w9 := hw.2
  have e3 : (3 * w).toInt = 3 * w.toInt := by rw [Int32.toInt_mul, k3, Int.bmod_eq_of_le (by omega) (by omega)]
  have es : (D.2.2.1 t - 3 * w).toInt = (D.2.2.1 t).toInt - 3 * w.toInt := by rw [t_sub (by omega) (by omega), e3]
  by_cases q2 : D.2.2.1 t ≤ 3 * w
  · have n : ¬ 0 < D.2.2.1 t - 3 * w := by
      rw [Int32.lt_iff_toInt_lt, es]
      have := Int32.le_iff_toInt_le.mp q2
      omega
    have e2 : (zsr σ s (D.1, D.2.1, zup1 D.2.2.1 t (D.2.2.1 t - 3 * w), D.2.2.2.1, D.2.2.2.2)).1 95 0 s - 1 = nI t := by
      rw [zsr_rm]
      exact e
    rw [if_neg n, if_pos q2, zg_i i1, zg_i i1, e2, zsr_m]
  · have n : 0 < D.2.2.1 t - 3 * w := by
      rw [Int32.lt_iff_toInt_lt, es]
      have := Int32.not_le.mp q2
      rw [Int32.lt_iff_toInt_lt] at this
      omega
    rw [if_pos n, if_neg q2]
theorem e_slopeDay {σ : zMem} {s F j d : Nat} {D : zSl} {wk : Int32} (hF : 8000 < F) (hs : s < 6) (hj : j ≤ 400) (ha : D.1 = nI j) (hk : σ.1 94 0 s = wk) {B0 : Int} (h0 : 0 ≤ B0) (h9 : B0 ≤ 1900000) (hD : zinD B0 D) (hd : d < 7200) (ed : σ.1 60 0 0 = nI d) (hw : zib (zsk σ 0 (d + 1)) (-40) 40) (hf : zib (zsk σ 1 (d + 1)) 0 200) : f_X11_slopeDay F (zsr σ s D) (nI s) = if zslb wk (zdlr (zsk σ 0 (d + 1)) (zsk σ 1 (d + 1)) D) then some (1, zsld (zsr σ s (zsli (zdlr (zsk σ 0 (d + 1)) (zsk σ 1 (d + 1)) D)))) else some (0, zsr σ s (zdlr (zsk σ 0 (d + 1)) (zsk σ 1 (d + 1)) D)) := by
  have i1 := inb_n hs (by omega)
  have k0 := e_X11_skyAt (σ := zsr σ s D) (w := 0) (d := d) (F := F) (by omega) hd hF
  have k1 := e_X11_skyAt (σ := zsr σ s D) (w := 1) (d := d) (F := F) (by omega) hd hF
  have z : ∀ w i, zsk (zsr σ s D) w i = zsk σ w i := fun w i => zsk_s (by funext a b; exact zsr_o σ s D (by omega)) (by funext a b; exact zsr_o σ s D (by omega)) i
  rw [z] at k0 k1
  have k0 : f_X11_skyAt F (zsr σ s D) (nI d) 0 = some (zsk σ 0 (d + 1), zsr σ s D) := k0
  have k1 : f_X11_skyAt F (zsr σ s D) (nI d) 1 = some (zsk σ 1 (d + 1), zsr σ s D) := k1
  have rd : (zsr σ s D).1 60 0 0 = nI d := (zsr_o σ s D (by omega)).trans ed
  generalize zsk σ 0 (d + 1) = w at k0 hw
  generalize zsk σ 1 (d + 1) = f at k1 hf
  have inl := zinD_dl hw hf h0 h9 hD
  have age : (zdlr w f D).1 = D.1 := by
    unfold zdlr
    split
    · split
      · rfl
      · unfold zaddr
        split <;> rfl
    · unfold zmer
      split
      · rfl
      · split <;> rfl
  unfold f_X11_slopeDay
  rw [rd, k0, zb_s, rd, k1, zb_s]
  unfold zdlr at inl age ⊢
  by_cases q2 : f ≤ 0
  · rw [if_pos q2, e_46 (by omega) hs hD.1 hj ha hk (by omega) hD hw]
    by_cases q : w ≤ 2
    · rw [if_pos q, if_pos q2] at inl age
      rw [if_pos q, if_pos q, if_pos q2, e_107 (by omega) hs inl.1 hj (age.trans ha) hk]
    · rw [if_neg q] at inl age
      rw [if_neg q, if_neg q, e_107 (by omega) hs inl.1 hj (age.trans ha) hk]
  · rw [if_neg q2]
    by_cases q : w ≤ 2
    · rw [if_neg (Int32.not_lt.mpr q)]
      rw [if_pos q, if_neg q2] at inl age ⊢
      unfold f_X11_slopeDay_43
      by_cases q3 : w ≤ -5
      · rw [if_pos q3] at inl age ⊢
        rw [if_pos q3, e_newLayer (by omega) hs hD.1 (Or.inl rfl) (fun c hc => (hD.2 c hc).2), zb_s, e_46 (by omega) hs inl.1 hj (age.trans ha) hk (by omega) inl hw, if_pos q, e_107 (by omega) hs inl.1 hj (age.trans ha) hk]
      · rw [if_neg q3] at inl age ⊢
        rw [if_neg q3, e_newLayer (by omega) hs hD.1 (Or.inr rfl) (fun c hc => (hD.2 c hc).2), zb_s, e_46 (by omega) hs inl.1 hj (age.trans ha) hk (by omega) inl hw, if_pos q, e_107 (by omega) hs inl.1 hj (age.trans ha) hk]
    · rw [if_pos (Int32.not_le.mp q), e_46 (by omega) hs hD.1 hj ha hk (by omega) hD hw]
      rw [if_neg q] at inl age
      rw [if_neg q, if_neg q, e_107 (by omega) hs inl.1 hj (age.trans ha) hk]
theorem zslb_c {wk : Int32} {C D : zSl} (h : zeqD C D) : zslb wk C = zslb wk D := by
  obtain ⟨h1, h2, h3, h4⟩ := h
  have l : zlg C.2.2.2.1 C.2.1 C.2.1 = zlg D.2.2.2.1 D.2.1 D.2.1 := by
    rw [← h2]
    exact zlg_c (fun i hi => (h3 i hi).2) _ (Nat.le_refl _)
  unfold zslb
  rw [l, h1, ← h2, zlz_c (fun i hi => (h3 i hi).1) _ _ (Nat.sub_le _ _)]
theorem zeqD_sl {C D : zSl} (h : zeqD C D) : zeqD (zsli C) (zsli D) := by
  obtain ⟨h1, h2, h3, h4⟩ := h
  have l : zlg C.2.2.2.1 C.2.1 C.2.1 = zlg D.2.2.2.1 D.2.1 D.2.1 := by
    rw [← h2]
    exact zlg_c (fun i hi => (h3 i hi).2) _ (Nat.le_refl _)
  refine ⟨?_, l, fun c hc => h3 c (Nat.lt_of_lt_of_le hc (zlg_le _ _ _ (Nat.le_refl _))), ?_⟩
  · show (if 40 ≤ C.1 then C.1 else 0) = (if 40 ≤ D.1 then D.1 else 0)
    rw [h1]
  · show C.2.2.2.2 + 1 = D.2.2.2.2 + 1
    rw [h4]
theorem zinD_sl {B0 : Int} {D : zSl} (h : zinD B0 D) : zinD B0 (zsli D) := ⟨Nat.le_trans (zlg_le _ _ _ (Nat.le_refl _)) h.1, fun c hc => h.2 c (Nat.lt_of_lt_of_le hc (zlg_le _ _ _ (Nat.le_refl _)))⟩
