theorem zJ_c {α β : Type} {Q : α → β → zMem → Prop} {f f' : zMem → Option (α × zMem)} {g g' : zMem → Option (β × zMem)} {σ : zMem} (hf : f σ = f' σ) (hg : ∀ s, g s = g' s) (h : zJ Q f' g' σ) : zJ Q f g σ := by
  obtain ⟨r, s, σ1, σ2, h1, h2, h3⟩ := h
  exact ⟨r, s, σ1, σ2, hf.trans h1, (hg _).trans h2, h3⟩
theorem zwi_hit (σ : zMem) (k i j : Nat) (v : Int32) : (zwi σ k i j v).1 k i j = v := if_pos ⟨rfl, rfl, rfl⟩
/-- the woods a year older -/
def zagc (n : Nat) (σ : zMem) : zMem := (fun k i j => if k = 40 ∧ i < n ∧ j = 0 then zmin 400 (σ.1 40 i 0 + 1) else σ.1 k i j, σ.2)
def zagr (n : Nat) (σ : zMem) : zMem := (fun k i j => if k = 93 ∧ i = 0 ∧ j < n then zmin 400 (σ.1 93 0 j + 1) else σ.1 k i j, σ.2)
theorem zagc_o (n : Nat) (σ : zMem) {k i j : Nat} (h : ¬ (k = 40 ∧ i < n ∧ j = 0)) : (zagc n σ).1 k i j = σ.1 k i j := if_neg h
theorem zagc_i {n : Nat} {σ : zMem} {i : Nat} (h : i < n) : (zagc n σ).1 40 i 0 = zmin 400 (σ.1 40 i 0 + 1) := if_pos ⟨rfl, h, rfl⟩
theorem zagr_o (n : Nat) (σ : zMem) {k i j : Nat} (h : ¬ (k = 93 ∧ i = 0 ∧ j < n)) : (zagr n σ).1 k i j = σ.1 k i j := if_neg h
theorem zagr_i {n : Nat} {σ : zMem} {j : Nat} (h : j < n) : (zagr n σ).1 93 0 j = zmin 400 (σ.1 93 0 j + 1) := if_pos ⟨rfl, rfl, h⟩
theorem zagc_0 (σ : zMem) : zagc 0 σ = σ := Prod.ext (by funext k i j; exact zagc_o 0 σ (by omega)) rfl
theorem zagr_0 (σ : zMem) : zagr 0 σ = σ := Prod.ext (by funext k i j; exact zagr_o 0 σ (by omega)) rfl
theorem zagc_s (n : Nat) (σ : zMem) : zwi (zagc n σ) 40 n 0 (zmin 400 ((zagc n σ).1 40 n 0 + 1)) = zagc (n + 1) σ := by
  refine Prod.ext ?_ rfl
  funext k i j
  rw [zagc_o n σ (k := 40) (i := n) (j := 0) (by omega)]
  by_cases h : k = 40 ∧ i = n ∧ j = 0
  · obtain ⟨rfl, rfl, rfl⟩ := h
    rw [zwi_hit, zagc_i (Nat.lt_succ_self _)]
  · rw [zwi_r h]
    by_cases h2 : k = 40 ∧ i < n ∧ j = 0
    · obtain ⟨rfl, h2, rfl⟩ := h2
      rw [zagc_i h2, zagc_i (by omega)]
    · rw [zagc_o n σ h2, zagc_o (n + 1) σ (by omega)]
theorem zagr_s (n : Nat) (σ : zMem) : zwi (zagr n σ) 93 0 n (zmin 400 ((zagr n σ).1 93 0 n + 1)) = zagr (n + 1) σ := by
  refine Prod.ext ?_ rfl
  funext k i j
  rw [zagr_o n σ (k := 93) (i := 0) (j := n) (by omega)]
  by_cases h : k = 93 ∧ i = 0 ∧ j = n
  · obtain ⟨rfl, rfl, rfl⟩ := h
    rw [zwi_hit, zagr_i (Nat.lt_succ_self _)]
  · rw [zwi_r h]
    by_cases h2 : k = 93 ∧ i = 0 ∧ j < n
    · obtain ⟨rfl, rfl, h2⟩ := h2
      rw [zagr_i h2, zagr_i (by omega)]
    · rw [zagr_o n σ h2, zagr_o (n + 1) σ (by omega)]
theorem zagc_w (n : Nat) (σ : zMem) {k : Nat} (i j : Nat) (v : Int32) (hk : k ≠ 40) : zwi (zagc n σ) k i j v = zagc n (zwi σ k i j v) := by
  refine Prod.ext ?_ rfl
  funext a b c
  by_cases h2 : a = 40 ∧ b < n ∧ c = 0
  · obtain ⟨rfl, h2, rfl⟩ := h2
    rw [zwi_r (by omega), zagc_i h2, zagc_i h2, zwi_r (by omega)]
  · rw [zagc_o n _ h2]
    by_cases h : a = k ∧ b = i ∧ c = j
    · obtain ⟨rfl, rfl, rfl⟩ := h
      rw [zwi_hit, zwi_hit]
    · rw [zwi_r h, zwi_r h, zagc_o n _ h2]
theorem zagr_w (n : Nat) (σ : zMem) {k : Nat} (i j : Nat) (v : Int32) (hk : k ≠ 93) : zwi (zagr n σ) k i j v = zagr n (zwi σ k i j v) := by
  refine Prod.ext ?_ rfl
  funext a b c
  by_cases h2 : a = 93 ∧ b = 0 ∧ c < n
  · obtain ⟨rfl, rfl, h2⟩ := h2
    rw [zwi_r (by omega), zagr_i h2, zagr_i h2, zwi_r (by omega)]
  · rw [zagr_o n _ h2]
    by_cases h : a = k ∧ b = i ∧ c = j
    · obtain ⟨rfl, rfl, rfl⟩ := h
      rw [zwi_hit, zwi_hit]
    · rw [zwi_r h, zwi_r h, zagr_o n _ h2]
theorem e_ages {σ : zMem} {n F : Nat} (hF : 100 < F) (hn : n ≤ 6) (e : σ.1 38 0 1 = nI n) : f_X7_ageWoods F σ = some ((), zagc n σ) := by
  unfold f_X7_ageWoods
  refine zit_m (fun m s x => ∃ i, i ≤ n ∧ m = n - i ∧ s = zagc i σ ∧ x = nI i) _ ?_ F n σ 0 ⟨0, by omega, rfl, (zagc_0 σ).symm, nI_0.symm⟩ (by omega)
  rintro m s x ⟨i, hi, rfl, rfl, rfl⟩
  have e' : (zagc i σ).1 38 0 1 = nI n := by rw [zagc_o i σ (by omega), e]
  by_cases q : i = n
  · subst q
    refine Or.inl fun rec => ?_
    unfold f_X7_ageWoods_2
    rw [e', if_pos (Int32.le_refl _)]
  · have i1 := inb_n (show i < 6 by omega) (by omega)
    refine Or.inr ⟨n - (i + 1), zagc (i + 1) σ, nI (i + 1), by omega, ⟨i + 1, by omega, rfl, rfl, rfl⟩, fun rec => ?_⟩
    unfold f_X7_ageWoods_2
    rw [e', if_neg (nle_s (by omega) (by omega)), zg_i i1, zg_i i1, nI_clamp (show i < 2 ^ 31 by omega), zagc_s, nI_1]
theorem e_agesR {σ : zMem} {n F d : Nat} (hF : 100 < F) (hn : n ≤ 6) (e : σ.1 60 0 32 = nI n) (ed : σ.1 60 0 0 = nI d) : zit (f_X11_oneDay_61 F) F σ 0 = some ((), zwi (if zrem (nI d) 360 = 0 then zagr n σ else σ) 60 0 0 (nI (d + 1))) := by
  by_cases z : zrem (nI d) 360 = 0
  · rw [if_pos z]
    refine zit_m (fun m s x => ∃ i, i ≤ n ∧ m = n - i ∧ s = zagr i σ ∧ x = nI i) _ ?_ F n σ 0 ⟨0, by omega, rfl, (zagr_0 σ).symm, nI_0.symm⟩ (by omega)
    rintro m s x ⟨i, hi, rfl, rfl, rfl⟩
    have e' : (zagr i σ).1 60 0 32 = nI n := by rw [zagr_o i σ (by omega), e]
    have d' : (zagr i σ).1 60 0 0 = nI d := by rw [zagr_o i σ (by omega), ed]
    by_cases q : i = n
    · subst q
      refine Or.inl fun rec => ?_
      unfold f_X11_oneDay_61 f_X11_oneDay_106
      rw [e', if_pos (Int32.le_refl _), d', nI_1]
    · have i1 := inb_n (show i < 6 by omega) (by omega)
      refine Or.inr ⟨n - (i + 1), zagr (i + 1) σ, nI (i + 1), by omega, ⟨i + 1, by omega, rfl, rfl, rfl⟩, fun rec => ?_⟩
      unfold f_X11_oneDay_61
      rw [e', if_neg (nle_s (by omega) (by omega)), zg_i (by decide), d', if_pos z, zg_i i1, zg_i i1, nI_clamp (show i < 2 ^ 31 by omega), zagr_s, nI_1]
  · rw [if_neg z]
    have : ∀ G, 0 < G → zit (f_X11_oneDay_61 F) G σ 0 = some ((), zwi σ 60 0 0 (nI (d + 1))) := fun G hG => by
      obtain ⟨H, rfl⟩ : ∃ H, G = H + 1 := ⟨G - 1, by omega⟩
      show f_X11_oneDay_61 F (zit (f_X11_oneDay_61 F) H) σ 0 = _
      unfold f_X11_oneDay_61 f_X11_oneDay_106
      by_cases q : σ.1 60 0 32 ≤ 0
      · rw [if_pos q, ed, nI_1]
      · rw [if_neg q, zg_i (by decide), ed, if_neg z, nI_1]
    exact this F (by omega)
theorem p_quiet {σ : zMem} (hR : zRel σ) (v : Int32) : zRel (zwi (zwi σ 38 0 5 (σ.1 38 0 5 + v)) 60 0 42 (σ.1 60 0 42 + v)) := by
  obtain ⟨hh, hr, hw, hk, ha, hd, hl, hc, ht, hb, hQ⟩ := hR
  refine ⟨?_, ?_, ?_, ?_, ?_, ?_, ?_, ?_, ?_, ?_, ?_⟩
  · simpa [zRh, zwi, zu] using hh
  · simpa [zRr, zwi, zu] using hr
  · simpa [zRw, zwi, zu] using hw
  · simpa [zRk, zwi, zu] using hk
  · simpa [zRa, zwi, zu] using ha
  · simpa [zRd, zwi, zu] using hd
  · obtain ⟨p1, p2, p3, p4, p5, p6, p7, p8, p9⟩ := hl
    exact ⟨by simpa [zwi, zu] using p1, by simpa [zwi, zu] using p2, by simpa [zwi, zu] using p3, by simpa [zwi, zu] using p4, by simpa [zwi, zu] using p5, by simpa [zwi, zu] using p6, by simpa [zwi, zu] using p7, by simp [zwi, zu, p8], by simpa [zwi, zu] using p9⟩
  · simpa [zRc, zwi, zu] using hc
  · simpa [zRt, zwi, zu] using ht
  · simpa [zRb, zwi, zu] using hb
  · simpa [zRz, zwi, zu] using hQ
theorem p_ages {σ : zMem} (hR : zRel σ) (n : Nat) (hn : n ≤ 6) : zRel (zagr n (zagc n σ)) := by
  obtain ⟨hh, hr, hw, hk, ha, hd, hl, hc, ht, hb, hQ⟩ := hR
  refine ⟨?_, ?_, ?_, ?_, ?_, ?_, ?_, ?_, ?_, ?_, ?_⟩
  · simpa [zRh, zagr, zagc] using hh
  · simpa [zRr, zagr, zagc] using hr
  · simpa [zRw, zagr, zagc] using hw
  · simpa [zRk, zagr, zagc] using hk
  · simpa [zRa, zagr, zagc] using ha
  · simpa [zRd, zagr, zagc] using hd
  · obtain ⟨p1, p2, p3, p4, p5, p6, p7, p8, p9⟩ := hl
    refine ⟨by simpa [zagr, zagc] using p1, by simpa [zagr, zagc] using p2, fun z hz => ?_, by simpa [zagr, zagc] using p4, by simpa [zagr, zagc] using p5, by simpa [zagr, zagc] using p6, by simpa [zagr, zagc] using p7, by simpa [zagr, zagc] using p8, by simpa [zagr, zagc] using p9⟩
    obtain ⟨q1, q2, q3, q4, q5, q6⟩ := p3 z hz
    by_cases e : z < n
    · obtain ⟨a, ha4, ea⟩ := nI_of2 (M := 400) (n := 400) rfl (Int32.not_lt.mpr q4) q5
      have k : zmin 400 (σ.1 93 0 z + 1) = nI (min 400 (a + 1)) := by
        rw [ea, nI_1]
        exact zmin_n (a := 400) (b := a + 1) (by omega) (by omega)
      have k0 : (0 : Int32) ≤ nI (min 400 (a + 1)) := nI_pos' (by omega)
      have k4 : nI (min 400 (a + 1)) ≤ 400 := (nI_leI (a := min 400 (a + 1)) (b := 400) (by omega) (by omega)).mpr (by omega)
      have g : (zagr n (zagc n σ)).1 93 0 z = nI (min 400 (a + 1)) := by rw [zagr_i e, zagc_o n σ (by omega), k]
      have g2 : (zagr n (zagc n σ)).1 40 z 0 = nI (min 400 (a + 1)) := by rw [zagr_o n _ (by omega), zagc_i e, q1, k]
      exact ⟨g2.trans g.symm, by simpa [zagr, zagc] using q2, by simpa [zagr, zagc] using q3, by rw [g]; exact k0, by rw [g]; exact k4, by simpa [zagr, zagc] using q6⟩
    · have g : (zagr n (zagc n σ)).1 93 0 z = σ.1 93 0 z := by rw [zagr_o n _ (by omega), zagc_o n _ (by omega)]
      have g2 : (zagr n (zagc n σ)).1 40 z 0 = σ.1 40 z 0 := by rw [zagr_o n _ (by omega), zagc_o n _ (by omega)]
      exact ⟨g2.trans (q1.trans g.symm), by simpa [zagr, zagc] using q2, by simpa [zagr, zagc] using q3, by rw [g]; exact q4, by rw [g]; exact q5, by simpa [zagr, zagc] using q6⟩
  · simpa [zRc, zagr, zagc] using hc
  · simpa [zRt, zagr, zagc] using ht
  · simpa [zRb, zagr, zagc] using hb
  · simpa [zRz, zagr, zagc] using hQ
/-- what the evening tells on both sides -/
theorem zeve_c (τ : zMem) (d c : Nat) (v : Int32) : zwi (zwi (zwi (zwi (zwi (zwi (zwi τ 38 0 3 (τ.1 38 0 3 + nI c)) 38 0 4 (τ.1 38 0 4 + (if τ.1 60 0 39 = 0 then nI c else 0))) 38 0 5 (τ.1 38 0 5 + v)) 0 0 12 1) 0 0 11 (nI (d + 1))) 60 0 42 (τ.1 60 0 42 + v)) 60 0 0 (nI (d + 1)) = zwi (zwi (zTm d c τ) 38 0 5 ((zTm d c τ).1 38 0 5 + v)) 60 0 42 ((zTm d c τ).1 60 0 42 + v) := by
  rw [zTm_o d c τ (by omega), zTm_o d c τ (by omega)]
  unfold zTm
  refine Prod.ext ?_ rfl
  funext k i j
  by_cases h1 : k = 60 ∧ i = 0 ∧ j = 0
  · obtain ⟨rfl, rfl, rfl⟩ := h1
    simp [zwi, zu]
  by_cases h2 : k = 60 ∧ i = 0 ∧ j = 42
  · obtain ⟨rfl, rfl, rfl⟩ := h2
    simp [zwi, zu]
  by_cases h3 : k = 0 ∧ i = 0 ∧ j = 11
  · obtain ⟨rfl, rfl, rfl⟩ := h3
    simp [zwi, zu]
  by_cases h4 : k = 0 ∧ i = 0 ∧ j = 12
  · obtain ⟨rfl, rfl, rfl⟩ := h4
    simp [zwi, zu]
  by_cases h5 : k = 38 ∧ i = 0 ∧ j = 5
  · obtain ⟨rfl, rfl, rfl⟩ := h5
    simp [zwi, zu]
  rw [zwi_r h1, zwi_r h2, zwi_r h3, zwi_r h4, zwi_r h5, zwi_r h2, zwi_r h5, zwi_r h1, zwi_r h3, zwi_r h4]

theorem j_eve {τ : zMem} {F c d ns : Nat} (hR : zRel (zTm d c τ)) (hF : 100 < F) (hns : ns ≤ 6) (hc : c ≤ 6) (d1 : τ.1 0 0 11 = nI d) (d2 : τ.1 60 0 0 = nI d) (n1 : τ.1 38 0 1 = nI ns) : zJ (fun _ _ t => zRel t ∧ t.1 60 0 0 = nI (d + 1)) (fun σ => zb (zend (nI c) σ) fun _ m => if zrem (nI d) 360 = 0 then (zb (f_X7_ageWoods F m) fun _ m2 => f_X10_liveDay_199 F m2) else f_X10_liveDay_199 F m) (fun σ => zlend F (bI (decide (0 < c))) σ) τ := by
  have g9 := hR.2.2.2.2.2.2.1.2.2.2.1
  have n2 := hR.2.2.2.2.2.2.1.2.1
  rw [zTm_o d c τ (by omega), zTm_o d c τ (by omega)] at g9 n2
  have n2 := n2.trans n1
  have c0 : nI c = 0 ↔ c = 0 := nI_eq (a := c) (b := 0) (by omega) (by omega)
  obtain ⟨v, hv⟩ : ∃ v : Int32, v = if τ.1 60 0 39 = 0 then 0 else if c = 0 then 1 else 0 := ⟨_, rfl⟩
  obtain ⟨E, hE⟩ : ∃ E, E = zwi (zwi (zwi τ 38 0 3 (τ.1 38 0 3 + nI c)) 38 0 4 (τ.1 38 0 4 + (if τ.1 60 0 39 = 0 then nI c else 0))) 38 0 5 (τ.1 38 0 5 + v) := ⟨_, rfl⟩
  have he : zend (nI c) τ = some ((), E) := by
    unfold zend
    rw [g9, hE, hv]
    by_cases q : τ.1 60 0 39 = 0
    · rw [if_pos q, if_pos q, if_pos q, Int32.add_zero, zwi_id (k := 38) (i := 0) (j := 5) (by rw [zwi_r (by omega), zwi_r (by omega)])]
    · rw [if_neg q, if_neg q, if_neg q, Int32.add_zero, zwi_id (σ := zwi τ 38 0 3 _) (k := 38) (i := 0) (j := 4) (by rw [zwi_r (by omega)])]
      by_cases q2 : c = 0
      · rw [if_pos (c0.mpr q2), if_pos q2]
      · rw [if_neg (fun w => q2 (c0.mp w)), if_neg q2, Int32.add_zero, zwi_id (σ := zwi τ 38 0 3 _) (k := 38) (i := 0) (j := 5) (by rw [zwi_r (by omega)])]
  have hl : ∀ s : zMem, s.1 60 0 39 = τ.1 60 0 39 → zlend F (bI (decide (0 < c))) s = f_X11_oneDay_55 F s v (s.1 60 0 42) := fun s hs => by
    unfold zlend
    rw [hs, hv]
    by_cases q : τ.1 60 0 39 = 0
    · rw [if_pos q, if_pos q]
    · rw [if_neg q, if_neg q]
      by_cases q2 : c = 0
      · subst q2
        rw [if_pos (show bI (decide (0 < 0)) = 0 from rfl), if_pos rfl]
      · rw [if_neg (by rw [decide_eq_true (by omega)]; decide), if_neg q2]
  have o1 : ∀ k i j, k ≠ 38 → E.1 k i j = τ.1 k i j := fun k i j hk => by rw [hE, zwi_r (by omega), zwi_r (by omega), zwi_r (by omega)]
  have o38 : E.1 38 0 1 = nI ns := by rw [hE, zwi_r (by omega), zwi_r (by omega), zwi_r (by omega), n1]
  have B := p_quiet hR v
  rw [← zeve_c τ d c v, ← hE] at B
  obtain ⟨S, hS⟩ : ∃ S, S = zwi (zwi E 0 0 12 1) 0 0 11 (nI (d + 1)) := ⟨_, rfl⟩
  rw [← hS] at B
  have o2 : ∀ k i j, k ≠ 38 → k ≠ 0 → S.1 k i j = τ.1 k i j := fun k i j hk h0 => by rw [hS, zwi_r (by omega), zwi_r (by omega), o1 k i j hk]
  have t199 : ∀ A : zMem, A.1 0 0 11 = nI d → f_X10_liveDay_199 F A = some ((), zwi (zwi A 0 0 12 1) 0 0 11 (nI (d + 1))) := fun A hA => by
    unfold f_X10_liveDay_199
    rw [zg_i (by decide), zwi_r (by omega), hA, nI_1]
  by_cases z : zrem (nI d) 360 = 0
  · refine ⟨(), (), zagc ns S, zwi (zagr ns (zwi (zagc ns S) 60 0 42 ((zagc ns S).1 60 0 42 + v))) 60 0 0 (nI (d + 1)), ?_, ?_, ?_, zwi_hit _ _ _ _ _⟩
    · show zb (zend (nI c) τ) _ = _
      rw [he, zb_s, if_pos z, e_ages hF hns o38, zb_s, t199 _ (by rw [zagc_o ns _ (by omega), o1 0 0 11 (by omega), d1]), zagc_w _ _ _ _ _ (by omega), zagc_w _ _ _ _ _ (by omega), hS]
    · show zlend F _ (zagc ns S) = _
      rw [hl _ (by rw [zagc_o ns _ (by omega), o2 _ _ _ (by omega) (by omega)])]
      unfold f_X11_oneDay_55
      rw [e_agesR (n := ns) (d := d) hF hns (by rw [zwi_r (by omega), zagc_o ns _ (by omega), o2 _ _ _ (by omega) (by omega), n2]) (by rw [zwi_r (by omega), zagc_o ns _ (by omega), o2 _ _ _ (by omega) (by omega), d2]), if_pos z]
    · rw [zagc_o ns _ (by omega), o2 60 0 42 (by omega) (by omega), zagc_w _ _ _ _ _ (by omega), zagr_w _ _ _ _ _ (by omega), zagc_w _ _ _ _ _ (by omega)]
      exact p_ages B ns hns
  · refine ⟨(), (), S, zwi (zwi S 60 0 42 (S.1 60 0 42 + v)) 60 0 0 (nI (d + 1)), ?_, ?_, ?_, zwi_hit _ _ _ _ _⟩
    · show zb (zend (nI c) τ) _ = _
      rw [he, zb_s, if_neg z, t199 _ ((o1 0 0 11 (by omega)).trans d1), hS]
    · show zlend F _ S = _
      rw [hl _ (o2 _ _ _ (by omega) (by omega))]
      unfold f_X11_oneDay_55
      rw [e_agesR (n := ns) (d := d) hF hns (by rw [zwi_r (by omega), o2 _ _ _ (by omega) (by omega), n2]) (by rw [zwi_r (by omega), o2 _ _ _ (by omega) (by omega), d2]), if_neg z]
    · rw [o2 60 0 42 (by omega) (by omega)]
      exact B
theorem s_day (F : Nat) {σ : zMem} {w f : Int32} (h0 : f_X5_on F σ (σ.1 0 0 11) 0 = some (w, σ)) (h1 : f_X5_on F σ (σ.1 0 0 11) 1 = some (f, σ)) : f_X10_liveDay F σ = zb (zC1 F w f σ) (fun _ m => zg (zni 360) (zit (f_X10_liveDay_98 F) F m (w, f, zrem (m.1 0 0 11) 360, 0))) := by
  unfold f_X10_liveDay zC1
  rw [h0, zb_s, h1, zb_s, s_liveDay_28 F w f F σ _ ⟨rfl, rfl⟩, zb_zb]
  congr 1
  funext _ m
  exact s_liveDay_54 F w f F m _ ⟨rfl, rfl⟩
theorem x_c98 (F : Nat) (w f : Int32) (τ s : zMem) : zg (zni 360) (zit (f_X10_liveDay_98 F) F (zmx s τ) (w, f, zrem ((zmx s τ).1 0 0 11) 360, 0)) = zM τ (zg (zni 360) (zit (f_X10_liveDay_98 F) F s (w, f, zrem (s.1 0 0 11) 360, 0))) := by
  have k98 : ∀ s y, zit (f_X10_liveDay_98 F) F (zmx s τ) y = zM τ (zit (f_X10_liveDay_98 F) F s y) := x_it τ (fun r r2 hr s y => x_X10_liveDay_98 τ F r r2 s y hr) F
  simp only [Nat.reduceLT, zmx_x, zml_x, zwi_x, zwl_x, zM_zb, zM_fun, zM_ite, zM_iten, zM_zg, zM_some, k98]
theorem x_c3 (F : Nat) (w f se : Int32) (τ s : zMem) : (zb (f_X7_live F (zmx s τ) w f) fun _ m => if se = 0 then (zb (f_X7_ageWoods F m) fun _ m2 => f_X10_liveDay_199 F m2) else f_X10_liveDay_199 F m) = zM τ (zb (f_X7_live F s w f) fun _ m => if se = 0 then (zb (f_X7_ageWoods F m) fun _ m2 => f_X10_liveDay_199 F m2) else f_X10_liveDay_199 F m) := by
  simp only [Nat.reduceLT, zmx_x, zml_x, zwi_x, zwl_x, zM_zb, zM_fun, zM_ite, zM_iten, zM_zg, zM_some, x_X7_live τ, x_X7_ageWoods τ, x_X10_liveDay_199 τ]
theorem x_c4 (F : Nat) (c se : Int32) (τ s : zMem) : (zb (zend c (zmx s τ)) fun _ m => if se = 0 then (zb (f_X7_ageWoods F m) fun _ m2 => f_X10_liveDay_199 F m2) else f_X10_liveDay_199 F m) = zM τ (zb (zend c s) fun _ m => if se = 0 then (zb (f_X7_ageWoods F m) fun _ m2 => f_X10_liveDay_199 F m2) else f_X10_liveDay_199 F m) := by
  simp only [Nat.reduceLT, zmx_x, zml_x, zwi_x, zwl_x, zM_zb, zM_fun, zM_ite, zM_iten, zM_zg, zM_some, x_zend τ, x_X7_ageWoods τ, x_X10_liveDay_199 τ]
theorem y_z12 (F : Nat) (τ s : zMem) : zit (zl12 F) F (zmx τ s) (0, 0) = zY τ (zit (zl12 F) F s (0, 0)) :=
  y_it τ (fun r r2 hr s y => y_zl12 τ F r r2 s y hr) F s (0, 0)
/-- one day in step -/
theorem j_day {σ : zMem} (hR : zRel σ) {F d : Nat} (hF : 8000 < F) (hd : d < 7199) (ed : σ.1 60 0 0 = nI d) : zJ (fun _ _ τ => zRel τ ∧ τ.1 60 0 0 = nI (d + 1)) (fun σ => f_X10_liveDay F σ) (fun σ => f_X11_oneDay F σ) σ := by
  have d0 : σ.1 0 0 11 = nI d := hR.2.2.2.2.1.2.1.symm.trans ed
  obtain ⟨n, hn, e1, e2⟩ := zRh_n hR.1
  obtain ⟨w, hw⟩ : ∃ w, w = zsk σ 0 (d + 1) := ⟨_, rfl⟩
  obtain ⟨f, hf⟩ : ∃ f, f = zsk σ 1 (d + 1) := ⟨_, rfl⟩
  have o0 : f_X5_on F σ (σ.1 0 0 11) 0 = some (w, σ) := by
    rw [d0, hw]
    exact e_X5_on hR.2.2.2.1 (w := 0) (by omega) (by omega) hF
  have o1 : f_X5_on F σ (σ.1 0 0 11) 1 = some (f, σ) := by
    rw [d0, hf]
    exact e_X5_on hR.2.2.2.1 (w := 1) (by omega) (by omega) hF
  refine zJ_c (f' := fun s => zb (zC1 F w f s) (fun _ m => zg (zni 360) (zit (f_X10_liveDay_98 F) F m (w, f, zrem (m.1 0 0 11) 360, 0)))) (s_day F o0 o1) (g' := fun s => zb (f_X11_fields F s) (fun _ m1 => zb (f_X11_stables F m1) fun _ m5 => zit (f_X11_oneDay_12 F) F m5 (0, 0))) (fun s => by unfold f_X11_oneDay; rfl) ?_
  have J1 := zJ_c (f := fun s => zC1 F w f s) (by show zC1 F w f σ = zC1 F (zsk σ 0 (d + 1)) (zsk σ 1 (d + 1)) σ; rw [hw, hf]) (fun s => rfl) (j_alps hR hF hn (show d < 7200 by omega) e1 ed)
  refine zseq (f2 := fun _ m => zg (zni 360) (zit (f_X10_liveDay_98 F) F m (w, f, zrem (m.1 0 0 11) 360, 0))) (g2 := fun _ m1 => zb (f_X11_stables F m1) fun _ m5 => zit (f_X11_oneDay_12 F) F m5 (0, 0)) (fun τ s => y_X11_fields τ F s) (fun _ τ s => x_c98 F w f τ s) J1 ?_
  rintro _ _ τ ⟨hR1, e1, ed, hz⟩
  have q0 : τ.1 0 0 11 = τ.1 60 0 0 := hR1.2.2.2.2.1.2.1.symm
  refine zJ_c (f' := fun m => zb (zit (zd98 F) F m (w, f, zrem (τ.1 60 0 0) 360, 0)) fun _ m2 => zb (f_X7_live F m2 w f) fun _ m => if zrem (nI d) 360 = 0 then (zb (f_X7_ageWoods F m) fun _ m2 => f_X10_liveDay_199 F m2) else f_X10_liveDay_199 F m) ?_ (fun s => rfl) ?_
  · show zg (zni 360) (zit (f_X10_liveDay_98 F) F τ (w, f, zrem (τ.1 0 0 11) 360, 0)) = _
    rw [zg_i (by decide), s_liveDay_98 F w f (zrem (τ.1 0 0 11) 360) F τ _ ⟨rfl, rfl, rfl⟩, q0, ed]
  have J2 := zJ_c (f := fun m => zit (zd98 F) F m (w, f, zrem (τ.1 60 0 0) 360, 0)) (f' := fun m => zit (zd98 F) F m (w, f, zrem (m.1 60 0 0) 360, 0)) rfl (fun s => rfl) (j_houses hR1 (F := F) (by omega) hn e1 ed w f)
  refine zseq (f2 := fun _ m2 => zb (f_X7_live F m2 w f) fun _ m => if zrem (nI d) 360 = 0 then (zb (f_X7_ageWoods F m) fun _ m2 => f_X10_liveDay_199 F m2) else f_X10_liveDay_199 F m) (g2 := fun _ m5 => zit (f_X11_oneDay_12 F) F m5 (0, 0)) (fun τ s => y_X11_stables τ F s) (fun _ τ s => x_c3 F w f _ τ s) J2 ?_
  rintro _ _ τ2 ⟨hR2, e1, ed, hz2⟩
  obtain ⟨⟨ns, hns, n1⟩, -⟩ := id hR2.2.2.2.2.2.2.1
  have J3 := zJ_c (f := fun s => zit (zd5 F) F s (w, f, 0, 0)) (by show zit (zd5 F) F τ2 (w, f, 0, 0) = zit (zd5 F) F τ2 (zsk τ2 0 (d + 1), zsk τ2 1 (d + 1), 0, 0); rw [hz2, hz2, hz, hz, hw, hf]) (fun s => rfl) (j_slopes hR2 hF hd hns ed n1)
  refine zJ_c (f' := fun m2 => zb (zit (zd5 F) F m2 (w, f, 0, 0)) fun c m => zb (zend c m) fun _ m => if zrem (nI d) 360 = 0 then (zb (f_X7_ageWoods F m) fun _ m2 => f_X10_liveDay_199 F m2) else f_X10_liveDay_199 F m) (g' := fun s => zb (zit (zl12 F) F s (0, 0)) (zlend F)) ?_ (fun s => s_oneDay_12 F F s (0, 0) trivial) ?_
  · show zb (zit (f_X7_live_5 F) F τ2 (w, f, 0, 0)) _ = _
    rw [s_live_5 F F τ2 _ trivial, zb_zb]
  refine zseq (f2 := fun c m => zb (zend c m) fun _ m => if zrem (nI d) 360 = 0 then (zb (f_X7_ageWoods F m) fun _ m2 => f_X10_liveDay_199 F m2) else f_X10_liveDay_199 F m) (g2 := zlend F) (fun τ s => y_z12 F τ s) (fun c τ s => x_c4 F c _ τ s) J3 ?_
  rintro _ _ τ3 ⟨c, hc, rfl, rfl, hT, d1, d2, n1⟩
  exact j_eve hT (by omega) hns hc d1 d2 n1
theorem a_days {σ : zMem} (hR : zRel σ) {F : Nat} (hF : 8000 < F) (x : Int32) : zOK (fun σ => f_X10_days F σ x) (fun σ => f_X11_days F σ x) σ := by
  obtain ⟨⟨d, hd, d0⟩, dd, -⟩ := id hR.2.2.2.2.1
  have ed := dd.trans d0
  by_cases x1 : x < 1
  · exact zOK_same hR (-2) (by simp [f_X10_days, x1]) (by simp [f_X11_days, e_X11_in, zb, x1])
  by_cases x2 : 120 < x
  · exact zOK_same hR (-2) (by simp [f_X10_days, x1, x2]) (by simp [f_X11_days, e_X11_in, zb, x1, x2])
  have x0 : ¬ x < 0 := fun q => x1 (by
    rw [Int32.lt_iff_toInt_lt] at q ⊢
    have t0 : (0 : Int32).toInt = 0 := rfl
    have t1 : (1 : Int32).toInt = 1 := rfl
    omega)
  obtain ⟨n, hn, rfl⟩ := nI_of2 (M := 120) (n := 120) rfl x0 (Int32.not_lt.mp x2)
  have t1 : (7199 : Int32) - nI d = nI (7199 - d) := by
    have : nI (7199 - d) + nI d = 7199 := by
      rw [nI_add, show 7199 - d + d = 7199 by omega]
      rfl
    rw [← this, Int32.add_sub_cancel]
  have t2 : nI d + nI n = nI (d + n) := nI_add d n
  have u1 : (nI n ≤ 7199 - nI d) = (n ≤ 7199 - d) := by rw [t1]; exact propext (nI_leI (by omega) (by omega))
  have u2 : (nI d + nI n ≤ 7199) = (d + n ≤ 7199) := by rw [t2]; exact propext (nI_leI (a := d + n) (b := 7199) (by omega) (by omega))
  by_cases t : d + n ≤ 7199
  · have v1 : nI n ≤ 7199 - nI d := by rw [u1]; omega
    have v2 : nI d + nI n ≤ 7199 := by rw [u2]; omega
    refine zJ_ok (zJ_c (f' := fun s => zit (f_X10_days_28 F) F s (nI n, nI 0)) (g' := fun s => zb (f_X11_in F s (nI n) 1 120) fun r4 m4 => if r4 = 0 then (some ((-2), m4)) else (if ((m4.1 60 0 0) + nI n) ≤ 7199 then (zit (f_X11_days_27 F) F m4 (nI n, nI 0)) else (some ((-2), m4)))) ?_ (fun s => by unfold f_X11_days; rw [nI_0]) ?_)
    · show f_X10_days F σ (nI n) = _
      unfold f_X10_days
      rw [if_neg x1, if_neg x2, d0, if_pos v1, nI_0]
    have Z := zlock (0 : Int32) (0 : Int32) (b := f_X10_days_28 F) (b2 := f_X11_days_27 F) (fun τ r r2 h s y => x_X10_days_28 τ F r r2 s y h) (fun τ r r2 h s y => y_X11_days_27 τ F r r2 s y h) (fun m τ x y => ∃ j, j ≤ n ∧ m = n - j ∧ x = (nI n, nI j) ∧ y = (nI n, nI j) ∧ zRel τ ∧ τ.1 60 0 0 = nI (d + j)) (fun r s τ => r = s ∧ zRel τ) (by
      rintro m τ x y ⟨j, hj, rfl, rfl, rfl, hτ, dj⟩
      by_cases e : j = n
      · subst e
        refine Or.inl ⟨nI (d + j), nI (d + j), τ, τ, fun rec => ?_, fun rec => ?_, rfl, hτ⟩
        · unfold f_X10_days_28
          simp only
          rw [if_pos (Int32.le_refl _), ← hτ.2.2.2.2.1.2.1, dj]
        · unfold f_X11_days_27
          simp only
          rw [if_pos (Int32.le_refl _), dj]
      · have l1 : ¬ nI n ≤ nI j := nle_s (by omega) (by omega)
        obtain ⟨r, s, σ1, σ2, h1, h2, h3, h4⟩ := j_day hτ hF (show d + j < 7199 by omega) dj
        have h1 : f_X10_liveDay F τ = some (r, σ1) := h1
        have h2 : f_X11_oneDay F σ1 = some (s, σ2) := h2
        refine Or.inr ⟨n - (j + 1), (nI n, nI (j + 1)), (nI n, nI (j + 1)), σ1, σ2, by omega, fun rec => ?_, fun rec => ?_, j + 1, by omega, rfl, rfl, rfl, h3, h4⟩
        · unfold f_X10_days_28
          simp only
          rw [if_neg l1, h1, zb_s, nI_1]
        · unfold f_X11_days_27
          simp only
          rw [if_neg l1, h2, zb_s, nI_1]) F n σ (nI n, nI 0) (nI n, nI 0) (by omega) ⟨0, by omega, rfl, rfl, rfl, hR, ed⟩
    obtain ⟨r, s, σ1, σ2, h1, h2, h3⟩ := Z
    refine ⟨r, s, σ1, σ2, h1, ?_, h3⟩
    have c1 : σ1.1 60 0 0 = nI d := by
      have l := x_it σ (fun r r2 hr s y => x_X10_days_28 σ F r r2 s y hr) F σ (nI n, nI 0)
      have h1' : zit (f_X10_days_28 F) F σ (nI n, nI 0) = some (r, σ1) := h1
      rw [zmx_self, h1'] at l
      rw [← zM_keep l, zmx_y (by omega), ed]
    show zb (f_X11_in F σ1 (nI n) 1 120) _ = _
    rw [e_X11_in, zb_s, if_neg x1, if_neg x2, if_neg (by decide), c1, if_pos v2]
    exact h2
  · have v1 : ¬ nI n ≤ 7199 - nI d := by rw [u1]; omega
    have v2 : ¬ nI d + nI n ≤ 7199 := by rw [u2]; omega
    refine zOK_same hR (-2) ?_ ?_
    · simp only [f_X10_days]
      rw [if_neg x1, if_neg x2, d0, if_neg v1]
    · simp only [f_X11_days]
      rw [e_X11_in, zb_s, if_neg x1, if_neg x2, if_neg (by decide), ed, if_neg v2]
