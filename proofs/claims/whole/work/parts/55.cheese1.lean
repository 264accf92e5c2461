def zkv (σ ρ : zMem) : zMem := (fun k i j => if (k = 2 ∧ (j = 5 ∨ j = 7 ∨ j = 8 ∨ j = 9)) ∨ k = 65 ∨ k = 66 ∨ k = 68 ∨ k = 112 ∨ (k = 60 ∧ i = 0 ∧ j = 44) then ρ.1 k i j else σ.1 k i j, σ.2)
theorem p_cv {σ ρ : zMem} (hR : zRel σ) (f5 : ∀ h, h < 10 → ρ.1 2 h 5 = 0 ∧ ρ.1 65 0 h = 0) (f7 : ∀ h, h < 10 → ρ.1 2 h 7 = ρ.1 68 0 h) (f9 : ∀ h, h < 10 → ρ.1 2 h 9 = ρ.1 66 0 h ∧ -100000 ≤ (ρ.1 66 0 h).toInt) (fn : ∀ h, h < 10 → σ.1 60 0 1 ≤ nI h → ρ.1 66 0 h = 0 ∧ ρ.1 68 0 h = 0) (f44 : ρ.1 60 0 44 = zsum (fun h => ρ.1 2 h 7) 10) (fs : zsz (fun h => (ρ.1 66 0 h).toInt) 10 ≤ 0 ∧ -10 * ((σ.1 60 0 43).toInt + 1) ≤ zsz (fun h => (ρ.1 66 0 h).toInt) 10) : zRel (zkv σ ρ) := by
  obtain ⟨hh, hr, hw, hk, ha, hd, hl, hc, ht, hb, hQ⟩ := hR
  refine ⟨?_, ?_, ?_, ?_, ?_, ?_, ?_, ?_, ?_, ?_, ?_⟩
  · obtain ⟨g1, g2, g3, g4, g5, g6⟩ := hh
    refine ⟨by simpa [zkv] using g1, by simpa [zkv] using g2, by simpa [zkv] using g3, fun y hy => ?_, by simpa [zkv] using g5, by simpa [zkv] using g6⟩
    obtain ⟨k1, k2, k3, k4, k5, k6, k7, k8, k9⟩ := g4 y hy
    simp [zkv, k1, k2, k3, k5, k8, k9, (f5 y hy).1, (f5 y hy).2, f7 y hy, (f9 y hy).1]
  · simpa [zRr, zkv] using hr
  · simpa [zRw, zkv] using hw
  · simpa [zRk, zkv] using hk
  · simpa [zRa, zkv] using ha
  · simpa [zRd, zkv] using hd
  · simpa [zRl, zkv] using hl
  · obtain ⟨p1, p2, p3, p4, p5, p6, p7, p8, p9, p10⟩ := hc
    exact ⟨by simpa [zkv] using p1, by simpa [zkv] using p2, by simpa [zkv] using p3, by simpa [zkv] using p4, by simpa [zkv] using p5, by simpa [zkv] using p6, by simpa [zkv] using p7, by simpa [zkv] using p8, by simpa [zkv] using p9, by simpa [zkv] using f44⟩
  · simpa [zRt, zkv] using ht
  · simpa [zRb, zkv] using hb
  · obtain ⟨y1, y2, y3, y4, y5, y6, y7, y8, y9, y10⟩ := hQ
    refine ⟨by simpa [zkv] using y1, by simpa [zkv] using y2, by simpa [zkv] using y3, by simpa [zkv] using y4, ?_, by simpa [zkv] using y6, by simpa [zkv] using y7, ?_, ?_, by simpa [zkv] using y10⟩
    · intro h hh hle
      have q := y5 h hh (by simpa [zkv] using hle)
      have q2 := fn h hh (by simpa [zkv] using hle)
      exact ⟨by simpa [zkv] using q.1, by simpa [zkv] using q.2.1, by simpa [zkv] using (f5 h hh).2, by simpa [zkv] using q2.1, by simpa [zkv] using q2.2⟩
    · intro h hh
      obtain ⟨q1, q2, q3⟩ := y8 h hh
      refine ⟨by simpa [zkv] using q1, ?_, by simpa [zkv] using (f9 h hh).2⟩
      have a : (zkv σ ρ).1 65 0 h = 0 := by simpa [zkv] using (f5 h hh).2
      have b : (zkv σ ρ).1 60 0 43 = σ.1 60 0 43 := by simp [zkv]
      rw [a, b]
      have z : (0 : Int32).toInt = 0 := rfl
      have := q2.1
      have := q2.2
      exact ⟨by omega, by omega⟩
    · exact ⟨by simpa [zkv] using fs.1, by simpa [zkv] using fs.2, fun ⟨h, hh, q⟩ => absurd (by simpa [zkv] using (f5 h hh).2) q⟩
theorem k_sumc {f g : Nat → Int32} : ∀ {n : Nat}, (∀ i, i < n → f i = g i) → zsum f n = zsum g n
  | 0, _ => rfl
  | n + 1, h => by
    show zsum f n + f n = zsum g n + g n
    rw [k_sumc (n := n) fun i hi => h i (by omega), h n (by omega)]
theorem k_suma (f g : Nat → Int32) : ∀ n, zsum (fun i => f i + g i) n = zsum f n + zsum g n
  | 0 => by
    show (0 : Int32) = 0 + 0
    decide
  | n + 1 => by
    show zsum (fun i => f i + g i) n + (f n + g n) = (zsum f n + f n) + (zsum g n + g n)
    rw [k_suma f g n, Int32.add_assoc, Int32.add_assoc, ← Int32.add_assoc (zsum g n), Int32.add_comm (zsum g n) (f n), Int32.add_assoc]
def zks (σ τ : zMem) (b : Nat) (r v : Int32) : zMem := zwi (zwi (zwi τ 2 b 8 v) 2 b 7 (σ.1 68 0 b + v)) 2 b 9 r
def zku (τ : zMem) (b : Nat) (r v : Int32) : zMem := zwi (zwi τ 112 0 b v) 66 0 b r
theorem zks_o (σ τ : zMem) {b : Nat} (r v : Int32) {k i j : Nat} (h : ¬ (k = 2 ∧ i = b ∧ (j = 7 ∨ j = 8 ∨ j = 9))) : (zks σ τ b r v).1 k i j = τ.1 k i j := by
  unfold zks
  rw [zwi_r (by omega), zwi_r (by omega), zwi_r (by omega)]
theorem zku_o (τ : zMem) {b : Nat} (r v : Int32) {k i j : Nat} (h : ¬ ((k = 66 ∨ k = 112) ∧ i = 0 ∧ j = b)) : (zku τ b r v).1 k i j = τ.1 k i j := by
  unfold zku
  rw [zwi_r (by omega), zwi_r (by omega)]
theorem k_st {σ τ : zMem} {m n b : Nat} (hA : zkA σ m τ) (hD : zkD σ m τ) (hm : m ≤ n) (hb : b < n) (hi : ∀ i, i < n → i ≠ b → i < m) {r v : Int32} (hr : -100000 ≤ r.toInt) (hv : 0 ≤ v.toInt) : zkA σ n (zku (zks σ τ b r v) b r v) ∧ zkD σ n (zku (zks σ τ b r v) b r v) := by
  refine k_set hA hD hm hb hi rfl (fun k i j h => ?_) (r := r) (v := v) ?_ ?_ ?_ ?_ ?_ hr hv
  · rw [zku_o _ _ _ (by omega), zks_o _ _ _ _ (by omega)]
  · rw [zku_o _ _ _ (by omega)]
    exact zwi_hit _ _ _ _ _
  · rw [zku_o _ _ _ (by omega)]
    unfold zks
    rw [zwi_r (by omega), zwi_r (by omega), zwi_hit]
  · rw [zku_o _ _ _ (by omega)]
    unfold zks
    rw [zwi_r (by omega), zwi_hit]
  · exact zwi_hit _ _ _ _ _
  · unfold zku
    rw [zwi_r (by omega), zwi_hit]
theorem k_ur (σ τ : zMem) (b : Nat) (r v : Int32) (j : Nat) : (zku (zks σ τ b r v) b r v).1 66 0 j = (if j = b then r else τ.1 66 0 j) ∧ (zku (zks σ τ b r v) b r v).1 112 0 j = (if j = b then v else τ.1 112 0 j) := by
  by_cases e : j = b
  · subst e
    rw [if_pos rfl, if_pos rfl]
    refine ⟨zwi_hit _ _ _ _ _, ?_⟩
    unfold zku
    rw [zwi_r (by omega), zwi_hit]
  · rw [if_neg e, if_neg e, zku_o _ _ _ (by omega), zks_o _ _ _ _ (by omega), zku_o _ _ _ (by omega), zks_o _ _ _ _ (by omega)]
    exact ⟨rfl, rfl⟩
theorem k_sums (σ τ : zMem) {n b : Nat} (hb : b < n) (r v : Int32) : zkR (zku (zks σ τ b r v) b r v) n = zkR τ n - (τ.1 66 0 b).toInt + r.toInt ∧ zkN (zku (zks σ τ b r v) b r v) n = zkN τ n - (τ.1 112 0 b).toInt + v.toInt := by
  have h := k_ur σ τ b r v
  refine ⟨?_, ?_⟩
  · unfold zkR
    rw [k_upd (f := fun i => (τ.1 66 0 i).toInt) hb fun i _ hne => by rw [(h i).1, if_neg hne], (h b).1, if_pos rfl]
  · unfold zkN
    rw [k_upd (f := fun i => (τ.1 112 0 i).toInt) hb fun i _ hne => by rw [(h i).2, if_neg hne], (h b).2, if_pos rfl]
theorem e_take (F : Nat) (τ : zMem) {b : Nat} (hb : b < 10) (a : Int32) : f_X2_takeWheels F τ b a = some ((), zwi (zwi (zwi τ 2 b 8 (τ.1 2 b 8 + a)) 2 b 7 (τ.1 2 b 7 + a)) 2 b 9 (τ.1 2 b 9 - a * 10000)) := by
  unfold f_X2_takeWheels
  rw [zg_i (decide_eq_true hb), zwi_r (by omega), zwi_r (by omega), zwi_r (by omega)]
/-- the end of a cheese -/
def zkc (n : Nat) (σ : zMem) : zMem := (fun k i j => if k = 2 ∧ i < n ∧ j = 5 then 0 else σ.1 k i j, σ.2)
def zkr (n : Nat) (σ : zMem) : zMem := (fun k i j => if k = 68 ∧ i = 0 ∧ j < n then σ.1 68 0 j + σ.1 112 0 j else if k = 65 ∧ i = 0 ∧ j < n then 0 else σ.1 k i j, σ.2)
theorem zkc_s (n : Nat) (σ : zMem) : zwi (zkc n σ) 2 n 5 0 = zkc (n + 1) σ := by
  refine Prod.ext ?_ rfl
  funext k i j
  simp only [zwi, zu, zkc]
  by_cases h : k = 2 ∧ i = n ∧ j = 5
  · obtain ⟨rfl, rfl, rfl⟩ := h
    simp
  · rw [if_neg h]
    by_cases h2 : k = 2 ∧ i < n ∧ j = 5
    · rw [if_pos h2, if_pos (by omega)]
    · rw [if_neg h2, if_neg (by omega)]
theorem zkr_s (n : Nat) (σ : zMem) : zwi (zwi (zkr n σ) 68 0 n ((zkr n σ).1 68 0 n + (zkr n σ).1 112 0 n)) 65 0 n 0 = zkr (n + 1) σ := by
  refine Prod.ext ?_ rfl
  funext k i j
  have e1 : (zkr n σ).1 68 0 n = σ.1 68 0 n := by simp [zkr]
  have e2 : (zkr n σ).1 112 0 n = σ.1 112 0 n := by simp [zkr]
  rw [e1, e2]
  simp only [zwi, zu, zkr]
  by_cases h : k = 65 ∧ i = 0 ∧ j = n
  · obtain ⟨rfl, rfl, rfl⟩ := h
    simp
  rw [if_neg h]
  by_cases h1 : k = 68 ∧ i = 0 ∧ j = n
  · obtain ⟨rfl, rfl, rfl⟩ := h1
    simp
  rw [if_neg h1]
  by_cases h2 : k = 68 ∧ i = 0 ∧ j < n
  · rw [if_pos h2, if_pos (by omega)]
  rw [if_neg h2, if_neg (show ¬ (k = 68 ∧ i = 0 ∧ j < n + 1) by omega)]
  by_cases h3 : k = 65 ∧ i = 0 ∧ j < n
  · rw [if_pos h3, if_pos (by omega)]
  rw [if_neg h3, if_neg (by omega)]
theorem e_153 {τ : zMem} {n F : Nat} (hF : 100 < F) (hn : n ≤ 10) (e : τ.1 0 0 1 = nI n) (x : Int32) : zit (f_X10_cheese_153 F) F τ (x, 0) = some (x, zkc n τ) := by
  refine zit_m (fun m s y => ∃ i, i ≤ n ∧ m = n - i ∧ s = zkc i τ ∧ y = (x, nI i)) _ ?_ F n τ _ ⟨0, by omega, rfl, (Prod.ext (by funext k i j; simp [zkc]) rfl), by rw [nI_0]⟩ (by omega)
  rintro m s y ⟨i, hi, rfl, rfl, rfl⟩
  have e' : (zkc i τ).1 0 0 1 = nI n := by simpa [zkc] using e
  by_cases q : i = n
  · subst q
    refine Or.inl fun rec => ?_
    unfold f_X10_cheese_153
    simp only
    rw [e', if_pos (Int32.le_refl _)]
  · refine Or.inr ⟨n - (i + 1), zkc (i + 1) τ, (x, nI (i + 1)), by omega, ⟨i + 1, by omega, rfl, rfl, rfl⟩, fun rec => ?_⟩
    unfold f_X10_cheese_153
    simp only
    rw [e', if_neg (nle_s (by omega) (by omega)), zg_i (inb_n (by omega) (by omega)), nI_clamp (show i < 2 ^ 31 by omega), zkc_s, nI_1]
theorem e_251 {τ : zMem} {n F : Nat} (hF : 100 < F) (hn : n ≤ 10) (e : τ.1 60 0 1 = nI n) (x : Int32) : zit (f_X11_cheese_251 F) F τ (x, 0) = some (x, zwi (zkr n τ) 60 0 44 (τ.1 60 0 44 + x)) := by
  refine zit_m (fun m s y => ∃ i, i ≤ n ∧ m = n - i ∧ s = zkr i τ ∧ y = (x, nI i)) _ ?_ F n τ _ ⟨0, by omega, rfl, (Prod.ext (by funext k i j; simp [zkr]) rfl), by rw [nI_0]⟩ (by omega)
  rintro m s y ⟨i, hi, rfl, rfl, rfl⟩
  have e' : (zkr i τ).1 60 0 1 = nI n := by simpa [zkr] using e
  have e4 : (zkr i τ).1 60 0 44 = τ.1 60 0 44 := by simp [zkr]
  by_cases q : i = n
  · subst q
    refine Or.inl fun rec => ?_
    unfold f_X11_cheese_251
    simp only
    rw [e', if_pos (Int32.le_refl _), e4]
  · have i1 := inb_n (show i < 10 by omega) (by omega)
    refine Or.inr ⟨n - (i + 1), zkr (i + 1) τ, (x, nI (i + 1)), by omega, ⟨i + 1, by omega, rfl, rfl, rfl⟩, fun rec => ?_⟩
    unfold f_X11_cheese_251
    simp only
    rw [e', if_neg (nle_s (by omega) (by omega)), zg_i i1, zg_i i1, zg_i i1, zg_i i1, nI_clamp (show i < 2 ^ 31 by omega), zkr_s, nI_1]
theorem j_E {σ τ : zMem} (hR : zRel σ) {n w F : Nat} (hF : 100 < F) (hn : n ≤ 10) (hw : w ≤ 9999) (e1 : σ.1 0 0 1 = nI n) (hA : zkA σ n τ) (hD : zkD σ n τ) (hN : zkN τ n = w) (h0 : zkR τ n ≤ 0) (h1 : -10 * ((σ.1 60 0 43).toInt + 1) ≤ zkR τ n) : zJ (fun r s t => r = s ∧ zRel t) (fun s => zit (f_X10_cheese_153 F) F s (nI w, 0)) (fun s => zit (f_X11_cheese_251 F) F s (nI w, 0)) τ := by
  have e2 : σ.1 60 0 1 = nI n := hR.1.2.1.trans e1
  have t1 : τ.1 0 0 1 = nI n := by rw [hA.2 _ _ _ (by omega), e1]
  have t2 : (zkc n τ).1 60 0 1 = nI n := by
    have : (zkc n τ).1 60 0 1 = τ.1 60 0 1 := by simp [zkc]
    rw [this, hA.2 _ _ _ (by omega), e2]
  refine ⟨nI w, nI w, zkc n τ, _, e_153 hF hn t1 _, e_251 hF hn t2 _, rfl, ?_⟩
  generalize hρ : zwi (zkr n (zkc n τ)) 60 0 44 ((zkc n τ).1 60 0 44 + nI w) = ρ
  have g4 := hR.1.2.2.2.1
  have y5 := hR.2.2.2.2.2.2.2.2.2.2.2.2.2.2.1
  have y8 := hR.2.2.2.2.2.2.2.2.2.2.2.2.2.2.2.2.2.1
  have c10 := hR.2.2.2.2.2.2.2.1.2.2.2.2.2.2.2.2.2
  have rl : ∀ k i j, k ≠ 60 → ρ.1 k i j = (zkr n (zkc n τ)).1 k i j := fun k i j hk => by rw [← hρ, zwi_r (by omega)]
  have r5 : ∀ h, ρ.1 2 h 5 = if h < n then 0 else τ.1 2 h 5 := fun h => by rw [rl _ _ _ (by omega)]; simp [zkr, zkc]
  have r65 : ∀ h, ρ.1 65 0 h = if h < n then 0 else τ.1 65 0 h := fun h => by rw [rl _ _ _ (by omega)]; simp [zkr, zkc]
  have r7 : ∀ h, ρ.1 2 h 7 = τ.1 2 h 7 := fun h => by rw [rl _ _ _ (by omega)]; simp [zkr, zkc]
  have r9 : ∀ h, ρ.1 2 h 9 = τ.1 2 h 9 := fun h => by rw [rl _ _ _ (by omega)]; simp [zkr, zkc]
  have r66 : ∀ h, ρ.1 66 0 h = τ.1 66 0 h := fun h => by rw [rl _ _ _ (by omega)]; simp [zkr, zkc]
  have r68 : ∀ h, ρ.1 68 0 h = if h < n then τ.1 68 0 h + τ.1 112 0 h else τ.1 68 0 h := fun h => by rw [rl _ _ _ (by omega)]; simp [zkr, zkc]
  have r44 : ρ.1 60 0 44 = σ.1 60 0 44 + nI w := by
    rw [← hρ, zwi_hit, ← hA.2 60 0 44 (by omega)]
    simp [zkc]
  have b5 : ∀ h, h < 10 → ¬ h < n → σ.1 62 h 2 = 0 ∧ σ.1 64 0 h = 0 ∧ σ.1 65 0 h = 0 ∧ σ.1 66 0 h = 0 ∧ σ.1 68 0 h = 0 := fun h hh hx => y5 h hh (by rw [e2]; exact (nI_leI (by omega) (by omega)).mpr (by omega))
  have z66 : zsz (fun h => (ρ.1 66 0 h).toInt) 10 = zkR τ n := by
    have a := zsz_cut (f := fun h => (ρ.1 66 0 h).toInt) n (10 - n) fun i h1 h2 => by
      show (ρ.1 66 0 i).toInt = 0
      rw [r66, hA.2 _ _ _ (by omega), (b5 i (by omega) (by omega)).2.2.2.1]
      rfl
    rw [show n + (10 - n) = 10 by omega] at a
    rw [a]
    exact zsz_c fun i _ => by rw [r66]
  have v : ρ = zkv σ ρ := by
    refine Prod.ext ?_ ?_
    · funext k i j
      simp only [zkv]
      split
      · rfl
      · rename_i hx
        rw [← hρ, zwi_r (by omega)]
        have : (zkr n (zkc n τ)).1 k i j = τ.1 k i j := by
          simp only [zkr, zkc]
          rw [if_neg (by omega), if_neg (by omega), if_neg (by omega)]
        rw [this, hA.2 k i j (by omega)]
    · rw [← hρ]
      exact hA.1
  rw [v]
  refine p_cv hR (fun h hh => ?_) (fun h hh => ?_) (fun h hh => ?_) (fun h hh hx => ?_) ?_ (by rw [z66]; exact ⟨h0, h1⟩)
  · rw [r5, r65]
    by_cases q : h < n
    · rw [if_pos q, if_pos q]
      exact ⟨rfl, rfl⟩
    · rw [if_neg q, if_neg q, hA.2 _ _ _ (by omega), hA.2 _ _ _ (by omega), (g4 h hh).2.2.2.1, (b5 h hh q).2.2.1]
      exact ⟨rfl, rfl⟩
  · rw [r7, r68]
    by_cases q : h < n
    · rw [if_pos q, (hD h q).2.2.1, hA.2 68 0 h (by omega)]
    · rw [if_neg q, hA.2 _ _ _ (by omega), hA.2 _ _ _ (by omega), (g4 h hh).2.2.2.2.2.1]
  · rw [r9, r66]
    by_cases q : h < n
    · exact ⟨(hD h q).1, (hD h q).2.2.2.1⟩
    · rw [hA.2 _ _ _ (by omega), hA.2 _ _ _ (by omega)]
      exact ⟨(g4 h hh).2.2.2.2.2.2.1, (y8 h hh).2.2⟩
  · have q : ¬ h < n := by
      rw [e2] at hx
      have := (nI_leI (by omega) (by omega)).mp hx
      omega
    rw [r66, r68, if_neg q, hA.2 _ _ _ (by omega), hA.2 _ _ _ (by omega)]
    exact (b5 h hh q).2.2.2
  · rw [r44, c10]
    have a := zsum_t (f := fun i => τ.1 112 0 i) (n := n) (fun i hi => (hD i hi).2.2.2.2) (by
      show zkN τ n ≤ _
      rw [hN]
      omega)
    have a2 : zsum (fun i => τ.1 112 0 i) n = nI w := by
      apply Int32.toInt_inj.mp
      rw [a, nI_toInt (by omega)]
      exact hN
    have a3 := zsum_cut (f := fun i => if i < n then τ.1 112 0 i else 0) n (10 - n) fun i h1 h2 => if_neg (by omega)
    rw [show n + (10 - n) = 10 by omega, k_sumc (g := fun i => τ.1 112 0 i) (n := n) fun i hi => if_pos hi, a2] at a3
    rw [← a3, ← k_suma]
    refine k_sumc fun h hh => ?_
    rw [r7]
    by_cases q : h < n
    · rw [if_pos q, (hD h q).2.2.1, (g4 h hh).2.2.2.2.2.1]
    · rw [if_neg q, hA.2 _ _ _ (by omega), Int32.add_zero]
