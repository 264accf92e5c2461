theorem zpk_co (t : Nat → Nat) (n p : Nat) : zpick t n p zCOND 0 0 = if p < n ∧ t p = 117 then zone t n p 1 [117, 110, 108, 101, 115, 115] else zone t n p 0 [105, 102] := by
  by_cases h : p < n ∧ t p = 117
  · rw [if_pos h, zp_zCOND_1 (zlp_no h)]
  · rw [if_neg h]
    by_cases h2 : p < n ∧ t p = 105
    · rw [zp_zCOND_0 (zlp_no h2)]
    · rw [zone_0 0 _ h2]
      exact zpick_f zCOND 0 0 (zmm ⟨by rw [zlp_0 _ h2]; decide, by rw [zlp_0 _ h2]; decide⟩ (zmm ⟨by rw [zlp_0 _ h]; decide, by rw [zlp_0 _ h]; decide⟩ zm0))
theorem zvc_b (σ : zMem) (c : Nat) : zwi σ 11 0 4 0 = zvc σ c (fun K j => σ.1 K c j) 0 := by
  refine Prod.ext ?_ rfl
  funext K i j
  show (if K = 11 ∧ i = 0 ∧ j = 4 then 0 else σ.1 K i j) = (if zPc c K i j = true then (if K = 11 ∧ j = 4 then nI 0 else σ.1 K c j) else σ.1 K i j)
  by_cases q : K = 11 ∧ i = 0 ∧ j = 4
  · rw [if_pos q, if_pos (by simp [zPc, q.1, q.2.1, q.2.2]), if_pos ⟨q.1, q.2.2⟩, nI_0]
  · rw [if_neg q]
    by_cases p : zPc c K i j = true
    · rw [if_pos p]
      simp [zPc] at p
      have p2 : i = c ∧ 13 ≤ K := by omega
      rw [if_neg (by omega), p2.1]
    · rw [if_neg p]
theorem zrs_b (σ : zMem) (c : Nat) (a : Int32) : zwi σ 60 0 58 a = zrs σ c (fun K j => if K = 111 then σ.1 111 0 j else σ.1 K c j) a (σ.1 60 0 59) (σ.1 60 0 60) := by
  refine Prod.ext ?_ rfl
  funext K i j
  show (if K = 60 ∧ i = 0 ∧ j = 58 then a else σ.1 K i j) = (if zPv c K i j = true then (if K = 60 ∧ j = 60 then σ.1 60 0 60 else if K = 60 ∧ j = 59 then σ.1 60 0 59 else if K = 60 ∧ j = 58 then a else if K = 111 then σ.1 111 0 j else σ.1 K c j) else σ.1 K i j)
  by_cases p : zPv c K i j = true
  · rw [if_pos p]
    simp [zPv] at p
    by_cases k : K = 60
    · have hi : i = 0 := by omega
      subst k
      subst hi
      have cs : j = 58 ∨ j = 59 ∨ j = 60 := by omega
      rcases cs with rfl | rfl | rfl <;> simp
    · rw [if_neg (fun w => k w.1), if_neg (fun w => k w.1), if_neg (fun w => k w.1), if_neg (fun w => k w.1)]
      by_cases k2 : K = 111
      · have hi : i = 0 := by omega
        rw [if_pos k2, k2, hi]
      · have hi : i = c := by omega
        rw [if_neg k2, hi]
  · rw [if_neg p]
    have : ¬ (K = 60 ∧ i = 0 ∧ j = 58) := fun w => p (by simp [zPv, w.1, w.2.1, w.2.2])
    rw [if_neg this]
theorem t_i2 : (2 : Int32).toNatClampNeg = 2 := by decide
/-- the word on the tape, read by both sides -/
theorem j_word {σ σ' : zMem} {t : Nat → Nat} {n c F : Nat} (hF : 100 < F) (ht : ztC σ t n) (ht' : ztR σ' t n) (hc : c < 40) (hcnt : σ'.1 60 0 20 = nI c) : ∃ (ok : Bool) (q : Nat) (S1 S2 : Nat → Nat → Int32) (a f o : Int32), q ≤ n ∧ f_X9_readWord F (zwi σ 11 0 4 0) c = some (if ok then 1 else 0, zvc σ c S1 q) ∧ f_X11_wordHere F σ' = some (if ok then 1 else 0, zrs σ' c S2 a f o) ∧ (∀ j, j = 2 ∨ j = 3 ∨ j = 4 → S1 13 j = σ.1 13 c j) ∧ (ok = true → S1 13 0 = S2 80 0 ∧ S1 13 1 = S2 80 1 ∧ zib (S1 13 1) 0 99999 ∧ ∃ T, T ≤ 4 ∧ S1 13 6 = nI T ∧ (T = 0 ∧ S2 80 2 = 0 ∨ 0 < T ∧ S2 80 3 = nI T ∧ (S1 13 5 = 0 ∧ S2 80 2 = 1 ∨ S1 13 5 = 1 ∧ S2 80 2 = 2)) ∧ ∀ i, i < T → ztr2 S1 S2 i) ∧ (ok = false → f = nI q) := by
  have n100 := ht.1
  have d40 : decide (c < 40) = true := decide_eq_true hc
  have d41 : decide (c < 41) = true := decide_eq_true (by omega)
  have ic := inb_n (show c < 41 by omega) (show 41 < 100000 by decide)
  have nc := nI_clamp (show c < 2 ^ 31 by omega)
  have i0 : inb 0 6 = true := by decide
  have i1 : inb 1 6 = true := by decide
  have i2 : inb 2 6 = true := by decide
  have i3 : inb 3 6 = true := by decide
  have i5 : inb 5 6 = true := by decide
  have bz : zbo 0 = true := by decide
  have v80 : ∀ j, zPv c 80 c j = true := fun j => by simp [zPv]
  obtain ⟨A0, hA0⟩ : ∃ A0 : Nat → Nat → Int32, A0 = zup2 (zup2 (fun K j => σ.1 K c j) 13 6 0) 13 5 0 := ⟨_, rfl⟩
  obtain ⟨B0, hB0⟩ : ∃ B0 : Nat → Nat → Int32, B0 = zup2 (zup2 (fun K j => if K = 111 then σ'.1 111 0 j else σ'.1 K c j) 80 2 0) 80 3 0 := ⟨_, rfl⟩
  have A2 : ∀ j, j = 2 ∨ j = 3 ∨ j = 4 → A0 13 j = σ.1 13 c j := fun j h => by rw [hA0, zup2_n _ _ (by omega), zup2_n _ _ (by omega)]
  have A6 : A0 13 6 = 0 := by rw [hA0, zup2_n _ _ (by omega), zup2_i]
  have B2 : B0 80 2 = 0 := by rw [hB0, zup2_n _ _ (by omega), zup2_i]
  have B3 : B0 80 3 = 0 := by rw [hB0, zup2_i]
  obtain ⟨f0, hf0⟩ : ∃ f0, f0 = σ'.1 60 0 59 := ⟨_, rfl⟩
  obtain ⟨o0, ho0⟩ : ∃ o0, o0 = σ'.1 60 0 60 := ⟨_, rfl⟩
  have st : zwi (zwi (zwi σ' 60 0 58 0) 80 c 2 0) 80 c 3 0 = zrs σ' c B0 (nI 0) f0 o0 := by
    rw [zrs_b σ' c, zrs_w _ _ _ _ _ _ _ (v80 2) (by decide), zrs_w _ _ _ _ _ _ _ (v80 3) (by decide), hB0, hf0, ho0, nI_0]
  have sc : zwi (zwi (zwi σ 11 0 4 0) 13 c 6 0) 13 c 5 0 = zvc σ c A0 0 := by
    rw [zvc_b σ c, zvc_w _ _ _ _ _ (by decide) (by decide), zvc_w _ _ _ _ _ (by decide) (by decide), hA0]
  have nk := e_name (F := F) (c := c) (j := 0) hF ht A0 (p := 0) (by decide) ztb0 (ztbb zKEYS (by decide)) (by decide) (Nat.zero_le n)
  obtain ⟨hq, hr⟩ := e_key (F := F) (c := c) hF ht' B0 f0 o0 (Nat.zero_le n)
  generalize zpick t n 0 zKEYS 0 0 = r at nk hq hr
  obtain ⟨r, q⟩ := r
  simp only at nk hq hr
  rcases hr with ⟨k, f1, hk, rfl, hx⟩ | ⟨rfl, a1, o1, hx⟩
  rotate_left
  · refine ⟨false, q, zup2 A0 13 0 (-1), B0, a1, nI q, o1, hq, ?_, ?_, fun j h => by rw [zup2_n _ _ (by omega), A2 j h], fun h => (by cases h), fun _ => rfl⟩
    · unfold f_X9_readWord
      rw [zg_i d40, zg_i bz, sc, nk, zb_s, zvc_w _ _ _ _ _ (by decide) (by decide), zvc_i _ _ _ _ (by decide) (by decide), zup2_i, if_pos (by decide)]
      rfl
    · unfold f_X11_wordHere
      rw [hcnt, nc, zg_i ic, zg_i i2, zg_i i3, st, hx, zb_s, if_pos rfl]
      rfl
  obtain ⟨A1, hA1⟩ : ∃ A1, A1 = zup2 A0 13 0 (nI k) := ⟨_, rfl⟩
  obtain ⟨B1, hB1⟩ : ∃ B1, B1 = zup2 B0 80 0 (nI k) := ⟨_, rfl⟩
  have bl := e_blank (F := F) (c := c) ht A1 hq
  have tb := e_bl14 (F := F) (c := c) hF ht' B1 f1 (nI k) hq
  by_cases h32 : q < n ∧ t q = 32
  rotate_left
  · rw [if_neg h32, if_neg h32] at bl
    rw [if_neg h32] at tb
    refine ⟨false, q, A1, B1, nI q, nI q, nI k, hq, ?_, ?_, fun j h => by rw [hA1, zup2_n _ _ (by omega), A2 j h], fun h => (by cases h), fun _ => rfl⟩
    · unfold f_X9_readWord
      rw [zg_i d40, zg_i bz, sc, nk, zb_s, zvc_w _ _ _ _ _ (by decide) (by decide), zvc_i _ _ _ _ (by decide) (by decide), zup2_i, if_neg (nI_pos (by omega)), ← hA1, bl, zb_s, if_pos rfl]
      rfl
    · unfold f_X11_wordHere
      rw [hcnt, nc, zg_i ic, zg_i i2, zg_i i3, st, hx, zb_s, if_neg (by decide), zg_i i0, zrs_rn, zrs_w _ _ _ _ _ _ _ (v80 0) (by decide), ← hB1, tb, zb_s, if_pos rfl]
      rfl
  rw [if_pos h32, if_pos h32] at bl
  rw [if_pos h32] at tb
  have hq1 : q + 1 ≤ n := h32.1
  have nu := e_num (F := F) (c := c) hF ht A1 hq1
  obtain ⟨hq2, hr2⟩ := e_numr (F := F) (c := c) hF ht' B1 f1 (nI k) hq1
  have vb := znm_lt t n 5 (q + 1) 0 1 (by decide)
  generalize znm t n 5 (q + 1) 0 = z at nu hq2 hr2 vb
  obtain ⟨v, q2⟩ := z
  simp only at nu hq2 hr2 vb
  have c1 : f_X9_readWord F (zwi σ 11 0 4 0) c = zb (f_X9_readNumber F (zvc σ c A1 (q + 1))) fun r38 m38 => if 0 ≤ (zwi m38 13 c 1 r38).1 13 c 1 then (if (zwi m38 13 c 1 r38).1 11 0 4 = (zwi m38 13 c 1 r38).1 11 0 3 then some (1, zwi m38 13 c 1 r38) else zb (f_X9_readBlank F (zwi m38 13 c 1 r38)) fun r67 m67 => if r67 = 0 then some (0, m67) else zb (f_X9_readName F m67 1) fun r78 m78 => if r78 < 0 then some (0, m78) else zb (f_X9_readBlank F m78) fun r87 m87 => if r87 = 0 then some (0, m87) else if r78 = 1 then f_X9_readWord_106 F m87 c 1 c else f_X9_readWord_106 F m87 c 0 c) else some (0, zwi m38 13 c 1 r38) := by
    unfold f_X9_readWord
    rw [zg_i d40, zg_i bz, sc, nk, zb_s, zvc_w _ _ _ _ _ (by decide) (by decide), zvc_i _ _ _ _ (by decide) (by decide), zup2_i, if_neg (nI_pos (by omega)), ← hA1, bl, zb_s, if_neg (by decide)]
  have r1 : f_X11_wordHere F σ' = zb (f_X11_numberHere F (zrs σ' c B1 (nI (q + 1)) f1 (nI k))) fun r50 m50 => if r50 = 0 then some (0, m50) else zg (inb 1 6) (if (zwi m50 80 c 1 (m50.1 60 0 60)).1 60 0 58 = (zwi m50 80 c 1 (m50.1 60 0 60)).1 60 0 19 then some (1, zwi m50 80 c 1 (m50.1 60 0 60)) else zb (f_X11_text F (zwi m50 80 c 1 (m50.1 60 0 60)) 14) fun r82 m82 => if r82 = 0 then some (0, m82) else zb (f_X11_here F m82) fun r93 m93 => if r93 = 117 then f_X11_wordHere_106 F m93 c 2 2 c else f_X11_wordHere_106 F m93 c 1 2 c) := by
    unfold f_X11_wordHere
    rw [hcnt, nc, zg_i ic, zg_i i2, zg_i i3, st, hx, zb_s, if_neg (by decide), zg_i i0, zrs_rn, zrs_w _ _ _ _ _ _ _ (v80 0) (by decide), ← hB1, tb, zb_s, if_neg (by decide)]
  rw [c1, r1]
  by_cases dg : q + 1 < n ∧ 48 ≤ t (q + 1) ∧ t (q + 1) ≤ 57
  rotate_left
  · rw [if_neg dg] at nu hr2
    rcases hr2 with ⟨v2, f2, hv2, e1, e2⟩ | ⟨-, a2, o2, e2⟩
    · exfalso
      have e3 : (-1 : Int32).toInt = (nI v2).toInt := by rw [e1]
      rw [nI_toInt (by omega)] at e3
      have : (-1 : Int32).toInt = -1 := rfl
      omega
    · refine ⟨false, q2, zup2 A1 13 1 (-1), B1, a2, nI q2, o2, hq2, ?_, ?_, fun j h => by rw [zup2_n _ _ (by omega), hA1, zup2_n _ _ (by omega), A2 j h], fun h => (by cases h), fun _ => rfl⟩
      · rw [nu, zb_s, zvc_w _ _ _ _ _ (by decide) (by decide), zvc_i _ _ _ _ (by decide) (by decide), zup2_i, if_neg (by decide)]
        rfl
      · rw [e2, zb_s, if_pos rfl]
        rfl
  rw [if_pos dg] at nu hr2
  obtain ⟨f2, e2⟩ : ∃ f2, f_X11_numberHere F (zrs σ' c B1 (nI (q + 1)) f1 (nI k)) = some (1, zrs σ' c B1 (nI q2) f2 (nI v)) := by
    rcases hr2 with ⟨v2, f2, hv2, e1, e2⟩ | ⟨e1, -, -, -⟩
    · have : v = v2 := (nI_eq (by omega) (by omega)).mp e1
      exact ⟨f2, by rw [this]; exact e2⟩
    · exfalso
      have e3 : (nI v).toInt = (-1 : Int32).toInt := by rw [e1]
      rw [nI_toInt (by omega)] at e3
      have : (-1 : Int32).toInt = -1 := rfl
      omega
  obtain ⟨A3, hA3⟩ : ∃ A3, A3 = zup2 A1 13 1 (nI v) := ⟨_, rfl⟩
  obtain ⟨B3', hB3⟩ : ∃ B3, B3 = zup2 B1 80 1 (nI v) := ⟨_, rfl⟩
  have A30 : A3 13 0 = nI k := by rw [hA3, zup2_n _ _ (by omega), hA1, zup2_i]
  have A31 : A3 13 1 = nI v := by rw [hA3, zup2_i]
  have A36 : A3 13 6 = 0 := by rw [hA3, zup2_n _ _ (by omega), hA1, zup2_n _ _ (by omega), A6]
  have A3j : ∀ j, j = 2 ∨ j = 3 ∨ j = 4 → A3 13 j = σ.1 13 c j := fun j h => by rw [hA3, zup2_n _ _ (by omega), hA1, zup2_n _ _ (by omega), A2 j h]
  have B30 : B3' 80 0 = nI k := by rw [hB3, zup2_n _ _ (by omega), hB1, zup2_i]
  have B31 : B3' 80 1 = nI v := by rw [hB3, zup2_i]
  have B32 : B3' 80 2 = 0 := by rw [hB3, zup2_n _ _ (by omega), hB1, zup2_n _ _ (by omega), B2]
  have B33 : B3' 80 3 = 0 := by rw [hB3, zup2_n _ _ (by omega), hB1, zup2_n _ _ (by omega), B3]
  have vz : zib (nI v) 0 99999 := by
    unfold zib
    rw [nI_toInt (by omega)]
    omega
  have n0 : (0 : Int32) ≤ nI v := nI_pos' (by omega)
  rw [nu, zb_s, e2, zb_s, if_neg (show ¬ (1 : Int32) = 0 by decide), zg_i i1, zrs_rn, zrs_w _ _ _ _ _ _ _ (v80 1) (by decide), ← hB3, zvc_w _ _ _ _ _ (by decide) (by decide), ← hA3, zvc_i _ _ _ _ (by decide) (by decide), A31, if_pos n0, zvc_r, zvc_o _ _ _ _ (show zPc c 11 0 3 = false by simp [zPc]), ht.2.1, zrs_ra, zrs_o _ _ _ _ _ _ (show zPv c 60 0 19 = false by simp [zPv]), ht'.2.1]
  by_cases qn : q2 = n
  · rw [if_pos (by rw [qn]), if_pos (by rw [qn])]
    exact ⟨true, q2, A3, B3', _, _, _, hq2, rfl, rfl, A3j, fun _ => ⟨A30.trans B30.symm, A31.trans B31.symm, by rw [A31]; exact vz, 0, by decide, by rw [A36, nI_0], Or.inl ⟨rfl, B32⟩, fun i h => by omega⟩, fun h => (by cases h)⟩
  have qn' : ¬ nI q2 = nI n := fun w => qn ((nI_eq (by omega) (by omega)).mp w)
  have bl2 := e_blank (F := F) (c := c) ht A3 hq2
  have tb2 := e_bl14 (F := F) (c := c) hF ht' B3' f2 (nI v) hq2
  rw [if_neg qn', if_neg qn']
  by_cases g32 : q2 < n ∧ t q2 = 32
  rotate_left
  · rw [if_neg g32, if_neg g32] at bl2
    rw [if_neg g32] at tb2
    rw [bl2, tb2, zb_s, zb_s, if_pos rfl, if_pos rfl]
    exact ⟨false, q2, A3, B3', nI q2, nI q2, nI v, hq2, rfl, rfl, A3j, fun h => (by cases h), fun _ => rfl⟩
  rw [if_pos g32, if_pos g32] at bl2
  rw [if_pos g32] at tb2
  have hq3 : q2 + 1 ≤ n := g32.1
  have nm := e_name (F := F) (c := c) (j := 1) hF ht A3 (p := q2 + 1) (by decide) ztb1 (ztbb zCOND (by decide)) (by decide) hq3
  rw [bl2, tb2, zb_s, zb_s, if_neg (show ¬ (1 : Int32) = 0 by decide), if_neg (show ¬ (1 : Int32) = 0 by decide), nm, zb_s, e_here ht' B3' f2 (nI v) hq3, zb_s]
  have main : ∀ (k' j : Nat) (w : List Nat), j < 28 → (k' = 1 ∧ j = 15 ∨ k' = 0 ∧ j = 16) → zSbyt.getD j [] = (w ++ [32]).map nI → (∀ x, x ∈ w ++ [32] → x < 128) → ∃ (ok : Bool) (q' : Nat) (S1 S2 : Nat → Nat → Int32) (a f o : Int32), q' ≤ n ∧ (if (zone t n (q2 + 1) k' w).1 < 0 then some (0, zvc σ c A3 (zone t n (q2 + 1) k' w).2) else zb (f_X9_readBlank F (zvc σ c A3 (zone t n (q2 + 1) k' w).2)) fun r87 m87 => if r87 = 0 then some (0, m87) else if (zone t n (q2 + 1) k' w).1 = 1 then f_X9_readWord_106 F m87 c 1 c else f_X9_readWord_106 F m87 c 0 c) = some (if ok then 1 else 0, zvc σ c S1 q') ∧ f_X11_wordHere_106 F (zrs σ' c B3' (nI (q2 + 1)) f2 (nI v)) c (nI (k' + 1)) 2 c = some (if ok then 1 else 0, zrs σ' c S2 a f o) ∧ (∀ j, j = 2 ∨ j = 3 ∨ j = 4 → S1 13 j = σ.1 13 c j) ∧ (ok = true → S1 13 0 = S2 80 0 ∧ S1 13 1 = S2 80 1 ∧ zib (S1 13 1) 0 99999 ∧ ∃ T, T ≤ 4 ∧ S1 13 6 = nI T ∧ (T = 0 ∧ S2 80 2 = 0 ∨ 0 < T ∧ S2 80 3 = nI T ∧ (S1 13 5 = 0 ∧ S2 80 2 = 1 ∨ S1 13 5 = 1 ∧ S2 80 2 = 2)) ∧ ∀ i, i < T → ztr2 S1 S2 i) ∧ (ok = false → f = nI q') := by
    intro k' j w hj hkj hw hb
    obtain ⟨B4, hB4⟩ : ∃ B4, B4 = zup2 B3' 80 2 (nI (k' + 1)) := ⟨_, rfl⟩
    have r106 : f_X11_wordHere_106 F (zrs σ' c B3' (nI (q2 + 1)) f2 (nI v)) c (nI (k' + 1)) 2 c = zb (f_X11_text F (zrs σ' c B4 (nI (q2 + 1)) f2 (nI v)) j) fun r124 m124 => if r124 = 0 then some (0, m124) else zg (inb 5 6) (zit (f_X11_wordHere_139 F) F (zwi m124 111 0 5 0) c) := by
      have x2 : (zrs σ' c (zup2 B3' 80 2 (nI (k' + 1))) (nI (q2 + 1)) f2 (nI v)).1 80 c 2 = nI (k' + 1) := by rw [zrs_i _ _ _ _ _ _ (v80 2) (by decide), zup2_i]
      unfold f_X11_wordHere_106
      rw [zg_i d41, zg_i d41, zg_i i2, zg_i i2, t_i2, zrs_w _ _ _ _ _ _ _ (v80 2) (by decide), x2, ← hB4]
      unfold f_X11_wordHere_124
      rcases hkj with ⟨rfl, rfl⟩ | ⟨rfl, rfl⟩
      · rw [if_pos (by decide), zg_i d41, zg_i (by decide)]
      · rw [if_neg (by decide), zg_i d41, zg_i (by decide)]
    rcases e_tbl (F := F) (c := c) (c' := c) (j := j) (w := w) hF ht ht' A3 B4 f2 (nI v) hq3 hj hw hb with ⟨q', hq', z1, z2, z3⟩ | ⟨q', hq', z3, ⟨z1, z2⟩ | ⟨z1, z2⟩⟩
    · have hz : zone t n (q2 + 1) k' w = (nI k', q2 + 1 + w.length) := if_pos z1
      have b4 : ∀ j, j ≠ 2 → B4 80 j = B3' 80 j := fun j h => by rw [hB4, zup2_n _ _ (fun w => h w.2)]
      have b42 : B4 80 2 = nI (k' + 1) := by rw [hB4, zup2_i]
      have b5 : ∀ j, zup2 B4 111 5 0 80 j = B4 80 j := fun j => zup2_n _ _ (by omega)
      obtain ⟨ok, q5, U1, U2, a, f3, o3, u1, u2, u3, u4, u5, u6, u7⟩ := j_tests (F := F) hF ht ht' hc hcnt 3 0 q' (zup2 A3 13 5 (nI k')) (zup2 B4 111 5 0) f2 (nI v) 0 F F rfl (by omega) (by omega) hq' (Or.inl rfl) (zup2_i ..) (by rw [b5, b4 3 (by decide), B33, nI_0]) (fun i' h => by omega)
      rw [nI_0] at u2
      have cw : ∀ s0, s0 = nI k' → f_X9_readWord_106 F (zvc σ c A3 q') c s0 c = some (if ok then 1 else 0, zvc σ c U1 q5) := fun s0 hs0 => by
        have zk : zbo (nI k') = true := by
          rcases hkj with ⟨rfl, -⟩ | ⟨rfl, -⟩ <;> decide
        unfold f_X9_readWord_106 f_X9_readTests
        rw [hs0, zg_i d40, zg_i d40, zg_i zk, zvc_w _ _ _ _ _ (by decide) (by decide), zg_i d40, u2, zb_s, zg_i (by cases ok <;> decide)]
      have UA : ∀ j, j ≠ 6 → j ≠ 5 → U1 13 j = A3 13 j := fun j h h2 => by rw [u4 j h, zup2_n _ _ (fun w => h2 w.2)]
      refine ⟨ok, q5, U1, U2, a, f3, o3, u1, ?_, ?_, fun j h => by rw [UA j (by omega) (by omega), A3j j h], fun h => ?_, u7⟩
      · rw [hz]
        simp only
        rw [if_neg (nI_pos (by rcases hkj with ⟨rfl, -⟩ | ⟨rfl, -⟩ <;> decide)), z2, zb_s, if_neg (by decide)]
        rcases hkj with ⟨rfl, -⟩ | ⟨rfl, -⟩
        · rw [if_pos (by decide)]
          exact cw 1 rfl
        · rw [if_neg (by decide)]
          exact cw 0 rfl
      · rw [r106, z3, zb_s, if_neg (by decide), zg_i i5, zrs_w _ _ _ _ _ _ _ (zpv1 c 5) (by decide)]
        exact u3
      · obtain ⟨T, T0, T4, T6, T3, Tr⟩ := u6 h
        have x0 : U2 80 0 = nI k := by rw [u5 0 (by decide), b5, b4 0 (by decide), B30]
        have x1 : U2 80 1 = nI v := by rw [u5 1 (by decide), b5, b4 1 (by decide), B31]
        have x2 : U2 80 2 = nI (k' + 1) := by rw [u5 2 (by decide), b5, b42]
        have y5 : U1 13 5 = nI k' := by rw [u4 5 (by decide), zup2_i]
        have y0 : U1 13 0 = nI k := by rw [UA 0 (by decide) (by decide), A30]
        have y1 : U1 13 1 = nI v := by rw [UA 1 (by decide) (by decide), A31]
        refine ⟨y0.trans x0.symm, y1.trans x1.symm, by rw [y1]; exact vz, T, T4, T6, Or.inr ⟨T0, T3, ?_⟩, Tr⟩
        rcases hkj with ⟨rfl, -⟩ | ⟨rfl, -⟩
        · exact Or.inr ⟨y5, x2⟩
        · exact Or.inl ⟨y5.trans nI_0, x2⟩
    · have hz : zone t n (q2 + 1) k' w = (nI k', q2 + 1 + w.length) := if_pos z1
      refine ⟨false, q', A3, B4, nI q', nI q', nI v, hq', ?_, ?_, A3j, fun h => (by cases h), fun _ => rfl⟩
      · rw [hz]
        simp only
        rw [if_neg (nI_pos (by rcases hkj with ⟨rfl, -⟩ | ⟨rfl, -⟩ <;> decide)), z2, zb_s, if_pos rfl]
        rfl
      · rw [r106, z3, zb_s, if_pos rfl]
        rfl
    · have hz : zone t n (q2 + 1) k' w = (-1, q2 + 1 + zlp t n w (q2 + 1)) := if_neg z1
      refine ⟨false, q', A3, B4, nI q', nI q', nI v, hq', ?_, ?_, A3j, fun h => (by cases h), fun _ => rfl⟩
      · rw [hz, ← z2]
        simp only
        rw [if_pos (by decide)]
        rfl
      · rw [r106, z3, zb_s, if_pos rfl]
        rfl
  rw [zpk_co]
  by_cases h117 : q2 + 1 < n ∧ t (q2 + 1) = 117
  · rw [if_pos h117, if_pos (show zhc t n (q2 + 1) = 117 from zhc_v h117)]
    exact main 1 15 [117, 110, 108, 101, 115, 115] (by decide) (Or.inl ⟨rfl, rfl⟩) zrt15 (zrtb _ (by decide))
  · rw [if_neg h117, if_neg (show ¬ zhc t n (q2 + 1) = 117 from fun w => h117 ((zhc_eq ht' (show 117 < 256 by decide)).mp w))]
    exact main 0 16 [105, 102] (by decide) (Or.inr ⟨rfl, rfl⟩) zrt16 (zrtb _ (by decide))

