theorem zrt6 : zSbyt.getD 6 [] = ([114, 97, 116, 101] : List Nat).map nI := by decide +kernel
theorem zrt7 : zSbyt.getD 7 [] = ([101, 101, 116] : List Nat).map nI := by decide +kernel
theorem zrt8 : zSbyt.getD 8 [] = ([114, 111, 109] : List Nat).map nI := by decide +kernel
theorem zrt9 : zSbyt.getD 9 [] = ([105, 110, 101] : List Nat).map nI := by decide +kernel
theorem zrt10 : zSbyt.getD 10 [] = ([116, 105, 108, 108] : List Nat).map nI := by decide +kernel
theorem zrt11 : zSbyt.getD 11 [] = ([104, 101, 97, 100, 115] : List Nat).map nI := by decide +kernel
theorem zrt12 : zSbyt.getD 12 [] = ([108, 111, 116] : List Nat).map nI := by decide +kernel
theorem zrt13 : zSbyt.getD 13 [] = ([119, 97, 116, 99, 104] : List Nat).map nI := by decide +kernel
theorem zrt14 : zSbyt.getD 14 [] = ([32] : List Nat).map nI := by decide +kernel
theorem zrt15 : zSbyt.getD 15 [] = ([117, 110, 108, 101, 115, 115, 32] : List Nat).map nI := by decide +kernel
theorem zrt16 : zSbyt.getD 16 [] = ([105, 102, 32] : List Nat).map nI := by decide +kernel
theorem zrt17 : zSbyt.getD 17 [] = ([110, 111, 116, 32] : List Nat).map nI := by decide +kernel
theorem zrt18 : zSbyt.getD 18 [] = ([99, 111, 119, 115] : List Nat).map nI := by decide +kernel
theorem zrt19 : zSbyt.getD 19 [] = ([121, 101, 97, 114] : List Nat).map nI := by decide +kernel
theorem zrt20 : zSbyt.getD 20 [] = ([115, 101, 97, 115, 111, 110] : List Nat).map nI := by decide +kernel
theorem zrt21 : zSbyt.getD 21 [] = ([104] : List Nat).map nI := by decide +kernel
theorem zrt22 : zSbyt.getD 22 [] = ([97, 121] : List Nat).map nI := by decide +kernel
theorem zrt23 : zSbyt.getD 23 [] = ([101, 97] : List Nat).map nI := by decide +kernel
theorem zrt24 : zSbyt.getD 24 [] = ([100, 115] : List Nat).map nI := by decide +kernel
theorem zrt25 : zSbyt.getD 25 [] = ([114, 116, 104, 115] : List Nat).map nI := by decide +kernel
theorem zrt26 : zSbyt.getD 26 [] = ([111, 114, 32] : List Nat).map nI := by decide +kernel
theorem zrt27 : zSbyt.getD 27 [] = ([97, 110, 100, 32] : List Nat).map nI := by decide +kernel
theorem zrtb : ∀ w, w ∈ [[114, 97, 116, 101], [101, 101, 116], [114, 111, 109], [105, 110, 101], [116, 105, 108, 108], [104, 101, 97, 100, 115], [108, 111, 116], [119, 97, 116, 99, 104], [32], [117, 110, 108, 101, 115, 115, 32], [105, 102, 32], [110, 111, 116, 32], [99, 111, 119, 115], [121, 101, 97, 114], [115, 101, 97, 115, 111, 110], [104], [97, 121], [101, 97], [100, 115], [114, 116, 104, 115], [111, 114, 32], [97, 110, 100, 32]] → ∀ x, x ∈ w → x < 128 := by decide +kernel
theorem zRO_c {σ : zMem} {c n : Nat} {S : Nat → Nat → Int32} {r r2 : Int32 × Nat} {x : Option (Int32 × zMem)} (e : r = r2) (h : zRO σ c S n r2 x) : zRO σ c S n r x := e ▸ h
theorem zhc_v {t : Nat → Nat} {n p c : Nat} (h : p < n ∧ t p = c) : zhc t n p = nI c := by
  unfold zhc
  rw [if_pos h.1, h.2]
theorem zhc_t {σ : zMem} {t : Nat → Nat} {n p : Nat} (ht : ztR σ t n) : (zhc t n p = -1 ∧ ¬ p < n) ∨ ∃ b, b < 256 ∧ zhc t n p = nI b ∧ p < n ∧ t p = b := by
  unfold zhc
  by_cases q : p < n
  · exact Or.inr ⟨t p, (ht.2.2 p q).1, if_pos q, q, rfl⟩
  · exact Or.inl ⟨if_neg q, q⟩
theorem e_key {σ : zMem} {t : Nat → Nat} {n c F : Nat} (hF : 100 < F) (ht : ztR σ t n) (S : Nat → Nat → Int32) {p : Nat} (f o : Int32) (hp : p ≤ n) : zRO σ c S n (zpick t n p zKEYS 0 0) (f_X11_keyHere F (zrs σ c S (nI p) f o)) := by
  unfold f_X11_keyHere
  rw [e_here ht S f o hp, zb_s]
  by_cases h114 : p < n ∧ t p = 114
  · rw [zhc_v h114, if_neg (by decide), if_neg (by decide), if_neg (by decide), if_neg (by decide), if_neg (by decide), if_neg (by decide), if_neg (by decide), if_neg (by decide), if_neg (by decide), if_neg (by decide), if_neg (by decide), if_neg (by decide), if_neg (by decide), if_pos (by decide)]
    exact zRO_c (zp_zKEYS_0 (zlp_no h114)) (e_is (c := c) (k := 0) hF ht S _ _ hp (show 6 < 28 by decide) (by decide) zrt6 (zrtb _ (by decide)))
  by_cases h116 : p < n ∧ t p = 116
  · rw [zhc_v h116, if_neg (by decide), if_neg (by decide), if_neg (by decide), if_neg (by decide), if_neg (by decide), if_neg (by decide), if_neg (by decide), if_neg (by decide), if_neg (by decide), if_neg (by decide), if_neg (by decide), if_neg (by decide), if_neg (by decide), if_neg (by decide), if_neg (by decide), if_pos (by decide)]
    exact zRO_c (zp_zKEYS_3 (zlp_no h116)) (e_is (c := c) (k := 3) hF ht S _ _ hp (show 10 < 28 by decide) (by decide) zrt10 (zrtb _ (by decide)))
  by_cases h104 : p < n ∧ t p = 104
  · rw [zhc_v h104, if_neg (by decide), if_neg (by decide), if_neg (by decide), if_pos (by decide)]
    exact zRO_c (zp_zKEYS_4 (zlp_no h104)) (e_is (c := c) (k := 4) hF ht S _ _ hp (show 11 < 28 by decide) (by decide) zrt11 (zrtb _ (by decide)))
  by_cases h108 : p < n ∧ t p = 108
  · rw [zhc_v h108, if_neg (by decide), if_neg (by decide), if_neg (by decide), if_neg (by decide), if_neg (by decide), if_neg (by decide), if_neg (by decide), if_pos (by decide)]
    exact zRO_c (zp_zKEYS_6 (zlp_no h108)) (e_is (c := c) (k := 6) hF ht S _ _ hp (show 12 < 28 by decide) (by decide) zrt12 (zrtb _ (by decide)))
  by_cases h102 : p < n ∧ t p = 102
  · have hp1 : p + 1 ≤ n := h102.1
    rw [zhc_v h102, if_neg (by decide), if_pos (by decide), zrs_ra, nI_1, zrs_a, e_here ht S f o hp1, zb_s]
    have e5 : ∀ c, c < 256 → (zhc t n (p + 1) = nI c ↔ (p + 1 < n ∧ t (p + 1) = c)) := fun c hc => zhc_eq ht hc
    by_cases k1 : p + 1 < n ∧ t (p + 1) = 101
    · rw [if_pos (show zhc t n (p + 1) = 101 from (e5 101 (by decide)).mpr k1)]
      refine zRO_c (zp_zKEYS_e (zlp_no h102) h102 k1 (fun z => by have := k1.2.symm.trans z.2; omega) (fun z => by have := k1.2.symm.trans z.2; omega)) ?_
      rw [zone_s 1 _ h102]
      exact e_is (c := c) (k := 1) hF ht S _ _ hp1 (show 7 < 28 by decide) (by decide) zrt7 (zrtb _ (by decide))
    · rw [if_neg (show ¬ zhc t n (p + 1) = 101 from fun z => k1 ((e5 101 (by decide)).mp z)), e_here ht S f o hp1, zb_s]
      by_cases k2 : p + 1 < n ∧ t (p + 1) = 114
      · rw [if_pos (show zhc t n (p + 1) = 114 from (e5 114 (by decide)).mpr k2)]
        refine zRO_c (zp_zKEYS_r (zlp_no h102) h102 k1 (fun z => by have := k2.2.symm.trans z.2; omega)) ?_
        rw [zone_s 2 _ h102]
        exact e_is (c := c) (k := 2) hF ht S _ _ hp1 (show 8 < 28 by decide) (by decide) zrt8 (zrtb _ (by decide))
      · rw [if_neg (show ¬ zhc t n (p + 1) = 114 from fun z => k2 ((e5 114 (by decide)).mp z))]
        refine zRO_c (zp_zKEYS_i (zlp_no h102) h102 k1 k2) ?_
        rw [zone_s 5 _ h102]
        exact e_is (c := c) (k := 5) hF ht S _ _ hp1 (show 9 < 28 by decide) (by decide) zrt9 (zrtb _ (by decide))
  have e172 : zRO σ c S n (zpick t n p zKEYS 0 0) (f_X11_keyHere_172 F (zrs σ c S (nI p) f o)) := by
    have main : zRO σ c S n (zone t n p 7 [119, 97, 116, 99, 104]) (f_X11_keyHere_172 F (zrs σ c S (nI p) f o)) := e_is (c := c) (k := 7) hF ht S _ _ hp (show 13 < 28 by decide) (by decide) zrt13 (zrtb _ (by decide))
    by_cases h119 : p < n ∧ t p = 119
    · exact zRO_c (zp_zKEYS_7 (zlp_no h119)) main
    · refine zRO_c ?_ main
      rw [zone_0 7 _ h119]
      exact zpick_f zKEYS 0 0 (zmm ⟨by rw [zlp_0 _ h114]; decide, by rw [zlp_0 _ h114]; decide⟩ (zmm ⟨by rw [zlp_0 _ h102]; decide, by rw [zlp_0 _ h102]; decide⟩ (zmm ⟨by rw [zlp_0 _ h102]; decide, by rw [zlp_0 _ h102]; decide⟩ (zmm ⟨by rw [zlp_0 _ h116]; decide, by rw [zlp_0 _ h116]; decide⟩ (zmm ⟨by rw [zlp_0 _ h104]; decide, by rw [zlp_0 _ h104]; decide⟩ (zmm ⟨by rw [zlp_0 _ h102]; decide, by rw [zlp_0 _ h102]; decide⟩ (zmm ⟨by rw [zlp_0 _ h108]; decide, by rw [zlp_0 _ h108]; decide⟩ (zmm ⟨by rw [zlp_0 _ h119]; decide, by rw [zlp_0 _ h119]; decide⟩ zm0))))))))
  rcases zhc_t (p := p) ht with ⟨z, -⟩ | ⟨b, hb, z, z1, z2⟩
  · rw [z, if_pos (by decide)]
    exact e172
  · by_cases w : (nI b).toInt < 102 ∨ 116 < (nI b).toInt
    · rw [z, if_pos w]
      exact e172
    · rw [nI_toInt (by omega)] at w
      have cs : b = 103 ∨ b = 105 ∨ b = 106 ∨ b = 107 ∨ b = 109 ∨ b = 110 ∨ b = 111 ∨ b = 112 ∨ b = 113 ∨ b = 115 := by
        have a1 : b ≠ 102 := fun y => h102 ⟨z1, z2.trans y⟩
        have a2 : b ≠ 104 := fun y => h104 ⟨z1, z2.trans y⟩
        have a3 : b ≠ 108 := fun y => h108 ⟨z1, z2.trans y⟩
        have a4 : b ≠ 114 := fun y => h114 ⟨z1, z2.trans y⟩
        have a5 : b ≠ 116 := fun y => h116 ⟨z1, z2.trans y⟩
        omega
      rcases cs with y | y | y | y | y | y | y | y | y | y
      · rw [z, y, if_neg (by decide), if_neg (by decide), if_pos (by decide)]
        exact e172
      · rw [z, y, if_neg (by decide), if_neg (by decide), if_neg (by decide), if_neg (by decide), if_pos (by decide)]
        exact e172
      · rw [z, y, if_neg (by decide), if_neg (by decide), if_neg (by decide), if_neg (by decide), if_neg (by decide), if_pos (by decide)]
        exact e172
      · rw [z, y, if_neg (by decide), if_neg (by decide), if_neg (by decide), if_neg (by decide), if_neg (by decide), if_neg (by decide), if_pos (by decide)]
        exact e172
      · rw [z, y, if_neg (by decide), if_neg (by decide), if_neg (by decide), if_neg (by decide), if_neg (by decide), if_neg (by decide), if_neg (by decide), if_neg (by decide), if_pos (by decide)]
        exact e172
      · rw [z, y, if_neg (by decide), if_neg (by decide), if_neg (by decide), if_neg (by decide), if_neg (by decide), if_neg (by decide), if_neg (by decide), if_neg (by decide), if_neg (by decide), if_pos (by decide)]
        exact e172
      · rw [z, y, if_neg (by decide), if_neg (by decide), if_neg (by decide), if_neg (by decide), if_neg (by decide), if_neg (by decide), if_neg (by decide), if_neg (by decide), if_neg (by decide), if_neg (by decide), if_pos (by decide)]
        exact e172
      · rw [z, y, if_neg (by decide), if_neg (by decide), if_neg (by decide), if_neg (by decide), if_neg (by decide), if_neg (by decide), if_neg (by decide), if_neg (by decide), if_neg (by decide), if_neg (by decide), if_neg (by decide), if_pos (by decide)]
        exact e172
      · rw [z, y, if_neg (by decide), if_neg (by decide), if_neg (by decide), if_neg (by decide), if_neg (by decide), if_neg (by decide), if_neg (by decide), if_neg (by decide), if_neg (by decide), if_neg (by decide), if_neg (by decide), if_neg (by decide), if_pos (by decide)]
        exact e172
      · rw [z, y, if_neg (by decide), if_neg (by decide), if_neg (by decide), if_neg (by decide), if_neg (by decide), if_neg (by decide), if_neg (by decide), if_neg (by decide), if_neg (by decide), if_neg (by decide), if_neg (by decide), if_neg (by decide), if_neg (by decide), if_neg (by decide), if_pos (by decide)]
        exact e172
theorem e_field {σ : zMem} {t : Nat → Nat} {n c F : Nat} (hF : 100 < F) (ht : ztR σ t n) (S : Nat → Nat → Int32) {p : Nat} (f o : Int32) (hp : p ≤ n) : zRO σ c S n (zpick t n p zFLDS 0 0) (f_X11_fieldHere F (zrs σ c S (nI p) f o)) := by
  have eq : ∀ q c, c < 256 → (zhc t n q = nI c ↔ (q < n ∧ t q = c)) := fun q c hc => zhc_eq ht hc
  have zz : ∀ {r : Int32 × Nat} {x : Option (Int32 × zMem)}, zRO σ c S n r (zb x fun r m => zg (zbo r) (some (r, m))) → zRO σ c S n r (zb x fun r m => if r = 0 then some (0, m) else some (1, m)) := fun {r x} h => by
    refine ⟨h.1, h.2.elim (fun ⟨k, f', h1, h2, h3⟩ => Or.inl ⟨k, f', h1, h2, ?_⟩) (fun ⟨h1, a', o', h3⟩ => Or.inr ⟨h1, a', o', ?_⟩)⟩
    · rcases x with _ | ⟨y, m⟩
      · cases h3
      · have h3 : zg (zbo y) (some (y, m)) = some (1, zrs σ c S (nI r.2) f' (nI k)) := h3
        show (if y = 0 then some (0, m) else some (1, m)) = _
        by_cases q : zbo y = true
        · rw [zg_i q] at h3
          injection h3 with h4
          injection h4 with h5 h6
          rw [h5, if_neg (by decide), h6]
        · unfold zg at h3
          rw [if_neg q] at h3
          cases h3
    · rcases x with _ | ⟨y, m⟩
      · cases h3
      · have h3 : zg (zbo y) (some (y, m)) = some (0, zrs σ c S a' (nI r.2) o') := h3
        show (if y = 0 then some (0, m) else some (1, m)) = _
        by_cases q : zbo y = true
        · rw [zg_i q] at h3
          injection h3 with h4
          injection h4 with h5 h6
          rw [h5, if_pos rfl, h6]
        · unfold zg at h3
          rw [if_neg q] at h3
          cases h3
  unfold f_X11_fieldHere
  rw [e_here ht S f o hp, zb_s]
  by_cases h99 : p < n ∧ t p = 99
  · rw [if_pos (show zhc t n p = 99 from (eq p 99 (by decide)).mpr h99)]
    exact zRO_c (zp_zFLDS_0 (zlp_no h99)) (e_is (c := c) (k := 0) hF ht S _ _ hp (show 18 < 28 by decide) (by decide) zrt18 (zrtb _ (by decide)))
  rw [if_neg (show ¬ zhc t n p = 99 from fun z => h99 ((eq p 99 (by decide)).mp z))]
  by_cases h115 : p < n ∧ t p = 115
  · rw [if_pos (show zhc t n p = 115 from (eq p 115 (by decide)).mpr h115)]
    exact zRO_c (zp_zFLDS_5 (zlp_no h115)) (e_is (c := c) (k := 5) hF ht S _ _ hp (show 20 < 28 by decide) (by decide) zrt20 (zrtb _ (by decide)))
  rw [if_neg (show ¬ zhc t n p = 115 from fun z => h115 ((eq p 115 (by decide)).mp z))]
  by_cases h121 : p < n ∧ t p = 121
  · rw [if_pos (show zhc t n p = 121 from (eq p 121 (by decide)).mpr h121)]
    exact zRO_c (zp_zFLDS_4 (zlp_no h121)) (e_is (c := c) (k := 4) hF ht S _ _ hp (show 19 < 28 by decide) (by decide) zrt19 (zrtb _ (by decide)))
  rw [if_neg (show ¬ zhc t n p = 121 from fun z => h121 ((eq p 121 (by decide)).mp z))]
  have th := e_text (F := F) (c := c) (j := 21) hF ht S f o hp (by decide) zrt21 (zrtb _ (by decide))
  by_cases h104 : p < n ∧ t p = 104
  rotate_left
  · rw [zlp_0 _ h104, if_neg (by decide), Nat.add_zero] at th
    rw [th, zb_s, if_pos rfl]
    refine zRO_c (zpick_f zFLDS 0 0 (zmm ⟨by rw [zlp_0 _ h99]; decide, by rw [zlp_0 _ h99]; decide⟩ (zmm ⟨by rw [zlp_0 _ h104]; decide, by rw [zlp_0 _ h104]; decide⟩ (zmm ⟨by rw [zlp_0 _ h104]; decide, by rw [zlp_0 _ h104]; decide⟩ (zmm ⟨by rw [zlp_0 _ h104]; decide, by rw [zlp_0 _ h104]; decide⟩ (zmm ⟨by rw [zlp_0 _ h121]; decide, by rw [zlp_0 _ h121]; decide⟩ (zmm ⟨by rw [zlp_0 _ h115]; decide, by rw [zlp_0 _ h115]; decide⟩ zm0))))))) ⟨hp, Or.inr ⟨rfl, nI p, o, rfl⟩⟩
  have hp1 : p + 1 ≤ n := h104.1
  rw [zlp_1 _ h104, if_pos (show 1 + zlp t n [] (p + 1) = [104].length from rfl)] at th
  have th : f_X11_text F (zrs σ c S (nI p) f o) 21 = some (1, zrs σ c S (nI (p + 1)) f o) := th
  rw [th, zb_s, if_neg (by decide), e_here ht S f o hp1, zb_s]
  by_cases h97 : p + 1 < n ∧ t (p + 1) = 97
  · rw [if_pos (show zhc t n (p + 1) = 97 from (eq (p + 1) 97 (by decide)).mpr h97)]
    refine zRO_c (zp_zFLDS_a (zlp_no h104) h104 (fun z => by have := h97.2.symm.trans z.2; omega)) ?_
    rw [zone_s 1 _ h104]
    exact e_is (c := c) (k := 1) hF ht S _ _ hp1 (show 22 < 28 by decide) (by decide) zrt22 (zrtb _ (by decide))
  rw [if_neg (show ¬ zhc t n (p + 1) = 97 from fun z => h97 ((eq (p + 1) 97 (by decide)).mp z))]
  have te := e_text (F := F) (c := c) (j := 23) hF ht S f o hp1 (by decide) zrt23 (zrtb _ (by decide))
  by_cases h101 : p + 1 < n ∧ t (p + 1) = 101
  rotate_left
  · rw [zlp_0 _ h101, if_neg (by decide), Nat.add_zero] at te
    rw [te, zb_s, if_pos rfl]
    refine zRO_c (zp_zFLDS_a (zlp_no h104) h104 h101) ?_
    rw [zone_s 1 _ h104, zone_0 1 _ h97]
    exact ⟨hp1, Or.inr ⟨rfl, nI (p + 1), o, rfl⟩⟩
  have hp2 : p + 1 + 1 ≤ n := h101.1
  by_cases h2 : p + 1 + 1 < n ∧ t (p + 1 + 1) = 97
  rotate_left
  · rw [zlp_1 _ h101, zlp_0 _ h2, if_neg (by decide)] at te
    have te : f_X11_text F (zrs σ c S (nI (p + 1)) f o) 23 = some (0, zrs σ c S (nI (p + 1 + 1)) (nI (p + 1 + 1)) o) := te
    rw [te, zb_s, if_pos rfl]
    refine zRO_c (zp_zFLDS_e (zlp_no h104) h104 h101 h97 h2) ?_
    rw [zone_s 2 _ h104, zone_s 2 _ h101, zone_0 2 _ h2]
    exact ⟨hp2, Or.inr ⟨rfl, nI (p + 1 + 1), o, rfl⟩⟩
  have hp3 : p + 1 + 1 + 1 ≤ n := h2.1
  rw [zlp_1 _ h101, zlp_1 _ h2, if_pos (show 1 + (1 + zlp t n [] (p + 1 + 1 + 1)) = [101, 97].length from rfl)] at te
  have te : f_X11_text F (zrs σ c S (nI (p + 1)) f o) 23 = some (1, zrs σ c S (nI (p + 1 + 1 + 1)) f o) := te
  rw [te, zb_s, if_neg (by decide), e_here ht S f o hp3, zb_s]
  by_cases h100 : p + 1 + 1 + 1 < n ∧ t (p + 1 + 1 + 1) = 100
  · rw [if_pos (show zhc t n (p + 1 + 1 + 1) = 100 from (eq (p + 1 + 1 + 1) 100 (by decide)).mpr h100)]
    refine zRO_c (zp_zFLDS_d (zlp_no h104) h104 h101 h97 h2 (fun z => by have := h100.2.symm.trans z.2; omega)) ?_
    rw [zone_s 2 _ h104, zone_s 2 _ h101, zone_s 2 _ h2]
    exact zz (e_is (c := c) (k := 2) hF ht S _ _ hp3 (show 24 < 28 by decide) (by decide) zrt24 (zrtb _ (by decide)))
  · rw [if_neg (show ¬ zhc t n (p + 1 + 1 + 1) = 100 from fun z => h100 ((eq (p + 1 + 1 + 1) 100 (by decide)).mp z))]
    refine zRO_c (zp_zFLDS_r (zlp_no h104) h104 h101 h97 h2 h100) ?_
    rw [zone_s 3 _ h104, zone_s 3 _ h101, zone_s 3 _ h2]
    exact zz (e_is (c := c) (k := 3) hF ht S _ _ hp3 (show 25 < 28 by decide) (by decide) zrt25 (zrtb _ (by decide)))
