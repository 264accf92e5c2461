/-! the tables of names, and the reference's trees -/
def zKEYS : List (List Nat) := [[114, 97, 116, 101], [102, 101, 101, 116], [102, 114, 111, 109], [116, 105, 108, 108], [104, 101, 97, 100, 115], [102, 105, 110, 101], [108, 111, 116], [119, 97, 116, 99, 104]]
def zFLDS : List (List Nat) := [[99, 111, 119, 115], [104, 97, 121], [104, 101, 97, 100, 115], [104, 101, 97, 114, 116, 104, 115], [121, 101, 97, 114], [115, 101, 97, 115, 111, 110]]
def zFLDN : List (List Nat) := [[99, 111, 119, 115], [104, 97, 121], [104, 101, 97, 100, 115], [104, 101, 97, 114, 116, 104, 115], [121, 101, 97, 114], [115, 101, 97, 115, 111, 110], [110, 111, 116]]
def zSGNS : List (List Nat) := [[60], [61], [62]]
def zCOND : List (List Nat) := [[105, 102], [117, 110, 108, 101, 115, 115]]
def zJNTS : List (List Nat) := [[97, 110, 100], [111, 114]]
theorem ztb0 : zSbyt.getD 0 [] = (zflat zKEYS).map nI := by decide +kernel
theorem ztb1 : zSbyt.getD 1 [] = (zflat zCOND).map nI := by decide +kernel
theorem ztb2 : zSbyt.getD 2 [] = (zflat zFLDN).map nI := by decide +kernel
theorem ztb3 : zSbyt.getD 3 [] = (zflat zFLDS).map nI := by decide +kernel
theorem ztb4 : zSbyt.getD 4 [] = (zflat zSGNS).map nI := by decide +kernel
theorem ztb5 : zSbyt.getD 5 [] = (zflat zJNTS).map nI := by decide +kernel
theorem ztbb : ∀ ws, ws ∈ [zKEYS, zFLDS, zFLDN, zSGNS, zCOND, zJNTS] → ∀ w, w ∈ ws → ∀ x, x ∈ w → x < 128 ∧ x ≠ 32 := by decide +kernel
theorem zone_s {t : Nat → Nat} {n p c : Nat} (k : Nat) (w : List Nat) (h : p < n ∧ t p = c) : zone t n p k (c :: w) = zone t n (p + 1) k w := by
  unfold zone
  rw [zlp_1 w h]
  by_cases q : zlp t n w (p + 1) = w.length
  · rw [if_pos q, if_pos (by rw [q, List.length_cons]; omega), List.length_cons, show p + (w.length + 1) = p + 1 + w.length by omega]
  · rw [if_neg q, if_neg (by rw [List.length_cons]; omega), show p + (1 + zlp t n w (p + 1)) = p + 1 + zlp t n w (p + 1) by omega]
theorem zone_0 {t : Nat → Nat} {n p c : Nat} (k : Nat) (w : List Nat) (h : ¬ (p < n ∧ t p = c)) : zone t n p k (c :: w) = (-1, p) := by
  unfold zone
  rw [zlp_0 w h, if_neg (by rw [List.length_cons]; omega)]
  rfl
theorem zpick_f {t : Nat → Nat} {n p : Nat} : ∀ (us : List (List Nat)) (k far : Nat), (∀ w, w ∈ us → zlp t n w p < w.length ∧ zlp t n w p ≤ far) → zpick t n p us k far = (-1, p + far)
  | [], _, _, _ => rfl
  | w :: us, k, far, h => by
    obtain ⟨h1, h2⟩ := h w (List.mem_cons_self ..)
    show (if zlp t n w p = w.length then (nI k, p + w.length) else zpick t n p us (k + 1) (max far (zlp t n w p))) = _
    rw [if_neg (by omega), Nat.max_eq_left h2, zpick_f us (k + 1) far fun w hw => h w (List.mem_cons_of_mem _ hw)]
theorem zpick_1 {t : Nat → Nat} {n p : Nat} (w : List Nat) (vs : List (List Nat)) (h2 : ∀ v, v ∈ vs → zlp t n v p < v.length ∧ zlp t n v p ≤ zlp t n w p) : ∀ (us : List (List Nat)) (k far : Nat), far ≤ zlp t n w p → (∀ v, v ∈ us → zlp t n v p < v.length ∧ zlp t n v p ≤ zlp t n w p) → zpick t n p (us ++ w :: vs) k far = zone t n p (k + us.length) w
  | [], k, far, hf, _ => by
    show (if zlp t n w p = w.length then (nI k, p + w.length) else zpick t n p vs (k + 1) (max far (zlp t n w p))) = _
    unfold zone
    by_cases q : zlp t n w p = w.length
    · rw [if_pos q, if_pos q]
      rfl
    · rw [if_neg q, if_neg q, Nat.max_eq_right hf, zpick_f vs _ _ h2]
  | u :: us, k, far, hf, h1 => by
    obtain ⟨q1, q2⟩ := h1 u (List.mem_cons_self ..)
    show (if zlp t n u p = u.length then (nI k, p + u.length) else zpick t n p (us ++ w :: vs) (k + 1) (max far (zlp t n u p))) = _
    rw [if_neg (by omega), zpick_1 w vs h2 us (k + 1) _ (Nat.max_le.mpr ⟨hf, q2⟩) fun v hv => h1 v (List.mem_cons_of_mem _ hv), List.length_cons, show k + 1 + us.length = k + (us.length + 1) by omega]
theorem zmm {P : List Nat → Prop} {a : List Nat} {l : List (List Nat)} (h1 : P a) (h2 : ∀ w, w ∈ l → P w) : ∀ w, w ∈ a :: l → P w := fun w hw => (List.mem_cons.mp hw).elim (fun z => z ▸ h1) (h2 w)
theorem zm0 {P : List Nat → Prop} : ∀ w, w ∈ ([] : List (List Nat)) → P w := fun _ h => absurd h List.not_mem_nil

theorem zp_zKEYS_0 {t : Nat → Nat} {n p : Nat} (ne : ∀ c w, c ≠ 114 → zlp t n (c :: w) p = 0) : zpick t n p zKEYS 0 0 = zone t n p 0 [114, 97, 116, 101] :=
  zpick_1 [114, 97, 116, 101] [[102, 101, 101, 116], [102, 114, 111, 109], [116, 105, 108, 108], [104, 101, 97, 100, 115], [102, 105, 110, 101], [108, 111, 116], [119, 97, 116, 99, 104]] (zmm ⟨by rw [ne 102 _ (by decide)]; decide, by rw [ne 102 _ (by decide)]; exact Nat.zero_le _⟩ (zmm ⟨by rw [ne 102 _ (by decide)]; decide, by rw [ne 102 _ (by decide)]; exact Nat.zero_le _⟩ (zmm ⟨by rw [ne 116 _ (by decide)]; decide, by rw [ne 116 _ (by decide)]; exact Nat.zero_le _⟩ (zmm ⟨by rw [ne 104 _ (by decide)]; decide, by rw [ne 104 _ (by decide)]; exact Nat.zero_le _⟩ (zmm ⟨by rw [ne 102 _ (by decide)]; decide, by rw [ne 102 _ (by decide)]; exact Nat.zero_le _⟩ (zmm ⟨by rw [ne 108 _ (by decide)]; decide, by rw [ne 108 _ (by decide)]; exact Nat.zero_le _⟩ (zmm ⟨by rw [ne 119 _ (by decide)]; decide, by rw [ne 119 _ (by decide)]; exact Nat.zero_le _⟩ zm0))))))) [] 0 0 (Nat.zero_le _) zm0

theorem zp_zKEYS_3 {t : Nat → Nat} {n p : Nat} (ne : ∀ c w, c ≠ 116 → zlp t n (c :: w) p = 0) : zpick t n p zKEYS 0 0 = zone t n p 3 [116, 105, 108, 108] :=
  zpick_1 [116, 105, 108, 108] [[104, 101, 97, 100, 115], [102, 105, 110, 101], [108, 111, 116], [119, 97, 116, 99, 104]] (zmm ⟨by rw [ne 104 _ (by decide)]; decide, by rw [ne 104 _ (by decide)]; exact Nat.zero_le _⟩ (zmm ⟨by rw [ne 102 _ (by decide)]; decide, by rw [ne 102 _ (by decide)]; exact Nat.zero_le _⟩ (zmm ⟨by rw [ne 108 _ (by decide)]; decide, by rw [ne 108 _ (by decide)]; exact Nat.zero_le _⟩ (zmm ⟨by rw [ne 119 _ (by decide)]; decide, by rw [ne 119 _ (by decide)]; exact Nat.zero_le _⟩ zm0)))) [[114, 97, 116, 101], [102, 101, 101, 116], [102, 114, 111, 109]] 0 0 (Nat.zero_le _) (zmm ⟨by rw [ne 114 _ (by decide)]; decide, by rw [ne 114 _ (by decide)]; exact Nat.zero_le _⟩ (zmm ⟨by rw [ne 102 _ (by decide)]; decide, by rw [ne 102 _ (by decide)]; exact Nat.zero_le _⟩ (zmm ⟨by rw [ne 102 _ (by decide)]; decide, by rw [ne 102 _ (by decide)]; exact Nat.zero_le _⟩ zm0)))

theorem zp_zKEYS_4 {t : Nat → Nat} {n p : Nat} (ne : ∀ c w, c ≠ 104 → zlp t n (c :: w) p = 0) : zpick t n p zKEYS 0 0 = zone t n p 4 [104, 101, 97, 100, 115] :=
  zpick_1 [104, 101, 97, 100, 115] [[102, 105, 110, 101], [108, 111, 116], [119, 97, 116, 99, 104]] (zmm ⟨by rw [ne 102 _ (by decide)]; decide, by rw [ne 102 _ (by decide)]; exact Nat.zero_le _⟩ (zmm ⟨by rw [ne 108 _ (by decide)]; decide, by rw [ne 108 _ (by decide)]; exact Nat.zero_le _⟩ (zmm ⟨by rw [ne 119 _ (by decide)]; decide, by rw [ne 119 _ (by decide)]; exact Nat.zero_le _⟩ zm0))) [[114, 97, 116, 101], [102, 101, 101, 116], [102, 114, 111, 109], [116, 105, 108, 108]] 0 0 (Nat.zero_le _) (zmm ⟨by rw [ne 114 _ (by decide)]; decide, by rw [ne 114 _ (by decide)]; exact Nat.zero_le _⟩ (zmm ⟨by rw [ne 102 _ (by decide)]; decide, by rw [ne 102 _ (by decide)]; exact Nat.zero_le _⟩ (zmm ⟨by rw [ne 102 _ (by decide)]; decide, by rw [ne 102 _ (by decide)]; exact Nat.zero_le _⟩ (zmm ⟨by rw [ne 116 _ (by decide)]; decide, by rw [ne 116 _ (by decide)]; exact Nat.zero_le _⟩ zm0))))

theorem zp_zKEYS_6 {t : Nat → Nat} {n p : Nat} (ne : ∀ c w, c ≠ 108 → zlp t n (c :: w) p = 0) : zpick t n p zKEYS 0 0 = zone t n p 6 [108, 111, 116] :=
  zpick_1 [108, 111, 116] [[119, 97, 116, 99, 104]] (zmm ⟨by rw [ne 119 _ (by decide)]; decide, by rw [ne 119 _ (by decide)]; exact Nat.zero_le _⟩ zm0) [[114, 97, 116, 101], [102, 101, 101, 116], [102, 114, 111, 109], [116, 105, 108, 108], [104, 101, 97, 100, 115], [102, 105, 110, 101]] 0 0 (Nat.zero_le _) (zmm ⟨by rw [ne 114 _ (by decide)]; decide, by rw [ne 114 _ (by decide)]; exact Nat.zero_le _⟩ (zmm ⟨by rw [ne 102 _ (by decide)]; decide, by rw [ne 102 _ (by decide)]; exact Nat.zero_le _⟩ (zmm ⟨by rw [ne 102 _ (by decide)]; decide, by rw [ne 102 _ (by decide)]; exact Nat.zero_le _⟩ (zmm ⟨by rw [ne 116 _ (by decide)]; decide, by rw [ne 116 _ (by decide)]; exact Nat.zero_le _⟩ (zmm ⟨by rw [ne 104 _ (by decide)]; decide, by rw [ne 104 _ (by decide)]; exact Nat.zero_le _⟩ (zmm ⟨by rw [ne 102 _ (by decide)]; decide, by rw [ne 102 _ (by decide)]; exact Nat.zero_le _⟩ zm0))))))

theorem zp_zKEYS_7 {t : Nat → Nat} {n p : Nat} (ne : ∀ c w, c ≠ 119 → zlp t n (c :: w) p = 0) : zpick t n p zKEYS 0 0 = zone t n p 7 [119, 97, 116, 99, 104] :=
  zpick_1 [119, 97, 116, 99, 104] [] zm0 [[114, 97, 116, 101], [102, 101, 101, 116], [102, 114, 111, 109], [116, 105, 108, 108], [104, 101, 97, 100, 115], [102, 105, 110, 101], [108, 111, 116]] 0 0 (Nat.zero_le _) (zmm ⟨by rw [ne 114 _ (by decide)]; decide, by rw [ne 114 _ (by decide)]; exact Nat.zero_le _⟩ (zmm ⟨by rw [ne 102 _ (by decide)]; decide, by rw [ne 102 _ (by decide)]; exact Nat.zero_le _⟩ (zmm ⟨by rw [ne 102 _ (by decide)]; decide, by rw [ne 102 _ (by decide)]; exact Nat.zero_le _⟩ (zmm ⟨by rw [ne 116 _ (by decide)]; decide, by rw [ne 116 _ (by decide)]; exact Nat.zero_le _⟩ (zmm ⟨by rw [ne 104 _ (by decide)]; decide, by rw [ne 104 _ (by decide)]; exact Nat.zero_le _⟩ (zmm ⟨by rw [ne 102 _ (by decide)]; decide, by rw [ne 102 _ (by decide)]; exact Nat.zero_le _⟩ (zmm ⟨by rw [ne 108 _ (by decide)]; decide, by rw [ne 108 _ (by decide)]; exact Nat.zero_le _⟩ zm0)))))))

theorem zp_zFLDS_0 {t : Nat → Nat} {n p : Nat} (ne : ∀ c w, c ≠ 99 → zlp t n (c :: w) p = 0) : zpick t n p zFLDS 0 0 = zone t n p 0 [99, 111, 119, 115] :=
  zpick_1 [99, 111, 119, 115] [[104, 97, 121], [104, 101, 97, 100, 115], [104, 101, 97, 114, 116, 104, 115], [121, 101, 97, 114], [115, 101, 97, 115, 111, 110]] (zmm ⟨by rw [ne 104 _ (by decide)]; decide, by rw [ne 104 _ (by decide)]; exact Nat.zero_le _⟩ (zmm ⟨by rw [ne 104 _ (by decide)]; decide, by rw [ne 104 _ (by decide)]; exact Nat.zero_le _⟩ (zmm ⟨by rw [ne 104 _ (by decide)]; decide, by rw [ne 104 _ (by decide)]; exact Nat.zero_le _⟩ (zmm ⟨by rw [ne 121 _ (by decide)]; decide, by rw [ne 121 _ (by decide)]; exact Nat.zero_le _⟩ (zmm ⟨by rw [ne 115 _ (by decide)]; decide, by rw [ne 115 _ (by decide)]; exact Nat.zero_le _⟩ zm0))))) [] 0 0 (Nat.zero_le _) zm0

theorem zp_zFLDS_4 {t : Nat → Nat} {n p : Nat} (ne : ∀ c w, c ≠ 121 → zlp t n (c :: w) p = 0) : zpick t n p zFLDS 0 0 = zone t n p 4 [121, 101, 97, 114] :=
  zpick_1 [121, 101, 97, 114] [[115, 101, 97, 115, 111, 110]] (zmm ⟨by rw [ne 115 _ (by decide)]; decide, by rw [ne 115 _ (by decide)]; exact Nat.zero_le _⟩ zm0) [[99, 111, 119, 115], [104, 97, 121], [104, 101, 97, 100, 115], [104, 101, 97, 114, 116, 104, 115]] 0 0 (Nat.zero_le _) (zmm ⟨by rw [ne 99 _ (by decide)]; decide, by rw [ne 99 _ (by decide)]; exact Nat.zero_le _⟩ (zmm ⟨by rw [ne 104 _ (by decide)]; decide, by rw [ne 104 _ (by decide)]; exact Nat.zero_le _⟩ (zmm ⟨by rw [ne 104 _ (by decide)]; decide, by rw [ne 104 _ (by decide)]; exact Nat.zero_le _⟩ (zmm ⟨by rw [ne 104 _ (by decide)]; decide, by rw [ne 104 _ (by decide)]; exact Nat.zero_le _⟩ zm0))))

theorem zp_zFLDS_5 {t : Nat → Nat} {n p : Nat} (ne : ∀ c w, c ≠ 115 → zlp t n (c :: w) p = 0) : zpick t n p zFLDS 0 0 = zone t n p 5 [115, 101, 97, 115, 111, 110] :=
  zpick_1 [115, 101, 97, 115, 111, 110] [] zm0 [[99, 111, 119, 115], [104, 97, 121], [104, 101, 97, 100, 115], [104, 101, 97, 114, 116, 104, 115], [121, 101, 97, 114]] 0 0 (Nat.zero_le _) (zmm ⟨by rw [ne 99 _ (by decide)]; decide, by rw [ne 99 _ (by decide)]; exact Nat.zero_le _⟩ (zmm ⟨by rw [ne 104 _ (by decide)]; decide, by rw [ne 104 _ (by decide)]; exact Nat.zero_le _⟩ (zmm ⟨by rw [ne 104 _ (by decide)]; decide, by rw [ne 104 _ (by decide)]; exact Nat.zero_le _⟩ (zmm ⟨by rw [ne 104 _ (by decide)]; decide, by rw [ne 104 _ (by decide)]; exact Nat.zero_le _⟩ (zmm ⟨by rw [ne 121 _ (by decide)]; decide, by rw [ne 121 _ (by decide)]; exact Nat.zero_le _⟩ zm0)))))

theorem zp_zFLDN_6 {t : Nat → Nat} {n p : Nat} (ne : ∀ c w, c ≠ 110 → zlp t n (c :: w) p = 0) : zpick t n p zFLDN 0 0 = zone t n p 6 [110, 111, 116] :=
  zpick_1 [110, 111, 116] [] zm0 [[99, 111, 119, 115], [104, 97, 121], [104, 101, 97, 100, 115], [104, 101, 97, 114, 116, 104, 115], [121, 101, 97, 114], [115, 101, 97, 115, 111, 110]] 0 0 (Nat.zero_le _) (zmm ⟨by rw [ne 99 _ (by decide)]; decide, by rw [ne 99 _ (by decide)]; exact Nat.zero_le _⟩ (zmm ⟨by rw [ne 104 _ (by decide)]; decide, by rw [ne 104 _ (by decide)]; exact Nat.zero_le _⟩ (zmm ⟨by rw [ne 104 _ (by decide)]; decide, by rw [ne 104 _ (by decide)]; exact Nat.zero_le _⟩ (zmm ⟨by rw [ne 104 _ (by decide)]; decide, by rw [ne 104 _ (by decide)]; exact Nat.zero_le _⟩ (zmm ⟨by rw [ne 121 _ (by decide)]; decide, by rw [ne 121 _ (by decide)]; exact Nat.zero_le _⟩ (zmm ⟨by rw [ne 115 _ (by decide)]; decide, by rw [ne 115 _ (by decide)]; exact Nat.zero_le _⟩ zm0))))))

theorem zp_zCOND_0 {t : Nat → Nat} {n p : Nat} (ne : ∀ c w, c ≠ 105 → zlp t n (c :: w) p = 0) : zpick t n p zCOND 0 0 = zone t n p 0 [105, 102] :=
  zpick_1 [105, 102] [[117, 110, 108, 101, 115, 115]] (zmm ⟨by rw [ne 117 _ (by decide)]; decide, by rw [ne 117 _ (by decide)]; exact Nat.zero_le _⟩ zm0) [] 0 0 (Nat.zero_le _) zm0

theorem zp_zCOND_1 {t : Nat → Nat} {n p : Nat} (ne : ∀ c w, c ≠ 117 → zlp t n (c :: w) p = 0) : zpick t n p zCOND 0 0 = zone t n p 1 [117, 110, 108, 101, 115, 115] :=
  zpick_1 [117, 110, 108, 101, 115, 115] [] zm0 [[105, 102]] 0 0 (Nat.zero_le _) (zmm ⟨by rw [ne 105 _ (by decide)]; decide, by rw [ne 105 _ (by decide)]; exact Nat.zero_le _⟩ zm0)

theorem zp_zJNTS_0 {t : Nat → Nat} {n p : Nat} (ne : ∀ c w, c ≠ 97 → zlp t n (c :: w) p = 0) : zpick t n p zJNTS 0 0 = zone t n p 0 [97, 110, 100] :=
  zpick_1 [97, 110, 100] [[111, 114]] (zmm ⟨by rw [ne 111 _ (by decide)]; decide, by rw [ne 111 _ (by decide)]; exact Nat.zero_le _⟩ zm0) [] 0 0 (Nat.zero_le _) zm0

theorem zp_zJNTS_1 {t : Nat → Nat} {n p : Nat} (ne : ∀ c w, c ≠ 111 → zlp t n (c :: w) p = 0) : zpick t n p zJNTS 0 0 = zone t n p 1 [111, 114] :=
  zpick_1 [111, 114] [] zm0 [[97, 110, 100]] 0 0 (Nat.zero_le _) (zmm ⟨by rw [ne 97 _ (by decide)]; decide, by rw [ne 97 _ (by decide)]; exact Nat.zero_le _⟩ zm0)

theorem zp_zSGNS_0 {t : Nat → Nat} {n p : Nat} (ne : ∀ c w, c ≠ 60 → zlp t n (c :: w) p = 0) : zpick t n p zSGNS 0 0 = zone t n p 0 [60] :=
  zpick_1 [60] [[61], [62]] (zmm ⟨by rw [ne 61 _ (by decide)]; decide, by rw [ne 61 _ (by decide)]; exact Nat.zero_le _⟩ (zmm ⟨by rw [ne 62 _ (by decide)]; decide, by rw [ne 62 _ (by decide)]; exact Nat.zero_le _⟩ zm0)) [] 0 0 (Nat.zero_le _) zm0

theorem zp_zSGNS_1 {t : Nat → Nat} {n p : Nat} (ne : ∀ c w, c ≠ 61 → zlp t n (c :: w) p = 0) : zpick t n p zSGNS 0 0 = zone t n p 1 [61] :=
  zpick_1 [61] [[62]] (zmm ⟨by rw [ne 62 _ (by decide)]; decide, by rw [ne 62 _ (by decide)]; exact Nat.zero_le _⟩ zm0) [[60]] 0 0 (Nat.zero_le _) (zmm ⟨by rw [ne 60 _ (by decide)]; decide, by rw [ne 60 _ (by decide)]; exact Nat.zero_le _⟩ zm0)

theorem zp_zSGNS_2 {t : Nat → Nat} {n p : Nat} (ne : ∀ c w, c ≠ 62 → zlp t n (c :: w) p = 0) : zpick t n p zSGNS 0 0 = zone t n p 2 [62] :=
  zpick_1 [62] [] zm0 [[60], [61]] 0 0 (Nat.zero_le _) (zmm ⟨by rw [ne 60 _ (by decide)]; decide, by rw [ne 60 _ (by decide)]; exact Nat.zero_le _⟩ (zmm ⟨by rw [ne 61 _ (by decide)]; decide, by rw [ne 61 _ (by decide)]; exact Nat.zero_le _⟩ zm0))

theorem zp_zKEYS_e {t : Nat → Nat} {n p : Nat} (ne : ∀ c w, c ≠ 102 → zlp t n (c :: w) p = 0) (h0 : p < n ∧ t p = 102) (h1 : p + 1 < n ∧ t (p + 1) = 101) (nr : ¬ (p + 1 < n ∧ t (p + 1) = 114)) (ni : ¬ (p + 1 < n ∧ t (p + 1) = 105)) : zpick t n p zKEYS 0 0 = zone t n p 1 [102, 101, 101, 116] := by
  have efeet : zlp t n [102, 101, 101, 116] p = 1 + (zlp t n [101, 101, 116] (p + 1)) := by rw [zlp_1 _ h0]
  have efrom : zlp t n [102, 114, 111, 109] p = 1 + (0) := by rw [zlp_1 _ h0, zlp_0 _ nr]
  have efine : zlp t n [102, 105, 110, 101] p = 1 + (0) := by rw [zlp_1 _ h0, zlp_0 _ ni]
  exact zpick_1 [102, 101, 101, 116] [[102, 114, 111, 109], [116, 105, 108, 108], [104, 101, 97, 100, 115], [102, 105, 110, 101], [108, 111, 116], [119, 97, 116, 99, 104]] (zmm ⟨Nat.lt_of_le_of_lt (Nat.le_of_eq efrom) (by decide), by have ea := efrom; have eb := efeet; omega⟩ (zmm ⟨by rw [ne 116 _ (by decide)]; decide, by rw [ne 116 _ (by decide)]; exact Nat.zero_le _⟩ (zmm ⟨by rw [ne 104 _ (by decide)]; decide, by rw [ne 104 _ (by decide)]; exact Nat.zero_le _⟩ (zmm ⟨Nat.lt_of_le_of_lt (Nat.le_of_eq efine) (by decide), by have ea := efine; have eb := efeet; omega⟩ (zmm ⟨by rw [ne 108 _ (by decide)]; decide, by rw [ne 108 _ (by decide)]; exact Nat.zero_le _⟩ (zmm ⟨by rw [ne 119 _ (by decide)]; decide, by rw [ne 119 _ (by decide)]; exact Nat.zero_le _⟩ zm0)))))) [[114, 97, 116, 101]] 0 0 (Nat.zero_le _) (zmm ⟨by rw [ne 114 _ (by decide)]; decide, by rw [ne 114 _ (by decide)]; exact Nat.zero_le _⟩ zm0)

theorem zp_zKEYS_r {t : Nat → Nat} {n p : Nat} (ne : ∀ c w, c ≠ 102 → zlp t n (c :: w) p = 0) (h0 : p < n ∧ t p = 102) (ne1 : ¬ (p + 1 < n ∧ t (p + 1) = 101)) (ni : ¬ (p + 1 < n ∧ t (p + 1) = 105)) : zpick t n p zKEYS 0 0 = zone t n p 2 [102, 114, 111, 109] := by
  have efeet : zlp t n [102, 101, 101, 116] p = 1 + (0) := by rw [zlp_1 _ h0, zlp_0 _ ne1]
  have efrom : zlp t n [102, 114, 111, 109] p = 1 + (zlp t n [114, 111, 109] (p + 1)) := by rw [zlp_1 _ h0]
  have efine : zlp t n [102, 105, 110, 101] p = 1 + (0) := by rw [zlp_1 _ h0, zlp_0 _ ni]
  exact zpick_1 [102, 114, 111, 109] [[116, 105, 108, 108], [104, 101, 97, 100, 115], [102, 105, 110, 101], [108, 111, 116], [119, 97, 116, 99, 104]] (zmm ⟨by rw [ne 116 _ (by decide)]; decide, by rw [ne 116 _ (by decide)]; exact Nat.zero_le _⟩ (zmm ⟨by rw [ne 104 _ (by decide)]; decide, by rw [ne 104 _ (by decide)]; exact Nat.zero_le _⟩ (zmm ⟨Nat.lt_of_le_of_lt (Nat.le_of_eq efine) (by decide), by have ea := efine; have eb := efrom; omega⟩ (zmm ⟨by rw [ne 108 _ (by decide)]; decide, by rw [ne 108 _ (by decide)]; exact Nat.zero_le _⟩ (zmm ⟨by rw [ne 119 _ (by decide)]; decide, by rw [ne 119 _ (by decide)]; exact Nat.zero_le _⟩ zm0))))) [[114, 97, 116, 101], [102, 101, 101, 116]] 0 0 (Nat.zero_le _) (zmm ⟨by rw [ne 114 _ (by decide)]; decide, by rw [ne 114 _ (by decide)]; exact Nat.zero_le _⟩ (zmm ⟨Nat.lt_of_le_of_lt (Nat.le_of_eq efeet) (by decide), by have ea := efeet; have eb := efrom; omega⟩ zm0))

theorem zp_zKEYS_i {t : Nat → Nat} {n p : Nat} (ne : ∀ c w, c ≠ 102 → zlp t n (c :: w) p = 0) (h0 : p < n ∧ t p = 102) (ne1 : ¬ (p + 1 < n ∧ t (p + 1) = 101)) (nr : ¬ (p + 1 < n ∧ t (p + 1) = 114)) : zpick t n p zKEYS 0 0 = zone t n p 5 [102, 105, 110, 101] := by
  have efeet : zlp t n [102, 101, 101, 116] p = 1 + (0) := by rw [zlp_1 _ h0, zlp_0 _ ne1]
  have efrom : zlp t n [102, 114, 111, 109] p = 1 + (0) := by rw [zlp_1 _ h0, zlp_0 _ nr]
  have efine : zlp t n [102, 105, 110, 101] p = 1 + (zlp t n [105, 110, 101] (p + 1)) := by rw [zlp_1 _ h0]
  exact zpick_1 [102, 105, 110, 101] [[108, 111, 116], [119, 97, 116, 99, 104]] (zmm ⟨by rw [ne 108 _ (by decide)]; decide, by rw [ne 108 _ (by decide)]; exact Nat.zero_le _⟩ (zmm ⟨by rw [ne 119 _ (by decide)]; decide, by rw [ne 119 _ (by decide)]; exact Nat.zero_le _⟩ zm0)) [[114, 97, 116, 101], [102, 101, 101, 116], [102, 114, 111, 109], [116, 105, 108, 108], [104, 101, 97, 100, 115]] 0 0 (Nat.zero_le _) (zmm ⟨by rw [ne 114 _ (by decide)]; decide, by rw [ne 114 _ (by decide)]; exact Nat.zero_le _⟩ (zmm ⟨Nat.lt_of_le_of_lt (Nat.le_of_eq efeet) (by decide), by have ea := efeet; have eb := efine; omega⟩ (zmm ⟨Nat.lt_of_le_of_lt (Nat.le_of_eq efrom) (by decide), by have ea := efrom; have eb := efine; omega⟩ (zmm ⟨by rw [ne 116 _ (by decide)]; decide, by rw [ne 116 _ (by decide)]; exact Nat.zero_le _⟩ (zmm ⟨by rw [ne 104 _ (by decide)]; decide, by rw [ne 104 _ (by decide)]; exact Nat.zero_le _⟩ zm0)))))

theorem zp_zFLDS_a {t : Nat → Nat} {n p : Nat} (ne : ∀ c w, c ≠ 104 → zlp t n (c :: w) p = 0) (h0 : p < n ∧ t p = 104) (ne1 : ¬ (p + 1 < n ∧ t (p + 1) = 101)) : zpick t n p zFLDS 0 0 = zone t n p 1 [104, 97, 121] := by
  have ehay : zlp t n [104, 97, 121] p = 1 + (zlp t n [97, 121] (p + 1)) := by rw [zlp_1 _ h0]
  have eheads : zlp t n [104, 101, 97, 100, 115] p = 1 + (0) := by rw [zlp_1 _ h0, zlp_0 _ ne1]
  have ehearths : zlp t n [104, 101, 97, 114, 116, 104, 115] p = 1 + (0) := by rw [zlp_1 _ h0, zlp_0 _ ne1]
  exact zpick_1 [104, 97, 121] [[104, 101, 97, 100, 115], [104, 101, 97, 114, 116, 104, 115], [121, 101, 97, 114], [115, 101, 97, 115, 111, 110]] (zmm ⟨Nat.lt_of_le_of_lt (Nat.le_of_eq eheads) (by decide), by have ea := eheads; have eb := ehay; omega⟩ (zmm ⟨Nat.lt_of_le_of_lt (Nat.le_of_eq ehearths) (by decide), by have ea := ehearths; have eb := ehay; omega⟩ (zmm ⟨by rw [ne 121 _ (by decide)]; decide, by rw [ne 121 _ (by decide)]; exact Nat.zero_le _⟩ (zmm ⟨by rw [ne 115 _ (by decide)]; decide, by rw [ne 115 _ (by decide)]; exact Nat.zero_le _⟩ zm0)))) [[99, 111, 119, 115]] 0 0 (Nat.zero_le _) (zmm ⟨by rw [ne 99 _ (by decide)]; decide, by rw [ne 99 _ (by decide)]; exact Nat.zero_le _⟩ zm0)

theorem zp_zFLDS_e {t : Nat → Nat} {n p : Nat} (ne : ∀ c w, c ≠ 104 → zlp t n (c :: w) p = 0) (h0 : p < n ∧ t p = 104) (h1 : p + 1 < n ∧ t (p + 1) = 101) (na : ¬ (p + 1 < n ∧ t (p + 1) = 97)) (n2 : ¬ (p + 1 + 1 < n ∧ t (p + 1 + 1) = 97)) : zpick t n p zFLDS 0 0 = zone t n p 2 [104, 101, 97, 100, 115] := by
  have ehay : zlp t n [104, 97, 121] p = 1 + (0) := by rw [zlp_1 _ h0, zlp_0 _ na]
  have eheads : zlp t n [104, 101, 97, 100, 115] p = 1 + (1 + (0)) := by rw [zlp_1 _ h0, zlp_1 _ h1, zlp_0 _ n2]
  have ehearths : zlp t n [104, 101, 97, 114, 116, 104, 115] p = 1 + (1 + (0)) := by rw [zlp_1 _ h0, zlp_1 _ h1, zlp_0 _ n2]
  exact zpick_1 [104, 101, 97, 100, 115] [[104, 101, 97, 114, 116, 104, 115], [121, 101, 97, 114], [115, 101, 97, 115, 111, 110]] (zmm ⟨Nat.lt_of_le_of_lt (Nat.le_of_eq ehearths) (by decide), by have ea := ehearths; have eb := eheads; omega⟩ (zmm ⟨by rw [ne 121 _ (by decide)]; decide, by rw [ne 121 _ (by decide)]; exact Nat.zero_le _⟩ (zmm ⟨by rw [ne 115 _ (by decide)]; decide, by rw [ne 115 _ (by decide)]; exact Nat.zero_le _⟩ zm0))) [[99, 111, 119, 115], [104, 97, 121]] 0 0 (Nat.zero_le _) (zmm ⟨by rw [ne 99 _ (by decide)]; decide, by rw [ne 99 _ (by decide)]; exact Nat.zero_le _⟩ (zmm ⟨Nat.lt_of_le_of_lt (Nat.le_of_eq ehay) (by decide), by have ea := ehay; have eb := eheads; omega⟩ zm0))

theorem zp_zFLDS_d {t : Nat → Nat} {n p : Nat} (ne : ∀ c w, c ≠ 104 → zlp t n (c :: w) p = 0) (h0 : p < n ∧ t p = 104) (h1 : p + 1 < n ∧ t (p + 1) = 101) (na : ¬ (p + 1 < n ∧ t (p + 1) = 97)) (h2 : p + 1 + 1 < n ∧ t (p + 1 + 1) = 97) (n3 : ¬ (p + 1 + 1 + 1 < n ∧ t (p + 1 + 1 + 1) = 114)) : zpick t n p zFLDS 0 0 = zone t n p 2 [104, 101, 97, 100, 115] := by
  have ehay : zlp t n [104, 97, 121] p = 1 + (0) := by rw [zlp_1 _ h0, zlp_0 _ na]
  have eheads : zlp t n [104, 101, 97, 100, 115] p = 1 + (1 + (1 + (zlp t n [100, 115] (p + 1 + 1 + 1)))) := by rw [zlp_1 _ h0, zlp_1 _ h1, zlp_1 _ h2]
  have ehearths : zlp t n [104, 101, 97, 114, 116, 104, 115] p = 1 + (1 + (1 + (0))) := by rw [zlp_1 _ h0, zlp_1 _ h1, zlp_1 _ h2, zlp_0 _ n3]
  exact zpick_1 [104, 101, 97, 100, 115] [[104, 101, 97, 114, 116, 104, 115], [121, 101, 97, 114], [115, 101, 97, 115, 111, 110]] (zmm ⟨Nat.lt_of_le_of_lt (Nat.le_of_eq ehearths) (by decide), by have ea := ehearths; have eb := eheads; omega⟩ (zmm ⟨by rw [ne 121 _ (by decide)]; decide, by rw [ne 121 _ (by decide)]; exact Nat.zero_le _⟩ (zmm ⟨by rw [ne 115 _ (by decide)]; decide, by rw [ne 115 _ (by decide)]; exact Nat.zero_le _⟩ zm0))) [[99, 111, 119, 115], [104, 97, 121]] 0 0 (Nat.zero_le _) (zmm ⟨by rw [ne 99 _ (by decide)]; decide, by rw [ne 99 _ (by decide)]; exact Nat.zero_le _⟩ (zmm ⟨Nat.lt_of_le_of_lt (Nat.le_of_eq ehay) (by decide), by have ea := ehay; have eb := eheads; omega⟩ zm0))

theorem zp_zFLDS_r {t : Nat → Nat} {n p : Nat} (ne : ∀ c w, c ≠ 104 → zlp t n (c :: w) p = 0) (h0 : p < n ∧ t p = 104) (h1 : p + 1 < n ∧ t (p + 1) = 101) (na : ¬ (p + 1 < n ∧ t (p + 1) = 97)) (h2 : p + 1 + 1 < n ∧ t (p + 1 + 1) = 97) (n3 : ¬ (p + 1 + 1 + 1 < n ∧ t (p + 1 + 1 + 1) = 100)) : zpick t n p zFLDS 0 0 = zone t n p 3 [104, 101, 97, 114, 116, 104, 115] := by
  have ehay : zlp t n [104, 97, 121] p = 1 + (0) := by rw [zlp_1 _ h0, zlp_0 _ na]
  have eheads : zlp t n [104, 101, 97, 100, 115] p = 1 + (1 + (1 + (0))) := by rw [zlp_1 _ h0, zlp_1 _ h1, zlp_1 _ h2, zlp_0 _ n3]
  have ehearths : zlp t n [104, 101, 97, 114, 116, 104, 115] p = 1 + (1 + (1 + (zlp t n [114, 116, 104, 115] (p + 1 + 1 + 1)))) := by rw [zlp_1 _ h0, zlp_1 _ h1, zlp_1 _ h2]
  exact zpick_1 [104, 101, 97, 114, 116, 104, 115] [[121, 101, 97, 114], [115, 101, 97, 115, 111, 110]] (zmm ⟨by rw [ne 121 _ (by decide)]; decide, by rw [ne 121 _ (by decide)]; exact Nat.zero_le _⟩ (zmm ⟨by rw [ne 115 _ (by decide)]; decide, by rw [ne 115 _ (by decide)]; exact Nat.zero_le _⟩ zm0)) [[99, 111, 119, 115], [104, 97, 121], [104, 101, 97, 100, 115]] 0 0 (Nat.zero_le _) (zmm ⟨by rw [ne 99 _ (by decide)]; decide, by rw [ne 99 _ (by decide)]; exact Nat.zero_le _⟩ (zmm ⟨Nat.lt_of_le_of_lt (Nat.le_of_eq ehay) (by decide), by have ea := ehay; have eb := ehearths; omega⟩ (zmm ⟨Nat.lt_of_le_of_lt (Nat.le_of_eq eheads) (by decide), by have ea := eheads; have eb := ehearths; omega⟩ zm0)))

theorem zlp_no {t : Nat → Nat} {n p c0 : Nat} (h : p < n ∧ t p = c0) : ∀ c w, c ≠ c0 → zlp t n (c :: w) p = 0 := fun _ w hc => zlp_0 w fun z => hc (z.2.symm.trans h.2)
theorem zpick_z {t : Nat → Nat} {n p : Nat} {w : List Nat} (e : zlp t n w p = 0) (hw : ¬ 0 = w.length) : ∀ (us : List (List Nat)) (k far : Nat), zpick t n p (us ++ [w]) k far = zpick t n p us k far
  | [], k, far => by
    show (if zlp t n w p = w.length then (nI k, p + w.length) else (-1, p + max far (zlp t n w p))) = (-1, p + far)
    rw [e, if_neg hw, Nat.max_zero]
  | u :: us, k, far => by
    show (if zlp t n u p = u.length then (nI k, p + u.length) else zpick t n p (us ++ [w]) (k + 1) (max far (zlp t n u p))) = (if zlp t n u p = u.length then (nI k, p + u.length) else zpick t n p us (k + 1) (max far (zlp t n u p)))
    rw [zpick_z e hw us]
/-- with no n at p the longer table of fields is the shorter one -/
theorem zp_fldn {t : Nat → Nat} {n p : Nat} (h : ¬ (p < n ∧ t p = 110)) : zpick t n p zFLDN 0 0 = zpick t n p zFLDS 0 0 :=
  zpick_z (w := [110, 111, 116]) (zlp_0 _ h) (by decide) zFLDS 0 0

