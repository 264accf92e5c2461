theorem zm1_ne {n : Nat} (hn : n < 1000) : ¬ nI n = -1 := fun q => by
  have := congrArg Int32.toInt q
  rw [nI_toInt (by omega)] at this
  have k : (-1 : Int32).toInt = -1 := by decide
  omega
theorem a_parts {σ : zMem} (hR : zRel σ) {F : Nat} (hF : 100 < F) (x c : Int32) : zOK (fun σ => f_X10_parts F σ x c) (fun σ => f_X11_parts F σ x c) σ := by
  obtain ⟨nh, hnh, h1, h2⟩ := zRh_n hR.1
  obtain ⟨⟨n, hn, e1, f1⟩, e2, g3, g4⟩ := id hR.2.1
  have e2 := e2.trans e1
  have p2 := e_X11_partsOf (σ := σ) hF hn e2
  have k2 : ∀ y, f_X11_parts_13 F σ y c = if c < 0 then some (-1, σ) else if 2 < c then some (-1, σ) else some (zsum (zpt σ y c) n, σ) := by
    intro y
    unfold f_X11_parts_13
    rw [e_X11_in]
    by_cases c1 : c < 0
    · simp [c1, zb]
    · by_cases c2 : 2 < c <;> simp [c1, c2, zb, p2]
  have c9 : ¬ c < 0 → (c < 3 ↔ ¬ 2 < c) := fun _ => by
    rw [Int32.lt_iff_toInt_lt, Int32.lt_iff_toInt_lt]
    have t3 : (3 : Int32).toInt = 3 := by decide
    have t2 : (2 : Int32).toInt = 2 := by decide
    omega
  by_cases x1 : x = -1
  · subst x1
    have w := e_X3_whole hR hF hn e1 c
    by_cases c1 : c < 0
    · exact zOK_same hR (-1) (by simp [f_X10_parts, c1]) (by simp only [f_X11_parts, if_true]; rw [k2, if_pos c1])
    by_cases c2 : 2 < c
    · have c3 : ¬ c < 3 := fun q => (c9 c1).mp q c2
      exact zOK_same hR (-1) (by simp [f_X10_parts, c1, c3]) (by simp only [f_X11_parts, if_true]; rw [k2, if_neg c1, if_pos c2])
    have c3 : c < 3 := (c9 c1).mpr c2
    exact zOK_same hR (zsum (zpt σ (-1) c) n) (by simp [f_X10_parts, c1, c3, w, zb]) (by simp only [f_X11_parts, if_true]; rw [k2, if_neg c1, if_neg c2])
  · rcases zix (n := nh) (by omega) x with ⟨h, hh9, rfl, a1, a2, a3, a4⟩ | ⟨_, a⟩
    · have w := e_X3_held hR hF hn e1 (nI h) c x1
      by_cases c1 : c < 0
      · exact zOK_same hR (-1) (by simp [f_X10_parts, c1]) (by simp only [f_X11_parts, if_neg x1]; rw [e_X11_isHouse h2 F a1 a3, zb_s, if_neg (by decide), k2, if_pos c1])
      by_cases c2 : 2 < c
      · have c3 : ¬ c < 3 := fun q => (c9 c1).mp q c2
        exact zOK_same hR (-1) (by simp [f_X10_parts, c1, c3]) (by simp only [f_X11_parts, if_neg x1]; rw [e_X11_isHouse h2 F a1 a3, zb_s, if_neg (by decide), k2, if_neg c1, if_pos c2])
      have c3 : c < 3 := (c9 c1).mpr c2
      refine zOK_same hR (zsum (zpt σ (nI h) c) n) ?_ ?_
      · simp only [f_X10_parts, if_neg c1, if_pos c3, if_neg x1]
        rw [e_X10_isHouse h1 F a1 a2, zb_s, if_neg (by decide), w, zb_s]
      · simp only [f_X11_parts, if_neg x1]
        rw [e_X11_isHouse h2 F a1 a3, zb_s, if_neg (by decide), k2, if_neg c1, if_neg c2]
    · have r2 : f_X11_parts F σ x c = some (-1, σ) := by
        simp only [f_X11_parts, if_neg x1]
        rw [n_X11_isHouse h2 F a, zb_s, if_pos rfl]
      by_cases c1 : c < 0
      · exact zOK_same hR (-1) (by simp [f_X10_parts, c1]) r2
      by_cases c3 : c < 3
      · refine zOK_same hR (-1) ?_ r2
        simp only [f_X10_parts, if_neg c1, if_pos c3, if_neg x1]
        rw [n_X10_isHouse h1 F a, zb_s, if_pos rfl]
      · exact zOK_same hR (-1) (by simp [f_X10_parts, c1, c3]) r2
