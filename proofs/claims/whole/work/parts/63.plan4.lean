/-- one alp fed house by house -/
theorem e_246 {σ : zMem} {G S : Nat → Int32} {a n F : Nat} (hF : 100 < F) (ha : a < 4) (hn : n ≤ 10) (e1 : σ.1 60 0 1 = nI n) (eg : σ.1 60 0 28 = nI 113) (eu : σ.1 60 0 11 = nI 115) (r194 : zMem → Int32 × Nat × Nat × Nat × Int32 × Int32 → Option (Int32 × zMem)) (r234 : zMem → Int32 × Nat × Nat × Nat × Int32 × Int32 × Int32 → Option (Int32 × zMem)) (nd k dd : Int32) : zit (f_X11_tried_246 F r194 r234) F (zrq σ G S) (nd, 89, 90, 71, k, dd, nI a, 0) = r234 (zrq σ (zup1 G a (zff (fun h => σ.1 116 a h) (G a, k) n).1) S) (nd, 89, 90, 71, (zff (fun h => σ.1 116 a h) (G a, k) n).2, dd, nI a + 1) := by
  have i1 := inb_n ha (show 4 < 100000 by decide)
  have i2 := nI_clamp (show a < 2 ^ 31 by omega)
  have t4 : zdG 89 = true := by decide
  have t5 : zdS 90 = true := by decide
  have t6 : zdU 71 = true := by decide
  have t7 : (nI 115).toNatClampNeg = 115 := by decide
  have t8 : zdU 115 = true := by decide
  obtain ⟨Z, hZ⟩ : ∃ Z, Z = zff (fun h => σ.1 116 a h) (G a, k) := ⟨_, rfl⟩
  have Z0 : Z 0 = (G a, k) := by rw [hZ]; rfl
  have Zs : ∀ h, Z (h + 1) = ((Z h).1 - 3 * zmin (σ.1 116 a h) ((Z h).1 / 3), (Z h).2 + (σ.1 116 a h - zmin (σ.1 116 a h) ((Z h).1 / 3))) := fun h => by rw [hZ]; rfl
  rw [← hZ]
  refine zit_m (fun m s x => ∃ h, h ≤ n ∧ m = n - h ∧ s = zrq σ (zup1 G a (Z h).1) S ∧ x = (nd, 89, 90, 71, (Z h).2, dd, nI a, nI h)) _ ?_ F n _ _ ⟨0, by omega, rfl, by rw [Z0, zupq_id], by rw [Z0, nI_0]⟩ (by omega)
  rintro m s x ⟨h, hh, rfl, rfl, rfl⟩
  have r1 : (zrq σ (zup1 G a (Z h).1) S).1 60 0 1 = nI n := (zrq_o σ _ S (by omega)).trans e1
  have ru : (zrq σ (zup1 G a (Z h).1) S).1 60 0 11 = nI 115 := (zrq_o σ _ S (by omega)).trans eu
  by_cases q : h = n
  · subst q
    refine Or.inl fun rec => ?_
    unfold f_X11_tried_246
    simp only
    rw [zg_i t4, zg_i t5, zg_i t6, r1, if_pos (Int32.le_refl _)]
  · have i3 := inb_n (show h < 10 by omega) (show 10 < 100000 by decide)
    have i4 := nI_clamp (show h < 2 ^ 31 by omega)
    refine Or.inr ⟨n - (h + 1), zrq σ (zup1 G a (Z (h + 1)).1) S, (nd, 89, 90, 71, (Z (h + 1)).2, dd, nI a, nI (h + 1)), by omega, ⟨h + 1, by omega, rfl, rfl, rfl⟩, fun rec => ?_⟩
    have fd := e_feedQ (σ := σ) (G := zup1 G a (Z h).1) (S := S) (h := h) (F := F) ha (by omega) eg eu
    rw [zupq_i] at fd
    have up : zup1 (zup1 G a (Z h).1) a ((Z h).1 - 3 * zmin (σ.1 116 a h) ((Z h).1 / 3)) = zup1 G a ((Z h).1 - 3 * zmin (σ.1 116 a h) ((Z h).1 / 3)) := by
      funext j
      show (if j = a then _ else (if j = a then _ else G j)) = (if j = a then _ else G j)
      by_cases c : j = a
      · rw [if_pos c, if_pos c]
      · rw [if_neg c, if_neg c, if_neg c]
    rw [up] at fd
    have r6 : (zrq σ (zup1 G a (Z h).1) S).1 116 a h = σ.1 116 a h := zrq_o σ _ S (by omega)
    unfold f_X11_tried_246
    simp only
    rw [zg_i t4, zg_i t5, zg_i t6, r1, if_neg (nle_s (by omega) (by omega)), ru, t7, zg_i t8, zg_i i1, zg_i i3, fd, zb_s, i2, i4]
    show rec _ (nd, 89, 90, 71, (Z h).2 + ((zrq σ (zup1 G a (Z h).1) S).1 116 a h - zmin (σ.1 116 a h) ((Z h).1 / 3)), dd, nI a, nI h + 1) = _
    rw [r6, Zs, nI_1]
