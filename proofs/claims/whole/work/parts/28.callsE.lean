/-- PARTS of right r as they count for house h (-1: all) and common c -/
def zpt (σ : zMem) (h c : Int32) (r : Nat) : Int32 := if zcom (σ.1 73 0 r) = c ∧ (h = -1 ∨ zho σ r = h) then σ.1 75 0 r else 0
theorem zsum_1 {f : Nat → Int32} {j : Nat} {v : Int32} (h : f j = v) : zsum f j + v = zsum f (j + 1) := by
  subst h
  rfl
theorem e_X11_partsOf {σ : zMem} {F n : Nat} (hF : 100 < F) (hn : n ≤ 50) (e : σ.1 60 0 12 = nI n) (h c : Int32) : f_X11_partsOf F σ h c = some (zsum (zpt σ h c) n, σ) := by
  unfold f_X11_partsOf
  refine zit_for (S := fun i => (σ, (h, c, zsum (zpt σ h c) i, nI i))) _ n 0 F (fun j _ hj rec => ?_) (fun rec => ?_) (by omega)
  · unfold f_X11_partsOf_5
    simp only
    have i1 := inb_n (show j < 50 by omega) (by omega)
    have i2 := nI_clamp (show j < 2 ^ 31 by omega)
    rw [e, if_neg (nle_s (by omega) (by omega)), zg_i i1, i2, e_X11_commonOf, zb_s]
    by_cases k1 : zcom (σ.1 73 0 j) = c
    · rw [if_pos k1]
      by_cases k2 : h = -1
      · rw [if_pos k2]
        unfold f_X11_partsOf_44
        rw [zg_i i1, i2, nI_1, zsum_1 (f := zpt σ h c) (by simp [zpt, k1, k2])]
      · rw [if_neg k2, e_X11_holder F (by omega), zb_s]
        by_cases k3 : zho σ j = h
        · rw [if_pos k3]
          unfold f_X11_partsOf_44
          rw [zg_i i1, i2, nI_1, zsum_1 (f := zpt σ h c) (by simp [zpt, k1, k3])]
        · rw [if_neg k3, nI_1, zsum_1 (f := zpt σ h c) (by simp [zpt, k2, k3])]
    · rw [if_neg k1, nI_1, zsum_1 (f := zpt σ h c) (by simp [zpt, k1])]
  · unfold f_X11_partsOf_5
    simp only
    rw [e, Nat.zero_add, if_pos ((nI_leI (by omega) (by omega)).mpr (Nat.le_refl _))]
theorem e_X3_whole {σ : zMem} (hR : zRel σ) {F n : Nat} (hF : 100 < F) (hn : n ≤ 50) (e : σ.1 5 0 5 = nI n) (c : Int32) : f_X3_whole F σ c = some (zsum (zpt σ (-1) c) n, σ) := by
  obtain ⟨-, -, g3, g4⟩ := id hR.2.1
  unfold f_X3_whole
  refine zit_for (S := fun i => (σ, (c, zsum (zpt σ (-1) c) i, nI i))) _ n 0 F (fun j _ hj rec => ?_) (fun rec => ?_) (by omega)
  · obtain ⟨q1, q2, q3, -⟩ := g3 j (by omega)
    obtain ⟨k1, k2, -⟩ := g4 j (by omega)
    unfold f_X3_whole_4
    simp only
    have i1 := inb_n (show j < 50 by omega) (by omega)
    have i2 := nI_clamp (show j < 2 ^ 31 by omega)
    rw [e, if_neg (nle_s (by omega) (by omega)), e_X3_commonOf F (by omega) (by rw [q1]; exact k1) (by rw [q1]; exact k2), zb_s, q1]
    by_cases k1 : zcom (σ.1 73 0 j) = c
    · rw [if_pos k1, zg_i i1, i2, nI_1, zsum_1 (f := zpt σ (-1) c) (by simp [zpt, k1, q3])]
    · rw [if_neg k1, nI_1]
      have := zsum_1 (f := zpt σ (-1) c) (j := j) (v := 0) (by simp [zpt, k1])
      rw [← this]
      simp
  · unfold f_X3_whole_4
    simp only
    rw [e, Nat.zero_add, if_pos ((nI_leI (by omega) (by omega)).mpr (Nat.le_refl _))]
theorem e_X3_held {σ : zMem} (hR : zRel σ) {F n : Nat} (hF : 100 < F) (hn : n ≤ 50) (e : σ.1 5 0 5 = nI n) (h c : Int32) (hh : ¬ h = -1) : f_X3_held F σ h c (σ.1 0 0 11) = some (zsum (zpt σ h c) n, σ) := by
  obtain ⟨-, -, g3, g4⟩ := id hR.2.1
  unfold f_X3_held
  refine zit_for (S := fun i => (σ, (h, c, σ.1 0 0 11, zsum (zpt σ h c) i, nI i))) _ n 0 F (fun j _ hj rec => ?_) (fun rec => ?_) (by omega)
  · obtain ⟨q1, q2, q3, -⟩ := g3 j (by omega)
    obtain ⟨k1, k2, -⟩ := g4 j (by omega)
    unfold f_X3_held_6
    simp only
    have i1 := inb_n (show j < 50 by omega) (by omega)
    have i2 := nI_clamp (show j < 2 ^ 31 by omega)
    rw [e, if_neg (nle_s (by omega) (by omega)), e_X3_commonOf F (by omega) (by rw [q1]; exact k1) (by rw [q1]; exact k2), zb_s, q1]
    by_cases k1 : zcom (σ.1 73 0 j) = c
    · rw [if_pos k1, e_X3_holder hR F (by omega), zb_s]
      by_cases k3 : zho σ j = h
      · rw [if_pos k3, zg_i i1, i2, nI_1, zsum_1 (f := zpt σ h c) (by simp [zpt, k1, k3, q3])]
      · rw [if_neg k3, nI_1]
        have := zsum_1 (f := zpt σ h c) (j := j) (v := 0) (by simp [zpt, hh, k3])
        rw [← this]
        simp
    · rw [if_neg k1, nI_1]
      have := zsum_1 (f := zpt σ h c) (j := j) (v := 0) (by simp [zpt, k1])
      rw [← this]
      simp
  · unfold f_X3_held_6
    simp only
    rw [e, Nat.zero_add, if_pos ((nI_leI (by omega) (by omega)).mpr (Nat.le_refl _))]
