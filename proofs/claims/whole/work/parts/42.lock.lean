/-! class and reference in step: the class's functions read and write cells below 60 alone, so a run of hers and then one of the reference can be looked at piece by piece -/
theorem zmx_back {σ τ : zMem} (h : zmx σ τ = τ) : σ = zmx τ σ := by
  rw [← h, zmx_l, zmx_self]
theorem zM_keep {α : Type} {σ ρ : zMem} {r : α} (h : some (r, ρ) = zM σ (some (r, ρ))) : zmx ρ σ = ρ := by
  have h2 : some (r, ρ) = some (r, zmx ρ σ) := h
  injection h2 with h3
  injection h3 with h4 h5
  exact h5.symm
theorem zY_keep {α : Type} {σ ρ : zMem} {r : α} (h : some (r, ρ) = zY σ (some (r, ρ))) : zmx σ ρ = ρ := by
  have h2 : some (r, ρ) = some (r, zmx σ ρ) := h
  injection h2 with h3
  injection h3 with h4 h5
  exact h5.symm
def zJ {α β : Type} (Q : α → β → zMem → Prop) (f : zMem → Option (α × zMem)) (g : zMem → Option (β × zMem)) (σ : zMem) : Prop := ∃ r s σ1 σ2, f σ = some (r, σ1) ∧ g σ1 = some (s, σ2) ∧ Q r s σ2
theorem zlock {tl tl2 α β : Type} {b : (zMem → tl → Option (α × zMem)) → zMem → tl → Option (α × zMem)} {b2 : (zMem → tl2 → Option (β × zMem)) → zMem → tl2 → Option (β × zMem)} (a0 : α) (b0 : β)
    (hb : ∀ τ (r r2 : zMem → tl → Option (α × zMem)), (∀ s y, r (zmx s τ) y = zM τ (r2 s y)) → ∀ s y, b r (zmx s τ) y = zM τ (b r2 s y))
    (hb2 : ∀ τ (r r2 : zMem → tl2 → Option (β × zMem)), (∀ s y, r (zmx τ s) y = zY τ (r2 s y)) → ∀ s y, b2 r (zmx τ s) y = zY τ (b2 r2 s y))
    (I : Nat → zMem → tl → tl2 → Prop) (Q : α → β → zMem → Prop)
    (hs : ∀ m τ x y, I m τ x y → (∃ r s σ1 σ2, (∀ rec, b rec τ x = some (r, σ1)) ∧ (∀ rec, b2 rec σ1 y = some (s, σ2)) ∧ Q r s σ2) ∨ (∃ m' x' y' σ1 σ2, m' < m ∧ (∀ rec, b rec τ x = rec σ1 x') ∧ (∀ rec, b2 rec σ1 y = rec σ2 y') ∧ I m' σ2 x' y')) :
    ∀ F m τ x y, m < F → I m τ x y → zJ Q (fun σ => zit b F σ x) (fun σ => zit b2 F σ y) τ
  | 0, _, _, _, _, h, _ => by omega
  | F + 1, m, τ, x, y, hF, hI => by
    rcases hs m τ x y hI with ⟨r, s, σ1, σ2, h1, h2, h3⟩ | ⟨m', x', y', σ1, σ2, hm, h1, h2, h3⟩
    · exact ⟨r, s, σ1, σ2, h1 _, h2 _, h3⟩
    · obtain ⟨r, s, ρ1, ρ2, k1, k2, k3⟩ := zlock a0 b0 hb hb2 I Q hs F m' σ2 x' y' (by omega) h3
      have k1 : zit b F σ2 x' = some (r, ρ1) := k1
      have k2 : zit b2 F ρ1 y' = some (s, ρ2) := k2
      have e2 : zmx σ1 σ2 = σ2 := by
        have := hb2 σ1 (fun s _ => some (b0, s)) (fun s _ => some (b0, s)) (fun _ _ => rfl) σ1 y
        rw [zmx_self, h2] at this
        exact zY_keep this
      have e1 : σ1 = zmx σ2 σ1 := zmx_back e2
      have e3 : zmx ρ1 σ2 = ρ1 := by
        have := x_it σ2 (hb σ2) F σ2 x'
        rw [zmx_self, k1] at this
        exact zM_keep this
      refine ⟨r, s, zmx ρ1 σ1, ρ2, ?_, ?_, k3⟩
      · show b (zit b F) τ x = _
        rw [h1, e1]
        have := x_it (zmx σ2 σ1) (hb (zmx σ2 σ1)) F σ2 x'
        rw [zmx_r, k1] at this
        rw [this]
        show some (r, zmx ρ1 (zmx σ2 σ1)) = _
        rfl
      · show b2 (zit b2 F) (zmx ρ1 σ1) y = _
        rw [hb2 ρ1 (zit b2 F) (zit b2 F) (y_it ρ1 (hb2 ρ1) F) σ1 y, h2, ← y_it ρ1 (hb2 ρ1) F, e3]
        exact k2
theorem zseq {α β α2 β2 : Type} {Q : α → β → zMem → Prop} {Q2 : α2 → β2 → zMem → Prop} {f : zMem → Option (α × zMem)} {g : zMem → Option (β × zMem)} {f2 : α → zMem → Option (α2 × zMem)} {g2 : β → zMem → Option (β2 × zMem)} {σ : zMem}
    (hg : ∀ τ s, g (zmx τ s) = zY τ (g s)) (hf2 : ∀ r τ s, f2 r (zmx s τ) = zM τ (f2 r s))
    (h : zJ Q f g σ) (h2 : ∀ r s τ, Q r s τ → zJ Q2 (f2 r) (g2 s) τ) : zJ Q2 (fun σ => zb (f σ) f2) (fun σ => zb (g σ) g2) σ := by
  obtain ⟨r, s, σ1, σ2, k1, k2, k3⟩ := h
  obtain ⟨r', s', σ3, σ4, l1, l2, l3⟩ := h2 r s σ2 k3
  have e2 : zmx σ1 σ2 = σ2 := by
    have := hg σ1 σ1
    rw [zmx_self, k2] at this
    exact zY_keep this
  have e3 : zmx σ3 σ2 = σ3 := by
    have := hf2 r σ2 σ2
    rw [zmx_self, l1] at this
    exact zM_keep this
  refine ⟨r', s', zmx σ3 σ1, σ4, ?_, ?_, l3⟩
  · show zb (f σ) f2 = _
    rw [k1, zb_s]
    have := hf2 r σ1 σ2
    rw [← zmx_back e2, l1] at this
    rw [this]
    rfl
  · show zb (g (zmx σ3 σ1)) g2 = _
    rw [hg, k2]
    show zb (some (s, zmx σ3 σ2)) g2 = _
    rw [e3, zb_s, l2]
theorem zJ_ok {f g : zMem → Option (Int32 × zMem)} {σ : zMem} (h : zJ (fun r s τ => r = s ∧ zRel τ) f g σ) : zOK f g σ := by
  obtain ⟨r, s, σ1, σ2, h1, h2, rfl, h3⟩ := h
  exact ⟨r, σ1, σ2, h1, h2, h3⟩
theorem zl4 {x : Int32} : x.toInt64 / 4 = (x / 4).toInt64 := by
  apply Int64.toInt_inj.mp
  have k4 : (4 : Int64).toInt = 4 := by decide
  have k5 : (4 : Int32).toInt = 4 := rfl
  rw [Int64.toInt_div_of_ne_right _ _ (by decide), Int32.toInt_toInt64, Int32.toInt_toInt64, Int32.toInt_div_of_ne_right _ _ (by decide), k4, k5]
theorem zl_i (x : Int32) : x.toInt64.toInt32 = x := by
  apply Int32.toInt_inj.mp
  have h1 := Int32.toInt_lt x
  have h2 := Int32.le_toInt x
  rw [Int64.toInt_toInt32, Int32.toInt_toInt64, Int.bmod_eq_of_le (by omega) (by omega)]
theorem zl_none (x : Int32) : ¬ x.toInt64 = -9000000000 := fun q => by
  have h := congrArg Int64.toInt q
  rw [Int32.toInt_toInt64] at h
  have k : (-9000000000 : Int64).toInt = -9000000000 := by decide
  have h2 := Int32.le_toInt x
  omega
/-- the days of sky() in step -/
theorem j_sky {σ : zMem} (hR : zRel σ) {F d w t i n : Nat} (hF : 100 < F) (hd : d + n ≤ 7200) (hw : w < 2) (ht : t < 3) (hi : i + n ≤ 60) : zJ (fun r s τ => r = s ∧ zRel τ) (fun σ => zit (f_X10_sky_104 F) F σ (nI d, nI w, nI i, nI n, t, 0, 0)) (fun σ => zit (f_X11_sky_114 F) F σ (nI d, nI w, nI t, nI i, nI n, 0, 0)) σ := by
  refine zlock (0 : Int32) (0 : Int32) (fun τ r r2 h s y => x_X10_sky_104 τ F r r2 s y h) (fun τ r r2 h s y => y_X11_sky_114 τ F r r2 s y h)
    (fun m τ x y => zRel τ ∧ ∃ j c, j ≤ n ∧ m = n - j ∧ x = (nI d, nI w, nI i, nI n, t, c, nI j) ∧ y = (nI d, nI w, nI t, nI i, nI n, c, nI j)) _ ?_ F n σ _ _ (by omega) ⟨hR, 0, 0, by omega, by omega, rfl, rfl⟩
  rintro m τ x y ⟨hτ, j, c, hj, rfl, rfl, rfl⟩
  have gt : (decide (t < 3)) = true := by simp; omega
  have i1 := inb_n hw (by omega)
  have i2 := nI_clamp (show w < 2 ^ 31 by omega)
  have i3 := inb_n ht (by omega)
  have i4 := nI_clamp (show t < 2 ^ 31 by omega)
  by_cases e : j = n
  · subst e
    refine Or.inl ⟨c, c, τ, τ, fun rec => ?_, fun rec => ?_, rfl, hτ⟩
    · unfold f_X10_sky_104
      simp only
      rw [zg_i gt, if_pos (Int32.le_refl _)]
    · unfold f_X11_sky_114
      simp only
      rw [if_pos (Int32.le_refl _)]
  have hjn : ¬ nI n ≤ nI j := nle_s (by omega) (by omega)
  have a1 : nI i + nI j = nI (i + j) := nI_add i j
  have a2 : nI d + nI j = nI (d + j) := nI_add d j
  have i5 := inb_n (show i + j < 60 by omega) (by omega)
  have i6 := nI_clamp (show i + j < 2 ^ 31 by omega)
  have i7 := inb_n (show d + j < 7200 by omega) (by omega)
  have i8 := nI_clamp (show d + j < 2 ^ 31 by omega)
  rcases (hτ.2.2.2.2.2.2.2.2.1 t ht).2.2.2.2.2 (i + j) (by omega) with ⟨k1, k2⟩ | ⟨k1, k2⟩
  · -- no number
    refine Or.inr ⟨n - (j + 1), _, _, τ, τ, by omega, fun rec => ?_, fun rec => ?_, hτ, j + 1, c, by omega, rfl, rfl, rfl⟩
    · unfold f_X10_sky_104
      simp only
      rw [zg_i gt, if_neg hjn, a1, zg_i i5, i6, k2, if_pos ((lg_cmp_eq _ _).mpr rfl), nI_1]
    · unfold f_X11_sky_114
      simp only
      rw [if_neg hjn, zg_i i3, a1, zg_i i5, zg_i (by decide), zg_i i3, zg_i i5, i4, i6, k1, if_neg (by decide), nI_1]
  · rcases e_X5_fits hw F τ (τ.1 107 t (i + j) / 4) with ⟨f1, f2, f3⟩ | ⟨f1, f2, f3⟩
    · refine Or.inr ⟨n - (j + 1), _, _, ztc τ w (d + j) (τ.1 107 t (i + j) / 4), ztr (ztc τ w (d + j) (τ.1 107 t (i + j) / 4)) w (d + j) (τ.1 107 t (i + j) / 4), by omega, fun rec => ?_, fun rec => ?_, p_tell hτ hw (by omega) f1, j + 1, c + 1, by omega, rfl, rfl, rfl⟩
      · unfold f_X10_sky_104
        simp only
        rw [zg_i gt, if_neg hjn, a1, zg_i i5, i6, k2, if_neg (fun q => zl_none _ ((lg_cmp_eq _ _).mp q)), zg_i (by decide), zl4, f2, zb_s, if_neg (by decide), zg_i (by decide), zl_i, a2, e_X5_tell hw (by omega) f1, zb_s, nI_1]
      · have zc : ∀ k a b, 60 ≤ k → (ztc τ w (d + j) (τ.1 107 t (i + j) / 4)).1 k a b = τ.1 k a b := by
          intro k a b hk
          unfold ztc
          split <;> simp [zwi, zu, show ¬ k = 22 by omega, show ¬ k = 24 by omega]
        have f4 : f_X11_isSky F (ztc τ w (d + j) (τ.1 107 t (i + j) / 4)) (nI w) (τ.1 107 t (i + j) / 4) = some (1, ztc τ w (d + j) (τ.1 107 t (i + j) / 4)) := by
          rcases e_X5_fits hw F (ztc τ w (d + j) (τ.1 107 t (i + j) / 4)) (τ.1 107 t (i + j) / 4) with ⟨_, _, h⟩ | ⟨h, _⟩
          · exact h
          · exact absurd f1 h
        unfold f_X11_sky_114
        simp only
        rw [if_neg hjn, zg_i i3, a1, zg_i i5, zg_i (by decide), zg_i i3, zg_i i5, i4, i6, zc 109 _ _ (by omega), zc 107 _ _ (by omega), if_pos k1, f4, zb_s, if_neg (by decide), zg_i i1, a2, zg_i i7, zg_i i1, zg_i (by rw [i7]; rfl), i2, i8, nI_1]
        rfl
    · refine Or.inr ⟨n - (j + 1), _, _, τ, τ, by omega, fun rec => ?_, fun rec => ?_, hτ, j + 1, c, by omega, rfl, rfl, rfl⟩
      · unfold f_X10_sky_104
        simp only
        rw [zg_i gt, if_neg hjn, a1, zg_i i5, i6, k2, if_neg (fun q => zl_none _ ((lg_cmp_eq _ _).mp q)), zg_i (by decide), zl4, f2, zb_s, if_pos rfl, nI_1]
      · unfold f_X11_sky_114
        simp only
        rw [if_neg hjn, zg_i i3, a1, zg_i i5, zg_i (by decide), zg_i i3, zg_i i5, i4, i6, if_pos k1, f3, zb_s, if_pos rfl, nI_1]
/-- whether a SHEET of n items holds b from item a on -/
theorem a_holdsn {σ : zMem} {t n : Nat} (ht : t < 3) (hn : n ≤ 60) (e : σ.1 47 t 1 = nI n) (F : Nat) (a b : Int32) : (∃ i j, i + j ≤ n ∧ a = nI i ∧ b = nI j ∧ f_X4_holds F σ t a b = some (1, σ) ∧ lg_cmp (a.toInt64 + b.toInt64) (nI n).toInt64 ≤ 0) ∨ (f_X4_holds F σ t a b = some (0, σ) ∧ (a < 0 ∨ b < 0 ∨ ¬ a < 0 ∧ ¬ b < 0 ∧ ¬ lg_cmp (a.toInt64 + b.toInt64) (nI n).toInt64 ≤ 0)) := by
  have gt : (decide (t < 3)) = true := by simp; omega
  unfold f_X4_holds
  rw [zg_i gt, e]
  by_cases a0 : a < 0
  · exact Or.inr ⟨if_pos a0, Or.inl a0⟩
  by_cases b0 : b < 0
  · exact Or.inr ⟨by rw [if_neg a0, if_pos b0], Or.inr (Or.inl b0)⟩
  obtain ⟨i, hi, rfl⟩ := nI_of a0
  obtain ⟨j, hj, rfl⟩ := nI_of b0
  have d1 : (nI n - nI i).toInt = (n : Int) - i := by
    rw [t_sub (by rw [nI_toInt (by omega), nI_toInt hi]; omega) (by rw [nI_toInt (by omega), nI_toInt hi]; omega), nI_toInt (by omega), nI_toInt hi]
  have d2 : (lg_cmp ((nI i).toInt64 + (nI j).toInt64) (nI n).toInt64 ≤ 0) ↔ i + j ≤ n := by
    rw [lg_cmp_le, nI_l hi, nI_l hj, nI_l (by omega), lN_add, pk_lLE (by omega) (by omega)]
  by_cases c : i + j ≤ n
  · refine Or.inl ⟨i, j, c, rfl, rfl, ?_, d2.mpr c⟩
    rw [if_neg a0, if_neg b0, if_neg]
    rw [Int32.lt_iff_toInt_lt, d1, nI_toInt hj]
    omega
  · refine Or.inr ⟨?_, Or.inr (Or.inr ⟨a0, b0, fun q => c (d2.mp q)⟩)⟩
    rw [if_neg a0, if_neg b0, if_pos]
    rw [Int32.lt_iff_toInt_lt, d1, nI_toInt hj]
    omega
theorem a_sky {σ : zMem} (hR : zRel σ) {F : Nat} (hF : 100 < F) (x y z u v : Int32) : zOK (fun σ => f_X10_sky F σ x y z u v) (fun σ => f_X11_sky F σ x y z u v) σ := by
  rcases (a_has (σ := σ) F x y).symm with ⟨q1, q2⟩ | ⟨d, w, hd, hw, rfl, rfl, q1, q2, q3⟩
  · refine zOK_same hR (-1) ?_ ?_
    · simp only [f_X10_sky]
      rw [q1, zb_s, if_pos rfl]
    · simp only [f_X11_sky]
      rcases q2 with q2 | ⟨q2, q3⟩
      · rw [q2, zb_s, if_pos rfl]
      · rw [q2, zb_s, if_neg (by decide), q3, zb_s, if_pos rfl]
  rcases (a_isSheet F z).symm with ⟨r1, r2⟩ | ⟨t, ht, rfl, r1, r2⟩
  · refine zOK_same hR (-1) ?_ ?_
    · simp only [f_X10_sky]
      rw [q1, zb_s, if_neg (by decide), r1, zb_s, if_pos rfl]
    · simp only [f_X11_sky]
      rw [q2, zb_s, if_neg (by decide), q3, zb_s, if_neg (by decide), r2, zb_s, if_pos rfl]
  have i1 := inb_n ht (by omega)
  have i2 := nI_clamp (show t < 2 ^ 31 by omega)
  have gt : (decide (t < 3)) = true := by simp; omega
  have s10 : ∀ r, (if v < 0 then some (-2, σ) else if v ≤ 7200 - nI d then (if v = 0 then some (0, σ) else zg (inb (nI t) 3) (if σ.1 47 t 0 = -1 then f_X10_sky_71 F σ (nI d) (nI w) u v t else if σ.1 47 t 0 = 2 then f_X10_sky_71 F σ (nI d) (nI w) u v t else some (-13, σ))) else some (-2, σ)) = r → f_X10_sky F σ (nI d) (nI w) (nI t) u v = r := by
    intro r h
    simp only [f_X10_sky]
    rw [q1, zb_s, if_neg (by decide), r1, zb_s, if_neg (by decide), i2]
    exact h
  have s11 : ∀ r, (if v < 0 then some (-2, σ) else if v ≤ 7200 - nI d then (if v = 0 then some (0, σ) else zg (inb (nI t) 3) (if σ.1 104 0 t = -1 then some (-11, σ) else zg (inb (nI t) 3) (if σ.1 104 0 t = 2 then (if u < 0 then some (-12, σ) else zg (inb (nI t) 3) (if lg_cmp (u.toInt64 + v.toInt64) (σ.1 105 0 t).toInt64 ≤ 0 then zit (f_X11_sky_114 F) F σ (nI d, nI w, nI t, u, v, 0, 0) else some (-12, σ))) else some (-13, σ)))) else some (-2, σ)) = r → f_X11_sky F σ (nI d) (nI w) (nI t) u v = r := by
    intro r h
    simp only [f_X11_sky]
    rw [q2, zb_s, if_neg (by decide), q3, zb_s, if_neg (by decide), r2, zb_s, if_neg (by decide), i2]
    exact h
  by_cases v0 : v < 0
  · exact zOK_same hR (-2) (s10 _ (if_pos v0)) (s11 _ (if_pos v0))
  by_cases v1 : ¬ v ≤ 7200 - nI d
  · exact zOK_same hR (-2) (s10 _ (by rw [if_neg v0, if_neg v1])) (s11 _ (by rw [if_neg v0, if_neg v1]))
  have v1 := Decidable.not_not.mp v1
  by_cases v2 : v = 0
  · exact zOK_same hR 0 (s10 _ (by rw [if_neg v0, if_pos v1, if_pos v2])) (s11 _ (by rw [if_neg v0, if_pos v1, if_pos v2]))
  obtain ⟨k1, k2, k3, k4, ⟨n, hn, k5⟩, k6⟩ := hR.2.2.2.2.2.2.2.2.1 t ht
  have k4 := k4.trans k5
  by_cases m : σ.1 104 0 t = -1
  · refine zOK_same hR (-11) (s10 _ ?_) (s11 _ ?_)
    · rw [if_neg v0, if_pos v1, if_neg v2, zg_i i1, k1, if_pos m]
      unfold f_X10_sky_71
      rw [zg_i gt, k1, if_pos m]
    · rw [if_neg v0, if_pos v1, if_neg v2, zg_i i1, if_pos m]
  by_cases m2 : ¬ σ.1 104 0 t = 2
  · refine zOK_same hR (-13) (s10 _ ?_) (s11 _ ?_)
    · rw [if_neg v0, if_pos v1, if_neg v2, zg_i i1, k1, if_neg m, if_neg m2]
    · rw [if_neg v0, if_pos v1, if_neg v2, zg_i i1, if_neg m, zg_i i1, if_neg m2]
  have m2 := Decidable.not_not.mp m2
  rcases a_holdsn ht hn k4 F u v with ⟨i, j, hij, rfl, rfl, h1, h2⟩ | ⟨h1, h2⟩
  · have dj : d + j ≤ 7200 := by
      have k := Int32.le_iff_toInt_le.mp v1
      have t7 : (7200 : Int32).toInt = 7200 := rfl
      rw [nI_toInt (by omega), t_sub (by rw [nI_toInt (by omega)]; omega) (by rw [nI_toInt (by omega)]; omega), nI_toInt (by omega), t7] at k
      omega
    have jj := j_sky hR (F := F) (d := d) (w := w) (t := t) (i := i) (n := j) hF dj hw ht (by omega)
    obtain ⟨r, s, σ1, σ2, g1, g2, g3, g4⟩ := jj
    subst g3
    have g1 : zit (f_X10_sky_104 F) F σ (nI d, nI w, nI i, nI j, t, 0, 0) = some (r, σ1) := g1
    have c1 : ∀ k a b, 60 ≤ k → σ1.1 k a b = σ.1 k a b := by
      intro k a b hk
      have := x_it σ (fun r r2 h s y => x_X10_sky_104 σ F r r2 s y h) F σ (nI d, nI w, nI i, nI j, t, 0, 0)
      rw [zmx_self, g1] at this
      rw [← zM_keep this, zmx_y hk]
    refine ⟨r, σ1, σ2, s10 _ ?_, ?_, g4⟩
    · rw [if_neg v0, if_pos v1, if_neg v2, zg_i i1, k1, if_neg m, if_pos m2]
      unfold f_X10_sky_71
      rw [zg_i gt, k1, if_neg m, h1, zb_s, if_neg (by decide)]
      exact g1
    · show f_X11_sky F σ1 (nI d) (nI w) (nI t) (nI i) (nI j) = _
      have e1 : ∀ s : zMem, f_X11_in F s (nI d) 0 7199 = some (1, s) := fun s => by
        rw [e_X11_in, if_neg (nI_pos (by omega)), if_neg (fun q => by have := (nI_ltI (a := 7199) (b := d) (by omega) (by omega)).mp q; omega)]
      have e2 : ∀ s : zMem, f_X11_in F s (nI w) 0 1 = some (1, s) := fun s => by
        rw [e_X11_in, if_neg (nI_pos (by omega)), if_neg (fun q => by have := (nI_ltI (a := 1) (b := w) (by omega) (by omega)).mp q; omega)]
      simp only [f_X11_sky]
      rw [e1, zb_s, if_neg (by decide), e2, zb_s, if_neg (by decide), r2, zb_s, if_neg (by decide), if_neg v0, if_pos v1, if_neg v2, zg_i i1, i2, c1 104 _ _ (by omega), if_neg m, zg_i i1, if_pos m2, if_neg (nI_pos (by omega)), zg_i i1, c1 105 _ _ (by omega), k5, if_pos h2]
      exact g2
  · refine zOK_same hR (-12) (s10 _ ?_) (s11 _ ?_)
    · rw [if_neg v0, if_pos v1, if_neg v2, zg_i i1, k1, if_neg m, if_pos m2]
      unfold f_X10_sky_71
      rw [zg_i gt, k1, if_neg m, h1, zb_s, if_pos rfl]
    · rw [if_neg v0, if_pos v1, if_neg v2, zg_i i1, if_neg m, zg_i i1, if_pos m2, k5]
      rcases h2 with h2 | h2 | ⟨h3, h4, h5⟩
      · rw [if_pos h2]
      · exact absurd h2 v0
      · rw [if_neg h3, zg_i i1, if_neg h5]
