/-- the reference's scratch grass and snow while it tries a way -/
def zrq (σ : zMem) (G S : Nat → Int32) : zMem := (fun k i j => if k = 113 ∧ i = 0 then G j else if k = 114 ∧ i = 0 then S j else σ.1 k i j, σ.2)
theorem zrq_o (σ : zMem) (G S : Nat → Int32) {k i j : Nat} (h : ¬ (k = 113 ∨ k = 114)) : (zrq σ G S).1 k i j = σ.1 k i j := by
  show (if k = 113 ∧ i = 0 then G j else if k = 114 ∧ i = 0 then S j else σ.1 k i j) = _
  rw [if_neg (by omega), if_neg (by omega)]
theorem zrq_g (σ : zMem) (G S : Nat → Int32) (j : Nat) : (zrq σ G S).1 113 0 j = G j := by
  show (if (113 : Nat) = 113 ∧ 0 = 0 then G j else if (113 : Nat) = 114 ∧ 0 = 0 then S j else σ.1 113 0 j) = _
  rw [if_pos ⟨rfl, rfl⟩]
theorem zrq_s (σ : zMem) (G S : Nat → Int32) (j : Nat) : (zrq σ G S).1 114 0 j = S j := by
  show (if (114 : Nat) = 113 ∧ 0 = 0 then G j else if (114 : Nat) = 114 ∧ 0 = 0 then S j else σ.1 114 0 j) = _
  rw [if_neg (by omega), if_pos ⟨rfl, rfl⟩]
theorem zrq_wg (σ : zMem) (G S : Nat → Int32) (a : Nat) (v : Int32) : zwi (zrq σ G S) 113 0 a v = zrq σ (zup1 G a v) S := by
  refine Prod.ext ?_ rfl
  funext k i j
  by_cases h : k = 113 ∧ i = 0 ∧ j = a
  · obtain ⟨rfl, rfl, rfl⟩ := h
    rw [zwi_hit, zrq_g]
    exact (if_pos rfl).symm
  · rw [zwi_r h]
    by_cases h2 : k = 113 ∧ i = 0
    · obtain ⟨rfl, rfl⟩ := h2
      rw [zrq_g, zrq_g]
      exact (if_neg (by omega)).symm
    · show (if k = 113 ∧ i = 0 then G j else if k = 114 ∧ i = 0 then S j else σ.1 k i j) = (if k = 113 ∧ i = 0 then zup1 G a v j else if k = 114 ∧ i = 0 then S j else σ.1 k i j)
      rw [if_neg h2, if_neg h2]
theorem zrq_ws (σ : zMem) (G S : Nat → Int32) (a : Nat) (v : Int32) : zwi (zrq σ G S) 114 0 a v = zrq σ G (zup1 S a v) := by
  refine Prod.ext ?_ rfl
  funext k i j
  by_cases h : k = 114 ∧ i = 0 ∧ j = a
  · obtain ⟨rfl, rfl, rfl⟩ := h
    rw [zwi_hit, zrq_s]
    exact (if_pos rfl).symm
  · rw [zwi_r h]
    by_cases h2 : k = 114 ∧ i = 0
    · obtain ⟨rfl, rfl⟩ := h2
      rw [zrq_s, zrq_s]
      exact (if_neg (by omega)).symm
    · show (if k = 113 ∧ i = 0 then G j else if k = 114 ∧ i = 0 then S j else σ.1 k i j) = (if k = 113 ∧ i = 0 then G j else if k = 114 ∧ i = 0 then zup1 S a v j else σ.1 k i j)
      rw [if_neg h2, if_neg h2]
theorem zupq_i (f : Nat → Int32) (a : Nat) (v : Int32) : zup1 f a v a = v := if_pos rfl
theorem zupq_id (f : Nat → Int32) (a : Nat) : zup1 f a (f a) = f := by
  funext j
  show (if j = a then f a else f j) = f j
  by_cases h : j = a
  · rw [if_pos h, h]
  · rw [if_neg h]
theorem e_growQ {σ : zMem} {G S : Nat → Int32} {a d F : Nat} (hF : 8000 < F) (ha : a < 4) (hd : d < 7200) (eg : σ.1 60 0 28 = nI 113) (es : σ.1 60 0 29 = nI 114) : f_X11_grow F (zrq σ G S) (nI a) (nI d) = some ((), zrq σ (zup1 G a (zhg (zhn (S a) (zsk σ 0 (d + 1) - 5 * σ.1 87 0 a) (zsk σ 1 (d + 1))) (G a) (zsk σ 0 (d + 1) - 5 * σ.1 87 0 a) (σ.1 88 0 a))) (zup1 S a (zhn (S a) (zsk σ 0 (d + 1) - 5 * σ.1 87 0 a) (zsk σ 1 (d + 1))))) := by
  have i1 := inb_n ha (by omega)
  have i2 := nI_clamp (show a < 2 ^ 31 by omega)
  have t3 : (nI 113).toNatClampNeg = 113 := by decide
  have t4 : zdG 113 = true := by decide
  have t5 : (nI 114).toNatClampNeg = 114 := by decide
  have t6 : zdS 114 = true := by decide
  have r87 : ∀ G S, (zrq σ G S).1 87 0 a = σ.1 87 0 a := fun G S => zrq_o σ G S (by omega)
  have r88 : ∀ G S, (zrq σ G S).1 88 0 a = σ.1 88 0 a := fun G S => zrq_o σ G S (by omega)
  have rg : ∀ G S, (zrq σ G S).1 60 0 28 = nI 113 := fun G S => (zrq_o σ G S (by omega)).trans eg
  have rs : ∀ G S, (zrq σ G S).1 60 0 29 = nI 114 := fun G S => (zrq_o σ G S (by omega)).trans es
  have h86 : (zrq σ G S).1 86 = σ.1 86 := by
    funext i j
    exact zrq_o σ G S (by omega)
  have h84 : (zrq σ G S).1 84 = σ.1 84 := by
    funext i j
    exact zrq_o σ G S (by omega)
  have k0 := e_X11_skyAt (σ := zrq σ G S) (w := 0) (d := d) (F := F) (by omega) hd hF
  have k1 := e_X11_skyAt (σ := zrq σ G S) (w := 1) (d := d) (F := F) (by omega) hd hF
  rw [zsk_s h86 h84] at k0 k1
  have k0 : f_X11_skyAt F (zrq σ G S) (nI d) 0 = some (zsk σ 0 (d + 1), zrq σ G S) := k0
  have k1 : f_X11_skyAt F (zrq σ G S) (nI d) 1 = some (zsk σ 1 (d + 1), zrq σ G S) := k1
  generalize zsk σ 0 (d + 1) = w at k0 ⊢
  generalize zsk σ 1 (d + 1) = f at k1 ⊢
  have g59 : ∀ (S' : Nat → Int32) (l : Int32), f_X11_grow_59 F (zrq σ G S') (nI a) l = some ((), zrq σ (zup1 G a (zhg (S' a) (G a) l (σ.1 88 0 a))) S') := by
    intro S' l
    unfold f_X11_grow_59 zhg
    rw [rs, t5, zg_i t6, zg_i i1, i2, zrq_s]
    by_cases q : S' a = 0
    · rw [if_pos q, if_pos q]
      by_cases q2 : 0 < l
      · rw [if_neg (Int32.not_le.mpr q2), if_pos q2, rg, t3, zg_i t4, zg_i i1, zg_i t4, zg_i i1, zg_i i1, zg_i (by decide), zg_i i1, r88, zrq_g, zrq_wg]
      · rw [if_pos (Int32.not_lt.mp q2), if_neg q2, zupq_id]
    · rw [if_neg q, if_neg q, zupq_id]
  unfold f_X11_grow
  rw [k0, zb_s, zg_i i1, i2, r87, rs, t5, zg_i t6, zg_i t6, zg_i t6, zg_i i1, zg_i i1, zrq_s, k1, zb_s, zg_i i1]
  unfold zhn
  by_cases q : 2 < w - 5 * σ.1 87 0 a
  · rw [if_pos q, if_pos q, zrq_ws, g59, zupq_i]
  · rw [if_neg q, if_neg q, zrq_ws, g59, zupq_i, zg_i i1]
theorem e_feedQ {σ : zMem} {G S : Nat → Int32} {a h F : Nat} (ha : a < 4) (hh : h < 10) (eg : σ.1 60 0 28 = nI 113) (eu : σ.1 60 0 11 = nI 115) : f_X11_feedOn F (zrq σ G S) (nI a) (nI h) = some (zmin (σ.1 116 a h) (G a / 3), zrq σ (zup1 G a (G a - 3 * zmin (σ.1 116 a h) (G a / 3))) S) := by
  have i1 := inb_n ha (show 4 < 100000 by decide)
  have i2 := nI_clamp (show a < 2 ^ 31 by omega)
  have i3 := inb_n hh (show 10 < 100000 by decide)
  have i4 := nI_clamp (show h < 2 ^ 31 by omega)
  have t3 : (nI 113).toNatClampNeg = 113 := by decide
  have t4 : zdG 113 = true := by decide
  have t5 : (nI 115).toNatClampNeg = 115 := by decide
  have t6 : zdU 115 = true := by decide
  have rg : (zrq σ G S).1 60 0 28 = nI 113 := (zrq_o σ G S (by omega)).trans eg
  have ru : (zrq σ G S).1 60 0 11 = nI 115 := (zrq_o σ G S (by omega)).trans eu
  have r6 : (zrq σ G S).1 116 a h = σ.1 116 a h := zrq_o σ G S (by omega)
  unfold f_X11_feedOn
  rw [rg, ru, t3, t5, zg_i t6, zg_i i1, zg_i i3, zg_i t4, zg_i i1, zg_i (by decide), zg_i t4, zg_i i1, zg_i i1, i2, i4, zrq_g]
  show some (zmin ((zrq σ G S).1 116 a h) (G a / 3), zwi (zrq σ G S) 113 0 a (G a - 3 * zmin ((zrq σ G S).1 116 a h) (G a / 3))) = _
  rw [r6, zrq_wg]
