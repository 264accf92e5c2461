/-- the first a alps changed by f -/
def zfu (f : Nat → Int32) (G : Nat → Int32) (a : Nat) : Nat → Int32 := fun b => if b < a then f b else G b
theorem zfu_0 (f G : Nat → Int32) : zfu f G 0 = G := by
  funext b
  exact if_neg (Nat.not_lt_zero b)
theorem zfu_at (f G : Nat → Int32) (a : Nat) : zfu f G a a = G a := if_neg (Nat.lt_irrefl a)
theorem zfu_s (f G : Nat → Int32) (a : Nat) : zup1 (zfu f G a) a (f a) = zfu f G (a + 1) := by
  funext b
  show (if b = a then f a else (if b < a then f b else G b)) = (if b < a + 1 then f b else G b)
  by_cases h : b = a
  · subst h
    rw [if_pos rfl, if_pos (by omega)]
  · rw [if_neg h]
    by_cases h2 : b < a
    · rw [if_pos h2, if_pos (by omega)]
    · rw [if_neg h2, if_neg (by omega)]
/-- all alps fed -/
def zea (σ : zMem) (n : Nat) (G : Nat → Int32) (b : Nat) : Int32 := zmin (zsum (fun h => σ.1 116 b h) n) (G b / 3)
theorem e_234 {σ : zMem} {G S : Nat → Int32} {m n F : Nat} (hF : 100 < F) (hm : m ≤ 4) (hn : n ≤ 10) (e1 : σ.1 60 0 1 = nI n) (em : σ.1 60 0 25 = nI m) (eg : σ.1 60 0 28 = nI 113) (eu : σ.1 60 0 11 = nI 115) (hG : ∀ b, b < m → zib (G b) 0 1000000) (hu : ∀ b h, b < m → h < n → zib (σ.1 116 b h) 0 999) (r194 : zMem → Int32 × Nat × Nat × Nat × Int32 × Int32 → Option (Int32 × zMem)) (nd k dd : Int32) : zit (f_X11_tried_234 F r194) F (zrq σ G S) (nd, 89, 90, 71, k, dd, 0) = r194 (zrq σ (zfu (fun b => G b - 3 * zea σ n G b) G m) S) (nd, 89, 90, 71, k + zsum (fun b => zsum (fun h => σ.1 116 b h) n - zea σ n G b) m, dd + 1) := by
  have t4 : zdG 89 = true := by decide
  have t5 : zdS 90 = true := by decide
  have t6 : zdU 71 = true := by decide
  refine zit_m (fun i s x => ∃ a, a ≤ m ∧ i = m - a ∧ s = zrq σ (zfu (fun b => G b - 3 * zea σ n G b) G a) S ∧ x = (nd, 89, 90, 71, k + zsum (fun b => zsum (fun h => σ.1 116 b h) n - zea σ n G b) a, dd, nI a)) _ ?_ F m _ _ ⟨0, by omega, rfl, by rw [zfu_0], by rw [show zsum (fun b => zsum (fun h => σ.1 116 b h) n - zea σ n G b) 0 = 0 from rfl, Int32.add_zero, nI_0]⟩ (by omega)
  rintro i s x ⟨a, ha, rfl, rfl, rfl⟩
  have rm : (zrq σ (zfu (fun b => G b - 3 * zea σ n G b) G a) S).1 60 0 25 = nI m := (zrq_o σ _ S (by omega)).trans em
  by_cases q : a = m
  · subst q
    refine Or.inl fun rec => ?_
    unfold f_X11_tried_234
    simp only
    rw [zg_i t4, zg_i t5, zg_i t6, rm, if_pos (Int32.le_refl _)]
  · refine Or.inr ⟨m - (a + 1), zrq σ (zfu (fun b => G b - 3 * zea σ n G b) G (a + 1)) S, (nd, 89, 90, 71, k + zsum (fun b => zsum (fun h => σ.1 116 b h) n - zea σ n G b) (a + 1), dd, nI (a + 1)), by omega, ⟨a + 1, by omega, rfl, rfl, rfl⟩, fun rec => ?_⟩
    have z := zff_eq (u := fun h => σ.1 116 a h) (g := G a) (k := k + zsum (fun b => zsum (fun h => σ.1 116 b h) n - zea σ n G b) a) (hG a (by omega)) (n := n) hn (fun h hh => hu a h (by omega) hh)
    unfold f_X11_tried_234
    simp only
    rw [zg_i t4, zg_i t5, zg_i t6, rm, if_neg (nle_s (by omega) (by omega)), e_246 hF (by omega) hn e1 eg eu, zfu_at, z]
    simp only
    have e := zfu_s (fun b => G b - 3 * zea σ n G b) G a
    have e : zup1 (zfu (fun b => G b - 3 * zea σ n G b) G a) a (G a - 3 * zmin (zsum (fun h => σ.1 116 a h) n) (G a / 3)) = zfu (fun b => G b - 3 * zea σ n G b) G (a + 1) := e
    rw [e, nI_1, Int32.add_assoc]
    rfl
/-- all alps grown -/
def ztq (σ : zMem) (d b : Nat) : Int32 := zsk σ 0 (d + 1) - 5 * σ.1 87 0 b
theorem e_208 {σ : zMem} {G S : Nat → Int32} {m d F : Nat} (hF : 8000 < F) (hm : m ≤ 4) (hd : d < 7200) (em : σ.1 60 0 25 = nI m) (eg : σ.1 60 0 28 = nI 113) (es : σ.1 60 0 29 = nI 114) (r194 : zMem → Int32 × Nat × Nat × Nat × Int32 × Int32 → Option (Int32 × zMem)) (nd k : Int32) : zit (f_X11_tried_208 F r194) F (zrq σ G S) (nd, 89, 90, 71, k, nI d, 0) = zit (f_X11_tried_234 F r194) F (zrq σ (zfu (fun b => zhg (zhn (S b) (ztq σ d b) (zsk σ 1 (d + 1))) (G b) (ztq σ d b) (σ.1 88 0 b)) G m) (zfu (fun b => zhn (S b) (ztq σ d b) (zsk σ 1 (d + 1))) S m)) (nd, 89, 90, 71, k, nI d, 0) := by
  have t4 : zdG 89 = true := by decide
  have t5 : zdS 90 = true := by decide
  have t6 : zdU 71 = true := by decide
  refine zit_m (fun i s x => ∃ a, a ≤ m ∧ i = m - a ∧ s = zrq σ (zfu (fun b => zhg (zhn (S b) (ztq σ d b) (zsk σ 1 (d + 1))) (G b) (ztq σ d b) (σ.1 88 0 b)) G a) (zfu (fun b => zhn (S b) (ztq σ d b) (zsk σ 1 (d + 1))) S a) ∧ x = (nd, 89, 90, 71, k, nI d, nI a)) _ ?_ F m _ _ ⟨0, by omega, rfl, by rw [zfu_0, zfu_0], by rw [nI_0]⟩ (by omega)
  rintro i s x ⟨a, ha, rfl, rfl, rfl⟩
  have rm : ∀ G S, (zrq σ G S).1 60 0 25 = nI m := fun G S => (zrq_o σ G S (by omega)).trans em
  by_cases q : a = m
  · subst q
    refine Or.inl fun rec => ?_
    unfold f_X11_tried_208
    simp only
    rw [zg_i t4, zg_i t5, zg_i t6, rm, if_pos (Int32.le_refl _)]
  · refine Or.inr ⟨m - (a + 1), _, (nd, 89, 90, 71, k, nI d, nI (a + 1)), by omega, ⟨a + 1, by omega, rfl, rfl, rfl⟩, fun rec => ?_⟩
    have gr := e_growQ (σ := σ) (G := zfu (fun b => zhg (zhn (S b) (ztq σ d b) (zsk σ 1 (d + 1))) (G b) (ztq σ d b) (σ.1 88 0 b)) G a) (S := zfu (fun b => zhn (S b) (ztq σ d b) (zsk σ 1 (d + 1))) S a) (a := a) hF (by omega) hd eg es
    rw [zfu_at, zfu_at] at gr
    have e1 := zfu_s (fun b => zhg (zhn (S b) (ztq σ d b) (zsk σ 1 (d + 1))) (G b) (ztq σ d b) (σ.1 88 0 b)) G a
    have e2 := zfu_s (fun b => zhn (S b) (ztq σ d b) (zsk σ 1 (d + 1))) S a
    unfold f_X11_tried_208
    simp only
    rw [zg_i t4, zg_i t5, zg_i t6, rm, if_neg (nle_s (by omega) (by omega)), gr, zb_s, nI_1, ← e1, ← e2]
    rfl
