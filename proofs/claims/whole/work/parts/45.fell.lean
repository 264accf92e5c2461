/-- a loop whose end goes on with k is a loop that ends, and then k -/
theorem zit_split {tl β γ : Type} {b : (zMem → tl → Option (β × zMem)) → zMem → tl → Option (β × zMem)} {b2 : (zMem → tl → Option (γ × zMem)) → zMem → tl → Option (γ × zMem)} {k : γ → zMem → Option (β × zMem)} (P : tl → Prop) (h : ∀ r r2, (∀ s y, P y → r s y = zb (r2 s y) k) → ∀ s y, P y → b r s y = zb (b2 r2 s y) k) : ∀ F s y, P y → zit b F s y = zb (zit b2 F s y) k
  | 0, _, _, _ => rfl
  | F + 1, s, y, hy => h (zit b F) (zit b2 F) (zit_split P h F) s y hy
/-- the reference's first loop of fell alone -/
def zf47 (F : Nat) (rec47 : zMem → Int32 × Int32 × Int32 × Int32 × Int32 → Option (Int32 × zMem)) (σ : zMem) (x : Int32 × Int32 × Int32 × Int32 × Int32) : Option (Int32 × zMem) := if (σ.1 60 0 1) ≤ x.2.2.2.2 then some (x.2.2.2.1, σ) else (zg (zni ((σ.1 60 0 1))) (zb (f_X11_now F σ ((zrem ((x.2.1 + x.2.2.2.2)) ((σ.1 60 0 1)))) 6) fun r75 m75 => zg (inb ((zrem ((x.2.1 + x.2.2.2.2)) ((σ.1 60 0 1)))) 10) (zg (inb 0 5) (zg (inb ((zrem ((x.2.1 + x.2.2.2.2)) ((σ.1 60 0 1)))) 10) (zg (inb ((zrem ((x.2.1 + x.2.2.2.2)) ((σ.1 60 0 1)))) 10) (rec47 (zwi m75 69 0 ((zrem ((x.2.1 + x.2.2.2.2)) ((σ.1 60 0 1)))).toNatClampNeg (((m75.1 69 0 ((zrem ((x.2.1 + x.2.2.2.2)) ((σ.1 60 0 1)))).toNatClampNeg) + (((zminl ((x.2.2.2.1.toInt64)) (((r75.toInt64) * (((m75.1 62 (((zrem ((x.2.1 + x.2.2.2.2)) ((σ.1 60 0 1)))).toNatClampNeg) 0)).toInt64))))).toInt32)))) ((x.1, x.2.1, x.2.2.1, (x.2.2.2.1 - (((zminl ((x.2.2.2.1.toInt64)) (((r75.toInt64) * (((m75.1 62 (((zrem ((x.2.1 + x.2.2.2.2)) ((σ.1 60 0 1)))).toNatClampNeg) 0)).toInt64))))).toInt32)), (x.2.2.2.2 + 1)))))))))
def zf131 (_F : Nat) (rec131 : zMem → Int32 × Int32 × Int32 → Option (Unit × zMem)) (σ : zMem) (x : Int32 × Int32 × Int32) : Option (Unit × zMem) := if (σ.1 60 0 1) ≤ x.2.2 then some ((), σ) else (zg (inb x.2.2 10) (zg (inb 4 5) (zg (inb x.2.2 10) (zg (inb 4 5) (zg (inb 4 5) (rec131 (zwi σ 62 x.2.2.toNatClampNeg 4 (((σ.1 62 x.2.2.toNatClampNeg 4) - (zmax 0 ((zmin x.2.1 ((σ.1 62 x.2.2.toNatClampNeg 4)))))))) ((x.1, (x.2.1 - (zmax 0 ((zmin x.2.1 ((σ.1 62 x.2.2.toNatClampNeg 4)))))), (x.2.2 + 1)))))))))
theorem zb_ite {α β : Type} (c : Prop) [Decidable c] (o p : Option (α × zMem)) (k : α → zMem → Option (β × zMem)) : zb (if c then o else p) k = if c then zb o k else zb p k := by
  by_cases h : c
  · rw [if_pos h, if_pos h]
  · rw [if_neg h, if_neg h]
theorem zb_zg {α β : Type} (b : Bool) (o : Option (α × zMem)) (k : α → zMem → Option (β × zMem)) : zb (zg b o) k = zg b (zb o k) := by
  cases b <;> rfl
theorem zb_zb {α β γ : Type} (o : Option (α × zMem)) (f : α → zMem → Option (β × zMem)) (k : β → zMem → Option (γ × zMem)) : zb (zb o f) k = zb o (fun r m => zb (f r m) k) := by
  cases o <;> rfl
theorem s_fell_47 (F s0 : Nat) (all : Int32) : ∀ G s y, (y.1 = nI s0 ∧ y.2.2.1 = all) → zit (f_X11_fell_47 F) G s y = zb (zit (zf47 F) G s y) (fun left m => zg (inb (nI s0) 6) (zit (f_X11_fell_131 F) F (zwi m 93 0 (nI s0).toNatClampNeg 0) (all, left, 0))) := by
  refine zit_split (fun (y : Int32 × Int32 × Int32 × Int32 × Int32) => y.1 = nI s0 ∧ y.2.2.1 = all) fun r r2 hr s y hy => ?_
  obtain ⟨x, a, al, l, k⟩ := y
  obtain ⟨rfl, rfl⟩ := hy
  have hr2 : ∀ s a l k, r s (nI s0, a, al, l, k) = zb (r2 s (nI s0, a, al, l, k)) (fun left m => zg (inb (nI s0) 6) (zit (f_X11_fell_131 F) F (zwi m 93 0 (nI s0).toNatClampNeg 0) (al, left, 0))) := fun s a l k => hr s _ ⟨rfl, rfl⟩
  unfold f_X11_fell_47 zf47
  simp only [zb_ite, zb_s, zb_zg, zb_zb, hr2]
theorem s_fell_131 (F : Nat) (all : Int32) : ∀ G s y, (y.1 = all) → zit (f_X11_fell_131 F) G s y = zb (zit (zf131 F) G s y) (fun _ m => some (all, zwi m 60 0 45 (m.1 60 0 45 + all))) := by
  refine zit_split (fun (y : Int32 × Int32 × Int32) => y.1 = all) fun r r2 hr s y hy => ?_
  obtain ⟨al, l, k⟩ := y
  have hy : al = all := hy
  subst hy
  have hr2 : ∀ s l k, r s (al, l, k) = zb (r2 s (al, l, k)) (fun _ m => some (al, zwi m 60 0 45 (m.1 60 0 45 + al))) := fun s l k => hr s _ rfl
  unfold f_X11_fell_131 zf131
  simp only [zb_ite, zb_s, zb_zg, hr2]
theorem y_zf47 (τ : zMem) (F : Nat) (rec47 rec47q : zMem → Int32 × Int32 × Int32 × Int32 × Int32 → Option (Int32 × zMem)) (σ : zMem) (x : Int32 × Int32 × Int32 × Int32 × Int32) (h : ∀ s y, rec47 (zmx τ s) y = zY τ (rec47q s y)) : zf47 F rec47 (zmx τ σ) x = zY τ (zf47 F rec47q σ x) := by
  simp only [zf47, Nat.reduceLeDiff, zmx_y, zml_y, zwi_y, zwl_y, zY_zb, zY_fun, zY_ite, zY_iten, zY_zg, zY_some, y_X11_now τ, h]
theorem y_zf131 (τ : zMem) (F : Nat) (rec131 rec131q : zMem → Int32 × Int32 × Int32 → Option (Unit × zMem)) (σ : zMem) (x : Int32 × Int32 × Int32) (h : ∀ s y, rec131 (zmx τ s) y = zY τ (rec131q s y)) : zf131 F rec131 (zmx τ σ) x = zY τ (zf131 F rec131q σ x) := by
  simp only [zf131, Nat.reduceLeDiff, zmx_y, zml_y, zwi_y, zwl_y, zY_zb, zY_fun, zY_ite, zY_iten, zY_zg, zY_some, h]
/-- the reference's wood of slope s felled, all logs counted -/
def zpat (s : Nat) (all : Int32) (τ : zMem) : zMem := zwi (zwi τ 93 0 s 0) 60 0 45 (τ.1 60 0 45 + all)
theorem zpat_o (s : Nat) (all : Int32) (τ : zMem) {k i j : Nat} (h1 : ¬ k = 93) (h2 : ¬ (k = 60 ∧ j = 45)) : (zpat s all τ).1 k i j = τ.1 k i j := by
  unfold zpat
  rw [zwi_r (by omega), zwi_r (by omega)]
theorem min_eq {l v h : Int32} (hl : zib l 0 1000) (hv : zib v 0 99999) (hh : zib h 0 9) : (zminl l.toInt64 (v.toInt64 * h.toInt64)).toInt32 = zmin l (v * h) ∧ 0 ≤ (zmin l (v * h)).toInt ∧ (zmin l (v * h)).toInt ≤ l.toInt := by
  have m0 : 0 ≤ v.toInt * h.toInt := Int.mul_nonneg hv.1 hh.1
  have m1 : v.toInt * h.toInt ≤ 99999 * 9 := Int.le_trans (Int.mul_le_mul_of_nonneg_right hv.2 hh.1) (Int.mul_le_mul_of_nonneg_left hh.2 (by omega))
  have e : (v * h).toInt = v.toInt * h.toInt := by rw [Int32.toInt_mul, Int.bmod_eq_of_le (by omega) (by omega)]
  have l0 := hl.1
  unfold zminl zmin
  by_cases q : v * h < l
  · have q1 := Int32.lt_iff_toInt_lt.mp q
    rw [e] at q1
    rw [if_pos q, if_pos (by rw [Int64.lt_iff_toInt_lt, zl_mul, Int32.toInt_toInt64]; exact q1)]
    refine ⟨?_, by rw [e]; exact m0, by rw [e]; omega⟩
    apply Int32.toInt_inj.mp
    rw [Int64.toInt_toInt32, zl_mul, e, Int.bmod_eq_of_le (by omega) (by omega)]
  · have q1 : ¬ v.toInt * h.toInt < l.toInt := fun k => q (Int32.lt_iff_toInt_lt.mpr (by rw [e]; exact k))
    rw [if_neg q, if_neg (by rw [Int64.lt_iff_toInt_lt, zl_mul, Int32.toInt_toInt64]; exact q1), zl_i]
    exact ⟨rfl, l0, Int.le_refl _⟩
theorem p_logs {σ : zMem} (hR : zRel σ) (h : Nat) (v : Int32) : zRel (zwi (zwi σ 2 h 10 v) 69 0 h v) := by
  obtain ⟨hh, hr, hw, hk, ha, hd, hl, hc, ht, hb, hQ⟩ := hR
  refine ⟨?_, ?_, ?_, ?_, ?_, ?_, ?_, ?_, ?_, ?_, ?_⟩
  · obtain ⟨g1, g2, g3, g4, g5, g6⟩ := hh
    refine ⟨by simpa [zwi, zu] using g1, by simpa [zwi, zu] using g2, by simpa [zwi, zu] using g3, fun y hy => ?_, by simpa [zwi, zu] using g5, by simpa [zwi, zu] using g6⟩
    have := g4 y hy
    by_cases e : y = h
    · subst e
      obtain ⟨k1, k2, k3, k4, k5, k6, k7, k8, k9⟩ := this
      simp [zwi, zu, k1, k2, k3, k4, k5, k6, k7, k9]
    · simpa [zwi, zu, e] using this
  · simpa [zRr, zwi, zu] using hr
  · simpa [zRw, zwi, zu] using hw
  · simpa [zRk, zwi, zu] using hk
  · simpa [zRa, zwi, zu] using ha
  · simpa [zRd, zwi, zu] using hd
  · simpa [zRl, zwi, zu] using hl
  · simpa [zRc, zwi, zu] using hc
  · simpa [zRt, zwi, zu] using ht
  · simpa [zRb, zwi, zu] using hb
  · simpa [zRz, zwi, zu] using hQ
theorem p_debt {σ : zMem} (hR : zRel σ) {j : Nat} {x : Int32} (hx : zib x 0 99999999) : zRel (zwi (zwi σ 2 j 2 x) 62 j 4 x) := by
  obtain ⟨hh, hr, hw, hk, ha, hd, hl, hc, ht, hb, hQ⟩ := hR
  refine ⟨?_, ?_, ?_, ?_, ?_, ?_, ?_, ?_, ?_, ?_, ?_⟩
  · obtain ⟨g1, g2, g3, g4, g5, g6⟩ := hh
    refine ⟨by simpa [zwi, zu] using g1, by simpa [zwi, zu] using g2, fun y z hy hz => ?_, fun y hy => ?_, by simpa [zwi, zu] using g5, by simpa [zwi, zu] using g6⟩
    · have e : ¬ z = 4 := by omega
      simpa [zwi, zu, e] using g3 y z hy hz
    · have := g4 y hy
      by_cases e : y = j
      · subst e
        obtain ⟨k1, k2, k3, k4, k5, k6, k7, k8, k9⟩ := this
        simp [zwi, zu, k2, k3, k4, k5, k6, k7, k8, k9]
      · simpa [zwi, zu, e] using this
  · simpa [zRr, zwi, zu] using hr
  · simpa [zRw, zwi, zu] using hw
  · simpa [zRk, zwi, zu] using hk
  · simpa [zRa, zwi, zu] using ha
  · simpa [zRd, zwi, zu] using hd
  · simpa [zRl, zwi, zu] using hl
  · simpa [zRc, zwi, zu] using hc
  · simpa [zRt, zwi, zu] using ht
  · simpa [zRb, zwi, zu] using hb
  · obtain ⟨y1, y2, y3, y4, y5, y6, y7, y8, y9, y10⟩ := hQ
    refine ⟨?_, by simpa [zwi, zu] using y2, by simpa [zwi, zu] using y3, by simpa [zwi, zu] using y4, by simpa [zwi, zu] using y5, by simpa [zwi, zu] using y6, by simpa [zwi, zu] using y7, by simpa [zwi, zu] using y8, by simpa [zwi, zu] using y9, by simpa [zwi, zu] using y10⟩
    · intro z hz
      have k1 := y1 z hz
      by_cases e : z = j
      · subst e
        obtain ⟨b1, b2, b3, b4, b5⟩ := k1
        simpa [zwi, zu] using ⟨b1, b2, b3, b4, hx⟩
      · simpa [zwi, zu, e] using k1
theorem zpat_w (s : Nat) (all : Int32) (τ : zMem) {k i j : Nat} {v : Int32} (h1 : ¬ k = 93) (h2 : ¬ k = 60) : zpat s all (zwi τ k i j v) = zwi (zpat s all τ) k i j v := by
  unfold zpat
  rw [zwi_r (by omega), zwi_cm (k := k) (k2 := 93) (by omega), zwi_cm (k := k) (k2 := 60) (by omega)]
theorem j_fell1 {σ : zMem} {s : Nat} {all : Int32} (hR : zRel (zpat s all σ)) {F n a : Nat} (hF : 100 < F) (hn : n ≤ 10) (ha : a < n) (e1 : σ.1 0 0 1 = nI n) (hall : zib all 0 1000) : zJ (fun r l τ => r = l ∧ zib l 0 1000 ∧ zRel (zpat s all τ) ∧ τ.1 0 0 1 = nI n) (fun σ => zit (f_X10_handOutLogs_5 F) F σ (nI a, all, 0)) (fun σ => zit (zf47 F) F σ (nI s, nI a, all, all, 0)) σ := by
  refine zlock (0 : Int32) (0 : Int32) (fun τ r r2 h s y => x_X10_handOutLogs_5 τ F r r2 s y h) (fun τ r r2 h s y => y_zf47 τ F r r2 s y h)
    (fun m τ x y => zRel (zpat s all τ) ∧ τ.1 0 0 1 = nI n ∧ ∃ j c, j ≤ n ∧ m = n - j ∧ zib c 0 1000 ∧ x = (nI a, c, nI j) ∧ y = (nI s, nI a, all, c, nI j)) _ ?_ F n σ _ _ (by omega) ⟨hR, e1, 0, all, by omega, by omega, hall, rfl, rfl⟩
  rintro m τ x y ⟨hτ, t1, j, c, hj, rfl, hc, rfl, rfl⟩
  have t2 : τ.1 60 0 1 = nI n := by
    have := hτ.1.2.1
    rw [zpat_o s all τ (by omega) (by omega), zpat_o s all τ (by omega) (by omega)] at this
    exact this.trans t1
  by_cases e : j = n
  · subst e
    refine Or.inl ⟨c, c, τ, τ, fun rec => ?_, fun rec => ?_, rfl, hc, hτ, t1⟩
    · unfold f_X10_handOutLogs_5
      simp only
      rw [t1, if_pos (Int32.le_refl _)]
    · unfold zf47
      simp only
      rw [t2, if_pos (Int32.le_refl _)]
  have hjn : ¬ nI n ≤ nI j := nle_s (by omega) (by omega)
  have hh : (a + j) % n < n := Nat.mod_lt _ (by omega)
  have zr : zrem (nI a + nI j) (nI n) = nI ((a + j) % n) := by rw [nI_add, nI_rem (by omega) (by omega) (by omega)]
  generalize hhe : (a + j) % n = h at hh zr
  have i1 := inb_n (show h < 10 by omega) (by omega)
  have i2 := nI_clamp (show h < 2 ^ 31 by omega)
  have z0 : zni (nI n) = true := by
    have := nI_ne0 (n := n) (by omega) (by omega)
    simpa [zni] using this
  have hW : zRw τ := by
    have := hτ.2.2.1
    simpa [zpat, zRw, zwi, zu] using this
  obtain ⟨nw, hnw, w1, w2⟩ := zRw_n hW
  have dd : τ.1 60 0 0 = τ.1 0 0 11 := by
    have := hτ.2.2.2.2.1.2.1
    rw [zpat_o s all τ (by omega) (by omega), zpat_o s all τ (by omega) (by omega)] at this
    exact this
  have hH : ∀ j, j < 4 → τ.1 3 h j = τ.1 62 h j := fun j hj => by
    have := hτ.1.2.2.1 h j (by omega) hj
    rw [zpat_o s all τ (by omega) (by omega), zpat_o s all τ (by omega) (by omega)] at this
    exact this
  have v10 := e_X10_worthNow hW (show h < 10 by omega) hF hnw w1 (key := 6) (by decide)
  have v11 := e_X11_now hW (show h < 10 by omega) hF hnw w2 (key := 6) (by decide)
  rw [zval_c hH, ← dd] at v10
  have vb := zval_b hW w1 hnw (by have := hτ.2.2.2.2.2.2.2.2.2.2.2.2.1; simpa [zpat, zwi, zu] using this) (key := 6) (by decide) (fun j => τ.1 62 h j) (τ.1 60 0 0) (τ.1 60 0 0)
  generalize hv : zval τ (fun j => τ.1 62 h j) nw 6 (τ.1 60 0 0) (τ.1 60 0 0) = v at v10 v11 vb
  have hb : zib (τ.1 62 h 0) 0 9 := by
    have := (hτ.2.2.2.2.2.2.2.2.2.2.1 h (by omega)).1
    rw [zpat_o s all τ (by omega) (by omega)] at this
    exact this
  have q10 : τ.1 2 h 10 = τ.1 69 0 h := by
    have := (hτ.1.2.2.2.1 h (by omega)).2.2.2.2.2.2.2.1
    rw [zpat_o s all τ (by omega) (by omega), zpat_o s all τ (by omega) (by omega)] at this
    exact this
  obtain ⟨m1, m2, m3⟩ := min_eq hc vb hb
  have c0 := hc.1
  have c9 := hc.2
  have cn : (c - zmin c (v * τ.1 62 h 0)).toInt = c.toInt - (zmin c (v * τ.1 62 h 0)).toInt := t_sub (by omega) (by omega)
  refine Or.inr ⟨n - (j + 1), (nI a, c - zmin c (v * τ.1 62 h 0), nI (j + 1)), (nI s, nI a, all, c - zmin c (v * τ.1 62 h 0), nI (j + 1)), zwi τ 2 h 10 (τ.1 69 0 h + zmin c (v * τ.1 62 h 0)), zwi (zwi τ 2 h 10 (τ.1 69 0 h + zmin c (v * τ.1 62 h 0))) 69 0 h (τ.1 69 0 h + zmin c (v * τ.1 62 h 0)), by omega, fun rec => ?_, fun rec => ?_, ?_, ?_, j + 1, _, by omega, rfl, ⟨by omega, by omega⟩, rfl, rfl⟩
  · unfold f_X10_handOutLogs_5
    simp only
    rw [t1, if_neg hjn, zg_i z0, zr, zg_i i1, i2, v10, zb_s, zg_i (by decide), q10, hH 0 (by omega), nI_1]
  · have s2 : zmx (zwi τ 2 h 10 (τ.1 69 0 h + zmin c (v * τ.1 62 h 0))) τ = zwi τ 2 h 10 (τ.1 69 0 h + zmin c (v * τ.1 62 h 0)) := zmx_w (by omega)
    unfold zf47
    simp only
    rw [zwi_r (by omega), t2, if_neg hjn, zg_i z0, zr, now_c s2 v11, zb_s, zg_i i1, zg_i (by decide), zg_i i1, zg_i i1, i2, zwi_r (by omega), zwi_r (by omega), m1, nI_1]
  · rw [zpat_w s all _ (by omega) (by omega), zpat_w s all _ (by omega) (by omega)]
    exact p_logs hτ h _
  · rw [zwi_r (by omega), zwi_r (by omega)]
    exact t1
theorem j_fell2 {σ : zMem} {all c0 : Int32} (hR : zRel (zwi σ 60 0 45 (σ.1 60 0 45 + all))) {F n : Nat} (hF : 100 < F) (hn : n ≤ 10) (e1 : σ.1 0 0 1 = nI n) (hc0 : zib c0 0 1000) : zJ (fun _ _ τ => zRel (zwi τ 60 0 45 (τ.1 60 0 45 + all))) (fun σ => zit (f_X10_sellLogs_4 F) F σ (c0, 0)) (fun σ => zit (zf131 F) F σ (all, c0, 0)) σ := by
  refine zlock () () (fun τ r r2 h s y => x_X10_sellLogs_4 τ F r r2 s y h) (fun τ r r2 h s y => y_zf131 τ F r r2 s y h)
    (fun m τ x y => zRel (zwi τ 60 0 45 (τ.1 60 0 45 + all)) ∧ τ.1 0 0 1 = nI n ∧ ∃ j c, j ≤ n ∧ m = n - j ∧ zib c 0 1000 ∧ x = (c, nI j) ∧ y = (all, c, nI j)) _ ?_ F n σ _ _ (by omega) ⟨hR, e1, 0, c0, by omega, by omega, hc0, rfl, rfl⟩
  rintro m τ x y ⟨hτ, t1, j, c, hj, rfl, hc, rfl, rfl⟩
  have t2 : τ.1 60 0 1 = nI n := by
    have := hτ.1.2.1
    rw [zwi_r (by omega), zwi_r (by omega)] at this
    exact this.trans t1
  by_cases e : j = n
  · subst e
    refine Or.inl ⟨(), (), τ, τ, fun rec => ?_, fun rec => ?_, hτ⟩
    · unfold f_X10_sellLogs_4
      simp only
      rw [t1, if_pos (Int32.le_refl _)]
    · unfold zf131
      simp only
      rw [t2, if_pos (Int32.le_refl _)]
  have hjn : ¬ nI n ≤ nI j := nle_s (by omega) (by omega)
  have i1 := inb_n (show j < 10 by omega) (by omega)
  have i2 := nI_clamp (show j < 2 ^ 31 by omega)
  have q2 : τ.1 2 j 2 = τ.1 62 j 4 := by
    have := (hτ.1.2.2.2.1 j (by omega)).1
    rw [zwi_r (by omega), zwi_r (by omega)] at this
    exact this
  have db : zib (τ.1 62 j 4) 0 99999999 := by
    have := (hτ.2.2.2.2.2.2.2.2.2.2.1 j (by omega)).2.2.2.2
    rw [zwi_r (by omega)] at this
    exact this
  have d0 := db.1
  have d9 := db.2
  have c0' := hc.1
  have c9 := hc.2
  have mb : 0 ≤ (zmin c (τ.1 62 j 4)).toInt ∧ (zmin c (τ.1 62 j 4)).toInt ≤ c.toInt ∧ (zmin c (τ.1 62 j 4)).toInt ≤ (τ.1 62 j 4).toInt := by
    unfold zmin
    by_cases q : τ.1 62 j 4 < c
    · rw [if_pos q]
      have := Int32.lt_iff_toInt_lt.mp q
      omega
    · rw [if_neg q]
      have : ¬ (τ.1 62 j 4).toInt < c.toInt := fun k => q (Int32.lt_iff_toInt_lt.mpr k)
      omega
  generalize hm : zmin c (τ.1 62 j 4) = m at mb
  have mx : zmax 0 m = m := by
    unfold zmax
    by_cases q : 0 < m
    · rw [if_pos q]
    · rw [if_neg q]
      apply Int32.toInt_inj.mp
      have t0 : (0 : Int32).toInt = 0 := rfl
      have : ¬ (0 : Int32).toInt < m.toInt := fun k => q (Int32.lt_iff_toInt_lt.mpr k)
      omega
  have cn : (c - m).toInt = c.toInt - m.toInt := t_sub (by omega) (by omega)
  have dn : (τ.1 62 j 4 - m).toInt = (τ.1 62 j 4).toInt - m.toInt := t_sub (by omega) (by omega)
  refine Or.inr ⟨n - (j + 1), (c - m, nI (j + 1)), (all, c - m, nI (j + 1)), zwi τ 2 j 2 (τ.1 62 j 4 - m), zwi (zwi τ 2 j 2 (τ.1 62 j 4 - m)) 62 j 4 (τ.1 62 j 4 - m), by omega, fun rec => ?_, fun rec => ?_, ?_, ?_, j + 1, _, by omega, rfl, ⟨by omega, by omega⟩, rfl, rfl⟩
  · unfold f_X10_sellLogs_4
    simp only
    rw [t1, if_neg hjn, zg_i i1, zg_i i1, i2, q2, hm, nI_1]
  · unfold zf131
    simp only
    rw [zwi_r (by omega), t2, if_neg hjn, zg_i i1, zg_i (by decide), zg_i i1, zg_i (by decide), zg_i (by decide), i2, zwi_r (by omega), hm, mx, nI_1]
  · have := p_debt hτ (j := j) (x := τ.1 62 j 4 - m) ⟨by omega, by omega⟩
    rw [zwi_cm (k := 60) (k2 := 2) (by omega), zwi_cm (k := 60) (k2 := 62) (by omega)] at this
    rw [zwi_r (by omega), zwi_r (by omega)]
    exact this
  · rw [zwi_r (by omega), zwi_r (by omega)]
    exact t1
theorem p_fell {σ : zMem} (hR : zRel σ) {s : Nat} (hs9 : s < 6) {all : Int32} : zRel (zpat s all (zwi (zwi σ 40 s 0 0) 38 0 6 (σ.1 38 0 6 + all))) := by
  unfold zpat
  rw [zwi_r (by omega), zwi_r (by omega), hR.2.2.2.2.2.2.1.2.2.2.2.2.2.2.2]
  obtain ⟨hh, hr, hw, hk, ha, hd, hl, hc, ht, hb, hQ⟩ := hR
  refine ⟨?_, ?_, ?_, ?_, ?_, ?_, ?_, ?_, ?_, ?_, ?_⟩
  · simpa [zRh, zwi, zu] using hh
  · simpa [zRr, zwi, zu] using hr
  · simpa [zRw, zwi, zu] using hw
  · simpa [zRk, zwi, zu] using hk
  · simpa [zRa, zwi, zu] using ha
  · simpa [zRd, zwi, zu] using hd
  · obtain ⟨p1, p2, p3, p4, p5, p6, p7, p8, p9⟩ := hl
    refine ⟨by simpa [zwi, zu] using p1, by simpa [zwi, zu] using p2, fun z hz => ?_, by simpa [zwi, zu] using p4, by simpa [zwi, zu] using p5, by simpa [zwi, zu] using p6, by simpa [zwi, zu] using p7, by simpa [zwi, zu] using p8, by simp [zwi, zu]⟩
    have := p3 z hz
    by_cases e : z = s
    · subst e
      obtain ⟨k1, k2, k3, k4, k5, k6, k7⟩ := this
      refine ⟨by simp [zwi, zu], by simpa [zwi, zu] using k2, by simpa [zwi, zu] using k3, by simp [zwi, zu], ?_, by simpa [zwi, zu] using k6, by simpa [zwi, zu] using k7⟩
      have : (zwi (zwi (zwi (zwi σ 40 z 0 0) 38 0 6 (σ.1 60 0 45 + all)) 93 0 z 0) 60 0 45 (σ.1 60 0 45 + all)).1 93 0 z = 0 := by simp [zwi, zu]
      rw [this]
      decide
    · simpa [zwi, zu, e] using this
  · simpa [zRc, zwi, zu] using hc
  · simpa [zRt, zwi, zu] using ht
  · simpa [zRb, zwi, zu] using hb
  · simpa [zRz, zwi, zu] using hQ
theorem a_fell {σ : zMem} (hR : zRel σ) {F : Nat} (hF : 100 < F) (x y : Int32) : zOK (fun σ => f_X10_fell F σ x y) (fun σ => f_X11_fell F σ x y) σ := by
  have hl := hR.2.2.2.2.2.2.1
  obtain ⟨⟨ns, hns, e1⟩, e2, g, -⟩ := id hl
  have e2 := e2.trans e1
  obtain ⟨n, hn, h1, h2⟩ := zRh_n hR.1
  rcases zix (n := ns) (by omega) x with ⟨s, hs9, rfl, a1, a2, a3, a4⟩ | ⟨_, a⟩
  · have hs : s < 6 := by omega
    have u1 := e_X7_has e1 F a1 a2
    have u2 := fun m (hm : m.1 60 0 32 = nI ns) => e_X11_isSlope (σ := m) hm F a1 a3
    rcases zix (n := n) (by omega) y with ⟨a, ha9, rfl, b1, b2, b3, b4⟩ | ⟨_, b⟩
    · have u3 := e_X10_isHouse h1 F b1 b2
      have u4 := fun m (hm : m.1 60 0 1 = nI n) => e_X11_isHouse (σ := m) hm F b1 b3
      have i1 := inb_n hs (by omega)
      have i2 := nI_clamp (show s < 2 ^ 31 by omega)
      obtain ⟨m, hm, m1, m2, gl, j, hj, ej⟩ := zRl_s hl hs
      obtain ⟨q1, q2, -⟩ := g s hs
      have r1 := e_X6_risk (j := 0) hF hs hm m1 gl q2 (by omega)
      have r2 := e_X11_riskOf (j := 0) hF hs hm m2 (by omega)
      rw [nI_0] at r1 r2
      by_cases c : ¬ zri σ s m 0 < 100
      · refine zOK_same hR (-3) ?_ ?_
        · simp only [f_X10_fell]
          rw [u1, zb_s, if_neg (by decide), u3, zb_s, if_neg (by decide), zg_i i1, i2, r1, zb_s, if_neg c]
        · simp only [f_X11_fell]
          rw [u2 σ e2, zb_s, if_neg (by decide), u4 σ h2, zb_s, if_neg (by decide), r2, zb_s, if_neg c]
      have c := Decidable.not_not.mp c
      have hall : σ.1 93 0 s / 4 = nI (j / 4) := by
        rw [ej]
        exact nI_div (a := j) (b := 4) (by omega) (by omega) (by omega)
      have allb : zib (nI (j / 4)) 0 1000 := ⟨by rw [nI_toInt (by omega)]; omega, by rw [nI_toInt (by omega)]; omega⟩
      have J := zseq (Q := fun _ _ τ => zRel (zpat s (nI (j / 4)) τ) ∧ τ.1 0 0 1 = nI n) (Q2 := fun r l τ => r = l ∧ zRel τ) (σ := σ)
        (f := fun σ => some ((), zwi (zwi σ 40 s 0 0) 38 0 6 (σ.1 38 0 6 + nI (j / 4)))) (g := fun σ => some ((), σ))
        (f2 := fun _ σ => zb (zb (zit (f_X10_handOutLogs_5 F) F σ (nI a, nI (j / 4), 0)) fun r m => zit (f_X10_sellLogs_4 F) F m (r, 0)) fun _ m => some (nI (j / 4), m))
        (g2 := fun _ σ => zb (zb (zit (zf47 F) F σ (nI s, nI a, nI (j / 4), nI (j / 4), 0)) fun l m => zb (some ((), zwi m 93 0 s 0)) fun _ m => zit (zf131 F) F m (nI (j / 4), l, 0)) fun _ m => some (nI (j / 4), zwi m 60 0 45 (m.1 60 0 45 + nI (j / 4))))
        (fun τ s => rfl)
        (fun _ τ s => by
          rw [x_it τ (fun r r2 h s y => x_X10_handOutLogs_5 τ F r r2 s y h) F, zM_zb]
          simp only [x_it τ (fun r r2 h s y => x_X10_sellLogs_4 τ F r r2 s y h) F, zM_fun, zM_zb, zM_some])
        ⟨(), (), _, _, rfl, rfl, p_fell hR hs, by rw [zwi_r (by omega), zwi_r (by omega)]; exact h1⟩
        (fun _ _ τ h => zseq (Q := fun _ _ τ => zRel (zwi τ 60 0 45 (τ.1 60 0 45 + nI (j / 4)))) (σ := τ)
          (fun τ s => by
            rw [y_it τ (fun r r2 h s y => y_zf47 τ F r r2 s y h) F, zY_zb]
            simp only [zb_s, Nat.reduceLeDiff, zwi_y, y_it τ (fun r r2 h s y => y_zf131 τ F r r2 s y h) F, zY_fun])
          (fun _ τ s => rfl)
          (zseq (Q := fun r l τ => r = l ∧ zib l 0 1000 ∧ zRel (zpat s (nI (j / 4)) τ) ∧ τ.1 0 0 1 = nI n) (σ := τ)
            (fun τ s => y_it τ (fun r r2 h s y => y_zf47 τ F r r2 s y h) F s _)
            (fun _ τ s => x_it τ (fun r r2 h s y => x_X10_sellLogs_4 τ F r r2 s y h) F s _)
            (j_fell1 h.1 hF hn ha9 h.2 allb)
            (fun r l τ h => by
              obtain ⟨rfl, k1, k2, k3⟩ := h
              have k4 : zRel (zwi (zwi τ 93 0 s 0) 60 0 45 ((zwi τ 93 0 s 0).1 60 0 45 + nI (j / 4))) := by
                rw [zwi_r (by omega)]
                exact k2
              obtain ⟨p, q, σ1, σ2, l1, l2, l3⟩ := j_fell2 k4 hF hn (by rw [zwi_r (by omega)]; exact k3) k1
              refine ⟨p, q, zmx σ1 τ, σ2, ?_, ?_, l3⟩
              · have := x_it τ (fun r r2 h s y => x_X10_sellLogs_4 τ F r r2 s y h) F (zwi τ 93 0 s 0) (r, 0)
                have e : zmx (zwi τ 93 0 s 0) τ = τ := by
                  refine Prod.ext ?_ ?_
                  · funext k i c
                    by_cases hk : k < 60
                    · rw [zmx_x hk, zwi_r (by omega)]
                    · rw [zmx_y (by omega)]
                  · funext k i c
                    show (if k < 60 then _ else _) = _
                    split <;> rfl
                rw [e] at this
                show zit (f_X10_sellLogs_4 F) F τ (r, 0) = _
                rw [this, show zit (f_X10_sellLogs_4 F) F (zwi τ 93 0 s 0) (r, 0) = some (p, σ1) from l1]
                rfl
              · show zit (zf131 F) F (zwi (zmx σ1 τ) 93 0 s 0) (nI (j / 4), r, 0) = _
                rw [zwi_y (by omega)]
                have e : zmx σ1 (zwi τ 93 0 s 0) = σ1 := by
                  have := x_it (zwi τ 93 0 s 0) (fun r r2 h s' y => x_X10_sellLogs_4 (zwi τ 93 0 s 0) F r r2 s' y h) F (zwi τ 93 0 s 0) (r, 0)
                  rw [zmx_self, show zit (f_X10_sellLogs_4 F) F (zwi τ 93 0 s 0) (r, 0) = some (p, σ1) from l1] at this
                  exact zM_keep this
                rw [e]
                exact l2))
          (fun _ _ τ h => ⟨nI (j / 4), nI (j / 4), τ, _, rfl, rfl, rfl, h⟩))
      refine zJ_ok ?_
      obtain ⟨r, l, σ1, σ2, k1, k2, k3⟩ := J
      have keep1 : zmx σ1 σ = σ1 := by
        have k1' : zb (zb (zit (f_X10_handOutLogs_5 F) F (zwi (zwi σ 40 s 0 0) 38 0 6 (σ.1 38 0 6 + nI (j / 4))) (nI a, nI (j / 4), 0)) fun r m => zit (f_X10_sellLogs_4 F) F m (r, 0)) (fun _ m => some (nI (j / 4), m)) = some (r, σ1) := k1
        have st : zmx (zwi (zwi σ 40 s 0 0) 38 0 6 (σ.1 38 0 6 + nI (j / 4))) σ = zwi (zwi σ 40 s 0 0) 38 0 6 (σ.1 38 0 6 + nI (j / 4)) := by rw [zmx_w2 (by omega), zmx_w (by omega)]
        rw [← st, x_it σ (fun r r2 h s y => x_X10_handOutLogs_5 σ F r r2 s y h) F, zM_zb] at k1'
        simp only [x_it σ (fun r r2 h s y => x_X10_sellLogs_4 σ F r r2 s y h) F, zM_fun, zM_zb, zM_some] at k1'
        generalize hz : (zb (zb (zit (f_X10_handOutLogs_5 F) F (zwi (zwi σ 40 s 0 0) 38 0 6 (σ.1 38 0 6 + nI (j / 4))) (nI a, nI (j / 4), 0)) fun r m => zit (f_X10_sellLogs_4 F) F m (r, 0)) (fun _ m => some (nI (j / 4), m))) = z at k1'
        cases z with
        | none => exact absurd k1' (by simp [zM])
        | some z =>
          have k9 : some (z.1, zmx z.2 σ) = some (r, σ1) := k1'
          injection k9 with k9
          injection k9 with k9 k10
          rw [← k10, zmx_l]
      have c1 : ∀ k i c, 60 ≤ k → σ1.1 k i c = σ.1 k i c := fun k i c hk => by rw [← keep1, zmx_y hk]
      refine ⟨r, l, σ1, σ2, ?_, ?_, k3⟩
      · show f_X10_fell F σ (nI s) (nI a) = _
        unfold f_X10_fell
        rw [u1, zb_s, if_neg (by decide), u3, zb_s, if_neg (by decide), zg_i i1, i2, r1, zb_s, if_pos c, zg_i (by decide), q1, hall, zwi_r (by omega)]
        unfold f_X10_handOutLogs f_X10_sellLogs
        have k1' : zb (zb (zit (f_X10_handOutLogs_5 F) F (zwi (zwi σ 40 s 0 0) 38 0 6 (σ.1 38 0 6 + nI (j / 4))) (nI a, nI (j / 4), 0)) fun r m => zit (f_X10_sellLogs_4 F) F m (r, 0)) (fun _ m => some (nI (j / 4), m)) = some (r, σ1) := k1
        rw [zb_zb] at k1'
        exact k1'
      · show f_X11_fell F σ1 (nI s) (nI a) = _
        have r3 : f_X11_riskOf F σ1 (nI s) 0 = some (zri σ s m 0, σ1) := by
          have := y_X11_riskOf σ1 F σ (nI s) 0
          rw [keep1, r2] at this
          rw [this]
          show some (_, zmx σ1 σ) = _
          rw [keep1]
        unfold f_X11_fell
        rw [u2 σ1 ((c1 60 0 32 (by omega)).trans e2), zb_s, if_neg (by decide), u4 σ1 ((c1 60 0 1 (by omega)).trans h2), zb_s, if_neg (by decide), r3, zb_s, if_pos c, zg_i i1, zg_i (by decide), i2, c1 93 0 s (by omega), hall, s_fell_47 F s (nI (j / 4)) F σ1 _ ⟨rfl, rfl⟩]
        have k2' : zb (zb (zit (zf47 F) F σ1 (nI s, nI a, nI (j / 4), nI (j / 4), 0)) fun l m => zit (zf131 F) F (zwi m 93 0 s 0) (nI (j / 4), l, 0)) (fun _ m => some (nI (j / 4), zwi m 60 0 45 (m.1 60 0 45 + nI (j / 4)))) = some (l, σ2) := k2
        rw [zb_zb] at k2'
        rw [← k2']
        congr 1
        funext l m
        rw [zg_i i1, i2, s_fell_131 F (nI (j / 4)) F _ _ rfl]
    · refine zOK_same hR (-1) ?_ ?_
      · simp only [f_X10_fell]
        rw [u1, zb_s, if_neg (by decide), n_X10_isHouse h1 F b, zb_s, if_pos rfl]
      · simp only [f_X11_fell]
        rw [u2 σ e2, zb_s, if_neg (by decide), n_X11_isHouse h2 F b, zb_s, if_pos rfl]
  · refine zOK_same hR (-1) ?_ ?_
    · simp only [f_X10_fell]
      rw [n_X7_has e1 F a, zb_s, if_pos rfl]
    · simp only [f_X11_fell]
      rw [n_X11_isSlope e2 F a, zb_s, if_pos rfl]
