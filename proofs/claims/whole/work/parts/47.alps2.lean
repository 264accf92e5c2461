theorem zfo_i {β γ : Type} (R : Nat → β → γ → Prop) {f : Nat → β → β} {g : Nat → γ → γ} : ∀ {n : Nat}, (∀ i, i < n → ∀ A B, R i A B → R (i + 1) (f i A) (g i B)) → ∀ A B, R 0 A B → R n (zfo f n A) (zfo g n B)
  | 0, _, _, _, h => h
  | n + 1, hs, A, B, h => hs n (by omega) _ _ (zfo_i R (fun i hi => hs i (by omega)) A B h)
theorem zfo_p {β : Type} (R : Nat → β → Prop) {f : Nat → β → β} : ∀ {n : Nat}, (∀ i, i < n → ∀ A, R i A → R (i + 1) (f i A)) → ∀ A, R 0 A → R n (zfo f n A)
  | 0, _, _, h => h
  | n + 1, hs, A, h => hs n (by omega) _ (zfo_p R (fun i hi => hs i (by omega)) A h)
/-- the same as far as there are alps and houses -/
def zeqA (A B : zAl) : Prop := (∀ j, j < 4 → A.1 j = B.1 j ∧ A.2.1 j = B.2.1 j) ∧ (∀ h, h < 10 → A.2.2.1 h = B.2.2.1 h ∧ A.2.2.2 h = B.2.2.2 h)
theorem zeqA_g {ht ar ht2 ar2 : Nat → Int32} {w f : Int32} {a : Nat} (ha : a < 4) (h1 : ht a = ht2 a) (h2 : ar a = ar2 a) {A B : zAl} (h : zeqA A B) : zeqA (zgA ht ar w f a A) (zgA ht2 ar2 w f a B) := by
  have e1 := (h.1 a ha).1
  have e2 := (h.1 a ha).2
  have es : zsn ht w f a A = zsn ht2 w f a B := by
    unfold zsn
    rw [h1, e2]
  refine ⟨fun j hj => ⟨?_, ?_⟩, h.2⟩
  · show (if zsn ht w f a A = 0 then (if 0 < w - 5 * ht a then zup1 A.1 a (zmin (10 * ar a) (A.1 a + zmin (w - 5 * ht a) 20 * ar a / 10)) else A.1) else A.1) j = (if zsn ht2 w f a B = 0 then (if 0 < w - 5 * ht2 a then zup1 B.1 a (zmin (10 * ar2 a) (B.1 a + zmin (w - 5 * ht2 a) 20 * ar2 a / 10)) else B.1) else B.1) j
    rw [es, h1, h2, e1]
    split
    · split
      · unfold zup1
        split
        · rfl
        · exact (h.1 j hj).1
      · exact (h.1 j hj).1
    · exact (h.1 j hj).1
  · show zup1 A.2.1 a (zsn ht w f a A) j = zup1 B.2.1 a (zsn ht2 w f a B) j
    rw [es]
    unfold zup1
    split
    · rfl
    · exact (h.1 j hj).2
theorem zeqA_f {up up2 : Nat → Nat → Int32} {a b : Nat} (ha : a < 4) (hb : b < 10) (hu : up a b = up2 a b) {A B : zAl} (h : zeqA A B) : zeqA (zfA up a b A) (zfA up2 a b B) := by
  have e1 := (h.1 a ha).1
  obtain ⟨e3, e4⟩ := h.2 b hb
  refine ⟨fun j hj => ⟨?_, (h.1 j hj).2⟩, fun j hj => ⟨?_, ?_⟩⟩
  · show zup1 A.1 a _ j = zup1 B.1 a _ j
    rw [hu, e1]
    unfold zup1
    split
    · rfl
    · exact (h.1 j hj).1
  · show zup1 A.2.2.1 b _ j = zup1 B.2.2.1 b _ j
    rw [hu, e1, e3]
    unfold zup1
    split
    · rfl
    · exact (h.2 j hj).1
  · show zup1 A.2.2.2 b _ j = zup1 B.2.2.2 b _ j
    rw [hu, e1, e4]
    unfold zup1
    split
    · rfl
    · exact (h.2 j hj).2
theorem zeqA_r {b : Nat} {A B : zAl} (h : zeqA A B) : zeqA (zrA b A) (zrA b B) := by
  refine ⟨h.1, fun j hj => ⟨?_, (h.2 j hj).2⟩⟩
  show zup1 A.2.2.1 b 0 j = zup1 B.2.2.1 b 0 j
  unfold zup1
  split
  · rfl
  · exact (h.2 j hj).1
/-- bounds of GRASS and MILK: k alps are done, and c houses of the next one -/
def zinA (up : Nat → Nat → Int32) (k c : Nat) (A : zAl) : Prop := (∀ j, j < 4 → zib (A.1 j) 0 990) ∧ (∀ h, h < 10 → 0 ≤ (A.2.2.1 h).toInt ∧ (A.2.2.1 h).toInt ≤ 8 * zsz (fun a => (up a h).toInt) (if h < c then k + 1 else k))
theorem zmin_b {x y : Int32} (hx : 0 ≤ x.toInt) (hy : 0 ≤ y.toInt) : 0 ≤ (zmin x y).toInt ∧ (zmin x y).toInt ≤ x.toInt ∧ (zmin x y).toInt ≤ y.toInt := by
  unfold zmin
  by_cases q : y < x
  · rw [if_pos q]
    have := Int32.lt_iff_toInt_lt.mp q
    omega
  · rw [if_neg q]
    have : ¬ y.toInt < x.toInt := fun k => q (Int32.lt_iff_toInt_lt.mpr k)
    omega
theorem div3 {x : Int32} (h : zib x 0 990) : (x / 3).toInt = x.toInt / 3 := by
  have k3 : (3 : Int32).toInt = 3 := rfl
  rw [Int32.toInt_div_of_ne_right _ _ (by decide), k3, Int.tdiv_eq_ediv_of_nonneg h.1]
theorem zinA_f {up : Nat → Nat → Int32} {k c : Nat} (hk : k < 4) (hc : c < 10) (hu : 0 ≤ (up k c).toInt ∧ (up k c).toInt ≤ 99) (hm : ∀ h, h < 10 → zsz (fun a => (up a h).toInt) k ≤ 99) {A : zAl} (h : zinA up k c A) : zinA up k (c + 1) (zfA up k c A) := by
  have g := h.1 k hk
  have g0 := g.1
  have g9 := g.2
  have d3 := div3 g
  obtain ⟨f0, f1, f2⟩ := zmin_b (x := up k c) (y := A.1 k / 3) hu.1 (by rw [d3]; omega)
  generalize hf : zmin (up k c) (A.1 k / 3) = fed at f0 f1 f2
  rw [d3] at f2
  have k3 : (3 : Int32).toInt = 3 := rfl
  have k8 : (8 : Int32).toInt = 8 := rfl
  have m3 : (3 * fed).toInt = 3 * fed.toInt := by rw [Int32.toInt_mul, k3, Int.bmod_eq_of_le (by omega) (by omega)]
  have m8 : (8 * fed).toInt = 8 * fed.toInt := by rw [Int32.toInt_mul, k8, Int.bmod_eq_of_le (by omega) (by omega)]
  have s3 : (A.1 k - 3 * fed).toInt = (A.1 k).toInt - 3 * fed.toInt := by rw [t_sub (by omega) (by omega), m3]
  refine ⟨fun j hj => ?_, fun j hj => ?_⟩
  · show zib (zup1 A.1 k (A.1 k - 3 * zmin (up k c) (A.1 k / 3)) j) 0 990
    rw [hf]
    unfold zup1
    split
    · exact ⟨by omega, by omega⟩
    · exact h.1 j hj
  · show 0 ≤ (zup1 A.2.2.1 c (A.2.2.1 c + 8 * zmin (up k c) (A.1 k / 3)) j).toInt ∧ (zup1 A.2.2.1 c (A.2.2.1 c + 8 * zmin (up k c) (A.1 k / 3)) j).toInt ≤ _
    rw [hf]
    by_cases e : j = c
    · subst e
      have p := h.2 j hj
      rw [if_neg (by omega)] at p
      have m := hm j hj
      rw [zup1_at, if_pos (by omega)]
      have a1 : (A.2.2.1 j + 8 * fed).toInt = (A.2.2.1 j).toInt + 8 * fed.toInt := by rw [t_add (by omega) (by omega), m8]
      rw [a1]
      show _ ∧ _ ≤ 8 * (zsz (fun a => (up a j).toInt) k + (up k j).toInt)
      omega
    · rw [zup1_ne _ _ e]
      have p := h.2 j hj
      by_cases q : j < c
      · rw [if_pos q] at p
        rw [if_pos (by omega)]
        exact p
      · rw [if_neg q] at p
        rw [if_neg (by omega)]
        exact p
theorem zinA_g {up : Nat → Nat → Int32} {ht ar : Nat → Int32} {w f : Int32} {k a : Nat} (ha : a < 4) (hr : zib (ar a) 0 99) {A : zAl} (h : zinA up k 0 A) : zinA up k 0 (zgA ht ar w f a A) := by
  refine ⟨fun j hj => ?_, h.2⟩
  show zib ((if zsn ht w f a A = 0 then (if 0 < w - 5 * ht a then zup1 A.1 a (zmin (10 * ar a) (A.1 a + zmin (w - 5 * ht a) 20 * ar a / 10)) else A.1) else A.1) j) 0 990
  split
  · split
    · rename_i q
      unfold zup1
      split
      · have g := h.1 a ha
        have g0 := g.1
        have g9 := g.2
        have r0 := hr.1
        have r9 := hr.2
        have k20 : (20 : Int32).toInt = 20 := rfl
        have k10 : (10 : Int32).toInt = 10 := rfl
        have t0 : (0 : Int32).toInt = 0 := rfl
        rw [Int32.lt_iff_toInt_lt] at q
        obtain ⟨f0, f1, f2⟩ := zmin_b (x := w - 5 * ht a) (y := 20) (by omega) (by omega)
        generalize zmin (w - 5 * ht a) 20 = m at f0 f1 f2
        have p0 : 0 ≤ m.toInt * (ar a).toInt := Int.mul_nonneg f0 r0
        have p1 : m.toInt * (ar a).toInt ≤ 20 * 99 := Int.le_trans (Int.mul_le_mul_of_nonneg_right (show m.toInt ≤ 20 by omega) r0) (Int.mul_le_mul_of_nonneg_left r9 (by omega))
        have e1 : (m * ar a).toInt = m.toInt * (ar a).toInt := by rw [Int32.toInt_mul, Int.bmod_eq_of_le (by omega) (by omega)]
        have e2 : (m * ar a / 10).toInt = m.toInt * (ar a).toInt / 10 := by rw [Int32.toInt_div_of_ne_right _ _ (by decide), k10, Int.tdiv_eq_ediv_of_nonneg (by omega), e1]
        have e3 : (10 * ar a).toInt = 10 * (ar a).toInt := by rw [Int32.toInt_mul, k10, Int.bmod_eq_of_le (by omega) (by omega)]
        have e4 : (A.1 a + m * ar a / 10).toInt = (A.1 a).toInt + m.toInt * (ar a).toInt / 10 := by rw [t_add (by omega) (by omega), e2]
        obtain ⟨h0, h1, h2⟩ := zmin_b (x := 10 * ar a) (y := A.1 a + m * ar a / 10) (by omega) (by omega)
        exact ⟨h0, by omega⟩
      · exact h.1 j hj
    · exact h.1 j hj
  · exact h.1 j hj
/-- a day's alps -/
def zdA (up : Nat → Nat → Int32) (ht ar : Nat → Int32) (w f : Int32) (n m : Nat) (A : zAl) : zAl := zfo (fun a A => zfo (fun h => zfA up a h) n A) m (zfo (fun a => zgA ht ar w f a) m (zfo zrA n A))
theorem zdA_eq {up up2 : Nat → Nat → Int32} {ht ar ht2 ar2 : Nat → Int32} {w f : Int32} {n m : Nat} (hm : m ≤ 4) (hn : n ≤ 10) (h1 : ∀ a, a < 4 → ht a = ht2 a) (h2 : ∀ a, a < 4 → ar a = ar2 a) (h3 : ∀ a h, a < 4 → h < 10 → up a h = up2 a h) {A B : zAl} (h : zeqA A B) : zeqA (zdA up ht ar w f n m A) (zdA up2 ht2 ar2 w f n m B) := by
  have r : zeqA (zfo zrA n A) (zfo zrA n B) := zfo_i (f := zrA) (g := zrA) (fun _ => zeqA) (fun b hb A B h => zeqA_r h) A B h
  have g : zeqA (zfo (fun a => zgA ht ar w f a) m (zfo zrA n A)) (zfo (fun a => zgA ht2 ar2 w f a) m (zfo zrA n B)) := zfo_i (f := fun a => zgA ht ar w f a) (g := fun a => zgA ht2 ar2 w f a) (fun _ => zeqA) (fun a ha A B h => zeqA_g (by omega) (h1 a (by omega)) (h2 a (by omega)) h) _ _ r
  exact zfo_i (f := fun a A => zfo (fun h => zfA up a h) n A) (g := fun a A => zfo (fun h => zfA up2 a h) n A) (fun _ => zeqA) (fun a ha A B h => zfo_i (f := fun h => zfA up a h) (g := fun h => zfA up2 a h) (fun _ => zeqA) (fun b hb A B h => zeqA_f (by omega) (by omega) (h3 a b (by omega) (by omega)) h) A B h) _ _ g
theorem zdA_in {up : Nat → Nat → Int32} {ht ar : Nat → Int32} {w f : Int32} {n m : Nat} (hm : m ≤ 4) (hn : n ≤ 10) (upb : ∀ a h, a < 4 → h < 10 → 0 ≤ (up a h).toInt ∧ (up a h).toInt ≤ 99) (zs4 : ∀ k h, k ≤ 4 → h < 10 → zsz (fun a => (up a h).toInt) k ≤ 99) (y6 : ∀ a, a < 4 → zib (ar a) 0 99) {A : zAl} (g0 : ∀ j, j < 4 → zib (A.1 j) 0 990) (m0 : ∀ h, n ≤ h → h < 10 → A.2.2.1 h = 0) : (∀ j, j < 4 → zib ((zdA up ht ar w f n m A).1 j) 0 990) ∧ (∀ h, h < 10 → zib ((zdA up ht ar w f n m A).2.2.1 h) 0 792) ∧ (∀ h, n ≤ h → h < 10 → (zdA up ht ar w f n m A).2.2.1 h = 0) := by
  have z0 : ∀ k, k ≤ 10 → (∀ j, j < 4 → zib ((zfo zrA k A).1 j) 0 990) ∧ (∀ h, h < 10 → (h < k → (zfo zrA k A).2.2.1 h = 0) ∧ (k ≤ h → (zfo zrA k A).2.2.1 h = A.2.2.1 h)) := by
    intro k
    induction k with
    | zero => exact fun _ => ⟨g0, fun h _ => ⟨fun q => by omega, fun _ => rfl⟩⟩
    | succ k ih =>
      intro hk
      obtain ⟨i1, i2⟩ := ih (by omega)
      refine ⟨i1, fun h hh => ?_⟩
      show (h < k + 1 → zup1 _ k 0 h = 0) ∧ (k + 1 ≤ h → zup1 _ k 0 h = _)
      unfold zup1
      by_cases e : h = k
      · rw [if_pos e]
        exact ⟨fun _ => rfl, fun q => by omega⟩
      · rw [if_neg e]
        exact ⟨fun q => (i2 h hh).1 (by omega), fun q => (i2 h hh).2 (by omega)⟩
  obtain ⟨i1, i2⟩ := z0 n hn
  have zz : ∀ h, h < 10 → (zfo zrA n A).2.2.1 h = 0 := fun h hh => by
    by_cases q : h < n
    · exact (i2 h hh).1 q
    · rw [(i2 h hh).2 (by omega)]
      exact m0 h (by omega) hh
  have st0 : zinA up 0 0 (zfo zrA n A) := ⟨i1, fun h hh => by
    rw [if_neg (by omega), zz h hh]
    exact ⟨Int.le_refl 0, Int.le_refl 0⟩⟩
  have st : zinA up 0 0 (zfo (fun a => zgA ht ar w f a) m (zfo zrA n A)) := zfo_p (f := fun a => zgA ht ar w f a) (fun _ => zinA up 0 0) (fun a ha A h => zinA_g (by omega) (y6 a (by omega)) h) _ st0
  have fin : zinA up m 0 (zdA up ht ar w f n m A) := by
    refine zfo_p (f := fun a A => zfo (fun h => zfA up a h) n A) (fun k => zinA up k 0) (fun a ha A h => ?_) _ st
    have q := zfo_p (fun c => zinA up a c) (f := fun h => zfA up a h) (n := n) (fun b hb A h => zinA_f (by omega) (by omega) (upb a b (by omega) (by omega)) (fun h hh => zs4 a h (by omega) hh) h) A h
    refine ⟨q.1, fun h hh => ?_⟩
    have p := q.2 h hh
    rw [if_neg (by omega)]
    by_cases c : h < n
    · rw [if_pos c] at p
      exact p
    · rw [if_neg c] at p
      refine ⟨p.1, ?_⟩
      have k1 := zsz_mono (f := fun a => (up a h).toInt) a 1 (fun i _ hi => (upb i h (by omega) hh).1)
      exact Int.le_trans p.2 (by omega)
  refine ⟨fin.1, fun h hh => ?_, fun h h1 h2 => ?_⟩
  · have p := fin.2 h hh
    rw [if_neg (by omega)] at p
    have := zs4 m h hm hh
    exact ⟨p.1, by omega⟩
  · have p2 : (zfo (fun a => zgA ht ar w f a) m (zfo zrA n A)).2.2.1 h = 0 := zfo_p (β := zAl) (f := fun a => zgA ht ar w f a) (fun _ A => A.2.2.1 h = 0) (fun b hb A e => e) _ (zz h h2)
    refine zfo_p (β := zAl) (f := fun a A => zfo (fun h => zfA up a h) n A) (fun _ A => A.2.2.1 h = 0) (fun a ha A e => ?_) _ p2
    refine zfo_p (β := zAl) (f := fun h => zfA up a h) (fun _ A => A.2.2.1 h = 0) (fun b hb A e => ?_) _ e
    show zup1 A.2.2.1 b _ h = _
    rw [zup1_ne _ _ (by omega)]
    exact e
/-- the first part of a day: MILK anew, the alps grow, are grazed -/
def zC1 (F : Nat) (w f : Int32) (σ : zMem) : Option (Unit × zMem) := zb (zit (zd28 F) F σ (w, f, 0)) fun _ m => zit (zd54 F) F m (w, f, 0)
theorem zalr_c {σ : zMem} {A : zAl} : zmx (zalc σ A) σ = zalc σ A := by
  refine Prod.ext ?_ ?_
  · funext k i j
    by_cases hk : k < 60
    · exact zmx_x hk _ _
    · rw [zmx_y (by omega), zalc_o σ A (by omega)]
  · funext k i j
    show (if k < 60 then _ else _) = _
    split <;> rfl
theorem j_alps {σ : zMem} (hR : zRel σ) {F n d : Nat} (hF : 8000 < F) (hn : n ≤ 10) (hd : d < 7200) (e1 : σ.1 0 0 1 = nI n) (ed : σ.1 60 0 0 = nI d) : zJ (fun _ _ τ => zRel τ ∧ τ.1 0 0 1 = nI n ∧ τ.1 60 0 0 = nI d ∧ (∀ w i, zsk τ w i = zsk σ w i)) (fun σ => zC1 F (zsk σ 0 (d + 1)) (zsk σ 1 (d + 1)) σ) (fun σ => f_X11_fields F σ) σ := by
  have e2 : σ.1 60 0 1 = nI n := hR.1.2.1.trans e1
  obtain ⟨-, -, ⟨m, hm, em, hz⟩, em2, g4, eg, es⟩ := id hR.2.2.2.2.1
  have em2 := em2.trans em
  have eu := hR.1.2.2.2.2.2
  obtain ⟨y1, y2, y3, y4, y5, y6, y7, y8, y9, y10⟩ := id hR.2.2.2.2.2.2.2.2.2.2
  -- the class
  have c1 := e_zd28 (σ := σ) (A := (fun j => σ.1 28 0 j, fun j => σ.1 29 0 j, fun i => σ.1 2 i 4, fun i => σ.1 2 i 3)) (F := F) (by omega) hn e1 (zsk σ 0 (d + 1)) (zsk σ 1 (d + 1))
  rw [zalc_0] at c1
  have c2 := e_zd54 (σ := σ) (A := zfo zrA n (fun j => σ.1 28 0 j, fun j => σ.1 29 0 j, fun i => σ.1 2 i 4, fun i => σ.1 2 i 3)) (F := F) (by omega) hn hm e1 em (zsk σ 0 (d + 1)) (zsk σ 1 (d + 1))
  rw [zal_eq] at c2
  have c2 : zit (zd54 F) F (zalc σ (zfo zrA n (fun j => σ.1 28 0 j, fun j => σ.1 29 0 j, fun i => σ.1 2 i 4, fun i => σ.1 2 i 3))) (zsk σ 0 (d + 1), zsk σ 1 (d + 1), 0) = some ((), zalc σ (zdA (fun a h => σ.1 4 h a) (fun j => σ.1 26 0 j) (fun j => σ.1 27 0 j) (zsk σ 0 (d + 1)) (zsk σ 1 (d + 1)) n m (fun j => σ.1 28 0 j, fun j => σ.1 29 0 j, fun i => σ.1 2 i 4, fun i => σ.1 2 i 3))) := c2
  generalize hAc : zdA (fun a h => σ.1 4 h a) (fun j => σ.1 26 0 j) (fun j => σ.1 27 0 j) (zsk σ 0 (d + 1)) (zsk σ 1 (d + 1)) n m (fun j => σ.1 28 0 j, fun j => σ.1 29 0 j, fun i => σ.1 2 i 4, fun i => σ.1 2 i 3) = Ac at c2
  -- the reference
  have rc : ∀ k i j, 60 ≤ k → (zalc σ Ac).1 k i j = σ.1 k i j := fun k i j hk => zalc_o σ Ac (by omega)
  have r1 := e_X11_fields (σ := zalc σ Ac) (F := F) (m := m) (n := n) (d := d) hF hm hn hd ((rc _ _ _ (by omega)).trans ed) ((rc _ _ _ (by omega)).trans e2) ((rc _ _ _ (by omega)).trans em2) ((rc _ _ _ (by omega)).trans eu) ((rc _ _ _ (by omega)).trans eg) ((rc _ _ _ (by omega)).trans es)
  rw [zsk_s (σ := σ) (s := zalc σ Ac) (by funext i j; exact rc _ _ _ (by omega)) (by funext i j; exact rc _ _ _ (by omega)), zsk_s (σ := σ) (s := zalc σ Ac) (by funext i j; exact rc _ _ _ (by omega)) (by funext i j; exact rc _ _ _ (by omega))] at r1
  have f1 : ∀ k, 60 ≤ k → (fun j => (zalc σ Ac).1 k 0 j) = fun j => σ.1 k 0 j := fun k hk => by funext j; exact rc _ _ _ hk
  have f2 : (fun a h => (zalc σ Ac).1 72 a h) = fun a h => σ.1 72 a h := by funext a h; exact rc _ _ _ (by omega)
  rw [f2, f1 87 (by omega), f1 88 (by omega), f1 89 (by omega), f1 90 (by omega), f1 64 (by omega), f1 63 (by omega)] at r1
  have r1 : f_X11_fields F (zalc σ Ac) = some ((), zalr (zalc σ Ac) (zdA (fun a h => σ.1 72 a h) (fun j => σ.1 87 0 j) (fun j => σ.1 88 0 j) (zsk σ 0 (d + 1)) (zsk σ 1 (d + 1)) n m (fun j => σ.1 89 0 j, fun j => σ.1 90 0 j, fun i => σ.1 64 0 i, fun i => σ.1 63 0 i))) := r1
  have eqA : zeqA Ac (zdA (fun a h => σ.1 72 a h) (fun j => σ.1 87 0 j) (fun j => σ.1 88 0 j) (zsk σ 0 (d + 1)) (zsk σ 1 (d + 1)) n m (fun j => σ.1 89 0 j, fun j => σ.1 90 0 j, fun i => σ.1 64 0 i, fun i => σ.1 63 0 i)) := by
    rw [← hAc]
    refine zdA_eq hm hn (fun a ha => (g4 a ha).1) (fun a ha => (g4 a ha).2.1) (fun a h ha hh => hR.1.2.2.2.2.1 h a hh ha) ⟨fun j hj => ⟨(g4 j hj).2.2.1, (g4 j hj).2.2.2⟩, fun h hh => ?_⟩
    obtain ⟨-, q2, q3, -⟩ := hR.1.2.2.2.1 h hh
    exact ⟨q3, q2⟩
  -- bounds
  have upb : ∀ a h, a < 4 → h < 10 → 0 ≤ (σ.1 72 a h).toInt ∧ (σ.1 72 a h).toInt ≤ 99 := by
    intro a h ha hh
    obtain ⟨k1, k2⟩ := y2 h hh
    have k3 := (y1 h hh).2.2.1.2
    have b0 := k1 0 (by omega)
    have b1 := k1 1 (by omega)
    have b2 := k1 2 (by omega)
    have b3 := k1 3 (by omega)
    have : a = 0 ∨ a = 1 ∨ a = 2 ∨ a = 3 := by omega
    rcases this with e | e | e | e <;> rw [e] <;> omega
  have zs4 : ∀ k h, k ≤ 4 → h < 10 → zsz (fun a => (σ.1 72 a h).toInt) k ≤ 99 := by
    intro k h hk hh
    have k1 := zsz_mono (f := fun a => (σ.1 72 a h).toInt) k (4 - k) (fun i _ hi => (upb i h (by omega) hh).1)
    rw [show k + (4 - k) = 4 by omega] at k1
    have k2 := (y2 h hh).2
    have k3 := (y1 h hh).2.2.1.2
    have k4 : zsz (fun a => (σ.1 72 a h).toInt) 4 = 0 + (σ.1 72 0 h).toInt + (σ.1 72 1 h).toInt + (σ.1 72 2 h).toInt + (σ.1 72 3 h).toInt := rfl
    omega
  have inA := zdA_in (up := fun a h => σ.1 72 a h) (ht := fun j => σ.1 87 0 j) (ar := fun j => σ.1 88 0 j) (w := zsk σ 0 (d + 1)) (f := zsk σ 1 (d + 1)) (n := n) (m := m) (A := (fun j => σ.1 89 0 j, fun j => σ.1 90 0 j, fun i => σ.1 64 0 i, fun i => σ.1 63 0 i)) hm hn upb zs4 (fun a ha => (y6 a ha).1) (fun j hj => (y6 j hj).2) (fun h h1 h2 => (y5 h h2 (by rw [e2]; exact (nI_leI (by omega) (by omega)).mpr h1)).2.1)
  generalize zdA (fun a h => σ.1 72 a h) (fun j => σ.1 87 0 j) (fun j => σ.1 88 0 j) (zsk σ 0 (d + 1)) (zsk σ 1 (d + 1)) n m (fun j => σ.1 89 0 j, fun j => σ.1 90 0 j, fun i => σ.1 64 0 i, fun i => σ.1 63 0 i) = Ar at r1 eqA inA
  refine ⟨(), (), zalc σ Ac, zalr (zalc σ Ac) Ar, ?_, r1, ?_, ?_, ?_, ?_⟩
  · show zC1 F _ _ σ = _
    unfold zC1
    rw [c1, zb_s, c2]
  · obtain ⟨a1, a2⟩ := eqA
    obtain ⟨b1, b2, b3⟩ := inA
    obtain ⟨hh, hr, hw, hk, ha, hd, hl, hc, ht, hb, hQ⟩ := hR
    refine ⟨?_, ?_, ?_, ?_, ?_, ?_, ?_, ?_, ?_, ?_, ?_⟩
    · obtain ⟨g1, g2, g3, g4, g5, g6⟩ := hh
      refine ⟨by simpa [zalc, zalr] using g1, by simpa [zalc, zalr] using g2, by simpa [zalc, zalr] using g3, fun y hy => ?_, by simpa [zalc, zalr] using g5, by simpa [zalc, zalr] using g6⟩
      obtain ⟨k1, k2, k3, k4, k5, k6, k7, k8, k9⟩ := g4 y hy
      obtain ⟨m1, m2⟩ := a2 y hy
      simp [zalc, zalr, k1, k4, k5, k6, k7, k8, k9, m1, m2]
    · simpa [zRr, zalc, zalr] using hr
    · simpa [zRw, zalc, zalr] using hw
    · simpa [zRk, zalc, zalr] using hk
    · obtain ⟨p1, p2, p3, p4, p5, p6, p7⟩ := ha
      refine ⟨by simpa [zalc, zalr] using p1, by simpa [zalc, zalr] using p2, by simpa [zalc, zalr] using p3, by simpa [zalc, zalr] using p4, fun a h1 => ?_, by simpa [zalc, zalr] using p6, by simpa [zalc, zalr] using p7⟩
      obtain ⟨k1, k2, -, -⟩ := p5 a h1
      obtain ⟨m1, m2⟩ := a1 a h1
      simp [zalc, zalr, k1, k2, m1, m2]
    · simpa [zRd, zalc, zalr] using hd
    · simpa [zRl, zalc, zalr] using hl
    · simpa [zRc, zalc, zalr] using hc
    · simpa [zRt, zalc, zalr] using ht
    · simpa [zRb, zalc, zalr] using hb
    · refine ⟨by simpa [zalc, zalr] using y1, by simpa [zalc, zalr] using y2, by simpa [zalc, zalr] using y3, by simpa [zalc, zalr] using y4, fun h h1 h2 => ?_, fun a h1 => ?_, by simpa [zalc, zalr] using y7, fun h h1 => ?_, by simpa [zalc, zalr] using y9, by simpa [zalc, zalr] using y10⟩
      · have h3 : σ.1 60 0 1 ≤ nI h := by simpa [zalc, zalr] using h2
        have h4 : n ≤ h := by
          rw [e2] at h3
          exact (nI_leI (by omega) (by omega)).mp h3
        have h5 := y5 h h1 h3
        have h6 := b3 h h4 h1
        simpa [zalc, zalr, h6] using (⟨h5.1, h5.2.2.1, h5.2.2.2.1, h5.2.2.2.2⟩ : _ ∧ _ ∧ _ ∧ _)
      · simpa [zalc, zalr] using (⟨(y6 a h1).1, b1 a h1⟩ : _ ∧ _)
      · have h5 := y8 h h1
        simpa [zalc, zalr] using (⟨b2 h h1, h5.2.1, h5.2.2⟩ : _ ∧ _ ∧ _)
  · rw [zalr_o _ _ (by omega), zalc_o _ _ (by omega)]
    exact e1
  · rw [zalr_o _ _ (by omega), zalc_o _ _ (by omega)]
    exact ed
  · intro w i
    refine zsk_s ?_ ?_ i
    · funext a b
      rw [zalr_o _ _ (by omega), zalc_o _ _ (by omega)]
    · funext a b
      rw [zalr_o _ _ (by omega), zalc_o _ _ (by omega)]
