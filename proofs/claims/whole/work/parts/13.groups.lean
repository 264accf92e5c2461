/-! the relation zR, by groups -/
/-- rights -/
def zRr (σ : zMem) : Prop :=
  (∃ n, n ≤ 50 ∧ σ.1 5 0 5 = nI n ∧ (∀ r, n ≤ r → r < 50 → σ.1 10 0 r = 0)) ∧ σ.1 60 0 12 = σ.1 5 0 5 ∧
  (∀ r, r < 50 → σ.1 6 0 r = σ.1 73 0 r ∧ σ.1 7 0 r = σ.1 74 0 r ∧ σ.1 8 0 r = σ.1 75 0 r ∧ (σ.1 10 0 r = σ.1 77 0 r ∧ σ.1 9 0 r = σ.1 76 0 r ∨ σ.1 10 0 r = 0 ∧ σ.1 77 0 r = -1)) ∧
  (∀ r, r < 50 → 0 ≤ σ.1 73 0 r ∧ σ.1 73 0 r ≤ 5 ∧ 0 ≤ σ.1 75 0 r)
/-- words and the tape -/
def zRw (σ : zMem) : Prop :=
  (∃ n, n ≤ 40 ∧ σ.1 11 0 1 = nI n ∧ (∀ w, n ≤ w → w < 40 → σ.1 13 w 4 = 0)) ∧ σ.1 60 0 20 = σ.1 11 0 1 ∧
  (∃ n, n ≤ 100 ∧ σ.1 11 0 3 = nI n ∧ (∀ j, j < n → ∃ b, b < 256 ∧ σ.1 78 0 j = nI b ∧ σ.1 19 0 j = (nI b).toInt8.toInt32)) ∧ σ.1 60 0 19 = σ.1 11 0 3 ∧
  (∀ w, w < 40 → nI w < σ.1 11 0 1 → σ.1 13 w 0 = σ.1 80 w 0 ∧ σ.1 13 w 1 = σ.1 80 w 1 ∧ σ.1 13 w 2 = σ.1 80 w 4 ∧ (σ.1 13 w 4 = 0 ∧ σ.1 80 w 5 = -1 ∨ σ.1 13 w 4 = 1 ∧ σ.1 80 w 5 = σ.1 13 w 3 ∧ 0 ≤ σ.1 13 w 3) ∧
    (∃ t, t ≤ 4 ∧ σ.1 13 w 6 = nI t ∧ (t = 0 ∧ σ.1 80 w 2 = 0 ∨ 0 < t ∧ σ.1 80 w 3 = nI t ∧ (σ.1 13 w 5 = 0 ∧ σ.1 80 w 2 = 1 ∨ σ.1 13 w 5 = 1 ∧ σ.1 80 w 2 = 2)) ∧
      ∀ i, i < t → σ.1 17 w i = σ.1 82 w (6 * i) ∧ (σ.1 17 w i = 0 ∨ σ.1 17 w i = 1) ∧ σ.1 14 w i = σ.1 82 w (6 * i + 1) ∧ (∃ g, g < 3 ∧ σ.1 15 w i = nI g ∧ σ.1 82 w (6 * i + 3) = nI (60 + g)) ∧ σ.1 16 w i = σ.1 82 w (6 * i + 4) ∧ σ.1 18 w i = σ.1 82 w (6 * i + 5) ∧ (σ.1 18 w i = 0 ∨ σ.1 18 w i = 1)))
/-- warmth and fall: how many days of a block were told -/
def ztold (f : Nat → Int32) (b : Nat) : Nat → Nat
  | 0 => 0
  | n + 1 => ztold f b n + if f (60 * b + n) = 0 then 0 else 1
def zRk (σ : zMem) : Prop :=
  (∀ w d, w < 2 → d < 7200 → (σ.1 22 w d = 0 ∧ σ.1 86 w d = 0) ∨ (σ.1 22 w d = σ.1 84 w d + 41 ∧ σ.1 86 w d = 1 ∧ -40 ≤ σ.1 84 w d ∧ σ.1 84 w d ≤ 200 ∧ (w = 0 → σ.1 84 w d ≤ 40) ∧ (w = 1 → 0 ≤ σ.1 84 w d))) ∧
  (∀ w b, w < 2 → b < 120 → σ.1 24 w b = nI (ztold (fun d => σ.1 22 w d) b 60))
/-- the day; alps -/
def zRa (σ : zMem) : Prop :=
  (∃ d, d ≤ 7199 ∧ σ.1 0 0 11 = nI d) ∧ σ.1 60 0 0 = σ.1 0 0 11 ∧
  (∃ n, n ≤ 4 ∧ σ.1 25 0 4 = nI n ∧ (∀ h a, h < 10 → n ≤ a → a < 4 → σ.1 72 a h = 0)) ∧ σ.1 60 0 25 = σ.1 25 0 4 ∧
  (∀ a, a < 4 → σ.1 26 0 a = σ.1 87 0 a ∧ σ.1 27 0 a = σ.1 88 0 a ∧ σ.1 28 0 a = σ.1 89 0 a ∧ σ.1 29 0 a = σ.1 90 0 a) ∧
  σ.1 60 0 28 = 89 ∧ σ.1 60 0 29 = 90
/-- the book -/
def zRd (σ : zMem) : Prop :=
  (∃ n, n ≤ 512 ∧ σ.1 0 0 10 = nI n) ∧ σ.1 60 0 30 = σ.1 0 0 10 ∧ (∀ i c, i < 200 → c < 6 → σ.1 50 c i = σ.1 92 i c)
/-- slopes and the way -/
def zRl (σ : zMem) : Prop :=
  (∃ n, n ≤ 6 ∧ σ.1 38 0 1 = nI n) ∧ σ.1 60 0 32 = σ.1 38 0 1 ∧
  (∀ s, s < 6 → σ.1 40 s 0 = σ.1 93 0 s ∧ σ.1 40 s 3 = σ.1 94 0 s ∧ (σ.1 94 0 s = 0 ∨ σ.1 94 0 s = 1) ∧ 0 ≤ σ.1 93 0 s ∧ σ.1 93 0 s ≤ 400 ∧ σ.1 40 s 2 = σ.1 100 0 s ∧
    ∃ m, m ≤ 6 ∧ σ.1 40 s 1 = nI m ∧ σ.1 95 0 s = nI m ∧ ∀ i, i < m → σ.1 41 s i = σ.1 97 s i ∧ σ.1 42 s i = σ.1 99 s i ∧ (σ.1 99 s i = 0 ∨ σ.1 99 s i = 1)) ∧
  σ.1 38 0 2 = σ.1 60 0 39 ∧ (σ.1 60 0 39 = 0 ∨ σ.1 60 0 39 = 1) ∧ σ.1 38 0 3 = σ.1 60 0 40 ∧ σ.1 38 0 4 = σ.1 60 0 41 ∧ σ.1 38 0 5 = σ.1 60 0 42 ∧ σ.1 38 0 6 = σ.1 60 0 45
/-- channel, turns, the year, what was measured -/
def zRc (σ : zMem) : Prop :=
  (∃ n, n ≤ 10 ∧ σ.1 43 0 2 = nI n) ∧ σ.1 60 0 46 = σ.1 43 0 2 ∧ (∀ i, i < 10 → σ.1 44 0 i = σ.1 101 0 i ∧ σ.1 45 0 i = σ.1 102 0 i) ∧
  (∀ k, k < 3 → σ.1 51 0 k = σ.1 103 0 k ∧ (σ.1 103 0 k = -1 ∨ 0 ≤ σ.1 103 0 k ∧ σ.1 103 0 k < σ.1 60 0 1)) ∧ σ.1 0 0 15 = σ.1 60 0 50 ∧ (σ.1 103 0 1 = -1 ∨ 1 ≤ σ.1 60 0 50) ∧
  σ.1 0 0 13 = σ.1 60 0 51 ∧ (σ.1 0 0 12 = 1 ∧ σ.1 60 0 0 ≠ 0 ∧ σ.1 60 0 43 ≠ σ.1 60 0 0 ∨ σ.1 0 0 12 = 0 ∧ (σ.1 60 0 0 = 0 ∨ σ.1 60 0 43 = σ.1 60 0 0)) ∧ σ.1 60 0 43 ≤ σ.1 60 0 0 ∧
  σ.1 60 0 44 = zsum (fun h => σ.1 2 h 7) 10
/-- sheets -/
def zRt (σ : zMem) : Prop :=
  ∀ s, s < 3 → σ.1 47 s 0 = σ.1 104 0 s ∧ -1 ≤ σ.1 104 0 s ∧ σ.1 104 0 s ≤ 2 ∧ σ.1 47 s 1 = σ.1 105 0 s ∧ (∃ n, n ≤ 60 ∧ σ.1 105 0 s = nI n) ∧ ∀ i, i < 60 → (σ.1 109 s i = 1 ∧ σ.2 48 s i = -9000000000) ∨ (σ.1 109 s i = 0 ∧ σ.2 48 s i = (σ.1 107 s i).toInt64)
/-- the trace -/
def zRb (σ : zMem) : Prop :=
  (∃ n, n ≤ 20 ∧ σ.1 0 0 17 = nI n) ∧ σ.1 60 0 57 = σ.1 0 0 17 ∧ (∀ i, i < 20 → nI i < σ.1 0 0 17 → σ.1 52 0 i = σ.1 110 0 i)
def zib (x : Int32) (a b : Int) : Prop := a ≤ x.toInt ∧ x.toInt ≤ b
def zsz (f : Nat → Int) : Nat → Int
  | 0 => 0
  | n + 1 => zsz f n + f n
/-- bounds -/
def zRz (σ : zMem) : Prop :=
  (∀ h, h < 10 → zib (σ.1 62 h 0) 0 9 ∧ zib (σ.1 62 h 1) 0 20 ∧ zib (σ.1 62 h 2) 0 99 ∧ zib (σ.1 62 h 3) 0 99999 ∧ zib (σ.1 62 h 4) 0 99999999) ∧
  (∀ h, h < 10 → (∀ a, a < 4 → 0 ≤ (σ.1 72 a h).toInt) ∧ (σ.1 72 0 h).toInt + (σ.1 72 1 h).toInt + (σ.1 72 2 h).toInt + (σ.1 72 3 h).toInt ≤ (σ.1 62 h 2).toInt) ∧
  (∀ w, w < 40 → nI w < σ.1 11 0 1 → zib (σ.1 13 w 1) 0 99999) ∧
  (zsz (fun r => (σ.1 75 0 r).toInt) 50 ≤ 999 * (σ.1 60 0 12).toInt) ∧
  (∀ h, h < 10 → σ.1 60 0 1 ≤ nI h → σ.1 62 h 2 = 0 ∧ σ.1 64 0 h = 0 ∧ σ.1 65 0 h = 0 ∧ σ.1 66 0 h = 0 ∧ σ.1 68 0 h = 0) ∧
  (∀ a, a < 4 → zib (σ.1 88 0 a) 0 99 ∧ zib (σ.1 89 0 a) 0 990) ∧
  (∀ s i, s < 6 → i < 6 → nI i < σ.1 95 0 s → zib (σ.1 97 s i) 0 (if i = 0 then 200 * (σ.1 60 0 0).toInt else 200)) ∧
  (∀ h, h < 10 → zib (σ.1 64 0 h) 0 792 ∧ zib (σ.1 65 0 h) 0 (792 * ((σ.1 60 0 43).toInt + 1)) ∧ -100000 ≤ (σ.1 66 0 h).toInt) ∧
  (zsz (fun h => (σ.1 66 0 h).toInt) 10 ≤ 0 ∧ -10 * ((σ.1 60 0 43).toInt + 1) ≤ zsz (fun h => (σ.1 66 0 h).toInt) 10 ∧ ((∃ h, h < 10 ∧ σ.1 65 0 h ≠ 0) → -10 * (σ.1 60 0 43).toInt ≤ zsz (fun h => (σ.1 66 0 h).toInt) 10)) ∧
  (∃ n g, σ.1 0 0 10 = nI n ∧ σ.1 999 0 0 = nI g ∧ n + g ≤ 512)
def zRel (σ : zMem) : Prop := zRh σ ∧ zRr σ ∧ zRw σ ∧ zRk σ ∧ zRa σ ∧ zRd σ ∧ zRl σ ∧ zRc σ ∧ zRt σ ∧ zRb σ ∧ zRz σ
/-- the class's call and the reference's answer the same, and the relation holds behind both -/
def zOK (f g : zMem → Option (Int32 × zMem)) (σ : zMem) : Prop := ∃ (r : Int32) (σ1 σ2 : zMem), f σ = some (r, σ1) ∧ g σ1 = some (r, σ2) ∧ zRel σ2
theorem zOK_i {f g : zMem → Option (Int32 × zMem)} {σ : zMem} (r : Int32) (σ1 σ2 : zMem) (h1 : f σ = some (r, σ1)) (h2 : g σ1 = some (r, σ2)) (h3 : zRel σ2) : zOK f g σ := ⟨r, σ1, σ2, h1, h2, h3⟩
theorem zbo_ne {x : Int32} (b : Bool) (h : x = if b then 1 else 0) : zbo x = true := by
  cases b <;> simp at h <;> subst h <;> rfl
theorem zbo_01 {x : Int32} (h : x = 0 ∨ x = 1) : zbo x = true := by
  rcases h with rfl | rfl <;> rfl
theorem a_shut {σ : zMem} (hR : zRel σ) (F : Nat) {x : Int32} (hx : x = 0 ∨ x = 1) : zOK (fun σ => f_X10_shut F σ x) (fun σ => f_X11_shut F σ x) σ := by
  obtain ⟨hh, hr, hw, hk, ha, hd, hl, hc, ht, hb, hQ⟩ := hR
  have hl0 := hl
  obtain ⟨l1, l2, l3, l4, l5, l6, l7, l8, l9⟩ := hl0
  by_cases e : σ.1 60 0 39 = x
  · refine zOK_i 0 σ (zwi σ 60 0 39 x) ?_ ?_ ?_
    · simp [f_X10_shut, l4, e]
    · simp [f_X11_shut, e, zbo_01 hx, zg]
    · have : zwi σ 60 0 39 x = σ := by
        refine Prod.ext ?_ rfl
        funext a b c
        by_cases q : a = 60 ∧ b = 0 ∧ c = 39
        · obtain ⟨rfl, rfl, rfl⟩ := q
          simp [zwi, zu, e]
        · simp [zwi, zu, q]
      rw [this]
      exact ⟨hh, hr, hw, hk, ha, hd, hl, hc, ht, hb, hQ⟩
  · refine zOK_i 1 (zwi σ 38 0 2 x) (zwi (zwi σ 38 0 2 x) 60 0 39 x) ?_ ?_ ?_
    · simp [f_X10_shut, l4, e, zbo_01 hx, zg]
    · simp [f_X11_shut, zwi, zu, e, zbo_01 hx, zg]
    · refine ⟨?_, ?_, ?_, ?_, ?_, ?_, ?_, ?_, ?_, ?_, ?_⟩
      · simpa [zRh, zwi, zu] using hh
      · simpa [zRr, zwi, zu] using hr
      · simpa [zRw, zwi, zu] using hw
      · simpa [zRk, zwi, zu] using hk
      · simpa [zRa, zwi, zu] using ha
      · simpa [zRd, zwi, zu] using hd
      · simp [zRl, zwi, zu] at l1 l2 l3 ⊢
        exact ⟨l1, l2, l3, hx, l6, l7, l8, l9⟩
      · simpa [zRc, zwi, zu] using hc
      · simpa [zRt, zwi, zu] using ht
      · simpa [zRb, zwi, zu] using hb
      · simpa [zRz, zwi, zu] using hQ
