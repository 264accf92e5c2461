/-- a row of kind K told anew -/
def zrow (σ : zMem) (K : Nat) (f : Nat → Int32) : zMem := (fun k i j => if k = K ∧ i = 0 then f j else σ.1 k i j, σ.2)
theorem zrow_o (σ : zMem) (K : Nat) (f : Nat → Int32) {k : Nat} (h : k ≠ K) : (zrow σ K f).1 k = σ.1 k := by
  funext i j
  exact if_neg (fun q => h q.1)
theorem zrow_at (σ : zMem) (K : Nat) (f : Nat → Int32) (j : Nat) : (zrow σ K f).1 K 0 j = f j := if_pos ⟨rfl, rfl⟩
theorem zrow_w (σ : zMem) (K : Nat) (f : Nat → Int32) (a : Nat) (v : Int32) : zwi (zrow σ K f) K 0 a v = zrow σ K (zup1 f a v) := by
  refine Prod.ext ?_ rfl
  funext k i j
  show (if k = K ∧ i = 0 ∧ j = a then v else if k = K ∧ i = 0 then f j else σ.1 k i j) = (if k = K ∧ i = 0 then (if j = a then v else f j) else σ.1 k i j)
  by_cases h : k = K ∧ i = 0
  · rw [if_pos h, if_pos h]
    by_cases h2 : j = a
    · rw [if_pos ⟨h.1, h.2, h2⟩, if_pos h2]
    · rw [if_neg (fun q => h2 q.2.2), if_neg h2]
  · rw [if_neg h, if_neg h, if_neg (fun q => h ⟨q.1, q.2.1⟩)]
theorem zrow_wo (σ : zMem) {K k : Nat} (f : Nat → Int32) (i a : Nat) (v : Int32) (h : k ≠ K) : zwi (zrow σ K f) k i a v = zrow (zwi σ k i a v) K f := by
  refine Prod.ext ?_ rfl
  funext k2 i2 j2
  show (if k2 = k ∧ i2 = i ∧ j2 = a then v else if k2 = K ∧ i2 = 0 then f j2 else σ.1 k2 i2 j2) = (if k2 = K ∧ i2 = 0 then f j2 else if k2 = k ∧ i2 = i ∧ j2 = a then v else σ.1 k2 i2 j2)
  by_cases h2 : k2 = K ∧ i2 = 0
  · rw [if_neg (fun q => h (q.1.symm.trans h2.1)), if_pos h2, if_pos h2]
  · rw [if_neg h2, if_neg h2]
theorem zrow_id (σ : zMem) (K : Nat) : zrow σ K (fun j => σ.1 K 0 j) = σ := by
  refine Prod.ext ?_ rfl
  funext k i j
  show (if k = K ∧ i = 0 then σ.1 K 0 j else σ.1 k i j) = σ.1 k i j
  by_cases h : k = K ∧ i = 0
  · rw [if_pos h, h.1, h.2]
  · rw [if_neg h]
/-- a table of kind K told anew -/
def ztab (σ : zMem) (K : Nat) (f : Nat → Nat → Int32) : zMem := (fun k i j => if k = K then f i j else σ.1 k i j, σ.2)
theorem ztab_o (σ : zMem) (K : Nat) (f : Nat → Nat → Int32) {k : Nat} (h : k ≠ K) : (ztab σ K f).1 k = σ.1 k := by
  funext i j
  exact if_neg h
theorem ztab_at (σ : zMem) (K : Nat) (f : Nat → Nat → Int32) : (ztab σ K f).1 K = f := by
  funext i j
  exact if_pos rfl
def zup2 (f : Nat → Nat → Int32) (a b : Nat) (v : Int32) : Nat → Nat → Int32 := fun i j => if i = a ∧ j = b then v else f i j
theorem ztab_w (σ : zMem) (K : Nat) (f : Nat → Nat → Int32) (a b : Nat) (v : Int32) : zwi (ztab σ K f) K a b v = ztab σ K (zup2 f a b v) := by
  refine Prod.ext ?_ rfl
  funext k i j
  show (if k = K ∧ i = a ∧ j = b then v else if k = K then f i j else σ.1 k i j) = (if k = K then (if i = a ∧ j = b then v else f i j) else σ.1 k i j)
  by_cases h : k = K
  · rw [if_pos h, if_pos h]
    by_cases h2 : i = a ∧ j = b
    · rw [if_pos ⟨h, h2⟩, if_pos h2]
    · rw [if_neg (fun q => h2 q.2), if_neg h2]
  · rw [if_neg h, if_neg h, if_neg (fun q => h q.1)]
theorem ztab_wo (σ : zMem) {K k : Nat} (f : Nat → Nat → Int32) (i a : Nat) (v : Int32) (h : k ≠ K) : zwi (ztab σ K f) k i a v = ztab (zwi σ k i a v) K f := by
  refine Prod.ext ?_ rfl
  funext k2 i2 j2
  show (if k2 = k ∧ i2 = i ∧ j2 = a then v else if k2 = K then f i2 j2 else σ.1 k2 i2 j2) = (if k2 = K then f i2 j2 else if k2 = k ∧ i2 = i ∧ j2 = a then v else σ.1 k2 i2 j2)
  by_cases h2 : k2 = K
  · rw [if_neg (fun q => h (q.1.symm.trans h2)), if_pos h2, if_pos h2]
  · rw [if_neg h2, if_neg h2]
theorem ztab_id (σ : zMem) (K : Nat) : ztab σ K (σ.1 K) = σ := by
  refine Prod.ext ?_ rfl
  funext k i j
  show (if k = K then σ.1 K i j else σ.1 k i j) = σ.1 k i j
  by_cases h : k = K
  · rw [if_pos h, h]
  · rw [if_neg h]
/-- a loop whose end is told by what it has, not by a name -/
theorem zit_q {tl β : Type} {b : (zMem → tl → Option β) → zMem → tl → Option β} (P : Nat → zMem → tl → Prop) (Q : Option β → Prop) (hs : ∀ m σ x, P m σ x → (∃ res, Q res ∧ ∀ rec, b rec σ x = res) ∨ ∃ m' σ' x', m' < m ∧ P m' σ' x' ∧ ∀ rec, b rec σ x = rec σ' x') : ∀ F m σ x, P m σ x → m < F → Q (zit b F σ x)
  | 0, m, _, _, _, h => by omega
  | F + 1, m, σ, x, hP, h => by
    show Q (b (zit b F) σ x)
    rcases hs m σ x hP with ⟨res, h0, h1⟩ | ⟨m', σ', x', h2, h3, h4⟩
    · rw [h1]
      exact h0
    · rw [h4]
      exact zit_q P Q hs F m' σ' x' h3 (by omega)
/-- the cows of the members of a set, one behind another -/
def zmc (g f : Nat → Int32) (a : Nat) : Nat → (Nat → Int32)
  | 0 => g
  | h + 1 => if a.testBit h then zup1 (zmc g f a h) (zpk a h) (f h) else zmc g f a h
theorem zpk_s (a h : Nat) : zpk a (h + 1) = zpk a h + (if a.testBit h then 1 else 0) := rfl
theorem zpk_le (a : Nat) : ∀ h, zpk a h ≤ h
  | 0 => Nat.le_refl 0
  | h + 1 => by
    have := zpk_le a h
    rw [zpk_s]
    split <;> omega
theorem zpk_mono (a : Nat) {i : Nat} : ∀ n, zpk a i ≤ zpk a (i + n)
  | 0 => Nat.le_refl _
  | n + 1 => by
    have := zpk_mono a (i := i) n
    rw [← Nat.add_assoc, zpk_s]
    omega
theorem zmc_stop (g f : Nat → Int32) (a : Nat) {i : Nat} : ∀ n, zpk a (i + n) ≤ zpk a i → zmc g f a (i + n) = zmc g f a i
  | 0, _ => rfl
  | n + 1, h => by
    have e := zpk_s a (i + n)
    rw [← Nat.add_assoc, e] at h
    have m := zpk_mono a (i := i) n
    by_cases q : a.testBit (i + n) = true
    · rw [if_pos q] at h
      omega
    · rw [if_neg q] at h
      have ih := zmc_stop g f a (i := i) n h
      show (if a.testBit (i + n) then zup1 (zmc g f a (i + n)) (zpk a (i + n)) (f (i + n)) else zmc g f a (i + n)) = _
      rw [if_neg q, ih]
theorem e_listMembers {σ : zMem} {a n F : Nat} (hF : 100 < F) (ha : a < 1024) (hn : n ≤ 10) (hk : zpk a n ≤ 5) (e : σ.1 0 0 1 = nI n) : f_X10_listMembers F σ (nI a) = some (nI (zpk a n), zrow σ 32 (zmc (fun j => σ.1 32 0 j) (fun h => σ.1 3 h 2) a n)) := by
  unfold f_X10_listMembers
  obtain ⟨Z, hZ⟩ : ∃ Z, Z = zmc (fun j => σ.1 32 0 j) (fun h => σ.1 3 h 2) a := ⟨_, rfl⟩
  have Z0 : Z 0 = fun j => σ.1 32 0 j := by rw [hZ]; rfl
  have Zs : ∀ h, Z (h + 1) = if a.testBit h then zup1 (Z h) (zpk a h) (σ.1 3 h 2) else Z h := fun h => by rw [hZ]; rfl
  rw [← hZ]
  refine zit_m (fun m t x => ∃ i, i ≤ n ∧ m = n - i ∧ t = zrow σ 32 (Z i) ∧ x = (nI a, nI (zpk a i), nI i)) _ ?_ F n σ _ ⟨0, by omega, rfl, by rw [Z0, zrow_id], by rw [nI_0, show zpk a 0 = 0 from rfl, nI_0]⟩ (by omega)
  rintro m t x ⟨i, hi, rfl, rfl, rfl⟩
  have r1 : (zrow σ 32 (Z i)).1 0 0 1 = nI n := by rw [zrow_o σ 32 _ (by decide), e]
  have pl := zpk_le a i
  by_cases q : i = n
  · subst q
    refine Or.inl fun rec => ?_
    unfold f_X10_listMembers_4
    simp only
    rw [r1, if_pos (Int32.le_refl _)]
  · have pm := zpk_mono a (i := i) (n - i)
    rw [show i + (n - i) = n by omega] at pm
    by_cases q5 : zpk a i = 5
    · refine Or.inl fun rec => ?_
      have st := zmc_stop (fun j => σ.1 32 0 j) (fun h => σ.1 3 h 2) a (i := i) (n - i) (by rw [show i + (n - i) = n by omega]; omega)
      rw [show i + (n - i) = n by omega, ← hZ] at st
      unfold f_X10_listMembers_4
      simp only
      rw [r1, if_neg (nle_s (by omega) (by omega)), q5, if_pos (by decide), st, show zpk a n = 5 by omega]
    · have l5 : ¬ (5 : Int32) ≤ nI (zpk a i) := nle_l 5 (n := 5) rfl (by omega) (by decide)
      have b := zpb_1 a ha i (by omega)
      refine Or.inr ⟨n - (i + 1), zrow σ 32 (Z (i + 1)), (nI a, nI (zpk a (i + 1)), nI (i + 1)), by omega, ⟨i + 1, by omega, rfl, rfl, rfl⟩, fun rec => ?_⟩
      unfold f_X10_listMembers_4
      simp only
      rw [r1, if_neg (nle_s (by omega) (by omega)), if_neg l5, nI_1, nI_1, zpk_s, Zs]
      by_cases p : a.testBit i = true
      · rw [if_pos (b.mpr p), if_pos p, if_pos p, zg_i (inb_n (by omega) (by omega)), zg_i (by decide), zg_i (inb_n (by omega) (by omega)), nI_clamp (show i < 2 ^ 31 by omega), nI_clamp (show zpk a i < 2 ^ 31 by omega), zrow_w, zrow_o σ 32 _ (show 3 ≠ 32 by decide)]
      · rw [if_neg (fun w => p (b.mp w)), if_neg p, if_neg p]
        rfl

