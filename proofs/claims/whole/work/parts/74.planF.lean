/-- the digits of a way written -/
def zpd (σ : zMem) (m k v j : Nat) : zMem := zrow σ 117 (fun i => if j ≤ i ∧ i < k then nI (zdg m k v i) else σ.1 117 0 i)
theorem e_pl128 {σ : zMem} {m k v F : Nat} (hF : 100 < F) (hm1 : 1 ≤ m) (hm : m ≤ 4) (hk : k ≤ 5) (hv : v < 1024) (em : σ.1 60 0 25 = nI m) (rec111 : zMem → Int32 × Int32 × Int32 × Int32 × Int32 × Int32 × Int32 → Option (Int32 × zMem)) (A n w p few : Int32) : zit (f_X11_plan_128 F rec111) F σ (A, n, w, nI k, p, few, nI v, nI v, nI k - 1) = zb (f_X11_tried F (zpd σ m k v 0) A n) fun r m2 => if few ≤ r then rec111 m2 (A, n, w, nI k, p, few, nI (v + 1)) else rec111 (zcpi m2 117 0 0 118 0 0 5) (A, n, w, nI k, p, r, nI (v + 1)) := by
  have z5 : zck 0 0 5 5 5 = true := by decide
  have nm : zni (nI m) = true := decide_eq_true (nI_ne0 hm1 (by omega))
  refine zit_m (fun i t x => ∃ j, j ≤ k ∧ i = j ∧ t = zpd σ m k v j ∧ x = (A, n, w, nI k, p, few, nI v, nI (v / m ^ (k - j)), nI j - 1)) _ ?_ F k σ _ ⟨k, Nat.le_refl k, rfl, ?_, by rw [Nat.sub_self, Nat.pow_zero, Nat.div_one]⟩ (by omega)
  · rintro i t x ⟨j, hj, rfl, rfl, rfl⟩
    rcases i with _ | j
    · refine Or.inl fun rec => ?_
      unfold f_X11_plan_128
      simp only
      rw [if_pos (by decide), nI_1]
      simp only [zg_i z5]
    · have ia := inb_n (show j < 5 by omega) (show 5 < 100000 by decide)
      have na := nI_clamp (show j < 2 ^ 31 by omega)
      have rm : (zpd σ m k v (j + 1)).1 60 0 25 = nI m := by
        unfold zpd
        rw [zrow_o σ 117 _ (by decide), em]
      have lt : v / m ^ (k - (j + 1)) < 100000 := Nat.lt_of_le_of_lt (Nat.div_le_self v _) (by omega)
      have dv : v / m ^ (k - (j + 1)) / m = v / m ^ (k - j) := by
        have kj : k - j = (k - (j + 1)).succ := by omega
        rw [Nat.div_div_eq_div_mul, ← Nat.pow_succ, kj]
      have dg : v / m ^ (k - (j + 1)) % m = zdg m k v j := by
        unfold zdg
        rw [show k - 1 - j = k - (j + 1) by omega]
      have fin : zwi (zpd σ m k v (j + 1)) 117 0 j (nI (zdg m k v j)) = zpd σ m k v j := by
        unfold zpd
        rw [zrow_w]
        refine congrArg (zrow σ 117) ?_
        funext i
        show (if i = j then nI (zdg m k v j) else (if j + 1 ≤ i ∧ i < k then nI (zdg m k v i) else σ.1 117 0 i)) = (if j ≤ i ∧ i < k then nI (zdg m k v i) else σ.1 117 0 i)
        by_cases c : i = j
        · rw [if_pos c, if_pos (by omega), c]
        · rw [if_neg c]
          by_cases c2 : j + 1 ≤ i ∧ i < k
          · rw [if_pos c2, if_pos (by omega)]
          · rw [if_neg c2, if_neg (by omega)]
      have rm2 : (zpd σ m k v j).1 60 0 25 = nI m := by
        unfold zpd
        rw [zrow_o σ 117 _ (by decide), em]
      have m1 : nI j + (-1) = nI j - 1 := (Int32.sub_eq_add_neg _ _).symm
      refine Or.inr ⟨j, zpd σ m k v j, (A, n, w, nI k, p, few, nI v, nI (v / m ^ (k - j)), nI j - 1), by omega, ⟨j, by omega, rfl, rfl, rfl⟩, fun rec => ?_⟩
      unfold f_X11_plan_128
      simp only
      rw [nI_pred, if_neg (nI_pos (by omega)), rm, zg_i nm, zg_i ia, na, nI_rem lt hm1 (by omega), dg, fin, rm2, zg_i nm, nI_div lt hm1 (by omega), dv, m1]
  · unfold zpd
    have : (fun i => if k ≤ i ∧ i < k then nI (zdg m k v i) else σ.1 117 0 i) = fun i => σ.1 117 0 i := by
      funext i
      exact if_neg (by omega)
    rw [this, zrow_id]
theorem e_pl81 {σ : zMem} {m k F : Nat} (hF : 100 < F) (hk : k ≤ 5) (em : σ.1 60 0 25 = nI m) (A n w : Int32) : zit (f_X11_plan_81 F) F σ (A, n, w, nI k, 1, 0) = zit (f_X11_plan_111 F) F σ (A, n, w, nI k, nI (m ^ k), 2147483647, 0) := by
  refine zit_m (fun i t x => t = σ ∧ ∃ j, j ≤ k ∧ i = k - j ∧ x = (A, n, w, nI k, nI (m ^ j), nI j)) _ ?_ F k σ _ ⟨rfl, 0, by omega, rfl, by rw [nI_0, Nat.pow_zero]; rfl⟩ (by omega)
  rintro i t x ⟨rfl, j, hj, rfl, rfl⟩
  by_cases q : j = k
  · subst q
    refine Or.inl fun rec => ?_
    unfold f_X11_plan_81
    simp only
    rw [if_pos (Int32.le_refl _)]
  · refine Or.inr ⟨k - (j + 1), t, (A, n, w, nI k, nI (m ^ (j + 1)), nI (j + 1)), by omega, ⟨rfl, j + 1, by omega, rfl, rfl⟩, fun rec => ?_⟩
    unfold f_X11_plan_81
    simp only
    rw [if_neg (nle_s (by omega) (by omega)), em, nI_mu, ← Nat.pow_succ, nI_1]
/-- what the reference has as the fewest, ahead of way v -/
def zfw (V : Nat → Int32) : Nat → Int32
  | 0 => 2147483647
  | v + 1 => (zbm V v).1
theorem t_cp3 (s : zMem) : (zcpi s 117 0 0 118 0 0 5).2 = s.2 ∧ (∀ K, K ≠ 118 → (zcpi s 117 0 0 118 0 0 5).1 K = s.1 K) ∧ ∀ i, i < 5 → (zcpi s 117 0 0 118 0 0 5).1 118 0 i = s.1 117 0 i := by
  unfold zcpi zcp
  rw [t_i0, t_i5]
  refine ⟨rfl, fun K h => ?_, fun i hi => ?_⟩
  · funext i j
    exact if_neg (fun w => h w.1)
  · show (if (118 : Nat) = 118 ∧ (0 : Nat) = 0 ∧ 0 ≤ i ∧ i < 0 + 5 then s.1 117 0 (0 + (i - 0)) else s.1 118 0 i) = _
    rw [if_pos (by omega), Nat.zero_add, Nat.sub_zero]
theorem e_pl111 {σ : zMem} {A N k m n d c F : Nat} (hF : 8000 < F) (hA : A < 1024) (hN : N ≤ 10) (hk : zpk A N = k) (hk5 : k ≤ 5) (hm1 : 1 ≤ m) (hm : m ≤ 4) (hn : n ≤ 30) (hd : d + n ≤ 7200) (e1 : σ.1 60 0 1 = nI N) (em : σ.1 60 0 25 = nI m) (ed : σ.1 60 0 0 = nI d) (eg : σ.1 60 0 28 = 89) (es : σ.1 60 0 29 = 90) (eu : σ.1 60 0 11 = 71) (hG : ∀ b, b < m → zib (σ.1 89 0 b) 0 990) (hr : ∀ b, b < m → zib (σ.1 88 0 b) 0 99) (hc : ∀ h, h < N → zib (σ.1 62 h 2) 0 999) (hu : ∀ b h, b < m → h < N → zib (σ.1 72 b h) 0 999) (hcc : c ≤ k) {V : Nat → Int32} (hV : ∀ v, V v = zsum (zhr σ A N n d (zdg m k v)) m) (hV0 : V 0 < 2147483647) : ∃ s, zit (f_X11_plan_111 F) F σ (nI A, nI n, nI c, nI k, nI (m ^ k), 2147483647, 0) = some (if c = 0 then (zbm V (m ^ k - 1)).1 else nI (zdg m k (zbm V (m ^ k - 1)).2 (c - 1)), s) ∧ s.2 = σ.2 ∧ ∀ K, K < 113 ∨ 118 < K → s.1 K = σ.1 K := by
  obtain ⟨b1024, b1⟩ := zmk m (by omega) hm1 k (by omega)
  refine zit_q (fun (i : Nat) (t : zMem) (x : Int32 × Int32 × Int32 × Int32 × Int32 × Int32 × Int32) => ∃ v, v ≤ m ^ k ∧ i = m ^ k - v ∧ x = (nI A, nI n, nI c, nI k, nI (m ^ k), zfw V v, nI v) ∧ t.2 = σ.2 ∧ (∀ K, K < 113 ∨ 118 < K → t.1 K = σ.1 K) ∧ (1 ≤ v → ∀ i, i < k → t.1 118 0 i = nI (zdg m k (zbm V (v - 1)).2 i))) (fun (o : Option (Int32 × zMem)) => ∃ s : zMem, o = some (if c = 0 then (zbm V (m ^ k - 1)).1 else nI (zdg m k (zbm V (m ^ k - 1)).2 (c - 1)), s) ∧ s.2 = σ.2 ∧ ∀ K, K < 113 ∨ 118 < K → s.1 K = σ.1 K) ?_ F (m ^ k) σ _ ⟨0, by omega, rfl, by rw [nI_0]; rfl, rfl, fun _ _ => rfl, fun h => by omega⟩ (by omega)
  rintro i t x ⟨v, hv, rfl, rfl, t2, tK, t118⟩
  by_cases q : v = m ^ k
  · have z118 := t118 (by omega)
    refine Or.inl ⟨some (if c = 0 then (zbm V (m ^ k - 1)).1 else nI (zdg m k (zbm V (m ^ k - 1)).2 (c - 1)), t), ⟨t, rfl, t2, tK⟩, fun rec => ?_⟩
    obtain ⟨u, hu⟩ : ∃ u, v = u + 1 := ⟨v - 1, by omega⟩
    unfold f_X11_plan_111
    simp only
    rw [q, if_pos (Int32.le_refl _), ← q, hu, Nat.add_sub_cancel]
    rw [hu, Nat.add_sub_cancel] at z118
    by_cases w : c = 0
    · rw [w, nI_0, if_pos rfl, if_pos rfl]
      rfl
    · obtain ⟨c, rfl⟩ : ∃ c2, c = c2 + 1 := ⟨c - 1, by omega⟩
      rw [if_neg (nI_ne0 (by omega) (by omega)), if_neg w, nI_pred, zg_i (inb_n (show c < 5 by omega) (by decide)), nI_clamp (show c < 2 ^ 31 by omega), z118 c (by omega), Nat.add_sub_cancel]
  · have lv : v < m ^ k := by omega
    obtain ⟨τ, hτ⟩ : ∃ τ, τ = zpd t m k v 0 := ⟨_, rfl⟩
    have τo : ∀ K, K ≠ 117 → τ.1 K = t.1 K := fun K h => by
      rw [hτ]
      unfold zpd
      rw [zrow_o t 117 _ h]
    have τs : ∀ K, K < 113 ∨ 118 < K → τ.1 K = σ.1 K := fun K h => by rw [τo K (by omega), tK K h]
    have τ2 : τ.2 = σ.2 := by
      rw [hτ]
      exact t2
    have τ117 : ∀ i, i < k → τ.1 117 0 i = nI (zdg m k v i) := fun i hi => by
      rw [hτ]
      unfold zpd
      rw [zrow_at]
      exact if_pos ⟨Nat.zero_le i, hi⟩
    have s60 := τs 60 (by decide)
    obtain ⟨s, f1, f2, f3⟩ := e_tried (σ := τ) (D := zdg m k v) (N := N) (d := d) (n := n) (m := m) (k := k) (A := A) hF hA hN hk hk5 hm hn hd (by rw [s60, e1]) (by rw [s60, em]) (by rw [s60, ed]) (by rw [s60, eg]) (by rw [s60, es]) (by rw [s60, eu]) τ117 (fun i _ => zdg_lt hm1 k v i) (fun b hb => by rw [τs 89 (by decide)]; exact hG b hb) (fun b hb => by rw [τs 88 (by decide)]; exact hr b hb) (fun h hh => by rw [τs 62 (by decide)]; exact hc h hh) (fun b h hb hh => by rw [τs 72 (by decide)]; exact hu b h hb hh)
    have val : zsum (zhr τ A N n d (zdg m k v)) m = V v := by
      rw [hV v]
      exact zsum_c fun b _ => zhr_c (fun K _ h => τs K (Or.inl h)) A N n d _ b
    rw [val] at f1
    have s2 : s.2 = σ.2 := f2.trans τ2
    have sK : ∀ K, K < 113 ∨ 118 < K → s.1 K = σ.1 K := fun K h => by rw [f3 K (by omega) (by omega) (by omega), τs K h]
    have s118 : s.1 118 = t.1 118 := by rw [f3 118 (by decide) (by decide) (by decide), τo 118 (by decide)]
    have s117 : ∀ i, i < k → s.1 117 0 i = nI (zdg m k v i) := fun i hi => by rw [f3 117 (by decide) (by decide) (by decide), τ117 i hi]
    obtain ⟨c1, c2, c3⟩ := t_cp3 s
    have tm : t.1 60 0 25 = nI m := by rw [tK 60 (by decide), em]
    have head : ∀ rec, f_X11_plan_111 F rec t (nI A, nI n, nI c, nI k, nI (m ^ k), zfw V v, nI v) = if zfw V v ≤ V v then rec s (nI A, nI n, nI c, nI k, nI (m ^ k), zfw V v, nI (v + 1)) else rec (zcpi s 117 0 0 118 0 0 5) (nI A, nI n, nI c, nI k, nI (m ^ k), V v, nI (v + 1)) := fun rec => by
      unfold f_X11_plan_111
      simp only
      rw [if_neg (nle_s (by omega) (by omega)), e_pl128 (by omega) hm1 hm hk5 (by omega) tm, ← hτ, f1, zb_s]
    have st : zbm V v = if v = 0 then (V 0, 0) else if zfw V v ≤ V v then zbm V (v - 1) else (V v, v) := by
      rcases v with _ | v
      · rfl
      · rfl
    by_cases p : zfw V v ≤ V v
    · have v0 : v ≠ 0 := fun w => by
        subst w
        exact absurd hV0 (Int32.not_lt.mpr p)
      rw [if_neg v0, if_pos p] at st
      have fw : zfw V (v + 1) = zfw V v := by
        show (zbm V v).1 = zfw V v
        rw [st]
        obtain ⟨u, rfl⟩ : ∃ u, v = u + 1 := ⟨v - 1, by omega⟩
        rfl
      refine Or.inr ⟨m ^ k - (v + 1), s, (nI A, nI n, nI c, nI k, nI (m ^ k), zfw V (v + 1), nI (v + 1)), by omega, ⟨v + 1, by omega, rfl, rfl, s2, sK, fun _ i hi => by rw [s118, t118 (by omega) i hi, Nat.add_sub_cancel, st]⟩, fun rec => ?_⟩
      rw [head, if_pos p, fw]
    · have st2 : zbm V v = (V v, v) := by
        by_cases w : v = 0
        · rw [if_pos w] at st
          rw [st, w]
        · rw [if_neg w, if_neg p] at st
          exact st
      refine Or.inr ⟨m ^ k - (v + 1), zcpi s 117 0 0 118 0 0 5, (nI A, nI n, nI c, nI k, nI (m ^ k), zfw V (v + 1), nI (v + 1)), by omega, ⟨v + 1, by omega, rfl, rfl, c1.trans s2, fun K h => by rw [c2 K (by omega), sK K h], fun _ i hi => by rw [c3 i (by omega), s117 i hi, Nat.add_sub_cancel, st2]⟩, fun rec => ?_⟩
      rw [head, if_neg p, show zfw V (v + 1) = (zbm V v).1 from rfl, st2]

