/-- the hunger on alp b with the members on alps D, by the reference's cells -/
def zhr (σ : zMem) (A N n d : Nat) (D : Nat → Nat) (b : Nat) : Int32 := (zhs (zsum (fun h => if A.testBit h = true then (if D (zpk A h) = b then σ.1 62 h 2 else 0) else σ.1 72 b h) N) (σ.1 87 0 b) (σ.1 88 0 b) (fun j => zsk σ 0 (d + j + 1)) (fun j => zsk σ 1 (d + j + 1)) (σ.1 89 0 b, σ.1 90 0 b, 0) n).2.2
theorem zhr_c {σ τ : zMem} (h : ∀ k, 60 ≤ k → k < 113 → τ.1 k = σ.1 k) (A N n d : Nat) (D : Nat → Nat) (b : Nat) : zhr τ A N n d D b = zhr σ A N n d D b := by
  unfold zhr
  rw [h 62 (by decide) (by decide), h 72 (by decide) (by decide), h 87 (by decide) (by decide), h 88 (by decide) (by decide), h 89 (by decide) (by decide), h 90 (by decide) (by decide)]
  have z : ∀ w d, zsk τ w d = zsk σ w d := fun w d => zsk_s (h 86 (by decide) (by decide)) (h 84 (by decide) (by decide)) d
  simp only [z]
/-- one way tried -/
theorem e_tried {σ : zMem} {A N k m n d F : Nat} {D : Nat → Nat} (hF : 8000 < F) (hA : A < 1024) (hN : N ≤ 10) (hk : zpk A N = k) (hk5 : k ≤ 5) (hm : m ≤ 4) (hn : n ≤ 30) (hd : d + n ≤ 7200) (e1 : σ.1 60 0 1 = nI N) (em : σ.1 60 0 25 = nI m) (ed : σ.1 60 0 0 = nI d) (eg : σ.1 60 0 28 = 89) (es : σ.1 60 0 29 = 90) (eu : σ.1 60 0 11 = 71) (h117 : ∀ i, i < k → σ.1 117 0 i = nI (D i)) (hD : ∀ i, i < k → D i < m) (hG : ∀ b, b < m → zib (σ.1 89 0 b) 0 990) (hr : ∀ b, b < m → zib (σ.1 88 0 b) 0 99) (hc : ∀ h, h < N → zib (σ.1 62 h 2) 0 999) (hu : ∀ b h, b < m → h < N → zib (σ.1 72 b h) 0 999) : ∃ s, f_X11_tried F σ (nI A) (nI n) = some (zsum (zhr σ A N n d D) m, s) ∧ s.2 = σ.2 ∧ ∀ K, K ≠ 113 → K ≠ 114 → K ≠ 116 → s.1 K = σ.1 K := by
  have t4 : zdG 89 = true := by decide
  have t5 : zdS 90 = true := by decide
  have t6 : zdU 71 = true := by decide
  have u4 : (89 : Int32).toNatClampNeg = 89 := by decide
  have u5 : (90 : Int32).toNatClampNeg = 90 := by decide
  have u6 : (71 : Int32).toNatClampNeg = 71 := by decide
  have z4 : zck 0 0 4 4 4 = true := by decide
  obtain ⟨G, hGe⟩ : ∃ G : Nat → Int32, G = fun j => if j < 4 then σ.1 89 0 j else σ.1 113 0 j := ⟨_, rfl⟩
  obtain ⟨S, hSe⟩ : ∃ S : Nat → Int32, S = fun j => if j < 4 then σ.1 90 0 j else σ.1 114 0 j := ⟨_, rfl⟩
  have Gb : ∀ b, b < m → G b = σ.1 89 0 b := fun b hb => by
    rw [hGe]
    exact if_pos (by omega)
  have Sb : ∀ b, b < m → S b = σ.1 90 0 b := fun b hb => by
    rw [hSe]
    exact if_pos (by omega)
  obtain ⟨U, hU⟩ : ∃ U, U = zuv σ A D m N 0 := ⟨_, rfl⟩
  have Ub : ∀ b h, b < m → h < N → U b h = if A.testBit h = true then (if D (zpk A h) = b then σ.1 62 h 2 else 0) else σ.1 72 b h := fun b h hb hh => by
    rw [hU]
    unfold zuv
    by_cases q : A.testBit h = true
    · rw [if_pos ⟨Or.inl ⟨hh, hb⟩, q⟩, if_pos q]
    · rw [if_neg (fun w => q w.2), if_neg q]
      exact if_pos ⟨by omega, by omega⟩
  obtain ⟨τ, hτ⟩ : ∃ τ, τ = zwi (zwi (zwi (ztab σ 116 U) 60 0 28 (nI 113)) 60 0 29 (nI 114)) 60 0 11 (nI 115) := ⟨_, rfl⟩
  have τo : ∀ K, K ≠ 60 → K ≠ 116 → τ.1 K = σ.1 K := fun K h0 h1 => by rw [hτ, zwi3 _ _ _ _ h0, ztab_o σ 116 U h1]
  have τ116 : τ.1 116 = U := by rw [hτ, zwi3 _ _ _ _ (by decide), ztab_at]
  have τ60 : ∀ j, j ≠ 28 → j ≠ 29 → j ≠ 11 → τ.1 60 0 j = σ.1 60 0 j := fun j h0 h1 h2 => by rw [hτ, zwi_r (fun w => h2 w.2.2), zwi_r (fun w => h1 w.2.2), zwi_r (fun w => h0 w.2.2), ztab_o σ 116 U (by decide)]
  have zs : ∀ w d, zsk τ w d = zsk σ w d := fun w d => zsk_s (τo 86 (by decide) (by decide)) (τo 84 (by decide) (by decide)) d
  have a194 := e_194 (σ := τ) (G := G) (S := S) (m := m) (n := N) (d := d) (nd := n) (F := F) hF hm hN hn hd (by rw [τ60 1 (by decide) (by decide) (by decide), e1]) (by rw [τ60 25 (by decide) (by decide) (by decide), em]) (by rw [hτ, zwi_r (by decide), zwi_r (by decide), zwi_hit]) (by rw [hτ, zwi_r (by decide), zwi_hit]) (by rw [hτ, zwi_hit]) (by rw [τ60 0 (by decide) (by decide) (by decide), ed]) (fun b hb => by rw [Gb b hb]; exact hG b hb) (fun b hb => by rw [τo 88 (by decide) (by decide)]; exact hr b hb) (fun b h hb hh => by
    rw [τ116, Ub b h hb hh]
    by_cases q : A.testBit h = true
    · rw [if_pos q]
      by_cases w : D (zpk A h) = b
      · rw [if_pos w]
        exact hc h hh
      · rw [if_neg w]
        exact ⟨Int.le_refl _, (by decide : (0 : Int32).toInt ≤ 999)⟩
    · rw [if_neg q]
      exact hu b h hb hh)
  have val : zsum (fun b => (zaj τ d N G S n b).2.2) m = zsum (zhr σ A N n d D) m := zsum_c fun b hb => by
    unfold zaj zhr
    rw [τ116, τo 87 (by decide) (by decide), τo 88 (by decide) (by decide), Gb b hb, Sb b hb, zsum_c (g := fun h => if A.testBit h = true then (if D (zpk A h) = b then σ.1 62 h 2 else 0) else σ.1 72 b h) (fun h hh => Ub b h hb hh)]
    simp only [zs]
  rw [val] at a194
  have τ2 : τ.2 = σ.2 := by
    rw [hτ]
    rfl
  refine ⟨_, Eq.trans ?_ a194, τ2, ?_⟩
  · unfold f_X11_tried
    rw [eg, es, eu, u4, u5, u6, zg_i t4, zg_i t5, zg_i t6, zg_i z4, zg_i z4, t_cp1, ← hGe, ← hSe, e_tr43 (A := A) (N := N) (k := k) (m := m) (n := n) (by omega), e_tr80 (N := N) (by omega) hA hN hk hk5 hm e1 em h117 hD, ← hU, ← hτ, ed]
  · intro K h0 h1 h2
    by_cases q : K = 60
    · subst q
      funext i j
      by_cases w1 : i = 0 ∧ j = 11
      · rw [w1.1, w1.2, zwi_hit, eu]
        rfl
      · rw [zwi_r (fun w => w1 w.2)]
        by_cases w2 : i = 0 ∧ j = 29
        · rw [w2.1, w2.2, zwi_hit, es]
          rfl
        · rw [zwi_r (fun w => w2 w.2)]
          by_cases w3 : i = 0 ∧ j = 28
          · rw [w3.1, w3.2, zwi_hit, eg]
            rfl
          · rw [zwi_r (fun w => w3 w.2), zrq_c _ _ _ h0 h1, hτ, zwi_r (fun w => w1 w.2), zwi_r (fun w => w2 w.2), zwi_r (fun w => w3 w.2), ztab_o σ 116 U h2]
    · rw [zwi3 _ _ _ _ q, zrq_c _ _ _ h0 h1, τo K q h2]

