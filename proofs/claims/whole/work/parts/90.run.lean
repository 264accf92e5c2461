/-! the law's run in pure memory: every call answers alike, so it ends with 1 -/
abbrev zRc18 : Type := zMem → Int32 → Option (Int32 × zMem)
def zLX (E : zRc18 → Option (Int32 × zMem)) (y : Int32) (g : Nat) : Prop := ∃ σ2 : zMem, (∀ rec, E rec = rec σ2 y) ∧ zRel σ2 ∧ σ2.1 999 0 0 = nI g
theorem lx_if {c : Prop} [Decidable c] {A B : zRc18 → Option (Int32 × zMem)} {y : Int32} {g : Nat} (h1 : c → zLX A y g) (h2 : ¬ c → zLX B y g) : zLX (fun rec => if c then A rec else B rec) y g := by
  by_cases h : c
  · simp only [if_pos h]
    exact h1 h
  · simp only [if_neg h]
    exact h2 h
theorem lx_rec {σ : zMem} {y : Int32} {g : Nat} (hR : zRel σ) (hg : σ.1 999 0 0 = nI g) : zLX (fun rec => rec σ y) y g := ⟨σ, fun _ => rfl, hR, hg⟩
theorem lx_call {fc gc : zMem → Option (Int32 × zMem)} {σ : zMem} {y : Int32} {g : Nat} (hg : σ.1 999 0 0 = nI g) (h : zOK fc gc σ) (k1 : ∀ s, zk9 s (fc s)) (k2 : ∀ s, zk9 s (gc s)) : zLX (fun rec => zb (fc σ) fun r m => zb (gc m) fun r' m' => if r = r' then rec m' y else some (0, m')) y g := by
  obtain ⟨r, σ1, σ2, h1, h2, h3⟩ := h
  refine ⟨σ2, fun rec => ?_, h3, ?_⟩
  · show zb (fc σ) (fun r m => zb (gc m) fun r' m' => if r = r' then rec m' y else some (0, m')) = rec σ2 y
    rw [h1, zb_s, h2, zb_s, if_pos rfl]
  · rw [k2 σ1 r σ2 h2, k1 σ r σ1 h1, hg]
set_option maxHeartbeats 8000000 in
set_option maxRecDepth 100000 in
theorem l_body {F : Nat} {Z : zLay} {σ : zMem} {k g : Nat} (hF : 300000 < F) (hL : Z.2.2.2.1 ≤ 3072) (hk : 6 * k + 6 ≤ Z.2.2.2.1) (hR : zRel σ) (hg : σ.1 999 0 0 = nI g) (hd : ∃ n g, σ.1 0 0 10 = nI n ∧ σ.1 999 0 0 = nI g ∧ n + g ≤ 511) : zLX (fun rec => f_L_law_18 F Z rec σ (nI (6 * k))) (nI (6 * k + 6)) g := by
  have g0 : inb (nI (6 * k)) Z.2.2.2.1 = true := inb_n (by omega) (by omega)
  have g1 : inb (nI (6 * k) + 1) Z.2.2.2.1 = true := by
    rw [nI_1]
    exact inb_n (by omega) (by omega)
  have g2 : inb (nI (6 * k) + 2) Z.2.2.2.1 = true := by
    rw [show (2 : Int32) = nI 2 from rfl, nI_add]
    exact inb_n (by omega) (by omega)
  have g3 : inb (nI (6 * k) + 3) Z.2.2.2.1 = true := by
    rw [show (3 : Int32) = nI 3 from rfl, nI_add]
    exact inb_n (by omega) (by omega)
  have g4 : inb (nI (6 * k) + 4) Z.2.2.2.1 = true := by
    rw [show (4 : Int32) = nI 4 from rfl, nI_add]
    exact inb_n (by omega) (by omega)
  have g5 : inb (nI (6 * k) + 5) Z.2.2.2.1 = true := by
    rw [show (5 : Int32) = nI 5 from rfl, nI_add]
    exact inb_n (by omega) (by omega)
  have e6 : nI (6 * k) + 6 = nI (6 * k + 6) := nI_add (6 * k) 6
  have cL : ¬ Z.2.2.2.1.toInt32 - 6 < nI (6 * k) := by
    have e : (Z.2.2.2.1.toInt32).toInt = (Z.2.2.2.1 : Int) := nI_toInt (n := Z.2.2.2.1) (by omega)
    have k6 : (6 : Int32).toInt = 6 := rfl
    rw [Int32.lt_iff_toInt_lt, t_sub (by rw [e, k6]; omega) (by rw [e, k6]; omega), e, k6, nI_toInt (by omega)]
    omega
  unfold f_L_law_18 f_L_law_1250 f_L_law_1272 f_L_law_1294 f_L_law_1311
  simp only [zg_i g0, zg_i g1, zg_i g2, zg_i g3, zg_i g4, zg_i g5, e6]
  refine lx_if (fun c => absurd c cL) (fun _ => ?_)
  refine lx_if (fun _ => lx_rec hR hg) (fun hr => ?_)
  refine lx_if (fun _ => lx_call hg (a_house hR F _ _ _ _) (fun s => k9_X10_house _ s _ _ _ _) (fun s => k9_X11_house _ s _ _ _ _)) (fun c0 => ?_)
  refine lx_if (fun _ => lx_call hg (a_change hR (F := F) (by omega) _ _ _) (fun s => k9_X10_change _ s _ _ _) (fun s => k9_X11_change _ s _ _ _)) (fun c1 => ?_)
  refine lx_if (fun _ => lx_call hg (a_told hR (F := F) (by omega) _ _) (fun s => k9_X10_told _ s _ _) (fun s => k9_X11_told _ s _ _)) (fun c2 => ?_)
  refine lx_if (fun _ => lx_call hg (a_counts hR (F := F) (by omega)) (fun s => k9_X10_counts _ s) (fun s => k9_X11_counts _ s)) (fun c3 => ?_)
  refine lx_if (fun _ => lx_call hg (a_right hR F _ _ _) (fun s => k9_X10_right _ s _ _ _) (fun s => k9_X11_right _ s _ _ _)) (fun c4 => ?_)
  refine lx_if (fun _ => lx_call hg (a_split hR F _ _) (fun s => k9_X10_split _ s _ _) (fun s => k9_X11_split _ s _ _)) (fun c5 => ?_)
  refine lx_if (fun _ => lx_call hg (a_join hR F _ _) (fun s => k9_X10_join _ s _ _) (fun s => k9_X11_join _ s _ _)) (fun c6 => ?_)
  refine lx_if (fun _ => lx_call hg (a_lend hR F _ _ _) (fun s => k9_X10_lend _ s _ _ _) (fun s => k9_X11_lend _ s _ _ _)) (fun c7 => ?_)
  refine lx_if (fun _ => lx_call hg (a_leave hR F _ _) (fun s => k9_X10_leave _ s _ _) (fun s => k9_X11_leave _ s _ _)) (fun c8 => ?_)
  refine lx_if (fun _ => lx_call hg (a_rightOf hR F _ _) (fun s => k9_X10_rightOf _ s _ _) (fun s => k9_X11_rightOf _ s _ _)) (fun c9 => ?_)
  refine lx_if (fun _ => lx_call hg (a_parts hR (F := F) (by omega) _ _) (fun s => k9_X10_parts _ s _ _) (fun s => k9_X11_parts _ s _ _)) (fun c10 => ?_)
  refine lx_if (fun _ => lx_call hg (a_feed hR (F := F) (by omega) _ _) (fun s => k9_X10_feed _ s _ _) (fun s => k9_X11_feed _ s _ _)) (fun c11 => ?_)
  refine lx_if (fun _ => lx_call hg (a_vote hR (F := F) (by omega) _ _) (fun s => k9_X10_vote _ s _ _) (fun s => k9_X11_vote _ s _ _)) (fun c12 => ?_)
  refine lx_if (fun _ => lx_call hg (a_voids hR (F := F) (by omega) _) (fun s => k9_X10_voids _ s _) (fun s => k9_X11_voids _ s _)) (fun c13 => ?_)
  refine lx_if (fun _ => lx_call hg (a_value hR (F := F) (by omega) _ _ _ _) (fun s => k9_X10_value _ s _ _ _ _) (fun s => k9_X11_value _ s _ _ _ _)) (fun c14 => ?_)
  refine lx_if (fun _ => lx_call hg (a_why hR (F := F) (by omega) _ _ _ _) (fun s => k9_X10_why _ s _ _ _ _) (fun s => k9_X11_why _ s _ _ _ _)) (fun c15 => ?_)
  refine lx_if (fun _ => lx_call hg (a_weather hR F _ _ _) (fun s => k9_X10_weather _ s _ _ _) (fun s => k9_X11_weather _ s _ _ _)) (fun c16 => ?_)
  refine lx_if (fun _ => lx_call hg (a_sky hR (F := F) (by omega) _ _ _ _ _) (fun s => k9_X10_sky _ s _ _ _ _ _) (fun s => k9_X11_sky _ s _ _ _ _ _)) (fun c17 => ?_)
  refine lx_if (fun _ => lx_call hg (a_skyOf hR (F := F) (by omega) _ _) (fun s => k9_X10_skyOf _ s _ _) (fun s => k9_X11_skyOf _ s _ _)) (fun c18 => ?_)
  refine lx_if (fun _ => lx_call hg (a_alp hR F _ _) (fun s => k9_X10_alp _ s _ _) (fun s => k9_X11_alp _ s _ _)) (fun c19 => ?_)
  refine lx_if (fun _ => lx_call hg (a_alpOf hR (F := F) (by omega) _ _) (fun s => k9_X10_alpOf _ s _ _) (fun s => k9_X11_alpOf _ s _ _)) (fun c20 => ?_)
  refine lx_if (fun _ => lx_call hg (a_drive hR (F := F) (by omega) hd _ _ _) (fun s => k9_X10_drive _ s _ _ _) (fun s => k9_X11_drive _ s _ _ _)) (fun c21 => ?_)
  refine lx_if (fun _ => lx_call hg (a_home hR F _ _ _) (fun s => k9_X10_home _ s _ _ _) (fun s => k9_X11_home _ s _ _ _)) (fun c22 => ?_)
  refine lx_if (fun _ => lx_call hg (a_book hR F _ _) (fun s => k9_X10_book _ s _ _) (fun s => k9_X11_book _ s _ _)) (fun c23 => ?_)
  refine lx_if (fun _ => lx_call hg (a_days hR (F := F) (by omega) _) (fun s => k9_X10_days _ s _) (fun s => k9_X11_days _ s _)) (fun c24 => ?_)
  refine lx_if (fun _ => lx_call hg (a_slope hR F _) (fun s => k9_X10_slope _ s _) (fun s => k9_X11_slope _ s _)) (fun c25 => ?_)
  refine lx_if (fun _ => lx_call hg (a_slopeOf hR (F := F) (by omega) _ _) (fun s => k9_X10_slopeOf _ s _ _) (fun s => k9_X11_slopeOf _ s _ _)) (fun c26 => ?_)
  refine lx_if (fun _ => lx_if (fun c => ?_) (fun c => ?_)) (fun c27 => ?_)
  · simp only [if_pos c]
    exact lx_call hg (a_works hR F _ (Or.inl rfl)) (fun s => k9_X10_works _ s _ _) (fun s => k9_X11_works _ s _ _)
  · simp only [if_neg c]
    exact lx_call hg (a_works hR F _ (Or.inr rfl)) (fun s => k9_X10_works _ s _ _) (fun s => k9_X11_works _ s _ _)
  refine lx_if (fun _ => lx_if (fun c => ?_) (fun c => ?_)) (fun c28 => ?_)
  · simp only [if_pos c]
    exact lx_call hg (a_shut hR F (Or.inl rfl)) (fun s => k9_X10_shut _ s _) (fun s => k9_X11_shut _ s _)
  · simp only [if_neg c]
    exact lx_call hg (a_shut hR F (Or.inr rfl)) (fun s => k9_X10_shut _ s _) (fun s => k9_X11_shut _ s _)
  refine lx_if (fun _ => lx_call hg (a_measure hR (F := F) (by omega)) (fun s => k9_X10_measure _ s) (fun s => k9_X11_measure _ s)) (fun c29 => ?_)
  refine lx_if (fun _ => lx_call hg (a_cheese hR (F := F) (by omega) _) (fun s => k9_X10_cheese _ s _) (fun s => k9_X11_cheese _ s _)) (fun c30 => ?_)
  refine lx_if (fun _ => lx_call hg (a_rest hR F _) (fun s => k9_X10_rest _ s _) (fun s => k9_X11_rest _ s _)) (fun c31 => ?_)
  refine lx_if (fun _ => lx_call hg (a_fell hR (F := F) (by omega) _ _) (fun s => k9_X10_fell _ s _ _) (fun s => k9_X11_fell _ s _ _)) (fun c32 => ?_)
  refine lx_if (fun _ => lx_call hg (a_channel hR F _ _ _) (fun s => k9_X10_channel _ s _ _ _) (fun s => k9_X11_channel _ s _ _ _)) (fun c33 => ?_)
  refine lx_if (fun _ => lx_call hg (a_hour hR (F := F) (by omega) _) (fun s => k9_X10_hour _ s _) (fun s => k9_X11_hour _ s _)) (fun c34 => ?_)
  refine lx_if (fun _ => lx_call hg (a_gets hR (F := F) (by omega) _ _ _) (fun s => k9_X10_gets _ s _ _ _) (fun s => k9_X11_gets _ s _ _ _)) (fun c35 => ?_)
  refine lx_if (fun _ => lx_call hg (a_turn hR (F := F) (by omega) _) (fun s => k9_X10_turn _ s _) (fun s => k9_X11_turn _ s _)) (fun c36 => ?_)
  refine lx_if (fun _ => lx_call hg (a_work hR F _ _) (fun s => k9_X10_work _ s _ _) (fun s => k9_X11_work _ s _ _)) (fun c37 => ?_)
  refine lx_if (fun _ => lx_call hg (a_year hR (F := F) (by omega)) (fun s => k9_X10_year _ s) (fun s => k9_X11_year _ s)) (fun c38 => ?_)
  refine lx_if (fun _ => lx_call hg (a_plan hR (F := F) (by omega) _ _ _) (fun s => k9_X10_plan _ s _ _ _) (fun s => k9_X11_plan _ s _ _ _)) (fun c39 => ?_)
  refine lx_if (fun _ => lx_call hg (a_act hR (F := F) (by omega) _ _ _) (fun s => k9_X10_act _ s _ _ _) (fun s => k9_X11_act _ s _ _ _)) (fun c40 => ?_)
  refine lx_if (fun _ => lx_call hg (a_trace hR F _) (fun s => k9_X10_trace _ s _) (fun s => k9_X11_trace _ s _)) (fun c41 => ?_)
  refine lx_if (fun _ => lx_call hg (a_taken hR (F := F) (by omega) _ _) (fun s => k9_X10_taken _ s _ _) (fun s => k9_X11_taken _ s _ _)) (fun c42 => ?_)
  refine lx_if (fun _ => lx_call hg (a_count hR (F := F) (by omega) _) (fun s => k9_X10_count _ s _) (fun s => k9_X11_count _ s _)) (fun c43 => ?_)
  refine lx_if (fun _ => lx_call hg (a_sheet hR (F := F) (by omega) _ _ _) (fun s => k9_X10_sheet _ s _ _ _) (fun s => k9_X11_sheet _ s _ _ _)) (fun c44 => ?_)
  refine lx_if (fun _ => lx_call hg (a_cell hR F _ _ _) (fun s => k9_X10_cell _ s _ _ _) (fun s => k9_X11_cell _ s _ _ _)) (fun c45 => ?_)
  refine lx_if (fun _ => lx_call hg (a_lose hR F _ _) (fun s => k9_X10_lose _ s _ _) (fun s => k9_X11_lose _ s _ _)) (fun c46 => ?_)
  refine lx_if (fun _ => lx_call hg (a_copy hR F _ _ _ _ _) (fun s => k9_X10_copy _ s _ _ _ _ _) (fun s => k9_X11_copy _ s _ _ _ _ _)) (fun c47 => ?_)
  exfalso
  generalize Z.2.2.2.2 (nI (6 * k)).toNatClampNeg &&& 63 = q at *
  have q0 : ¬ q < 0 := fun w => hr (Or.inl (by
    have := Int32.lt_iff_toInt_lt.mp w
    rw [Int32.toInt_zero] at this
    exact this))
  obtain ⟨j, hj, rfl⟩ := nI_of q0
  have jr : j < 48 := by
    have : (nI j).toInt = (j : Int) := nI_toInt hj
    have h2 : ¬ 47 < (nI j).toInt := fun w => hr (Or.inr w)
    omega
  have d0 : j ≠ 0 := fun z => c0 (by rw [z]; rfl)
  have d1 : j ≠ 1 := fun z => c1 (by rw [z]; rfl)
  have d2 : j ≠ 2 := fun z => c2 (by rw [z]; rfl)
  have d3 : j ≠ 3 := fun z => c3 (by rw [z]; rfl)
  have d4 : j ≠ 4 := fun z => c4 (by rw [z]; rfl)
  have d5 : j ≠ 5 := fun z => c5 (by rw [z]; rfl)
  have d6 : j ≠ 6 := fun z => c6 (by rw [z]; rfl)
  have d7 : j ≠ 7 := fun z => c7 (by rw [z]; rfl)
  have d8 : j ≠ 8 := fun z => c8 (by rw [z]; rfl)
  have d9 : j ≠ 9 := fun z => c9 (by rw [z]; rfl)
  have d10 : j ≠ 10 := fun z => c10 (by rw [z]; rfl)
  have d11 : j ≠ 11 := fun z => c11 (by rw [z]; rfl)
  have d12 : j ≠ 12 := fun z => c12 (by rw [z]; rfl)
  have d13 : j ≠ 13 := fun z => c13 (by rw [z]; rfl)
  have d14 : j ≠ 14 := fun z => c14 (by rw [z]; rfl)
  have d15 : j ≠ 15 := fun z => c15 (by rw [z]; rfl)
  have d16 : j ≠ 16 := fun z => c16 (by rw [z]; rfl)
  have d17 : j ≠ 17 := fun z => c17 (by rw [z]; rfl)
  have d18 : j ≠ 18 := fun z => c18 (by rw [z]; rfl)
  have d19 : j ≠ 19 := fun z => c19 (by rw [z]; rfl)
  have d20 : j ≠ 20 := fun z => c20 (by rw [z]; rfl)
  have d21 : j ≠ 21 := fun z => c21 (by rw [z]; rfl)
  have d22 : j ≠ 22 := fun z => c22 (by rw [z]; rfl)
  have d23 : j ≠ 23 := fun z => c23 (by rw [z]; rfl)
  have d24 : j ≠ 24 := fun z => c24 (by rw [z]; rfl)
  have d25 : j ≠ 25 := fun z => c25 (by rw [z]; rfl)
  have d26 : j ≠ 26 := fun z => c26 (by rw [z]; rfl)
  have d27 : j ≠ 27 := fun z => c27 (by rw [z]; rfl)
  have d28 : j ≠ 28 := fun z => c28 (by rw [z]; rfl)
  have d29 : j ≠ 29 := fun z => c29 (by rw [z]; rfl)
  have d30 : j ≠ 30 := fun z => c30 (by rw [z]; rfl)
  have d31 : j ≠ 31 := fun z => c31 (by rw [z]; rfl)
  have d32 : j ≠ 32 := fun z => c32 (by rw [z]; rfl)
  have d33 : j ≠ 33 := fun z => c33 (by rw [z]; rfl)
  have d34 : j ≠ 34 := fun z => c34 (by rw [z]; rfl)
  have d35 : j ≠ 35 := fun z => c35 (by rw [z]; rfl)
  have d36 : j ≠ 36 := fun z => c36 (by rw [z]; rfl)
  have d37 : j ≠ 37 := fun z => c37 (by rw [z]; rfl)
  have d38 : j ≠ 38 := fun z => c38 (by rw [z]; rfl)
  have d39 : j ≠ 39 := fun z => c39 (by rw [z]; rfl)
  have d40 : j ≠ 40 := fun z => c40 (by rw [z]; rfl)
  have d41 : j ≠ 41 := fun z => c41 (by rw [z]; rfl)
  have d42 : j ≠ 42 := fun z => c42 (by rw [z]; rfl)
  have d43 : j ≠ 43 := fun z => c43 (by rw [z]; rfl)
  have d44 : j ≠ 44 := fun z => c44 (by rw [z]; rfl)
  have d45 : j ≠ 45 := fun z => c45 (by rw [z]; rfl)
  have d46 : j ≠ 46 := fun z => c46 (by rw [z]; rfl)
  have d47 : j ≠ 47 := fun z => c47 (by rw [z]; rfl)
  omega
theorem zRel_gh {σ : zMem} {g : Nat} (hR : zRel σ) (hg : σ.1 999 0 0 = nI g) (h1 : 1 ≤ g) (h2 : g ≤ 512) : zRel (zwi σ 999 0 0 (nI (g - 1))) ∧ ∃ n g', (zwi σ 999 0 0 (nI (g - 1))).1 0 0 10 = nI n ∧ (zwi σ 999 0 0 (nI (g - 1))).1 999 0 0 = nI g' ∧ n + g' ≤ 511 := by
  have o : ∀ K, K ≠ 999 → (zwi σ 999 0 0 (nI (g - 1))).1 K = σ.1 K := fun K h => by
    funext i j
    exact zwi_r (fun w => h w.1)
  obtain ⟨hh, hr, hw, hk, ha, hd, hl, hc, ht, hb, hQ⟩ := hR
  obtain ⟨y1, y2, y3, y4, y5, y6, y7, y8, y9, n, g', e1, e2, e3⟩ := hQ
  have gg : g' = g := (nI_eq (by omega) (by omega)).mp (e2.symm.trans hg)
  subst gg
  have b : (zwi σ 999 0 0 (nI (g' - 1))).1 0 0 10 = nI n := by rw [o 0 (by decide), e1]
  refine ⟨⟨?_, ?_, ?_, ?_, ?_, ?_, ?_, ?_, ?_, ?_, ?_, ?_, ?_, ?_, ?_, ?_, ?_, ?_, ?_, n, g' - 1, b, zwi_hit .., by omega⟩, n, g' - 1, b, zwi_hit .., by omega⟩
  · unfold zRh
    simp only [o 0 (by decide), o 2 (by decide), o 3 (by decide), o 4 (by decide), o 60 (by decide), o 62 (by decide), o 63 (by decide), o 64 (by decide), o 65 (by decide), o 66 (by decide), o 67 (by decide), o 68 (by decide), o 69 (by decide), o 70 (by decide), o 72 (by decide)]
    exact hh
  · unfold zRr
    simp only [o 5 (by decide), o 6 (by decide), o 7 (by decide), o 8 (by decide), o 9 (by decide), o 10 (by decide), o 60 (by decide), o 73 (by decide), o 74 (by decide), o 75 (by decide), o 76 (by decide), o 77 (by decide)]
    exact hr
  · unfold zRw
    simp only [o 11 (by decide), o 13 (by decide), o 14 (by decide), o 15 (by decide), o 16 (by decide), o 17 (by decide), o 18 (by decide), o 19 (by decide), o 60 (by decide), o 78 (by decide), o 80 (by decide), o 82 (by decide)]
    exact hw
  · unfold zRk
    simp only [o 22 (by decide), o 24 (by decide), o 84 (by decide), o 86 (by decide)]
    exact hk
  · unfold zRa
    simp only [o 0 (by decide), o 25 (by decide), o 26 (by decide), o 27 (by decide), o 28 (by decide), o 29 (by decide), o 60 (by decide), o 72 (by decide), o 87 (by decide), o 88 (by decide), o 89 (by decide), o 90 (by decide)]
    exact ha
  · unfold zRd
    simp only [o 0 (by decide), o 50 (by decide), o 60 (by decide), o 92 (by decide)]
    exact hd
  · unfold zRl
    simp only [o 38 (by decide), o 40 (by decide), o 41 (by decide), o 42 (by decide), o 60 (by decide), o 93 (by decide), o 94 (by decide), o 95 (by decide), o 97 (by decide), o 99 (by decide), o 100 (by decide)]
    exact hl
  · unfold zRc
    simp only [o 0 (by decide), o 2 (by decide), o 43 (by decide), o 44 (by decide), o 45 (by decide), o 51 (by decide), o 60 (by decide), o 101 (by decide), o 102 (by decide), o 103 (by decide)]
    exact hc
  · unfold zRt
    simp only [o 47 (by decide), o 104 (by decide), o 105 (by decide), o 107 (by decide), o 109 (by decide), show (zwi σ 999 0 0 (nI (g' - 1))).2 = σ.2 from rfl]
    exact ht
  · unfold zRb
    simp only [o 0 (by decide), o 52 (by decide), o 60 (by decide), o 110 (by decide)]
    exact hb
  · simp only [o 0 (by decide), o 11 (by decide), o 13 (by decide), o 60 (by decide), o 62 (by decide), o 64 (by decide), o 65 (by decide), o 66 (by decide), o 68 (by decide), o 72 (by decide), o 75 (by decide), o 88 (by decide), o 89 (by decide), o 95 (by decide), o 97 (by decide)]
    exact y1
  · simp only [o 0 (by decide), o 11 (by decide), o 13 (by decide), o 60 (by decide), o 62 (by decide), o 64 (by decide), o 65 (by decide), o 66 (by decide), o 68 (by decide), o 72 (by decide), o 75 (by decide), o 88 (by decide), o 89 (by decide), o 95 (by decide), o 97 (by decide)]
    exact y2
  · simp only [o 0 (by decide), o 11 (by decide), o 13 (by decide), o 60 (by decide), o 62 (by decide), o 64 (by decide), o 65 (by decide), o 66 (by decide), o 68 (by decide), o 72 (by decide), o 75 (by decide), o 88 (by decide), o 89 (by decide), o 95 (by decide), o 97 (by decide)]
    exact y3
  · simp only [o 0 (by decide), o 11 (by decide), o 13 (by decide), o 60 (by decide), o 62 (by decide), o 64 (by decide), o 65 (by decide), o 66 (by decide), o 68 (by decide), o 72 (by decide), o 75 (by decide), o 88 (by decide), o 89 (by decide), o 95 (by decide), o 97 (by decide)]
    exact y4
  · simp only [o 0 (by decide), o 11 (by decide), o 13 (by decide), o 60 (by decide), o 62 (by decide), o 64 (by decide), o 65 (by decide), o 66 (by decide), o 68 (by decide), o 72 (by decide), o 75 (by decide), o 88 (by decide), o 89 (by decide), o 95 (by decide), o 97 (by decide)]
    exact y5
  · simp only [o 0 (by decide), o 11 (by decide), o 13 (by decide), o 60 (by decide), o 62 (by decide), o 64 (by decide), o 65 (by decide), o 66 (by decide), o 68 (by decide), o 72 (by decide), o 75 (by decide), o 88 (by decide), o 89 (by decide), o 95 (by decide), o 97 (by decide)]
    exact y6
  · simp only [o 0 (by decide), o 11 (by decide), o 13 (by decide), o 60 (by decide), o 62 (by decide), o 64 (by decide), o 65 (by decide), o 66 (by decide), o 68 (by decide), o 72 (by decide), o 75 (by decide), o 88 (by decide), o 89 (by decide), o 95 (by decide), o 97 (by decide)]
    exact y7
  · simp only [o 0 (by decide), o 11 (by decide), o 13 (by decide), o 60 (by decide), o 62 (by decide), o 64 (by decide), o 65 (by decide), o 66 (by decide), o 68 (by decide), o 72 (by decide), o 75 (by decide), o 88 (by decide), o 89 (by decide), o 95 (by decide), o 97 (by decide)]
    exact y8
  · simp only [o 0 (by decide), o 11 (by decide), o 13 (by decide), o 60 (by decide), o 62 (by decide), o 64 (by decide), o 65 (by decide), o 66 (by decide), o 68 (by decide), o 72 (by decide), o 75 (by decide), o 88 (by decide), o 89 (by decide), o 95 (by decide), o 97 (by decide)]
    exact y9
theorem law_run {F : Nat} {Z : zLay} {σ : zMem} (hF : 300000 < F) (hL : Z.2.2.2.1 ≤ 3072) (hR : zRel σ) (hg : σ.1 999 0 0 = nI 512) : ∃ σ', zit (zlaw F Z) F σ 0 = some (1, σ') := by
  refine zit_q (fun (m : Nat) (s : zMem) (x : Int32) => ∃ k, x = nI (6 * k) ∧ zRel s ∧ s.1 999 0 0 = nI m ∧ m ≤ 512 ∧ 6 * k ≤ Z.2.2.2.1 ∧ Z.2.2.2.1 ≤ 6 * k + 6 * m + 5) (fun (o : Option (Int32 × zMem)) => ∃ σ' : zMem, o = some (1, σ')) ?_ F 512 σ _ ⟨0, by rw [Nat.mul_zero, nI_0], hR, hg, by omega, by omega, by omega⟩ (by omega)
  rintro m s x ⟨k, rfl, hR, hg, hm, hk, hl⟩
  by_cases q : 6 * k + 6 ≤ Z.2.2.2.1
  · have hm1 : 1 ≤ m := by omega
    obtain ⟨r1, r2⟩ := zRel_gh hR hg hm1 hm
    have gv : s.1 999 0 0 - 1 = nI (m - 1) := by
      obtain ⟨m', rfl⟩ : ∃ m', m = m' + 1 := ⟨m - 1, by omega⟩
      rw [hg, nI_pred, Nat.add_sub_cancel]
    obtain ⟨σ2, h1, h2, h3⟩ := l_body (σ := zwi s 999 0 0 (nI (m - 1))) hF hL q r1 (zwi_hit ..) r2
    refine Or.inr ⟨m - 1, σ2, nI (6 * (k + 1)), by omega, ⟨k + 1, rfl, h2, h3, by omega, by omega, by omega⟩, fun rec => ?_⟩
    have h1r : f_L_law_18 F Z rec (zwi s 999 0 0 (nI (m - 1))) (nI (6 * k)) = rec σ2 (nI (6 * k + 6)) := h1 rec
    unfold zlaw
    rw [gv, h1r, show 6 * (k + 1) = 6 * k + 6 by omega]
  · refine Or.inl ⟨_, ⟨zwi s 999 0 0 (s.1 999 0 0 - 1), rfl⟩, fun rec => ?_⟩
    have cL : Z.2.2.2.1.toInt32 - 6 < nI (6 * k) := by
      have e : (Z.2.2.2.1.toInt32).toInt = (Z.2.2.2.1 : Int) := nI_toInt (n := Z.2.2.2.1) (by omega)
      have k6 : (6 : Int32).toInt = 6 := rfl
      rw [Int32.lt_iff_toInt_lt, t_sub (by rw [e, k6]; omega) (by rw [e, k6]; omega), e, k6, nI_toInt (by omega)]
      omega
    unfold zlaw f_L_law_18
    rw [if_pos cL]
