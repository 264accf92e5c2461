theorem e_passes {σ : zMem} {F N : Nat} (e : σ.1 0 0 1 = nI N) (x y : Int32) : f_X10_passes F σ x y = some (if zpb x ≤ zpb y then 0 else if 2 * (zpb x + zpb y) < nI N then 0 else if x &&& y = 0 then 1 else 0, σ) := by
  unfold f_X10_passes
  rw [e_pb, zb_s, e_pb, zb_s, e]
  by_cases p1 : zpb x ≤ zpb y
  · rw [if_pos p1, if_pos p1]
  · rw [if_neg p1, if_neg p1]
    by_cases p2 : 2 * (zpb x + zpb y) < nI N
    · rw [if_pos p2, if_pos p2]
    · rw [if_neg p2, if_neg p2]
      by_cases p3 : x &&& y = 0
      · rw [if_pos p3, if_pos p3]
      · rw [if_neg p3, if_neg p3]
theorem a_vote {σ : zMem} (hR : zRel σ) {F : Nat} (hF : 300 < F) (x y : Int32) : zOK (fun σ => f_X10_vote F σ x y) (fun σ => f_X11_vote F σ x y) σ := by
  obtain ⟨N, hN, e0, e60⟩ := zRh_n hR.1
  have hW := hR.2.2.1
  obtain ⟨⟨c, hc40, ec, hz⟩, ec2, ⟨n, hn100, en, hbyt⟩, en2, -⟩ := hW
  have hW := hR.2.2.1
  have y3 := hR.2.2.2.2.2.2.2.2.2.2.2.2.1
  obtain ⟨⟨d, hd, ed⟩, ed2, -⟩ := hR.2.2.2.2.1
  have ed2 : σ.1 60 0 0 = nI d := ed2.trans ed
  have ec2 : σ.1 60 0 20 = nI c := ec2.trans ec
  have en2 : σ.1 60 0 19 = nI n := en2.trans en
  by_cases hx : x.toUInt32.toNat < 2 ^ N
  rotate_left
  · refine zOK_same hR (-2) ?_ ?_
    · unfold f_X10_vote f_X10_areHouses
      rw [e0, if_neg (fun w => hx ((zpn_s x hN).mp w)), zb_s, if_pos rfl]
    · unfold f_X11_vote
      rw [e60, if_neg (fun w => hx ((zor_lt x y N).mp ((zpn_m _ hN).mp w)).1)]
  have ax : ∀ s : zMem, s.1 0 0 1 = nI N → f_X10_areHouses F s x = some (1, s) := fun s h => by
    unfold f_X10_areHouses
    rw [h, if_pos ((zpn_s x hN).mpr hx)]
  by_cases hy : y.toUInt32.toNat < 2 ^ N
  rotate_left
  · refine zOK_same hR (-2) ?_ ?_
    · unfold f_X10_vote
      rw [ax σ e0, zb_s, if_neg (by decide)]
      unfold f_X10_areHouses
      rw [e0, if_neg (fun w => hy ((zpn_s y hN).mp w)), zb_s, if_pos rfl]
    · unfold f_X11_vote
      rw [e60, if_neg (fun w => hy ((zor_lt x y N).mp ((zpn_m _ hN).mp w)).2)]
  have ay : ∀ s : zMem, s.1 0 0 1 = nI N → f_X10_areHouses F s y = some (1, s) := fun s h => by
    unfold f_X10_areHouses
    rw [h, if_pos ((zpn_s y hN).mpr hy)]
  have rxy := (zpn_m _ hN).mpr ((zor_lt x y N).mpr ⟨hx, hy⟩)
  by_cases hc : c < 40
  rotate_left
  · have h40 : c = 40 := by omega
    subst h40
    refine zOK_same hR (-4) ?_ ?_
    · unfold f_X10_vote
      rw [ax σ e0, zb_s, if_neg (by decide), ay σ e0, zb_s, if_neg (by decide), ec, if_neg (by decide)]
    · unfold f_X11_vote
      rw [e60, if_pos rxy, ec2, if_pos (by decide)]
  have c40 : nI c < 40 := nI_lt (b := 40) hc (by decide)
  have nc40 : ¬ nI c = 40 := fun w => by
    have := (nI_eq (a := c) (b := 40) (by omega) (by decide)).mp w
    omega
  have nc := nI_clamp (show c < 2 ^ 31 by omega)
  -- the tape
  obtain ⟨t, ht⟩ : ∃ t : Nat → Nat, t = fun j => (σ.1 78 0 j).toNatClampNeg := ⟨_, rfl⟩
  have tb : ∀ j, j < n → t j < 256 ∧ σ.1 78 0 j = nI (t j) ∧ σ.1 19 0 j = (nI (t j)).toInt8.toInt32 := fun j hj => by
    obtain ⟨b, b1, b2, b3⟩ := hbyt j hj
    have e : t j = b := by rw [ht]; show (σ.1 78 0 j).toNatClampNeg = b; rw [b2, nI_clamp (by omega)]
    rw [e]
    exact ⟨b1, b2, b3⟩
  have hC : ztC σ t n := ⟨hn100, en, fun j hj => ⟨(tb j hj).1, (tb j hj).2.2⟩⟩
  -- the class reads
  obtain ⟨ok, q0, U1, U2, ua, uf, uo, -, uc, -⟩ := j_word (F := F) (σ := σ) (σ' := σ) (by omega) hC ⟨hn100, en2, fun j hj => ⟨(tb j hj).1, (tb j hj).2.1⟩⟩ hc ec2
  obtain ⟨m, hm⟩ : ∃ m, m = zvc σ c U1 q0 := ⟨_, rfl⟩
  rw [← hm] at uc
  -- both, the reference at a later memory
  have two : ∀ σ1 : zMem, (∀ K i j, 60 ≤ K → K < 999 → σ1.1 K i j = σ.1 K i j) → ∃ (q : Nat) (S1 S2 : Nat → Nat → Int32) (a f o : Int32), q ≤ n ∧ m = zvc σ c S1 q ∧ f_X11_wordHere F σ1 = some (if ok then 1 else 0, zrs σ1 c S2 a f o) ∧ (∀ j, j = 2 ∨ j = 3 ∨ j = 4 → S1 13 j = σ.1 13 c j) ∧ (ok = true → S1 13 0 = S2 80 0 ∧ S1 13 1 = S2 80 1 ∧ zib (S1 13 1) 0 99999 ∧ ∃ T, T ≤ 4 ∧ S1 13 6 = nI T ∧ (T = 0 ∧ S2 80 2 = 0 ∨ 0 < T ∧ S2 80 3 = nI T ∧ (S1 13 5 = 0 ∧ S2 80 2 = 1 ∨ S1 13 5 = 1 ∧ S2 80 2 = 2)) ∧ ∀ i, i < T → ztr2 S1 S2 i) ∧ (ok = false → f = nI q) := fun σ1 h1 => by
    obtain ⟨ok', q, S1, S2, a, f, o, g0, g1, g2, g3, g4, g5⟩ := j_word (F := F) (σ := σ) (σ' := σ1) (by omega) hC ⟨hn100, by rw [h1 60 _ _ (by decide) (by decide), en2], fun j hj => ⟨(tb j hj).1, by rw [h1 78 _ _ (by decide) (by decide)]; exact (tb j hj).2.1⟩⟩ hc (by rw [h1 60 _ _ (by decide) (by decide), ec2])
    rw [uc] at g1
    injection g1 with g1
    injection g1 with g6 g7
    have hok : ok' = ok := by
      cases ok <;> cases ok'
      · rfl
      · exact absurd g6 (by decide)
      · exact absurd g6 (by decide)
      · rfl
    subst hok
    exact ⟨q, S1, S2, a, f, o, g0, g7, g2, g3, g4, g5⟩
  have rd : f_X9_read F σ = (if ok then some (-1, m) else some (m.1 11 0 4, m)) := by
    unfold f_X9_read
    rw [ec, if_pos c40, zwi_r (by decide), ec, zg_i (inb_n (show c < 40 by omega) (by decide)), nc, uc, zb_s]
    cases ok
    · exact if_pos rfl
    · exact if_neg (by decide)
  have mo : ∀ K i j, ¬ (K = 11 ∧ i = 0 ∧ j = 4) → ¬ (13 ≤ K ∧ K ≤ 18 ∧ i = c) → m.1 K i j = σ.1 K i j := fun K i j h1 h2 => by
    rw [hm, zvc_o _ _ _ _ (zPc_f (fun w => w.elim h1 h2))]
  have m2 : m.2 = σ.2 := by rw [hm]; rfl
  have cl0 : f_X10_vote F σ x y = zb (f_X9_read F σ) fun r38 m38 => if r38 < 0 then zb (f_X10_passes F (zwi m38 11 0 3 0) x y) fun r62 m62 => if r62 = 0 then some (-3, m62) else zb (f_X9_enter F m62 (m62.1 0 0 11)) fun r79 m79 => some (r79, m79) else some (-10 - r38, zwi m38 11 0 3 0) := by
    unfold f_X10_vote
    rw [ax σ e0, zb_s, if_neg (by decide), ay σ e0, zb_s, if_neg (by decide), ec, if_pos c40]
  have rf0 : ∀ s : zMem, s.1 60 0 1 = nI N → s.1 60 0 20 = nI c → f_X11_vote F s x y = zb (f_X11_wordHere F s) fun r33 m33 => if r33 = 0 then some (-10 - (zwi m33 60 0 19 0).1 60 0 59, zwi m33 60 0 19 0) else if x &&& y = 0 then (if zpb x ≤ zpb y then some (-3, zwi m33 60 0 19 0) else if (zwi m33 60 0 19 0).1 60 0 1 ≤ 2 * zpb (x ||| y) then zg (inb ((zwi m33 60 0 19 0).1 60 0 20) 41) (zg (inb 4 6) (zg (inb ((zwi (zwi m33 60 0 19 0) 80 ((zwi m33 60 0 19 0).1 60 0 20).toNatClampNeg 4 ((zwi m33 60 0 19 0).1 60 0 0)).1 60 0 20) 41) (zg (inb 5 6) (some ((zwi (zwi (zwi m33 60 0 19 0) 80 ((zwi m33 60 0 19 0).1 60 0 20).toNatClampNeg 4 ((zwi m33 60 0 19 0).1 60 0 0)) 80 ((zwi (zwi m33 60 0 19 0) 80 ((zwi m33 60 0 19 0).1 60 0 20).toNatClampNeg 4 ((zwi m33 60 0 19 0).1 60 0 0)).1 60 0 20).toNatClampNeg 5 (-1)).1 60 0 20, zwi (zwi (zwi (zwi m33 60 0 19 0) 80 ((zwi m33 60 0 19 0).1 60 0 20).toNatClampNeg 4 ((zwi m33 60 0 19 0).1 60 0 0)) 80 ((zwi (zwi m33 60 0 19 0) 80 ((zwi m33 60 0 19 0).1 60 0 20).toNatClampNeg 4 ((zwi m33 60 0 19 0).1 60 0 0)).1 60 0 20).toNatClampNeg 5 (-1)) 60 0 20 ((zwi (zwi (zwi m33 60 0 19 0) 80 ((zwi m33 60 0 19 0).1 60 0 20).toNatClampNeg 4 ((zwi m33 60 0 19 0).1 60 0 0)) 80 ((zwi (zwi m33 60 0 19 0) 80 ((zwi m33 60 0 19 0).1 60 0 20).toNatClampNeg 4 ((zwi m33 60 0 19 0).1 60 0 0)).1 60 0 20).toNatClampNeg 5 (-1)).1 60 0 20 + 1)))))) else some (-3, zwi m33 60 0 19 0)) else some (-3, zwi m33 60 0 19 0) := fun s h1 h2 => by
    unfold f_X11_vote
    rw [h1, if_pos rxy, h2, if_neg nc40]
    rfl
  -- without a new word
  have keep : ∀ (q : Nat) (S1 S2 : Nat → Nat → Int32) (a f o : Int32), m = zvc σ c S1 q → (∀ j, j = 2 ∨ j = 3 ∨ j = 4 → S1 13 j = σ.1 13 c j) → zRel (zwi (zrs (zwi m 11 0 3 0) c S2 a f o) 60 0 19 0) := fun q S1 S2 a f o hS hj => by
    have cell : ∀ K i j, ¬ (K = 11 ∧ i = 0 ∧ (j = 3 ∨ j = 4)) → ¬ (13 ≤ K ∧ K ≤ 18 ∧ i = c) → ¬ (K = 60 ∧ i = 0 ∧ (j = 19 ∨ 58 ≤ j ∧ j ≤ 60)) → ¬ ((K = 80 ∨ K = 82) ∧ i = c) → K ≠ 111 → (zwi (zrs (zwi m 11 0 3 0) c S2 a f o) 60 0 19 0).1 K i j = σ.1 K i j := fun K i j h1 h2 h3 h4 h5 => by
      rw [zwi_r (by omega), zrs_o _ _ _ _ _ _ (zPv_f (by omega)), zwi_r (by omega), mo K i j (by omega) h2]
    have k1 : (zwi (zrs (zwi m 11 0 3 0) c S2 a f o) 60 0 19 0).1 11 0 1 = nI c := by rw [cell _ _ _ (by omega) (by omega) (by omega) (by omega) (by decide), ec]
    refine zRv_keep (σ := σ) m2 (fun K h1 h2 h3 h4 h5 h6 => ?_) (fun j h1 h2 h3 => ?_) (zRw_vote (c := c) (n' := c) hW hc ec (fun K w hw hK => ?_) ?_ ?_ (zwi_hit ..) (Or.inl rfl) k1 ?_) (fun w hw hlt => ?_) hR
    · funext i j
      exact cell K i j (by omega) (by omega) (by omega) (by omega) h6
    · exact cell 60 0 j (by omega) (by omega) (by omega) (by omega) (by decide)
    · funext j
      exact cell K w j (by omega) (by omega) (by omega) (by omega) (by omega)
    · rw [zwi_r (by omega), zrs_o _ _ _ _ _ _ (zPv_f (by omega)), zwi_r (by omega), hS, zvc_i _ _ _ _ (by decide) (by decide), hj 4 (by omega), hz c (by omega) hc]
    · rw [zwi_r (by decide), zrs_o _ _ _ _ _ _ (zPv_f (by omega)), zwi_hit]
    · rw [cell _ _ _ (by omega) (by omega) (by omega) (by omega) (by decide), ec2]
    · rw [k1, nI_ltI (by omega) (by omega)] at hlt
      rw [cell 13 w 1 (by omega) (by omega) (by omega) (by omega) (by decide)]
      exact y3 w hw (by rw [ec, nI_ltI (by omega) (by omega)]; exact hlt)
  have s3o : ∀ K i j, K ≠ 11 → ¬ (13 ≤ K ∧ K ≤ 18) → (zwi m 11 0 3 0).1 K i j = σ.1 K i j := fun K i j h1 h2 => by rw [zwi_r (fun w => h1 w.1), mo K i j (fun w => h1 w.1) (fun w => h2 ⟨w.1, w.2.1⟩)]
  have s60 : ∀ j, (zwi m 11 0 3 0).1 60 0 j = σ.1 60 0 j := fun j => s3o 60 0 j (by decide) (by decide)
  rcases ok with _ | _
  · have rr := rf0 (zwi m 11 0 3 0) ((s60 1).trans e60) ((s60 20).trans ec2)
    obtain ⟨q, S1, S2, a, f, o, hqn, hS, hwd, hj, hok, hbad⟩ := two (zwi m 11 0 3 0) fun K i j h _ => s3o K i j (by omega) (by omega)
    have hf := hbad rfl
    have rd : f_X9_read F σ = some (m.1 11 0 4, m) := rd
    have m4 : m.1 11 0 4 = nI q := by rw [hS, zvc_r]
    rw [rd, zb_s, m4, if_neg (nI_pos (by omega))] at cl0
    rw [hwd, zb_s, if_pos (show (if false = true then (1 : Int32) else 0) = 0 from rfl), zwi_r (by decide), zrs_rf, hf] at rr
    exact zOK_i _ _ _ cl0 rr (keep q S1 S2 a (nI q) o hS hj)
  have rd : f_X9_read F σ = some (-1, m) := rd
  have u0 : (zwi m 11 0 3 0).1 0 0 1 = nI N := by rw [s3o 0 0 1 (by decide) (by decide), e0]
  rw [rd, zb_s, if_pos (show (-1 : Int32) < 0 by decide), e_passes u0, zb_s] at cl0
  have none : ∀ (cl1 : f_X10_vote F σ x y = some (-3, zwi m 11 0 3 0)), (x &&& y = 0 → ¬ zpb x ≤ zpb y → ¬ nI N ≤ 2 * zpb (x ||| y)) → zOK (fun σ => f_X10_vote F σ x y) (fun σ => f_X11_vote F σ x y) σ := fun cl1 h => by
    have rr := rf0 (zwi m 11 0 3 0) ((s60 1).trans e60) ((s60 20).trans ec2)
    obtain ⟨q, S1, S2, a, f, o, hqn, hS, hwd, hj, hok, hbad⟩ := two (zwi m 11 0 3 0) fun K i j h _ => s3o K i j (by omega) (by omega)
    have r1 : (zwi (zrs (zwi m 11 0 3 0) c S2 a f o) 60 0 19 0).1 60 0 1 = nI N := by rw [zwi_r (by decide), zrs_o _ _ _ _ _ _ (zPv_f (by omega)), s60, e60]
    rw [hwd, zb_s, if_neg (show ¬ (if true = true then (1 : Int32) else 0) = 0 by decide), r1] at rr
    refine zOK_i _ _ _ cl1 (?_ : f_X11_vote F (zwi m 11 0 3 0) x y = some (-3, zwi (zrs (zwi m 11 0 3 0) c S2 a f o) 60 0 19 0)) (keep q S1 S2 a f o hS hj)
    rw [rr]
    by_cases p3 : x &&& y = 0
    · rw [if_pos p3]
      by_cases p1 : zpb x ≤ zpb y
      · rw [if_pos p1]
      · rw [if_neg p1, if_neg (h p3 p1)]
    · rw [if_neg p3]
  by_cases p1 : zpb x ≤ zpb y
  · rw [if_pos p1, if_pos rfl] at cl0
    exact none cl0 fun _ w => absurd p1 w
  rw [if_neg p1] at cl0
  by_cases p2 : 2 * (zpb x + zpb y) < nI N
  · rw [if_pos p2, if_pos rfl] at cl0
    exact none cl0 fun w _ => by
      rw [zpb_or hN hx hy w]
      exact Int32.not_le.mpr p2
  rw [if_neg p2] at cl0
  by_cases p3 : x &&& y = 0
  rotate_left
  · rw [if_neg p3, if_pos rfl] at cl0
    exact none cl0 fun w _ => absurd w p3
  rw [if_pos p3, if_neg (show ¬ (1 : Int32) = 0 by decide)] at cl0
  -- a new word
  have u11 : (zwi m 11 0 3 0).1 11 0 1 = nI c := by rw [zwi_r (by decide), mo _ _ _ (by omega) (by omega), ec]
  have u0d : (zwi m 11 0 3 0).1 0 0 11 = nI d := by rw [s3o 0 0 11 (by decide) (by decide), ed]
  obtain ⟨σ1, hσ1⟩ : ∃ σ1, σ1 = zwi (zwi (zwi m 11 0 3 0) 13 c 2 (nI d)) 11 0 1 (nI (c + 1)) := ⟨_, rfl⟩
  have ent : f_X9_enter F (zwi m 11 0 3 0) (nI d) = some (nI c, σ1) := by
    unfold f_X9_enter
    rw [u11, zg_i (inb_n (show c < 40 by omega) (by decide)), nc, zwi_r (by omega), u11, nI_1, hσ1]
  rw [u0d, ent, zb_s] at cl0
  have s1o : ∀ K i j, ¬ (K = 11 ∧ i = 0 ∧ j = 1) → ¬ (K = 13 ∧ i = c ∧ j = 2) → ¬ (K = 11 ∧ i = 0 ∧ j = 3) → σ1.1 K i j = m.1 K i j := fun K i j h1 h2 h3 => by rw [hσ1, zwi_r h1, zwi_r h2, zwi_r h3]
  have s1s : ∀ K i j, K ≠ 11 → ¬ (13 ≤ K ∧ K ≤ 18 ∧ i = c) → σ1.1 K i j = σ.1 K i j := fun K i j h1 h2 => by rw [s1o K i j (by omega) (by omega) (by omega), mo K i j (by omega) h2]
  obtain ⟨q, S1, S2, a, f, o, hqn, hS, hwd, hj, hok, hbad⟩ := two σ1 fun K i j h _ => s1s K i j (by omega) (by omega)
  obtain ⟨w0, w1, w2, T, wT, w6, w3, wr⟩ := hok rfl
  have rr := rf0 σ1 ((s1s 60 0 1 (by decide) (by omega)).trans e60) ((s1s 60 0 20 (by decide) (by omega)).trans ec2)
  obtain ⟨ρ, hρ⟩ : ∃ ρ, ρ = zwi (zrs σ1 c S2 a f o) 60 0 19 0 := ⟨_, rfl⟩
  have ρo : ∀ j, j ≠ 19 → (j < 58 ∨ 60 < j) → ρ.1 60 0 j = σ.1 60 0 j := fun j h1 h2 => by rw [hρ, zwi_r (by omega), zrs_o _ _ _ _ _ _ (zPv_f (by omega)), s1s 60 0 j (by decide) (by omega)]
  have ρ1 : ρ.1 60 0 1 = nI N := (ρo 1 (by decide) (by decide)).trans e60
  have ρ20 : ρ.1 60 0 20 = nI c := (ρo 20 (by decide) (by decide)).trans ec2
  have ρ0 : ρ.1 60 0 0 = nI d := (ρo 0 (by decide) (by decide)).trans ed2
  obtain ⟨τ, hτ⟩ : ∃ τ, τ = zwi (zwi (zwi ρ 80 c 4 (nI d)) 80 c 5 (-1)) 60 0 20 (nI (c + 1)) := ⟨_, rfl⟩
  have i41 := inb_n (show c < 41 by omega) (show 41 < 100000 by decide)
  have i4 : inb 4 6 = true := by decide
  have i5 : inb 5 6 = true := by decide
  have v1 : (zwi ρ 80 c 4 (nI d)).1 60 0 20 = nI c := by rw [zwi_r (by omega), ρ20]
  have v2 : (zwi (zwi ρ 80 c 4 (nI d)) 80 c 5 (-1)).1 60 0 20 = nI c := by rw [zwi_r (by omega), v1]
  have hp : nI N ≤ 2 * zpb (x ||| y) := by
    rw [zpb_or hN hx hy p3]
    exact Int32.not_lt.mp p2
  rw [hwd, zb_s, if_neg (show ¬ (if true = true then (1 : Int32) else 0) = 0 by decide), ← hρ, if_pos p3, if_neg p1, ρ1, if_pos hp, ρ20, ρ0, nc, zg_i i41, zg_i i4, v1, zg_i i41, zg_i i5, nc, v2, nI_1, ← hτ] at rr
  refine zOK_i _ _ _ cl0 rr ?_
  have ct : ∀ K i j, ¬ (K = 80 ∧ i = c) → ¬ (K = 60 ∧ i = 0 ∧ (j = 19 ∨ j = 20)) → τ.1 K i j = (zrs σ1 c S2 a f o).1 K i j := fun K i j h1 h2 => by rw [hτ, zwi_r (by omega), zwi_r (by omega), zwi_r (by omega), hρ, zwi_r (by omega)]
  have cell : ∀ K i j, K ≠ 11 → ¬ (13 ≤ K ∧ K ≤ 18 ∧ i = c) → ¬ (K = 60 ∧ i = 0 ∧ (j = 19 ∨ j = 20 ∨ 58 ≤ j ∧ j ≤ 60)) → ¬ ((K = 80 ∨ K = 82) ∧ i = c) → K ≠ 111 → τ.1 K i j = σ.1 K i j := fun K i j h1 h2 h3 h4 h5 => by rw [ct K i j (by omega) (by omega), zrs_o _ _ _ _ _ _ (zPv_f (by omega)), s1s K i j h1 h2]
  have t13 : ∀ K j, 13 ≤ K → K ≤ 18 → ¬ (K = 13 ∧ j = 2) → τ.1 K c j = S1 K j := fun K j h1 h2 h3 => by rw [ct K c j (by omega) (by omega), zrs_o _ _ _ _ _ _ (zPv_f (by omega)), s1o K c j (by omega) (by omega) (by omega), hS, zvc_i _ _ _ _ h1 h2]
  have t80 : ∀ j, j ≠ 4 → j ≠ 5 → τ.1 80 c j = S2 80 j := fun j h1 h2 => by rw [hτ, zwi_r (by omega), zwi_r (by omega), zwi_r (by omega), hρ, zwi_r (by omega), zrs_i _ _ _ _ _ _ (by simp [zPv]) (by decide)]
  have t82 : ∀ j, τ.1 82 c j = S2 82 j := fun j => by rw [ct 82 c j (by omega) (by omega), zrs_i _ _ _ _ _ _ (by simp [zPv]) (by decide)]
  have t132 : τ.1 13 c 2 = nI d := by rw [ct 13 c 2 (by omega) (by omega), zrs_o _ _ _ _ _ _ (zPv_f (by omega)), hσ1, zwi_r (by omega), zwi_hit]
  have t804 : τ.1 80 c 4 = nI d := by rw [hτ, zwi_r (by omega), zwi_r (by omega), zwi_hit]
  have t805 : τ.1 80 c 5 = -1 := by rw [hτ, zwi_r (by omega), zwi_hit]
  have t134 : τ.1 13 c 4 = 0 := by rw [t13 13 4 (by decide) (by decide) (by decide), hj 4 (by omega), hz c (by omega) hc]
  have k1 : τ.1 11 0 1 = nI (c + 1) := by rw [ct 11 0 1 (by omega) (by omega), zrs_o _ _ _ _ _ _ (zPv_f (by omega)), hσ1, zwi_hit]
  have row : zRow τ c := by
    refine ⟨by rw [t13 13 0 (by decide) (by decide) (by decide), t80 0 (by decide) (by decide), w0], by rw [t13 13 1 (by decide) (by decide) (by decide), t80 1 (by decide) (by decide), w1], by rw [t132, t804], Or.inl ⟨t134, t805⟩, T, wT, by rw [t13 13 6 (by decide) (by decide) (by decide), w6], ?_, fun i hi => ?_⟩
    · rw [t80 2 (by decide) (by decide), t80 3 (by decide) (by decide), t13 13 5 (by decide) (by decide) (by decide)]
      exact w3
    · rw [t13 17 i (by decide) (by decide) (by omega), t13 14 i (by decide) (by decide) (by omega), t13 15 i (by decide) (by decide) (by omega), t13 16 i (by decide) (by decide) (by omega), t13 18 i (by decide) (by decide) (by omega), t82, t82, t82, t82, t82]
      exact wr i hi
  have τ2 : τ.2 = σ.2 := by
    rw [hτ]
    show ρ.2 = σ.2
    rw [hρ]
    show σ1.2 = σ.2
    rw [hσ1]
    exact m2
  refine zRv_keep (σ := σ) τ2 (fun K h1 h2 h3 h4 h5 h6 => ?_) (fun j h1 h2 h3 => ?_) (zRw_vote (c := c) (n' := c + 1) hW hc ec (fun K w hw hK => ?_) t134 ?_ ?_ (Or.inr ⟨rfl, row⟩) k1 ?_) (fun w hw hlt => ?_) hR
  · funext i j
    exact cell K i j h1 (by omega) (by omega) (by omega) h6
  · exact cell 60 0 j (by decide) (by omega) (by omega) (by omega) (by decide)
  · funext j
    exact cell K w j (by omega) (by omega) (by omega) (by omega) (by omega)
  · rw [ct 11 0 3 (by omega) (by omega), zrs_o _ _ _ _ _ _ (zPv_f (by omega)), hσ1, zwi_r (by omega), zwi_r (by omega), zwi_hit]
  · rw [hτ, zwi_r (by omega), zwi_r (by omega), zwi_r (by omega), hρ, zwi_hit]
  · rw [hτ, zwi_hit]
  · rw [k1, nI_ltI (by omega) (by omega)] at hlt
    by_cases e : w = c
    · rw [e, t13 13 1 (by decide) (by decide) (by decide)]
      exact w2
    · rw [cell 13 w 1 (by omega) (by omega) (by omega) (by omega) (by decide)]
      exact y3 w hw (by rw [ec, nI_ltI (by omega) (by omega)]; omega)

