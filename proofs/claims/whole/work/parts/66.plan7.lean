theorem e_194 {σ : zMem} {G S : Nat → Int32} {m n d nd F : Nat} (hF : 8000 < F) (hm : m ≤ 4) (hn : n ≤ 10) (hnd : nd ≤ 30) (hd : d + nd ≤ 7200) (e1 : σ.1 60 0 1 = nI n) (em : σ.1 60 0 25 = nI m) (eg : σ.1 60 0 28 = nI 113) (es : σ.1 60 0 29 = nI 114) (eu : σ.1 60 0 11 = nI 115) (ed : σ.1 60 0 0 = nI d) (hG : ∀ b, b < m → zib (G b) 0 990) (ha : ∀ b, b < m → zib (σ.1 88 0 b) 0 99) (hu : ∀ b h, b < m → h < n → zib (σ.1 116 b h) 0 999) : zit (f_X11_tried_194 F) F (zrq σ G S) (nI nd, 89, 90, 71, 0, nI d) = some (zsum (fun b => (zaj σ d n G S nd b).2.2) m, zwi (zwi (zwi (zrq σ (zfu (fun b => (zaj σ d n G S nd b).1) G m) (zfu (fun b => (zaj σ d n G S nd b).2.1) S m)) 60 0 28 (nI 89)) 60 0 29 (nI 90)) 60 0 11 (nI 71)) := by
  have t4 : zdG 89 = true := by decide
  have t5 : zdS 90 = true := by decide
  have t6 : zdU 71 = true := by decide
  have id0 : ∀ G : Nat → Int32, zfu (fun b => G b) G m = G := fun G => by
    funext b
    show (if b < m then G b else G b) = G b
    split <;> rfl
  have z0 : zsum (fun b => (zaj σ d n G S 0 b).2.2) m = 0 := by
    have := zsum_cut (f := fun b => (zaj σ d n G S 0 b).2.2) 0 m fun i _ _ => rfl
    rw [Nat.zero_add] at this
    exact this
  refine zit_m (fun i s x => ∃ j, j ≤ nd ∧ i = nd - j ∧ s = zrq σ (zfu (fun b => (zaj σ d n G S j b).1) G m) (zfu (fun b => (zaj σ d n G S j b).2.1) S m) ∧ x = (nI nd, 89, 90, 71, zsum (fun b => (zaj σ d n G S j b).2.2) m, nI (d + j))) _ ?_ F nd _ _ ⟨0, by omega, rfl, ?_, by rw [z0]; rfl⟩ (by omega)
  · rintro i s x ⟨j, hj, rfl, rfl, rfl⟩
    have r0 : ∀ G S, (zrq σ G S).1 60 0 0 = nI d := fun G S => (zrq_o σ G S (by omega)).trans ed
    have su : nI d + nI nd = nI (d + nd) := nI_add d nd
    by_cases q : j = nd
    · subst q
      refine Or.inl fun rec => ?_
      unfold f_X11_tried_194
      simp only
      rw [zg_i t4, zg_i t5, zg_i t6, r0, su, if_pos (Int32.le_refl _)]
    · refine Or.inr ⟨nd - (j + 1), zrq σ (zfu (fun b => (zaj σ d n G S (j + 1) b).1) G m) (zfu (fun b => (zaj σ d n G S (j + 1) b).2.1) S m), (nI nd, 89, 90, 71, zsum (fun b => (zaj σ d n G S (j + 1) b).2.2) m, nI (d + (j + 1))), by omega, ⟨j + 1, by omega, rfl, rfl, rfl⟩, fun rec => ?_⟩
      have c1 : ¬ nI (d + nd) ≤ nI (d + j) := nle_s (by omega) (by omega)
      unfold f_X11_tried_194
      simp only
      rw [zg_i t4, zg_i t5, zg_i t6, r0, su, if_neg c1, e_208 (d := d + j) hF hm (by omega) em eg es]
      obtain ⟨S2, hS2⟩ : ∃ S2, S2 = zfu (fun b => zhn (zfu (fun b => (zaj σ d n G S j b).2.1) S m b) (ztq σ (d + j) b) (zsk σ 1 (d + j + 1))) (zfu (fun b => (zaj σ d n G S j b).2.1) S m) m := ⟨_, rfl⟩
      obtain ⟨G2, hG2⟩ : ∃ G2, G2 = zfu (fun b => zhg (zhn (zfu (fun b => (zaj σ d n G S j b).2.1) S m b) (ztq σ (d + j) b) (zsk σ 1 (d + j + 1))) (zfu (fun b => (zaj σ d n G S j b).1) G m b) (ztq σ (d + j) b) (σ.1 88 0 b)) (zfu (fun b => (zaj σ d n G S j b).1) G m) m := ⟨_, rfl⟩
      rw [← hS2, ← hG2]
      have g2 : ∀ b, b < m → G2 b = zhg (zhn (zaj σ d n G S j b).2.1 (ztq σ (d + j) b) (zsk σ 1 (d + j + 1))) (zaj σ d n G S j b).1 (ztq σ (d + j) b) (σ.1 88 0 b) := fun b hb => by rw [hG2, zfu_lt _ hb, zfu_lt _ hb, zfu_lt _ hb]
      rw [e_234 (by omega) hm hn e1 em eg eu (fun b hb => by
        rw [g2 b hb]
        have z := zhg_b (s := zhn (zaj σ d n G S j b).2.1 (ztq σ (d + j) b) (zsk σ 1 (d + j + 1))) (t := ztq σ (d + j) b) (zaj_b (σ := σ) (d := d) hn (S := S) (hG b hb) (ha b hb) (fun h hh => hu b h hb hh) j) (ha b hb)
        exact ⟨z.1, by have := z.2; omega⟩) hu, ← k_suma, nI_suc (show d + j + 1 = d + (j + 1) by omega)]
      have gg : zfu (fun b => G2 b - 3 * zea σ n G2 b) G2 m = zfu (fun b => (zaj σ d n G S (j + 1) b).1) G m := by
        rw [zfu_c (f2 := fun b => (zaj σ d n G S (j + 1) b).1) G2 fun b hb => by
          unfold zea
          rw [g2 b hb]
          rfl, hG2, zfu_zfu, zfu_zfu]
      have ss : S2 = zfu (fun b => (zaj σ d n G S (j + 1) b).2.1) S m := by
        rw [hS2, zfu_zfu]
        exact zfu_c S fun b hb => by
          rw [zfu_lt _ hb]
          rfl
      have kk : zsum (fun b => (zaj σ d n G S j b).2.2 + (zsum (fun h => σ.1 116 b h) n - zea σ n G2 b)) m = zsum (fun b => (zaj σ d n G S (j + 1) b).2.2) m := k_sumc fun b hb => by
        unfold zea
        rw [g2 b hb]
        rfl
      rw [gg, ss, kk]
  · show zrq σ G S = zrq σ (zfu (fun b => G b) G m) (zfu (fun b => S b) S m)
    rw [id0, id0]
