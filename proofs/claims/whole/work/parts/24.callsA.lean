def zund (j k : Nat) : Bool := j == k || k == 0 || (j == 4 && k == 1)
theorem e_X3_isUnder {σ : zMem} {F j k : Nat} (hF : 100 < F) (hj : j < 6) (hk : k < 6) : f_X3_isUnder F σ (nI j) (nI k) = some (if zund j k then 1 else 0, σ) := by
  obtain ⟨G, rfl⟩ : ∃ G, F = G + 8 := ⟨F - 8, by omega⟩
  rcases j with _ | _ | _ | _ | _ | _ | j <;> rcases k with _ | _ | _ | _ | _ | _ | k <;> first | rfl | omega
theorem e_X11_taken {σ : zMem} {F r j k : Nat} (hF : 100 < F) (hr : r < 50) (hj : j < 6) (hk : k < 6) : zit (f_X11_taken_30 F) F σ (nI r, nI k, nI j) = some (if zund j k then σ.1 73 0 r else -13, σ) := by
  have i1 := inb_n (show r < 50 by omega) (by omega)
  have i2 := nI_clamp (show r < 2 ^ 31 by omega)
  obtain ⟨G, rfl⟩ : ∃ G, F = G + 8 := ⟨F - 8, by omega⟩
  have key : ∀ x : Option (Int32 × zMem), x = zg (inb (nI r) 50) (some (σ.1 73 0 (nI r).toNatClampNeg, σ)) → x = some (σ.1 73 0 r, σ) := fun x hx => by rw [hx, i1, i2]; rfl
  rcases j with _ | _ | _ | _ | _ | _ | j <;> rcases k with _ | _ | _ | _ | _ | _ | k <;> first | rfl | exact key _ rfl | omega
theorem a_taken {σ : zMem} (hR : zRel σ) {F : Nat} (hF : 100 < F) (x y : Int32) : zOK (fun σ => f_X10_taken F σ x y) (fun σ => f_X11_taken F σ x y) σ := by
  obtain ⟨⟨n, hn, e1, f1⟩, e2, g3, g4⟩ := id hR.2.1
  have e2 := e2.trans e1
  rcases zix (n := 6) (by omega) y with ⟨k, hk, rfl, a1, a2, a3, a4⟩ | ⟨_, a⟩
  · have a3' : ¬ (5 : Int32) < nI k := a3
    have a4' : nI k < 6 := a4
    rcases zix (n := n) (by omega) x with ⟨r, hr, rfl, b1, b2, b3, b4⟩ | ⟨_, b⟩
    · have i1 := inb_n (show r < 50 by omega) (by omega)
      have i2 := nI_clamp (show r < 2 ^ 31 by omega)
      obtain ⟨q1, -⟩ := g3 r (by omega)
      obtain ⟨k1, k2, -⟩ := g4 r (by omega)
      obtain ⟨j, hj, ej⟩ := zk6 k1 k2
      refine zOK_same hR (if zund j k then σ.1 73 0 r else -13) ?_ ?_
      · simp only [f_X10_taken]
        rw [if_neg a1, if_pos a4', e_X3_has e1 F b1 b2, zb_s, if_neg (by decide), zg_i i1, i2, q1, ej, e_X3_isUnder hF hj hk]
        by_cases u : zund j k = true <;> simp [zb, u]
      · simp only [f_X11_taken]
        rw [e_X11_in, if_neg a1, if_neg a3', zb_s, if_neg (by decide), e_X11_isRight e2 F b1 b3, zb_s, if_neg (by decide), zg_i i1, i2, ej, e_X11_taken hF (by omega) hj hk, ej]
    · refine zOK_same hR (-11) ?_ ?_
      · simp only [f_X10_taken]
        rw [if_neg a1, if_pos a4', n_X3_has e1 F b]
        simp [zb]
      · simp only [f_X11_taken]
        rw [e_X11_in, if_neg a1, if_neg a3', zb_s, if_neg (by decide), n_X11_isRight e2 F b]
        simp [zb]
  · rcases a with a | ⟨a0, a1, a2, a3⟩
    · exact zOK_same hR (-2) (by simp [f_X10_taken, a]) (by simp [f_X11_taken, e_X11_in, zb, a])
    · have a2' : (5 : Int32) < y := a2
      have a3' : ¬ y < 6 := a3
      exact zOK_same hR (-2) (by simp [f_X10_taken, a0, a3']) (by simp [f_X11_taken, e_X11_in, zb, a0, a2'])
