/-- the slot s of the cells 0 .. n - 1 of a kind told anew -/
def zfl (σ : zMem) (k s n : Nat) (f : Nat → Int32) : zMem := (fun a b c => if a = k ∧ c = s ∧ b < n then f b else σ.1 a b c, σ.2)
/-- the slots 0 .. n - 1 of one cell told anew -/
def zfa (σ : zMem) (k i n : Nat) (f : Nat → Int32) : zMem := (fun a b c => if a = k ∧ b = i ∧ c < n then f c else σ.1 a b c, σ.2)
theorem zfl_0 (σ : zMem) (k s : Nat) (f : Nat → Int32) : zfl σ k s 0 f = σ := by
  refine Prod.ext ?_ rfl
  funext a b c
  simp [zfl]
theorem zfa_0 (σ : zMem) (k i : Nat) (f : Nat → Int32) : zfa σ k i 0 f = σ := by
  refine Prod.ext ?_ rfl
  funext a b c
  simp [zfa]
theorem zfl_s {σ : zMem} {k s n : Nat} {f : Nat → Int32} {v : Int32} (hv : v = f n) : zwi (zfl σ k s n f) k n s v = zfl σ k s (n + 1) f := by
  subst hv
  refine Prod.ext ?_ rfl
  funext a b c
  simp only [zwi, zu, zfl]
  by_cases h1 : a = k ∧ b = n ∧ c = s
  · obtain ⟨rfl, rfl, rfl⟩ := h1
    simp
  · rw [if_neg h1]
    by_cases h2 : a = k ∧ c = s ∧ b < n
    · rw [if_pos h2, if_pos ⟨h2.1, h2.2.1, by omega⟩]
    · rw [if_neg h2, if_neg]
      rintro ⟨rfl, rfl, h⟩
      by_cases e : b = n
      · exact h1 ⟨rfl, e, rfl⟩
      · exact h2 ⟨rfl, rfl, by omega⟩
theorem zfa_s {σ : zMem} {k i n : Nat} {f : Nat → Int32} {v : Int32} (hv : v = f n) : zwi (zfa σ k i n f) k i n v = zfa σ k i (n + 1) f := by
  subst hv
  refine Prod.ext ?_ rfl
  funext a b c
  simp only [zwi, zu, zfa]
  by_cases h1 : a = k ∧ b = i ∧ c = n
  · obtain ⟨rfl, rfl, rfl⟩ := h1
    simp
  · rw [if_neg h1]
    by_cases h2 : a = k ∧ b = i ∧ c < n
    · rw [if_pos h2, if_pos ⟨h2.1, h2.2.1, by omega⟩]
    · rw [if_neg h2, if_neg]
      rintro ⟨rfl, rfl, h⟩
      by_cases e : c = n
      · exact h1 ⟨rfl, rfl, e⟩
      · exact h2 ⟨rfl, rfl, by omega⟩
theorem nle_s {i n : Nat} (h : i < n) (hn : n < 100000) : ¬ nI n ≤ nI i := fun q => by
  have := (nI_leI (a := n) (b := i) (by omega) (by omega)).mp q
  omega
theorem e_X10_counts {σ : zMem} {F n : Nat} (hF : 100 < F) (hn : n ≤ 10) (e : σ.1 0 0 1 = nI n) : f_X10_counts F σ = some (zsum (fun h => σ.1 3 h 3) n, zfl σ 2 6 n (fun h => σ.1 3 h 3)) := by
  unfold f_X10_counts
  have hs := zit_for (b := f_X10_counts_4 F) (S := fun i => (zfl σ 2 6 i (fun h => σ.1 3 h 3), (zsum (fun h => σ.1 3 h 3) i, nI i))) (some (zsum (fun h => σ.1 3 h 3) n, zfl σ 2 6 n (fun h => σ.1 3 h 3))) n 0 F (fun j _ hj rec => ?_) (fun rec => ?_) (by omega)
  · simp only [zfl_0] at hs
    exact hs
  · unfold f_X10_counts_4
    simp only
    rw [show (zfl σ 2 6 j (fun h => σ.1 3 h 3)).1 0 0 1 = nI n by simp [zfl, e], if_neg (nle_s (by omega) (by omega)), zg_i (inb_n (by omega) (by omega)), zg_i (inb_n (by omega) (by omega)), zg_i (by decide), zg_i (inb_n (by omega) (by omega)), nI_clamp (by omega), nI_1, zfl_s (by simp [zfl])]
    congr 2
    show zsum _ j + _ = zsum _ j + _
    simp [zfl]
  · unfold f_X10_counts_4
    simp only
    rw [show (zfl σ 2 6 (0 + n) (fun h => σ.1 3 h 3)).1 0 0 1 = nI n by simp [zfl, e], if_pos (by rw [Nat.zero_add]; exact (nI_leI (by omega) (by omega)).mpr (Nat.le_refl _)), Nat.zero_add]
theorem e_X11_counts {σ : zMem} {F n : Nat} (hF : 100 < F) (hn : n ≤ 10) (e : σ.1 60 0 1 = nI n) : f_X11_counts F σ = some (zsum (fun h => σ.1 62 h 3) n, zfa σ 67 0 n (fun h => σ.1 62 h 3)) := by
  unfold f_X11_counts
  have hs := zit_for (b := f_X11_counts_4 F) (S := fun i => (zfa σ 67 0 i (fun h => σ.1 62 h 3), (zsum (fun h => σ.1 62 h 3) i, nI i))) (some (zsum (fun h => σ.1 62 h 3) n, zfa σ 67 0 n (fun h => σ.1 62 h 3))) n 0 F (fun j _ hj rec => ?_) (fun rec => ?_) (by omega)
  · simp only [zfa_0] at hs
    exact hs
  · unfold f_X11_counts_4
    simp only
    rw [show (zfa σ 67 0 j (fun h => σ.1 62 h 3)).1 60 0 1 = nI n by simp [zfa, e], if_neg (nle_s (by omega) (by omega)), zg_i (inb_n (by omega) (by omega)), zg_i (by decide), zg_i (inb_n (by omega) (by omega)), zg_i (inb_n (by omega) (by omega)), zg_i (by decide), nI_clamp (by omega), nI_1, zfa_s (by simp [zfa])]
    congr 2
  · unfold f_X11_counts_4
    simp only
    rw [show (zfa σ 67 0 (0 + n) (fun h => σ.1 62 h 3)).1 60 0 1 = nI n by simp [zfa, e], if_pos (by rw [Nat.zero_add]; exact (nI_leI (by omega) (by omega)).mpr (Nat.le_refl _)), Nat.zero_add]
theorem a_counts {σ : zMem} (hR : zRel σ) {F : Nat} (hF : 100 < F) : zOK (fun σ => f_X10_counts F σ) (fun σ => f_X11_counts F σ) σ := by
  obtain ⟨n, hn, e1, e2⟩ := zRh_n hR.1
  have p := hR.1.2.2.1
  have c2 := e_X11_counts (σ := zfl σ 2 6 n (fun h => σ.1 3 h 3)) hF hn (by simpa [zfl] using e2)
  rw [show zsum (fun h => (zfl σ 2 6 n fun h => σ.1 3 h 3).1 62 h 3) n = zsum (fun h => σ.1 3 h 3) n from zsum_c fun i hi => by simp [zfl, p i 3 (by omega) (by omega)]] at c2
  refine ⟨_, _, _, e_X10_counts hF hn e1, c2, ?_⟩
  · obtain ⟨hh, hr, hw, hk, ha, hd, hl, hc, ht, hb, hQ⟩ := hR
    refine ⟨?_, ?_, ?_, ?_, ?_, ?_, ?_, ?_, ?_, ?_, ?_⟩
    · obtain ⟨g1, g2, g3, g4, g5, g6⟩ := hh
      refine ⟨by simpa [zfl, zfa] using g1, by simpa [zfl, zfa] using g2, by simpa [zfl, zfa] using g3, fun y hy => ?_, by simpa [zfl, zfa] using g5, by simpa [zfl, zfa] using g6⟩
      obtain ⟨k1, k2, k3, k4, k5, k6, k7, k8, k9⟩ := g4 y hy
      have k0 := g3 y 3 hy (by omega)
      simp [zfl, zfa, k1, k2, k3, k4, k6, k7, k8, k9]
      by_cases q : y < n <;> simp [q, k0, k5]
    · simpa [zRr, zfl, zfa] using hr
    · simpa [zRw, zfl, zfa] using hw
    · simpa [zRk, zfl, zfa] using hk
    · simpa [zRa, zfl, zfa] using ha
    · simpa [zRd, zfl, zfa] using hd
    · simpa [zRl, zfl, zfa] using hl
    · simpa [zRc, zfl, zfa] using hc
    · simpa [zRt, zfl, zfa] using ht
    · simpa [zRb, zfl, zfa] using hb
    · simpa [zRz, zfl, zfa] using hQ
