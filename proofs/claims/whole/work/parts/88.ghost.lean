/-! the ghost cell: no function writes kind 999 -/
def zk9 {α : Type} (σ : zMem) (o : Option (α × zMem)) : Prop := ∀ r m, o = some (r, m) → m.1 999 = σ.1 999
theorem k9_some {α : Type} {σ m : zMem} {r : α} (h : m.1 999 = σ.1 999) : zk9 σ (some (r, m)) := fun _ _ e => by
  injection e with e
  injection e with _ e
  rw [← e, h]
theorem k9_none {α : Type} {σ : zMem} : zk9 σ (none : Option (α × zMem)) := fun _ _ e => by cases e
theorem k9_tr {α : Type} {σ m : zMem} {o : Option (α × zMem)} (h : zk9 m o) (h2 : m.1 999 = σ.1 999) : zk9 σ o := fun r m' e => (h r m' e).trans h2
theorem k9_zb {β α : Type} {σ : zMem} {o : Option (β × zMem)} {g : β → zMem → Option (α × zMem)} (h : zk9 σ o) (h2 : ∀ r m, m.1 999 = σ.1 999 → zk9 σ (g r m)) : zk9 σ (zb o g) := fun r m e => by
  rcases o with _ | ⟨a, b⟩
  · cases e
  · exact h2 a b (h a b rfl) r m e
theorem k9_zg {α : Type} {σ : zMem} {b : Bool} {o : Option (α × zMem)} (h : b = true → zk9 σ o) : zk9 σ (zg b o) := fun r m e => by
  cases hb : b
  · rw [hb] at e
    cases e
  · rw [hb] at e
    exact h hb r m e
theorem k9_ite {α : Type} {σ : zMem} {c : Prop} [Decidable c] {a b : Option (α × zMem)} (h1 : c → zk9 σ a) (h2 : ¬ c → zk9 σ b) : zk9 σ (if c then a else b) := by
  by_cases h : c
  · rw [if_pos h]
    exact h1 h
  · rw [if_neg h]
    exact h2 h
theorem k9_it {tl α : Type} {b : (zMem → tl → Option (α × zMem)) → zMem → tl → Option (α × zMem)} (h : ∀ r : zMem → tl → Option (α × zMem), (∀ s y, zk9 s (r s y)) → ∀ s y, zk9 s (b r s y)) : ∀ F s y, zk9 s (zit b F s y)
  | 0, _, _ => k9_none
  | F + 1, s, y => h (zit b F) (k9_it h F) s y
theorem zwi9 (m : zMem) (k i j : Nat) (v : Int32) (h : (k == 999) = false) : (zwi m k i j v).1 999 = m.1 999 := by
  funext a b
  exact if_neg (fun w => by
    rw [← w.1] at h
    cases h)
theorem zwl9 (m : zMem) (k i j : Nat) (v : Int64) : (zwl m k i j v).1 999 = m.1 999 := rfl
theorem zcpi9 (m : zMem) (k0 i0 : Nat) (sp : Int32) (k1 i1 : Nat) (dp n : Int32) (h : (k1 == 999) = false) : (zcpi m k0 i0 sp k1 i1 dp n).1 999 = m.1 999 := by
  funext a b
  exact if_neg (fun w => by
    rw [← w.1] at h
    cases h)
theorem zcpl9 (m : zMem) (k0 i0 : Nat) (sp : Int32) (k1 i1 : Nat) (dp n : Int32) : (zcpl m k0 i0 sp k1 i1 dp n).1 999 = m.1 999 := rfl
theorem zdG9 {k : Nat} (h : zdG k = true) : (k == 999) = false := by
  rcases zdG_c k with q | q | q
  · rw [h] at q
    cases q
  · rw [q]
    rfl
  · rw [q]
    rfl
theorem zdS9 {k : Nat} (h : zdS k = true) : (k == 999) = false := by
  rcases zdS_c k with q | q | q
  · rw [h] at q
    cases q
  · rw [q]
    rfl
  · rw [q]
    rfl
theorem zdU9 {k : Nat} (h : zdU k = true) : (k + 1 == 999) = false := by
  rcases zdU_c k with q | q | q
  · rw [h] at q
    cases q
  · rw [q]
    rfl
  · rw [q]
    rfl
theorem k9_J0_coder_7d493 (F : Nat) (σ : zMem) (j : Nat) : zk9 σ (f_J0_coder_7d493 F σ j) := by
  unfold f_J0_coder_7d493
  exact (k9_zg (fun g1 => (k9_some rfl)))
theorem k9_J0_isLatin1_aae02 (F : Nat) (σ : zMem) (j : Nat) : zk9 σ (f_J0_isLatin1_aae02 F σ j) := by
  unfold f_J0_isLatin1_aae02
  exact (k9_zg (fun g1 => (k9_some rfl)))
theorem k9_J3_checkIndex_8e157 (F : Nat) (σ : zMem) (a : Int32) (b : Int32) : zk9 σ (f_J3_checkIndex_8e157 F σ a b) := by
  unfold f_J3_checkIndex_8e157
  exact (k9_ite (fun _ => k9_none) (fun _ => (k9_ite (fun _ => (k9_some rfl)) (fun _ => k9_none))))
theorem k9_J0_checkIndex_df160 (F : Nat) (σ : zMem) (a : Int32) (b : Int32) : zk9 σ (f_J0_checkIndex_df160 F σ a b) := by
  unfold f_J0_checkIndex_df160
  exact (k9_zb (k9_tr (k9_J3_checkIndex_8e157 _ _ _ _) rfl) (fun _ m h1 => (k9_some h1)))
theorem k9_J0_length_8abf5 (F : Nat) (σ : zMem) (j : Nat) : zk9 σ (f_J0_length_8abf5 F σ j) := by
  unfold f_J0_length_8abf5
  exact (k9_zg (fun g1 => (k9_zb (k9_tr (k9_J0_coder_7d493 _ _ _) rfl) (fun r m h2 => (k9_zg (fun g3 => (k9_some h2)))))))
theorem k9_J1_charAt_3b067 (F : Nat) (σ : zMem) (j : Nat) (x : Int32) : zk9 σ (f_J1_charAt_3b067 F σ j x) := by
  unfold f_J1_charAt_3b067
  exact (k9_zg (fun g1 => (k9_zb (k9_tr (k9_J0_checkIndex_df160 _ _ _ _) rfl) (fun _ m h2 => (k9_zg (fun g3 => (k9_some h2)))))))
theorem k9_J0_charAt_5068e (F : Nat) (σ : zMem) (j : Nat) (x : Int32) : zk9 σ (f_J0_charAt_5068e F σ j x) := by
  unfold f_J0_charAt_5068e
  exact (k9_zg (fun g1 => (k9_zb (k9_tr (k9_J0_isLatin1_aae02 _ _ _) rfl) (fun r m h2 => (k9_ite (fun _ => k9_none) (fun _ => (k9_zb (k9_tr (k9_J1_charAt_3b067 _ _ _ _) h2) (fun r1 m1 h3 => (k9_zg (fun g4 => (k9_some h3)))))))))))
theorem k9_X0_has (F : Nat) (σ : zMem) (a1 : Int32) : zk9 σ (f_X0_has F σ a1) := by
  unfold f_X0_has
  exact (k9_ite (fun _ => (k9_some rfl)) (fun _ => (k9_ite (fun _ => (k9_some rfl)) (fun _ => (k9_some rfl)))))
theorem k9_X0_enter (F : Nat) (σ : zMem) (a1 : Int32) (a2 : Int32) : zk9 σ (f_X0_enter F σ a1 a2) := by
  unfold f_X0_enter
  exact (k9_zg (fun g1 => (k9_zg (fun g2 => (k9_some ((zwi9 _ _ _ _ _ rfl).trans ((zwi9 _ _ _ _ _ rfl).trans ((zwi9 _ _ _ _ _ rfl).trans rfl))))))))
theorem k9_X0_snowAfter (F : Nat) (σ : zMem) (a0 : Int32) (a1 : Int32) (a2 : Int32) : zk9 σ (f_X0_snowAfter F σ a0 a1 a2) := by
  unfold f_X0_snowAfter
  exact (k9_ite (fun _ => (k9_some rfl)) (fun _ => (k9_some rfl)))
theorem k9_X0_grassAfter (F : Nat) (σ : zMem) (a0 : Int32) (a1 : Int32) (a2 : Int32) : zk9 σ (f_X0_grassAfter F σ a0 a1 a2) := by
  unfold f_X0_grassAfter
  exact (k9_ite (fun _ => (k9_zg (fun g1 => (k9_some rfl)))) (fun _ => (k9_some rfl)))
theorem k9_X0_grow (F : Nat) (σ : zMem) (a1 : Int32) (a2 : Int32) (a3 : Int32) : zk9 σ (f_X0_grow F σ a1 a2 a3) := by
  unfold f_X0_grow
  exact (k9_zg (fun g1 => (k9_zg (fun g2 => (k9_zb (k9_tr (k9_X0_snowAfter _ _ _ _ _) rfl) (fun r26 m26 h3 => (k9_zg (fun g4 => (k9_zg (fun g5 => (k9_ite (fun _ => (k9_zg (fun g6 => (k9_zg (fun g7 => (k9_zb (k9_tr (k9_X0_grassAfter _ _ _ _ _) ((zwi9 _ _ _ _ _ rfl).trans h3)) (fun r58 m58 h8 => (k9_zg (fun g9 => (k9_some ((zwi9 _ _ _ _ _ rfl).trans h8))))))))))) (fun _ => (k9_some ((zwi9 _ _ _ _ _ rfl).trans h3))))))))))))))
theorem k9_X0_feedCows (F : Nat) (σ : zMem) (a1 : Int32) (a2 : Int32) : zk9 σ (f_X0_feedCows F σ a1 a2) := by
  unfold f_X0_feedCows
  exact (k9_zg (fun g1 => (k9_zg (fun g2 => (k9_zg (fun g3 => (k9_zg (fun g4 => (k9_some ((zwi9 _ _ _ _ _ rfl).trans rfl))))))))))
theorem k9_X0_hungerWith_89 (F : Nat) (rec22 : zMem → Int32 × Int32 × Int32 × Int32 × Int32 × Int32 × Int32 → Option (Int32 × zMem)) (σ : zMem) (l1 : Int32) (l2 : Int32) (l3 : Int32) (l4 : Int32) (l5 : Int32) (l6 : Int32) (l7 : Int32) (hrec22 : ∀ s y, zk9 s (rec22 s y)) : zk9 σ (f_X0_hungerWith_89 F rec22 σ l1 l2 l3 l4 l5 l6 l7) := by
  unfold f_X0_hungerWith_89
  exact (k9_zg (fun g1 => (k9_tr (hrec22 _ _) rfl)))
theorem k9_X0_hungerWith_22 (F : Nat) (rec22 : zMem → Int32 × Int32 × Int32 × Int32 × Int32 × Int32 × Int32 → Option (Int32 × zMem)) (σ : zMem) (x : Int32 × Int32 × Int32 × Int32 × Int32 × Int32 × Int32) (hrec22 : ∀ s y, zk9 s (rec22 s y)) : zk9 σ (f_X0_hungerWith_22 F rec22 σ x) := by
  unfold f_X0_hungerWith_22
  exact (k9_ite (fun _ => (k9_some rfl)) (fun _ => (k9_ite (fun _ => (k9_some rfl)) (fun _ => (k9_zg (fun g1 => (k9_zg (fun g2 => (k9_zg (fun g3 => (k9_zb (k9_tr (k9_X0_snowAfter _ _ _ _ _) rfl) (fun r64 m64 h4 => (k9_ite (fun _ => (k9_zg (fun g5 => (k9_zb (k9_tr (k9_X0_grassAfter _ _ _ _ _) h4) (fun r84 m84 h6 => (k9_tr (k9_X0_hungerWith_89 _ rec22 _ _ _ _ _ _ _ _ hrec22) h6)))))) (fun _ => (k9_tr (k9_X0_hungerWith_89 _ rec22 _ _ _ _ _ _ _ _ hrec22) h4)))))))))))))))
theorem k9_X0_hungerWith (F : Nat) (σ : zMem) (a1 : Int32) (a2 : Int32) (a3 : Int32) : zk9 σ (f_X0_hungerWith F σ a1 a2 a3) := by
  unfold f_X0_hungerWith
  exact (k9_zg (fun g1 => (k9_zg (fun g2 => (k9_tr (k9_it (fun r hr s y => k9_X0_hungerWith_22 _ r s y hr) _ _ _) rfl)))))
theorem k9_X0_cowsOfSome_5 (F : Nat) (rec5 : zMem → Int32 × Int32 × Int32 × Int32 → Option (Int32 × zMem)) (σ : zMem) (x : Int32 × Int32 × Int32 × Int32) (hrec5 : ∀ s y, zk9 s (rec5 s y)) : zk9 σ (f_X0_cowsOfSome_5 F rec5 σ x) := by
  unfold f_X0_cowsOfSome_5
  exact (k9_ite (fun _ => (k9_some rfl)) (fun _ => (k9_ite (fun _ => (k9_some rfl)) (fun _ => (k9_ite (fun _ => (k9_zg (fun g1 => (k9_tr (hrec5 _ _) rfl)))) (fun _ => (k9_tr (hrec5 _ _) rfl)))))))
theorem k9_X0_cowsOfSome (F : Nat) (σ : zMem) (a1 : Int32) (a2 : Int32) : zk9 σ (f_X0_cowsOfSome F σ a1 a2) := by
  unfold f_X0_cowsOfSome
  exact (k9_tr (k9_it (fun r hr s y => k9_X0_cowsOfSome_5 _ r s y hr) _ _ _) rfl)
theorem k9_X0_keepPlan_2 (F : Nat) (rec2 : zMem → Int32 × Int32 → Option (Unit × zMem)) (σ : zMem) (x : Int32 × Int32) (hrec2 : ∀ s y, zk9 s (rec2 s y)) : zk9 σ (f_X0_keepPlan_2 F rec2 σ x) := by
  unfold f_X0_keepPlan_2
  exact (k9_ite (fun _ => (k9_some rfl)) (fun _ => (k9_zg (fun g1 => (k9_zg (fun g2 => (k9_tr (hrec2 _ _) ((zwi9 _ _ _ _ _ rfl).trans rfl))))))))
theorem k9_X0_keepPlan (F : Nat) (σ : zMem) (a1 : Int32) : zk9 σ (f_X0_keepPlan F σ a1) := by
  unfold f_X0_keepPlan
  exact (k9_tr (k9_it (fun r hr s y => k9_X0_keepPlan_2 _ r s y hr) _ _ _) rfl)
theorem k9_X0_beginPlans_31 (F : Nat) (rec31 : zMem → Int32 × Int32 × Int32 → Option (Int32 × zMem)) (σ : zMem) (x : Int32 × Int32 × Int32) (hrec31 : ∀ s y, zk9 s (rec31 s y)) : zk9 σ (f_X0_beginPlans_31 F rec31 σ x) := by
  unfold f_X0_beginPlans_31
  exact (k9_ite (fun _ => (k9_zg (fun g1 => (k9_zb (k9_tr (k9_X0_keepPlan _ _ _) ((zwi9 _ _ _ _ _ rfl).trans rfl)) (fun r65 m65 h2 => (k9_some h2)))))) (fun _ => (k9_zg (fun g3 => (k9_tr (hrec31 _ _) ((zwi9 _ _ _ _ _ rfl).trans rfl))))))
theorem k9_X0_beginPlans_4 (F : Nat) (rec4 : zMem → Int32 × Int32 × Int32 → Option (Int32 × zMem)) (σ : zMem) (x : Int32 × Int32 × Int32) (hrec4 : ∀ s y, zk9 s (rec4 s y)) : zk9 σ (f_X0_beginPlans_4 F rec4 σ x) := by
  unfold f_X0_beginPlans_4
  exact (k9_ite (fun _ => (k9_tr (k9_it (fun r hr s y => k9_X0_beginPlans_31 _ r s y hr) _ _ _) rfl)) (fun _ => (k9_zg (fun g1 => (k9_tr (hrec4 _ _) ((zwi9 _ _ _ _ _ rfl).trans rfl))))))
theorem k9_X0_beginPlans (F : Nat) (σ : zMem) (a1 : Int32) : zk9 σ (f_X0_beginPlans F σ a1) := by
  unfold f_X0_beginPlans
  exact (k9_tr (k9_it (fun r hr s y => k9_X0_beginPlans_4 _ r s y hr) _ _ _) rfl)
theorem k9_X0_hungerNow_4 (F : Nat) (rec4 : zMem → Int32 × Int32 → Option (Int32 × zMem)) (σ : zMem) (x : Int32 × Int32) (hrec4 : ∀ s y, zk9 s (rec4 s y)) : zk9 σ (f_X0_hungerNow_4 F rec4 σ x) := by
  unfold f_X0_hungerNow_4
  exact (k9_ite (fun _ => (k9_some rfl)) (fun _ => (k9_zg (fun g1 => (k9_zg (fun g2 => (k9_zg (fun g3 => (k9_tr (hrec4 _ _) rfl)))))))))
theorem k9_X0_hungerNow (F : Nat) (σ : zMem) : zk9 σ (f_X0_hungerNow F σ) := by
  unfold f_X0_hungerNow
  exact (k9_tr (k9_it (fun r hr s y => k9_X0_hungerNow_4 _ r s y hr) _ _ _) rfl)
theorem k9_X0_turnPlan_73 (F : Nat) (rec6 : zMem → Int32 × Int32 → Option (Unit × zMem)) (σ : zMem) (l2 : Int32) (l3 : Int32) (s0 : Int32) (s1 : Int32) (hrec6 : ∀ s y, zk9 s (rec6 s y)) : zk9 σ (f_X0_turnPlan_73 F rec6 σ l2 l3 s0 s1) := by
  unfold f_X0_turnPlan_73
  exact (k9_zg (fun g1 => (k9_zg (fun g2 => (k9_zg (fun g3 => (k9_zg (fun g4 => (k9_tr (hrec6 _ _) ((zwi9 _ _ _ _ _ rfl).trans ((zwi9 _ _ _ _ _ rfl).trans rfl)))))))))))
theorem k9_X0_turnPlan_51 (F : Nat) (rec6 : zMem → Int32 × Int32 → Option (Unit × zMem)) (σ : zMem) (l3 : Int32) (s0 : Int32) (hrec6 : ∀ s y, zk9 s (rec6 s y)) : zk9 σ (f_X0_turnPlan_51 F rec6 σ l3 s0) := by
  unfold f_X0_turnPlan_51
  exact (k9_ite (fun _ => (k9_tr (k9_X0_turnPlan_73 _ rec6 _ _ _ _ _ hrec6) rfl)) (fun _ => (k9_zg (fun g1 => (k9_tr (k9_X0_turnPlan_73 _ rec6 _ _ _ _ _ hrec6) rfl)))))
theorem k9_X0_turnPlan_6 (F : Nat) (rec6 : zMem → Int32 × Int32 → Option (Unit × zMem)) (σ : zMem) (x : Int32 × Int32) (hrec6 : ∀ s y, zk9 s (rec6 s y)) : zk9 σ (f_X0_turnPlan_6 F rec6 σ x) := by
  unfold f_X0_turnPlan_6
  exact (k9_ite (fun _ => (k9_some rfl)) (fun _ => (k9_ite (fun _ => (k9_zg (fun g1 => (k9_zg (fun g2 => (k9_zg (fun g3 => (k9_zg (fun g4 => (k9_ite (fun _ => (k9_tr (k9_X0_turnPlan_51 _ rec6 _ _ _ hrec6) ((zwi9 _ _ _ _ _ rfl).trans rfl))) (fun _ => (k9_tr (k9_X0_turnPlan_51 _ rec6 _ _ _ hrec6) ((zwi9 _ _ _ _ _ rfl).trans rfl))))))))))))) (fun _ => (k9_some rfl)))))
theorem k9_X0_turnPlan (F : Nat) (σ : zMem) (a1 : Int32) : zk9 σ (f_X0_turnPlan F σ a1) := by
  unfold f_X0_turnPlan
  exact (k9_tr (k9_it (fun r hr s y => k9_X0_turnPlan_6 _ r s y hr) _ _ _) rfl)
theorem k9_X0_bestPlan_14 (F : Nat) (rec14 : zMem → Int32 × Int32 × Int32 × Int32 → Option (Int32 × zMem)) (σ : zMem) (x : Int32 × Int32 × Int32 × Int32) (hrec14 : ∀ s y, zk9 s (rec14 s y)) : zk9 σ (f_X0_bestPlan_14 F rec14 σ x) := by
  unfold f_X0_bestPlan_14
  exact (k9_ite (fun _ => (k9_some rfl)) (fun _ => (k9_zb (k9_tr (k9_X0_turnPlan _ _ _) rfl) (fun r22 m22 h1 => (k9_zb (k9_tr (k9_X0_hungerNow _ _) h1) (fun r26 m26 h2 => (k9_ite (fun _ => (k9_tr (hrec14 _ _) h2)) (fun _ => (k9_zb (k9_tr (k9_X0_keepPlan _ _ _) h2) (fun r42 m42 h3 => (k9_tr (hrec14 _ _) h3)))))))))))
theorem k9_X0_bestPlan (F : Nat) (σ : zMem) (a1 : Int32) : zk9 σ (f_X0_bestPlan F σ a1) := by
  unfold f_X0_bestPlan
  exact (k9_zb (k9_tr (k9_X0_beginPlans _ _ _) rfl) (fun r2 m2 h1 => (k9_zb (k9_tr (k9_X0_hungerNow _ _) h1) (fun r7 m7 h2 => (k9_tr (k9_it (fun r hr s y => k9_X0_bestPlan_14 _ r s y hr) _ _ _) h2)))))
theorem k9_X1_comesTo_5 (F : Nat) (rec5 : zMem → Int32 × Int32 × Int32 → Option (Int32 × zMem)) (σ : zMem) (x : Int32 × Int32 × Int32) (hrec5 : ∀ s y, zk9 s (rec5 s y)) : zk9 σ (f_X1_comesTo_5 F rec5 σ x) := by
  unfold f_X1_comesTo_5
  exact (k9_ite (fun _ => (k9_some rfl)) (fun _ => (k9_zg (fun g1 => (k9_zg (fun g2 => (k9_zg (fun g3 => (k9_ite (fun _ => (k9_some rfl)) (fun _ => (k9_tr (hrec5 _ _) rfl)))))))))))
theorem k9_X1_comesTo (F : Nat) (σ : zMem) (a1 : Int32) (a2 : Int32) : zk9 σ (f_X1_comesTo F σ a1 a2) := by
  unfold f_X1_comesTo
  exact (k9_tr (k9_it (fun r hr s y => k9_X1_comesTo_5 _ r s y hr) _ _ _) rfl)
theorem k9_X2_fits (F : Nat) (σ : zMem) (a0 : Int32) (a1 : Int32) : zk9 σ (f_X2_fits F σ a0 a1) := by
  unfold f_X2_fits
  exact (k9_zg (fun g1 => (k9_ite (fun _ => (k9_some rfl)) (fun _ => (k9_zg (fun g2 => (k9_ite (fun _ => (k9_some rfl)) (fun _ => (k9_some rfl)))))))))
theorem k9_X2_allUp_4 (F : Nat) (rec4 : zMem → Nat × Int32 × Int32 → Option (Int32 × zMem)) (σ : zMem) (x : Nat × Int32 × Int32) (hrec4 : ∀ s y, zk9 s (rec4 s y)) : zk9 σ (f_X2_allUp_4 F rec4 σ x) := by
  unfold f_X2_allUp_4
  exact (k9_zg (fun g1 => (k9_ite (fun _ => (k9_some rfl)) (fun _ => (k9_zg (fun g2 => (k9_tr (hrec4 _ _) rfl)))))))
theorem k9_X2_allUp (F : Nat) (σ : zMem) (t0 : Nat) : zk9 σ (f_X2_allUp F σ t0) := by
  unfold f_X2_allUp
  exact (k9_zg (fun g1 => (k9_tr (k9_it (fun r hr s y => k9_X2_allUp_4 _ r s y hr) _ _ _) rfl)))
theorem k9_X2_atHome (F : Nat) (σ : zMem) (t0 : Nat) : zk9 σ (f_X2_atHome F σ t0) := by
  unfold f_X2_atHome
  exact (k9_zg (fun g1 => (k9_zg (fun g2 => (k9_zb (k9_tr (k9_X2_allUp _ _ _) rfl) (fun r7 m7 h3 => (k9_some h3)))))))
theorem k9_X2_winterAtHome (F : Nat) (σ : zMem) (t0 : Nat) : zk9 σ (f_X2_winterAtHome F σ t0) := by
  unfold f_X2_winterAtHome
  exact (k9_zg (fun g1 => (k9_zb (k9_tr (k9_X2_atHome _ _ _) rfl) (fun r1 m1 h2 => (k9_zg (fun g3 => (k9_zg (fun g4 => (k9_zg (fun g5 => (k9_zb (k9_tr (k9_X2_atHome _ _ _) ((zwi9 _ _ _ _ _ rfl).trans h2)) (fun r30 m30 h6 => (k9_some ((zwi9 _ _ _ _ _ rfl).trans h6))))))))))))))
theorem k9_X2_oweMore (F : Nat) (σ : zMem) (t0 : Nat) (a1 : Int64) : zk9 σ (f_X2_oweMore F σ t0 a1) := by
  unfold f_X2_oweMore
  exact (k9_zg (fun g1 => (k9_some ((zwi9 _ _ _ _ _ rfl).trans rfl))))
theorem k9_X2_takeWheels (F : Nat) (σ : zMem) (t0 : Nat) (a1 : Int32) : zk9 σ (f_X2_takeWheels F σ t0 a1) := by
  unfold f_X2_takeWheels
  exact (k9_zg (fun g1 => (k9_some ((zwi9 _ _ _ _ _ rfl).trans ((zwi9 _ _ _ _ _ rfl).trans ((zwi9 _ _ _ _ _ rfl).trans rfl))))))
theorem k9_X2_partWheels (F : Nat) (σ : zMem) (t0 : Nat) (a1 : Int32) (a2 : Int32) : zk9 σ (f_X2_partWheels F σ t0 a1 a2) := by
  unfold f_X2_partWheels
  exact (k9_zg (fun g1 => (k9_zg (fun g2 => (k9_ite (fun _ => (k9_some ((zwi9 _ _ _ _ _ rfl).trans ((zwi9 _ _ _ _ _ rfl).trans rfl)))) (fun _ => (k9_zg (fun g3 => (k9_zb (k9_tr (k9_X2_takeWheels _ _ _ _) ((zwi9 _ _ _ _ _ rfl).trans ((zwi9 _ _ _ _ _ rfl).trans rfl))) (fun r46 m46 h4 => (k9_some h4)))))))))))
theorem k9_X3_has (F : Nat) (σ : zMem) (a1 : Int32) : zk9 σ (f_X3_has F σ a1) := by
  unfold f_X3_has
  exact (k9_ite (fun _ => (k9_some rfl)) (fun _ => (k9_ite (fun _ => (k9_some rfl)) (fun _ => (k9_some rfl)))))
theorem k9_X3_enter (F : Nat) (σ : zMem) (a1 : Int32) (a2 : Int32) (a3 : Int32) : zk9 σ (f_X3_enter F σ a1 a2 a3) := by
  unfold f_X3_enter
  exact (k9_zg (fun g1 => (k9_zg (fun g2 => (k9_zg (fun g3 => (k9_some ((zwi9 _ _ _ _ _ rfl).trans ((zwi9 _ _ _ _ _ rfl).trans ((zwi9 _ _ _ _ _ rfl).trans ((zwi9 _ _ _ _ _ rfl).trans rfl)))))))))))
theorem k9_X3_commonOf (F : Nat) (σ : zMem) (a1 : Int32) : zk9 σ (f_X3_commonOf F σ a1) := by
  unfold f_X3_commonOf
  exact (k9_zg (fun g1 => (k9_zg (fun g2 => (k9_some rfl)))))
theorem k9_X3_isLent (F : Nat) (σ : zMem) (a1 : Int32) (a2 : Int32) : zk9 σ (f_X3_isLent F σ a1 a2) := by
  unfold f_X3_isLent
  exact (k9_zg (fun g1 => (k9_ite (fun _ => (k9_some rfl)) (fun _ => (k9_some rfl)))))
theorem k9_X3_holder (F : Nat) (σ : zMem) (a1 : Int32) (a2 : Int32) : zk9 σ (f_X3_holder F σ a1 a2) := by
  unfold f_X3_holder
  exact (k9_zb (k9_tr (k9_X3_isLent _ _ _ _) rfl) (fun r3 m3 h1 => (k9_ite (fun _ => (k9_zg (fun g2 => (k9_some h1)))) (fun _ => (k9_zg (fun g3 => (k9_some h1)))))))
theorem k9_X3_joinable (F : Nat) (σ : zMem) (a1 : Int32) (a2 : Int32) (a3 : Int32) : zk9 σ (f_X3_joinable F σ a1 a2 a3) := by
  unfold f_X3_joinable
  exact (k9_zb (k9_tr (k9_X3_commonOf _ _ _) rfl) (fun r2 m2 h1 => (k9_ite (fun _ => (k9_some h1)) (fun _ => (k9_zb (k9_tr (k9_X3_commonOf _ _ _) h1) (fun r10 m10 h2 => (k9_zb (k9_tr (k9_X3_commonOf _ _ _) h2) (fun r15 m15 h3 => (k9_ite (fun _ => (k9_zg (fun g4 => (k9_zg (fun g5 => (k9_ite (fun _ => (k9_zb (k9_tr (k9_X3_isLent _ _ _ _) h3) (fun r41 m41 h6 => (k9_ite (fun _ => (k9_zb (k9_tr (k9_X3_isLent _ _ _ _) h6) (fun r50 m50 h7 => (k9_ite (fun _ => (k9_zg (fun g8 => (k9_ite (fun _ => (k9_some h7)) (fun _ => (k9_zg (fun g9 => (k9_ite (fun _ => (k9_some h7)) (fun _ => (k9_some h7)))))))))) (fun _ => (k9_some h7)))))) (fun _ => (k9_some h6)))))) (fun _ => (k9_some h3)))))))) (fun _ => (k9_some h3)))))))))))
theorem k9_X3_whole_4 (F : Nat) (rec4 : zMem → Int32 × Int32 × Int32 → Option (Int32 × zMem)) (σ : zMem) (x : Int32 × Int32 × Int32) (hrec4 : ∀ s y, zk9 s (rec4 s y)) : zk9 σ (f_X3_whole_4 F rec4 σ x) := by
  unfold f_X3_whole_4
  exact (k9_ite (fun _ => (k9_some rfl)) (fun _ => (k9_zb (k9_tr (k9_X3_commonOf _ _ _) rfl) (fun r14 m14 h1 => (k9_ite (fun _ => (k9_zg (fun g2 => (k9_tr (hrec4 _ _) h1)))) (fun _ => (k9_tr (hrec4 _ _) h1)))))))
theorem k9_X3_whole (F : Nat) (σ : zMem) (a1 : Int32) : zk9 σ (f_X3_whole F σ a1) := by
  unfold f_X3_whole
  exact (k9_tr (k9_it (fun r hr s y => k9_X3_whole_4 _ r s y hr) _ _ _) rfl)
theorem k9_X3_held_6 (F : Nat) (rec6 : zMem → Int32 × Int32 × Int32 × Int32 × Int32 → Option (Int32 × zMem)) (σ : zMem) (x : Int32 × Int32 × Int32 × Int32 × Int32) (hrec6 : ∀ s y, zk9 s (rec6 s y)) : zk9 σ (f_X3_held_6 F rec6 σ x) := by
  unfold f_X3_held_6
  exact (k9_ite (fun _ => (k9_some rfl)) (fun _ => (k9_zb (k9_tr (k9_X3_commonOf _ _ _) rfl) (fun r18 m18 h1 => (k9_ite (fun _ => (k9_zb (k9_tr (k9_X3_holder _ _ _ _) h1) (fun r29 m29 h2 => (k9_ite (fun _ => (k9_zg (fun g3 => (k9_tr (hrec6 _ _) h2)))) (fun _ => (k9_tr (hrec6 _ _) h2)))))) (fun _ => (k9_tr (hrec6 _ _) h1)))))))
theorem k9_X3_held (F : Nat) (σ : zMem) (a1 : Int32) (a2 : Int32) (a3 : Int32) : zk9 σ (f_X3_held F σ a1 a2 a3) := by
  unfold f_X3_held
  exact (k9_tr (k9_it (fun r hr s y => k9_X3_held_6 _ r s y hr) _ _ _) rfl)
theorem k9_X3_atHour_19 (F : Nat) (rec19 : zMem → Int32 × Int32 → Option (Int32 × zMem)) (σ : zMem) (x : Int32 × Int32) (hrec19 : ∀ s y, zk9 s (rec19 s y)) : zk9 σ (f_X3_atHour_19 F rec19 σ x) := by
  unfold f_X3_atHour_19
  exact (k9_ite (fun _ => (k9_some rfl)) (fun _ => (k9_zb (k9_tr (k9_X3_commonOf _ _ _) rfl) (fun r31 m31 h1 => (k9_ite (fun _ => (k9_zg (fun g2 => (k9_ite (fun _ => (k9_zg (fun g3 => (k9_tr (hrec19 _ _) h1)))) (fun _ => (k9_some h1)))))) (fun _ => (k9_tr (hrec19 _ _) h1)))))))
theorem k9_X3_atHour (F : Nat) (σ : zMem) (a1 : Int32) : zk9 σ (f_X3_atHour F σ a1) := by
  unfold f_X3_atHour
  exact (k9_zb (k9_tr (k9_X3_whole _ _ _) rfl) (fun r2 m2 h1 => (k9_ite (fun _ => (k9_zg (fun g2 => (k9_tr (k9_it (fun r hr s y => k9_X3_atHour_19 _ r s y hr) _ _ _) h1)))) (fun _ => (k9_some h1)))))
theorem k9_X3_isUnder_4 (F : Nat) (rec4 : zMem → Int32 × Int32 × Int32 → Option (Int32 × zMem)) (σ : zMem) (x : Int32 × Int32 × Int32) (hrec4 : ∀ s y, zk9 s (rec4 s y)) : zk9 σ (f_X3_isUnder_4 F rec4 σ x) := by
  unfold f_X3_isUnder_4
  exact (k9_ite (fun _ => (k9_some rfl)) (fun _ => (k9_ite (fun _ => (k9_some rfl)) (fun _ => (k9_ite (fun _ => (k9_some rfl)) (fun _ => (k9_zg (fun g1 => (k9_tr (hrec4 _ _) rfl)))))))))
theorem k9_X3_isUnder (F : Nat) (σ : zMem) (a0 : Int32) (a1 : Int32) : zk9 σ (f_X3_isUnder F σ a0 a1) := by
  unfold f_X3_isUnder
  exact (k9_tr (k9_it (fun r hr s y => k9_X3_isUnder_4 _ r s y hr) _ _ _) rfl)
theorem k9_X4_becomeRow_12 (F : Nat) (rec12 : zMem → Nat × Int32 → Option (Unit × zMem)) (σ : zMem) (x : Nat × Int32) (hrec12 : ∀ s y, zk9 s (rec12 s y)) : zk9 σ (f_X4_becomeRow_12 F rec12 σ x) := by
  unfold f_X4_becomeRow_12
  exact (k9_zg (fun g1 => (k9_ite (fun _ => (k9_some rfl)) (fun _ => (k9_zg (fun g2 => (k9_tr (hrec12 _ _) ((zwl9 _ _ _ _ _).trans rfl))))))))
theorem k9_X4_becomeRow (F : Nat) (σ : zMem) (t0 : Nat) (a1 : Int32) (a2 : Int32) : zk9 σ (f_X4_becomeRow F σ t0 a1 a2) := by
  unfold f_X4_becomeRow
  exact (k9_zg (fun g1 => (k9_tr (k9_it (fun r hr s y => k9_X4_becomeRow_12 _ r s y hr) _ _ _) ((zwi9 _ _ _ _ _ rfl).trans ((zwi9 _ _ _ _ _ rfl).trans rfl)))))
theorem k9_X4_holds (F : Nat) (σ : zMem) (t0 : Nat) (a1 : Int32) (a2 : Int32) : zk9 σ (f_X4_holds F σ t0 a1 a2) := by
  unfold f_X4_holds
  exact (k9_zg (fun g1 => (k9_ite (fun _ => (k9_some rfl)) (fun _ => (k9_ite (fun _ => (k9_some rfl)) (fun _ => (k9_ite (fun _ => (k9_some rfl)) (fun _ => (k9_some rfl)))))))))
theorem k9_X4_cut (F : Nat) (σ : zMem) (t0 : Nat) (a1 : Int32) : zk9 σ (f_X4_cut F σ t0 a1) := by
  unfold f_X4_cut
  exact (k9_zg (fun g1 => (k9_ite (fun _ => (k9_some rfl)) (fun _ => (k9_ite (fun _ => (k9_some rfl)) (fun _ => (k9_some rfl)))))))
theorem k9_X5_has (F : Nat) (σ : zMem) (a0 : Int32) (a1 : Int32) : zk9 σ (f_X5_has F σ a0 a1) := by
  unfold f_X5_has
  exact (k9_ite (fun _ => (k9_some rfl)) (fun _ => (k9_ite (fun _ => (k9_some rfl)) (fun _ => (k9_ite (fun _ => (k9_some rfl)) (fun _ => (k9_ite (fun _ => (k9_some rfl)) (fun _ => (k9_some rfl)))))))))
theorem k9_X5_fits (F : Nat) (σ : zMem) (a0 : Int32) (a1 : Int64) : zk9 σ (f_X5_fits F σ a0 a1) := by
  unfold f_X5_fits
  exact (k9_zg (fun g1 => (k9_ite (fun _ => (k9_some rfl)) (fun _ => (k9_zg (fun g2 => (k9_ite (fun _ => (k9_some rfl)) (fun _ => (k9_some rfl)))))))))
theorem k9_X5_tell_26 (F : Nat) (σ : zMem) (l1 : Int32) (l2 : Int32) (l3 : Int32) : zk9 σ (f_X5_tell_26 F σ l1 l2 l3) := by
  unfold f_X5_tell_26
  exact (k9_zg (fun g1 => (k9_zg (fun g2 => (k9_some ((zwi9 _ _ _ _ _ rfl).trans rfl))))))
theorem k9_X5_tell (F : Nat) (σ : zMem) (a1 : Int32) (a2 : Int32) (a3 : Int32) : zk9 σ (f_X5_tell F σ a1 a2 a3) := by
  unfold f_X5_tell
  exact (k9_zg (fun g1 => (k9_zg (fun g2 => (k9_ite (fun _ => (k9_zg (fun g3 => (k9_zg (fun g4 => (k9_zg (fun g5 => (k9_zg (fun g6 => (k9_tr (k9_X5_tell_26 _ _ _ _ _) ((zwi9 _ _ _ _ _ rfl).trans rfl))))))))))) (fun _ => (k9_tr (k9_X5_tell_26 _ _ _ _ _) rfl)))))))
theorem k9_X5_on_2 (F : Nat) (rec2 : zMem → Int32 × Int32 → Option (Int32 × zMem)) (σ : zMem) (x : Int32 × Int32) (hrec2 : ∀ s y, zk9 s (rec2 s y)) : zk9 σ (f_X5_on_2 F rec2 σ x) := by
  unfold f_X5_on_2
  exact (k9_ite (fun _ => (k9_zg (fun g1 => (k9_some rfl)))) (fun _ => (k9_zg (fun g2 => (k9_zg (fun g3 => (k9_ite (fun _ => (k9_zg (fun g4 => (k9_zg (fun g5 => (k9_zg (fun g6 => (k9_ite (fun _ => (k9_tr (hrec2 _ _) rfl)) (fun _ => (k9_tr (hrec2 _ _) rfl)))))))))) (fun _ => (k9_zg (fun g7 => (k9_zg (fun g8 => (k9_some rfl)))))))))))))
theorem k9_X5_on (F : Nat) (σ : zMem) (a1 : Int32) (a2 : Int32) : zk9 σ (f_X5_on F σ a1 a2) := by
  unfold f_X5_on
  exact (k9_tr (k9_it (fun r hr s y => k9_X5_on_2 _ r s y hr) _ _ _) rfl)
theorem k9_X6_bears (F : Nat) (σ : zMem) (t0 : Nat) (a1 : Int32) : zk9 σ (f_X6_bears F σ t0 a1) := by
  unfold f_X6_bears
  exact (k9_zg (fun g1 => (k9_zg (fun g2 => (k9_ite (fun _ => (k9_some rfl)) (fun _ => (k9_some rfl)))))))
theorem k9_X6_layerOf (F : Nat) (σ : zMem) (t0 : Nat) (a1 : Int32) : zk9 σ (f_X6_layerOf F σ t0 a1) := by
  unfold f_X6_layerOf
  exact (k9_zg (fun g1 => (k9_zg (fun g2 => (k9_ite (fun _ => (k9_zg (fun g3 => (k9_some rfl)))) (fun _ => (k9_zg (fun g4 => (k9_some rfl)))))))))
theorem k9_X6_lyingFrom_4 (F : Nat) (rec4 : zMem → Nat × Int32 × Int32 → Option (Int32 × zMem)) (σ : zMem) (x : Nat × Int32 × Int32) (hrec4 : ∀ s y, zk9 s (rec4 s y)) : zk9 σ (f_X6_lyingFrom_4 F rec4 σ x) := by
  unfold f_X6_lyingFrom_4
  exact (k9_zg (fun g1 => (k9_ite (fun _ => (k9_some rfl)) (fun _ => (k9_zg (fun g2 => (k9_tr (hrec4 _ _) rfl)))))))
theorem k9_X6_lyingFrom (F : Nat) (σ : zMem) (t0 : Nat) (a1 : Int32) : zk9 σ (f_X6_lyingFrom F σ t0 a1) := by
  unfold f_X6_lyingFrom
  exact (k9_zg (fun g1 => (k9_tr (k9_it (fun r hr s y => k9_X6_lyingFrom_4 _ r s y hr) _ _ _) rfl)))
theorem k9_X6_lowestSoft_2 (F : Nat) (rec2 : zMem → Nat × Int32 → Option (Int32 × zMem)) (σ : zMem) (x : Nat × Int32) (hrec2 : ∀ s y, zk9 s (rec2 s y)) : zk9 σ (f_X6_lowestSoft_2 F rec2 σ x) := by
  unfold f_X6_lowestSoft_2
  exact (k9_zg (fun g1 => (k9_ite (fun _ => (k9_some rfl)) (fun _ => (k9_zg (fun g2 => (k9_ite (fun _ => (k9_tr (hrec2 _ _) rfl)) (fun _ => (k9_some rfl)))))))))
theorem k9_X6_lowestSoft (F : Nat) (σ : zMem) (t0 : Nat) : zk9 σ (f_X6_lowestSoft F σ t0) := by
  unfold f_X6_lowestSoft
  exact (k9_zg (fun g1 => (k9_tr (k9_it (fun r hr s y => k9_X6_lowestSoft_2 _ r s y hr) _ _ _) rfl)))
theorem k9_X6_risk (F : Nat) (σ : zMem) (t0 : Nat) (a1 : Int32) : zk9 σ (f_X6_risk F σ t0 a1) := by
  unfold f_X6_risk
  exact (k9_zg (fun g1 => (k9_zb (k9_tr (k9_X6_lowestSoft _ _ _) rfl) (fun r2 m2 h2 => (k9_zb (k9_tr (k9_X6_lyingFrom _ _ _ _) h2) (fun r7 m7 h3 => (k9_zb (k9_tr (k9_X6_bears _ _ _ _) h3) (fun r15 m15 h4 => (k9_zg (fun g5 => (k9_some h4)))))))))))
theorem k9_X6_melt (F : Nat) (σ : zMem) (t0 : Nat) (a1 : Int32) : zk9 σ (f_X6_melt F σ t0 a1) := by
  unfold f_X6_melt
  exact (k9_zg (fun g1 => (k9_ite (fun _ => (k9_some rfl)) (fun _ => (k9_zg (fun g2 => (k9_ite (fun _ => (k9_some ((zwi9 _ _ _ _ _ rfl).trans rfl))) (fun _ => (k9_zg (fun g3 => (k9_zg (fun g4 => (k9_some ((zwi9 _ _ _ _ _ rfl).trans rfl))))))))))))))
theorem k9_X6_joinLowest_56 (F : Nat) (rec56 : zMem → Nat × Int32 → Option (Unit × zMem)) (σ : zMem) (x : Nat × Int32) (hrec56 : ∀ s y, zk9 s (rec56 s y)) : zk9 σ (f_X6_joinLowest_56 F rec56 σ x) := by
  unfold f_X6_joinLowest_56
  exact (k9_zg (fun g1 => (k9_ite (fun _ => (k9_some rfl)) (fun _ => (k9_zg (fun g2 => (k9_zg (fun g3 => (k9_zg (fun g4 => (k9_zg (fun g5 => (k9_tr (hrec56 _ _) ((zwi9 _ _ _ _ _ rfl).trans ((zwi9 _ _ _ _ _ rfl).trans rfl)))))))))))))))
theorem k9_X6_joinLowest_43 (F : Nat) (σ : zMem) (l0 : Nat) (s0 : Int32) (s1 : Int32) (s2 : Nat) : zk9 σ (f_X6_joinLowest_43 F σ l0 s0 s1 s2) := by
  unfold f_X6_joinLowest_43
  exact (k9_zg (fun g1 => (k9_zg (fun g2 => (k9_zg (fun g3 => (k9_tr (k9_it (fun r hr s y => k9_X6_joinLowest_56 _ r s y hr) _ _ _) ((zwi9 _ _ _ _ _ rfl).trans ((zwi9 _ _ _ _ _ rfl).trans rfl)))))))))
theorem k9_X6_joinLowest (F : Nat) (σ : zMem) (t0 : Nat) : zk9 σ (f_X6_joinLowest F σ t0) := by
  unfold f_X6_joinLowest
  exact (k9_zg (fun g1 => (k9_zg (fun g2 => (k9_zg (fun g3 => (k9_zg (fun g4 => (k9_zg (fun g5 => (k9_ite (fun _ => (k9_zg (fun g6 => (k9_ite (fun _ => (k9_tr (k9_X6_joinLowest_43 _ _ _ _ _ _) ((zwi9 _ _ _ _ _ rfl).trans rfl))) (fun _ => (k9_tr (k9_X6_joinLowest_43 _ _ _ _ _ _) ((zwi9 _ _ _ _ _ rfl).trans rfl))))))) (fun _ => (k9_tr (k9_X6_joinLowest_43 _ _ _ _ _ _) ((zwi9 _ _ _ _ _ rfl).trans rfl))))))))))))))
theorem k9_X6_addLayer (F : Nat) (σ : zMem) (t0 : Nat) (a1 : Int32) (a2 : Int32) : zk9 σ (f_X6_addLayer F σ t0 a1 a2) := by
  unfold f_X6_addLayer
  exact (k9_zg (fun g1 => (k9_zg (fun g2 => (k9_zg (fun g3 => (k9_ite (fun _ => (k9_some ((zwi9 _ _ _ _ _ rfl).trans ((zwi9 _ _ _ _ _ rfl).trans ((zwi9 _ _ _ _ _ rfl).trans rfl))))) (fun _ => (k9_zb (k9_tr (k9_X6_joinLowest _ _ _) ((zwi9 _ _ _ _ _ rfl).trans ((zwi9 _ _ _ _ _ rfl).trans ((zwi9 _ _ _ _ _ rfl).trans rfl)))) (fun r40 m40 h4 => (k9_some h4)))))))))))
theorem k9_X6_live_79 (F : Nat) (σ : zMem) (l0 : Nat) : zk9 σ (f_X6_live_79 F σ l0) := by
  unfold f_X6_live_79
  exact (k9_zg (fun g1 => (k9_some ((zwi9 _ _ _ _ _ rfl).trans rfl))))
theorem k9_X6_live_35 (F : Nat) (σ : zMem) (l0 : Nat) : zk9 σ (f_X6_live_35 F σ l0) := by
  unfold f_X6_live_35
  exact (k9_zg (fun g1 => (k9_zb (k9_tr (k9_X6_lowestSoft _ _ _) rfl) (fun r36 m36 h2 => (k9_zb (k9_tr (k9_X6_lyingFrom _ _ _ _) h2) (fun r44 m44 h3 => (k9_zb (k9_tr (k9_X6_bears _ _ _ _) h3) (fun r52 m52 h4 => (k9_ite (fun _ => (k9_ite (fun _ => (k9_tr (k9_X6_live_79 _ _ _) ((zwi9 _ _ _ _ _ rfl).trans h4))) (fun _ => (k9_tr (k9_X6_live_79 _ _ _) ((zwi9 _ _ _ _ _ rfl).trans ((zwi9 _ _ _ _ _ rfl).trans h4)))))) (fun _ => (k9_some h4)))))))))))
theorem k9_X6_live_32 (F : Nat) (σ : zMem) (l0 : Nat) (s0 : Int32) (s1 : Int32) (s2 : Nat) : zk9 σ (f_X6_live_32 F σ l0 s0 s1 s2) := by
  unfold f_X6_live_32
  exact (k9_zg (fun g1 => (k9_zg (fun g2 => (k9_zb (k9_tr (k9_X6_addLayer _ _ _ _ _) rfl) (fun r32 m32 h3 => (k9_tr (k9_X6_live_35 _ _ _) h3)))))))
theorem k9_X6_live (F : Nat) (σ : zMem) (t0 : Nat) (a1 : Int32) (a2 : Int32) : zk9 σ (f_X6_live F σ t0 a1 a2) := by
  unfold f_X6_live
  exact (k9_zg (fun g1 => (k9_ite (fun _ => (k9_ite (fun _ => (k9_tr (k9_X6_live_35 _ _ _) rfl)) (fun _ => (k9_ite (fun _ => (k9_tr (k9_X6_live_32 _ _ _ _ _ _) rfl)) (fun _ => (k9_tr (k9_X6_live_32 _ _ _ _ _ _) rfl)))))) (fun _ => (k9_zb (k9_tr (k9_X6_melt _ _ _ _) rfl) (fun r9 m9 h2 => (k9_tr (k9_X6_live_35 _ _ _) h2)))))))
theorem k9_X7_has (F : Nat) (σ : zMem) (a1 : Int32) : zk9 σ (f_X7_has F σ a1) := by
  unfold f_X7_has
  exact (k9_ite (fun _ => (k9_some rfl)) (fun _ => (k9_ite (fun _ => (k9_some rfl)) (fun _ => (k9_some rfl)))))
theorem k9_X7_live_5 (F : Nat) (rec5 : zMem → Int32 × Int32 × Int32 × Int32 → Option (Unit × zMem)) (σ : zMem) (x : Int32 × Int32 × Int32 × Int32) (hrec5 : ∀ s y, zk9 s (rec5 s y)) : zk9 σ (f_X7_live_5 F rec5 σ x) := by
  unfold f_X7_live_5
  exact (k9_ite (fun _ => (k9_ite (fun _ => (k9_some ((zwi9 _ _ _ _ _ rfl).trans ((zwi9 _ _ _ _ _ rfl).trans rfl)))) (fun _ => (k9_ite (fun _ => (k9_some ((zwi9 _ _ _ _ _ rfl).trans ((zwi9 _ _ _ _ _ rfl).trans rfl)))) (fun _ => (k9_some ((zwi9 _ _ _ _ _ rfl).trans rfl))))))) (fun _ => (k9_zg (fun g1 => (k9_zb (k9_tr (k9_X6_live _ _ _ _ _) rfl) (fun r23 m23 h2 => (k9_ite (fun _ => (k9_tr (hrec5 _ _) h2)) (fun _ => (k9_tr (hrec5 _ _) h2)))))))))
theorem k9_X7_live (F : Nat) (σ : zMem) (a1 : Int32) (a2 : Int32) : zk9 σ (f_X7_live F σ a1 a2) := by
  unfold f_X7_live
  exact (k9_tr (k9_it (fun r hr s y => k9_X7_live_5 _ r s y hr) _ _ _) rfl)
theorem k9_X7_ageWoods_2 (F : Nat) (rec2 : zMem → Int32 → Option (Unit × zMem)) (σ : zMem) (x : Int32) (hrec2 : ∀ s y, zk9 s (rec2 s y)) : zk9 σ (f_X7_ageWoods_2 F rec2 σ x) := by
  unfold f_X7_ageWoods_2
  exact (k9_ite (fun _ => (k9_some rfl)) (fun _ => (k9_zg (fun g1 => (k9_zg (fun g2 => (k9_tr (hrec2 _ _) ((zwi9 _ _ _ _ _ rfl).trans rfl))))))))
theorem k9_X7_ageWoods (F : Nat) (σ : zMem) : zk9 σ (f_X7_ageWoods F σ) := by
  unfold f_X7_ageWoods
  exact (k9_tr (k9_it (fun r hr s y => k9_X7_ageWoods_2 _ r s y hr) _ _ _) rfl)
theorem k9_X8_stands (F : Nat) (σ : zMem) (t0 : Nat) (a1 : Int32) (a2 : Int32) (a3 : Int32) : zk9 σ (f_X8_stands F σ t0 a1 a2 a3) := by
  unfold f_X8_stands
  exact (k9_zg (fun g1 => (k9_ite (fun _ => (k9_ite (fun _ => (k9_some rfl)) (fun _ => (k9_ite (fun _ => (k9_some rfl)) (fun _ => (k9_ite (fun _ => (k9_some rfl)) (fun _ => (k9_ite (fun _ => (k9_some rfl)) (fun _ => (k9_some rfl)))))))))) (fun _ => (k9_some rfl)))))
theorem k9_X8_fieldOf (F : Nat) (σ : zMem) (a0 : Nat) (a1 : Int32) (a2 : Int32) : zk9 σ (f_X8_fieldOf F σ a0 a1 a2) := by
  unfold f_X8_fieldOf
  exact (k9_zg (fun g1 => (k9_ite (fun _ => (k9_zg (fun g2 => (k9_some rfl)))) (fun _ => (k9_ite (fun _ => (k9_zg (fun g3 => (k9_some rfl)))) (fun _ => (k9_ite (fun _ => (k9_zg (fun g4 => (k9_some rfl)))) (fun _ => (k9_ite (fun _ => (k9_zg (fun g5 => (k9_some rfl)))) (fun _ => (k9_ite (fun _ => (k9_zg (fun g6 => (k9_some rfl)))) (fun _ => (k9_ite (fun _ => (k9_zg (fun g7 => (k9_some rfl)))) (fun _ => k9_none))))))))))))))
theorem k9_X8_isTrue (F : Nat) (σ : zMem) (a0 : Int32) (a1 : Int32) (a2 : Int32) : zk9 σ (f_X8_isTrue F σ a0 a1 a2) := by
  unfold f_X8_isTrue
  exact (k9_ite (fun _ => (k9_ite (fun _ => (k9_some rfl)) (fun _ => (k9_some rfl)))) (fun _ => (k9_ite (fun _ => (k9_ite (fun _ => (k9_some rfl)) (fun _ => (k9_some rfl)))) (fun _ => (k9_ite (fun _ => (k9_some rfl)) (fun _ => (k9_some rfl)))))))
theorem k9_X8_holdsFor_60 (F : Nat) (rec17 : zMem → Nat × Nat × Int32 × Int32 × Int32 × Int32 → Option (Int32 × zMem)) (σ : zMem) (l0 : Nat) (l1 : Nat) (l2 : Int32) (l3 : Int32) (l4 : Int32) (l5 : Int32) (hrec17 : ∀ s y, zk9 s (rec17 s y)) : zk9 σ (f_X8_holdsFor_60 F rec17 σ l0 l1 l2 l3 l4 l5) := by
  unfold f_X8_holdsFor_60
  exact (k9_zg (fun g1 => (k9_zg (fun g2 => (k9_ite (fun _ => (k9_tr (hrec17 _ _) rfl)) (fun _ => (k9_zg (fun g3 => (k9_zg (fun g4 => (k9_zb (k9_tr (k9_X8_fieldOf _ _ _ _ _) rfl) (fun r81 m81 h5 => (k9_zg (fun g6 => (k9_zg (fun g7 => (k9_zb (k9_tr (k9_X8_isTrue _ _ _ _ _) h5) (fun r98 m98 h8 => (k9_ite (fun _ => (k9_tr (hrec17 _ _) h8)) (fun _ => (k9_tr (hrec17 _ _) h8)))))))))))))))))))))
theorem k9_X8_holdsFor_131 (F : Nat) (σ : zMem) (l0 : Nat) (s0 : Int32) : zk9 σ (f_X8_holdsFor_131 F σ l0 s0) := by
  unfold f_X8_holdsFor_131
  exact (k9_zg (fun g1 => (k9_ite (fun _ => (k9_some rfl)) (fun _ => (k9_some rfl)))))
theorem k9_X8_holdsFor_117 (F : Nat) (σ : zMem) (l0 : Nat) (l3 : Int32) (l4 : Int32) : zk9 σ (f_X8_holdsFor_117 F σ l0 l3 l4) := by
  unfold f_X8_holdsFor_117
  exact (k9_zg (fun g1 => (k9_ite (fun _ => (k9_ite (fun _ => (k9_tr (k9_X8_holdsFor_131 _ _ _ _) rfl)) (fun _ => (k9_tr (k9_X8_holdsFor_131 _ _ _ _) rfl)))) (fun _ => (k9_tr (k9_X8_holdsFor_131 _ _ _ _) rfl)))))
theorem k9_X8_holdsFor_17 (F : Nat) (rec17 : zMem → Nat × Nat × Int32 × Int32 × Int32 × Int32 → Option (Int32 × zMem)) (σ : zMem) (x : Nat × Nat × Int32 × Int32 × Int32 × Int32) (hrec17 : ∀ s y, zk9 s (rec17 s y)) : zk9 σ (f_X8_holdsFor_17 F rec17 σ x) := by
  unfold f_X8_holdsFor_17
  exact (k9_zg (fun g1 => (k9_zg (fun g2 => (k9_ite (fun _ => (k9_tr (k9_X8_holdsFor_117 _ _ _ _ _) rfl)) (fun _ => (k9_ite (fun _ => (k9_tr (k9_X8_holdsFor_117 _ _ _ _ _) rfl)) (fun _ => (k9_zg (fun g3 => (k9_ite (fun _ => (k9_tr (k9_X8_holdsFor_60 _ rec17 _ _ _ _ _ _ _ hrec17) rfl)) (fun _ => (k9_ite (fun _ => (k9_ite (fun _ => (k9_tr (k9_X8_holdsFor_60 _ rec17 _ _ _ _ _ _ _ hrec17) rfl)) (fun _ => (k9_tr (k9_X8_holdsFor_60 _ rec17 _ _ _ _ _ _ _ hrec17) rfl)))) (fun _ => (k9_tr (k9_X8_holdsFor_60 _ rec17 _ _ _ _ _ _ _ hrec17) rfl)))))))))))))))
theorem k9_X8_holdsFor (F : Nat) (σ : zMem) (t0 : Nat) (a1 : Nat) (a2 : Int32) : zk9 σ (f_X8_holdsFor F σ t0 a1 a2) := by
  unfold f_X8_holdsFor
  exact (k9_zg (fun g1 => (k9_zg (fun g2 => (k9_ite (fun _ => (k9_some rfl)) (fun _ => (k9_tr (k9_it (fun r hr s y => k9_X8_holdsFor_17 _ r s y hr) _ _ _) rfl)))))))
theorem k9_X9_has (F : Nat) (σ : zMem) (a1 : Int32) : zk9 σ (f_X9_has F σ a1) := by
  unfold f_X9_has
  exact (k9_ite (fun _ => (k9_some rfl)) (fun _ => (k9_ite (fun _ => (k9_some rfl)) (fun _ => (k9_some rfl)))))
theorem k9_X9_append (F : Nat) (σ : zMem) (a1 : Int32) : zk9 σ (f_X9_append F σ a1) := by
  unfold f_X9_append
  exact (k9_ite (fun _ => (k9_some rfl)) (fun _ => (k9_zg (fun g1 => (k9_some ((zwi9 _ _ _ _ _ rfl).trans ((zwi9 _ _ _ _ _ rfl).trans rfl)))))))
theorem k9_X9_enter (F : Nat) (σ : zMem) (a1 : Int32) : zk9 σ (f_X9_enter F σ a1) := by
  unfold f_X9_enter
  exact (k9_zg (fun g1 => (k9_some ((zwi9 _ _ _ _ _ rfl).trans ((zwi9 _ _ _ _ _ rfl).trans rfl)))))
theorem k9_X9_worth (F : Nat) (σ : zMem) (a1 : Int32) (a2 : Int32) : zk9 σ (f_X9_worth F σ a1 a2) := by
  unfold f_X9_worth
  exact (k9_ite (fun _ => (k9_zg (fun g1 => (k9_some rfl)))) (fun _ => (k9_zg (fun g2 => (k9_some rfl)))))
theorem k9_X9_latest_8 (F : Nat) (rec8 : zMem → Nat × Int32 × Int32 × Int32 × Int32 → Option (Int32 × zMem)) (σ : zMem) (x : Nat × Int32 × Int32 × Int32 × Int32) (hrec8 : ∀ s y, zk9 s (rec8 s y)) : zk9 σ (f_X9_latest_8 F rec8 σ x) := by
  unfold f_X9_latest_8
  exact (k9_zg (fun g1 => (k9_ite (fun _ => (k9_some rfl)) (fun _ => (k9_zg (fun g2 => (k9_zb (k9_tr (k9_X8_stands _ _ _ _ _ _) rfl) (fun r24 m24 h3 => (k9_ite (fun _ => (k9_tr (hrec8 _ _) h3)) (fun _ => (k9_zg (fun g4 => (k9_zb (k9_tr (k9_X8_holdsFor _ _ _ _ _) h3) (fun r39 m39 h5 => (k9_ite (fun _ => (k9_tr (hrec8 _ _) h5)) (fun _ => (k9_some h5)))))))))))))))))
theorem k9_X9_latest (F : Nat) (σ : zMem) (a1 : Nat) (a2 : Int32) (a3 : Int32) (a4 : Int32) : zk9 σ (f_X9_latest F σ a1 a2 a3 a4) := by
  unfold f_X9_latest
  exact (k9_zg (fun g1 => (k9_tr (k9_it (fun r hr s y => k9_X9_latest_8 _ r s y hr) _ _ _) rfl)))
theorem k9_X9_readName_114 (F : Nat) (rec13 : zMem → Nat × Int32 × Int32 × Int32 × Int32 × Int32 → Option (Int32 × zMem)) (σ : zMem) (l1 : Nat) (l2 : Int32) (l3 : Int32) (l4 : Int32) (l5 : Int32) (l6 : Int32) (hrec13 : ∀ s y, zk9 s (rec13 s y)) : zk9 σ (f_X9_readName_114 F rec13 σ l1 l2 l3 l4 l5 l6) := by
  unfold f_X9_readName_114
  exact (k9_zg (fun g1 => (k9_tr (hrec13 _ _) rfl)))
theorem k9_X9_readName_104 (F : Nat) (rec13 : zMem → Nat × Int32 × Int32 × Int32 × Int32 × Int32 → Option (Int32 × zMem)) (σ : zMem) (l1 : Nat) (l2 : Int32) (l3 : Int32) (l4 : Int32) (l6 : Int32) (s0 : Int32) (hrec13 : ∀ s y, zk9 s (rec13 s y)) : zk9 σ (f_X9_readName_104 F rec13 σ l1 l2 l3 l4 l6 s0) := by
  unfold f_X9_readName_104
  exact (k9_zg (fun g1 => (k9_ite (fun _ => (k9_tr (k9_X9_readName_114 _ rec13 _ _ _ _ _ _ _ hrec13) rfl)) (fun _ => (k9_tr (k9_X9_readName_114 _ rec13 _ _ _ _ _ _ _ hrec13) rfl)))))
theorem k9_X9_readName_13 (F : Nat) (rec13 : zMem → Nat × Int32 × Int32 × Int32 × Int32 × Int32 → Option (Int32 × zMem)) (σ : zMem) (x : Nat × Int32 × Int32 × Int32 × Int32 × Int32) (hrec13 : ∀ s y, zk9 s (rec13 s y)) : zk9 σ (f_X9_readName_13 F rec13 σ x) := by
  unfold f_X9_readName_13
  exact (k9_zg (fun g1 => (k9_zb (k9_tr (k9_J0_length_8abf5 _ _ _) rfl) (fun r16 m16 h2 => (k9_ite (fun _ => (k9_some ((zwi9 _ _ _ _ _ rfl).trans h2))) (fun _ => (k9_zb (k9_tr (k9_J0_charAt_5068e _ _ _ _) h2) (fun r25 m25 h3 => (k9_ite (fun _ => (k9_ite (fun _ => (k9_tr (hrec13 _ _) h3)) (fun _ => (k9_some ((zwi9 _ _ _ _ _ rfl).trans h3))))) (fun _ => (k9_ite (fun _ => (k9_tr (hrec13 _ _) h3)) (fun _ => (k9_ite (fun _ => (k9_tr (k9_X9_readName_104 _ rec13 _ _ _ _ _ _ _ hrec13) h3)) (fun _ => (k9_zg (fun g4 => (k9_ite (fun _ => (k9_tr (k9_X9_readName_104 _ rec13 _ _ _ _ _ _ _ hrec13) h3)) (fun _ => (k9_tr (k9_X9_readName_104 _ rec13 _ _ _ _ _ _ _ hrec13) h3)))))))))))))))))))
theorem k9_X9_readName (F : Nat) (σ : zMem) (a1 : Nat) : zk9 σ (f_X9_readName F σ a1) := by
  unfold f_X9_readName
  exact (k9_zg (fun g1 => (k9_tr (k9_it (fun r hr s y => k9_X9_readName_13 _ r s y hr) _ _ _) rfl)))
theorem k9_X9_readBlank (F : Nat) (σ : zMem) : zk9 σ (f_X9_readBlank F σ) := by
  unfold f_X9_readBlank
  exact (k9_ite (fun _ => (k9_some rfl)) (fun _ => (k9_zg (fun g1 => (k9_ite (fun _ => (k9_some ((zwi9 _ _ _ _ _ rfl).trans rfl))) (fun _ => (k9_some rfl)))))))
theorem k9_X9_readNumber_4 (F : Nat) (rec4 : zMem → Int32 × Int32 → Option (Int32 × zMem)) (σ : zMem) (x : Int32 × Int32) (hrec4 : ∀ s y, zk9 s (rec4 s y)) : zk9 σ (f_X9_readNumber_4 F rec4 σ x) := by
  unfold f_X9_readNumber_4
  exact (k9_ite (fun _ => (k9_some rfl)) (fun _ => (k9_ite (fun _ => (k9_some rfl)) (fun _ => (k9_zg (fun g1 => (k9_ite (fun _ => (k9_some rfl)) (fun _ => (k9_ite (fun _ => (k9_tr (hrec4 _ _) ((zwi9 _ _ _ _ _ rfl).trans rfl))) (fun _ => (k9_some rfl)))))))))))
theorem k9_X9_readNumber (F : Nat) (σ : zMem) : zk9 σ (f_X9_readNumber F σ) := by
  unfold f_X9_readNumber
  exact (k9_tr (k9_it (fun r hr s y => k9_X9_readNumber_4 _ r s y hr) _ _ _) rfl)
theorem k9_X9_readTest_48 (F : Nat) (σ : zMem) (l1 : Nat) (l2 : Int32) (l3 : Int32) : zk9 σ (f_X9_readTest_48 F σ l1 l2 l3) := by
  unfold f_X9_readTest_48
  exact (k9_zg (fun g1 => (k9_ite (fun _ => (k9_zg (fun g2 => (k9_zb (k9_tr (k9_X9_readName _ _ _) ((zwi9 _ _ _ _ _ rfl).trans rfl)) (fun r69 m69 h3 => (k9_zg (fun g4 => (k9_zg (fun g5 => (k9_ite (fun _ => (k9_zb (k9_tr (k9_X9_readNumber _ _) ((zwi9 _ _ _ _ _ rfl).trans h3)) (fun r90 m90 h6 => (k9_zg (fun g7 => (k9_zg (fun g8 => (k9_ite (fun _ => (k9_some ((zwi9 _ _ _ _ _ rfl).trans h6))) (fun _ => (k9_some ((zwi9 _ _ _ _ _ rfl).trans h6))))))))))) (fun _ => (k9_some ((zwi9 _ _ _ _ _ rfl).trans h3))))))))))))) (fun _ => (k9_some rfl)))))
theorem k9_X9_readTest_23 (F : Nat) (σ : zMem) (l1 : Nat) (l2 : Int32) (l3 : Int32) (s0 : Int32) (s1 : Int32) (s2 : Nat) : zk9 σ (f_X9_readTest_23 F σ l1 l2 l3 s0 s1 s2) := by
  unfold f_X9_readTest_23
  exact (k9_zg (fun g1 => (k9_zg (fun g2 => (k9_zg (fun g3 => (k9_ite (fun _ => (k9_zb (k9_tr (k9_X9_readBlank _ _) ((zwi9 _ _ _ _ _ rfl).trans rfl)) (fun r31 m31 h4 => (k9_ite (fun _ => (k9_tr (k9_X9_readTest_48 _ _ _ _ _) h4)) (fun _ => (k9_zb (k9_tr (k9_X9_readName _ _ _) h4) (fun r40 m40 h5 => (k9_tr (k9_X9_readTest_48 _ _ _ _ _) h5)))))))) (fun _ => (k9_tr (k9_X9_readTest_48 _ _ _ _ _) ((zwi9 _ _ _ _ _ rfl).trans rfl))))))))))
theorem k9_X9_readTest (F : Nat) (σ : zMem) (a1 : Nat) (a2 : Int32) : zk9 σ (f_X9_readTest F σ a1 a2) := by
  unfold f_X9_readTest
  exact (k9_zg (fun g1 => (k9_zb (k9_tr (k9_X9_readName _ _ _) rfl) (fun r3 m3 h2 => (k9_ite (fun _ => (k9_tr (k9_X9_readTest_23 _ _ _ _ _ _ _ _) h2)) (fun _ => (k9_tr (k9_X9_readTest_23 _ _ _ _ _ _ _ _) h2)))))))
theorem k9_X9_readTests_4 (F : Nat) (rec4 : zMem → Nat × Int32 × Int32 → Option (Int32 × zMem)) (σ : zMem) (x : Nat × Int32 × Int32) (hrec4 : ∀ s y, zk9 s (rec4 s y)) : zk9 σ (f_X9_readTests_4 F rec4 σ x) := by
  unfold f_X9_readTests_4
  exact (k9_zg (fun g1 => (k9_ite (fun _ => (k9_some rfl)) (fun _ => (k9_zg (fun g2 => (k9_zb (k9_tr (k9_X9_readTest _ _ _ _) ((zwi9 _ _ _ _ _ rfl).trans rfl)) (fun r19 m19 h3 => (k9_ite (fun _ => (k9_some h3)) (fun _ => (k9_ite (fun _ => (k9_some ((zwi9 _ _ _ _ _ rfl).trans h3))) (fun _ => (k9_ite (fun _ => (k9_some ((zwi9 _ _ _ _ _ rfl).trans h3))) (fun _ => (k9_zb (k9_tr (k9_X9_readBlank _ _) ((zwi9 _ _ _ _ _ rfl).trans h3)) (fun r53 m53 h4 => (k9_ite (fun _ => (k9_some h4)) (fun _ => (k9_zb (k9_tr (k9_X9_readName _ _ _) h4) (fun r64 m64 h5 => (k9_ite (fun _ => (k9_some h5)) (fun _ => (k9_zb (k9_tr (k9_X9_readBlank _ _) h5) (fun r75 m75 h6 => (k9_ite (fun _ => (k9_some h6)) (fun _ => (k9_ite (fun _ => (k9_tr (hrec4 _ _) h6)) (fun _ => (k9_tr (hrec4 _ _) h6)))))))))))))))))))))))))))))
theorem k9_X9_readTests (F : Nat) (σ : zMem) (a1 : Nat) : zk9 σ (f_X9_readTests F σ a1) := by
  unfold f_X9_readTests
  exact (k9_zg (fun g1 => (k9_tr (k9_it (fun r hr s y => k9_X9_readTests_4 _ r s y hr) _ _ _) rfl)))
theorem k9_X9_readWord_106 (F : Nat) (σ : zMem) (l1 : Nat) (s0 : Int32) (s1 : Nat) : zk9 σ (f_X9_readWord_106 F σ l1 s0 s1) := by
  unfold f_X9_readWord_106
  exact (k9_zg (fun g1 => (k9_zg (fun g2 => (k9_zg (fun g3 => (k9_zb (k9_tr (k9_X9_readTests _ _ _) ((zwi9 _ _ _ _ _ rfl).trans rfl)) (fun r111 m111 h4 => (k9_zg (fun g5 => (k9_some h4)))))))))))
theorem k9_X9_readWord (F : Nat) (σ : zMem) (a1 : Nat) : zk9 σ (f_X9_readWord F σ a1) := by
  unfold f_X9_readWord
  exact (k9_zg (fun g1 => (k9_zg (fun g2 => (k9_zb (k9_tr (k9_X9_readName _ _ _) ((zwi9 _ _ _ _ _ rfl).trans ((zwi9 _ _ _ _ _ rfl).trans rfl))) (fun r14 m14 h3 => (k9_ite (fun _ => (k9_some ((zwi9 _ _ _ _ _ rfl).trans h3))) (fun _ => (k9_zb (k9_tr (k9_X9_readBlank _ _) ((zwi9 _ _ _ _ _ rfl).trans h3)) (fun r28 m28 h4 => (k9_ite (fun _ => (k9_some h4)) (fun _ => (k9_zb (k9_tr (k9_X9_readNumber _ _) h4) (fun r38 m38 h5 => (k9_ite (fun _ => (k9_ite (fun _ => (k9_some ((zwi9 _ _ _ _ _ rfl).trans h5))) (fun _ => (k9_zb (k9_tr (k9_X9_readBlank _ _) ((zwi9 _ _ _ _ _ rfl).trans h5)) (fun r67 m67 h6 => (k9_ite (fun _ => (k9_some h6)) (fun _ => (k9_zb (k9_tr (k9_X9_readName _ _ _) h6) (fun r78 m78 h7 => (k9_ite (fun _ => (k9_some h7)) (fun _ => (k9_zb (k9_tr (k9_X9_readBlank _ _) h7) (fun r87 m87 h8 => (k9_ite (fun _ => (k9_some h8)) (fun _ => (k9_ite (fun _ => (k9_tr (k9_X9_readWord_106 _ _ _ _ _) h8)) (fun _ => (k9_tr (k9_X9_readWord_106 _ _ _ _ _) h8)))))))))))))))))) (fun _ => (k9_some ((zwi9 _ _ _ _ _ rfl).trans h5))))))))))))))))))
theorem k9_X9_read (F : Nat) (σ : zMem) : zk9 σ (f_X9_read F σ) := by
  unfold f_X9_read
  exact (k9_ite (fun _ => (k9_zg (fun g1 => (k9_zb (k9_tr (k9_X9_readWord _ _ _) ((zwi9 _ _ _ _ _ rfl).trans rfl)) (fun r26 m26 h2 => (k9_ite (fun _ => (k9_some h2)) (fun _ => (k9_some h2)))))))) (fun _ => (k9_some rfl)))
theorem k9_J6_bitCount_0f7a4 (F : Nat) (σ : zMem) (a0 : Int32) : zk9 σ (f_J6_bitCount_0f7a4 F σ a0) := by
  unfold f_J6_bitCount_0f7a4
  exact (k9_some rfl)
theorem k9_X10_house (F : Nat) (σ : zMem) (a1 : Int32) (a2 : Int32) (a3 : Int32) (a4 : Int32) : zk9 σ (f_X10_house F σ a1 a2 a3 a4) := by
  unfold f_X10_house
  exact (k9_zb (k9_tr (k9_X2_fits _ _ _ _) rfl) (fun r2 m2 h1 => (k9_ite (fun _ => (k9_some h1)) (fun _ => (k9_zb (k9_tr (k9_X2_fits _ _ _ _) h1) (fun r10 m10 h2 => (k9_ite (fun _ => (k9_some h2)) (fun _ => (k9_zb (k9_tr (k9_X2_fits _ _ _ _) h2) (fun r21 m21 h3 => (k9_ite (fun _ => (k9_some h3)) (fun _ => (k9_zb (k9_tr (k9_X2_fits _ _ _ _) h3) (fun r30 m30 h4 => (k9_ite (fun _ => (k9_some h4)) (fun _ => (k9_ite (fun _ => (k9_zg (fun g5 => (k9_zg (fun g6 => (k9_zg (fun g7 => (k9_zg (fun g8 => (k9_zg (fun g9 => (k9_some ((zwi9 _ _ _ _ _ rfl).trans ((zwi9 _ _ _ _ _ rfl).trans ((zwi9 _ _ _ _ _ rfl).trans ((zwi9 _ _ _ _ _ rfl).trans ((zwi9 _ _ _ _ _ rfl).trans h4))))))))))))))))) (fun _ => (k9_some h4)))))))))))))))))))
theorem k9_X10_isHouse (F : Nat) (σ : zMem) (a1 : Int32) : zk9 σ (f_X10_isHouse F σ a1) := by
  unfold f_X10_isHouse
  exact (k9_ite (fun _ => (k9_some rfl)) (fun _ => (k9_ite (fun _ => (k9_some rfl)) (fun _ => (k9_some rfl)))))
theorem k9_X10_change_52 (F : Nat) (σ : zMem) (l2 : Int32) (l3 : Int32) (l4 : Nat) : zk9 σ (f_X10_change_52 F σ l2 l3 l4) := by
  unfold f_X10_change_52
  exact (k9_zg (fun g1 => (k9_zg (fun g2 => (k9_zg (fun g3 => (k9_some ((zwi9 _ _ _ _ _ rfl).trans rfl))))))))
theorem k9_X10_change (F : Nat) (σ : zMem) (a1 : Int32) (a2 : Int32) (a3 : Int32) : zk9 σ (f_X10_change F σ a1 a2 a3) := by
  unfold f_X10_change
  exact (k9_zb (k9_tr (k9_X10_isHouse _ _ _) rfl) (fun r2 m2 h1 => (k9_ite (fun _ => (k9_some h1)) (fun _ => (k9_ite (fun _ => (k9_some h1)) (fun _ => (k9_ite (fun _ => (k9_zg (fun g2 => (k9_zb (k9_tr (k9_X2_fits _ _ _ _) h1) (fun r29 m29 h3 => (k9_ite (fun _ => (k9_some h3)) (fun _ => (k9_ite (fun _ => (k9_zb (k9_tr (k9_X2_allUp _ _ _) h3) (fun r43 m43 h4 => (k9_ite (fun _ => (k9_tr (k9_X10_change_52 _ _ _ _ _) h4)) (fun _ => (k9_some h4)))))) (fun _ => (k9_tr (k9_X10_change_52 _ _ _ _ _) h3)))))))))) (fun _ => (k9_some h1)))))))))
theorem k9_X10_told (F : Nat) (σ : zMem) (a1 : Int32) (a2 : Int32) : zk9 σ (f_X10_told F σ a1 a2) := by
  unfold f_X10_told
  exact (k9_zb (k9_tr (k9_X10_isHouse _ _ _) rfl) (fun r2 m2 h1 => (k9_ite (fun _ => (k9_some h1)) (fun _ => (k9_zg (fun g2 => (k9_ite (fun _ => (k9_some h1)) (fun _ => (k9_ite (fun _ => (k9_zg (fun g3 => (k9_some h1)))) (fun _ => (k9_ite (fun _ => (k9_zg (fun g4 => (k9_some h1)))) (fun _ => (k9_ite (fun _ => (k9_zg (fun g5 => (k9_some h1)))) (fun _ => (k9_ite (fun _ => (k9_zg (fun g6 => (k9_some h1)))) (fun _ => (k9_ite (fun _ => (k9_some h1)) (fun _ => (k9_ite (fun _ => (k9_zb (k9_tr (k9_X2_atHome _ _ _) h1) (fun r118 m118 h7 => (k9_some h7)))) (fun _ => (k9_ite (fun _ => (k9_some h1)) (fun _ => (k9_ite (fun _ => (k9_some h1)) (fun _ => (k9_ite (fun _ => (k9_some h1)) (fun _ => (k9_ite (fun _ => (k9_some h1)) (fun _ => (k9_ite (fun _ => (k9_some h1)) (fun _ => (k9_ite (fun _ => (k9_some h1)) (fun _ => (k9_ite (fun _ => (k9_some h1)) (fun _ => k9_none))))))))))))))))))))))))))))))))))
theorem k9_X10_counts_4 (F : Nat) (rec4 : zMem → Int32 × Int32 → Option (Int32 × zMem)) (σ : zMem) (x : Int32 × Int32) (hrec4 : ∀ s y, zk9 s (rec4 s y)) : zk9 σ (f_X10_counts_4 F rec4 σ x) := by
  unfold f_X10_counts_4
  exact (k9_ite (fun _ => (k9_some rfl)) (fun _ => (k9_zg (fun g1 => (k9_zg (fun g2 => (k9_zg (fun g3 => (k9_zg (fun g4 => (k9_tr (hrec4 _ _) ((zwi9 _ _ _ _ _ rfl).trans rfl))))))))))))
theorem k9_X10_counts (F : Nat) (σ : zMem) : zk9 σ (f_X10_counts F σ) := by
  unfold f_X10_counts
  exact (k9_tr (k9_it (fun r hr s y => k9_X10_counts_4 _ r s y hr) _ _ _) rfl)
theorem k9_X10_right (F : Nat) (σ : zMem) (a1 : Int32) (a2 : Int32) (a3 : Int32) : zk9 σ (f_X10_right F σ a1 a2 a3) := by
  unfold f_X10_right
  exact (k9_zb (k9_tr (k9_X10_isHouse _ _ _) rfl) (fun r2 m2 h1 => (k9_ite (fun _ => (k9_some h1)) (fun _ => (k9_ite (fun _ => (k9_some h1)) (fun _ => (k9_ite (fun _ => (k9_some h1)) (fun _ => (k9_ite (fun _ => (k9_some h1)) (fun _ => (k9_ite (fun _ => (k9_some h1)) (fun _ => (k9_ite (fun _ => (k9_ite (fun _ => (k9_zb (k9_tr (k9_X3_enter _ _ _ _ _) h1) (fun r62 m62 h2 => (k9_some h2)))) (fun _ => (k9_some h1)))) (fun _ => (k9_some h1)))))))))))))))
theorem k9_X10_split_117 (F : Nat) (σ : zMem) (l1 : Int32) (l2 : Int32) (s0 : Int32) : zk9 σ (f_X10_split_117 F σ l1 l2 s0) := by
  unfold f_X10_split_117
  exact (k9_zg (fun g1 => (k9_zb (k9_tr (k9_X3_enter _ _ _ _ _) rfl) (fun r133 m133 h2 => (k9_some h2)))))
theorem k9_X10_split (F : Nat) (σ : zMem) (a1 : Int32) (a2 : Int32) : zk9 σ (f_X10_split F σ a1 a2) := by
  unfold f_X10_split
  exact (k9_zb (k9_tr (k9_X3_has _ _ _) rfl) (fun r5 m5 h1 => (k9_ite (fun _ => (k9_some h1)) (fun _ => (k9_ite (fun _ => (k9_some h1)) (fun _ => (k9_zg (fun g2 => (k9_ite (fun _ => (k9_zb (k9_tr (k9_X3_commonOf _ _ _) h1) (fun r39 m39 h3 => (k9_ite (fun _ => (k9_some h3)) (fun _ => (k9_zb (k9_tr (k9_X3_isLent _ _ _ _) h3) (fun r54 m54 h4 => (k9_ite (fun _ => (k9_ite (fun _ => (k9_zg (fun g5 => (k9_zg (fun g6 => (k9_zg (fun g7 => (k9_ite (fun _ => (k9_tr (k9_X10_split_117 _ _ _ _ _) ((zwi9 _ _ _ _ _ rfl).trans h4))) (fun _ => (k9_zg (fun g8 => (k9_tr (k9_X10_split_117 _ _ _ _ _) ((zwi9 _ _ _ _ _ rfl).trans h4))))))))))))) (fun _ => (k9_some h4)))) (fun _ => (k9_some h4)))))))))) (fun _ => (k9_some h1)))))))))))
theorem k9_X10_join (F : Nat) (σ : zMem) (a1 : Int32) (a2 : Int32) : zk9 σ (f_X10_join F σ a1 a2) := by
  unfold f_X10_join
  exact (k9_zb (k9_tr (k9_X3_has _ _ _) rfl) (fun r5 m5 h1 => (k9_ite (fun _ => (k9_some h1)) (fun _ => (k9_zb (k9_tr (k9_X3_has _ _ _) h1) (fun r16 m16 h2 => (k9_ite (fun _ => (k9_some h2)) (fun _ => (k9_ite (fun _ => (k9_some h2)) (fun _ => (k9_zb (k9_tr (k9_X3_joinable _ _ _ _ _) h2) (fun r42 m42 h3 => (k9_ite (fun _ => (k9_some h3)) (fun _ => (k9_zg (fun g4 => (k9_zg (fun g5 => (k9_zg (fun g6 => (k9_zg (fun g7 => (k9_zg (fun g8 => (k9_some ((zwi9 _ _ _ _ _ rfl).trans ((zwi9 _ _ _ _ _ rfl).trans h3)))))))))))))))))))))))))))
theorem k9_X10_lend (F : Nat) (σ : zMem) (a1 : Int32) (a2 : Int32) (a3 : Int32) : zk9 σ (f_X10_lend F σ a1 a2 a3) := by
  unfold f_X10_lend
  exact (k9_zb (k9_tr (k9_X3_has _ _ _) rfl) (fun r5 m5 h1 => (k9_ite (fun _ => (k9_some h1)) (fun _ => (k9_zb (k9_tr (k9_X10_isHouse _ _ _) h1) (fun r13 m13 h2 => (k9_ite (fun _ => (k9_some h2)) (fun _ => (k9_ite (fun _ => (k9_some h2)) (fun _ => (k9_ite (fun _ => (k9_zb (k9_tr (k9_X3_isLent _ _ _ _) h2) (fun r48 m48 h3 => (k9_ite (fun _ => (k9_zg (fun g4 => (k9_ite (fun _ => (k9_some h3)) (fun _ => (k9_zg (fun g5 => (k9_ite (fun _ => (k9_some h3)) (fun _ => (k9_zg (fun g6 => (k9_zg (fun g7 => (k9_some ((zwi9 _ _ _ _ _ rfl).trans ((zwi9 _ _ _ _ _ rfl).trans h3)))))))))))))))) (fun _ => (k9_some h3)))))) (fun _ => (k9_some h2)))))))))))))
theorem k9_X10_leave (F : Nat) (σ : zMem) (a1 : Int32) (a2 : Int32) : zk9 σ (f_X10_leave F σ a1 a2) := by
  unfold f_X10_leave
  exact (k9_zb (k9_tr (k9_X3_has _ _ _) rfl) (fun r5 m5 h1 => (k9_ite (fun _ => (k9_some h1)) (fun _ => (k9_zb (k9_tr (k9_X10_isHouse _ _ _) h1) (fun r13 m13 h2 => (k9_ite (fun _ => (k9_some h2)) (fun _ => (k9_zg (fun g3 => (k9_ite (fun _ => (k9_some h2)) (fun _ => (k9_zg (fun g4 => (k9_zg (fun g5 => (k9_some ((zwi9 _ _ _ _ _ rfl).trans h2))))))))))))))))))
theorem k9_X10_rightOf (F : Nat) (σ : zMem) (a1 : Int32) (a2 : Int32) : zk9 σ (f_X10_rightOf F σ a1 a2) := by
  unfold f_X10_rightOf
  exact (k9_zb (k9_tr (k9_X3_has _ _ _) rfl) (fun r5 m5 h1 => (k9_ite (fun _ => (k9_some h1)) (fun _ => (k9_ite (fun _ => (k9_some h1)) (fun _ => (k9_ite (fun _ => (k9_zg (fun g2 => (k9_some h1)))) (fun _ => (k9_ite (fun _ => (k9_zg (fun g3 => (k9_some h1)))) (fun _ => (k9_ite (fun _ => (k9_zg (fun g4 => (k9_some h1)))) (fun _ => (k9_ite (fun _ => (k9_zb (k9_tr (k9_X3_holder _ _ _ _) h1) (fun r91 m91 h5 => (k9_some h5)))) (fun _ => (k9_ite (fun _ => (k9_zb (k9_tr (k9_X3_commonOf _ _ _) h1) (fun r100 m100 h6 => (k9_some h6)))) (fun _ => (k9_ite (fun _ => (k9_zb (k9_tr (k9_X3_isLent _ _ _ _) h1) (fun r113 m113 h7 => (k9_ite (fun _ => (k9_some h7)) (fun _ => (k9_zg (fun g8 => (k9_some h7)))))))) (fun _ => k9_none))))))))))))))))))
theorem k9_X10_parts (F : Nat) (σ : zMem) (a1 : Int32) (a2 : Int32) : zk9 σ (f_X10_parts F σ a1 a2) := by
  unfold f_X10_parts
  exact (k9_ite (fun _ => (k9_some rfl)) (fun _ => (k9_ite (fun _ => (k9_ite (fun _ => (k9_zb (k9_tr (k9_X3_whole _ _ _) rfl) (fun r21 m21 h1 => (k9_some h1)))) (fun _ => (k9_zb (k9_tr (k9_X10_isHouse _ _ _) rfl) (fun r27 m27 h2 => (k9_ite (fun _ => (k9_some h2)) (fun _ => (k9_zb (k9_tr (k9_X3_held _ _ _ _ _) h2) (fun r45 m45 h3 => (k9_some h3)))))))))) (fun _ => (k9_some rfl)))))
theorem k9_X10_areHouses (F : Nat) (σ : zMem) (a1 : Int32) : zk9 σ (f_X10_areHouses F σ a1) := by
  unfold f_X10_areHouses
  exact (k9_ite (fun _ => (k9_some rfl)) (fun _ => (k9_some rfl)))
theorem k9_X10_feed_33 (F : Nat) (rec33 : zMem → Int32 × Int32 → Option (Int32 × zMem)) (σ : zMem) (x : Int32 × Int32) (hrec33 : ∀ s y, zk9 s (rec33 s y)) : zk9 σ (f_X10_feed_33 F rec33 σ x) := by
  unfold f_X10_feed_33
  exact (k9_ite (fun _ => (k9_some rfl)) (fun _ => (k9_zb (k9_tr (k9_X9_append _ _ _) rfl) (fun r48 m48 h1 => (k9_tr (hrec33 _ _) h1)))))
theorem k9_X10_feed (F : Nat) (σ : zMem) (a1 : Int32) (a2 : Int32) : zk9 σ (f_X10_feed F σ a1 a2) := by
  unfold f_X10_feed
  exact (k9_ite (fun _ => (k9_some rfl)) (fun _ => (k9_ite (fun _ => (k9_ite (fun _ => (k9_tr (k9_it (fun r hr s y => k9_X10_feed_33 _ r s y hr) _ _ _) rfl)) (fun _ => (k9_some rfl)))) (fun _ => (k9_some rfl)))))
theorem k9_X10_passes (F : Nat) (σ : zMem) (a1 : Int32) (a2 : Int32) : zk9 σ (f_X10_passes F σ a1 a2) := by
  unfold f_X10_passes
  exact (k9_zb (k9_tr (k9_J6_bitCount_0f7a4 _ _ _) rfl) (fun r1 m1 h1 => (k9_zb (k9_tr (k9_J6_bitCount_0f7a4 _ _ _) h1) (fun r6 m6 h2 => (k9_ite (fun _ => (k9_some h2)) (fun _ => (k9_ite (fun _ => (k9_some h2)) (fun _ => (k9_ite (fun _ => (k9_some h2)) (fun _ => (k9_some h2)))))))))))
theorem k9_X10_vote (F : Nat) (σ : zMem) (a1 : Int32) (a2 : Int32) : zk9 σ (f_X10_vote F σ a1 a2) := by
  unfold f_X10_vote
  exact (k9_zb (k9_tr (k9_X10_areHouses _ _ _) rfl) (fun r2 m2 h1 => (k9_ite (fun _ => (k9_some h1)) (fun _ => (k9_zb (k9_tr (k9_X10_areHouses _ _ _) h1) (fun r10 m10 h2 => (k9_ite (fun _ => (k9_some h2)) (fun _ => (k9_ite (fun _ => (k9_zb (k9_tr (k9_X9_read _ _) h2) (fun r38 m38 h3 => (k9_ite (fun _ => (k9_zb (k9_tr (k9_X10_passes _ _ _ _) ((zwi9 _ _ _ _ _ rfl).trans h3)) (fun r62 m62 h4 => (k9_ite (fun _ => (k9_some h4)) (fun _ => (k9_zb (k9_tr (k9_X9_enter _ _ _) h4) (fun r79 m79 h5 => (k9_some h5)))))))) (fun _ => (k9_some ((zwi9 _ _ _ _ _ rfl).trans h3))))))) (fun _ => (k9_some h2)))))))))))
theorem k9_X10_voids_64 (F : Nat) (rec64 : zMem → Int32 × Int32 × Int32 → Option (Int32 × zMem)) (σ : zMem) (x : Int32 × Int32 × Int32) (hrec64 : ∀ s y, zk9 s (rec64 s y)) : zk9 σ (f_X10_voids_64 F rec64 σ x) := by
  unfold f_X10_voids_64
  exact (k9_ite (fun _ => (k9_some rfl)) (fun _ => (k9_ite (fun _ => (k9_some rfl)) (fun _ => (k9_zg (fun g1 => (k9_zg (fun g2 => (k9_ite (fun _ => (k9_tr (hrec64 _ _) rfl)) (fun _ => (k9_zg (fun g3 => (k9_zg (fun g4 => (k9_ite (fun _ => (k9_tr (hrec64 _ _) rfl)) (fun _ => (k9_tr (hrec64 _ _) rfl)))))))))))))))))
theorem k9_X10_voids (F : Nat) (σ : zMem) (a1 : Int32) : zk9 σ (f_X10_voids F σ a1) := by
  unfold f_X10_voids
  exact (k9_zb (k9_tr (k9_X9_has _ _ _) rfl) (fun r5 m5 h1 => (k9_ite (fun _ => (k9_some h1)) (fun _ => (k9_zg (fun g2 => (k9_ite (fun _ => (k9_zg (fun g3 => (k9_zg (fun g4 => (k9_zg (fun g5 => (k9_tr (k9_it (fun r hr s y => k9_X10_voids_64 _ r s y hr) _ _ _) ((zwi9 _ _ _ _ _ rfl).trans ((zwi9 _ _ _ _ _ rfl).trans h1)))))))))) (fun _ => (k9_some h1)))))))))
theorem k9_X10_canAsk (F : Nat) (σ : zMem) (a1 : Int32) (a2 : Int32) (a3 : Int32) (a4 : Int32) : zk9 σ (f_X10_canAsk F σ a1 a2 a3 a4) := by
  unfold f_X10_canAsk
  exact (k9_zb (k9_tr (k9_X10_isHouse _ _ _) rfl) (fun r2 m2 h1 => (k9_ite (fun _ => (k9_some h1)) (fun _ => (k9_ite (fun _ => (k9_some h1)) (fun _ => (k9_ite (fun _ => (k9_some h1)) (fun _ => (k9_ite (fun _ => (k9_some h1)) (fun _ => (k9_ite (fun _ => (k9_some h1)) (fun _ => (k9_some h1)))))))))))))
theorem k9_X10_value (F : Nat) (σ : zMem) (a1 : Int32) (a2 : Int32) (a3 : Int32) (a4 : Int32) : zk9 σ (f_X10_value F σ a1 a2 a3 a4) := by
  unfold f_X10_value
  exact (k9_zb (k9_tr (k9_X10_canAsk _ _ _ _ _ _) rfl) (fun r6 m6 h1 => (k9_ite (fun _ => (k9_some h1)) (fun _ => (k9_zg (fun g2 => (k9_zb (k9_tr (k9_X9_latest _ _ _ _ _ _) h1) (fun r33 m33 h3 => (k9_zb (k9_tr (k9_X9_worth _ _ _ _) h3) (fun r37 m37 h4 => (k9_some h4)))))))))))
theorem k9_X10_why (F : Nat) (σ : zMem) (a1 : Int32) (a2 : Int32) (a3 : Int32) (a4 : Int32) : zk9 σ (f_X10_why F σ a1 a2 a3 a4) := by
  unfold f_X10_why
  exact (k9_zb (k9_tr (k9_X10_canAsk _ _ _ _ _ _) rfl) (fun r6 m6 h1 => (k9_ite (fun _ => (k9_some h1)) (fun _ => (k9_zg (fun g2 => (k9_zb (k9_tr (k9_X9_latest _ _ _ _ _ _) h1) (fun r29 m29 h3 => (k9_some h3)))))))))
theorem k9_X10_weather (F : Nat) (σ : zMem) (a1 : Int32) (a2 : Int32) (a3 : Int32) : zk9 σ (f_X10_weather F σ a1 a2 a3) := by
  unfold f_X10_weather
  exact (k9_zb (k9_tr (k9_X5_has _ _ _ _) rfl) (fun r2 m2 h1 => (k9_ite (fun _ => (k9_some h1)) (fun _ => (k9_zb (k9_tr (k9_X5_fits _ _ _ _) h1) (fun r13 m13 h2 => (k9_ite (fun _ => (k9_some h2)) (fun _ => (k9_zb (k9_tr (k9_X5_tell _ _ _ _ _) h2) (fun r29 m29 h3 => (k9_some h3)))))))))))
theorem k9_X10_isSheet (F : Nat) (σ : zMem) (a0 : Int32) : zk9 σ (f_X10_isSheet F σ a0) := by
  unfold f_X10_isSheet
  exact (k9_ite (fun _ => (k9_some rfl)) (fun _ => (k9_ite (fun _ => (k9_some rfl)) (fun _ => (k9_some rfl)))))
theorem k9_X10_sky_104 (F : Nat) (rec104 : zMem → Int32 × Int32 × Int32 × Int32 × Nat × Int32 × Int32 → Option (Int32 × zMem)) (σ : zMem) (x : Int32 × Int32 × Int32 × Int32 × Nat × Int32 × Int32) (hrec104 : ∀ s y, zk9 s (rec104 s y)) : zk9 σ (f_X10_sky_104 F rec104 σ x) := by
  unfold f_X10_sky_104
  exact (k9_zg (fun g1 => (k9_ite (fun _ => (k9_some rfl)) (fun _ => (k9_zg (fun g2 => (k9_ite (fun _ => (k9_tr (hrec104 _ _) rfl)) (fun _ => (k9_zg (fun g3 => (k9_zb (k9_tr (k9_X5_fits _ _ _ _) rfl) (fun r140 m140 h4 => (k9_ite (fun _ => (k9_tr (hrec104 _ _) h4)) (fun _ => (k9_zg (fun g5 => (k9_zb (k9_tr (k9_X5_tell _ _ _ _ _) h4) (fun r162 m162 h6 => (k9_tr (hrec104 _ _) h6)))))))))))))))))))
theorem k9_X10_sky_71 (F : Nat) (σ : zMem) (l1 : Int32) (l2 : Int32) (l4 : Int32) (l5 : Int32) (l6 : Nat) : zk9 σ (f_X10_sky_71 F σ l1 l2 l4 l5 l6) := by
  unfold f_X10_sky_71
  exact (k9_zg (fun g1 => (k9_ite (fun _ => (k9_some rfl)) (fun _ => (k9_zb (k9_tr (k9_X4_holds _ _ _ _ _) rfl) (fun r89 m89 h2 => (k9_ite (fun _ => (k9_some h2)) (fun _ => (k9_tr (k9_it (fun r hr s y => k9_X10_sky_104 _ r s y hr) _ _ _) h2)))))))))
theorem k9_X10_sky (F : Nat) (σ : zMem) (a1 : Int32) (a2 : Int32) (a3 : Int32) (a4 : Int32) (a5 : Int32) : zk9 σ (f_X10_sky F σ a1 a2 a3 a4 a5) := by
  unfold f_X10_sky
  exact (k9_zb (k9_tr (k9_X5_has _ _ _ _) rfl) (fun r2 m2 h1 => (k9_ite (fun _ => (k9_some h1)) (fun _ => (k9_zb (k9_tr (k9_X10_isSheet _ _ _) h1) (fun r9 m9 h2 => (k9_ite (fun _ => (k9_some h2)) (fun _ => (k9_ite (fun _ => (k9_some h2)) (fun _ => (k9_ite (fun _ => (k9_ite (fun _ => (k9_some h2)) (fun _ => (k9_zg (fun g3 => (k9_ite (fun _ => (k9_tr (k9_X10_sky_71 _ _ _ _ _ _ _) h2)) (fun _ => (k9_ite (fun _ => (k9_tr (k9_X10_sky_71 _ _ _ _ _ _ _) h2)) (fun _ => (k9_some h2)))))))))) (fun _ => (k9_some h2)))))))))))))
theorem k9_X10_skyOf (F : Nat) (σ : zMem) (a1 : Int32) (a2 : Int32) : zk9 σ (f_X10_skyOf F σ a1 a2) := by
  unfold f_X10_skyOf
  exact (k9_zb (k9_tr (k9_X5_has _ _ _ _) rfl) (fun r2 m2 h1 => (k9_ite (fun _ => (k9_some h1)) (fun _ => (k9_zb (k9_tr (k9_X5_on _ _ _ _) h1) (fun r18 m18 h2 => (k9_some h2)))))))
theorem k9_X10_alp (F : Nat) (σ : zMem) (a1 : Int32) (a2 : Int32) : zk9 σ (f_X10_alp F σ a1 a2) := by
  unfold f_X10_alp
  exact (k9_ite (fun _ => (k9_some rfl)) (fun _ => (k9_ite (fun _ => (k9_some rfl)) (fun _ => (k9_ite (fun _ => (k9_some rfl)) (fun _ => (k9_ite (fun _ => (k9_ite (fun _ => (k9_zb (k9_tr (k9_X0_enter _ _ _ _) rfl) (fun r43 m43 h1 => (k9_some h1)))) (fun _ => (k9_some rfl)))) (fun _ => (k9_some rfl)))))))))
theorem k9_X10_cowsUpOn_5 (F : Nat) (rec5 : zMem → Int32 × Int32 × Int32 × Int32 → Option (Int32 × zMem)) (σ : zMem) (x : Int32 × Int32 × Int32 × Int32) (hrec5 : ∀ s y, zk9 s (rec5 s y)) : zk9 σ (f_X10_cowsUpOn_5 F rec5 σ x) := by
  unfold f_X10_cowsUpOn_5
  exact (k9_ite (fun _ => (k9_some rfl)) (fun _ => (k9_ite (fun _ => (k9_zg (fun g1 => (k9_zg (fun g2 => (k9_tr (hrec5 _ _) rfl)))))) (fun _ => (k9_tr (hrec5 _ _) rfl)))))
theorem k9_X10_cowsUpOn (F : Nat) (σ : zMem) (a1 : Int32) (a2 : Int32) : zk9 σ (f_X10_cowsUpOn F σ a1 a2) := by
  unfold f_X10_cowsUpOn
  exact (k9_tr (k9_it (fun r hr s y => k9_X10_cowsUpOn_5 _ r s y hr) _ _ _) rfl)
theorem k9_X10_alpOf (F : Nat) (σ : zMem) (a1 : Int32) (a2 : Int32) : zk9 σ (f_X10_alpOf F σ a1 a2) := by
  unfold f_X10_alpOf
  exact (k9_zb (k9_tr (k9_X0_has _ _ _) rfl) (fun r5 m5 h1 => (k9_ite (fun _ => (k9_some h1)) (fun _ => (k9_ite (fun _ => (k9_ite (fun _ => (k9_some h1)) (fun _ => (k9_zb (k9_tr (k9_X10_isHouse _ _ _) h1) (fun r104 m104 h2 => (k9_ite (fun _ => (k9_some h2)) (fun _ => (k9_zg (fun g3 => (k9_zg (fun g4 => (k9_some h2)))))))))))) (fun _ => (k9_ite (fun _ => (k9_zg (fun g5 => (k9_some h1)))) (fun _ => (k9_ite (fun _ => (k9_zg (fun g6 => (k9_some h1)))) (fun _ => (k9_ite (fun _ => (k9_zg (fun g7 => (k9_some h1)))) (fun _ => (k9_ite (fun _ => (k9_zg (fun g8 => (k9_some h1)))) (fun _ => (k9_ite (fun _ => (k9_zb (k9_tr (k9_X10_cowsUpOn _ _ _ _) h1) (fun r91 m91 h9 => (k9_some h9)))) (fun _ => k9_none))))))))))))))))
theorem k9_X10_worthNow (F : Nat) (σ : zMem) (a1 : Nat) (a2 : Int32) : zk9 σ (f_X10_worthNow F σ a1 a2) := by
  unfold f_X10_worthNow
  exact (k9_zg (fun g1 => (k9_zb (k9_tr (k9_X9_latest _ _ _ _ _ _) rfl) (fun r18 m18 h2 => (k9_zb (k9_tr (k9_X9_worth _ _ _ _) h2) (fun r22 m22 h3 => (k9_some h3)))))))
theorem k9_X10_inSeason (F : Nat) (σ : zMem) (a1 : Nat) : zk9 σ (f_X10_inSeason F σ a1) := by
  unfold f_X10_inSeason
  exact (k9_zg (fun g1 => (k9_zg (fun g2 => (k9_zb (k9_tr (k9_X10_worthNow _ _ _ _) rfl) (fun r13 m13 h3 => (k9_ite (fun _ => (k9_some h3)) (fun _ => (k9_zb (k9_tr (k9_X10_worthNow _ _ _ _) h3) (fun r23 m23 h4 => (k9_ite (fun _ => (k9_some h4)) (fun _ => (k9_some h4)))))))))))))
theorem k9_X10_whyNot (F : Nat) (σ : zMem) (a1 : Int32) (a2 : Int32) : zk9 σ (f_X10_whyNot F σ a1 a2) := by
  unfold f_X10_whyNot
  exact (k9_zg (fun g1 => (k9_zb (k9_tr (k9_X2_atHome _ _ _) rfl) (fun r9 m9 h2 => (k9_ite (fun _ => (k9_zb (k9_tr (k9_X10_inSeason _ _ _) h2) (fun r19 m19 h3 => (k9_ite (fun _ => (k9_some h3)) (fun _ => (k9_zb (k9_tr (k9_X2_allUp _ _ _) h3) (fun r28 m28 h4 => (k9_zb (k9_tr (k9_X10_worthNow _ _ _ _) h4) (fun r40 m40 h5 => (k9_zb (k9_tr (k9_X3_held _ _ _ _ _) h5) (fun r54 m54 h6 => (k9_ite (fun _ => (k9_zb (k9_tr (k9_X10_worthNow _ _ _ _) h6) (fun r65 m65 h7 => (k9_ite (fun _ => (k9_some h7)) (fun _ => (k9_zg (fun g8 => (k9_ite (fun _ => (k9_some h7)) (fun _ => (k9_some h7)))))))))) (fun _ => (k9_some h6)))))))))))))) (fun _ => (k9_some h2)))))))
theorem k9_X10_writeDrive (F : Nat) (σ : zMem) (a1 : Int32) (a2 : Int32) (a3 : Int32) : zk9 σ (f_X10_writeDrive F σ a1 a2 a3) := by
  unfold f_X10_writeDrive
  exact (k9_zg (fun g1 => (k9_zg (fun g2 => (k9_zg (fun g3 => (k9_zg (fun g4 => (k9_zg (fun g5 => (k9_zg (fun g6 => (k9_zg (fun g7 => (k9_zg (fun g8 => (k9_zg (fun g9 => (k9_zg (fun g10 => (k9_zb (k9_tr (k9_X9_latest _ _ _ _ _ _) ((zwi9 _ _ _ _ _ rfl).trans ((zwi9 _ _ _ _ _ rfl).trans ((zwi9 _ _ _ _ _ rfl).trans ((zwi9 _ _ _ _ _ rfl).trans rfl))))) (fun r80 m80 h11 => (k9_zg (fun g12 => (k9_zg (fun g13 => (k9_zg (fun g14 => (k9_zb (k9_tr (k9_X9_latest _ _ _ _ _ _) ((zwi9 _ _ _ _ _ rfl).trans h11)) (fun r113 m113 h15 => (k9_zg (fun g16 => (k9_some ((zwi9 _ _ _ _ _ rfl).trans h15))))))))))))))))))))))))))))))))))
theorem k9_X10_drive_71 (F : Nat) (σ : zMem) (l1 : Int32) (l2 : Int32) (l3 : Int32) : zk9 σ (f_X10_drive_71 F σ l1 l2 l3) := by
  unfold f_X10_drive_71
  exact (k9_zg (fun g1 => (k9_zg (fun g2 => (k9_zg (fun g3 => (k9_zg (fun g4 => (k9_zg (fun g5 => (k9_some ((zwi9 _ _ _ _ _ rfl).trans ((zwi9 _ _ _ _ _ rfl).trans rfl)))))))))))))
theorem k9_X10_drive (F : Nat) (σ : zMem) (a1 : Int32) (a2 : Int32) (a3 : Int32) : zk9 σ (f_X10_drive F σ a1 a2 a3) := by
  unfold f_X10_drive
  exact (k9_zb (k9_tr (k9_X10_isHouse _ _ _) rfl) (fun r2 m2 h1 => (k9_ite (fun _ => (k9_some h1)) (fun _ => (k9_zb (k9_tr (k9_X0_has _ _ _) h1) (fun r13 m13 h2 => (k9_ite (fun _ => (k9_some h2)) (fun _ => (k9_ite (fun _ => (k9_some h2)) (fun _ => (k9_ite (fun _ => (k9_zb (k9_tr (k9_X10_whyNot _ _ _ _) h2) (fun r38 m38 h3 => (k9_ite (fun _ => (k9_ite (fun _ => (k9_tr (k9_X10_drive_71 _ _ _ _ _) h3)) (fun _ => (k9_zb (k9_tr (k9_X10_writeDrive _ _ _ _ _) h3) (fun r68 m68 h4 => (k9_tr (k9_X10_drive_71 _ _ _ _ _) h4)))))) (fun _ => (k9_some h3)))))) (fun _ => (k9_some h2)))))))))))))
theorem k9_X10_home (F : Nat) (σ : zMem) (a1 : Int32) (a2 : Int32) (a3 : Int32) : zk9 σ (f_X10_home F σ a1 a2 a3) := by
  unfold f_X10_home
  exact (k9_zb (k9_tr (k9_X10_isHouse _ _ _) rfl) (fun r2 m2 h1 => (k9_ite (fun _ => (k9_some h1)) (fun _ => (k9_zb (k9_tr (k9_X0_has _ _ _) h1) (fun r13 m13 h2 => (k9_ite (fun _ => (k9_some h2)) (fun _ => (k9_zg (fun g3 => (k9_ite (fun _ => (k9_some h2)) (fun _ => (k9_ite (fun _ => (k9_some h2)) (fun _ => (k9_zg (fun g4 => (k9_ite (fun _ => (k9_zg (fun g5 => (k9_zg (fun g6 => (k9_zg (fun g7 => (k9_some ((zwi9 _ _ _ _ _ rfl).trans h2))))))))) (fun _ => (k9_some h2)))))))))))))))))))
theorem k9_X10_book (F : Nat) (σ : zMem) (a1 : Int32) (a2 : Int32) : zk9 σ (f_X10_book F σ a1 a2) := by
  unfold f_X10_book
  exact (k9_ite (fun _ => (k9_some rfl)) (fun _ => (k9_ite (fun _ => (k9_some rfl)) (fun _ => (k9_ite (fun _ => (k9_some rfl)) (fun _ => (k9_ite (fun _ => (k9_some rfl)) (fun _ => (k9_ite (fun _ => (k9_zg (fun g1 => (k9_zg (fun g2 => (k9_some rfl)))))) (fun _ => (k9_some rfl)))))))))))
theorem k9_X10_graze_2 (F : Nat) (rec2 : zMem → Int32 × Int32 → Option (Unit × zMem)) (σ : zMem) (x : Int32 × Int32) (hrec2 : ∀ s y, zk9 s (rec2 s y)) : zk9 σ (f_X10_graze_2 F rec2 σ x) := by
  unfold f_X10_graze_2
  exact (k9_ite (fun _ => (k9_some rfl)) (fun _ => (k9_zg (fun g1 => (k9_zg (fun g2 => (k9_zb (k9_tr (k9_X0_feedCows _ _ _ _) rfl) (fun r28 m28 h3 => (k9_zg (fun g4 => (k9_tr (hrec2 _ _) ((zwi9 _ _ _ _ _ rfl).trans ((zwi9 _ _ _ _ _ rfl).trans h3)))))))))))))
theorem k9_X10_graze (F : Nat) (σ : zMem) (a1 : Int32) : zk9 σ (f_X10_graze F σ a1) := by
  unfold f_X10_graze
  exact (k9_tr (k9_it (fun r hr s y => k9_X10_graze_2 _ r s y hr) _ _ _) rfl)
theorem k9_X10_liveDay_134 (F : Nat) (rec98 : zMem → Int32 × Int32 × Int32 × Int32 → Option (Unit × zMem)) (σ : zMem) (l1 : Int32) (l2 : Int32) (l3 : Int32) (l4 : Int32) (l5 : Nat) (hrec98 : ∀ s y, zk9 s (rec98 s y)) : zk9 σ (f_X10_liveDay_134 F rec98 σ l1 l2 l3 l4 l5) := by
  unfold f_X10_liveDay_134
  exact (k9_zg (fun g1 => (k9_zb (k9_tr (k9_X2_allUp _ _ _) rfl) (fun r136 m136 h2 => (k9_ite (fun _ => (k9_tr (hrec98 _ _) h2)) (fun _ => (k9_zb (k9_tr (k9_X10_inSeason _ _ _) h2) (fun r149 m149 h3 => (k9_ite (fun _ => (k9_zb (k9_tr (k9_X10_worthNow _ _ _ _) h3) (fun r164 m164 h4 => (k9_zb (k9_tr (k9_X2_oweMore _ _ _ _) h4) (fun r169 m169 h5 => (k9_tr (hrec98 _ _) h5)))))) (fun _ => (k9_tr (hrec98 _ _) h3)))))))))))
theorem k9_X10_liveDay_129 (F : Nat) (rec98 : zMem → Int32 × Int32 × Int32 × Int32 → Option (Unit × zMem)) (σ : zMem) (l1 : Int32) (l2 : Int32) (l3 : Int32) (l4 : Int32) (l5 : Nat) (hrec98 : ∀ s y, zk9 s (rec98 s y)) : zk9 σ (f_X10_liveDay_129 F rec98 σ l1 l2 l3 l4 l5) := by
  unfold f_X10_liveDay_129
  exact (k9_zg (fun g1 => (k9_zb (k9_tr (k9_X2_winterAtHome _ _ _) rfl) (fun r131 m131 h2 => (k9_tr (k9_X10_liveDay_134 _ rec98 _ _ _ _ _ _ hrec98) h2)))))
theorem k9_X10_liveDay_199 (F : Nat) (σ : zMem) : zk9 σ (f_X10_liveDay_199 F σ) := by
  unfold f_X10_liveDay_199
  exact (k9_zg (fun g1 => (k9_some ((zwi9 _ _ _ _ _ rfl).trans ((zwi9 _ _ _ _ _ rfl).trans rfl)))))
theorem k9_X10_liveDay_98 (F : Nat) (rec98 : zMem → Int32 × Int32 × Int32 × Int32 → Option (Unit × zMem)) (σ : zMem) (x : Int32 × Int32 × Int32 × Int32) (hrec98 : ∀ s y, zk9 s (rec98 s y)) : zk9 σ (f_X10_liveDay_98 F rec98 σ x) := by
  unfold f_X10_liveDay_98
  exact (k9_ite (fun _ => (k9_zb (k9_tr (k9_X7_live _ _ _ _) rfl) (fun r185 m185 h1 => (k9_ite (fun _ => (k9_zb (k9_tr (k9_X7_ageWoods _ _) h1) (fun r196 m196 h2 => (k9_tr (k9_X10_liveDay_199 _ _) h2)))) (fun _ => (k9_tr (k9_X10_liveDay_199 _ _) h1)))))) (fun _ => (k9_zg (fun g3 => (k9_ite (fun _ => (k9_tr (k9_X10_liveDay_129 _ rec98 _ _ _ _ _ _ hrec98) rfl)) (fun _ => (k9_ite (fun _ => (k9_tr (k9_X10_liveDay_134 _ rec98 _ _ _ _ _ _ hrec98) rfl)) (fun _ => (k9_tr (k9_X10_liveDay_129 _ rec98 _ _ _ _ _ _ hrec98) rfl)))))))))
theorem k9_X10_liveDay_54 (F : Nat) (rec54 : zMem → Int32 × Int32 × Int32 → Option (Unit × zMem)) (σ : zMem) (x : Int32 × Int32 × Int32) (hrec54 : ∀ s y, zk9 s (rec54 s y)) : zk9 σ (f_X10_liveDay_54 F rec54 σ x) := by
  unfold f_X10_liveDay_54
  exact (k9_ite (fun _ => (k9_zg (fun g1 => (k9_tr (k9_it (fun r hr s y => k9_X10_liveDay_98 _ r s y hr) _ _ _) rfl)))) (fun _ => (k9_zb (k9_tr (k9_X0_grow _ _ _ _ _) rfl) (fun r72 m72 h2 => (k9_zb (k9_tr (k9_X10_graze _ _ _) h2) (fun r77 m77 h3 => (k9_tr (hrec54 _ _) h3)))))))
theorem k9_X10_liveDay_28 (F : Nat) (rec28 : zMem → Int32 × Int32 × Int32 → Option (Unit × zMem)) (σ : zMem) (x : Int32 × Int32 × Int32) (hrec28 : ∀ s y, zk9 s (rec28 s y)) : zk9 σ (f_X10_liveDay_28 F rec28 σ x) := by
  unfold f_X10_liveDay_28
  exact (k9_ite (fun _ => (k9_tr (k9_it (fun r hr s y => k9_X10_liveDay_54 _ r s y hr) _ _ _) rfl)) (fun _ => (k9_zg (fun g1 => (k9_tr (hrec28 _ _) ((zwi9 _ _ _ _ _ rfl).trans rfl))))))
theorem k9_X10_liveDay (F : Nat) (σ : zMem) : zk9 σ (f_X10_liveDay F σ) := by
  unfold f_X10_liveDay
  exact (k9_zb (k9_tr (k9_X5_on _ _ _ _) rfl) (fun r9 m9 h1 => (k9_zb (k9_tr (k9_X5_on _ _ _ _) h1) (fun r22 m22 h2 => (k9_tr (k9_it (fun r hr s y => k9_X10_liveDay_28 _ r s y hr) _ _ _) h2)))))
theorem k9_X10_days_28 (F : Nat) (rec28 : zMem → Int32 × Int32 → Option (Int32 × zMem)) (σ : zMem) (x : Int32 × Int32) (hrec28 : ∀ s y, zk9 s (rec28 s y)) : zk9 σ (f_X10_days_28 F rec28 σ x) := by
  unfold f_X10_days_28
  exact (k9_ite (fun _ => (k9_some rfl)) (fun _ => (k9_zb (k9_tr (k9_X10_liveDay _ _) rfl) (fun r34 m34 h1 => (k9_tr (hrec28 _ _) h1)))))
theorem k9_X10_days (F : Nat) (σ : zMem) (a1 : Int32) : zk9 σ (f_X10_days F σ a1) := by
  unfold f_X10_days
  exact (k9_ite (fun _ => (k9_some rfl)) (fun _ => (k9_ite (fun _ => (k9_some rfl)) (fun _ => (k9_ite (fun _ => (k9_tr (k9_it (fun r hr s y => k9_X10_days_28 _ r s y hr) _ _ _) rfl)) (fun _ => (k9_some rfl)))))))
theorem k9_X10_slope (F : Nat) (σ : zMem) (a1 : Int32) : zk9 σ (f_X10_slope F σ a1) := by
  unfold f_X10_slope
  exact (k9_ite (fun _ => (k9_some rfl)) (fun _ => (k9_ite (fun _ => (k9_ite (fun _ => (k9_zg (fun g1 => (k9_some ((zwi9 _ _ _ _ _ rfl).trans ((zwi9 _ _ _ _ _ rfl).trans rfl)))))) (fun _ => (k9_some rfl)))) (fun _ => (k9_some rfl)))))
theorem k9_X10_slopeOf (F : Nat) (σ : zMem) (a1 : Int32) (a2 : Int32) : zk9 σ (f_X10_slopeOf F σ a1 a2) := by
  unfold f_X10_slopeOf
  exact (k9_zb (k9_tr (k9_X7_has _ _ _) rfl) (fun r5 m5 h1 => (k9_ite (fun _ => (k9_some h1)) (fun _ => (k9_zg (fun g2 => (k9_ite (fun _ => (k9_ite (fun _ => (k9_some h1)) (fun _ => (k9_ite (fun _ => (k9_some h1)) (fun _ => (k9_zb (k9_tr (k9_X6_layerOf _ _ _ _) h1) (fun r142 m142 h3 => (k9_some h3)))))))) (fun _ => (k9_ite (fun _ => (k9_some h1)) (fun _ => (k9_ite (fun _ => (k9_ite (fun _ => (k9_some h1)) (fun _ => (k9_some h1)))) (fun _ => (k9_ite (fun _ => (k9_some h1)) (fun _ => (k9_ite (fun _ => (k9_zb (k9_tr (k9_X6_lyingFrom _ _ _ _) h1) (fun r93 m93 h4 => (k9_some h4)))) (fun _ => (k9_ite (fun _ => (k9_zb (k9_tr (k9_X6_risk _ _ _ _) h1) (fun r102 m102 h5 => (k9_some h5)))) (fun _ => (k9_ite (fun _ => (k9_zb (k9_tr (k9_X6_bears _ _ _ _) h1) (fun r111 m111 h6 => (k9_some h6)))) (fun _ => (k9_ite (fun _ => (k9_some h1)) (fun _ => k9_none))))))))))))))))))))))
theorem k9_X10_works (F : Nat) (σ : zMem) (a1 : Int32) (a2 : Int32) : zk9 σ (f_X10_works F σ a1 a2) := by
  unfold f_X10_works
  exact (k9_zb (k9_tr (k9_X7_has _ _ _) rfl) (fun r5 m5 h1 => (k9_ite (fun _ => (k9_some h1)) (fun _ => (k9_zg (fun g2 => (k9_ite (fun _ => (k9_some h1)) (fun _ => (k9_zg (fun g3 => (k9_zg (fun g4 => (k9_some ((zwi9 _ _ _ _ _ rfl).trans h1))))))))))))))
theorem k9_X10_shut (F : Nat) (σ : zMem) (a1 : Int32) : zk9 σ (f_X10_shut F σ a1) := by
  unfold f_X10_shut
  exact (k9_ite (fun _ => (k9_some rfl)) (fun _ => (k9_zg (fun g1 => (k9_some ((zwi9 _ _ _ _ _ rfl).trans rfl))))))
theorem k9_X10_measure_19 (F : Nat) (rec19 : zMem → Int32 × Int32 → Option (Int32 × zMem)) (σ : zMem) (x : Int32 × Int32) (hrec19 : ∀ s y, zk9 s (rec19 s y)) : zk9 σ (f_X10_measure_19 F rec19 σ x) := by
  unfold f_X10_measure_19
  exact (k9_ite (fun _ => (k9_some rfl)) (fun _ => (k9_zg (fun g1 => (k9_zg (fun g2 => (k9_zg (fun g3 => (k9_tr (hrec19 _ _) ((zwi9 _ _ _ _ _ rfl).trans rfl))))))))))
theorem k9_X10_measure (F : Nat) (σ : zMem) : zk9 σ (f_X10_measure F σ) := by
  unfold f_X10_measure
  exact (k9_ite (fun _ => (k9_some rfl)) (fun _ => (k9_zg (fun g1 => (k9_tr (k9_it (fun r hr s y => k9_X10_measure_19 _ r s y hr) _ _ _) ((zwi9 _ _ _ _ _ rfl).trans rfl))))))
theorem k9_X10_withMostRest_4 (F : Nat) (rec4 : zMem → Int32 × Int32 → Option (Int32 × zMem)) (σ : zMem) (x : Int32 × Int32) (hrec4 : ∀ s y, zk9 s (rec4 s y)) : zk9 σ (f_X10_withMostRest_4 F rec4 σ x) := by
  unfold f_X10_withMostRest_4
  exact (k9_ite (fun _ => (k9_some rfl)) (fun _ => (k9_zg (fun g1 => (k9_zg (fun g2 => (k9_ite (fun _ => (k9_tr (hrec4 _ _) rfl)) (fun _ => (k9_tr (hrec4 _ _) rfl)))))))))
theorem k9_X10_withMostRest (F : Nat) (σ : zMem) : zk9 σ (f_X10_withMostRest F σ) := by
  unfold f_X10_withMostRest
  exact (k9_tr (k9_it (fun r hr s y => k9_X10_withMostRest_4 _ r s y hr) _ _ _) rfl)
theorem k9_X10_withLeastRest_4 (F : Nat) (rec4 : zMem → Int32 × Int32 → Option (Int32 × zMem)) (σ : zMem) (x : Int32 × Int32) (hrec4 : ∀ s y, zk9 s (rec4 s y)) : zk9 σ (f_X10_withLeastRest_4 F rec4 σ x) := by
  unfold f_X10_withLeastRest_4
  exact (k9_ite (fun _ => (k9_some rfl)) (fun _ => (k9_zg (fun g1 => (k9_ite (fun _ => (k9_tr (hrec4 _ _) rfl)) (fun _ => (k9_ite (fun _ => (k9_tr (hrec4 _ _) rfl)) (fun _ => (k9_zg (fun g2 => (k9_zg (fun g3 => (k9_ite (fun _ => (k9_tr (hrec4 _ _) rfl)) (fun _ => (k9_tr (hrec4 _ _) rfl)))))))))))))))
theorem k9_X10_withLeastRest (F : Nat) (σ : zMem) : zk9 σ (f_X10_withLeastRest F σ) := by
  unfold f_X10_withLeastRest
  exact (k9_tr (k9_it (fun r hr s y => k9_X10_withLeastRest_4 _ r s y hr) _ _ _) rfl)
theorem k9_X10_cheese_153 (F : Nat) (rec153 : zMem → Int32 × Int32 → Option (Int32 × zMem)) (σ : zMem) (x : Int32 × Int32) (hrec153 : ∀ s y, zk9 s (rec153 s y)) : zk9 σ (f_X10_cheese_153 F rec153 σ x) := by
  unfold f_X10_cheese_153
  exact (k9_ite (fun _ => (k9_some rfl)) (fun _ => (k9_zg (fun g1 => (k9_tr (hrec153 _ _) ((zwi9 _ _ _ _ _ rfl).trans rfl))))))
theorem k9_X10_cheese_116 (F : Nat) (rec116 : zMem → Int32 × Int32 → Option (Int32 × zMem)) (σ : zMem) (x : Int32 × Int32) (hrec116 : ∀ s y, zk9 s (rec116 s y)) : zk9 σ (f_X10_cheese_116 F rec116 σ x) := by
  unfold f_X10_cheese_116
  exact (k9_ite (fun _ => (k9_tr (k9_it (fun r hr s y => k9_X10_cheese_153 _ r s y hr) _ _ _) rfl)) (fun _ => (k9_zb (k9_tr (k9_X10_withLeastRest _ _) rfl) (fun r123 m123 h1 => (k9_ite (fun _ => (k9_tr (hrec116 _ _) h1)) (fun _ => (k9_zg (fun g2 => (k9_zb (k9_tr (k9_X2_takeWheels _ _ _ _) h1) (fun r141 m141 h3 => (k9_tr (hrec116 _ _) h3)))))))))))
theorem k9_X10_cheese_88 (F : Nat) (rec88 : zMem → Int32 × Int32 × Int32 → Option (Int32 × zMem)) (σ : zMem) (x : Int32 × Int32 × Int32) (hrec88 : ∀ s y, zk9 s (rec88 s y)) : zk9 σ (f_X10_cheese_88 F rec88 σ x) := by
  unfold f_X10_cheese_88
  exact (k9_ite (fun _ => (k9_tr (k9_it (fun r hr s y => k9_X10_cheese_116 _ r s y hr) _ _ _) rfl)) (fun _ => (k9_zb (k9_tr (k9_X10_withMostRest _ _) rfl) (fun r99 m99 h1 => (k9_zg (fun g2 => (k9_zb (k9_tr (k9_X2_takeWheels _ _ _ _) h1) (fun r104 m104 h3 => (k9_tr (hrec88 _ _) h3)))))))))
theorem k9_X10_cheese_55 (F : Nat) (rec55 : zMem → Int32 × Int32 × Int32 × Int32 → Option (Int32 × zMem)) (σ : zMem) (x : Int32 × Int32 × Int32 × Int32) (hrec55 : ∀ s y, zk9 s (rec55 s y)) : zk9 σ (f_X10_cheese_55 F rec55 σ x) := by
  unfold f_X10_cheese_55
  exact (k9_ite (fun _ => (k9_tr (k9_it (fun r hr s y => k9_X10_cheese_88 _ r s y hr) _ _ _) rfl)) (fun _ => (k9_zg (fun g1 => (k9_zb (k9_tr (k9_X2_partWheels _ _ _ _ _) rfl) (fun r74 m74 h2 => (k9_tr (hrec55 _ _) h2)))))))
theorem k9_X10_cheese_18 (F : Nat) (rec18 : zMem → Int32 × Int32 × Int32 → Option (Int32 × zMem)) (σ : zMem) (x : Int32 × Int32 × Int32) (hrec18 : ∀ s y, zk9 s (rec18 s y)) : zk9 σ (f_X10_cheese_18 F rec18 σ x) := by
  unfold f_X10_cheese_18
  exact (k9_ite (fun _ => (k9_ite (fun _ => (k9_tr (k9_it (fun r hr s y => k9_X10_cheese_55 _ r s y hr) _ _ _) rfl)) (fun _ => (k9_some rfl)))) (fun _ => (k9_zg (fun g1 => (k9_tr (hrec18 _ _) rfl)))))
theorem k9_X10_cheese (F : Nat) (σ : zMem) (a1 : Int32) : zk9 σ (f_X10_cheese F σ a1) := by
  unfold f_X10_cheese
  exact (k9_ite (fun _ => (k9_some rfl)) (fun _ => (k9_ite (fun _ => (k9_tr (k9_it (fun r hr s y => k9_X10_cheese_18 _ r s y hr) _ _ _) rfl)) (fun _ => (k9_some rfl)))))
theorem k9_X10_rest (F : Nat) (σ : zMem) (a1 : Int32) : zk9 σ (f_X10_rest F σ a1) := by
  unfold f_X10_rest
  exact (k9_zb (k9_tr (k9_X10_isHouse _ _ _) rfl) (fun r2 m2 h1 => (k9_ite (fun _ => (k9_some h1)) (fun _ => (k9_zg (fun g2 => (k9_some h1)))))))
theorem k9_X10_handOutLogs_5 (F : Nat) (rec5 : zMem → Int32 × Int32 × Int32 → Option (Int32 × zMem)) (σ : zMem) (x : Int32 × Int32 × Int32) (hrec5 : ∀ s y, zk9 s (rec5 s y)) : zk9 σ (f_X10_handOutLogs_5 F rec5 σ x) := by
  unfold f_X10_handOutLogs_5
  exact (k9_ite (fun _ => (k9_some rfl)) (fun _ => (k9_zg (fun g1 => (k9_zg (fun g2 => (k9_zb (k9_tr (k9_X10_worthNow _ _ _ _) rfl) (fun r36 m36 h3 => (k9_zg (fun g4 => (k9_tr (hrec5 _ _) ((zwi9 _ _ _ _ _ rfl).trans h3))))))))))))
theorem k9_X10_handOutLogs (F : Nat) (σ : zMem) (a1 : Int32) (a2 : Int32) : zk9 σ (f_X10_handOutLogs F σ a1 a2) := by
  unfold f_X10_handOutLogs
  exact (k9_tr (k9_it (fun r hr s y => k9_X10_handOutLogs_5 _ r s y hr) _ _ _) rfl)
theorem k9_X10_sellLogs_4 (F : Nat) (rec4 : zMem → Int32 × Int32 → Option (Unit × zMem)) (σ : zMem) (x : Int32 × Int32) (hrec4 : ∀ s y, zk9 s (rec4 s y)) : zk9 σ (f_X10_sellLogs_4 F rec4 σ x) := by
  unfold f_X10_sellLogs_4
  exact (k9_ite (fun _ => (k9_some rfl)) (fun _ => (k9_zg (fun g1 => (k9_zg (fun g2 => (k9_tr (hrec4 _ _) ((zwi9 _ _ _ _ _ rfl).trans rfl))))))))
theorem k9_X10_sellLogs (F : Nat) (σ : zMem) (a1 : Int32) : zk9 σ (f_X10_sellLogs F σ a1) := by
  unfold f_X10_sellLogs
  exact (k9_tr (k9_it (fun r hr s y => k9_X10_sellLogs_4 _ r s y hr) _ _ _) rfl)
theorem k9_X10_fell (F : Nat) (σ : zMem) (a1 : Int32) (a2 : Int32) : zk9 σ (f_X10_fell F σ a1 a2) := by
  unfold f_X10_fell
  exact (k9_zb (k9_tr (k9_X7_has _ _ _) rfl) (fun r5 m5 h1 => (k9_ite (fun _ => (k9_some h1)) (fun _ => (k9_zb (k9_tr (k9_X10_isHouse _ _ _) h1) (fun r13 m13 h2 => (k9_ite (fun _ => (k9_some h2)) (fun _ => (k9_zg (fun g3 => (k9_zb (k9_tr (k9_X6_risk _ _ _ _) h2) (fun r33 m33 h4 => (k9_ite (fun _ => (k9_zg (fun g5 => (k9_zb (k9_tr (k9_X10_handOutLogs _ _ _ _) ((zwi9 _ _ _ _ _ rfl).trans ((zwi9 _ _ _ _ _ rfl).trans h4))) (fun r76 m76 h6 => (k9_zb (k9_tr (k9_X10_sellLogs _ _ _) h6) (fun r79 m79 h7 => (k9_some h7)))))))) (fun _ => (k9_some h4)))))))))))))))
theorem k9_X10_channel (F : Nat) (σ : zMem) (a1 : Int32) (a2 : Int32) (a3 : Int32) : zk9 σ (f_X10_channel F σ a1 a2 a3) := by
  unfold f_X10_channel
  exact (k9_ite (fun _ => (k9_some rfl)) (fun _ => (k9_ite (fun _ => (k9_some rfl)) (fun _ => (k9_zb (k9_tr (k9_X10_isHouse _ _ _) rfl) (fun r17 m17 h1 => (k9_ite (fun _ => (k9_some h1)) (fun _ => (k9_ite (fun _ => (k9_some h1)) (fun _ => (k9_ite (fun _ => (k9_ite (fun _ => (k9_zg (fun g2 => (k9_zg (fun g3 => (k9_ite (fun _ => (k9_some ((zwi9 _ _ _ _ _ rfl).trans ((zwi9 _ _ _ _ _ rfl).trans ((zwi9 _ _ _ _ _ rfl).trans h1))))) (fun _ => (k9_some ((zwi9 _ _ _ _ _ rfl).trans ((zwi9 _ _ _ _ _ rfl).trans h1)))))))))) (fun _ => (k9_some h1)))) (fun _ => (k9_some h1)))))))))))))
theorem k9_X10_hour (F : Nat) (σ : zMem) (a1 : Int32) : zk9 σ (f_X10_hour F σ a1) := by
  unfold f_X10_hour
  exact (k9_zb (k9_tr (k9_X3_whole _ _ _) rfl) (fun r5 m5 h1 => (k9_ite (fun _ => (k9_some h1)) (fun _ => (k9_ite (fun _ => (k9_zb (k9_tr (k9_X3_atHour _ _ _) h1) (fun r25 m25 h2 => (k9_some h2)))) (fun _ => (k9_some h1)))))))
theorem k9_X10_gets (F : Nat) (σ : zMem) (a1 : Int32) (a2 : Int32) (a3 : Int32) : zk9 σ (f_X10_gets F σ a1 a2 a3) := by
  unfold f_X10_gets
  exact (k9_zb (k9_tr (k9_X10_isHouse _ _ _) rfl) (fun r2 m2 h1 => (k9_ite (fun _ => (k9_some h1)) (fun _ => (k9_ite (fun _ => (k9_some h1)) (fun _ => (k9_ite (fun _ => (k9_some h1)) (fun _ => (k9_ite (fun _ => (k9_zb (k9_tr (k9_X3_atHour _ _ _) h1) (fun r31 m31 h2 => (k9_ite (fun _ => (k9_some h2)) (fun _ => (k9_zb (k9_tr (k9_X3_holder _ _ _ _) h2) (fun r51 m51 h3 => (k9_ite (fun _ => (k9_zb (k9_tr (k9_X1_comesTo _ _ _ _) h3) (fun r66 m66 h4 => (k9_some h4)))) (fun _ => (k9_some h3)))))))))) (fun _ => (k9_some h1)))))))))))
theorem k9_X10_takesTurn (F : Nat) (σ : zMem) (a0 : Int32) (a1 : Nat) : zk9 σ (f_X10_takesTurn F σ a0 a1) := by
  unfold f_X10_takesTurn
  exact (k9_zg (fun g1 => (k9_ite (fun _ => (k9_zg (fun g2 => (k9_ite (fun _ => (k9_some rfl)) (fun _ => (k9_some rfl)))))) (fun _ => (k9_ite (fun _ => (k9_zg (fun g3 => (k9_ite (fun _ => (k9_some rfl)) (fun _ => (k9_some rfl)))))) (fun _ => (k9_some rfl)))))))
theorem k9_X10_nextTurn_2 (F : Nat) (rec2 : zMem → Int32 × Int32 × Int32 → Option (Int32 × zMem)) (σ : zMem) (x : Int32 × Int32 × Int32) (hrec2 : ∀ s y, zk9 s (rec2 s y)) : zk9 σ (f_X10_nextTurn_2 F rec2 σ x) := by
  unfold f_X10_nextTurn_2
  exact (k9_ite (fun _ => (k9_some rfl)) (fun _ => (k9_zg (fun g1 => (k9_zg (fun g2 => (k9_zb (k9_tr (k9_X10_takesTurn _ _ _ _) rfl) (fun r28 m28 h3 => (k9_ite (fun _ => (k9_tr (hrec2 _ _) h3)) (fun _ => (k9_some h3)))))))))))
theorem k9_X10_nextTurn (F : Nat) (σ : zMem) (a1 : Int32) (a2 : Int32) : zk9 σ (f_X10_nextTurn F σ a1 a2) := by
  unfold f_X10_nextTurn
  exact (k9_tr (k9_it (fun r hr s y => k9_X10_nextTurn_2 _ r s y hr) _ _ _) rfl)
theorem k9_X10_turn_62 (F : Nat) (σ : zMem) (l1 : Int32) (l2 : Int32) : zk9 σ (f_X10_turn_62 F σ l1 l2) := by
  unfold f_X10_turn_62
  exact (k9_zb (k9_tr (k9_X10_nextTurn _ _ _ _) rfl) (fun r65 m65 h1 => (k9_ite (fun _ => (k9_zg (fun g2 => (k9_ite (fun _ => (k9_some ((zwi9 _ _ _ _ _ rfl).trans ((zwi9 _ _ _ _ _ rfl).trans h1)))) (fun _ => (k9_some ((zwi9 _ _ _ _ _ rfl).trans h1))))))) (fun _ => (k9_some h1)))))
theorem k9_X10_turn (F : Nat) (σ : zMem) (a1 : Int32) : zk9 σ (f_X10_turn F σ a1) := by
  unfold f_X10_turn
  exact (k9_ite (fun _ => (k9_some rfl)) (fun _ => (k9_ite (fun _ => (k9_zg (fun g1 => (k9_ite (fun _ => (k9_zb (k9_tr (k9_X10_isHouse _ _ _) rfl) (fun r25 m25 h2 => (k9_ite (fun _ => (k9_tr (k9_X10_turn_62 _ _ _ _) h2)) (fun _ => (k9_zg (fun g3 => (k9_zb (k9_tr (k9_X10_worthNow _ _ _ _) h2) (fun r44 m44 h4 => (k9_ite (fun _ => (k9_tr (k9_X10_turn_62 _ _ _ _) h4)) (fun _ => (k9_some ((zwi9 _ _ _ _ _ rfl).trans h4))))))))))))) (fun _ => (k9_tr (k9_X10_turn_62 _ _ _ _) rfl)))))) (fun _ => (k9_some rfl)))))
theorem k9_X10_work (F : Nat) (σ : zMem) (a1 : Int32) (a2 : Int32) : zk9 σ (f_X10_work F σ a1 a2) := by
  unfold f_X10_work
  exact (k9_zb (k9_tr (k9_X10_isHouse _ _ _) rfl) (fun r2 m2 h1 => (k9_ite (fun _ => (k9_some h1)) (fun _ => (k9_ite (fun _ => (k9_some h1)) (fun _ => (k9_ite (fun _ => (k9_zg (fun g2 => (k9_zg (fun g3 => (k9_some ((zwi9 _ _ _ _ _ rfl).trans h1))))))) (fun _ => (k9_some h1)))))))))
theorem k9_X10_year_95 (F : Nat) (rec29 : zMem → Int32 × Int32 → Option (Int32 × zMem)) (σ : zMem) (l2 : Int32) (l3 : Int32) (l4 : Nat) (hrec29 : ∀ s y, zk9 s (rec29 s y)) : zk9 σ (f_X10_year_95 F rec29 σ l2 l3 l4) := by
  unfold f_X10_year_95
  exact (k9_zg (fun g1 => (k9_tr (hrec29 _ _) ((zwi9 _ _ _ _ _ rfl).trans rfl))))
theorem k9_X10_year_29 (F : Nat) (rec29 : zMem → Int32 × Int32 → Option (Int32 × zMem)) (σ : zMem) (x : Int32 × Int32) (hrec29 : ∀ s y, zk9 s (rec29 s y)) : zk9 σ (f_X10_year_29 F rec29 σ x) := by
  unfold f_X10_year_29
  exact (k9_ite (fun _ => (k9_some rfl)) (fun _ => (k9_zg (fun g1 => (k9_zb (k9_tr (k9_X10_worthNow _ _ _ _) rfl) (fun r49 m49 h2 => (k9_zg (fun g3 => (k9_ite (fun _ => (k9_tr (k9_X10_year_95 _ rec29 _ _ _ _ hrec29) h2)) (fun _ => (k9_zb (k9_tr (k9_X10_worthNow _ _ _ _) h2) (fun r85 m85 h4 => (k9_zb (k9_tr (k9_X2_oweMore _ _ _ _) h4) (fun r90 m90 h5 => (k9_tr (k9_X10_year_95 _ rec29 _ _ _ _ hrec29) h5)))))))))))))))
theorem k9_X10_year (F : Nat) (σ : zMem) : zk9 σ (f_X10_year F σ) := by
  unfold f_X10_year
  exact (k9_zg (fun g1 => (k9_ite (fun _ => (k9_some rfl)) (fun _ => (k9_tr (k9_it (fun r hr s y => k9_X10_year_29 _ r s y hr) _ _ _) ((zwi9 _ _ _ _ _ rfl).trans rfl))))))
theorem k9_X10_listMembers_4 (F : Nat) (rec4 : zMem → Int32 × Int32 × Int32 → Option (Int32 × zMem)) (σ : zMem) (x : Int32 × Int32 × Int32) (hrec4 : ∀ s y, zk9 s (rec4 s y)) : zk9 σ (f_X10_listMembers_4 F rec4 σ x) := by
  unfold f_X10_listMembers_4
  exact (k9_ite (fun _ => (k9_some rfl)) (fun _ => (k9_ite (fun _ => (k9_some rfl)) (fun _ => (k9_ite (fun _ => (k9_zg (fun g1 => (k9_zg (fun g2 => (k9_zg (fun g3 => (k9_tr (hrec4 _ _) ((zwi9 _ _ _ _ _ rfl).trans rfl))))))))) (fun _ => (k9_tr (hrec4 _ _) rfl)))))))
theorem k9_X10_listMembers (F : Nat) (σ : zMem) (a1 : Int32) : zk9 σ (f_X10_listMembers F σ a1) := by
  unfold f_X10_listMembers
  exact (k9_tr (k9_it (fun r hr s y => k9_X10_listMembers_4 _ r s y hr) _ _ _) rfl)
theorem k9_X10_foreseeHunger_92 (F : Nat) (rec68 : zMem → Int32 × Int32 × Int32 × Int32 → Option (Unit × zMem)) (rec92 : zMem → Int32 × Int32 × Int32 × Int32 × Int32 × Int32 → Option (Unit × zMem)) (σ : zMem) (x : Int32 × Int32 × Int32 × Int32 × Int32 × Int32) (hrec68 : ∀ s y, zk9 s (rec68 s y)) (hrec92 : ∀ s y, zk9 s (rec92 s y)) : zk9 σ (f_X10_foreseeHunger_92 F rec68 rec92 σ x) := by
  unfold f_X10_foreseeHunger_92
  exact (k9_ite (fun _ => (k9_tr (hrec68 _ _) rfl)) (fun _ => (k9_zg (fun g1 => (k9_zb (k9_tr (k9_X0_cowsOfSome _ _ _ _) rfl) (fun r127 m127 h2 => (k9_zb (k9_tr (k9_X0_hungerWith _ _ _ _ _) h2) (fun r132 m132 h3 => (k9_zg (fun g4 => (k9_tr (hrec92 _ _) ((zwi9 _ _ _ _ _ rfl).trans h3))))))))))))
theorem k9_X10_foreseeHunger_68 (F : Nat) (rec68 : zMem → Int32 × Int32 × Int32 × Int32 → Option (Unit × zMem)) (σ : zMem) (x : Int32 × Int32 × Int32 × Int32) (hrec68 : ∀ s y, zk9 s (rec68 s y)) : zk9 σ (f_X10_foreseeHunger_68 F rec68 σ x) := by
  unfold f_X10_foreseeHunger_68
  exact (k9_ite (fun _ => (k9_some rfl)) (fun _ => (k9_zb (k9_tr (k9_X10_cowsUpOn _ _ _ _) rfl) (fun r84 m84 h1 => (k9_tr (k9_it (fun r hr s y => k9_X10_foreseeHunger_92 _ rec68 r s y hrec68 hr) _ _ _) h1)))))
theorem k9_X10_foreseeHunger_3 (F : Nat) (rec3 : zMem → Int32 × Int32 × Int32 × Int32 → Option (Unit × zMem)) (σ : zMem) (x : Int32 × Int32 × Int32 × Int32) (hrec3 : ∀ s y, zk9 s (rec3 s y)) : zk9 σ (f_X10_foreseeHunger_3 F rec3 σ x) := by
  unfold f_X10_foreseeHunger_3
  exact (k9_ite (fun _ => (k9_tr (k9_it (fun r hr s y => k9_X10_foreseeHunger_68 _ r s y hr) _ _ _) rfl)) (fun _ => (k9_zb (k9_tr (k9_X5_on _ _ _ _) rfl) (fun r30 m30 h1 => (k9_zg (fun g2 => (k9_zb (k9_tr (k9_X5_on _ _ _ _) ((zwi9 _ _ _ _ _ rfl).trans h1)) (fun r55 m55 h3 => (k9_zg (fun g4 => (k9_tr (hrec3 _ _) ((zwi9 _ _ _ _ _ rfl).trans h3))))))))))))
theorem k9_X10_foreseeHunger (F : Nat) (σ : zMem) (a1 : Int32) (a2 : Int32) (a3 : Int32) : zk9 σ (f_X10_foreseeHunger F σ a1 a2 a3) := by
  unfold f_X10_foreseeHunger
  exact (k9_tr (k9_it (fun r hr s y => k9_X10_foreseeHunger_3 _ r s y hr) _ _ _) rfl)
theorem k9_X10_plan (F : Nat) (σ : zMem) (a1 : Int32) (a2 : Int32) (a3 : Int32) : zk9 σ (f_X10_plan F σ a1 a2 a3) := by
  unfold f_X10_plan
  exact (k9_zb (k9_tr (k9_X10_areHouses _ _ _) rfl) (fun r2 m2 h1 => (k9_ite (fun _ => (k9_some h1)) (fun _ => (k9_ite (fun _ => (k9_some h1)) (fun _ => (k9_ite (fun _ => (k9_some h1)) (fun _ => (k9_zb (k9_tr (k9_J6_bitCount_0f7a4 _ _ _) h1) (fun r25 m25 h2 => (k9_ite (fun _ => (k9_some h2)) (fun _ => (k9_ite (fun _ => (k9_ite (fun _ => (k9_some h2)) (fun _ => (k9_ite (fun _ => (k9_some h2)) (fun _ => (k9_ite (fun _ => (k9_some h2)) (fun _ => (k9_ite (fun _ => (k9_zb (k9_tr (k9_X10_listMembers _ _ _) h2) (fun r76 m76 h3 => (k9_zb (k9_tr (k9_X10_foreseeHunger _ _ _ _ _) h3) (fun r86 m86 h4 => (k9_zb (k9_tr (k9_X0_bestPlan _ _ _) h4) (fun r95 m95 h5 => (k9_ite (fun _ => (k9_some h5)) (fun _ => (k9_zg (fun g6 => (k9_some h5)))))))))))) (fun _ => (k9_some h2)))))))))) (fun _ => (k9_some h2)))))))))))))))
theorem k9_X10_enterBody_19 (F : Nat) (σ : zMem) : zk9 σ (f_X10_enterBody_19 F σ) := by
  unfold f_X10_enterBody_19
  exact (k9_some ((zwi9 _ _ _ _ _ rfl).trans rfl))
theorem k9_X10_enterBody (F : Nat) (σ : zMem) (a1 : Int32) : zk9 σ (f_X10_enterBody F σ a1) := by
  unfold f_X10_enterBody
  exact (k9_ite (fun _ => (k9_tr (k9_X10_enterBody_19 _ _) rfl)) (fun _ => (k9_zg (fun g1 => (k9_tr (k9_X10_enterBody_19 _ _) ((zwi9 _ _ _ _ _ rfl).trans rfl))))))
theorem k9_X10_holdsBy_43 (F : Nat) (σ : zMem) (l1 : Int32) (l2 : Int32) (l3 : Int32) : zk9 σ (f_X10_holdsBy_43 F σ l1 l2 l3) := by
  unfold f_X10_holdsBy_43
  exact (k9_zb (k9_tr (k9_X10_enterBody _ _ _) rfl) (fun r46 m46 h1 => (k9_zg (fun g2 => (k9_ite (fun _ => (k9_some h1)) (fun _ => (k9_ite (fun _ => (k9_some h1)) (fun _ => (k9_ite (fun _ => (k9_some h1)) (fun _ => (k9_some h1)))))))))))
theorem k9_X10_holdsBy_32 (F : Nat) (σ : zMem) (l1 : Int32) (l2 : Int32) (l3 : Int32) : zk9 σ (f_X10_holdsBy_32 F σ l1 l2 l3) := by
  unfold f_X10_holdsBy_32
  exact (k9_ite (fun _ => (k9_zb (k9_tr (k9_X10_enterBody _ _ _) rfl) (fun r40 m40 h1 => (k9_tr (k9_X10_holdsBy_43 _ _ _ _ _) h1)))) (fun _ => (k9_tr (k9_X10_holdsBy_43 _ _ _ _ _) rfl)))
theorem k9_X10_holdsBy_21 (F : Nat) (σ : zMem) (l1 : Int32) (l2 : Int32) (l3 : Int32) : zk9 σ (f_X10_holdsBy_21 F σ l1 l2 l3) := by
  unfold f_X10_holdsBy_21
  exact (k9_ite (fun _ => (k9_zb (k9_tr (k9_X10_enterBody _ _ _) rfl) (fun r29 m29 h1 => (k9_tr (k9_X10_holdsBy_32 _ _ _ _ _) h1)))) (fun _ => (k9_tr (k9_X10_holdsBy_32 _ _ _ _ _) rfl)))
theorem k9_X10_holdsBy (F : Nat) (σ : zMem) (a1 : Int32) (a2 : Int32) : zk9 σ (f_X10_holdsBy F σ a1 a2) := by
  unfold f_X10_holdsBy
  exact (k9_zg (fun g1 => (k9_ite (fun _ => (k9_zb (k9_tr (k9_X10_enterBody _ _ _) rfl) (fun r18 m18 h2 => (k9_tr (k9_X10_holdsBy_21 _ _ _ _ _) h2)))) (fun _ => (k9_tr (k9_X10_holdsBy_21 _ _ _ _ _) rfl)))))
theorem k9_X10_owesBy_69 (F : Nat) (σ : zMem) (l1 : Int32) (l3 : Int32) (l4 : Int32) : zk9 σ (f_X10_owesBy_69 F σ l1 l3 l4) := by
  unfold f_X10_owesBy_69
  exact (k9_ite (fun _ => (k9_zg (fun g1 => (k9_some rfl)))) (fun _ => (k9_some rfl)))
theorem k9_X10_owesBy_63 (F : Nat) (σ : zMem) (l1 : Int32) (l3 : Int32) (l4 : Int32) : zk9 σ (f_X10_owesBy_63 F σ l1 l3 l4) := by
  unfold f_X10_owesBy_63
  exact (k9_tr (k9_X10_owesBy_69 _ _ _ _ _) rfl)
theorem k9_X10_owesBy_37 (F : Nat) (σ : zMem) (l1 : Int32) (l2 : Int32) (l3 : Int32) : zk9 σ (f_X10_owesBy_37 F σ l1 l2 l3) := by
  unfold f_X10_owesBy_37
  exact (k9_zb (k9_tr (k9_X10_enterBody _ _ _) rfl) (fun r40 m40 h1 => (k9_zb (k9_tr (k9_X10_holdsBy _ _ _ _) h1) (fun r46 m46 h2 => (k9_ite (fun _ => (k9_tr (k9_X10_owesBy_63 _ _ _ _ _) h2)) (fun _ => (k9_ite (fun _ => (k9_tr (k9_X10_owesBy_63 _ _ _ _ _) h2)) (fun _ => (k9_tr (k9_X10_owesBy_69 _ _ _ _ _) h2)))))))))
theorem k9_X10_owesBy_31 (F : Nat) (σ : zMem) (l1 : Int32) (l2 : Int32) (l3 : Int32) : zk9 σ (f_X10_owesBy_31 F σ l1 l2 l3) := by
  unfold f_X10_owesBy_31
  exact (k9_zb (k9_tr (k9_X10_enterBody _ _ _) rfl) (fun r34 m34 h1 => (k9_tr (k9_X10_owesBy_37 _ _ _ _ _) h1)))
theorem k9_X10_owesBy_21 (F : Nat) (σ : zMem) (l1 : Int32) (l2 : Int32) (l3 : Int32) : zk9 σ (f_X10_owesBy_21 F σ l1 l2 l3) := by
  unfold f_X10_owesBy_21
  exact (k9_ite (fun _ => (k9_tr (k9_X10_owesBy_31 _ _ _ _ _) rfl)) (fun _ => (k9_ite (fun _ => (k9_tr (k9_X10_owesBy_31 _ _ _ _ _) rfl)) (fun _ => (k9_tr (k9_X10_owesBy_37 _ _ _ _ _) rfl)))))
theorem k9_X10_owesBy (F : Nat) (σ : zMem) (a1 : Int32) (a2 : Int32) : zk9 σ (f_X10_owesBy F σ a1 a2) := by
  unfold f_X10_owesBy
  exact (k9_zg (fun g1 => (k9_ite (fun _ => (k9_zb (k9_tr (k9_X10_enterBody _ _ _) rfl) (fun r18 m18 h2 => (k9_tr (k9_X10_owesBy_21 _ _ _ _ _) h2)))) (fun _ => (k9_tr (k9_X10_owesBy_21 _ _ _ _ _) rfl)))))
theorem k9_X10_passesBy_25 (F : Nat) (σ : zMem) (l1 : Int32) (l3 : Int32) : zk9 σ (f_X10_passesBy_25 F σ l1 l3) := by
  unfold f_X10_passesBy_25
  exact (k9_zb (k9_tr (k9_X10_enterBody _ _ _) rfl) (fun r28 m28 h1 => (k9_zb (k9_tr (k9_X10_owesBy _ _ _ _) h1) (fun r34 m34 h2 => (k9_zb (k9_tr (k9_X10_holdsBy _ _ _ _) h2) (fun r46 m46 h3 => (k9_some h3)))))))
theorem k9_X10_passesBy (F : Nat) (σ : zMem) (a1 : Int32) (a2 : Int32) : zk9 σ (f_X10_passesBy F σ a1 a2) := by
  unfold f_X10_passesBy
  exact (k9_zg (fun g1 => (k9_ite (fun _ => (k9_zb (k9_tr (k9_X10_enterBody _ _ _) rfl) (fun r18 m18 h2 => (k9_tr (k9_X10_passesBy_25 _ _ _ _) h2)))) (fun _ => (k9_tr (k9_X10_passesBy_25 _ _ _ _) rfl)))))
theorem k9_X10_act (F : Nat) (σ : zMem) (a1 : Int32) (a2 : Int32) (a3 : Int32) : zk9 σ (f_X10_act F σ a1 a2 a3) := by
  unfold f_X10_act
  exact (k9_zb (k9_tr (k9_X3_has _ _ _) ((zwi9 _ _ _ _ _ rfl).trans rfl)) (fun r10 m10 h1 => (k9_ite (fun _ => (k9_some h1)) (fun _ => (k9_ite (fun _ => (k9_some h1)) (fun _ => (k9_ite (fun _ => (k9_zb (k9_tr (k9_X10_holdsBy _ _ _ _) h1) (fun r47 m47 h2 => (k9_some h2)))) (fun _ => (k9_ite (fun _ => (k9_zb (k9_tr (k9_X10_owesBy _ _ _ _) h1) (fun r54 m54 h3 => (k9_some h3)))) (fun _ => (k9_ite (fun _ => (k9_zb (k9_tr (k9_X10_passesBy _ _ _ _) h1) (fun r61 m61 h4 => (k9_some h4)))) (fun _ => k9_none))))))))))))
theorem k9_X10_trace (F : Nat) (σ : zMem) (a1 : Int32) : zk9 σ (f_X10_trace F σ a1) := by
  unfold f_X10_trace
  exact (k9_ite (fun _ => (k9_some rfl)) (fun _ => (k9_ite (fun _ => (k9_some rfl)) (fun _ => (k9_ite (fun _ => (k9_zg (fun g1 => (k9_some rfl)))) (fun _ => (k9_some rfl)))))))
theorem k9_X10_taken (F : Nat) (σ : zMem) (a1 : Int32) (a2 : Int32) : zk9 σ (f_X10_taken F σ a1 a2) := by
  unfold f_X10_taken
  exact (k9_ite (fun _ => (k9_some rfl)) (fun _ => (k9_ite (fun _ => (k9_zb (k9_tr (k9_X3_has _ _ _) rfl) (fun r18 m18 h1 => (k9_ite (fun _ => (k9_some h1)) (fun _ => (k9_zg (fun g2 => (k9_zb (k9_tr (k9_X3_isUnder _ _ _ _) h1) (fun r39 m39 h3 => (k9_ite (fun _ => (k9_some h3)) (fun _ => (k9_some h3)))))))))))) (fun _ => (k9_some rfl)))))
theorem k9_X10_wheelsGiven_4 (F : Nat) (rec4 : zMem → Int32 × Int32 → Option (Int32 × zMem)) (σ : zMem) (x : Int32 × Int32) (hrec4 : ∀ s y, zk9 s (rec4 s y)) : zk9 σ (f_X10_wheelsGiven_4 F rec4 σ x) := by
  unfold f_X10_wheelsGiven_4
  exact (k9_ite (fun _ => (k9_some rfl)) (fun _ => (k9_zg (fun g1 => (k9_tr (hrec4 _ _) rfl)))))
theorem k9_X10_wheelsGiven (F : Nat) (σ : zMem) : zk9 σ (f_X10_wheelsGiven F σ) := by
  unfold f_X10_wheelsGiven
  exact (k9_tr (k9_it (fun r hr s y => k9_X10_wheelsGiven_4 _ r s y hr) _ _ _) rfl)
theorem k9_X10_count (F : Nat) (σ : zMem) (a1 : Int32) : zk9 σ (f_X10_count F σ a1) := by
  unfold f_X10_count
  exact (k9_ite (fun _ => (k9_some rfl)) (fun _ => (k9_ite (fun _ => (k9_some rfl)) (fun _ => (k9_ite (fun _ => (k9_some rfl)) (fun _ => (k9_ite (fun _ => (k9_some rfl)) (fun _ => (k9_ite (fun _ => (k9_some rfl)) (fun _ => (k9_ite (fun _ => (k9_some rfl)) (fun _ => (k9_ite (fun _ => (k9_some rfl)) (fun _ => (k9_ite (fun _ => (k9_some rfl)) (fun _ => (k9_ite (fun _ => (k9_some rfl)) (fun _ => (k9_ite (fun _ => (k9_some rfl)) (fun _ => (k9_ite (fun _ => (k9_some rfl)) (fun _ => (k9_ite (fun _ => (k9_zb (k9_tr (k9_X10_wheelsGiven _ _) rfl) (fun r148 m148 h1 => (k9_some h1)))) (fun _ => (k9_ite (fun _ => (k9_some rfl)) (fun _ => (k9_ite (fun _ => (k9_some rfl)) (fun _ => (k9_ite (fun _ => (k9_ite (fun _ => (k9_some rfl)) (fun _ => (k9_some rfl)))) (fun _ => (k9_ite (fun _ => (k9_some rfl)) (fun _ => k9_none))))))))))))))))))))))))))))))))
theorem k9_X10_sheet (F : Nat) (σ : zMem) (a1 : Int32) (a2 : Int32) (a3 : Int32) : zk9 σ (f_X10_sheet F σ a1 a2 a3) := by
  unfold f_X10_sheet
  exact (k9_zb (k9_tr (k9_X10_isSheet _ _ _) rfl) (fun r1 m1 h1 => (k9_ite (fun _ => (k9_some h1)) (fun _ => (k9_ite (fun _ => (k9_some h1)) (fun _ => (k9_ite (fun _ => (k9_ite (fun _ => (k9_zg (fun g2 => (k9_zb (k9_tr (k9_X4_becomeRow _ _ _ _ _) h1) (fun r33 m33 h3 => (k9_some h3)))))) (fun _ => (k9_ite (fun _ => (k9_ite (fun _ => (k9_zg (fun g4 => (k9_zb (k9_tr (k9_X4_becomeRow _ _ _ _ _) h1) (fun r62 m62 h5 => (k9_some h5)))))) (fun _ => (k9_some h1)))) (fun _ => (k9_some h1)))))) (fun _ => (k9_some h1)))))))))
theorem k9_X10_cell (F : Nat) (σ : zMem) (a1 : Int32) (a2 : Int32) (a3 : Int32) : zk9 σ (f_X10_cell F σ a1 a2 a3) := by
  unfold f_X10_cell
  exact (k9_zb (k9_tr (k9_X10_isSheet _ _ _) rfl) (fun r1 m1 h1 => (k9_ite (fun _ => (k9_some h1)) (fun _ => (k9_zg (fun g2 => (k9_ite (fun _ => (k9_some h1)) (fun _ => (k9_zb (k9_tr (k9_X4_holds _ _ _ _ _) h1) (fun r34 m34 h3 => (k9_ite (fun _ => (k9_some h3)) (fun _ => (k9_zb (k9_tr (k9_X4_cut _ _ _ _) h3) (fun r52 m52 h4 => (k9_zg (fun g5 => (k9_some ((zwl9 _ _ _ _ _).trans h4))))))))))))))))))
theorem k9_X10_lose (F : Nat) (σ : zMem) (a1 : Int32) (a2 : Int32) : zk9 σ (f_X10_lose F σ a1 a2) := by
  unfold f_X10_lose
  exact (k9_zb (k9_tr (k9_X10_isSheet _ _ _) rfl) (fun r1 m1 h1 => (k9_ite (fun _ => (k9_some h1)) (fun _ => (k9_zg (fun g2 => (k9_ite (fun _ => (k9_some h1)) (fun _ => (k9_ite (fun _ => (k9_zb (k9_tr (k9_X4_holds _ _ _ _ _) h1) (fun r42 m42 h3 => (k9_ite (fun _ => (k9_some h3)) (fun _ => (k9_zg (fun g4 => (k9_some ((zwl9 _ _ _ _ _).trans h3))))))))) (fun _ => (k9_some h1)))))))))))
theorem k9_X10_copy (F : Nat) (σ : zMem) (a1 : Int32) (a2 : Int32) (a3 : Int32) (a4 : Int32) (a5 : Int32) : zk9 σ (f_X10_copy F σ a1 a2 a3 a4 a5) := by
  unfold f_X10_copy
  exact (k9_zb (k9_tr (k9_X10_isSheet _ _ _) rfl) (fun r1 m1 h1 => (k9_ite (fun _ => (k9_some h1)) (fun _ => (k9_zb (k9_tr (k9_X10_isSheet _ _ _) h1) (fun r8 m8 h2 => (k9_ite (fun _ => (k9_some h2)) (fun _ => (k9_zg (fun g3 => (k9_zg (fun g4 => (k9_ite (fun _ => (k9_some h2)) (fun _ => (k9_ite (fun _ => (k9_some h2)) (fun _ => (k9_ite (fun _ => (k9_zb (k9_tr (k9_X4_holds _ _ _ _ _) h2) (fun r75 m75 h5 => (k9_ite (fun _ => (k9_some h5)) (fun _ => (k9_zb (k9_tr (k9_X4_holds _ _ _ _ _) h5) (fun r87 m87 h6 => (k9_ite (fun _ => (k9_some h6)) (fun _ => (k9_zg (fun g7 => (k9_some ((zcpl9 _ _ _ _ _ _ _ _).trans h6))))))))))))) (fun _ => (k9_some h2)))))))))))))))))))
theorem k9_X11_in (F : Nat) (σ : zMem) (a0 : Int32) (a1 : Int32) (a2 : Int32) : zk9 σ (f_X11_in F σ a0 a1 a2) := by
  unfold f_X11_in
  exact (k9_ite (fun _ => (k9_some rfl)) (fun _ => (k9_ite (fun _ => (k9_some rfl)) (fun _ => (k9_some rfl)))))
theorem k9_X11_isHouse (F : Nat) (σ : zMem) (a1 : Int32) : zk9 σ (f_X11_isHouse F σ a1) := by
  unfold f_X11_isHouse
  exact (k9_zb (k9_tr (k9_X11_in _ _ _ _ _) rfl) (fun r8 m8 h1 => (k9_zg (fun g2 => (k9_some h1)))))
theorem k9_X11_isRight (F : Nat) (σ : zMem) (a1 : Int32) : zk9 σ (f_X11_isRight F σ a1) := by
  unfold f_X11_isRight
  exact (k9_zb (k9_tr (k9_X11_in _ _ _ _ _) rfl) (fun r8 m8 h1 => (k9_zg (fun g2 => (k9_some h1)))))
theorem k9_X11_isAlp (F : Nat) (σ : zMem) (a1 : Int32) : zk9 σ (f_X11_isAlp F σ a1) := by
  unfold f_X11_isAlp
  exact (k9_zb (k9_tr (k9_X11_in _ _ _ _ _) rfl) (fun r8 m8 h1 => (k9_zg (fun g2 => (k9_some h1)))))
theorem k9_X11_isSlope (F : Nat) (σ : zMem) (a1 : Int32) : zk9 σ (f_X11_isSlope F σ a1) := by
  unfold f_X11_isSlope
  exact (k9_zb (k9_tr (k9_X11_in _ _ _ _ _) rfl) (fun r8 m8 h1 => (k9_zg (fun g2 => (k9_some h1)))))
theorem k9_X11_upOf_4 (F : Nat) (rec4 : zMem → Int32 × Int32 × Int32 → Option (Int32 × zMem)) (σ : zMem) (x : Int32 × Int32 × Int32) (hrec4 : ∀ s y, zk9 s (rec4 s y)) : zk9 σ (f_X11_upOf_4 F rec4 σ x) := by
  unfold f_X11_upOf_4
  exact (k9_ite (fun _ => (k9_some rfl)) (fun _ => (k9_zg (fun g1 => (k9_zg (fun g2 => (k9_zg (fun g3 => (k9_tr (hrec4 _ _) rfl)))))))))
theorem k9_X11_upOf (F : Nat) (σ : zMem) (a1 : Int32) : zk9 σ (f_X11_upOf F σ a1) := by
  unfold f_X11_upOf
  exact (k9_tr (k9_it (fun r hr s y => k9_X11_upOf_4 _ r s y hr) _ _ _) rfl)
theorem k9_X11_isNumber (F : Nat) (σ : zMem) (a0 : Int32) (a1 : Int32) : zk9 σ (f_X11_isNumber F σ a0 a1) := by
  unfold f_X11_isNumber
  exact (k9_ite (fun _ => (k9_zb (k9_tr (k9_X11_in _ _ _ _ _) rfl) (fun r8 m8 h1 => (k9_zg (fun g2 => (k9_some h1)))))) (fun _ => (k9_ite (fun _ => (k9_zb (k9_tr (k9_X11_in _ _ _ _ _) rfl) (fun r23 m23 h3 => (k9_zg (fun g4 => (k9_some h3)))))) (fun _ => (k9_ite (fun _ => (k9_zb (k9_tr (k9_X11_in _ _ _ _ _) rfl) (fun r38 m38 h5 => (k9_zg (fun g6 => (k9_some h5)))))) (fun _ => (k9_zb (k9_tr (k9_X11_in _ _ _ _ _) rfl) (fun r48 m48 h7 => (k9_zg (fun g8 => (k9_some h7)))))))))))
theorem k9_X11_house (F : Nat) (σ : zMem) (a1 : Int32) (a2 : Int32) (a3 : Int32) (a4 : Int32) : zk9 σ (f_X11_house F σ a1 a2 a3 a4) := by
  unfold f_X11_house
  exact (k9_zb (k9_tr (k9_X11_isNumber _ _ _ _) rfl) (fun r2 m2 h1 => (k9_ite (fun _ => (k9_some h1)) (fun _ => (k9_zb (k9_tr (k9_X11_isNumber _ _ _ _) h1) (fun r10 m10 h2 => (k9_ite (fun _ => (k9_some h2)) (fun _ => (k9_zb (k9_tr (k9_X11_isNumber _ _ _ _) h2) (fun r18 m18 h3 => (k9_ite (fun _ => (k9_some h3)) (fun _ => (k9_zb (k9_tr (k9_X11_isNumber _ _ _ _) h3) (fun r27 m27 h4 => (k9_ite (fun _ => (k9_some h4)) (fun _ => (k9_ite (fun _ => (k9_some h4)) (fun _ => (k9_zg (fun g5 => (k9_zg (fun g6 => (k9_zg (fun g7 => (k9_zg (fun g8 => (k9_zg (fun g9 => (k9_zg (fun g10 => (k9_zg (fun g11 => (k9_zg (fun g12 => (k9_some ((zwi9 _ _ _ _ _ rfl).trans ((zwi9 _ _ _ _ _ rfl).trans ((zwi9 _ _ _ _ _ rfl).trans ((zwi9 _ _ _ _ _ rfl).trans ((zwi9 _ _ _ _ _ rfl).trans h4))))))))))))))))))))))))))))))))))))))))
theorem k9_X11_change_44 (F : Nat) (σ : zMem) (l1 : Int32) (l2 : Int32) (l3 : Int32) : zk9 σ (f_X11_change_44 F σ l1 l2 l3) := by
  unfold f_X11_change_44
  exact (k9_zg (fun g1 => (k9_zg (fun g2 => (k9_zg (fun g3 => (k9_zg (fun g4 => (k9_some ((zwi9 _ _ _ _ _ rfl).trans rfl))))))))))
theorem k9_X11_change (F : Nat) (σ : zMem) (a1 : Int32) (a2 : Int32) (a3 : Int32) : zk9 σ (f_X11_change F σ a1 a2 a3) := by
  unfold f_X11_change
  exact (k9_zb (k9_tr (k9_X11_isHouse _ _ _) rfl) (fun r2 m2 h1 => (k9_ite (fun _ => (k9_some h1)) (fun _ => (k9_zb (k9_tr (k9_X11_in _ _ _ _ _) h1) (fun r11 m11 h2 => (k9_ite (fun _ => (k9_some h2)) (fun _ => (k9_zb (k9_tr (k9_X11_isNumber _ _ _ _) h2) (fun r21 m21 h3 => (k9_ite (fun _ => (k9_some h3)) (fun _ => (k9_ite (fun _ => (k9_zb (k9_tr (k9_X11_upOf _ _ _) h3) (fun r35 m35 h4 => (k9_ite (fun _ => (k9_tr (k9_X11_change_44 _ _ _ _ _) h4)) (fun _ => (k9_some h4)))))) (fun _ => (k9_tr (k9_X11_change_44 _ _ _ _ _) h3)))))))))))))))
theorem k9_X11_told_80 (F : Nat) (σ : zMem) (l1 : Int32) (l2 : Int32) : zk9 σ (f_X11_told_80 F σ l1 l2) := by
  unfold f_X11_told_80
  exact (k9_zg (fun g1 => (k9_zg (fun g2 => (k9_some rfl)))))
theorem k9_X11_told (F : Nat) (σ : zMem) (a1 : Int32) (a2 : Int32) : zk9 σ (f_X11_told F σ a1 a2) := by
  unfold f_X11_told
  exact (k9_zb (k9_tr (k9_X11_isHouse _ _ _) rfl) (fun r2 m2 h1 => (k9_ite (fun _ => (k9_some h1)) (fun _ => (k9_ite (fun _ => (k9_some h1)) (fun _ => (k9_ite (fun _ => (k9_tr (k9_X11_told_80 _ _ _ _) h1)) (fun _ => (k9_ite (fun _ => (k9_tr (k9_X11_told_80 _ _ _ _) h1)) (fun _ => (k9_ite (fun _ => (k9_tr (k9_X11_told_80 _ _ _ _) h1)) (fun _ => (k9_ite (fun _ => (k9_tr (k9_X11_told_80 _ _ _ _) h1)) (fun _ => (k9_ite (fun _ => (k9_tr (k9_X11_told_80 _ _ _ _) h1)) (fun _ => (k9_ite (fun _ => (k9_zg (fun g2 => (k9_zg (fun g3 => (k9_zb (k9_tr (k9_X11_upOf _ _ _) h1) (fun r99 m99 h4 => (k9_some h4)))))))) (fun _ => (k9_ite (fun _ => (k9_zg (fun g5 => (k9_some h1)))) (fun _ => (k9_ite (fun _ => (k9_zg (fun g6 => (k9_some h1)))) (fun _ => (k9_ite (fun _ => (k9_zg (fun g7 => (k9_some h1)))) (fun _ => (k9_ite (fun _ => (k9_zg (fun g8 => (k9_some h1)))) (fun _ => (k9_ite (fun _ => (k9_zg (fun g9 => (k9_some h1)))) (fun _ => (k9_ite (fun _ => (k9_zg (fun g10 => (k9_some h1)))) (fun _ => (k9_ite (fun _ => (k9_zg (fun g11 => (k9_some h1)))) (fun _ => k9_none))))))))))))))))))))))))))))))))
theorem k9_X11_counts_4 (F : Nat) (rec4 : zMem → Int32 × Int32 → Option (Int32 × zMem)) (σ : zMem) (x : Int32 × Int32) (hrec4 : ∀ s y, zk9 s (rec4 s y)) : zk9 σ (f_X11_counts_4 F rec4 σ x) := by
  unfold f_X11_counts_4
  exact (k9_ite (fun _ => (k9_some rfl)) (fun _ => (k9_zg (fun g1 => (k9_zg (fun g2 => (k9_zg (fun g3 => (k9_zg (fun g4 => (k9_zg (fun g5 => (k9_tr (hrec4 _ _) ((zwi9 _ _ _ _ _ rfl).trans rfl))))))))))))))
theorem k9_X11_counts (F : Nat) (σ : zMem) : zk9 σ (f_X11_counts F σ) := by
  unfold f_X11_counts
  exact (k9_tr (k9_it (fun r hr s y => k9_X11_counts_4 _ r s y hr) _ _ _) rfl)
theorem k9_X11_commonOf (F : Nat) (σ : zMem) (a0 : Int32) : zk9 σ (f_X11_commonOf F σ a0) := by
  unfold f_X11_commonOf
  exact (k9_ite (fun _ => (k9_some rfl)) (fun _ => (k9_ite (fun _ => (k9_some rfl)) (fun _ => (k9_ite (fun _ => (k9_some rfl)) (fun _ => (k9_ite (fun _ => (k9_some rfl)) (fun _ => (k9_some rfl)))))))))
theorem k9_X11_newRight (F : Nat) (σ : zMem) (a1 : Int32) (a2 : Int32) (a3 : Int32) : zk9 σ (f_X11_newRight F σ a1 a2 a3) := by
  unfold f_X11_newRight
  exact (k9_zg (fun g1 => (k9_zg (fun g2 => (k9_zg (fun g3 => (k9_zg (fun g4 => (k9_some ((zwi9 _ _ _ _ _ rfl).trans ((zwi9 _ _ _ _ _ rfl).trans ((zwi9 _ _ _ _ _ rfl).trans ((zwi9 _ _ _ _ _ rfl).trans ((zwi9 _ _ _ _ _ rfl).trans rfl))))))))))))))
theorem k9_X11_right (F : Nat) (σ : zMem) (a1 : Int32) (a2 : Int32) (a3 : Int32) : zk9 σ (f_X11_right F σ a1 a2 a3) := by
  unfold f_X11_right
  exact (k9_zb (k9_tr (k9_X11_isHouse _ _ _) rfl) (fun r2 m2 h1 => (k9_ite (fun _ => (k9_some h1)) (fun _ => (k9_zb (k9_tr (k9_X11_in _ _ _ _ _) h1) (fun r13 m13 h2 => (k9_ite (fun _ => (k9_some h2)) (fun _ => (k9_ite (fun _ => (k9_some h2)) (fun _ => (k9_zb (k9_tr (k9_X11_in _ _ _ _ _) h2) (fun r29 m29 h3 => (k9_ite (fun _ => (k9_some h3)) (fun _ => (k9_ite (fun _ => (k9_some h3)) (fun _ => (k9_zb (k9_tr (k9_X11_newRight _ _ _ _ _) h3) (fun r56 m56 h4 => (k9_some h4)))))))))))))))))))
theorem k9_X11_lent (F : Nat) (σ : zMem) (a1 : Int32) : zk9 σ (f_X11_lent F σ a1) := by
  unfold f_X11_lent
  exact (k9_zg (fun g1 => (k9_ite (fun _ => (k9_some rfl)) (fun _ => (k9_some rfl)))))
theorem k9_X11_holder (F : Nat) (σ : zMem) (a1 : Int32) : zk9 σ (f_X11_holder F σ a1) := by
  unfold f_X11_holder
  exact (k9_zb (k9_tr (k9_X11_lent _ _ _) rfl) (fun r2 m2 h1 => (k9_ite (fun _ => (k9_zg (fun g2 => (k9_some h1)))) (fun _ => (k9_zg (fun g3 => (k9_some h1)))))))
theorem k9_X11_split_104 (F : Nat) (σ : zMem) (l2 : Int32) (s0 : Int32) (s1 : Int32) : zk9 σ (f_X11_split_104 F σ l2 s0 s1) := by
  unfold f_X11_split_104
  exact (k9_zb (k9_tr (k9_X11_newRight _ _ _ _ _) rfl) (fun r105 m105 h1 => (k9_some h1)))
theorem k9_X11_split (F : Nat) (σ : zMem) (a1 : Int32) (a2 : Int32) : zk9 σ (f_X11_split F σ a1 a2) := by
  unfold f_X11_split
  exact (k9_zb (k9_tr (k9_X11_isRight _ _ _) rfl) (fun r2 m2 h1 => (k9_ite (fun _ => (k9_some h1)) (fun _ => (k9_zg (fun g2 => (k9_zb (k9_tr (k9_X11_in _ _ _ _ _) h1) (fun r20 m20 h3 => (k9_ite (fun _ => (k9_some h3)) (fun _ => (k9_zg (fun g4 => (k9_zb (k9_tr (k9_X11_commonOf _ _ _) h3) (fun r35 m35 h5 => (k9_ite (fun _ => (k9_some h5)) (fun _ => (k9_zb (k9_tr (k9_X11_lent _ _ _) h5) (fun r44 m44 h6 => (k9_ite (fun _ => (k9_ite (fun _ => (k9_some h6)) (fun _ => (k9_zg (fun g7 => (k9_zg (fun g8 => (k9_zg (fun g9 => (k9_zg (fun g10 => (k9_zb (k9_tr (k9_X11_commonOf _ _ _) ((zwi9 _ _ _ _ _ rfl).trans h6)) (fun r88 m88 h11 => (k9_ite (fun _ => (k9_tr (k9_X11_split_104 _ _ _ _ _) h11)) (fun _ => (k9_zg (fun g12 => (k9_tr (k9_X11_split_104 _ _ _ _ _) h11)))))))))))))))))) (fun _ => (k9_some h6)))))))))))))))))))))
theorem k9_X11_join (F : Nat) (σ : zMem) (a1 : Int32) (a2 : Int32) : zk9 σ (f_X11_join F σ a1 a2) := by
  unfold f_X11_join
  exact (k9_zb (k9_tr (k9_X11_isRight _ _ _) rfl) (fun r2 m2 h1 => (k9_ite (fun _ => (k9_some h1)) (fun _ => (k9_zb (k9_tr (k9_X11_isRight _ _ _) h1) (fun r10 m10 h2 => (k9_ite (fun _ => (k9_some h2)) (fun _ => (k9_ite (fun _ => (k9_some h2)) (fun _ => (k9_zg (fun g3 => (k9_zb (k9_tr (k9_X11_commonOf _ _ _) h2) (fun r32 m32 h4 => (k9_ite (fun _ => (k9_some h4)) (fun _ => (k9_zg (fun g5 => (k9_zb (k9_tr (k9_X11_commonOf _ _ _) h4) (fun r48 m48 h6 => (k9_ite (fun _ => (k9_zg (fun g7 => (k9_zg (fun g8 => (k9_ite (fun _ => (k9_zb (k9_tr (k9_X11_lent _ _ _) h6) (fun r71 m71 h9 => (k9_ite (fun _ => (k9_zb (k9_tr (k9_X11_lent _ _ _) h9) (fun r79 m79 h10 => (k9_ite (fun _ => (k9_zg (fun g11 => (k9_ite (fun _ => (k9_some h10)) (fun _ => (k9_zg (fun g12 => (k9_ite (fun _ => (k9_some h10)) (fun _ => (k9_zg (fun g13 => (k9_zg (fun g14 => (k9_zg (fun g15 => (k9_zg (fun g16 => (k9_zg (fun g17 => (k9_some ((zwi9 _ _ _ _ _ rfl).trans ((zwi9 _ _ _ _ _ rfl).trans h10)))))))))))))))))))))) (fun _ => (k9_some h10)))))) (fun _ => (k9_some h9)))))) (fun _ => (k9_some h6)))))))) (fun _ => (k9_some h6)))))))))))))))))))))))
theorem k9_X11_lend (F : Nat) (σ : zMem) (a1 : Int32) (a2 : Int32) (a3 : Int32) : zk9 σ (f_X11_lend F σ a1 a2 a3) := by
  unfold f_X11_lend
  exact (k9_zb (k9_tr (k9_X11_isRight _ _ _) rfl) (fun r2 m2 h1 => (k9_ite (fun _ => (k9_some h1)) (fun _ => (k9_zb (k9_tr (k9_X11_isHouse _ _ _) h1) (fun r10 m10 h2 => (k9_ite (fun _ => (k9_some h2)) (fun _ => (k9_zb (k9_tr (k9_X11_in _ _ _ _ _) h2) (fun r28 m28 h3 => (k9_ite (fun _ => (k9_some h3)) (fun _ => (k9_zb (k9_tr (k9_X11_lent _ _ _) h3) (fun r39 m39 h4 => (k9_ite (fun _ => (k9_zg (fun g5 => (k9_ite (fun _ => (k9_some h4)) (fun _ => (k9_zg (fun g6 => (k9_ite (fun _ => (k9_some h4)) (fun _ => (k9_zg (fun g7 => (k9_zg (fun g8 => (k9_some ((zwi9 _ _ _ _ _ rfl).trans ((zwi9 _ _ _ _ _ rfl).trans h4)))))))))))))))) (fun _ => (k9_some h4)))))))))))))))))
theorem k9_X11_leave (F : Nat) (σ : zMem) (a1 : Int32) (a2 : Int32) : zk9 σ (f_X11_leave F σ a1 a2) := by
  unfold f_X11_leave
  exact (k9_zb (k9_tr (k9_X11_isRight _ _ _) rfl) (fun r2 m2 h1 => (k9_ite (fun _ => (k9_some h1)) (fun _ => (k9_zb (k9_tr (k9_X11_isHouse _ _ _) h1) (fun r10 m10 h2 => (k9_ite (fun _ => (k9_some h2)) (fun _ => (k9_zg (fun g3 => (k9_ite (fun _ => (k9_some h2)) (fun _ => (k9_zg (fun g4 => (k9_zg (fun g5 => (k9_some ((zwi9 _ _ _ _ _ rfl).trans h2))))))))))))))))))
theorem k9_X11_rightOf (F : Nat) (σ : zMem) (a1 : Int32) (a2 : Int32) : zk9 σ (f_X11_rightOf F σ a1 a2) := by
  unfold f_X11_rightOf
  exact (k9_zb (k9_tr (k9_X11_isRight _ _ _) rfl) (fun r2 m2 h1 => (k9_ite (fun _ => (k9_some h1)) (fun _ => (k9_ite (fun _ => (k9_some h1)) (fun _ => (k9_ite (fun _ => (k9_zg (fun g2 => (k9_some h1)))) (fun _ => (k9_ite (fun _ => (k9_zg (fun g3 => (k9_some h1)))) (fun _ => (k9_ite (fun _ => (k9_zg (fun g4 => (k9_some h1)))) (fun _ => (k9_ite (fun _ => (k9_zb (k9_tr (k9_X11_holder _ _ _) h1) (fun r75 m75 h5 => (k9_some h5)))) (fun _ => (k9_ite (fun _ => (k9_zg (fun g6 => (k9_zb (k9_tr (k9_X11_commonOf _ _ _) h1) (fun r85 m85 h7 => (k9_some h7)))))) (fun _ => (k9_ite (fun _ => (k9_zb (k9_tr (k9_X11_lent _ _ _) h1) (fun r91 m91 h8 => (k9_ite (fun _ => (k9_some h8)) (fun _ => (k9_zg (fun g9 => (k9_some h8)))))))) (fun _ => k9_none))))))))))))))))))
theorem k9_X11_partsOf_44 (F : Nat) (rec5 : zMem → Int32 × Int32 × Int32 × Int32 → Option (Int32 × zMem)) (σ : zMem) (l1 : Int32) (l2 : Int32) (l4 : Int32) (s0 : Int32) (hrec5 : ∀ s y, zk9 s (rec5 s y)) : zk9 σ (f_X11_partsOf_44 F rec5 σ l1 l2 l4 s0) := by
  unfold f_X11_partsOf_44
  exact (k9_zg (fun g1 => (k9_tr (hrec5 _ _) rfl)))
theorem k9_X11_partsOf_5 (F : Nat) (rec5 : zMem → Int32 × Int32 × Int32 × Int32 → Option (Int32 × zMem)) (σ : zMem) (x : Int32 × Int32 × Int32 × Int32) (hrec5 : ∀ s y, zk9 s (rec5 s y)) : zk9 σ (f_X11_partsOf_5 F rec5 σ x) := by
  unfold f_X11_partsOf_5
  exact (k9_ite (fun _ => (k9_some rfl)) (fun _ => (k9_zg (fun g1 => (k9_zb (k9_tr (k9_X11_commonOf _ _ _) rfl) (fun r22 m22 h2 => (k9_ite (fun _ => (k9_ite (fun _ => (k9_tr (k9_X11_partsOf_44 _ rec5 _ _ _ _ _ hrec5) h2)) (fun _ => (k9_zb (k9_tr (k9_X11_holder _ _ _) h2) (fun r37 m37 h3 => (k9_ite (fun _ => (k9_tr (k9_X11_partsOf_44 _ rec5 _ _ _ _ _ hrec5) h3)) (fun _ => (k9_tr (hrec5 _ _) h3)))))))) (fun _ => (k9_tr (hrec5 _ _) h2)))))))))
theorem k9_X11_partsOf (F : Nat) (σ : zMem) (a1 : Int32) (a2 : Int32) : zk9 σ (f_X11_partsOf F σ a1 a2) := by
  unfold f_X11_partsOf
  exact (k9_tr (k9_it (fun r hr s y => k9_X11_partsOf_5 _ r s y hr) _ _ _) rfl)
theorem k9_X11_parts_13 (F : Nat) (σ : zMem) (l1 : Int32) (l2 : Int32) : zk9 σ (f_X11_parts_13 F σ l1 l2) := by
  unfold f_X11_parts_13
  exact (k9_zb (k9_tr (k9_X11_in _ _ _ _ _) rfl) (fun r16 m16 h1 => (k9_ite (fun _ => (k9_some h1)) (fun _ => (k9_zb (k9_tr (k9_X11_partsOf _ _ _ _) h1) (fun r25 m25 h2 => (k9_some h2)))))))
theorem k9_X11_parts (F : Nat) (σ : zMem) (a1 : Int32) (a2 : Int32) : zk9 σ (f_X11_parts F σ a1 a2) := by
  unfold f_X11_parts
  exact (k9_ite (fun _ => (k9_tr (k9_X11_parts_13 _ _ _ _) rfl)) (fun _ => (k9_zb (k9_tr (k9_X11_isHouse _ _ _) rfl) (fun r7 m7 h1 => (k9_ite (fun _ => (k9_some h1)) (fun _ => (k9_tr (k9_X11_parts_13 _ _ _ _) h1)))))))
theorem k9_X11_feed_30 (F : Nat) (rec30 : zMem → Int32 × Int32 → Option (Int32 × zMem)) (σ : zMem) (x : Int32 × Int32) (hrec30 : ∀ s y, zk9 s (rec30 s y)) : zk9 σ (f_X11_feed_30 F rec30 σ x) := by
  unfold f_X11_feed_30
  exact (k9_ite (fun _ => (k9_some rfl)) (fun _ => (k9_zg (fun g1 => (k9_tr (hrec30 _ _) ((zwi9 _ _ _ _ _ rfl).trans ((zwi9 _ _ _ _ _ rfl).trans rfl)))))))
theorem k9_X11_feed (F : Nat) (σ : zMem) (a1 : Int32) (a2 : Int32) : zk9 σ (f_X11_feed F σ a1 a2) := by
  unfold f_X11_feed
  exact (k9_zb (k9_tr (k9_X11_in _ _ _ _ _) rfl) (fun r3 m3 h1 => (k9_ite (fun _ => (k9_some h1)) (fun _ => (k9_ite (fun _ => (k9_tr (k9_it (fun r hr s y => k9_X11_feed_30 _ r s y hr) _ _ _) h1)) (fun _ => (k9_some h1)))))))
theorem k9_X11_here (F : Nat) (σ : zMem) : zk9 σ (f_X11_here F σ) := by
  unfold f_X11_here
  exact (k9_ite (fun _ => (k9_some rfl)) (fun _ => (k9_zg (fun g1 => (k9_some rfl)))))
theorem k9_X11_wrong (F : Nat) (σ : zMem) : zk9 σ (f_X11_wrong F σ) := by
  unfold f_X11_wrong
  exact (k9_some ((zwi9 _ _ _ _ _ rfl).trans rfl))
theorem k9_X11_text_2 (F : Nat) (rec2 : zMem → Nat × Int32 → Option (Int32 × zMem)) (σ : zMem) (x : Nat × Int32) (hrec2 : ∀ s y, zk9 s (rec2 s y)) : zk9 σ (f_X11_text_2 F rec2 σ x) := by
  unfold f_X11_text_2
  exact (k9_zg (fun g1 => (k9_zb (k9_tr (k9_J0_length_8abf5 _ _ _) rfl) (fun r4 m4 h2 => (k9_ite (fun _ => (k9_some h2)) (fun _ => (k9_zb (k9_tr (k9_X11_here _ _) h2) (fun r11 m11 h3 => (k9_zb (k9_tr (k9_J0_charAt_5068e _ _ _ _) h3) (fun r16 m16 h4 => (k9_ite (fun _ => (k9_tr (hrec2 _ _) ((zwi9 _ _ _ _ _ rfl).trans h4))) (fun _ => (k9_zb (k9_tr (k9_X11_wrong _ _) h4) (fun r23 m23 h5 => (k9_zg (fun g6 => (k9_some h5)))))))))))))))))
theorem k9_X11_text (F : Nat) (σ : zMem) (a1 : Nat) : zk9 σ (f_X11_text F σ a1) := by
  unfold f_X11_text
  exact (k9_zg (fun g1 => (k9_tr (k9_it (fun r hr s y => k9_X11_text_2 _ r s y hr) _ _ _) rfl)))
theorem k9_X11_numberHere_18 (F : Nat) (σ : zMem) : zk9 σ (f_X11_numberHere_18 F σ) := by
  unfold f_X11_numberHere_18
  exact (k9_zb (k9_tr (k9_X11_wrong _ _) rfl) (fun r19 m19 h1 => (k9_zg (fun g2 => (k9_some h1)))))
theorem k9_X11_numberHere_30 (F : Nat) (rec30 : zMem → Int32 → Option (Int32 × zMem)) (σ : zMem) (x : Int32) (hrec30 : ∀ s y, zk9 s (rec30 s y)) : zk9 σ (f_X11_numberHere_30 F rec30 σ x) := by
  unfold f_X11_numberHere_30
  exact (k9_ite (fun _ => (k9_some rfl)) (fun _ => (k9_zb (k9_tr (k9_X11_here _ _) rfl) (fun r36 m36 h1 => (k9_ite (fun _ => (k9_some h1)) (fun _ => (k9_zb (k9_tr (k9_X11_here _ _) h1) (fun r45 m45 h2 => (k9_ite (fun _ => (k9_some h2)) (fun _ => (k9_zb (k9_tr (k9_X11_here _ _) h2) (fun r62 m62 h3 => (k9_tr (hrec30 _ _) ((zwi9 _ _ _ _ _ rfl).trans ((zwi9 _ _ _ _ _ rfl).trans h3)))))))))))))))
theorem k9_X11_numberHere (F : Nat) (σ : zMem) : zk9 σ (f_X11_numberHere F σ) := by
  unfold f_X11_numberHere
  exact (k9_zb (k9_tr (k9_X11_here _ _) rfl) (fun r1 m1 h1 => (k9_ite (fun _ => (k9_tr (k9_X11_numberHere_18 _ _) h1)) (fun _ => (k9_zb (k9_tr (k9_X11_here _ _) h1) (fun r10 m10 h2 => (k9_ite (fun _ => (k9_tr (k9_it (fun r hr s y => k9_X11_numberHere_30 _ r s y hr) _ _ _) ((zwi9 _ _ _ _ _ rfl).trans h2))) (fun _ => (k9_tr (k9_X11_numberHere_18 _ _) h2)))))))))
theorem k9_X11_is (F : Nat) (σ : zMem) (a1 : Int32) (a2 : Nat) : zk9 σ (f_X11_is F σ a1 a2) := by
  unfold f_X11_is
  exact (k9_zg (fun g1 => (k9_zb (k9_tr (k9_X11_text _ _ _) ((zwi9 _ _ _ _ _ rfl).trans rfl)) (fun r7 m7 h2 => (k9_zg (fun g3 => (k9_some h2)))))))
theorem k9_X11_keyHere_172 (F : Nat) (σ : zMem) : zk9 σ (f_X11_keyHere_172 F σ) := by
  unfold f_X11_keyHere_172
  exact (k9_zb (k9_tr (k9_X11_is _ _ _ _) rfl) (fun r178 m178 h1 => (k9_zg (fun g2 => (k9_some h1)))))
theorem k9_X11_keyHere (F : Nat) (σ : zMem) : zk9 σ (f_X11_keyHere F σ) := by
  unfold f_X11_keyHere
  exact (k9_zb (k9_tr (k9_X11_here _ _) rfl) (fun r1 m1 h1 => (k9_ite (fun _ => (k9_tr (k9_X11_keyHere_172 _ _) h1)) (fun _ => (k9_ite (fun _ => (k9_zb (k9_tr (k9_X11_here _ _) ((zwi9 _ _ _ _ _ rfl).trans h1)) (fun r99 m99 h2 => (k9_ite (fun _ => (k9_zb (k9_tr (k9_X11_is _ _ _ _) h2) (fun r111 m111 h3 => (k9_zg (fun g4 => (k9_some h3)))))) (fun _ => (k9_zb (k9_tr (k9_X11_here _ _) h2) (fun r118 m118 h5 => (k9_ite (fun _ => (k9_zb (k9_tr (k9_X11_is _ _ _ _) h5) (fun r130 m130 h6 => (k9_zg (fun g7 => (k9_some h6)))))) (fun _ => (k9_zb (k9_tr (k9_X11_is _ _ _ _) h5) (fun r140 m140 h8 => (k9_zg (fun g9 => (k9_some h8)))))))))))))) (fun _ => (k9_ite (fun _ => (k9_tr (k9_X11_keyHere_172 _ _) h1)) (fun _ => (k9_ite (fun _ => (k9_zb (k9_tr (k9_X11_is _ _ _ _) h1) (fun r158 m158 h10 => (k9_zg (fun g11 => (k9_some h10)))))) (fun _ => (k9_ite (fun _ => (k9_tr (k9_X11_keyHere_172 _ _) h1)) (fun _ => (k9_ite (fun _ => (k9_tr (k9_X11_keyHere_172 _ _) h1)) (fun _ => (k9_ite (fun _ => (k9_tr (k9_X11_keyHere_172 _ _) h1)) (fun _ => (k9_ite (fun _ => (k9_zb (k9_tr (k9_X11_is _ _ _ _) h1) (fun r168 m168 h12 => (k9_zg (fun g13 => (k9_some h12)))))) (fun _ => (k9_ite (fun _ => (k9_tr (k9_X11_keyHere_172 _ _) h1)) (fun _ => (k9_ite (fun _ => (k9_tr (k9_X11_keyHere_172 _ _) h1)) (fun _ => (k9_ite (fun _ => (k9_tr (k9_X11_keyHere_172 _ _) h1)) (fun _ => (k9_ite (fun _ => (k9_tr (k9_X11_keyHere_172 _ _) h1)) (fun _ => (k9_ite (fun _ => (k9_tr (k9_X11_keyHere_172 _ _) h1)) (fun _ => (k9_ite (fun _ => (k9_zb (k9_tr (k9_X11_is _ _ _ _) h1) (fun r84 m84 h14 => (k9_zg (fun g15 => (k9_some h14)))))) (fun _ => (k9_ite (fun _ => (k9_tr (k9_X11_keyHere_172 _ _) h1)) (fun _ => (k9_ite (fun _ => (k9_zb (k9_tr (k9_X11_is _ _ _ _) h1) (fun r149 m149 h16 => (k9_zg (fun g17 => (k9_some h16)))))) (fun _ => k9_none))))))))))))))))))))))))))))))))))
theorem k9_X11_fieldHere (F : Nat) (σ : zMem) : zk9 σ (f_X11_fieldHere F σ) := by
  unfold f_X11_fieldHere
  exact (k9_zb (k9_tr (k9_X11_here _ _) rfl) (fun r1 m1 h1 => (k9_ite (fun _ => (k9_zb (k9_tr (k9_X11_is _ _ _ _) h1) (fun r45 m45 h2 => (k9_zg (fun g3 => (k9_some h2)))))) (fun _ => (k9_ite (fun _ => (k9_zb (k9_tr (k9_X11_is _ _ _ _) h1) (fun r63 m63 h4 => (k9_zg (fun g5 => (k9_some h4)))))) (fun _ => (k9_ite (fun _ => (k9_zb (k9_tr (k9_X11_is _ _ _ _) h1) (fun r54 m54 h6 => (k9_zg (fun g7 => (k9_some h6)))))) (fun _ => (k9_zb (k9_tr (k9_X11_text _ _ _) h1) (fun r71 m71 h8 => (k9_ite (fun _ => (k9_some h8)) (fun _ => (k9_zb (k9_tr (k9_X11_here _ _) h8) (fun r80 m80 h9 => (k9_ite (fun _ => (k9_zb (k9_tr (k9_X11_is _ _ _ _) h9) (fun r93 m93 h10 => (k9_zg (fun g11 => (k9_some h10)))))) (fun _ => (k9_zb (k9_tr (k9_X11_text _ _ _) h9) (fun r101 m101 h12 => (k9_ite (fun _ => (k9_some h12)) (fun _ => (k9_zb (k9_tr (k9_X11_here _ _) h12) (fun r108 m108 h13 => (k9_ite (fun _ => (k9_zb (k9_tr (k9_X11_is _ _ _ _) h13) (fun r121 m121 h14 => (k9_ite (fun _ => (k9_some h14)) (fun _ => (k9_some h14)))))) (fun _ => (k9_zb (k9_tr (k9_X11_is _ _ _ _) h13) (fun r135 m135 h15 => (k9_ite (fun _ => (k9_some h15)) (fun _ => (k9_some h15)))))))))))))))))))))))))))))
theorem k9_X11_testHere_89 (F : Nat) (σ : zMem) (l1 : Int32) : zk9 σ (f_X11_testHere_89 F σ l1) := by
  unfold f_X11_testHere_89
  exact (k9_zg (fun g1 => (k9_zb (k9_tr (k9_X11_numberHere _ _) ((zwi9 _ _ _ _ _ rfl).trans ((zwi9 _ _ _ _ _ rfl).trans rfl))) (fun r107 m107 h2 => (k9_zg (fun g3 => (k9_zg (fun g4 => (k9_some ((zwi9 _ _ _ _ _ rfl).trans h2))))))))))
theorem k9_X11_testHere_42 (F : Nat) (σ : zMem) : zk9 σ (f_X11_testHere_42 F σ) := by
  unfold f_X11_testHere_42
  exact (k9_zb (k9_tr (k9_X11_fieldHere _ _) rfl) (fun r43 m43 h1 => (k9_ite (fun _ => (k9_some h1)) (fun _ => (k9_zg (fun g2 => (k9_zb (k9_tr (k9_X11_here _ _) ((zwi9 _ _ _ _ _ rfl).trans h1)) (fun r62 m62 h3 => (k9_ite (fun _ => (k9_tr (k9_X11_testHere_89 _ _ _) h3)) (fun _ => (k9_ite (fun _ => (k9_tr (k9_X11_testHere_89 _ _ _) h3)) (fun _ => (k9_ite (fun _ => (k9_tr (k9_X11_testHere_89 _ _ _) h3)) (fun _ => (k9_zb (k9_tr (k9_X11_wrong _ _) h3) (fun r85 m85 h4 => (k9_zg (fun g5 => (k9_some h4)))))))))))))))))))
theorem k9_X11_testHere_19 (F : Nat) (σ : zMem) (s0 : Int32) (s1 : Int32) : zk9 σ (f_X11_testHere_19 F σ s0 s1) := by
  unfold f_X11_testHere_19
  exact (k9_zg (fun g1 => (k9_zg (fun g2 => (k9_ite (fun _ => (k9_zb (k9_tr (k9_X11_text _ _ _) ((zwi9 _ _ _ _ _ rfl).trans rfl)) (fun r34 m34 h3 => (k9_ite (fun _ => (k9_some h3)) (fun _ => (k9_tr (k9_X11_testHere_42 _ _) h3)))))) (fun _ => (k9_tr (k9_X11_testHere_42 _ _) ((zwi9 _ _ _ _ _ rfl).trans rfl))))))))
theorem k9_X11_testHere (F : Nat) (σ : zMem) : zk9 σ (f_X11_testHere F σ) := by
  unfold f_X11_testHere
  exact (k9_zb (k9_tr (k9_X11_here _ _) rfl) (fun r6 m6 h1 => (k9_ite (fun _ => (k9_tr (k9_X11_testHere_19 _ _ _ _) h1)) (fun _ => (k9_tr (k9_X11_testHere_19 _ _ _ _) h1)))))
theorem k9_X11_wordHere_209 (F : Nat) (σ : zMem) : zk9 σ (f_X11_wordHere_209 F σ) := by
  unfold f_X11_wordHere_209
  exact (k9_zb (k9_tr (k9_X11_wrong _ _) rfl) (fun r210 m210 h1 => (k9_zg (fun g2 => (k9_some h1)))))
theorem k9_X11_wordHere_264 (F : Nat) (rec139 : zMem → Nat → Option (Int32 × zMem)) (σ : zMem) (l1 : Nat) (s0 : Nat) (hrec139 : ∀ s y, zk9 s (rec139 s y)) : zk9 σ (f_X11_wordHere_264 F rec139 σ l1 s0) := by
  unfold f_X11_wordHere_264
  exact (k9_zg (fun g1 => (k9_zg (fun g2 => (k9_zb (k9_tr (k9_X11_text _ _ _) rfl) (fun r264 m264 h3 => (k9_ite (fun _ => (k9_some h3)) (fun _ => (k9_tr (hrec139 _ _) h3)))))))))
theorem k9_X11_wordHere_243 (F : Nat) (rec139 : zMem → Nat → Option (Int32 × zMem)) (σ : zMem) (l1 : Nat) (s0 : Int32) (s1 : Int32) (hrec139 : ∀ s y, zk9 s (rec139 s y)) : zk9 σ (f_X11_wordHere_243 F rec139 σ l1 s0 s1) := by
  unfold f_X11_wordHere_243
  exact (k9_zg (fun g1 => (k9_zg (fun g2 => (k9_zg (fun g3 => (k9_ite (fun _ => (k9_tr (k9_X11_wordHere_264 _ rec139 _ _ _ hrec139) ((zwi9 _ _ _ _ _ rfl).trans rfl))) (fun _ => (k9_tr (k9_X11_wordHere_264 _ rec139 _ _ _ hrec139) ((zwi9 _ _ _ _ _ rfl).trans rfl))))))))))
theorem k9_X11_wordHere_139 (F : Nat) (rec139 : zMem → Nat → Option (Int32 × zMem)) (σ : zMem) (x : Nat) (hrec139 : ∀ s y, zk9 s (rec139 s y)) : zk9 σ (f_X11_wordHere_139 F rec139 σ x) := by
  unfold f_X11_wordHere_139
  exact (k9_zg (fun g1 => (k9_zb (k9_tr (k9_X11_testHere _ _) rfl) (fun r140 m140 h2 => (k9_ite (fun _ => (k9_some h2)) (fun _ => (k9_zg (fun g3 => (k9_zg (fun g4 => (k9_zg (fun g5 => (k9_zg (fun g6 => (k9_zg (fun g7 => (k9_ite (fun _ => (k9_some ((zwi9 _ _ _ _ _ rfl).trans ((zcpi9 _ _ _ _ _ _ _ _ rfl).trans h2)))) (fun _ => (k9_zb (k9_tr (k9_X11_here _ _) ((zwi9 _ _ _ _ _ rfl).trans ((zcpi9 _ _ _ _ _ _ _ _ rfl).trans h2))) (fun r194 m194 h8 => (k9_ite (fun _ => (k9_zg (fun g9 => (k9_ite (fun _ => (k9_tr (k9_X11_wordHere_209 _ _) h8)) (fun _ => (k9_zb (k9_tr (k9_X11_here _ _) ((zwi9 _ _ _ _ _ rfl).trans h8)) (fun r230 m230 h10 => (k9_ite (fun _ => (k9_tr (k9_X11_wordHere_243 _ rec139 _ _ _ _ hrec139) h10)) (fun _ => (k9_tr (k9_X11_wordHere_243 _ rec139 _ _ _ _ hrec139) h10)))))))))) (fun _ => (k9_tr (k9_X11_wordHere_209 _ _) h8)))))))))))))))))))))))
theorem k9_X11_wordHere_124 (F : Nat) (σ : zMem) (l1 : Nat) (s0 : Nat) : zk9 σ (f_X11_wordHere_124 F σ l1 s0) := by
  unfold f_X11_wordHere_124
  exact (k9_zg (fun g1 => (k9_zg (fun g2 => (k9_zb (k9_tr (k9_X11_text _ _ _) rfl) (fun r124 m124 h3 => (k9_ite (fun _ => (k9_some h3)) (fun _ => (k9_zg (fun g4 => (k9_tr (k9_it (fun r hr s y => k9_X11_wordHere_139 _ r s y hr) _ _ _) ((zwi9 _ _ _ _ _ rfl).trans h3))))))))))))
theorem k9_X11_wordHere_106 (F : Nat) (σ : zMem) (l1 : Nat) (s0 : Int32) (s1 : Int32) (s2 : Nat) : zk9 σ (f_X11_wordHere_106 F σ l1 s0 s1 s2) := by
  unfold f_X11_wordHere_106
  exact (k9_zg (fun g1 => (k9_zg (fun g2 => (k9_zg (fun g3 => (k9_zg (fun g4 => (k9_ite (fun _ => (k9_tr (k9_X11_wordHere_124 _ _ _ _) ((zwi9 _ _ _ _ _ rfl).trans rfl))) (fun _ => (k9_tr (k9_X11_wordHere_124 _ _ _ _) ((zwi9 _ _ _ _ _ rfl).trans rfl))))))))))))
theorem k9_X11_wordHere (F : Nat) (σ : zMem) : zk9 σ (f_X11_wordHere F σ) := by
  unfold f_X11_wordHere
  exact (k9_zg (fun g1 => (k9_zg (fun g2 => (k9_zg (fun g3 => (k9_zb (k9_tr (k9_X11_keyHere _ _) ((zwi9 _ _ _ _ _ rfl).trans ((zwi9 _ _ _ _ _ rfl).trans ((zwi9 _ _ _ _ _ rfl).trans rfl)))) (fun r24 m24 h4 => (k9_ite (fun _ => (k9_some h4)) (fun _ => (k9_zg (fun g5 => (k9_zb (k9_tr (k9_X11_text _ _ _) ((zwi9 _ _ _ _ _ rfl).trans h4)) (fun r43 m43 h6 => (k9_ite (fun _ => (k9_some h6)) (fun _ => (k9_zb (k9_tr (k9_X11_numberHere _ _) h6) (fun r50 m50 h7 => (k9_ite (fun _ => (k9_some h7)) (fun _ => (k9_zg (fun g8 => (k9_ite (fun _ => (k9_some ((zwi9 _ _ _ _ _ rfl).trans h7))) (fun _ => (k9_zb (k9_tr (k9_X11_text _ _ _) ((zwi9 _ _ _ _ _ rfl).trans h7)) (fun r82 m82 h9 => (k9_ite (fun _ => (k9_some h9)) (fun _ => (k9_zb (k9_tr (k9_X11_here _ _) h9) (fun r93 m93 h10 => (k9_ite (fun _ => (k9_tr (k9_X11_wordHere_106 _ _ _ _ _ _) h10)) (fun _ => (k9_tr (k9_X11_wordHere_106 _ _ _ _ _ _) h10)))))))))))))))))))))))))))))))))
theorem k9_X11_vote (F : Nat) (σ : zMem) (a1 : Int32) (a2 : Int32) : zk9 σ (f_X11_vote F σ a1 a2) := by
  unfold f_X11_vote
  exact (k9_ite (fun _ => (k9_ite (fun _ => (k9_some rfl)) (fun _ => (k9_zb (k9_tr (k9_X11_wordHere _ _) rfl) (fun r33 m33 h1 => (k9_ite (fun _ => (k9_some ((zwi9 _ _ _ _ _ rfl).trans h1))) (fun _ => (k9_zb (k9_tr (k9_J6_bitCount_0f7a4 _ _ _) ((zwi9 _ _ _ _ _ rfl).trans h1)) (fun r57 m57 h2 => (k9_ite (fun _ => (k9_zb (k9_tr (k9_J6_bitCount_0f7a4 _ _ _) h2) (fun r69 m69 h3 => (k9_zb (k9_tr (k9_J6_bitCount_0f7a4 _ _ _) h3) (fun r73 m73 h4 => (k9_ite (fun _ => (k9_some h4)) (fun _ => (k9_ite (fun _ => (k9_zg (fun g5 => (k9_zg (fun g6 => (k9_zg (fun g7 => (k9_zg (fun g8 => (k9_some ((zwi9 _ _ _ _ _ rfl).trans ((zwi9 _ _ _ _ _ rfl).trans ((zwi9 _ _ _ _ _ rfl).trans h4))))))))))))) (fun _ => (k9_some h4)))))))))) (fun _ => (k9_some h2)))))))))))) (fun _ => (k9_some rfl)))
theorem k9_X11_fieldOf (F : Nat) (σ : zMem) (a1 : Int32) (a2 : Int32) (a3 : Int32) : zk9 σ (f_X11_fieldOf F σ a1 a2 a3) := by
  unfold f_X11_fieldOf
  exact (k9_ite (fun _ => (k9_zg (fun g1 => (k9_some rfl)))) (fun _ => (k9_ite (fun _ => (k9_zg (fun g2 => (k9_zg (fun g3 => (k9_some rfl)))))) (fun _ => (k9_ite (fun _ => (k9_zg (fun g4 => (k9_zg (fun g5 => (k9_some rfl)))))) (fun _ => (k9_ite (fun _ => (k9_zg (fun g6 => (k9_zg (fun g7 => (k9_some rfl)))))) (fun _ => (k9_ite (fun _ => (k9_zg (fun g8 => (k9_zg (fun g9 => (k9_some rfl)))))) (fun _ => (k9_ite (fun _ => (k9_zg (fun g10 => (k9_some rfl)))) (fun _ => k9_none))))))))))))
theorem k9_X11_one_101 (F : Nat) (σ : zMem) (s0 : Int32) (s1 : Int32) : zk9 σ (f_X11_one_101 F σ s0 s1) := by
  unfold f_X11_one_101
  exact (k9_ite (fun _ => (k9_some rfl)) (fun _ => (k9_some rfl)))
theorem k9_X11_one_85 (F : Nat) (σ : zMem) (l1 : Nat) (l2 : Int32) (s0 : Int32) : zk9 σ (f_X11_one_85 F σ l1 l2 s0) := by
  unfold f_X11_one_85
  exact (k9_zg (fun g1 => (k9_zg (fun g2 => (k9_ite (fun _ => (k9_tr (k9_X11_one_101 _ _ _ _) rfl)) (fun _ => (k9_tr (k9_X11_one_101 _ _ _ _) rfl)))))))
theorem k9_X11_one (F : Nat) (σ : zMem) (a1 : Nat) (a2 : Int32) (a3 : Int32) (a4 : Int32) : zk9 σ (f_X11_one F σ a1 a2 a3 a4) := by
  unfold f_X11_one
  exact (k9_zg (fun g1 => (k9_zg (fun g2 => (k9_zb (k9_tr (k9_X11_fieldOf _ _ _ _ _) rfl) (fun r9 m9 h3 => (k9_zg (fun g4 => (k9_ite (fun _ => (k9_zg (fun g5 => (k9_ite (fun _ => (k9_tr (k9_X11_one_85 _ _ _ _ _) h3)) (fun _ => (k9_tr (k9_X11_one_85 _ _ _ _ _) h3)))))) (fun _ => (k9_zg (fun g6 => (k9_ite (fun _ => (k9_zg (fun g7 => (k9_ite (fun _ => (k9_tr (k9_X11_one_85 _ _ _ _ _) h3)) (fun _ => (k9_tr (k9_X11_one_85 _ _ _ _ _) h3)))))) (fun _ => (k9_zg (fun g8 => (k9_ite (fun _ => (k9_tr (k9_X11_one_85 _ _ _ _ _) h3)) (fun _ => (k9_tr (k9_X11_one_85 _ _ _ _ _) h3)))))))))))))))))))
theorem k9_X11_hold_63 (F : Nat) (rec22 : zMem → Int32 × Int32 × Int32 × Int32 × Int32 × Int32 → Option (Int32 × zMem)) (σ : zMem) (l1 : Int32) (l2 : Int32) (l3 : Int32) (l4 : Int32) (l5 : Int32) (l6 : Int32) (hrec22 : ∀ s y, zk9 s (rec22 s y)) : zk9 σ (f_X11_hold_63 F rec22 σ l1 l2 l3 l4 l5 l6) := by
  unfold f_X11_hold_63
  exact (k9_zg (fun g1 => (k9_zb (k9_tr (k9_X11_one _ _ _ _ _ _) rfl) (fun r79 m79 h2 => (k9_tr (hrec22 _ _) h2)))))
theorem k9_X11_hold_113 (F : Nat) (σ : zMem) (s0 : Int32) (s1 : Int32) : zk9 σ (f_X11_hold_113 F σ s0 s1) := by
  unfold f_X11_hold_113
  exact (k9_ite (fun _ => (k9_some rfl)) (fun _ => (k9_some rfl)))
theorem k9_X11_hold_22 (F : Nat) (rec22 : zMem → Int32 × Int32 × Int32 × Int32 × Int32 × Int32 → Option (Int32 × zMem)) (σ : zMem) (x : Int32 × Int32 × Int32 × Int32 × Int32 × Int32) (hrec22 : ∀ s y, zk9 s (rec22 s y)) : zk9 σ (f_X11_hold_22 F rec22 σ x) := by
  unfold f_X11_hold_22
  exact (k9_zg (fun g1 => (k9_zg (fun g2 => (k9_ite (fun _ => (k9_zg (fun g3 => (k9_zg (fun g4 => (k9_ite (fun _ => (k9_tr (k9_X11_hold_113 _ _ _ _) rfl)) (fun _ => (k9_tr (k9_X11_hold_113 _ _ _ _) rfl)))))))) (fun _ => (k9_zg (fun g5 => (k9_zg (fun g6 => (k9_ite (fun _ => (k9_tr (k9_X11_hold_63 _ rec22 _ _ _ _ _ _ _ hrec22) rfl)) (fun _ => (k9_tr (k9_X11_hold_63 _ rec22 _ _ _ _ _ _ _ hrec22) rfl)))))))))))))
theorem k9_X11_hold (F : Nat) (σ : zMem) (a1 : Int32) (a2 : Int32) (a3 : Int32) : zk9 σ (f_X11_hold F σ a1 a2 a3) := by
  unfold f_X11_hold
  exact (k9_zg (fun g1 => (k9_zg (fun g2 => (k9_ite (fun _ => (k9_some rfl)) (fun _ => (k9_tr (k9_it (fun r hr s y => k9_X11_hold_22 _ r s y hr) _ _ _) rfl)))))))
theorem k9_X11_whyOf_73 (F : Nat) (rec6 : zMem → Int32 × Int32 × Int32 × Int32 × Int32 × Int32 → Option (Int32 × zMem)) (σ : zMem) (l1 : Int32) (l2 : Int32) (l3 : Int32) (l4 : Int32) (l5 : Int32) (l6 : Int32) (s0 : Int32) (hrec6 : ∀ s y, zk9 s (rec6 s y)) : zk9 σ (f_X11_whyOf_73 F rec6 σ l1 l2 l3 l4 l5 l6 s0) := by
  unfold f_X11_whyOf_73
  exact (k9_ite (fun _ => (k9_tr (hrec6 _ _) rfl)) (fun _ => (k9_zg (fun g1 => (k9_zg (fun g2 => (k9_ite (fun _ => (k9_zb (k9_tr (k9_X11_hold _ _ _ _ _) rfl) (fun r98 m98 h3 => (k9_ite (fun _ => (k9_tr (hrec6 _ _) h3)) (fun _ => (k9_tr (hrec6 _ _) h3)))))) (fun _ => (k9_tr (hrec6 _ _) rfl)))))))))
theorem k9_X11_whyOf_6 (F : Nat) (rec6 : zMem → Int32 × Int32 × Int32 × Int32 × Int32 × Int32 → Option (Int32 × zMem)) (σ : zMem) (x : Int32 × Int32 × Int32 × Int32 × Int32 × Int32) (hrec6 : ∀ s y, zk9 s (rec6 s y)) : zk9 σ (f_X11_whyOf_6 F rec6 σ x) := by
  unfold f_X11_whyOf_6
  exact (k9_ite (fun _ => (k9_some rfl)) (fun _ => (k9_zg (fun g1 => (k9_zg (fun g2 => (k9_ite (fun _ => (k9_tr (k9_X11_whyOf_73 _ rec6 _ _ _ _ _ _ _ _ hrec6) rfl)) (fun _ => (k9_zg (fun g3 => (k9_zg (fun g4 => (k9_ite (fun _ => (k9_tr (k9_X11_whyOf_73 _ rec6 _ _ _ _ _ _ _ _ hrec6) rfl)) (fun _ => (k9_zg (fun g5 => (k9_zg (fun g6 => (k9_ite (fun _ => (k9_tr (k9_X11_whyOf_73 _ rec6 _ _ _ _ _ _ _ _ hrec6) rfl)) (fun _ => (k9_zg (fun g7 => (k9_zg (fun g8 => (k9_ite (fun _ => (k9_tr (k9_X11_whyOf_73 _ rec6 _ _ _ _ _ _ _ _ hrec6) rfl)) (fun _ => (k9_tr (k9_X11_whyOf_73 _ rec6 _ _ _ _ _ _ _ _ hrec6) rfl)))))))))))))))))))))))))))
theorem k9_X11_whyOf (F : Nat) (σ : zMem) (a1 : Int32) (a2 : Int32) (a3 : Int32) (a4 : Int32) : zk9 σ (f_X11_whyOf F σ a1 a2 a3 a4) := by
  unfold f_X11_whyOf
  exact (k9_tr (k9_it (fun r hr s y => k9_X11_whyOf_6 _ r s y hr) _ _ _) rfl)
theorem k9_X11_valueOf (F : Nat) (σ : zMem) (a1 : Int32) (a2 : Int32) (a3 : Int32) (a4 : Int32) : zk9 σ (f_X11_valueOf F σ a1 a2 a3 a4) := by
  unfold f_X11_valueOf
  exact (k9_zb (k9_tr (k9_X11_whyOf _ _ _ _ _ _) rfl) (fun r6 m6 h1 => (k9_ite (fun _ => (k9_zg (fun g2 => (k9_zg (fun g3 => (k9_some h1)))))) (fun _ => (k9_zg (fun g4 => (k9_some h1)))))))
theorem k9_X11_now (F : Nat) (σ : zMem) (a1 : Int32) (a2 : Int32) : zk9 σ (f_X11_now F σ a1 a2) := by
  unfold f_X11_now
  exact (k9_zb (k9_tr (k9_X11_valueOf _ _ _ _ _ _) rfl) (fun r11 m11 h1 => (k9_some h1)))
theorem k9_X11_voids_46 (F : Nat) (rec46 : zMem → Int32 × Int32 × Int32 → Option (Int32 × zMem)) (σ : zMem) (x : Int32 × Int32 × Int32) (hrec46 : ∀ s y, zk9 s (rec46 s y)) : zk9 σ (f_X11_voids_46 F rec46 σ x) := by
  unfold f_X11_voids_46
  exact (k9_ite (fun _ => (k9_some rfl)) (fun _ => (k9_zg (fun g1 => (k9_zg (fun g2 => (k9_ite (fun _ => (k9_tr (hrec46 _ _) rfl)) (fun _ => (k9_zg (fun g3 => (k9_zg (fun g4 => (k9_ite (fun _ => (k9_tr (hrec46 _ _) rfl)) (fun _ => (k9_tr (hrec46 _ _) rfl)))))))))))))))
theorem k9_X11_voids (F : Nat) (σ : zMem) (a1 : Int32) : zk9 σ (f_X11_voids F σ a1) := by
  unfold f_X11_voids
  exact (k9_zb (k9_tr (k9_X11_in _ _ _ _ _) rfl) (fun r8 m8 h1 => (k9_ite (fun _ => (k9_some h1)) (fun _ => (k9_zg (fun g2 => (k9_zg (fun g3 => (k9_ite (fun _ => (k9_zg (fun g4 => (k9_zg (fun g5 => (k9_tr (k9_it (fun r hr s y => k9_X11_voids_46 _ r s y hr) _ _ _) ((zwi9 _ _ _ _ _ rfl).trans h1))))))) (fun _ => (k9_some h1)))))))))))
theorem k9_X11_isAsked (F : Nat) (σ : zMem) (a1 : Int32) (a2 : Int32) (a3 : Int32) (a4 : Int32) : zk9 σ (f_X11_isAsked F σ a1 a2 a3 a4) := by
  unfold f_X11_isAsked
  exact (k9_zb (k9_tr (k9_X11_isHouse _ _ _) rfl) (fun r2 m2 h1 => (k9_ite (fun _ => (k9_some h1)) (fun _ => (k9_zb (k9_tr (k9_X11_in _ _ _ _ _) h1) (fun r12 m12 h2 => (k9_ite (fun _ => (k9_some h2)) (fun _ => (k9_ite (fun _ => (k9_some h2)) (fun _ => (k9_ite (fun _ => (k9_some h2)) (fun _ => (k9_some h2)))))))))))))
theorem k9_X11_value (F : Nat) (σ : zMem) (a1 : Int32) (a2 : Int32) (a3 : Int32) (a4 : Int32) : zk9 σ (f_X11_value F σ a1 a2 a3 a4) := by
  unfold f_X11_value
  exact (k9_zb (k9_tr (k9_X11_isAsked _ _ _ _ _ _) rfl) (fun r6 m6 h1 => (k9_ite (fun _ => (k9_some h1)) (fun _ => (k9_zb (k9_tr (k9_X11_valueOf _ _ _ _ _ _) h1) (fun r18 m18 h2 => (k9_some h2)))))))
theorem k9_X11_why (F : Nat) (σ : zMem) (a1 : Int32) (a2 : Int32) (a3 : Int32) (a4 : Int32) : zk9 σ (f_X11_why F σ a1 a2 a3 a4) := by
  unfold f_X11_why
  exact (k9_zb (k9_tr (k9_X11_isAsked _ _ _ _ _ _) rfl) (fun r6 m6 h1 => (k9_ite (fun _ => (k9_some h1)) (fun _ => (k9_zb (k9_tr (k9_X11_whyOf _ _ _ _ _ _) h1) (fun r18 m18 h2 => (k9_some h2)))))))
theorem k9_X11_isSky (F : Nat) (σ : zMem) (a0 : Int32) (a1 : Int32) : zk9 σ (f_X11_isSky F σ a0 a1) := by
  unfold f_X11_isSky
  exact (k9_ite (fun _ => (k9_zb (k9_tr (k9_X11_in _ _ _ _ _) rfl) (fun r9 m9 h1 => (k9_zg (fun g2 => (k9_some h1)))))) (fun _ => (k9_zb (k9_tr (k9_X11_in _ _ _ _ _) rfl) (fun r20 m20 h3 => (k9_zg (fun g4 => (k9_some h3)))))))
theorem k9_X11_weather (F : Nat) (σ : zMem) (a1 : Int32) (a2 : Int32) (a3 : Int32) : zk9 σ (f_X11_weather F σ a1 a2 a3) := by
  unfold f_X11_weather
  exact (k9_zb (k9_tr (k9_X11_in _ _ _ _ _) rfl) (fun r5 m5 h1 => (k9_ite (fun _ => (k9_some h1)) (fun _ => (k9_zb (k9_tr (k9_X11_in _ _ _ _ _) h1) (fun r14 m14 h2 => (k9_ite (fun _ => (k9_some h2)) (fun _ => (k9_zb (k9_tr (k9_X11_isSky _ _ _ _) h2) (fun r24 m24 h3 => (k9_ite (fun _ => (k9_some h3)) (fun _ => (k9_zg (fun g4 => (k9_zg (fun g5 => (k9_zg (fun g6 => (k9_zg (fun g7 => (k9_some ((zwi9 _ _ _ _ _ rfl).trans ((zwi9 _ _ _ _ _ rfl).trans h3)))))))))))))))))))))))
theorem k9_X11_sky_114 (F : Nat) (rec114 : zMem → Int32 × Int32 × Int32 × Int32 × Int32 × Int32 × Int32 → Option (Int32 × zMem)) (σ : zMem) (x : Int32 × Int32 × Int32 × Int32 × Int32 × Int32 × Int32) (hrec114 : ∀ s y, zk9 s (rec114 s y)) : zk9 σ (f_X11_sky_114 F rec114 σ x) := by
  unfold f_X11_sky_114
  exact (k9_ite (fun _ => (k9_some rfl)) (fun _ => (k9_zg (fun g1 => (k9_zg (fun g2 => (k9_zg (fun g3 => (k9_zg (fun g4 => (k9_zg (fun g5 => (k9_ite (fun _ => (k9_zb (k9_tr (k9_X11_isSky _ _ _ _) rfl) (fun r155 m155 h6 => (k9_ite (fun _ => (k9_tr (hrec114 _ _) h6)) (fun _ => (k9_zg (fun g7 => (k9_zg (fun g8 => (k9_zg (fun g9 => (k9_zg (fun g10 => (k9_tr (hrec114 _ _) ((zwi9 _ _ _ _ _ rfl).trans ((zwi9 _ _ _ _ _ rfl).trans h6)))))))))))))))) (fun _ => (k9_tr (hrec114 _ _) rfl)))))))))))))))
theorem k9_X11_sky (F : Nat) (σ : zMem) (a1 : Int32) (a2 : Int32) (a3 : Int32) (a4 : Int32) (a5 : Int32) : zk9 σ (f_X11_sky F σ a1 a2 a3 a4 a5) := by
  unfold f_X11_sky
  exact (k9_zb (k9_tr (k9_X11_in _ _ _ _ _) rfl) (fun r5 m5 h1 => (k9_ite (fun _ => (k9_some h1)) (fun _ => (k9_zb (k9_tr (k9_X11_in _ _ _ _ _) h1) (fun r14 m14 h2 => (k9_ite (fun _ => (k9_some h2)) (fun _ => (k9_zb (k9_tr (k9_X11_in _ _ _ _ _) h2) (fun r23 m23 h3 => (k9_ite (fun _ => (k9_some h3)) (fun _ => (k9_ite (fun _ => (k9_some h3)) (fun _ => (k9_ite (fun _ => (k9_ite (fun _ => (k9_some h3)) (fun _ => (k9_zg (fun g4 => (k9_ite (fun _ => (k9_some h3)) (fun _ => (k9_zg (fun g5 => (k9_ite (fun _ => (k9_ite (fun _ => (k9_some h3)) (fun _ => (k9_zg (fun g6 => (k9_ite (fun _ => (k9_tr (k9_it (fun r hr s y => k9_X11_sky_114 _ r s y hr) _ _ _) h3)) (fun _ => (k9_some h3)))))))) (fun _ => (k9_some h3)))))))))))) (fun _ => (k9_some h3)))))))))))))))))
theorem k9_X11_skyAt_2 (F : Nat) (rec2 : zMem → Int32 × Int32 → Option (Int32 × zMem)) (σ : zMem) (x : Int32 × Int32) (hrec2 : ∀ s y, zk9 s (rec2 s y)) : zk9 σ (f_X11_skyAt_2 F rec2 σ x) := by
  unfold f_X11_skyAt_2
  exact (k9_ite (fun _ => (k9_ite (fun _ => (k9_some rfl)) (fun _ => (k9_some rfl)))) (fun _ => (k9_zg (fun g1 => (k9_zg (fun g2 => (k9_ite (fun _ => (k9_tr (hrec2 _ _) rfl)) (fun _ => (k9_zg (fun g3 => (k9_zg (fun g4 => (k9_some rfl)))))))))))))
theorem k9_X11_skyAt (F : Nat) (σ : zMem) (a1 : Int32) (a2 : Int32) : zk9 σ (f_X11_skyAt F σ a1 a2) := by
  unfold f_X11_skyAt
  exact (k9_tr (k9_it (fun r hr s y => k9_X11_skyAt_2 _ r s y hr) _ _ _) rfl)
theorem k9_X11_skyOf (F : Nat) (σ : zMem) (a1 : Int32) (a2 : Int32) : zk9 σ (f_X11_skyOf F σ a1 a2) := by
  unfold f_X11_skyOf
  exact (k9_zb (k9_tr (k9_X11_in _ _ _ _ _) rfl) (fun r5 m5 h1 => (k9_ite (fun _ => (k9_some h1)) (fun _ => (k9_zb (k9_tr (k9_X11_in _ _ _ _ _) h1) (fun r14 m14 h2 => (k9_ite (fun _ => (k9_some h2)) (fun _ => (k9_zb (k9_tr (k9_X11_skyAt _ _ _ _) h2) (fun r23 m23 h3 => (k9_some h3)))))))))))
theorem k9_X11_alp (F : Nat) (σ : zMem) (a1 : Int32) (a2 : Int32) : zk9 σ (f_X11_alp F σ a1 a2) := by
  unfold f_X11_alp
  exact (k9_zb (k9_tr (k9_X11_in _ _ _ _ _) rfl) (fun r3 m3 h1 => (k9_ite (fun _ => (k9_some h1)) (fun _ => (k9_zb (k9_tr (k9_X11_in _ _ _ _ _) h1) (fun r13 m13 h2 => (k9_ite (fun _ => (k9_some h2)) (fun _ => (k9_ite (fun _ => (k9_some h2)) (fun _ => (k9_zg (fun g3 => (k9_zg (fun g4 => (k9_some ((zwi9 _ _ _ _ _ rfl).trans ((zwi9 _ _ _ _ _ rfl).trans ((zwi9 _ _ _ _ _ rfl).trans h2))))))))))))))))))
theorem k9_X11_cowsOn_4 (F : Nat) (rec4 : zMem → Int32 × Int32 × Int32 → Option (Int32 × zMem)) (σ : zMem) (x : Int32 × Int32 × Int32) (hrec4 : ∀ s y, zk9 s (rec4 s y)) : zk9 σ (f_X11_cowsOn_4 F rec4 σ x) := by
  unfold f_X11_cowsOn_4
  exact (k9_ite (fun _ => (k9_some rfl)) (fun _ => (k9_zg (fun g1 => (k9_zg (fun g2 => (k9_zg (fun g3 => (k9_tr (hrec4 _ _) rfl)))))))))
theorem k9_X11_cowsOn (F : Nat) (σ : zMem) (a1 : Int32) : zk9 σ (f_X11_cowsOn F σ a1) := by
  unfold f_X11_cowsOn
  exact (k9_tr (k9_it (fun r hr s y => k9_X11_cowsOn_4 _ r s y hr) _ _ _) rfl)
theorem k9_X11_alpOf (F : Nat) (σ : zMem) (a1 : Int32) (a2 : Int32) : zk9 σ (f_X11_alpOf F σ a1 a2) := by
  unfold f_X11_alpOf
  exact (k9_zb (k9_tr (k9_X11_isAlp _ _ _) rfl) (fun r2 m2 h1 => (k9_ite (fun _ => (k9_some h1)) (fun _ => (k9_ite (fun _ => (k9_zb (k9_tr (k9_X11_isHouse _ _ _) h1) (fun r86 m86 h2 => (k9_ite (fun _ => (k9_some h2)) (fun _ => (k9_ite (fun _ => (k9_some h2)) (fun _ => (k9_zg (fun g3 => (k9_zg (fun g4 => (k9_zg (fun g5 => (k9_some h2)))))))))))))) (fun _ => (k9_ite (fun _ => (k9_zg (fun g6 => (k9_some h1)))) (fun _ => (k9_ite (fun _ => (k9_zg (fun g7 => (k9_some h1)))) (fun _ => (k9_ite (fun _ => (k9_zg (fun g8 => (k9_zg (fun g9 => (k9_some h1)))))) (fun _ => (k9_ite (fun _ => (k9_zg (fun g10 => (k9_zg (fun g11 => (k9_some h1)))))) (fun _ => (k9_ite (fun _ => (k9_zb (k9_tr (k9_X11_cowsOn _ _ _) h1) (fun r78 m78 h12 => (k9_some h12)))) (fun _ => k9_none))))))))))))))))
theorem k9_X11_whyNot (F : Nat) (σ : zMem) (a1 : Int32) (a2 : Int32) : zk9 σ (f_X11_whyNot F σ a1 a2) := by
  unfold f_X11_whyNot
  exact (k9_zg (fun g1 => (k9_zg (fun g2 => (k9_zg (fun g3 => (k9_zb (k9_tr (k9_X11_upOf _ _ _) rfl) (fun r19 m19 h4 => (k9_ite (fun _ => (k9_zb (k9_tr (k9_X11_now _ _ _ _) h4) (fun r33 m33 h5 => (k9_ite (fun _ => (k9_some h5)) (fun _ => (k9_zb (k9_tr (k9_X11_now _ _ _ _) h5) (fun r43 m43 h6 => (k9_ite (fun _ => (k9_zb (k9_tr (k9_X11_upOf _ _ _) h6) (fun r53 m53 h7 => (k9_zb (k9_tr (k9_X11_now _ _ _ _) h7) (fun r66 m66 h8 => (k9_zb (k9_tr (k9_X11_partsOf _ _ _ _) h8) (fun r74 m74 h9 => (k9_ite (fun _ => (k9_zb (k9_tr (k9_X11_now _ _ _ _) h9) (fun r87 m87 h10 => (k9_ite (fun _ => (k9_some h10)) (fun _ => (k9_zg (fun g11 => (k9_zg (fun g12 => (k9_ite (fun _ => (k9_some h10)) (fun _ => (k9_some h10)))))))))))) (fun _ => (k9_some h9)))))))))) (fun _ => (k9_some h6)))))))))) (fun _ => (k9_some h4)))))))))))
theorem k9_X11_drive_142 (F : Nat) (σ : zMem) (l1 : Int32) (l2 : Int32) : zk9 σ (f_X11_drive_142 F σ l1 l2) := by
  unfold f_X11_drive_142
  exact (k9_zg (fun g1 => (k9_zg (fun g2 => (k9_zg (fun g3 => (k9_some ((zwi9 _ _ _ _ _ rfl).trans rfl))))))))
theorem k9_X11_drive (F : Nat) (σ : zMem) (a1 : Int32) (a2 : Int32) (a3 : Int32) : zk9 σ (f_X11_drive F σ a1 a2 a3) := by
  unfold f_X11_drive
  exact (k9_zb (k9_tr (k9_X11_isHouse _ _ _) rfl) (fun r2 m2 h1 => (k9_ite (fun _ => (k9_some h1)) (fun _ => (k9_zb (k9_tr (k9_X11_isAlp _ _ _) h1) (fun r10 m10 h2 => (k9_ite (fun _ => (k9_some h2)) (fun _ => (k9_zb (k9_tr (k9_X11_in _ _ _ _ _) h2) (fun r22 m22 h3 => (k9_ite (fun _ => (k9_some h3)) (fun _ => (k9_zb (k9_tr (k9_X11_whyNot _ _ _ _) h3) (fun r34 m34 h4 => (k9_ite (fun _ => (k9_zg (fun g5 => (k9_zg (fun g6 => (k9_zg (fun g7 => (k9_zg (fun g8 => (k9_ite (fun _ => (k9_tr (k9_X11_drive_142 _ _ _ _) ((zwi9 _ _ _ _ _ (zdU9 g5)).trans h4))) (fun _ => (k9_zg (fun g9 => (k9_zg (fun g10 => (k9_zg (fun g11 => (k9_zg (fun g12 => (k9_zg (fun g13 => (k9_zb (k9_tr (k9_X11_whyOf _ _ _ _ _ _) ((zwi9 _ _ _ _ _ rfl).trans ((zwi9 _ _ _ _ _ rfl).trans ((zwi9 _ _ _ _ _ rfl).trans ((zwi9 _ _ _ _ _ rfl).trans ((zwi9 _ _ _ _ _ (zdU9 g5)).trans h4)))))) (fun r120 m120 h14 => (k9_zg (fun g15 => (k9_zb (k9_tr (k9_X11_whyOf _ _ _ _ _ _) ((zwi9 _ _ _ _ _ rfl).trans h14)) (fun r138 m138 h16 => (k9_zg (fun g17 => (k9_tr (k9_X11_drive_142 _ _ _ _) ((zwi9 _ _ _ _ _ rfl).trans h16))))))))))))))))))))))))))))))) (fun _ => (k9_some h4)))))))))))))))))
theorem k9_X11_home (F : Nat) (σ : zMem) (a1 : Int32) (a2 : Int32) (a3 : Int32) : zk9 σ (f_X11_home F σ a1 a2 a3) := by
  unfold f_X11_home
  exact (k9_zb (k9_tr (k9_X11_isHouse _ _ _) rfl) (fun r2 m2 h1 => (k9_ite (fun _ => (k9_some h1)) (fun _ => (k9_zb (k9_tr (k9_X11_isAlp _ _ _) h1) (fun r10 m10 h2 => (k9_ite (fun _ => (k9_some h2)) (fun _ => (k9_zb (k9_tr (k9_X11_in _ _ _ _ _) h2) (fun r22 m22 h3 => (k9_ite (fun _ => (k9_some h3)) (fun _ => (k9_zg (fun g4 => (k9_zg (fun g5 => (k9_zg (fun g6 => (k9_ite (fun _ => (k9_zg (fun g7 => (k9_zg (fun g8 => (k9_zg (fun g9 => (k9_zg (fun g10 => (k9_zg (fun g11 => (k9_zg (fun g12 => (k9_zg (fun g13 => (k9_some ((zwi9 _ _ _ _ _ (zdU9 g7)).trans h3))))))))))))))))) (fun _ => (k9_some h3)))))))))))))))))))))
theorem k9_X11_book (F : Nat) (σ : zMem) (a1 : Int32) (a2 : Int32) : zk9 σ (f_X11_book F σ a1 a2) := by
  unfold f_X11_book
  exact (k9_zb (k9_tr (k9_X11_in _ _ _ _ _) rfl) (fun r14 m14 h1 => (k9_ite (fun _ => (k9_some h1)) (fun _ => (k9_zb (k9_tr (k9_X11_in _ _ _ _ _) h1) (fun r23 m23 h2 => (k9_ite (fun _ => (k9_some h2)) (fun _ => (k9_zg (fun g3 => (k9_zg (fun g4 => (k9_some h2)))))))))))))
theorem k9_X11_grow_59 (F : Nat) (σ : zMem) (l1 : Int32) (l3 : Int32) : zk9 σ (f_X11_grow_59 F σ l1 l3) := by
  unfold f_X11_grow_59
  exact (k9_zg (fun g1 => (k9_zg (fun g2 => (k9_ite (fun _ => (k9_ite (fun _ => (k9_some rfl)) (fun _ => (k9_zg (fun g3 => (k9_zg (fun g4 => (k9_zg (fun g5 => (k9_zg (fun g6 => (k9_zg (fun g7 => (k9_zg (fun g8 => (k9_zg (fun g9 => (k9_some ((zwi9 _ _ _ _ _ (zdG9 g5)).trans rfl))))))))))))))))))) (fun _ => (k9_some rfl)))))))
theorem k9_X11_grow (F : Nat) (σ : zMem) (a1 : Int32) (a2 : Int32) : zk9 σ (f_X11_grow F σ a1 a2) := by
  unfold f_X11_grow
  exact (k9_zb (k9_tr (k9_X11_skyAt _ _ _ _) rfl) (fun r3 m3 h1 => (k9_zg (fun g2 => (k9_ite (fun _ => (k9_zg (fun g3 => (k9_zg (fun g4 => (k9_zg (fun g5 => (k9_zg (fun g6 => (k9_tr (k9_X11_grow_59 _ _ _ _) ((zwi9 _ _ _ _ _ (zdS9 g4)).trans h1))))))))))) (fun _ => (k9_zg (fun g7 => (k9_zg (fun g8 => (k9_zb (k9_tr (k9_X11_skyAt _ _ _ _) h1) (fun r31 m31 h9 => (k9_zg (fun g10 => (k9_tr (k9_X11_grow_59 _ _ _ _) ((zwi9 _ _ _ _ _ (zdS9 g7)).trans h9))))))))))))))))
theorem k9_X11_feedOn (F : Nat) (σ : zMem) (a1 : Int32) (a2 : Int32) : zk9 σ (f_X11_feedOn F σ a1 a2) := by
  unfold f_X11_feedOn
  exact (k9_zg (fun g1 => (k9_zg (fun g2 => (k9_zg (fun g3 => (k9_zg (fun g4 => (k9_zg (fun g5 => (k9_zg (fun g6 => (k9_zg (fun g7 => (k9_zg (fun g8 => (k9_zg (fun g9 => (k9_some ((zwi9 _ _ _ _ _ (zdG9 g7)).trans rfl))))))))))))))))))))
theorem k9_X11_fields_60 (F : Nat) (rec50 : zMem → Int32 → Option (Unit × zMem)) (rec60 : zMem → Int32 × Int32 → Option (Unit × zMem)) (σ : zMem) (x : Int32 × Int32) (hrec50 : ∀ s y, zk9 s (rec50 s y)) (hrec60 : ∀ s y, zk9 s (rec60 s y)) : zk9 σ (f_X11_fields_60 F rec50 rec60 σ x) := by
  unfold f_X11_fields_60
  exact (k9_ite (fun _ => (k9_tr (hrec50 _ _) rfl)) (fun _ => (k9_zb (k9_tr (k9_X11_feedOn _ _ _ _) rfl) (fun r71 m71 h1 => (k9_zg (fun g2 => (k9_zg (fun g3 => (k9_zg (fun g4 => (k9_zg (fun g5 => (k9_zg (fun g6 => (k9_zg (fun g7 => (k9_zg (fun g8 => (k9_tr (hrec60 _ _) ((zwi9 _ _ _ _ _ rfl).trans ((zwi9 _ _ _ _ _ rfl).trans h1)))))))))))))))))))))
theorem k9_X11_fields_50 (F : Nat) (rec50 : zMem → Int32 → Option (Unit × zMem)) (σ : zMem) (x : Int32) (hrec50 : ∀ s y, zk9 s (rec50 s y)) : zk9 σ (f_X11_fields_50 F rec50 σ x) := by
  unfold f_X11_fields_50
  exact (k9_ite (fun _ => (k9_some rfl)) (fun _ => (k9_tr (k9_it (fun r hr s y => k9_X11_fields_60 _ rec50 r s y hrec50 hr) _ _ _) rfl)))
theorem k9_X11_fields_25 (F : Nat) (rec25 : zMem → Int32 → Option (Unit × zMem)) (σ : zMem) (x : Int32) (hrec25 : ∀ s y, zk9 s (rec25 s y)) : zk9 σ (f_X11_fields_25 F rec25 σ x) := by
  unfold f_X11_fields_25
  exact (k9_ite (fun _ => (k9_tr (k9_it (fun r hr s y => k9_X11_fields_50 _ r s y hr) _ _ _) rfl)) (fun _ => (k9_zb (k9_tr (k9_X11_grow _ _ _ _) rfl) (fun r39 m39 h1 => (k9_tr (hrec25 _ _) h1)))))
theorem k9_X11_fields_2 (F : Nat) (rec2 : zMem → Int32 → Option (Unit × zMem)) (σ : zMem) (x : Int32) (hrec2 : ∀ s y, zk9 s (rec2 s y)) : zk9 σ (f_X11_fields_2 F rec2 σ x) := by
  unfold f_X11_fields_2
  exact (k9_ite (fun _ => (k9_tr (k9_it (fun r hr s y => k9_X11_fields_25 _ r s y hr) _ _ _) rfl)) (fun _ => (k9_zg (fun g1 => (k9_tr (hrec2 _ _) ((zwi9 _ _ _ _ _ rfl).trans rfl))))))
theorem k9_X11_fields (F : Nat) (σ : zMem) : zk9 σ (f_X11_fields F σ) := by
  unfold f_X11_fields
  exact (k9_tr (k9_it (fun r hr s y => k9_X11_fields_2 _ r s y hr) _ _ _) rfl)
theorem k9_X11_owes (F : Nat) (σ : zMem) (a1 : Int32) (a2 : Int64) : zk9 σ (f_X11_owes F σ a1 a2) := by
  unfold f_X11_owes
  exact (k9_zg (fun g1 => (k9_zg (fun g2 => (k9_zg (fun g3 => (k9_zg (fun g4 => (k9_zg (fun g5 => (k9_zg (fun g6 => (k9_some ((zwi9 _ _ _ _ _ rfl).trans rfl))))))))))))))
theorem k9_X11_stables_32 (F : Nat) (rec11 : zMem → Int32 × Int32 → Option (Unit × zMem)) (σ : zMem) (l1 : Int32) (l2 : Int32) (hrec11 : ∀ s y, zk9 s (rec11 s y)) : zk9 σ (f_X11_stables_32 F rec11 σ l1 l2) := by
  unfold f_X11_stables_32
  exact (k9_zg (fun g1 => (k9_zg (fun g2 => (k9_zb (k9_tr (k9_X11_upOf _ _ _) rfl) (fun r42 m42 h3 => (k9_zg (fun g4 => (k9_zg (fun g5 => (k9_zg (fun g6 => (k9_zg (fun g7 => (k9_zg (fun g8 => (k9_zg (fun g9 => (k9_zg (fun g10 => (k9_tr (hrec11 _ _) ((zwi9 _ _ _ _ _ rfl).trans ((zwi9 _ _ _ _ _ rfl).trans h3)))))))))))))))))))))))
theorem k9_X11_stables_123 (F : Nat) (rec95 : zMem → Int32 × Int32 → Option (Unit × zMem)) (σ : zMem) (l1 : Int32) (l2 : Int32) (hrec95 : ∀ s y, zk9 s (rec95 s y)) : zk9 σ (f_X11_stables_123 F rec95 σ l1 l2) := by
  unfold f_X11_stables_123
  exact (k9_zb (k9_tr (k9_X11_now _ _ _ _) rfl) (fun r128 m128 h1 => (k9_zb (k9_tr (k9_X11_upOf _ _ _) h1) (fun r134 m134 h2 => (k9_zb (k9_tr (k9_X11_owes _ _ _ _) h2) (fun r139 m139 h3 => (k9_tr (hrec95 _ _) h3)))))))
theorem k9_X11_stables_95 (F : Nat) (rec95 : zMem → Int32 × Int32 → Option (Unit × zMem)) (σ : zMem) (x : Int32 × Int32) (hrec95 : ∀ s y, zk9 s (rec95 s y)) : zk9 σ (f_X11_stables_95 F rec95 σ x) := by
  unfold f_X11_stables_95
  exact (k9_ite (fun _ => (k9_some rfl)) (fun _ => (k9_zb (k9_tr (k9_X11_now _ _ _ _) rfl) (fun r107 m107 h1 => (k9_ite (fun _ => (k9_tr (k9_X11_stables_123 _ rec95 _ _ _ hrec95) h1)) (fun _ => (k9_zb (k9_tr (k9_X11_now _ _ _ _) h1) (fun r117 m117 h2 => (k9_ite (fun _ => (k9_tr (hrec95 _ _) h2)) (fun _ => (k9_tr (k9_X11_stables_123 _ rec95 _ _ _ hrec95) h2)))))))))))
theorem k9_X11_stables_11 (F : Nat) (rec11 : zMem → Int32 × Int32 → Option (Unit × zMem)) (σ : zMem) (x : Int32 × Int32) (hrec11 : ∀ s y, zk9 s (rec11 s y)) : zk9 σ (f_X11_stables_11 F rec11 σ x) := by
  unfold f_X11_stables_11
  exact (k9_ite (fun _ => (k9_tr (k9_it (fun r hr s y => k9_X11_stables_95 _ r s y hr) _ _ _) rfl)) (fun _ => (k9_ite (fun _ => (k9_tr (k9_X11_stables_32 _ rec11 _ _ _ hrec11) rfl)) (fun _ => (k9_ite (fun _ => (k9_tr (k9_it (fun r hr s y => k9_X11_stables_95 _ r s y hr) _ _ _) rfl)) (fun _ => (k9_tr (k9_X11_stables_32 _ rec11 _ _ _ hrec11) rfl)))))))
theorem k9_X11_stables (F : Nat) (σ : zMem) : zk9 σ (f_X11_stables F σ) := by
  unfold f_X11_stables
  exact (k9_zg (fun g1 => (k9_tr (k9_it (fun r hr s y => k9_X11_stables_11 _ r s y hr) _ _ _) rfl)))
theorem k9_X11_newLayer_90 (F : Nat) (rec90 : zMem → Int32 × Int32 → Option (Unit × zMem)) (σ : zMem) (x : Int32 × Int32) (hrec90 : ∀ s y, zk9 s (rec90 s y)) : zk9 σ (f_X11_newLayer_90 F rec90 σ x) := by
  unfold f_X11_newLayer_90
  exact (k9_ite (fun _ => (k9_zg (fun g1 => (k9_some ((zwi9 _ _ _ _ _ rfl).trans rfl))))) (fun _ => (k9_zg (fun g2 => (k9_zg (fun g3 => (k9_zg (fun g4 => (k9_zg (fun g5 => (k9_zg (fun g6 => (k9_zg (fun g7 => (k9_zg (fun g8 => (k9_zg (fun g9 => (k9_tr (hrec90 _ _) ((zwi9 _ _ _ _ _ rfl).trans ((zwi9 _ _ _ _ _ rfl).trans rfl)))))))))))))))))))))
theorem k9_X11_newLayer (F : Nat) (σ : zMem) (a1 : Int32) (a2 : Int32) (a3 : Int32) : zk9 σ (f_X11_newLayer F σ a1 a2 a3) := by
  unfold f_X11_newLayer
  exact (k9_zg (fun g1 => (k9_zg (fun g2 => (k9_zg (fun g3 => (k9_zg (fun g4 => (k9_zg (fun g5 => (k9_zg (fun g6 => (k9_zg (fun g7 => (k9_zg (fun g8 => (k9_zg (fun g9 => (k9_ite (fun _ => (k9_some ((zwi9 _ _ _ _ _ rfl).trans ((zwi9 _ _ _ _ _ rfl).trans ((zwi9 _ _ _ _ _ rfl).trans rfl))))) (fun _ => (k9_zg (fun g10 => (k9_zg (fun g11 => (k9_zg (fun g12 => (k9_zg (fun g13 => (k9_zg (fun g14 => (k9_zg (fun g15 => (k9_zg (fun g16 => (k9_zg (fun g17 => (k9_zg (fun g18 => (k9_zg (fun g19 => (k9_tr (k9_it (fun r hr s y => k9_X11_newLayer_90 _ r s y hr) _ _ _) ((zwi9 _ _ _ _ _ rfl).trans ((zwi9 _ _ _ _ _ rfl).trans ((zwi9 _ _ _ _ _ rfl).trans ((zwi9 _ _ _ _ _ rfl).trans ((zwi9 _ _ _ _ _ rfl).trans rfl))))))))))))))))))))))))))))))))))))))))))))))
theorem k9_X11_holdsOf (F : Nat) (σ : zMem) (a1 : Int32) (a2 : Int32) : zk9 σ (f_X11_holdsOf F σ a1 a2) := by
  unfold f_X11_holdsOf
  exact (k9_zg (fun g1 => (k9_zg (fun g2 => (k9_ite (fun _ => (k9_some rfl)) (fun _ => (k9_some rfl)))))))
theorem k9_X11_over_7 (F : Nat) (rec7 : zMem → Int32 × Int32 × Int32 → Option (Int32 × zMem)) (σ : zMem) (x : Int32 × Int32 × Int32) (hrec7 : ∀ s y, zk9 s (rec7 s y)) : zk9 σ (f_X11_over_7 F rec7 σ x) := by
  unfold f_X11_over_7
  exact (k9_zg (fun g1 => (k9_ite (fun _ => (k9_some rfl)) (fun _ => (k9_zg (fun g2 => (k9_zg (fun g3 => (k9_tr (hrec7 _ _) rfl)))))))))
theorem k9_X11_over (F : Nat) (σ : zMem) (a1 : Int32) (a2 : Int32) : zk9 σ (f_X11_over F σ a1 a2) := by
  unfold f_X11_over
  exact (k9_tr (k9_it (fun r hr s y => k9_X11_over_7 _ r s y hr) _ _ _) rfl)
theorem k9_X11_lowestSoft_2 (F : Nat) (rec2 : zMem → Int32 × Int32 → Option (Int32 × zMem)) (σ : zMem) (x : Int32 × Int32) (hrec2 : ∀ s y, zk9 s (rec2 s y)) : zk9 σ (f_X11_lowestSoft_2 F rec2 σ x) := by
  unfold f_X11_lowestSoft_2
  exact (k9_zg (fun g1 => (k9_ite (fun _ => (k9_some rfl)) (fun _ => (k9_zg (fun g2 => (k9_zg (fun g3 => (k9_ite (fun _ => (k9_tr (hrec2 _ _) rfl)) (fun _ => (k9_some rfl)))))))))))
theorem k9_X11_lowestSoft (F : Nat) (σ : zMem) (a1 : Int32) : zk9 σ (f_X11_lowestSoft F σ a1) := by
  unfold f_X11_lowestSoft
  exact (k9_tr (k9_it (fun r hr s y => k9_X11_lowestSoft_2 _ r s y hr) _ _ _) rfl)
theorem k9_X11_riskOf (F : Nat) (σ : zMem) (a1 : Int32) (a2 : Int32) : zk9 σ (f_X11_riskOf F σ a1 a2) := by
  unfold f_X11_riskOf
  exact (k9_zb (k9_tr (k9_X11_lowestSoft _ _ _) rfl) (fun r2 m2 h1 => (k9_ite (fun _ => (k9_zb (k9_tr (k9_X11_over _ _ _ _) h1) (fun r17 m17 h2 => (k9_zb (k9_tr (k9_X11_holdsOf _ _ _ _) h2) (fun r26 m26 h3 => (k9_zg (fun g4 => (k9_some h3)))))))) (fun _ => (k9_some h1)))))
theorem k9_X11_slopeDay_214 (F : Nat) (σ : zMem) (s0 : Int32) (s1 : Int32) : zk9 σ (f_X11_slopeDay_214 F σ s0 s1) := by
  unfold f_X11_slopeDay_214
  exact (k9_some ((zwi9 _ _ _ _ _ rfl).trans rfl))
theorem k9_X11_slopeDay_176 (F : Nat) (σ : zMem) (l1 : Int32) (s0 : Int32) (s1 : Int32) : zk9 σ (f_X11_slopeDay_176 F σ l1 s0 s1) := by
  unfold f_X11_slopeDay_176
  exact (k9_zg (fun g1 => (k9_zg (fun g2 => (k9_zg (fun g3 => (k9_ite (fun _ => (k9_tr (k9_X11_slopeDay_214 _ _ _ _) ((zwi9 _ _ _ _ _ rfl).trans ((zwi9 _ _ _ _ _ rfl).trans ((zwi9 _ _ _ _ _ rfl).trans rfl))))) (fun _ => (k9_tr (k9_X11_slopeDay_214 _ _ _ _) ((zwi9 _ _ _ _ _ rfl).trans ((zwi9 _ _ _ _ _ rfl).trans ((zwi9 _ _ _ _ _ rfl).trans rfl))))))))))))
theorem k9_X11_slopeDay_107 (F : Nat) (σ : zMem) (l1 : Int32) : zk9 σ (f_X11_slopeDay_107 F σ l1) := by
  unfold f_X11_slopeDay_107
  exact (k9_zb (k9_tr (k9_X11_lowestSoft _ _ _) rfl) (fun r109 m109 h1 => (k9_ite (fun _ => (k9_some h1)) (fun _ => (k9_zb (k9_tr (k9_X11_over _ _ _ _) h1) (fun r123 m123 h2 => (k9_zg (fun g3 => (k9_zb (k9_tr (k9_X11_holdsOf _ _ _ _) h2) (fun r134 m134 h4 => (k9_ite (fun _ => (k9_zg (fun g5 => (k9_zg (fun g6 => (k9_ite (fun _ => (k9_zg (fun g7 => (k9_tr (k9_X11_slopeDay_176 _ _ _ _ _) ((zwi9 _ _ _ _ _ rfl).trans h4))))) (fun _ => (k9_tr (k9_X11_slopeDay_176 _ _ _ _ _) ((zwi9 _ _ _ _ _ rfl).trans h4))))))))) (fun _ => (k9_some h4)))))))))))))
theorem k9_X11_slopeDay_46 (F : Nat) (σ : zMem) (l1 : Int32) (l2 : Int32) : zk9 σ (f_X11_slopeDay_46 F σ l1 l2) := by
  unfold f_X11_slopeDay_46
  exact (k9_ite (fun _ => (k9_tr (k9_X11_slopeDay_107 _ _ _) rfl)) (fun _ => (k9_zg (fun g1 => (k9_ite (fun _ => (k9_tr (k9_X11_slopeDay_107 _ _ _) rfl)) (fun _ => (k9_zg (fun g2 => (k9_zg (fun g3 => (k9_zg (fun g4 => (k9_zg (fun g5 => (k9_zg (fun g6 => (k9_zg (fun g7 => (k9_ite (fun _ => (k9_tr (k9_X11_slopeDay_107 _ _ _) ((zwi9 _ _ _ _ _ rfl).trans rfl))) (fun _ => (k9_zg (fun g8 => (k9_zg (fun g9 => (k9_tr (k9_X11_slopeDay_107 _ _ _) ((zwi9 _ _ _ _ _ rfl).trans ((zwi9 _ _ _ _ _ rfl).trans rfl)))))))))))))))))))))))))))
theorem k9_X11_slopeDay_43 (F : Nat) (σ : zMem) (l1 : Int32) (l2 : Int32) (s0 : Int32) (s1 : Int32) (s2 : Int32) : zk9 σ (f_X11_slopeDay_43 F σ l1 l2 s0 s1 s2) := by
  unfold f_X11_slopeDay_43
  exact (k9_zb (k9_tr (k9_X11_newLayer _ _ _ _ _) rfl) (fun r43 m43 h1 => (k9_tr (k9_X11_slopeDay_46 _ _ _ _) h1)))
theorem k9_X11_slopeDay (F : Nat) (σ : zMem) (a1 : Int32) : zk9 σ (f_X11_slopeDay F σ a1) := by
  unfold f_X11_slopeDay
  exact (k9_zb (k9_tr (k9_X11_skyAt _ _ _ _) rfl) (fun r6 m6 h1 => (k9_zb (k9_tr (k9_X11_skyAt _ _ _ _) h1) (fun r16 m16 h2 => (k9_ite (fun _ => (k9_tr (k9_X11_slopeDay_46 _ _ _ _) h2)) (fun _ => (k9_ite (fun _ => (k9_tr (k9_X11_slopeDay_46 _ _ _ _) h2)) (fun _ => (k9_ite (fun _ => (k9_tr (k9_X11_slopeDay_43 _ _ _ _ _ _ _) h2)) (fun _ => (k9_tr (k9_X11_slopeDay_43 _ _ _ _ _ _ _) h2)))))))))))
theorem k9_X11_oneDay_106 (F : Nat) (σ : zMem) : zk9 σ (f_X11_oneDay_106 F σ) := by
  unfold f_X11_oneDay_106
  exact (k9_some ((zwi9 _ _ _ _ _ rfl).trans rfl))
theorem k9_X11_oneDay_61 (F : Nat) (rec61 : zMem → Int32 → Option (Unit × zMem)) (σ : zMem) (x : Int32) (hrec61 : ∀ s y, zk9 s (rec61 s y)) : zk9 σ (f_X11_oneDay_61 F rec61 σ x) := by
  unfold f_X11_oneDay_61
  exact (k9_ite (fun _ => (k9_tr (k9_X11_oneDay_106 _ _) rfl)) (fun _ => (k9_zg (fun g1 => (k9_ite (fun _ => (k9_zg (fun g2 => (k9_zg (fun g3 => (k9_tr (hrec61 _ _) ((zwi9 _ _ _ _ _ rfl).trans rfl))))))) (fun _ => (k9_tr (k9_X11_oneDay_106 _ _) rfl)))))))
theorem k9_X11_oneDay_55 (F : Nat) (σ : zMem) (s0 : Int32) (s1 : Int32) : zk9 σ (f_X11_oneDay_55 F σ s0 s1) := by
  unfold f_X11_oneDay_55
  exact (k9_tr (k9_it (fun r hr s y => k9_X11_oneDay_61 _ r s y hr) _ _ _) ((zwi9 _ _ _ _ _ rfl).trans rfl))
theorem k9_X11_oneDay_12 (F : Nat) (rec12 : zMem → Int32 × Int32 → Option (Unit × zMem)) (σ : zMem) (x : Int32 × Int32) (hrec12 : ∀ s y, zk9 s (rec12 s y)) : zk9 σ (f_X11_oneDay_12 F rec12 σ x) := by
  unfold f_X11_oneDay_12
  exact (k9_ite (fun _ => (k9_ite (fun _ => (k9_tr (k9_X11_oneDay_55 _ _ _ _) rfl)) (fun _ => (k9_ite (fun _ => (k9_tr (k9_X11_oneDay_55 _ _ _ _) rfl)) (fun _ => (k9_tr (k9_X11_oneDay_55 _ _ _ _) rfl)))))) (fun _ => (k9_zb (k9_tr (k9_X11_slopeDay _ _ _) rfl) (fun r23 m23 h1 => (k9_tr (hrec12 _ _) h1)))))
theorem k9_X11_oneDay (F : Nat) (σ : zMem) : zk9 σ (f_X11_oneDay F σ) := by
  unfold f_X11_oneDay
  exact (k9_zb (k9_tr (k9_X11_fields _ _) rfl) (fun r1 m1 h1 => (k9_zb (k9_tr (k9_X11_stables _ _) h1) (fun r5 m5 h2 => (k9_tr (k9_it (fun r hr s y => k9_X11_oneDay_12 _ r s y hr) _ _ _) h2)))))
theorem k9_X11_days_27 (F : Nat) (rec27 : zMem → Int32 × Int32 → Option (Int32 × zMem)) (σ : zMem) (x : Int32 × Int32) (hrec27 : ∀ s y, zk9 s (rec27 s y)) : zk9 σ (f_X11_days_27 F rec27 σ x) := by
  unfold f_X11_days_27
  exact (k9_ite (fun _ => (k9_some rfl)) (fun _ => (k9_zb (k9_tr (k9_X11_oneDay _ _) rfl) (fun r33 m33 h1 => (k9_tr (hrec27 _ _) h1)))))
theorem k9_X11_days (F : Nat) (σ : zMem) (a1 : Int32) : zk9 σ (f_X11_days F σ a1) := by
  unfold f_X11_days
  exact (k9_zb (k9_tr (k9_X11_in _ _ _ _ _) rfl) (fun r4 m4 h1 => (k9_ite (fun _ => (k9_some h1)) (fun _ => (k9_ite (fun _ => (k9_tr (k9_it (fun r hr s y => k9_X11_days_27 _ r s y hr) _ _ _) h1)) (fun _ => (k9_some h1)))))))
theorem k9_X11_slope (F : Nat) (σ : zMem) (a1 : Int32) : zk9 σ (f_X11_slope F σ a1) := by
  unfold f_X11_slope
  exact (k9_zb (k9_tr (k9_X11_in _ _ _ _ _) rfl) (fun r5 m5 h1 => (k9_ite (fun _ => (k9_some h1)) (fun _ => (k9_ite (fun _ => (k9_some h1)) (fun _ => (k9_zg (fun g2 => (k9_some ((zwi9 _ _ _ _ _ rfl).trans ((zwi9 _ _ _ _ _ rfl).trans h1)))))))))))
theorem k9_X11_slopeOf (F : Nat) (σ : zMem) (a1 : Int32) (a2 : Int32) : zk9 σ (f_X11_slopeOf F σ a1 a2) := by
  unfold f_X11_slopeOf
  exact (k9_zb (k9_tr (k9_X11_isSlope _ _ _) rfl) (fun r2 m2 h1 => (k9_ite (fun _ => (k9_some h1)) (fun _ => (k9_ite (fun _ => (k9_ite (fun _ => (k9_some h1)) (fun _ => (k9_zg (fun g2 => (k9_ite (fun _ => (k9_zg (fun g3 => (k9_zg (fun g4 => (k9_ite (fun _ => (k9_zg (fun g5 => (k9_zg (fun g6 => (k9_some h1)))))) (fun _ => (k9_zg (fun g7 => (k9_zg (fun g8 => (k9_some h1)))))))))))) (fun _ => (k9_some h1)))))))) (fun _ => (k9_ite (fun _ => (k9_zg (fun g9 => (k9_some h1)))) (fun _ => (k9_ite (fun _ => (k9_zg (fun g10 => (k9_ite (fun _ => (k9_some h1)) (fun _ => (k9_some h1)))))) (fun _ => (k9_ite (fun _ => (k9_zg (fun g11 => (k9_some h1)))) (fun _ => (k9_ite (fun _ => (k9_zb (k9_tr (k9_X11_over _ _ _ _) h1) (fun r88 m88 h12 => (k9_some h12)))) (fun _ => (k9_ite (fun _ => (k9_zg (fun g13 => (k9_zb (k9_tr (k9_X11_riskOf _ _ _ _) h1) (fun r100 m100 h14 => (k9_some h14)))))) (fun _ => (k9_ite (fun _ => (k9_zg (fun g15 => (k9_zb (k9_tr (k9_X11_holdsOf _ _ _ _) h1) (fun r112 m112 h16 => (k9_some h16)))))) (fun _ => (k9_ite (fun _ => (k9_zg (fun g17 => (k9_some h1)))) (fun _ => k9_none))))))))))))))))))))
theorem k9_X11_works (F : Nat) (σ : zMem) (a1 : Int32) (a2 : Int32) : zk9 σ (f_X11_works F σ a1 a2) := by
  unfold f_X11_works
  exact (k9_zb (k9_tr (k9_X11_isSlope _ _ _) rfl) (fun r2 m2 h1 => (k9_ite (fun _ => (k9_some h1)) (fun _ => (k9_zg (fun g2 => (k9_zg (fun g3 => (k9_ite (fun _ => (k9_some ((zwi9 _ _ _ _ _ rfl).trans h1))) (fun _ => (k9_some ((zwi9 _ _ _ _ _ rfl).trans h1))))))))))))
theorem k9_X11_shut (F : Nat) (σ : zMem) (a1 : Int32) : zk9 σ (f_X11_shut F σ a1) := by
  unfold f_X11_shut
  exact (k9_zg (fun g1 => (k9_ite (fun _ => (k9_some ((zwi9 _ _ _ _ _ rfl).trans rfl))) (fun _ => (k9_some ((zwi9 _ _ _ _ _ rfl).trans rfl))))))
theorem k9_X11_measure_33 (F : Nat) (rec33 : zMem → Int32 × Int32 → Option (Int32 × zMem)) (σ : zMem) (x : Int32 × Int32) (hrec33 : ∀ s y, zk9 s (rec33 s y)) : zk9 σ (f_X11_measure_33 F rec33 σ x) := by
  unfold f_X11_measure_33
  exact (k9_ite (fun _ => (k9_some rfl)) (fun _ => (k9_zg (fun g1 => (k9_zg (fun g2 => (k9_zg (fun g3 => (k9_zg (fun g4 => (k9_tr (hrec33 _ _) ((zwi9 _ _ _ _ _ rfl).trans rfl))))))))))))
theorem k9_X11_measure (F : Nat) (σ : zMem) : zk9 σ (f_X11_measure F σ) := by
  unfold f_X11_measure
  exact (k9_ite (fun _ => (k9_some rfl)) (fun _ => (k9_ite (fun _ => (k9_some rfl)) (fun _ => (k9_tr (k9_it (fun r hr s y => k9_X11_measure_33 _ r s y hr) _ _ _) ((zwi9 _ _ _ _ _ rfl).trans rfl))))))
theorem k9_X11_next_28 (F : Nat) (rec4 : zMem → Int32 × Int32 × Int32 → Option (Int32 × zMem)) (σ : zMem) (l1 : Int32) (l2 : Int32) (l3 : Int32) (hrec4 : ∀ s y, zk9 s (rec4 s y)) : zk9 σ (f_X11_next_28 F rec4 σ l1 l2 l3) := by
  unfold f_X11_next_28
  exact (k9_ite (fun _ => (k9_tr (hrec4 _ _) rfl)) (fun _ => (k9_ite (fun _ => (k9_zg (fun g1 => (k9_zg (fun g2 => (k9_ite (fun _ => (k9_tr (hrec4 _ _) rfl)) (fun _ => (k9_tr (hrec4 _ _) rfl)))))))) (fun _ => (k9_zg (fun g3 => (k9_zg (fun g4 => (k9_ite (fun _ => (k9_tr (hrec4 _ _) rfl)) (fun _ => (k9_tr (hrec4 _ _) rfl)))))))))))
theorem k9_X11_next_4 (F : Nat) (rec4 : zMem → Int32 × Int32 × Int32 → Option (Int32 × zMem)) (σ : zMem) (x : Int32 × Int32 × Int32) (hrec4 : ∀ s y, zk9 s (rec4 s y)) : zk9 σ (f_X11_next_4 F rec4 σ x) := by
  unfold f_X11_next_4
  exact (k9_ite (fun _ => (k9_some rfl)) (fun _ => (k9_ite (fun _ => (k9_zg (fun g1 => (k9_ite (fun _ => (k9_tr (hrec4 _ _) rfl)) (fun _ => (k9_tr (k9_X11_next_28 _ rec4 _ _ _ _ hrec4) rfl)))))) (fun _ => (k9_tr (k9_X11_next_28 _ rec4 _ _ _ _ hrec4) rfl)))))
theorem k9_X11_next (F : Nat) (σ : zMem) (a1 : Int32) : zk9 σ (f_X11_next F σ a1) := by
  unfold f_X11_next
  exact (k9_tr (k9_it (fun r hr s y => k9_X11_next_4 _ r s y hr) _ _ _) rfl)
theorem k9_X11_cheese_120 (F : Nat) (rec59 : zMem → Int32 × Int64 × Int32 × Int32 → Option (Int32 × zMem)) (σ : zMem) (l1 : Int32) (l2 : Int64) (l4 : Int32) (l5 : Int32) (l6 : Int64) (s0 : Int32) (s1 : Int32) (hrec59 : ∀ s y, zk9 s (rec59 s y)) : zk9 σ (f_X11_cheese_120 F rec59 σ l1 l2 l4 l5 l6 s0 s1) := by
  unfold f_X11_cheese_120
  exact (k9_zg (fun g1 => (k9_zg (fun g2 => (k9_zg (fun g3 => (k9_zg (fun g4 => (k9_tr (hrec59 _ _) ((zwi9 _ _ _ _ _ rfl).trans ((zwi9 _ _ _ _ _ rfl).trans rfl)))))))))))
theorem k9_X11_cheese_251 (F : Nat) (rec251 : zMem → Int32 × Int32 → Option (Int32 × zMem)) (σ : zMem) (x : Int32 × Int32) (hrec251 : ∀ s y, zk9 s (rec251 s y)) : zk9 σ (f_X11_cheese_251 F rec251 σ x) := by
  unfold f_X11_cheese_251
  exact (k9_ite (fun _ => (k9_some ((zwi9 _ _ _ _ _ rfl).trans rfl))) (fun _ => (k9_zg (fun g1 => (k9_zg (fun g2 => (k9_zg (fun g3 => (k9_zg (fun g4 => (k9_tr (hrec251 _ _) ((zwi9 _ _ _ _ _ rfl).trans ((zwi9 _ _ _ _ _ rfl).trans rfl)))))))))))))
theorem k9_X11_cheese_205 (F : Nat) (rec205 : zMem → Int32 × Int32 → Option (Int32 × zMem)) (σ : zMem) (x : Int32 × Int32) (hrec205 : ∀ s y, zk9 s (rec205 s y)) : zk9 σ (f_X11_cheese_205 F rec205 σ x) := by
  unfold f_X11_cheese_205
  exact (k9_ite (fun _ => (k9_tr (k9_it (fun r hr s y => k9_X11_cheese_251 _ r s y hr) _ _ _) rfl)) (fun _ => (k9_zb (k9_tr (k9_X11_next _ _ _) rfl) (fun r213 m213 h1 => (k9_zg (fun g2 => (k9_zg (fun g3 => (k9_zg (fun g4 => (k9_zg (fun g5 => (k9_tr (hrec205 _ _) ((zwi9 _ _ _ _ _ rfl).trans ((zwi9 _ _ _ _ _ rfl).trans h1)))))))))))))))
theorem k9_X11_cheese_162 (F : Nat) (rec162 : zMem → Int32 × Int32 → Option (Int32 × zMem)) (σ : zMem) (x : Int32 × Int32) (hrec162 : ∀ s y, zk9 s (rec162 s y)) : zk9 σ (f_X11_cheese_162 F rec162 σ x) := by
  unfold f_X11_cheese_162
  exact (k9_ite (fun _ => (k9_tr (k9_it (fun r hr s y => k9_X11_cheese_205 _ r s y hr) _ _ _) rfl)) (fun _ => (k9_zb (k9_tr (k9_X11_next _ _ _) rfl) (fun r170 m170 h1 => (k9_zg (fun g2 => (k9_zg (fun g3 => (k9_zg (fun g4 => (k9_zg (fun g5 => (k9_tr (hrec162 _ _) ((zwi9 _ _ _ _ _ rfl).trans ((zwi9 _ _ _ _ _ rfl).trans h1)))))))))))))))
theorem k9_X11_cheese_59 (F : Nat) (rec59 : zMem → Int32 × Int64 × Int32 × Int32 → Option (Int32 × zMem)) (σ : zMem) (x : Int32 × Int64 × Int32 × Int32) (hrec59 : ∀ s y, zk9 s (rec59 s y)) : zk9 σ (f_X11_cheese_59 F rec59 σ x) := by
  unfold f_X11_cheese_59
  exact (k9_ite (fun _ => (k9_tr (k9_it (fun r hr s y => k9_X11_cheese_162 _ r s y hr) _ _ _) rfl)) (fun _ => (k9_zg (fun g1 => (k9_zg (fun g2 => (k9_zg (fun g3 => (k9_ite (fun _ => (k9_zg (fun g4 => (k9_tr (k9_X11_cheese_120 _ rec59 _ _ _ _ _ _ _ _ hrec59) rfl)))) (fun _ => (k9_tr (k9_X11_cheese_120 _ rec59 _ _ _ _ _ _ _ _ hrec59) rfl)))))))))))
theorem k9_X11_cheese_19 (F : Nat) (rec19 : zMem → Int32 × Int64 × Int32 → Option (Int32 × zMem)) (σ : zMem) (x : Int32 × Int64 × Int32) (hrec19 : ∀ s y, zk9 s (rec19 s y)) : zk9 σ (f_X11_cheese_19 F rec19 σ x) := by
  unfold f_X11_cheese_19
  exact (k9_ite (fun _ => (k9_ite (fun _ => (k9_some rfl)) (fun _ => (k9_tr (k9_it (fun r hr s y => k9_X11_cheese_59 _ r s y hr) _ _ _) rfl)))) (fun _ => (k9_zg (fun g1 => (k9_tr (hrec19 _ _) rfl)))))
theorem k9_X11_cheese (F : Nat) (σ : zMem) (a1 : Int32) : zk9 σ (f_X11_cheese F σ a1) := by
  unfold f_X11_cheese
  exact (k9_zb (k9_tr (k9_X11_in _ _ _ _ _) rfl) (fun r5 m5 h1 => (k9_ite (fun _ => (k9_some h1)) (fun _ => (k9_tr (k9_it (fun r hr s y => k9_X11_cheese_19 _ r s y hr) _ _ _) h1)))))
theorem k9_X11_rest (F : Nat) (σ : zMem) (a1 : Int32) : zk9 σ (f_X11_rest F σ a1) := by
  unfold f_X11_rest
  exact (k9_zb (k9_tr (k9_X11_isHouse _ _ _) rfl) (fun r2 m2 h1 => (k9_ite (fun _ => (k9_some h1)) (fun _ => (k9_zg (fun g2 => (k9_some h1)))))))
theorem k9_X11_fell_131 (F : Nat) (rec131 : zMem → Int32 × Int32 × Int32 → Option (Int32 × zMem)) (σ : zMem) (x : Int32 × Int32 × Int32) (hrec131 : ∀ s y, zk9 s (rec131 s y)) : zk9 σ (f_X11_fell_131 F rec131 σ x) := by
  unfold f_X11_fell_131
  exact (k9_ite (fun _ => (k9_some ((zwi9 _ _ _ _ _ rfl).trans rfl))) (fun _ => (k9_zg (fun g1 => (k9_zg (fun g2 => (k9_zg (fun g3 => (k9_zg (fun g4 => (k9_zg (fun g5 => (k9_tr (hrec131 _ _) ((zwi9 _ _ _ _ _ rfl).trans rfl))))))))))))))
theorem k9_X11_fell_47 (F : Nat) (rec47 : zMem → Int32 × Int32 × Int32 × Int32 × Int32 → Option (Int32 × zMem)) (σ : zMem) (x : Int32 × Int32 × Int32 × Int32 × Int32) (hrec47 : ∀ s y, zk9 s (rec47 s y)) : zk9 σ (f_X11_fell_47 F rec47 σ x) := by
  unfold f_X11_fell_47
  exact (k9_ite (fun _ => (k9_zg (fun g1 => (k9_tr (k9_it (fun r hr s y => k9_X11_fell_131 _ r s y hr) _ _ _) ((zwi9 _ _ _ _ _ rfl).trans rfl))))) (fun _ => (k9_zg (fun g2 => (k9_zb (k9_tr (k9_X11_now _ _ _ _) rfl) (fun r75 m75 h3 => (k9_zg (fun g4 => (k9_zg (fun g5 => (k9_zg (fun g6 => (k9_zg (fun g7 => (k9_tr (hrec47 _ _) ((zwi9 _ _ _ _ _ rfl).trans h3))))))))))))))))
theorem k9_X11_fell (F : Nat) (σ : zMem) (a1 : Int32) (a2 : Int32) : zk9 σ (f_X11_fell F σ a1 a2) := by
  unfold f_X11_fell
  exact (k9_zb (k9_tr (k9_X11_isSlope _ _ _) rfl) (fun r2 m2 h1 => (k9_ite (fun _ => (k9_some h1)) (fun _ => (k9_zb (k9_tr (k9_X11_isHouse _ _ _) h1) (fun r10 m10 h2 => (k9_ite (fun _ => (k9_some h2)) (fun _ => (k9_zb (k9_tr (k9_X11_riskOf _ _ _ _) h2) (fun r21 m21 h3 => (k9_ite (fun _ => (k9_zg (fun g4 => (k9_zg (fun g5 => (k9_tr (k9_it (fun r hr s y => k9_X11_fell_47 _ r s y hr) _ _ _) h3)))))) (fun _ => (k9_some h3)))))))))))))
theorem k9_X11_channel (F : Nat) (σ : zMem) (a1 : Int32) (a2 : Int32) (a3 : Int32) : zk9 σ (f_X11_channel F σ a1 a2 a3) := by
  unfold f_X11_channel
  exact (k9_zb (k9_tr (k9_X11_in _ _ _ _ _) rfl) (fun r6 m6 h1 => (k9_ite (fun _ => (k9_some h1)) (fun _ => (k9_zb (k9_tr (k9_X11_isHouse _ _ _) h1) (fun r14 m14 h2 => (k9_ite (fun _ => (k9_some h2)) (fun _ => (k9_zb (k9_tr (k9_X11_in _ _ _ _ _) h2) (fun r26 m26 h3 => (k9_ite (fun _ => (k9_some h3)) (fun _ => (k9_ite (fun _ => (k9_some h3)) (fun _ => (k9_zg (fun g4 => (k9_zg (fun g5 => (k9_some ((zwi9 _ _ _ _ _ rfl).trans ((zwi9 _ _ _ _ _ rfl).trans ((zwi9 _ _ _ _ _ rfl).trans h3))))))))))))))))))))))
theorem k9_X11_rightAt_20 (F : Nat) (rec20 : zMem → Int32 × Int32 → Option (Int32 × zMem)) (σ : zMem) (x : Int32 × Int32) (hrec20 : ∀ s y, zk9 s (rec20 s y)) : zk9 σ (f_X11_rightAt_20 F rec20 σ x) := by
  unfold f_X11_rightAt_20
  exact (k9_ite (fun _ => (k9_some rfl)) (fun _ => (k9_zg (fun g1 => (k9_ite (fun _ => (k9_zg (fun g2 => (k9_ite (fun _ => (k9_zg (fun g3 => (k9_tr (hrec20 _ _) rfl)))) (fun _ => (k9_some rfl)))))) (fun _ => (k9_tr (hrec20 _ _) rfl)))))))
theorem k9_X11_rightAt (F : Nat) (σ : zMem) (a1 : Int32) : zk9 σ (f_X11_rightAt F σ a1) := by
  unfold f_X11_rightAt
  exact (k9_zb (k9_tr (k9_X11_partsOf _ _ _ _) rfl) (fun r3 m3 h1 => (k9_ite (fun _ => (k9_some h1)) (fun _ => (k9_zg (fun g2 => (k9_tr (k9_it (fun r hr s y => k9_X11_rightAt_20 _ r s y hr) _ _ _) h1)))))))
theorem k9_X11_hour (F : Nat) (σ : zMem) (a1 : Int32) : zk9 σ (f_X11_hour F σ a1) := by
  unfold f_X11_hour
  exact (k9_zb (k9_tr (k9_X11_partsOf _ _ _ _) rfl) (fun r3 m3 h1 => (k9_ite (fun _ => (k9_some h1)) (fun _ => (k9_ite (fun _ => (k9_zb (k9_tr (k9_X11_rightAt _ _ _) h1) (fun r22 m22 h2 => (k9_some h2)))) (fun _ => (k9_some h1)))))))
theorem k9_X11_gets_56 (F : Nat) (rec56 : zMem → Int32 × Int32 × Int32 → Option (Int32 × zMem)) (σ : zMem) (x : Int32 × Int32 × Int32) (hrec56 : ∀ s y, zk9 s (rec56 s y)) : zk9 σ (f_X11_gets_56 F rec56 σ x) := by
  unfold f_X11_gets_56
  exact (k9_ite (fun _ => (k9_some rfl)) (fun _ => (k9_zg (fun g1 => (k9_zg (fun g2 => (k9_zg (fun g3 => (k9_ite (fun _ => (k9_some rfl)) (fun _ => (k9_tr (hrec56 _ _) rfl)))))))))))
theorem k9_X11_gets (F : Nat) (σ : zMem) (a1 : Int32) (a2 : Int32) (a3 : Int32) : zk9 σ (f_X11_gets F σ a1 a2 a3) := by
  unfold f_X11_gets
  exact (k9_zb (k9_tr (k9_X11_isHouse _ _ _) rfl) (fun r2 m2 h1 => (k9_ite (fun _ => (k9_some h1)) (fun _ => (k9_ite (fun _ => (k9_some h1)) (fun _ => (k9_zb (k9_tr (k9_X11_in _ _ _ _ _) h1) (fun r17 m17 h2 => (k9_ite (fun _ => (k9_some h2)) (fun _ => (k9_zb (k9_tr (k9_X11_rightAt _ _ _) h2) (fun r28 m28 h3 => (k9_ite (fun _ => (k9_some h3)) (fun _ => (k9_zb (k9_tr (k9_X11_holder _ _ _) h3) (fun r41 m41 h4 => (k9_ite (fun _ => (k9_tr (k9_it (fun r hr s y => k9_X11_gets_56 _ r s y hr) _ _ _) h4)) (fun _ => (k9_some h4)))))))))))))))))))
theorem k9_X11_canHave (F : Nat) (σ : zMem) (a1 : Int32) (a2 : Int32) : zk9 σ (f_X11_canHave F σ a1 a2) := by
  unfold f_X11_canHave
  exact (k9_ite (fun _ => (k9_zg (fun g1 => (k9_zg (fun g2 => (k9_ite (fun _ => (k9_some rfl)) (fun _ => (k9_some rfl)))))))) (fun _ => (k9_ite (fun _ => (k9_zg (fun g3 => (k9_zg (fun g4 => (k9_ite (fun _ => (k9_some rfl)) (fun _ => (k9_some rfl)))))))) (fun _ => (k9_some rfl)))))
theorem k9_X11_turn_109 (F : Nat) (σ : zMem) (l4 : Int32) (s0 : Int32) : zk9 σ (f_X11_turn_109 F σ l4 s0) := by
  unfold f_X11_turn_109
  exact (k9_some ((zwi9 _ _ _ _ _ rfl).trans rfl))
theorem k9_X11_turn_59 (F : Nat) (rec59 : zMem → Int32 × Int32 × Int32 → Option (Int32 × zMem)) (σ : zMem) (x : Int32 × Int32 × Int32) (hrec59 : ∀ s y, zk9 s (rec59 s y)) : zk9 σ (f_X11_turn_59 F rec59 σ x) := by
  unfold f_X11_turn_59
  exact (k9_ite (fun _ => (k9_some rfl)) (fun _ => (k9_zg (fun g1 => (k9_zb (k9_tr (k9_X11_canHave _ _ _ _) rfl) (fun r81 m81 h2 => (k9_ite (fun _ => (k9_tr (hrec59 _ _) h2)) (fun _ => (k9_zg (fun g3 => (k9_ite (fun _ => (k9_tr (k9_X11_turn_109 _ _ _ _) ((zwi9 _ _ _ _ _ rfl).trans h2))) (fun _ => (k9_tr (k9_X11_turn_109 _ _ _ _) ((zwi9 _ _ _ _ _ rfl).trans h2))))))))))))))
theorem k9_X11_turn (F : Nat) (σ : zMem) (a1 : Int32) : zk9 σ (f_X11_turn F σ a1) := by
  unfold f_X11_turn
  exact (k9_zb (k9_tr (k9_X11_in _ _ _ _ _) rfl) (fun r3 m3 h1 => (k9_ite (fun _ => (k9_some h1)) (fun _ => (k9_zg (fun g2 => (k9_ite (fun _ => (k9_ite (fun _ => (k9_tr (k9_it (fun r hr s y => k9_X11_turn_59 _ r s y hr) _ _ _) h1)) (fun _ => (k9_zb (k9_tr (k9_X11_now _ _ _ _) h1) (fun r36 m36 h3 => (k9_ite (fun _ => (k9_tr (k9_it (fun r hr s y => k9_X11_turn_59 _ r s y hr) _ _ _) h3)) (fun _ => (k9_some ((zwi9 _ _ _ _ _ rfl).trans h3))))))))) (fun _ => (k9_tr (k9_it (fun r hr s y => k9_X11_turn_59 _ r s y hr) _ _ _) h1)))))))))
theorem k9_X11_work (F : Nat) (σ : zMem) (a1 : Int32) (a2 : Int32) : zk9 σ (f_X11_work F σ a1 a2) := by
  unfold f_X11_work
  exact (k9_zb (k9_tr (k9_X11_isHouse _ _ _) rfl) (fun r2 m2 h1 => (k9_ite (fun _ => (k9_some h1)) (fun _ => (k9_zb (k9_tr (k9_X11_in _ _ _ _ _) h1) (fun r15 m15 h2 => (k9_ite (fun _ => (k9_some h2)) (fun _ => (k9_zg (fun g3 => (k9_zg (fun g4 => (k9_zg (fun g5 => (k9_some ((zwi9 _ _ _ _ _ rfl).trans h2))))))))))))))))
theorem k9_X11_year_34 (F : Nat) (rec34 : zMem → Int32 × Int32 → Option (Int32 × zMem)) (σ : zMem) (x : Int32 × Int32) (hrec34 : ∀ s y, zk9 s (rec34 s y)) : zk9 σ (f_X11_year_34 F rec34 σ x) := by
  unfold f_X11_year_34
  exact (k9_ite (fun _ => (k9_some rfl)) (fun _ => (k9_zb (k9_tr (k9_X11_now _ _ _ _) rfl) (fun r46 m46 h1 => (k9_zg (fun g2 => (k9_zg (fun g3 => (k9_zg (fun g4 => (k9_zb (k9_tr (k9_X11_now _ _ _ _) h1) (fun r77 m77 h5 => (k9_zb (k9_tr (k9_X11_owes _ _ _ _) h5) (fun r82 m82 h6 => (k9_zg (fun g7 => (k9_tr (hrec34 _ _) ((zwi9 _ _ _ _ _ rfl).trans h6))))))))))))))))))
theorem k9_X11_year (F : Nat) (σ : zMem) : zk9 σ (f_X11_year F σ) := by
  unfold f_X11_year
  exact (k9_zg (fun g1 => (k9_ite (fun _ => (k9_some rfl)) (fun _ => (k9_zg (fun g2 => (k9_tr (k9_it (fun r hr s y => k9_X11_year_34 _ r s y hr) _ _ _) ((zwi9 _ _ _ _ _ rfl).trans rfl))))))))
theorem k9_X11_tried_145 (F : Nat) (rec80 : zMem → Int32 × Int32 × Nat × Nat × Nat × Int32 × Int32 → Option (Int32 × zMem)) (rec102 : zMem → Int32 × Int32 × Nat × Nat × Nat × Int32 × Int32 × Int32 → Option (Int32 × zMem)) (σ : zMem) (l1 : Int32) (l2 : Int32) (l3k : Nat) (l4k : Nat) (l5k : Nat) (l6 : Int32) (l7 : Int32) (l8 : Int32) (s0 : Int32) (s1 : Int32) (s2 : Nat) (hrec80 : ∀ s y, zk9 s (rec80 s y)) (hrec102 : ∀ s y, zk9 s (rec102 s y)) : zk9 σ (f_X11_tried_145 F rec80 rec102 σ l1 l2 l3k l4k l5k l6 l7 l8 s0 s1 s2) := by
  unfold f_X11_tried_145
  exact (k9_zg (fun g1 => (k9_zg (fun g2 => (k9_zg (fun g3 => (k9_zg (fun g4 => (k9_zg (fun g5 => (k9_tr (hrec102 _ _) ((zwi9 _ _ _ _ _ rfl).trans rfl))))))))))))
theorem k9_X11_tried_102 (F : Nat) (rec80 : zMem → Int32 × Int32 × Nat × Nat × Nat × Int32 × Int32 → Option (Int32 × zMem)) (rec102 : zMem → Int32 × Int32 × Nat × Nat × Nat × Int32 × Int32 × Int32 → Option (Int32 × zMem)) (σ : zMem) (x : Int32 × Int32 × Nat × Nat × Nat × Int32 × Int32 × Int32) (hrec80 : ∀ s y, zk9 s (rec80 s y)) (hrec102 : ∀ s y, zk9 s (rec102 s y)) : zk9 σ (f_X11_tried_102 F rec80 rec102 σ x) := by
  unfold f_X11_tried_102
  exact (k9_zg (fun g1 => (k9_zg (fun g2 => (k9_zg (fun g3 => (k9_ite (fun _ => (k9_tr (hrec80 _ _) rfl)) (fun _ => (k9_zg (fun g4 => (k9_zg (fun g5 => (k9_ite (fun _ => (k9_zg (fun g6 => (k9_zg (fun g7 => (k9_tr (k9_X11_tried_145 _ rec80 rec102 _ _ _ _ _ _ _ _ _ _ _ _ hrec80 hrec102) rfl)))))) (fun _ => (k9_tr (k9_X11_tried_145 _ rec80 rec102 _ _ _ _ _ _ _ _ _ _ _ _ hrec80 hrec102) rfl)))))))))))))))
theorem k9_X11_tried_246 (F : Nat) (rec194 : zMem → Int32 × Nat × Nat × Nat × Int32 × Int32 → Option (Int32 × zMem)) (rec234 : zMem → Int32 × Nat × Nat × Nat × Int32 × Int32 × Int32 → Option (Int32 × zMem)) (rec246 : zMem → Int32 × Nat × Nat × Nat × Int32 × Int32 × Int32 × Int32 → Option (Int32 × zMem)) (σ : zMem) (x : Int32 × Nat × Nat × Nat × Int32 × Int32 × Int32 × Int32) (hrec194 : ∀ s y, zk9 s (rec194 s y)) (hrec234 : ∀ s y, zk9 s (rec234 s y)) (hrec246 : ∀ s y, zk9 s (rec246 s y)) : zk9 σ (f_X11_tried_246 F rec194 rec234 rec246 σ x) := by
  unfold f_X11_tried_246
  exact (k9_zg (fun g1 => (k9_zg (fun g2 => (k9_zg (fun g3 => (k9_ite (fun _ => (k9_tr (hrec234 _ _) rfl)) (fun _ => (k9_zg (fun g4 => (k9_zg (fun g5 => (k9_zg (fun g6 => (k9_zb (k9_tr (k9_X11_feedOn _ _ _ _) rfl) (fun r272 m272 h7 => (k9_tr (hrec246 _ _) h7)))))))))))))))))
theorem k9_X11_tried_234 (F : Nat) (rec194 : zMem → Int32 × Nat × Nat × Nat × Int32 × Int32 → Option (Int32 × zMem)) (rec234 : zMem → Int32 × Nat × Nat × Nat × Int32 × Int32 × Int32 → Option (Int32 × zMem)) (σ : zMem) (x : Int32 × Nat × Nat × Nat × Int32 × Int32 × Int32) (hrec194 : ∀ s y, zk9 s (rec194 s y)) (hrec234 : ∀ s y, zk9 s (rec234 s y)) : zk9 σ (f_X11_tried_234 F rec194 rec234 σ x) := by
  unfold f_X11_tried_234
  exact (k9_zg (fun g1 => (k9_zg (fun g2 => (k9_zg (fun g3 => (k9_ite (fun _ => (k9_tr (hrec194 _ _) rfl)) (fun _ => (k9_tr (k9_it (fun r hr s y => k9_X11_tried_246 _ rec194 rec234 r s y hrec194 hrec234 hr) _ _ _) rfl)))))))))
theorem k9_X11_tried_208 (F : Nat) (rec194 : zMem → Int32 × Nat × Nat × Nat × Int32 × Int32 → Option (Int32 × zMem)) (rec208 : zMem → Int32 × Nat × Nat × Nat × Int32 × Int32 × Int32 → Option (Int32 × zMem)) (σ : zMem) (x : Int32 × Nat × Nat × Nat × Int32 × Int32 × Int32) (hrec194 : ∀ s y, zk9 s (rec194 s y)) (hrec208 : ∀ s y, zk9 s (rec208 s y)) : zk9 σ (f_X11_tried_208 F rec194 rec208 σ x) := by
  unfold f_X11_tried_208
  exact (k9_zg (fun g1 => (k9_zg (fun g2 => (k9_zg (fun g3 => (k9_ite (fun _ => (k9_tr (k9_it (fun r hr s y => k9_X11_tried_234 _ rec194 r s y hrec194 hr) _ _ _) rfl)) (fun _ => (k9_zb (k9_tr (k9_X11_grow _ _ _ _) rfl) (fun r222 m222 h4 => (k9_tr (hrec208 _ _) h4)))))))))))
theorem k9_X11_tried_194 (F : Nat) (rec194 : zMem → Int32 × Nat × Nat × Nat × Int32 × Int32 → Option (Int32 × zMem)) (σ : zMem) (x : Int32 × Nat × Nat × Nat × Int32 × Int32) (hrec194 : ∀ s y, zk9 s (rec194 s y)) : zk9 σ (f_X11_tried_194 F rec194 σ x) := by
  unfold f_X11_tried_194
  exact (k9_zg (fun g1 => (k9_zg (fun g2 => (k9_zg (fun g3 => (k9_ite (fun _ => (k9_some ((zwi9 _ _ _ _ _ rfl).trans ((zwi9 _ _ _ _ _ rfl).trans ((zwi9 _ _ _ _ _ rfl).trans rfl))))) (fun _ => (k9_tr (k9_it (fun r hr s y => k9_X11_tried_208 _ rec194 r s y hrec194 hr) _ _ _) rfl)))))))))
theorem k9_X11_tried_80 (F : Nat) (rec80 : zMem → Int32 × Int32 × Nat × Nat × Nat × Int32 × Int32 → Option (Int32 × zMem)) (σ : zMem) (x : Int32 × Int32 × Nat × Nat × Nat × Int32 × Int32) (hrec80 : ∀ s y, zk9 s (rec80 s y)) : zk9 σ (f_X11_tried_80 F rec80 σ x) := by
  unfold f_X11_tried_80
  exact (k9_zg (fun g1 => (k9_zg (fun g2 => (k9_zg (fun g3 => (k9_ite (fun _ => (k9_tr (k9_it (fun r hr s y => k9_X11_tried_194 _ r s y hr) _ _ _) ((zwi9 _ _ _ _ _ rfl).trans ((zwi9 _ _ _ _ _ rfl).trans ((zwi9 _ _ _ _ _ rfl).trans rfl))))) (fun _ => (k9_ite (fun _ => (k9_tr (k9_it (fun r hr s y => k9_X11_tried_102 _ rec80 r s y hrec80 hr) _ _ _) rfl)) (fun _ => (k9_tr (hrec80 _ _) rfl)))))))))))
theorem k9_X11_tried_43 (F : Nat) (rec43 : zMem → Int32 × Int32 × Nat × Nat × Nat × Int32 → Option (Int32 × zMem)) (σ : zMem) (x : Int32 × Int32 × Nat × Nat × Nat × Int32) (hrec43 : ∀ s y, zk9 s (rec43 s y)) : zk9 σ (f_X11_tried_43 F rec43 σ x) := by
  unfold f_X11_tried_43
  exact (k9_zg (fun g1 => (k9_zg (fun g2 => (k9_zg (fun g3 => (k9_ite (fun _ => (k9_tr (k9_it (fun r hr s y => k9_X11_tried_80 _ r s y hr) _ _ _) rfl)) (fun _ => (k9_zg (fun g4 => (k9_zg (fun g5 => (k9_zg (fun g6 => (k9_tr (hrec43 _ _) ((zcpi9 _ _ _ _ _ _ _ _ rfl).trans rfl))))))))))))))))
theorem k9_X11_tried (F : Nat) (σ : zMem) (a1 : Int32) (a2 : Int32) : zk9 σ (f_X11_tried F σ a1 a2) := by
  unfold f_X11_tried
  exact (k9_zg (fun g1 => (k9_zg (fun g2 => (k9_zg (fun g3 => (k9_zg (fun g4 => (k9_zg (fun g5 => (k9_tr (k9_it (fun r hr s y => k9_X11_tried_43 _ r s y hr) _ _ _) ((zcpi9 _ _ _ _ _ _ _ _ rfl).trans ((zcpi9 _ _ _ _ _ _ _ _ rfl).trans rfl)))))))))))))
theorem k9_X11_plan_128 (F : Nat) (rec111 : zMem → Int32 × Int32 × Int32 × Int32 × Int32 × Int32 × Int32 → Option (Int32 × zMem)) (rec128 : zMem → Int32 × Int32 × Int32 × Int32 × Int32 × Int32 × Int32 × Int32 × Int32 → Option (Int32 × zMem)) (σ : zMem) (x : Int32 × Int32 × Int32 × Int32 × Int32 × Int32 × Int32 × Int32 × Int32) (hrec111 : ∀ s y, zk9 s (rec111 s y)) (hrec128 : ∀ s y, zk9 s (rec128 s y)) : zk9 σ (f_X11_plan_128 F rec111 rec128 σ x) := by
  unfold f_X11_plan_128
  exact (k9_ite (fun _ => (k9_zb (k9_tr (k9_X11_tried _ _ _ _) rfl) (fun r165 m165 h1 => (k9_ite (fun _ => (k9_tr (hrec111 _ _) h1)) (fun _ => (k9_zg (fun g2 => (k9_tr (hrec111 _ _) ((zcpi9 _ _ _ _ _ _ _ _ rfl).trans h1))))))))) (fun _ => (k9_zg (fun g3 => (k9_zg (fun g4 => (k9_zg (fun g5 => (k9_tr (hrec128 _ _) ((zwi9 _ _ _ _ _ rfl).trans rfl))))))))))
theorem k9_X11_plan_111 (F : Nat) (rec111 : zMem → Int32 × Int32 × Int32 × Int32 × Int32 × Int32 × Int32 → Option (Int32 × zMem)) (σ : zMem) (x : Int32 × Int32 × Int32 × Int32 × Int32 × Int32 × Int32) (hrec111 : ∀ s y, zk9 s (rec111 s y)) : zk9 σ (f_X11_plan_111 F rec111 σ x) := by
  unfold f_X11_plan_111
  exact (k9_ite (fun _ => (k9_ite (fun _ => (k9_some rfl)) (fun _ => (k9_zg (fun g1 => (k9_some rfl)))))) (fun _ => (k9_tr (k9_it (fun r hr s y => k9_X11_plan_128 _ rec111 r s y hrec111 hr) _ _ _) rfl)))
theorem k9_X11_plan_81 (F : Nat) (rec81 : zMem → Int32 × Int32 × Int32 × Int32 × Int32 × Int32 → Option (Int32 × zMem)) (σ : zMem) (x : Int32 × Int32 × Int32 × Int32 × Int32 × Int32) (hrec81 : ∀ s y, zk9 s (rec81 s y)) : zk9 σ (f_X11_plan_81 F rec81 σ x) := by
  unfold f_X11_plan_81
  exact (k9_ite (fun _ => (k9_tr (k9_it (fun r hr s y => k9_X11_plan_111 _ r s y hr) _ _ _) rfl)) (fun _ => (k9_tr (hrec81 _ _) rfl)))
theorem k9_X11_plan (F : Nat) (σ : zMem) (a1 : Int32) (a2 : Int32) (a3 : Int32) : zk9 σ (f_X11_plan F σ a1 a2 a3) := by
  unfold f_X11_plan
  exact (k9_zb (k9_tr (k9_J6_bitCount_0f7a4 _ _ _) rfl) (fun r1 m1 h1 => (k9_ite (fun _ => (k9_ite (fun _ => (k9_some h1)) (fun _ => (k9_ite (fun _ => (k9_some h1)) (fun _ => (k9_zb (k9_tr (k9_X11_in _ _ _ _ _) h1) (fun r36 m36 h2 => (k9_ite (fun _ => (k9_some h2)) (fun _ => (k9_zb (k9_tr (k9_X11_in _ _ _ _ _) h2) (fun r48 m48 h3 => (k9_ite (fun _ => (k9_some h3)) (fun _ => (k9_ite (fun _ => (k9_some h3)) (fun _ => (k9_ite (fun _ => (k9_tr (k9_it (fun r hr s y => k9_X11_plan_81 _ r s y hr) _ _ _) h3)) (fun _ => (k9_some h3)))))))))))))))))) (fun _ => (k9_some h1)))))
theorem k9_X11_above (F : Nat) (σ : zMem) (a0 : Int32) : zk9 σ (f_X11_above F σ a0) := by
  unfold f_X11_above
  exact (k9_ite (fun _ => (k9_some rfl)) (fun _ => (k9_ite (fun _ => (k9_some rfl)) (fun _ => (k9_some rfl)))))
theorem k9_X11_bodyOf (F : Nat) (σ : zMem) (a0 : Int32) (a1 : Int32) : zk9 σ (f_X11_bodyOf F σ a0 a1) := by
  unfold f_X11_bodyOf
  exact (k9_ite (fun _ => (k9_some rfl)) (fun _ => (k9_ite (fun _ => (k9_some rfl)) (fun _ => (k9_ite (fun _ => (k9_some rfl)) (fun _ => (k9_ite (fun _ => (k9_some rfl)) (fun _ => (k9_ite (fun _ => (k9_some rfl)) (fun _ => (k9_ite (fun _ => (k9_some rfl)) (fun _ => (k9_ite (fun _ => (k9_some rfl)) (fun _ => (k9_ite (fun _ => (k9_some rfl)) (fun _ => (k9_ite (fun _ => (k9_some rfl)) (fun _ => (k9_some rfl)))))))))))))))))))
theorem k9_X11_run_50 (F : Nat) (rcall : zMem → Int32 → Int32 → Int32 → Int32 → Option (Int32 × zMem)) (σ : zMem) (l1 : Int32) (l4 : Int32) (l5 : Int32) (l6 : Int32) (hrcall : ∀ s a b c d, zk9 s (rcall s a b c d)) : zk9 σ (f_X11_run_50 F rcall σ l1 l4 l5 l6) := by
  unfold f_X11_run_50
  exact (k9_ite (fun _ => (k9_zg (fun g1 => (k9_some ((zwi9 _ _ _ _ _ rfl).trans rfl))))) (fun _ => (k9_ite (fun _ => (k9_zg (fun g2 => (k9_zb (k9_tr (hrcall _ _ _ _ _) ((zwi9 _ _ _ _ _ rfl).trans rfl)) (fun r157 m157 h3 => (k9_some h3)))))) (fun _ => (k9_ite (fun _ => (k9_zg (fun g4 => (k9_zb (k9_tr (hrcall _ _ _ _ _) ((zwi9 _ _ _ _ _ rfl).trans rfl)) (fun r174 m174 h5 => (k9_zg (fun g6 => (k9_zb (k9_tr (hrcall _ _ _ _ _) h5) (fun r194 m194 h7 => (k9_some h7)))))))))) (fun _ => (k9_ite (fun _ => (k9_zb (k9_tr (k9_X11_above _ _ _) ((zwi9 _ _ _ _ _ rfl).trans rfl)) (fun r203 m203 h8 => (k9_zb (k9_tr (hrcall _ _ _ _ _) h8) (fun r209 m209 h9 => (k9_some h9)))))) (fun _ => (k9_ite (fun _ => (k9_zb (k9_tr (k9_X11_above _ _ _) ((zwi9 _ _ _ _ _ rfl).trans rfl)) (fun r219 m219 h10 => (k9_zb (k9_tr (hrcall _ _ _ _ _) h10) (fun r225 m225 h11 => (k9_some h11)))))) (fun _ => (k9_ite (fun _ => (k9_zb (k9_tr (k9_X11_above _ _ _) ((zwi9 _ _ _ _ _ rfl).trans rfl)) (fun r235 m235 h12 => (k9_zb (k9_tr (hrcall _ _ _ _ _) h12) (fun r243 m243 h13 => (k9_some h13)))))) (fun _ => (k9_ite (fun _ => (k9_zb (k9_tr (k9_X11_above _ _ _) ((zwi9 _ _ _ _ _ rfl).trans rfl)) (fun r251 m251 h14 => (k9_zb (k9_tr (hrcall _ _ _ _ _) h14) (fun r257 m257 h15 => (k9_some h15)))))) (fun _ => (k9_ite (fun _ => (k9_zb (k9_tr (k9_X11_above _ _ _) ((zwi9 _ _ _ _ _ rfl).trans rfl)) (fun r267 m267 h16 => (k9_zb (k9_tr (hrcall _ _ _ _ _) h16) (fun r273 m273 h17 => (k9_zg (fun g18 => (k9_some h17)))))))) (fun _ => (k9_zb (k9_tr (k9_X11_above _ _ _) ((zwi9 _ _ _ _ _ rfl).trans rfl)) (fun r288 m288 h19 => (k9_zb (k9_tr (hrcall _ _ _ _ _) h19) (fun r294 m294 h20 => (k9_some h20)))))))))))))))))))))
theorem k9_X11_run_3 (F : Nat) (rcall : zMem → Int32 → Int32 → Int32 → Int32 → Option (Int32 × zMem)) (rec3 : zMem → Int32 × Int32 × Int32 × Int32 → Option (Int32 × zMem)) (σ : zMem) (x : Int32 × Int32 × Int32 × Int32) (hrcall : ∀ s a b c d, zk9 s (rcall s a b c d)) (hrec3 : ∀ s y, zk9 s (rec3 s y)) : zk9 σ (f_X11_run_3 F rcall rec3 σ x) := by
  unfold f_X11_run_3
  exact (k9_zb (k9_tr (k9_X11_bodyOf _ _ _ _) rfl) (fun r6 m6 h1 => (k9_ite (fun _ => (k9_zb (k9_tr (k9_X11_above _ _ _) h1) (fun r14 m14 h2 => (k9_tr (hrec3 _ _) h2)))) (fun _ => (k9_zb (k9_tr (k9_X11_bodyOf _ _ _ _) h1) (fun r25 m25 h3 => (k9_ite (fun _ => (k9_tr (k9_X11_run_50 _ rcall _ _ _ _ _ hrcall) h3)) (fun _ => (k9_zg (fun g4 => (k9_tr (k9_X11_run_50 _ rcall _ _ _ _ _ hrcall) ((zwi9 _ _ _ _ _ rfl).trans h3))))))))))))
theorem k9_X11_runB (F : Nat) (rcall : zMem → Int32 → Int32 → Int32 → Int32 → Option (Int32 × zMem)) (σ : zMem) (a1 : Int32) (a2 : Int32) (a3 : Int32) (a4 : Int32) (hrcall : ∀ s a b c d, zk9 s (rcall s a b c d)) : zk9 σ (f_X11_runB F rcall σ a1 a2 a3 a4) := by
  unfold f_X11_runB
  exact (k9_tr (k9_it (fun r hr s y => k9_X11_run_3 _ rcall r s y hrcall hr) _ _ _) rfl)
theorem k9_X11_runN (F : Nat) : ∀ (d : Nat) (σ : zMem) (a1 a2 a3 a4 : Int32), zk9 σ (f_X11_runN F d σ a1 a2 a3 a4)
  | 0, _, _, _, _, _ => k9_none
  | d + 1, σ, a1, a2, a3, a4 => k9_X11_runB F (f_X11_runN F d) σ a1 a2 a3 a4 (k9_X11_runN F d)
theorem k9_X11_run (F : Nat) (σ : zMem) (a1 : Int32) (a2 : Int32) (a3 : Int32) (a4 : Int32) : zk9 σ (f_X11_run F σ a1 a2 a3 a4) := k9_X11_runN F 8 σ a1 a2 a3 a4
theorem k9_X11_act (F : Nat) (σ : zMem) (a1 : Int32) (a2 : Int32) (a3 : Int32) : zk9 σ (f_X11_act F σ a1 a2 a3) := by
  unfold f_X11_act
  exact (k9_zb (k9_tr (k9_X11_isRight _ _ _) ((zwi9 _ _ _ _ _ rfl).trans rfl)) (fun r7 m7 h1 => (k9_ite (fun _ => (k9_some h1)) (fun _ => (k9_zb (k9_tr (k9_X11_in _ _ _ _ _) h1) (fun r16 m16 h2 => (k9_ite (fun _ => (k9_some h2)) (fun _ => (k9_zg (fun g3 => (k9_zb (k9_tr (k9_X11_run _ _ _ _ _ _) h2) (fun r32 m32 h4 => (k9_some h4)))))))))))))
theorem k9_X11_trace (F : Nat) (σ : zMem) (a1 : Int32) : zk9 σ (f_X11_trace F σ a1) := by
  unfold f_X11_trace
  exact (k9_zb (k9_tr (k9_X11_in _ _ _ _ _) rfl) (fun r13 m13 h1 => (k9_ite (fun _ => (k9_some h1)) (fun _ => (k9_zg (fun g2 => (k9_some h1)))))))
theorem k9_X11_taken_30 (F : Nat) (rec30 : zMem → Int32 × Int32 × Int32 → Option (Int32 × zMem)) (σ : zMem) (x : Int32 × Int32 × Int32) (hrec30 : ∀ s y, zk9 s (rec30 s y)) : zk9 σ (f_X11_taken_30 F rec30 σ x) := by
  unfold f_X11_taken_30
  exact (k9_ite (fun _ => (k9_some rfl)) (fun _ => (k9_ite (fun _ => (k9_zg (fun g1 => (k9_some rfl)))) (fun _ => (k9_zb (k9_tr (k9_X11_above _ _ _) rfl) (fun r47 m47 h2 => (k9_tr (hrec30 _ _) h2)))))))
theorem k9_X11_taken (F : Nat) (σ : zMem) (a1 : Int32) (a2 : Int32) : zk9 σ (f_X11_taken F σ a1 a2) := by
  unfold f_X11_taken
  exact (k9_zb (k9_tr (k9_X11_in _ _ _ _ _) rfl) (fun r3 m3 h1 => (k9_ite (fun _ => (k9_some h1)) (fun _ => (k9_zb (k9_tr (k9_X11_isRight _ _ _) h1) (fun r14 m14 h2 => (k9_ite (fun _ => (k9_some h2)) (fun _ => (k9_zg (fun g3 => (k9_tr (k9_it (fun r hr s y => k9_X11_taken_30 _ r s y hr) _ _ _) h2)))))))))))
theorem k9_X11_count (F : Nat) (σ : zMem) (a1 : Int32) : zk9 σ (f_X11_count F σ a1) := by
  unfold f_X11_count
  exact (k9_ite (fun _ => (k9_some rfl)) (fun _ => (k9_ite (fun _ => (k9_some rfl)) (fun _ => (k9_ite (fun _ => (k9_some rfl)) (fun _ => (k9_ite (fun _ => (k9_some rfl)) (fun _ => (k9_ite (fun _ => (k9_some rfl)) (fun _ => (k9_ite (fun _ => (k9_some rfl)) (fun _ => (k9_ite (fun _ => (k9_some rfl)) (fun _ => (k9_ite (fun _ => (k9_some rfl)) (fun _ => (k9_ite (fun _ => (k9_some rfl)) (fun _ => (k9_ite (fun _ => (k9_some rfl)) (fun _ => (k9_ite (fun _ => (k9_some rfl)) (fun _ => (k9_ite (fun _ => (k9_some rfl)) (fun _ => (k9_ite (fun _ => (k9_some rfl)) (fun _ => (k9_ite (fun _ => (k9_some rfl)) (fun _ => (k9_ite (fun _ => (k9_ite (fun _ => (k9_some rfl)) (fun _ => (k9_some rfl)))) (fun _ => (k9_ite (fun _ => (k9_some rfl)) (fun _ => k9_none))))))))))))))))))))))))))))))))
theorem k9_X11_sheet_67 (F : Nat) (rec67 : zMem → Int32 × Int32 → Option (Int32 × zMem)) (σ : zMem) (x : Int32 × Int32) (hrec67 : ∀ s y, zk9 s (rec67 s y)) : zk9 σ (f_X11_sheet_67 F rec67 σ x) := by
  unfold f_X11_sheet_67
  exact (k9_ite (fun _ => (k9_some rfl)) (fun _ => (k9_zg (fun g1 => (k9_zg (fun g2 => (k9_zg (fun g3 => (k9_zg (fun g4 => (k9_tr (hrec67 _ _) ((zwi9 _ _ _ _ _ rfl).trans ((zwi9 _ _ _ _ _ rfl).trans rfl)))))))))))))
theorem k9_X11_sheet_63 (F : Nat) (σ : zMem) (l1 : Int32) (s0 : Int32) (s1 : Int32) : zk9 σ (f_X11_sheet_63 F σ l1 s0 s1) := by
  unfold f_X11_sheet_63
  exact (k9_zg (fun g1 => (k9_tr (k9_it (fun r hr s y => k9_X11_sheet_67 _ r s y hr) _ _ _) ((zwi9 _ _ _ _ _ rfl).trans rfl))))
theorem k9_X11_sheet_42 (F : Nat) (σ : zMem) (l1 : Int32) (l2 : Int32) (l3 : Int32) : zk9 σ (f_X11_sheet_42 F σ l1 l2 l3) := by
  unfold f_X11_sheet_42
  exact (k9_zg (fun g1 => (k9_ite (fun _ => (k9_tr (k9_X11_sheet_63 _ _ _ _ _) ((zwi9 _ _ _ _ _ rfl).trans rfl))) (fun _ => (k9_tr (k9_X11_sheet_63 _ _ _ _ _) ((zwi9 _ _ _ _ _ rfl).trans rfl))))))
theorem k9_X11_sheet_31 (F : Nat) (σ : zMem) (l1 : Int32) (l2 : Int32) (l3 : Int32) : zk9 σ (f_X11_sheet_31 F σ l1 l2 l3) := by
  unfold f_X11_sheet_31
  exact (k9_ite (fun _ => (k9_tr (k9_X11_sheet_42 _ _ _ _ _) rfl)) (fun _ => (k9_ite (fun _ => (k9_tr (k9_X11_sheet_42 _ _ _ _ _) rfl)) (fun _ => (k9_some rfl)))))
theorem k9_X11_sheet (F : Nat) (σ : zMem) (a1 : Int32) (a2 : Int32) (a3 : Int32) : zk9 σ (f_X11_sheet F σ a1 a2 a3) := by
  unfold f_X11_sheet
  exact (k9_zb (k9_tr (k9_X11_in _ _ _ _ _) rfl) (fun r3 m3 h1 => (k9_ite (fun _ => (k9_some h1)) (fun _ => (k9_zb (k9_tr (k9_X11_in _ _ _ _ _) h1) (fun r12 m12 h2 => (k9_ite (fun _ => (k9_some h2)) (fun _ => (k9_ite (fun _ => (k9_tr (k9_X11_sheet_31 _ _ _ _ _) h2)) (fun _ => (k9_ite (fun _ => (k9_tr (k9_X11_sheet_31 _ _ _ _ _) h2)) (fun _ => (k9_some h2)))))))))))))
theorem k9_X11_cell_80 (F : Nat) (σ : zMem) (l1 : Int32) (l2 : Int32) (s0 : Int32) (s1 : Int32) (s2 : Nat) : zk9 σ (f_X11_cell_80 F σ l1 l2 s0 s1 s2) := by
  unfold f_X11_cell_80
  exact (k9_zg (fun g1 => (k9_zg (fun g2 => (k9_zg (fun g3 => (k9_zg (fun g4 => (k9_some ((zwi9 _ _ _ _ _ rfl).trans ((zwi9 _ _ _ _ _ rfl).trans rfl)))))))))))
theorem k9_X11_cell (F : Nat) (σ : zMem) (a1 : Int32) (a2 : Int32) (a3 : Int32) : zk9 σ (f_X11_cell F σ a1 a2 a3) := by
  unfold f_X11_cell
  exact (k9_zb (k9_tr (k9_X11_in _ _ _ _ _) rfl) (fun r3 m3 h1 => (k9_ite (fun _ => (k9_some h1)) (fun _ => (k9_zg (fun g2 => (k9_ite (fun _ => (k9_zg (fun g3 => (k9_zb (k9_tr (k9_X11_in _ _ _ _ _) h1) (fun r34 m34 h4 => (k9_ite (fun _ => (k9_some h4)) (fun _ => (k9_zg (fun g5 => (k9_zg (fun g6 => (k9_ite (fun _ => (k9_tr (k9_X11_cell_80 _ _ _ _ _ _ _) h4)) (fun _ => (k9_zg (fun g7 => (k9_ite (fun _ => (k9_tr (k9_X11_cell_80 _ _ _ _ _ _ _) h4)) (fun _ => (k9_tr (k9_X11_cell_80 _ _ _ _ _ _ _) h4)))))))))))))))))) (fun _ => (k9_some h1)))))))))
theorem k9_X11_lose (F : Nat) (σ : zMem) (a1 : Int32) (a2 : Int32) : zk9 σ (f_X11_lose F σ a1 a2) := by
  unfold f_X11_lose
  exact (k9_zb (k9_tr (k9_X11_in _ _ _ _ _) rfl) (fun r3 m3 h1 => (k9_ite (fun _ => (k9_some h1)) (fun _ => (k9_zg (fun g2 => (k9_ite (fun _ => (k9_zg (fun g3 => (k9_ite (fun _ => (k9_zg (fun g4 => (k9_zb (k9_tr (k9_X11_in _ _ _ _ _) h1) (fun r47 m47 h5 => (k9_ite (fun _ => (k9_some h5)) (fun _ => (k9_zg (fun g6 => (k9_zg (fun g7 => (k9_some ((zwi9 _ _ _ _ _ rfl).trans h5))))))))))))) (fun _ => (k9_some h1)))))) (fun _ => (k9_some h1)))))))))
theorem k9_X11_copy (F : Nat) (σ : zMem) (a1 : Int32) (a2 : Int32) (a3 : Int32) (a4 : Int32) (a5 : Int32) : zk9 σ (f_X11_copy F σ a1 a2 a3 a4 a5) := by
  unfold f_X11_copy
  exact (k9_zb (k9_tr (k9_X11_in _ _ _ _ _) rfl) (fun r3 m3 h1 => (k9_ite (fun _ => (k9_some h1)) (fun _ => (k9_zb (k9_tr (k9_X11_in _ _ _ _ _) h1) (fun r12 m12 h2 => (k9_ite (fun _ => (k9_some h2)) (fun _ => (k9_zg (fun g3 => (k9_ite (fun _ => (k9_some h2)) (fun _ => (k9_zg (fun g4 => (k9_ite (fun _ => (k9_zg (fun g5 => (k9_zg (fun g6 => (k9_ite (fun _ => (k9_ite (fun _ => (k9_some h2)) (fun _ => (k9_ite (fun _ => (k9_some h2)) (fun _ => (k9_ite (fun _ => (k9_some h2)) (fun _ => (k9_zg (fun g7 => (k9_ite (fun _ => (k9_some h2)) (fun _ => (k9_zg (fun g8 => (k9_ite (fun _ => (k9_zg (fun g9 => (k9_zg (fun g10 => (k9_zg (fun g11 => (k9_zg (fun g12 => (k9_zg (fun g13 => (k9_zg (fun g14 => (k9_some ((zcpi9 _ _ _ _ _ _ _ _ rfl).trans ((zcpi9 _ _ _ _ _ _ _ _ rfl).trans h2)))))))))))))))) (fun _ => (k9_some h2)))))))))))))))) (fun _ => (k9_some h2)))))))) (fun _ => (k9_some h2)))))))))))))))))
