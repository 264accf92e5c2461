theorem x_X0_snowAfter (τ : zMem) (F : Nat) (σ : zMem) (a0 : Int32) (a1 : Int32) (a2 : Int32)  : f_X0_snowAfter F (zmx σ τ) a0 a1 a2 = zM τ (f_X0_snowAfter F σ a0 a1 a2) := by
  simp only [f_X0_snowAfter, Nat.reduceLT, zmx_x, zml_x, zwi_x, zwl_x, zM_zb, zM_fun, zM_ite, zM_iten, zM_zg, zM_some]
theorem x_X0_grassAfter (τ : zMem) (F : Nat) (σ : zMem) (a0 : Int32) (a1 : Int32) (a2 : Int32)  : f_X0_grassAfter F (zmx σ τ) a0 a1 a2 = zM τ (f_X0_grassAfter F σ a0 a1 a2) := by
  simp only [f_X0_grassAfter, Nat.reduceLT, zmx_x, zml_x, zwi_x, zwl_x, zM_zb, zM_fun, zM_ite, zM_iten, zM_zg, zM_some]
theorem x_X0_grow (τ : zMem) (F : Nat) (σ : zMem) (a1 : Int32) (a2 : Int32) (a3 : Int32)  : f_X0_grow F (zmx σ τ) a1 a2 a3 = zM τ (f_X0_grow F σ a1 a2 a3) := by
  simp only [f_X0_grow, Nat.reduceLT, zmx_x, zml_x, zwi_x, zwl_x, zM_zb, zM_fun, zM_ite, zM_iten, zM_zg, zM_some, x_X0_snowAfter τ, x_X0_grassAfter τ]
theorem x_X0_feedCows (τ : zMem) (F : Nat) (σ : zMem) (a1 : Int32) (a2 : Int32)  : f_X0_feedCows F (zmx σ τ) a1 a2 = zM τ (f_X0_feedCows F σ a1 a2) := by
  simp only [f_X0_feedCows, Nat.reduceLT, zmx_x, zml_x, zwi_x, zwl_x, zM_zb, zM_fun, zM_ite, zM_iten, zM_zg, zM_some]
theorem x_X0_hungerWith_89 (τ : zMem) (F : Nat) (rec22 rec22q : zMem → Int32 × Int32 × Int32 × Int32 × Int32 × Int32 × Int32 → Option (Int32 × zMem)) (σ : zMem) (l1 : Int32) (l2 : Int32) (l3 : Int32) (l4 : Int32) (l5 : Int32) (l6 : Int32) (l7 : Int32) (hrec22 : ∀ s y, rec22 (zmx s τ) y = zM τ (rec22q s y)) : f_X0_hungerWith_89 F rec22 (zmx σ τ) l1 l2 l3 l4 l5 l6 l7 = zM τ (f_X0_hungerWith_89 F rec22q σ l1 l2 l3 l4 l5 l6 l7) := by
  simp only [f_X0_hungerWith_89, Nat.reduceLT, zmx_x, zml_x, zwi_x, zwl_x, zM_zb, zM_fun, zM_ite, zM_iten, zM_zg, zM_some, hrec22]
theorem x_X0_hungerWith_22 (τ : zMem) (F : Nat) (rec22 rec22q : zMem → Int32 × Int32 × Int32 × Int32 × Int32 × Int32 × Int32 → Option (Int32 × zMem)) (σ : zMem) (x : Int32 × Int32 × Int32 × Int32 × Int32 × Int32 × Int32) (hrec22 : ∀ s y, rec22 (zmx s τ) y = zM τ (rec22q s y)) : f_X0_hungerWith_22 F rec22 (zmx σ τ) x = zM τ (f_X0_hungerWith_22 F rec22q σ x) := by
  have kX0_hungerWith_89 : ∀ s l1 l2 l3 l4 l5 l6 l7, f_X0_hungerWith_89 F rec22 (zmx s τ) l1 l2 l3 l4 l5 l6 l7 = zM τ (f_X0_hungerWith_89 F rec22q s l1 l2 l3 l4 l5 l6 l7) := fun s l1 l2 l3 l4 l5 l6 l7 => x_X0_hungerWith_89 τ F rec22 rec22q s l1 l2 l3 l4 l5 l6 l7 hrec22
  simp only [f_X0_hungerWith_22, Nat.reduceLT, zmx_x, zml_x, zwi_x, zwl_x, zM_zb, zM_fun, zM_ite, zM_iten, zM_zg, zM_some, x_X0_snowAfter τ, kX0_hungerWith_89, x_X0_grassAfter τ, hrec22]
theorem x_X0_hungerWith (τ : zMem) (F : Nat) (σ : zMem) (a1 : Int32) (a2 : Int32) (a3 : Int32)  : f_X0_hungerWith F (zmx σ τ) a1 a2 a3 = zM τ (f_X0_hungerWith F σ a1 a2 a3) := by
  have kX0_hungerWith_22 : ∀ s y, zit (f_X0_hungerWith_22 F) F (zmx s τ) y = zM τ (zit (f_X0_hungerWith_22 F) F s y) := x_it τ (fun r r2 hr s y => x_X0_hungerWith_22 τ F r r2 s y hr) F
  simp only [f_X0_hungerWith, Nat.reduceLT, zmx_x, zml_x, zwi_x, zwl_x, zM_zb, zM_fun, zM_ite, zM_iten, zM_zg, zM_some, kX0_hungerWith_22]
theorem x_X0_cowsOfSome_5 (τ : zMem) (F : Nat) (rec5 rec5q : zMem → Int32 × Int32 × Int32 × Int32 → Option (Int32 × zMem)) (σ : zMem) (x : Int32 × Int32 × Int32 × Int32) (hrec5 : ∀ s y, rec5 (zmx s τ) y = zM τ (rec5q s y)) : f_X0_cowsOfSome_5 F rec5 (zmx σ τ) x = zM τ (f_X0_cowsOfSome_5 F rec5q σ x) := by
  simp only [f_X0_cowsOfSome_5, Nat.reduceLT, zmx_x, zml_x, zwi_x, zwl_x, zM_zb, zM_fun, zM_ite, zM_iten, zM_zg, zM_some, hrec5]
theorem x_X0_cowsOfSome (τ : zMem) (F : Nat) (σ : zMem) (a1 : Int32) (a2 : Int32)  : f_X0_cowsOfSome F (zmx σ τ) a1 a2 = zM τ (f_X0_cowsOfSome F σ a1 a2) := by
  have kX0_cowsOfSome_5 : ∀ s y, zit (f_X0_cowsOfSome_5 F) F (zmx s τ) y = zM τ (zit (f_X0_cowsOfSome_5 F) F s y) := x_it τ (fun r r2 hr s y => x_X0_cowsOfSome_5 τ F r r2 s y hr) F
  simp only [f_X0_cowsOfSome, Nat.reduceLT, zmx_x, zml_x, zwi_x, zwl_x, zM_zb, zM_fun, zM_ite, zM_iten, zM_zg, zM_some, kX0_cowsOfSome_5]
theorem x_X0_keepPlan_2 (τ : zMem) (F : Nat) (rec2 rec2q : zMem → Int32 × Int32 → Option (Unit × zMem)) (σ : zMem) (x : Int32 × Int32) (hrec2 : ∀ s y, rec2 (zmx s τ) y = zM τ (rec2q s y)) : f_X0_keepPlan_2 F rec2 (zmx σ τ) x = zM τ (f_X0_keepPlan_2 F rec2q σ x) := by
  simp only [f_X0_keepPlan_2, Nat.reduceLT, zmx_x, zml_x, zwi_x, zwl_x, zM_zb, zM_fun, zM_ite, zM_iten, zM_zg, zM_some, hrec2]
theorem x_X0_keepPlan (τ : zMem) (F : Nat) (σ : zMem) (a1 : Int32)  : f_X0_keepPlan F (zmx σ τ) a1 = zM τ (f_X0_keepPlan F σ a1) := by
  have kX0_keepPlan_2 : ∀ s y, zit (f_X0_keepPlan_2 F) F (zmx s τ) y = zM τ (zit (f_X0_keepPlan_2 F) F s y) := x_it τ (fun r r2 hr s y => x_X0_keepPlan_2 τ F r r2 s y hr) F
  simp only [f_X0_keepPlan, Nat.reduceLT, zmx_x, zml_x, zwi_x, zwl_x, zM_zb, zM_fun, zM_ite, zM_iten, zM_zg, zM_some, kX0_keepPlan_2]
theorem x_X0_beginPlans_31 (τ : zMem) (F : Nat) (rec31 rec31q : zMem → Int32 × Int32 × Int32 → Option (Int32 × zMem)) (σ : zMem) (x : Int32 × Int32 × Int32) (hrec31 : ∀ s y, rec31 (zmx s τ) y = zM τ (rec31q s y)) : f_X0_beginPlans_31 F rec31 (zmx σ τ) x = zM τ (f_X0_beginPlans_31 F rec31q σ x) := by
  simp only [f_X0_beginPlans_31, Nat.reduceLT, zmx_x, zml_x, zwi_x, zwl_x, zM_zb, zM_fun, zM_ite, zM_iten, zM_zg, zM_some, x_X0_keepPlan τ, hrec31]
theorem x_X0_beginPlans_4 (τ : zMem) (F : Nat) (rec4 rec4q : zMem → Int32 × Int32 × Int32 → Option (Int32 × zMem)) (σ : zMem) (x : Int32 × Int32 × Int32) (hrec4 : ∀ s y, rec4 (zmx s τ) y = zM τ (rec4q s y)) : f_X0_beginPlans_4 F rec4 (zmx σ τ) x = zM τ (f_X0_beginPlans_4 F rec4q σ x) := by
  have kX0_beginPlans_31 : ∀ s y, zit (f_X0_beginPlans_31 F) F (zmx s τ) y = zM τ (zit (f_X0_beginPlans_31 F) F s y) := x_it τ (fun r r2 hr s y => x_X0_beginPlans_31 τ F r r2 s y hr) F
  simp only [f_X0_beginPlans_4, Nat.reduceLT, zmx_x, zml_x, zwi_x, zwl_x, zM_zb, zM_fun, zM_ite, zM_iten, zM_zg, zM_some, kX0_beginPlans_31, hrec4]
theorem x_X0_beginPlans (τ : zMem) (F : Nat) (σ : zMem) (a1 : Int32)  : f_X0_beginPlans F (zmx σ τ) a1 = zM τ (f_X0_beginPlans F σ a1) := by
  have kX0_beginPlans_4 : ∀ s y, zit (f_X0_beginPlans_4 F) F (zmx s τ) y = zM τ (zit (f_X0_beginPlans_4 F) F s y) := x_it τ (fun r r2 hr s y => x_X0_beginPlans_4 τ F r r2 s y hr) F
  simp only [f_X0_beginPlans, Nat.reduceLT, zmx_x, zml_x, zwi_x, zwl_x, zM_zb, zM_fun, zM_ite, zM_iten, zM_zg, zM_some, kX0_beginPlans_4]
theorem x_X0_hungerNow_4 (τ : zMem) (F : Nat) (rec4 rec4q : zMem → Int32 × Int32 → Option (Int32 × zMem)) (σ : zMem) (x : Int32 × Int32) (hrec4 : ∀ s y, rec4 (zmx s τ) y = zM τ (rec4q s y)) : f_X0_hungerNow_4 F rec4 (zmx σ τ) x = zM τ (f_X0_hungerNow_4 F rec4q σ x) := by
  simp only [f_X0_hungerNow_4, Nat.reduceLT, zmx_x, zml_x, zwi_x, zwl_x, zM_zb, zM_fun, zM_ite, zM_iten, zM_zg, zM_some, hrec4]
theorem x_X0_hungerNow (τ : zMem) (F : Nat) (σ : zMem)  : f_X0_hungerNow F (zmx σ τ) = zM τ (f_X0_hungerNow F σ) := by
  have kX0_hungerNow_4 : ∀ s y, zit (f_X0_hungerNow_4 F) F (zmx s τ) y = zM τ (zit (f_X0_hungerNow_4 F) F s y) := x_it τ (fun r r2 hr s y => x_X0_hungerNow_4 τ F r r2 s y hr) F
  simp only [f_X0_hungerNow, Nat.reduceLT, zmx_x, zml_x, zwi_x, zwl_x, zM_zb, zM_fun, zM_ite, zM_iten, zM_zg, zM_some, kX0_hungerNow_4]
theorem x_X0_turnPlan_73 (τ : zMem) (F : Nat) (rec6 rec6q : zMem → Int32 × Int32 → Option (Unit × zMem)) (σ : zMem) (l2 : Int32) (l3 : Int32) (s0 : Int32) (s1 : Int32) (hrec6 : ∀ s y, rec6 (zmx s τ) y = zM τ (rec6q s y)) : f_X0_turnPlan_73 F rec6 (zmx σ τ) l2 l3 s0 s1 = zM τ (f_X0_turnPlan_73 F rec6q σ l2 l3 s0 s1) := by
  simp only [f_X0_turnPlan_73, Nat.reduceLT, zmx_x, zml_x, zwi_x, zwl_x, zM_zb, zM_fun, zM_ite, zM_iten, zM_zg, zM_some, hrec6]
theorem x_X0_turnPlan_51 (τ : zMem) (F : Nat) (rec6 rec6q : zMem → Int32 × Int32 → Option (Unit × zMem)) (σ : zMem) (l3 : Int32) (s0 : Int32) (hrec6 : ∀ s y, rec6 (zmx s τ) y = zM τ (rec6q s y)) : f_X0_turnPlan_51 F rec6 (zmx σ τ) l3 s0 = zM τ (f_X0_turnPlan_51 F rec6q σ l3 s0) := by
  have kX0_turnPlan_73 : ∀ s l2 l3 s0 s1, f_X0_turnPlan_73 F rec6 (zmx s τ) l2 l3 s0 s1 = zM τ (f_X0_turnPlan_73 F rec6q s l2 l3 s0 s1) := fun s l2 l3 s0 s1 => x_X0_turnPlan_73 τ F rec6 rec6q s l2 l3 s0 s1 hrec6
  simp only [f_X0_turnPlan_51, Nat.reduceLT, zmx_x, zml_x, zwi_x, zwl_x, zM_zb, zM_fun, zM_ite, zM_iten, zM_zg, zM_some, kX0_turnPlan_73, hrec6]
theorem x_X0_turnPlan_6 (τ : zMem) (F : Nat) (rec6 rec6q : zMem → Int32 × Int32 → Option (Unit × zMem)) (σ : zMem) (x : Int32 × Int32) (hrec6 : ∀ s y, rec6 (zmx s τ) y = zM τ (rec6q s y)) : f_X0_turnPlan_6 F rec6 (zmx σ τ) x = zM τ (f_X0_turnPlan_6 F rec6q σ x) := by
  have kX0_turnPlan_51 : ∀ s l3 s0, f_X0_turnPlan_51 F rec6 (zmx s τ) l3 s0 = zM τ (f_X0_turnPlan_51 F rec6q s l3 s0) := fun s l3 s0 => x_X0_turnPlan_51 τ F rec6 rec6q s l3 s0 hrec6
  simp only [f_X0_turnPlan_6, Nat.reduceLT, zmx_x, zml_x, zwi_x, zwl_x, zM_zb, zM_fun, zM_ite, zM_iten, zM_zg, zM_some, kX0_turnPlan_51, hrec6]
theorem x_X0_turnPlan (τ : zMem) (F : Nat) (σ : zMem) (a1 : Int32)  : f_X0_turnPlan F (zmx σ τ) a1 = zM τ (f_X0_turnPlan F σ a1) := by
  have kX0_turnPlan_6 : ∀ s y, zit (f_X0_turnPlan_6 F) F (zmx s τ) y = zM τ (zit (f_X0_turnPlan_6 F) F s y) := x_it τ (fun r r2 hr s y => x_X0_turnPlan_6 τ F r r2 s y hr) F
  simp only [f_X0_turnPlan, Nat.reduceLT, zmx_x, zml_x, zwi_x, zwl_x, zM_zb, zM_fun, zM_ite, zM_iten, zM_zg, zM_some, kX0_turnPlan_6]
theorem x_X0_bestPlan_14 (τ : zMem) (F : Nat) (rec14 rec14q : zMem → Int32 × Int32 × Int32 × Int32 → Option (Int32 × zMem)) (σ : zMem) (x : Int32 × Int32 × Int32 × Int32) (hrec14 : ∀ s y, rec14 (zmx s τ) y = zM τ (rec14q s y)) : f_X0_bestPlan_14 F rec14 (zmx σ τ) x = zM τ (f_X0_bestPlan_14 F rec14q σ x) := by
  simp only [f_X0_bestPlan_14, Nat.reduceLT, zmx_x, zml_x, zwi_x, zwl_x, zM_zb, zM_fun, zM_ite, zM_iten, zM_zg, zM_some, x_X0_turnPlan τ, x_X0_hungerNow τ, x_X0_keepPlan τ, hrec14]
theorem x_X0_bestPlan (τ : zMem) (F : Nat) (σ : zMem) (a1 : Int32)  : f_X0_bestPlan F (zmx σ τ) a1 = zM τ (f_X0_bestPlan F σ a1) := by
  have kX0_bestPlan_14 : ∀ s y, zit (f_X0_bestPlan_14 F) F (zmx s τ) y = zM τ (zit (f_X0_bestPlan_14 F) F s y) := x_it τ (fun r r2 hr s y => x_X0_bestPlan_14 τ F r r2 s y hr) F
  simp only [f_X0_bestPlan, Nat.reduceLT, zmx_x, zml_x, zwi_x, zwl_x, zM_zb, zM_fun, zM_ite, zM_iten, zM_zg, zM_some, x_X0_beginPlans τ, x_X0_hungerNow τ, kX0_bestPlan_14]
theorem x_X2_allUp_4 (τ : zMem) (F : Nat) (rec4 rec4q : zMem → Nat × Int32 × Int32 → Option (Int32 × zMem)) (σ : zMem) (x : Nat × Int32 × Int32) (hrec4 : ∀ s y, rec4 (zmx s τ) y = zM τ (rec4q s y)) : f_X2_allUp_4 F rec4 (zmx σ τ) x = zM τ (f_X2_allUp_4 F rec4q σ x) := by
  simp only [f_X2_allUp_4, Nat.reduceLT, zmx_x, zml_x, zwi_x, zwl_x, zM_zb, zM_fun, zM_ite, zM_iten, zM_zg, zM_some, hrec4]
theorem x_X2_allUp (τ : zMem) (F : Nat) (σ : zMem) (t0 : Nat)  : f_X2_allUp F (zmx σ τ) t0 = zM τ (f_X2_allUp F σ t0) := by
  have kX2_allUp_4 : ∀ s y, zit (f_X2_allUp_4 F) F (zmx s τ) y = zM τ (zit (f_X2_allUp_4 F) F s y) := x_it τ (fun r r2 hr s y => x_X2_allUp_4 τ F r r2 s y hr) F
  simp only [f_X2_allUp, Nat.reduceLT, zmx_x, zml_x, zwi_x, zwl_x, zM_zb, zM_fun, zM_ite, zM_iten, zM_zg, zM_some, kX2_allUp_4]
theorem x_X2_atHome (τ : zMem) (F : Nat) (σ : zMem) (t0 : Nat)  : f_X2_atHome F (zmx σ τ) t0 = zM τ (f_X2_atHome F σ t0) := by
  simp only [f_X2_atHome, Nat.reduceLT, zmx_x, zml_x, zwi_x, zwl_x, zM_zb, zM_fun, zM_ite, zM_iten, zM_zg, zM_some, x_X2_allUp τ]
theorem x_X2_winterAtHome (τ : zMem) (F : Nat) (σ : zMem) (t0 : Nat)  : f_X2_winterAtHome F (zmx σ τ) t0 = zM τ (f_X2_winterAtHome F σ t0) := by
  simp only [f_X2_winterAtHome, Nat.reduceLT, zmx_x, zml_x, zwi_x, zwl_x, zM_zb, zM_fun, zM_ite, zM_iten, zM_zg, zM_some, x_X2_atHome τ]
theorem x_X2_oweMore (τ : zMem) (F : Nat) (σ : zMem) (t0 : Nat) (a1 : Int64)  : f_X2_oweMore F (zmx σ τ) t0 a1 = zM τ (f_X2_oweMore F σ t0 a1) := by
  simp only [f_X2_oweMore, Nat.reduceLT, zmx_x, zml_x, zwi_x, zwl_x, zM_zb, zM_fun, zM_ite, zM_iten, zM_zg, zM_some]
theorem x_X2_takeWheels (τ : zMem) (F : Nat) (σ : zMem) (t0 : Nat) (a1 : Int32)  : f_X2_takeWheels F (zmx σ τ) t0 a1 = zM τ (f_X2_takeWheels F σ t0 a1) := by
  simp only [f_X2_takeWheels, Nat.reduceLT, zmx_x, zml_x, zwi_x, zwl_x, zM_zb, zM_fun, zM_ite, zM_iten, zM_zg, zM_some]
theorem x_X2_partWheels (τ : zMem) (F : Nat) (σ : zMem) (t0 : Nat) (a1 : Int32) (a2 : Int32)  : f_X2_partWheels F (zmx σ τ) t0 a1 a2 = zM τ (f_X2_partWheels F σ t0 a1 a2) := by
  simp only [f_X2_partWheels, Nat.reduceLT, zmx_x, zml_x, zwi_x, zwl_x, zM_zb, zM_fun, zM_ite, zM_iten, zM_zg, zM_some, x_X2_takeWheels τ]
theorem x_X4_holds (τ : zMem) (F : Nat) (σ : zMem) (t0 : Nat) (a1 : Int32) (a2 : Int32)  : f_X4_holds F (zmx σ τ) t0 a1 a2 = zM τ (f_X4_holds F σ t0 a1 a2) := by
  simp only [f_X4_holds, Nat.reduceLT, zmx_x, zml_x, zwi_x, zwl_x, zM_zb, zM_fun, zM_ite, zM_iten, zM_zg, zM_some]
theorem x_X5_has (τ : zMem) (F : Nat) (σ : zMem) (a0 : Int32) (a1 : Int32)  : f_X5_has F (zmx σ τ) a0 a1 = zM τ (f_X5_has F σ a0 a1) := by
  simp only [f_X5_has, Nat.reduceLT, zmx_x, zml_x, zwi_x, zwl_x, zM_zb, zM_fun, zM_ite, zM_iten, zM_zg, zM_some]
theorem x_X5_fits (τ : zMem) (F : Nat) (σ : zMem) (a0 : Int32) (a1 : Int64)  : f_X5_fits F (zmx σ τ) a0 a1 = zM τ (f_X5_fits F σ a0 a1) := by
  simp only [f_X5_fits, Nat.reduceLT, zmx_x, zml_x, zwi_x, zwl_x, zM_zb, zM_fun, zM_ite, zM_iten, zM_zg, zM_some]
theorem x_X5_tell_26 (τ : zMem) (F : Nat) (σ : zMem) (l1 : Int32) (l2 : Int32) (l3 : Int32)  : f_X5_tell_26 F (zmx σ τ) l1 l2 l3 = zM τ (f_X5_tell_26 F σ l1 l2 l3) := by
  simp only [f_X5_tell_26, Nat.reduceLT, zmx_x, zml_x, zwi_x, zwl_x, zM_zb, zM_fun, zM_ite, zM_iten, zM_zg, zM_some]
theorem x_X5_tell (τ : zMem) (F : Nat) (σ : zMem) (a1 : Int32) (a2 : Int32) (a3 : Int32)  : f_X5_tell F (zmx σ τ) a1 a2 a3 = zM τ (f_X5_tell F σ a1 a2 a3) := by
  simp only [f_X5_tell, Nat.reduceLT, zmx_x, zml_x, zwi_x, zwl_x, zM_zb, zM_fun, zM_ite, zM_iten, zM_zg, zM_some, x_X5_tell_26 τ]
theorem x_X5_on_2 (τ : zMem) (F : Nat) (rec2 rec2q : zMem → Int32 × Int32 → Option (Int32 × zMem)) (σ : zMem) (x : Int32 × Int32) (hrec2 : ∀ s y, rec2 (zmx s τ) y = zM τ (rec2q s y)) : f_X5_on_2 F rec2 (zmx σ τ) x = zM τ (f_X5_on_2 F rec2q σ x) := by
  simp only [f_X5_on_2, Nat.reduceLT, zmx_x, zml_x, zwi_x, zwl_x, zM_zb, zM_fun, zM_ite, zM_iten, zM_zg, zM_some, hrec2]
theorem x_X5_on (τ : zMem) (F : Nat) (σ : zMem) (a1 : Int32) (a2 : Int32)  : f_X5_on F (zmx σ τ) a1 a2 = zM τ (f_X5_on F σ a1 a2) := by
  have kX5_on_2 : ∀ s y, zit (f_X5_on_2 F) F (zmx s τ) y = zM τ (zit (f_X5_on_2 F) F s y) := x_it τ (fun r r2 hr s y => x_X5_on_2 τ F r r2 s y hr) F
  simp only [f_X5_on, Nat.reduceLT, zmx_x, zml_x, zwi_x, zwl_x, zM_zb, zM_fun, zM_ite, zM_iten, zM_zg, zM_some, kX5_on_2]
theorem x_X6_bears (τ : zMem) (F : Nat) (σ : zMem) (t0 : Nat) (a1 : Int32)  : f_X6_bears F (zmx σ τ) t0 a1 = zM τ (f_X6_bears F σ t0 a1) := by
  simp only [f_X6_bears, Nat.reduceLT, zmx_x, zml_x, zwi_x, zwl_x, zM_zb, zM_fun, zM_ite, zM_iten, zM_zg, zM_some]
theorem x_X6_lyingFrom_4 (τ : zMem) (F : Nat) (rec4 rec4q : zMem → Nat × Int32 × Int32 → Option (Int32 × zMem)) (σ : zMem) (x : Nat × Int32 × Int32) (hrec4 : ∀ s y, rec4 (zmx s τ) y = zM τ (rec4q s y)) : f_X6_lyingFrom_4 F rec4 (zmx σ τ) x = zM τ (f_X6_lyingFrom_4 F rec4q σ x) := by
  simp only [f_X6_lyingFrom_4, Nat.reduceLT, zmx_x, zml_x, zwi_x, zwl_x, zM_zb, zM_fun, zM_ite, zM_iten, zM_zg, zM_some, hrec4]
theorem x_X6_lyingFrom (τ : zMem) (F : Nat) (σ : zMem) (t0 : Nat) (a1 : Int32)  : f_X6_lyingFrom F (zmx σ τ) t0 a1 = zM τ (f_X6_lyingFrom F σ t0 a1) := by
  have kX6_lyingFrom_4 : ∀ s y, zit (f_X6_lyingFrom_4 F) F (zmx s τ) y = zM τ (zit (f_X6_lyingFrom_4 F) F s y) := x_it τ (fun r r2 hr s y => x_X6_lyingFrom_4 τ F r r2 s y hr) F
  simp only [f_X6_lyingFrom, Nat.reduceLT, zmx_x, zml_x, zwi_x, zwl_x, zM_zb, zM_fun, zM_ite, zM_iten, zM_zg, zM_some, kX6_lyingFrom_4]
theorem x_X6_lowestSoft_2 (τ : zMem) (F : Nat) (rec2 rec2q : zMem → Nat × Int32 → Option (Int32 × zMem)) (σ : zMem) (x : Nat × Int32) (hrec2 : ∀ s y, rec2 (zmx s τ) y = zM τ (rec2q s y)) : f_X6_lowestSoft_2 F rec2 (zmx σ τ) x = zM τ (f_X6_lowestSoft_2 F rec2q σ x) := by
  simp only [f_X6_lowestSoft_2, Nat.reduceLT, zmx_x, zml_x, zwi_x, zwl_x, zM_zb, zM_fun, zM_ite, zM_iten, zM_zg, zM_some, hrec2]
theorem x_X6_lowestSoft (τ : zMem) (F : Nat) (σ : zMem) (t0 : Nat)  : f_X6_lowestSoft F (zmx σ τ) t0 = zM τ (f_X6_lowestSoft F σ t0) := by
  have kX6_lowestSoft_2 : ∀ s y, zit (f_X6_lowestSoft_2 F) F (zmx s τ) y = zM τ (zit (f_X6_lowestSoft_2 F) F s y) := x_it τ (fun r r2 hr s y => x_X6_lowestSoft_2 τ F r r2 s y hr) F
  simp only [f_X6_lowestSoft, Nat.reduceLT, zmx_x, zml_x, zwi_x, zwl_x, zM_zb, zM_fun, zM_ite, zM_iten, zM_zg, zM_some, kX6_lowestSoft_2]
theorem x_X6_risk (τ : zMem) (F : Nat) (σ : zMem) (t0 : Nat) (a1 : Int32)  : f_X6_risk F (zmx σ τ) t0 a1 = zM τ (f_X6_risk F σ t0 a1) := by
  simp only [f_X6_risk, Nat.reduceLT, zmx_x, zml_x, zwi_x, zwl_x, zM_zb, zM_fun, zM_ite, zM_iten, zM_zg, zM_some, x_X6_lyingFrom τ, x_X6_bears τ, x_X6_lowestSoft τ]
theorem x_X6_melt (τ : zMem) (F : Nat) (σ : zMem) (t0 : Nat) (a1 : Int32)  : f_X6_melt F (zmx σ τ) t0 a1 = zM τ (f_X6_melt F σ t0 a1) := by
  simp only [f_X6_melt, Nat.reduceLT, zmx_x, zml_x, zwi_x, zwl_x, zM_zb, zM_fun, zM_ite, zM_iten, zM_zg, zM_some]
theorem x_X6_joinLowest_56 (τ : zMem) (F : Nat) (rec56 rec56q : zMem → Nat × Int32 → Option (Unit × zMem)) (σ : zMem) (x : Nat × Int32) (hrec56 : ∀ s y, rec56 (zmx s τ) y = zM τ (rec56q s y)) : f_X6_joinLowest_56 F rec56 (zmx σ τ) x = zM τ (f_X6_joinLowest_56 F rec56q σ x) := by
  simp only [f_X6_joinLowest_56, Nat.reduceLT, zmx_x, zml_x, zwi_x, zwl_x, zM_zb, zM_fun, zM_ite, zM_iten, zM_zg, zM_some, hrec56]
theorem x_X6_joinLowest_43 (τ : zMem) (F : Nat) (σ : zMem) (l0 : Nat) (s0 : Int32) (s1 : Int32) (s2 : Nat)  : f_X6_joinLowest_43 F (zmx σ τ) l0 s0 s1 s2 = zM τ (f_X6_joinLowest_43 F σ l0 s0 s1 s2) := by
  have kX6_joinLowest_56 : ∀ s y, zit (f_X6_joinLowest_56 F) F (zmx s τ) y = zM τ (zit (f_X6_joinLowest_56 F) F s y) := x_it τ (fun r r2 hr s y => x_X6_joinLowest_56 τ F r r2 s y hr) F
  simp only [f_X6_joinLowest_43, Nat.reduceLT, zmx_x, zml_x, zwi_x, zwl_x, zM_zb, zM_fun, zM_ite, zM_iten, zM_zg, zM_some, kX6_joinLowest_56]
theorem x_X6_joinLowest (τ : zMem) (F : Nat) (σ : zMem) (t0 : Nat)  : f_X6_joinLowest F (zmx σ τ) t0 = zM τ (f_X6_joinLowest F σ t0) := by
  simp only [f_X6_joinLowest, Nat.reduceLT, zmx_x, zml_x, zwi_x, zwl_x, zM_zb, zM_fun, zM_ite, zM_iten, zM_zg, zM_some, x_X6_joinLowest_43 τ]
theorem x_X6_addLayer (τ : zMem) (F : Nat) (σ : zMem) (t0 : Nat) (a1 : Int32) (a2 : Int32)  : f_X6_addLayer F (zmx σ τ) t0 a1 a2 = zM τ (f_X6_addLayer F σ t0 a1 a2) := by
  simp only [f_X6_addLayer, Nat.reduceLT, zmx_x, zml_x, zwi_x, zwl_x, zM_zb, zM_fun, zM_ite, zM_iten, zM_zg, zM_some, x_X6_joinLowest τ]
theorem x_X6_live_79 (τ : zMem) (F : Nat) (σ : zMem) (l0 : Nat)  : f_X6_live_79 F (zmx σ τ) l0 = zM τ (f_X6_live_79 F σ l0) := by
  simp only [f_X6_live_79, Nat.reduceLT, zmx_x, zml_x, zwi_x, zwl_x, zM_zb, zM_fun, zM_ite, zM_iten, zM_zg, zM_some]
theorem x_X6_live_35 (τ : zMem) (F : Nat) (σ : zMem) (l0 : Nat)  : f_X6_live_35 F (zmx σ τ) l0 = zM τ (f_X6_live_35 F σ l0) := by
  simp only [f_X6_live_35, Nat.reduceLT, zmx_x, zml_x, zwi_x, zwl_x, zM_zb, zM_fun, zM_ite, zM_iten, zM_zg, zM_some, x_X6_lyingFrom τ, x_X6_bears τ, x_X6_lowestSoft τ, x_X6_live_79 τ]
theorem x_X6_live_32 (τ : zMem) (F : Nat) (σ : zMem) (l0 : Nat) (s0 : Int32) (s1 : Int32) (s2 : Nat)  : f_X6_live_32 F (zmx σ τ) l0 s0 s1 s2 = zM τ (f_X6_live_32 F σ l0 s0 s1 s2) := by
  simp only [f_X6_live_32, Nat.reduceLT, zmx_x, zml_x, zwi_x, zwl_x, zM_zb, zM_fun, zM_ite, zM_iten, zM_zg, zM_some, x_X6_live_35 τ, x_X6_addLayer τ]
theorem x_X6_live (τ : zMem) (F : Nat) (σ : zMem) (t0 : Nat) (a1 : Int32) (a2 : Int32)  : f_X6_live F (zmx σ τ) t0 a1 a2 = zM τ (f_X6_live F σ t0 a1 a2) := by
  simp only [f_X6_live, Nat.reduceLT, zmx_x, zml_x, zwi_x, zwl_x, zM_zb, zM_fun, zM_ite, zM_iten, zM_zg, zM_some, x_X6_live_32 τ, x_X6_live_35 τ, x_X6_melt τ]
theorem x_X7_has (τ : zMem) (F : Nat) (σ : zMem) (a1 : Int32)  : f_X7_has F (zmx σ τ) a1 = zM τ (f_X7_has F σ a1) := by
  simp only [f_X7_has, Nat.reduceLT, zmx_x, zml_x, zwi_x, zwl_x, zM_zb, zM_fun, zM_ite, zM_iten, zM_zg, zM_some]
theorem x_X7_live_5 (τ : zMem) (F : Nat) (rec5 rec5q : zMem → Int32 × Int32 × Int32 × Int32 → Option (Unit × zMem)) (σ : zMem) (x : Int32 × Int32 × Int32 × Int32) (hrec5 : ∀ s y, rec5 (zmx s τ) y = zM τ (rec5q s y)) : f_X7_live_5 F rec5 (zmx σ τ) x = zM τ (f_X7_live_5 F rec5q σ x) := by
  simp only [f_X7_live_5, Nat.reduceLT, zmx_x, zml_x, zwi_x, zwl_x, zM_zb, zM_fun, zM_ite, zM_iten, zM_zg, zM_some, x_X6_live τ, hrec5]
theorem x_X7_live (τ : zMem) (F : Nat) (σ : zMem) (a1 : Int32) (a2 : Int32)  : f_X7_live F (zmx σ τ) a1 a2 = zM τ (f_X7_live F σ a1 a2) := by
  have kX7_live_5 : ∀ s y, zit (f_X7_live_5 F) F (zmx s τ) y = zM τ (zit (f_X7_live_5 F) F s y) := x_it τ (fun r r2 hr s y => x_X7_live_5 τ F r r2 s y hr) F
  simp only [f_X7_live, Nat.reduceLT, zmx_x, zml_x, zwi_x, zwl_x, zM_zb, zM_fun, zM_ite, zM_iten, zM_zg, zM_some, kX7_live_5]
theorem x_X7_ageWoods_2 (τ : zMem) (F : Nat) (rec2 rec2q : zMem → Int32 → Option (Unit × zMem)) (σ : zMem) (x : Int32) (hrec2 : ∀ s y, rec2 (zmx s τ) y = zM τ (rec2q s y)) : f_X7_ageWoods_2 F rec2 (zmx σ τ) x = zM τ (f_X7_ageWoods_2 F rec2q σ x) := by
  simp only [f_X7_ageWoods_2, Nat.reduceLT, zmx_x, zml_x, zwi_x, zwl_x, zM_zb, zM_fun, zM_ite, zM_iten, zM_zg, zM_some, hrec2]
theorem x_X7_ageWoods (τ : zMem) (F : Nat) (σ : zMem)  : f_X7_ageWoods F (zmx σ τ) = zM τ (f_X7_ageWoods F σ) := by
  have kX7_ageWoods_2 : ∀ s y, zit (f_X7_ageWoods_2 F) F (zmx s τ) y = zM τ (zit (f_X7_ageWoods_2 F) F s y) := x_it τ (fun r r2 hr s y => x_X7_ageWoods_2 τ F r r2 s y hr) F
  simp only [f_X7_ageWoods, Nat.reduceLT, zmx_x, zml_x, zwi_x, zwl_x, zM_zb, zM_fun, zM_ite, zM_iten, zM_zg, zM_some, kX7_ageWoods_2]
theorem x_X8_stands (τ : zMem) (F : Nat) (σ : zMem) (t0 : Nat) (a1 : Int32) (a2 : Int32) (a3 : Int32)  : f_X8_stands F (zmx σ τ) t0 a1 a2 a3 = zM τ (f_X8_stands F σ t0 a1 a2 a3) := by
  simp only [f_X8_stands, Nat.reduceLT, zmx_x, zml_x, zwi_x, zwl_x, zM_zb, zM_fun, zM_ite, zM_iten, zM_zg, zM_some]
theorem x_X8_fieldOf (τ : zMem) (F : Nat) (σ : zMem) (a0 : Nat) (a1 : Int32) (a2 : Int32)  : f_X8_fieldOf F (zmx σ τ) a0 a1 a2 = zM τ (f_X8_fieldOf F σ a0 a1 a2) := by
  simp only [f_X8_fieldOf, Nat.reduceLT, zmx_x, zml_x, zwi_x, zwl_x, zM_zb, zM_fun, zM_ite, zM_iten, zM_zg, zM_some]
theorem x_X8_isTrue (τ : zMem) (F : Nat) (σ : zMem) (a0 : Int32) (a1 : Int32) (a2 : Int32)  : f_X8_isTrue F (zmx σ τ) a0 a1 a2 = zM τ (f_X8_isTrue F σ a0 a1 a2) := by
  simp only [f_X8_isTrue, Nat.reduceLT, zmx_x, zml_x, zwi_x, zwl_x, zM_zb, zM_fun, zM_ite, zM_iten, zM_zg, zM_some]
theorem x_X8_holdsFor_60 (τ : zMem) (F : Nat) (rec17 rec17q : zMem → Nat × Nat × Int32 × Int32 × Int32 × Int32 → Option (Int32 × zMem)) (σ : zMem) (l0 : Nat) (l1 : Nat) (l2 : Int32) (l3 : Int32) (l4 : Int32) (l5 : Int32) (hrec17 : ∀ s y, rec17 (zmx s τ) y = zM τ (rec17q s y)) : f_X8_holdsFor_60 F rec17 (zmx σ τ) l0 l1 l2 l3 l4 l5 = zM τ (f_X8_holdsFor_60 F rec17q σ l0 l1 l2 l3 l4 l5) := by
  simp only [f_X8_holdsFor_60, Nat.reduceLT, zmx_x, zml_x, zwi_x, zwl_x, zM_zb, zM_fun, zM_ite, zM_iten, zM_zg, zM_some, x_X8_isTrue τ, x_X8_fieldOf τ, hrec17]
theorem x_X8_holdsFor_131 (τ : zMem) (F : Nat) (σ : zMem) (l0 : Nat) (s0 : Int32)  : f_X8_holdsFor_131 F (zmx σ τ) l0 s0 = zM τ (f_X8_holdsFor_131 F σ l0 s0) := by
  simp only [f_X8_holdsFor_131, Nat.reduceLT, zmx_x, zml_x, zwi_x, zwl_x, zM_zb, zM_fun, zM_ite, zM_iten, zM_zg, zM_some]
theorem x_X8_holdsFor_117 (τ : zMem) (F : Nat) (σ : zMem) (l0 : Nat) (l3 : Int32) (l4 : Int32)  : f_X8_holdsFor_117 F (zmx σ τ) l0 l3 l4 = zM τ (f_X8_holdsFor_117 F σ l0 l3 l4) := by
  simp only [f_X8_holdsFor_117, Nat.reduceLT, zmx_x, zml_x, zwi_x, zwl_x, zM_zb, zM_fun, zM_ite, zM_iten, zM_zg, zM_some, x_X8_holdsFor_131 τ]
theorem x_X8_holdsFor_17 (τ : zMem) (F : Nat) (rec17 rec17q : zMem → Nat × Nat × Int32 × Int32 × Int32 × Int32 → Option (Int32 × zMem)) (σ : zMem) (x : Nat × Nat × Int32 × Int32 × Int32 × Int32) (hrec17 : ∀ s y, rec17 (zmx s τ) y = zM τ (rec17q s y)) : f_X8_holdsFor_17 F rec17 (zmx σ τ) x = zM τ (f_X8_holdsFor_17 F rec17q σ x) := by
  have kX8_holdsFor_60 : ∀ s l0 l1 l2 l3 l4 l5, f_X8_holdsFor_60 F rec17 (zmx s τ) l0 l1 l2 l3 l4 l5 = zM τ (f_X8_holdsFor_60 F rec17q s l0 l1 l2 l3 l4 l5) := fun s l0 l1 l2 l3 l4 l5 => x_X8_holdsFor_60 τ F rec17 rec17q s l0 l1 l2 l3 l4 l5 hrec17
  simp only [f_X8_holdsFor_17, Nat.reduceLT, zmx_x, zml_x, zwi_x, zwl_x, zM_zb, zM_fun, zM_ite, zM_iten, zM_zg, zM_some, kX8_holdsFor_60, x_X8_holdsFor_117 τ, hrec17]
theorem x_X8_holdsFor (τ : zMem) (F : Nat) (σ : zMem) (t0 : Nat) (a1 : Nat) (a2 : Int32)  : f_X8_holdsFor F (zmx σ τ) t0 a1 a2 = zM τ (f_X8_holdsFor F σ t0 a1 a2) := by
  have kX8_holdsFor_17 : ∀ s y, zit (f_X8_holdsFor_17 F) F (zmx s τ) y = zM τ (zit (f_X8_holdsFor_17 F) F s y) := x_it τ (fun r r2 hr s y => x_X8_holdsFor_17 τ F r r2 s y hr) F
  simp only [f_X8_holdsFor, Nat.reduceLT, zmx_x, zml_x, zwi_x, zwl_x, zM_zb, zM_fun, zM_ite, zM_iten, zM_zg, zM_some, kX8_holdsFor_17]
theorem x_X9_worth (τ : zMem) (F : Nat) (σ : zMem) (a1 : Int32) (a2 : Int32)  : f_X9_worth F (zmx σ τ) a1 a2 = zM τ (f_X9_worth F σ a1 a2) := by
  simp only [f_X9_worth, Nat.reduceLT, zmx_x, zml_x, zwi_x, zwl_x, zM_zb, zM_fun, zM_ite, zM_iten, zM_zg, zM_some]
theorem x_X9_latest_8 (τ : zMem) (F : Nat) (rec8 rec8q : zMem → Nat × Int32 × Int32 × Int32 × Int32 → Option (Int32 × zMem)) (σ : zMem) (x : Nat × Int32 × Int32 × Int32 × Int32) (hrec8 : ∀ s y, rec8 (zmx s τ) y = zM τ (rec8q s y)) : f_X9_latest_8 F rec8 (zmx σ τ) x = zM τ (f_X9_latest_8 F rec8q σ x) := by
  simp only [f_X9_latest_8, Nat.reduceLT, zmx_x, zml_x, zwi_x, zwl_x, zM_zb, zM_fun, zM_ite, zM_iten, zM_zg, zM_some, x_X8_holdsFor τ, x_X8_stands τ, hrec8]
theorem x_X9_latest (τ : zMem) (F : Nat) (σ : zMem) (a1 : Nat) (a2 : Int32) (a3 : Int32) (a4 : Int32)  : f_X9_latest F (zmx σ τ) a1 a2 a3 a4 = zM τ (f_X9_latest F σ a1 a2 a3 a4) := by
  have kX9_latest_8 : ∀ s y, zit (f_X9_latest_8 F) F (zmx s τ) y = zM τ (zit (f_X9_latest_8 F) F s y) := x_it τ (fun r r2 hr s y => x_X9_latest_8 τ F r r2 s y hr) F
  simp only [f_X9_latest, Nat.reduceLT, zmx_x, zml_x, zwi_x, zwl_x, zM_zb, zM_fun, zM_ite, zM_iten, zM_zg, zM_some, kX9_latest_8]
theorem x_X10_isHouse (τ : zMem) (F : Nat) (σ : zMem) (a1 : Int32)  : f_X10_isHouse F (zmx σ τ) a1 = zM τ (f_X10_isHouse F σ a1) := by
  simp only [f_X10_isHouse, Nat.reduceLT, zmx_x, zml_x, zwi_x, zwl_x, zM_zb, zM_fun, zM_ite, zM_iten, zM_zg, zM_some]
theorem x_X10_isSheet (τ : zMem) (F : Nat) (σ : zMem) (a0 : Int32)  : f_X10_isSheet F (zmx σ τ) a0 = zM τ (f_X10_isSheet F σ a0) := by
  simp only [f_X10_isSheet, Nat.reduceLT, zmx_x, zml_x, zwi_x, zwl_x, zM_zb, zM_fun, zM_ite, zM_iten, zM_zg, zM_some]
theorem x_X10_sky_104 (τ : zMem) (F : Nat) (rec104 rec104q : zMem → Int32 × Int32 × Int32 × Int32 × Nat × Int32 × Int32 → Option (Int32 × zMem)) (σ : zMem) (x : Int32 × Int32 × Int32 × Int32 × Nat × Int32 × Int32) (hrec104 : ∀ s y, rec104 (zmx s τ) y = zM τ (rec104q s y)) : f_X10_sky_104 F rec104 (zmx σ τ) x = zM τ (f_X10_sky_104 F rec104q σ x) := by
  simp only [f_X10_sky_104, Nat.reduceLT, zmx_x, zml_x, zwi_x, zwl_x, zM_zb, zM_fun, zM_ite, zM_iten, zM_zg, zM_some, x_X5_fits τ, x_X5_tell τ, hrec104]
theorem x_X10_sky_71 (τ : zMem) (F : Nat) (σ : zMem) (l1 : Int32) (l2 : Int32) (l4 : Int32) (l5 : Int32) (l6 : Nat)  : f_X10_sky_71 F (zmx σ τ) l1 l2 l4 l5 l6 = zM τ (f_X10_sky_71 F σ l1 l2 l4 l5 l6) := by
  have kX10_sky_104 : ∀ s y, zit (f_X10_sky_104 F) F (zmx s τ) y = zM τ (zit (f_X10_sky_104 F) F s y) := x_it τ (fun r r2 hr s y => x_X10_sky_104 τ F r r2 s y hr) F
  simp only [f_X10_sky_71, Nat.reduceLT, zmx_x, zml_x, zwi_x, zwl_x, zM_zb, zM_fun, zM_ite, zM_iten, zM_zg, zM_some, x_X4_holds τ, kX10_sky_104]
theorem x_X10_sky (τ : zMem) (F : Nat) (σ : zMem) (a1 : Int32) (a2 : Int32) (a3 : Int32) (a4 : Int32) (a5 : Int32)  : f_X10_sky F (zmx σ τ) a1 a2 a3 a4 a5 = zM τ (f_X10_sky F σ a1 a2 a3 a4 a5) := by
  simp only [f_X10_sky, Nat.reduceLT, zmx_x, zml_x, zwi_x, zwl_x, zM_zb, zM_fun, zM_ite, zM_iten, zM_zg, zM_some, x_X10_sky_71 τ, x_X5_has τ, x_X10_isSheet τ]
theorem x_X10_cowsUpOn_5 (τ : zMem) (F : Nat) (rec5 rec5q : zMem → Int32 × Int32 × Int32 × Int32 → Option (Int32 × zMem)) (σ : zMem) (x : Int32 × Int32 × Int32 × Int32) (hrec5 : ∀ s y, rec5 (zmx s τ) y = zM τ (rec5q s y)) : f_X10_cowsUpOn_5 F rec5 (zmx σ τ) x = zM τ (f_X10_cowsUpOn_5 F rec5q σ x) := by
  simp only [f_X10_cowsUpOn_5, Nat.reduceLT, zmx_x, zml_x, zwi_x, zwl_x, zM_zb, zM_fun, zM_ite, zM_iten, zM_zg, zM_some, hrec5]
theorem x_X10_cowsUpOn (τ : zMem) (F : Nat) (σ : zMem) (a1 : Int32) (a2 : Int32)  : f_X10_cowsUpOn F (zmx σ τ) a1 a2 = zM τ (f_X10_cowsUpOn F σ a1 a2) := by
  have kX10_cowsUpOn_5 : ∀ s y, zit (f_X10_cowsUpOn_5 F) F (zmx s τ) y = zM τ (zit (f_X10_cowsUpOn_5 F) F s y) := x_it τ (fun r r2 hr s y => x_X10_cowsUpOn_5 τ F r r2 s y hr) F
  simp only [f_X10_cowsUpOn, Nat.reduceLT, zmx_x, zml_x, zwi_x, zwl_x, zM_zb, zM_fun, zM_ite, zM_iten, zM_zg, zM_some, kX10_cowsUpOn_5]
theorem x_X10_worthNow (τ : zMem) (F : Nat) (σ : zMem) (a1 : Nat) (a2 : Int32)  : f_X10_worthNow F (zmx σ τ) a1 a2 = zM τ (f_X10_worthNow F σ a1 a2) := by
  simp only [f_X10_worthNow, Nat.reduceLT, zmx_x, zml_x, zwi_x, zwl_x, zM_zb, zM_fun, zM_ite, zM_iten, zM_zg, zM_some, x_X9_latest τ, x_X9_worth τ]
theorem x_X10_inSeason (τ : zMem) (F : Nat) (σ : zMem) (a1 : Nat)  : f_X10_inSeason F (zmx σ τ) a1 = zM τ (f_X10_inSeason F σ a1) := by
  simp only [f_X10_inSeason, Nat.reduceLT, zmx_x, zml_x, zwi_x, zwl_x, zM_zb, zM_fun, zM_ite, zM_iten, zM_zg, zM_some, x_X10_worthNow τ]
theorem x_X10_graze_2 (τ : zMem) (F : Nat) (rec2 rec2q : zMem → Int32 × Int32 → Option (Unit × zMem)) (σ : zMem) (x : Int32 × Int32) (hrec2 : ∀ s y, rec2 (zmx s τ) y = zM τ (rec2q s y)) : f_X10_graze_2 F rec2 (zmx σ τ) x = zM τ (f_X10_graze_2 F rec2q σ x) := by
  simp only [f_X10_graze_2, Nat.reduceLT, zmx_x, zml_x, zwi_x, zwl_x, zM_zb, zM_fun, zM_ite, zM_iten, zM_zg, zM_some, x_X0_feedCows τ, hrec2]
theorem x_X10_graze (τ : zMem) (F : Nat) (σ : zMem) (a1 : Int32)  : f_X10_graze F (zmx σ τ) a1 = zM τ (f_X10_graze F σ a1) := by
  have kX10_graze_2 : ∀ s y, zit (f_X10_graze_2 F) F (zmx s τ) y = zM τ (zit (f_X10_graze_2 F) F s y) := x_it τ (fun r r2 hr s y => x_X10_graze_2 τ F r r2 s y hr) F
  simp only [f_X10_graze, Nat.reduceLT, zmx_x, zml_x, zwi_x, zwl_x, zM_zb, zM_fun, zM_ite, zM_iten, zM_zg, zM_some, kX10_graze_2]
theorem x_X10_liveDay_134 (τ : zMem) (F : Nat) (rec98 rec98q : zMem → Int32 × Int32 × Int32 × Int32 → Option (Unit × zMem)) (σ : zMem) (l1 : Int32) (l2 : Int32) (l3 : Int32) (l4 : Int32) (l5 : Nat) (hrec98 : ∀ s y, rec98 (zmx s τ) y = zM τ (rec98q s y)) : f_X10_liveDay_134 F rec98 (zmx σ τ) l1 l2 l3 l4 l5 = zM τ (f_X10_liveDay_134 F rec98q σ l1 l2 l3 l4 l5) := by
  simp only [f_X10_liveDay_134, Nat.reduceLT, zmx_x, zml_x, zwi_x, zwl_x, zM_zb, zM_fun, zM_ite, zM_iten, zM_zg, zM_some, x_X10_inSeason τ, x_X2_allUp τ, x_X10_worthNow τ, x_X2_oweMore τ, hrec98]
theorem x_X10_liveDay_129 (τ : zMem) (F : Nat) (rec98 rec98q : zMem → Int32 × Int32 × Int32 × Int32 → Option (Unit × zMem)) (σ : zMem) (l1 : Int32) (l2 : Int32) (l3 : Int32) (l4 : Int32) (l5 : Nat) (hrec98 : ∀ s y, rec98 (zmx s τ) y = zM τ (rec98q s y)) : f_X10_liveDay_129 F rec98 (zmx σ τ) l1 l2 l3 l4 l5 = zM τ (f_X10_liveDay_129 F rec98q σ l1 l2 l3 l4 l5) := by
  have kX10_liveDay_134 : ∀ s l1 l2 l3 l4 l5, f_X10_liveDay_134 F rec98 (zmx s τ) l1 l2 l3 l4 l5 = zM τ (f_X10_liveDay_134 F rec98q s l1 l2 l3 l4 l5) := fun s l1 l2 l3 l4 l5 => x_X10_liveDay_134 τ F rec98 rec98q s l1 l2 l3 l4 l5 hrec98
  simp only [f_X10_liveDay_129, Nat.reduceLT, zmx_x, zml_x, zwi_x, zwl_x, zM_zb, zM_fun, zM_ite, zM_iten, zM_zg, zM_some, kX10_liveDay_134, x_X2_winterAtHome τ, hrec98]
theorem x_X10_liveDay_199 (τ : zMem) (F : Nat) (σ : zMem)  : f_X10_liveDay_199 F (zmx σ τ) = zM τ (f_X10_liveDay_199 F σ) := by
  simp only [f_X10_liveDay_199, Nat.reduceLT, zmx_x, zml_x, zwi_x, zwl_x, zM_zb, zM_fun, zM_ite, zM_iten, zM_zg, zM_some]
theorem x_X10_liveDay_98 (τ : zMem) (F : Nat) (rec98 rec98q : zMem → Int32 × Int32 × Int32 × Int32 → Option (Unit × zMem)) (σ : zMem) (x : Int32 × Int32 × Int32 × Int32) (hrec98 : ∀ s y, rec98 (zmx s τ) y = zM τ (rec98q s y)) : f_X10_liveDay_98 F rec98 (zmx σ τ) x = zM τ (f_X10_liveDay_98 F rec98q σ x) := by
  have kX10_liveDay_129 : ∀ s l1 l2 l3 l4 l5, f_X10_liveDay_129 F rec98 (zmx s τ) l1 l2 l3 l4 l5 = zM τ (f_X10_liveDay_129 F rec98q s l1 l2 l3 l4 l5) := fun s l1 l2 l3 l4 l5 => x_X10_liveDay_129 τ F rec98 rec98q s l1 l2 l3 l4 l5 hrec98
  have kX10_liveDay_134 : ∀ s l1 l2 l3 l4 l5, f_X10_liveDay_134 F rec98 (zmx s τ) l1 l2 l3 l4 l5 = zM τ (f_X10_liveDay_134 F rec98q s l1 l2 l3 l4 l5) := fun s l1 l2 l3 l4 l5 => x_X10_liveDay_134 τ F rec98 rec98q s l1 l2 l3 l4 l5 hrec98
  simp only [f_X10_liveDay_98, Nat.reduceLT, zmx_x, zml_x, zwi_x, zwl_x, zM_zb, zM_fun, zM_ite, zM_iten, zM_zg, zM_some, x_X10_liveDay_199 τ, x_X7_live τ, x_X7_ageWoods τ, kX10_liveDay_129, kX10_liveDay_134, hrec98]
theorem x_X10_liveDay_54 (τ : zMem) (F : Nat) (rec54 rec54q : zMem → Int32 × Int32 × Int32 → Option (Unit × zMem)) (σ : zMem) (x : Int32 × Int32 × Int32) (hrec54 : ∀ s y, rec54 (zmx s τ) y = zM τ (rec54q s y)) : f_X10_liveDay_54 F rec54 (zmx σ τ) x = zM τ (f_X10_liveDay_54 F rec54q σ x) := by
  have kX10_liveDay_98 : ∀ s y, zit (f_X10_liveDay_98 F) F (zmx s τ) y = zM τ (zit (f_X10_liveDay_98 F) F s y) := x_it τ (fun r r2 hr s y => x_X10_liveDay_98 τ F r r2 s y hr) F
  simp only [f_X10_liveDay_54, Nat.reduceLT, zmx_x, zml_x, zwi_x, zwl_x, zM_zb, zM_fun, zM_ite, zM_iten, zM_zg, zM_some, x_X10_graze τ, kX10_liveDay_98, x_X0_grow τ, hrec54]
theorem x_X10_liveDay_28 (τ : zMem) (F : Nat) (rec28 rec28q : zMem → Int32 × Int32 × Int32 → Option (Unit × zMem)) (σ : zMem) (x : Int32 × Int32 × Int32) (hrec28 : ∀ s y, rec28 (zmx s τ) y = zM τ (rec28q s y)) : f_X10_liveDay_28 F rec28 (zmx σ τ) x = zM τ (f_X10_liveDay_28 F rec28q σ x) := by
  have kX10_liveDay_54 : ∀ s y, zit (f_X10_liveDay_54 F) F (zmx s τ) y = zM τ (zit (f_X10_liveDay_54 F) F s y) := x_it τ (fun r r2 hr s y => x_X10_liveDay_54 τ F r r2 s y hr) F
  simp only [f_X10_liveDay_28, Nat.reduceLT, zmx_x, zml_x, zwi_x, zwl_x, zM_zb, zM_fun, zM_ite, zM_iten, zM_zg, zM_some, kX10_liveDay_54, hrec28]
theorem x_X10_liveDay (τ : zMem) (F : Nat) (σ : zMem)  : f_X10_liveDay F (zmx σ τ) = zM τ (f_X10_liveDay F σ) := by
  have kX10_liveDay_28 : ∀ s y, zit (f_X10_liveDay_28 F) F (zmx s τ) y = zM τ (zit (f_X10_liveDay_28 F) F s y) := x_it τ (fun r r2 hr s y => x_X10_liveDay_28 τ F r r2 s y hr) F
  simp only [f_X10_liveDay, Nat.reduceLT, zmx_x, zml_x, zwi_x, zwl_x, zM_zb, zM_fun, zM_ite, zM_iten, zM_zg, zM_some, kX10_liveDay_28, x_X5_on τ]
theorem x_X10_days_28 (τ : zMem) (F : Nat) (rec28 rec28q : zMem → Int32 × Int32 → Option (Int32 × zMem)) (σ : zMem) (x : Int32 × Int32) (hrec28 : ∀ s y, rec28 (zmx s τ) y = zM τ (rec28q s y)) : f_X10_days_28 F rec28 (zmx σ τ) x = zM τ (f_X10_days_28 F rec28q σ x) := by
  simp only [f_X10_days_28, Nat.reduceLT, zmx_x, zml_x, zwi_x, zwl_x, zM_zb, zM_fun, zM_ite, zM_iten, zM_zg, zM_some, x_X10_liveDay τ, hrec28]
theorem x_X10_days (τ : zMem) (F : Nat) (σ : zMem) (a1 : Int32)  : f_X10_days F (zmx σ τ) a1 = zM τ (f_X10_days F σ a1) := by
  have kX10_days_28 : ∀ s y, zit (f_X10_days_28 F) F (zmx s τ) y = zM τ (zit (f_X10_days_28 F) F s y) := x_it τ (fun r r2 hr s y => x_X10_days_28 τ F r r2 s y hr) F
  simp only [f_X10_days, Nat.reduceLT, zmx_x, zml_x, zwi_x, zwl_x, zM_zb, zM_fun, zM_ite, zM_iten, zM_zg, zM_some, kX10_days_28]
theorem x_X10_withMostRest_4 (τ : zMem) (F : Nat) (rec4 rec4q : zMem → Int32 × Int32 → Option (Int32 × zMem)) (σ : zMem) (x : Int32 × Int32) (hrec4 : ∀ s y, rec4 (zmx s τ) y = zM τ (rec4q s y)) : f_X10_withMostRest_4 F rec4 (zmx σ τ) x = zM τ (f_X10_withMostRest_4 F rec4q σ x) := by
  simp only [f_X10_withMostRest_4, Nat.reduceLT, zmx_x, zml_x, zwi_x, zwl_x, zM_zb, zM_fun, zM_ite, zM_iten, zM_zg, zM_some, hrec4]
theorem x_X10_withMostRest (τ : zMem) (F : Nat) (σ : zMem)  : f_X10_withMostRest F (zmx σ τ) = zM τ (f_X10_withMostRest F σ) := by
  have kX10_withMostRest_4 : ∀ s y, zit (f_X10_withMostRest_4 F) F (zmx s τ) y = zM τ (zit (f_X10_withMostRest_4 F) F s y) := x_it τ (fun r r2 hr s y => x_X10_withMostRest_4 τ F r r2 s y hr) F
  simp only [f_X10_withMostRest, Nat.reduceLT, zmx_x, zml_x, zwi_x, zwl_x, zM_zb, zM_fun, zM_ite, zM_iten, zM_zg, zM_some, kX10_withMostRest_4]
theorem x_X10_withLeastRest_4 (τ : zMem) (F : Nat) (rec4 rec4q : zMem → Int32 × Int32 → Option (Int32 × zMem)) (σ : zMem) (x : Int32 × Int32) (hrec4 : ∀ s y, rec4 (zmx s τ) y = zM τ (rec4q s y)) : f_X10_withLeastRest_4 F rec4 (zmx σ τ) x = zM τ (f_X10_withLeastRest_4 F rec4q σ x) := by
  simp only [f_X10_withLeastRest_4, Nat.reduceLT, zmx_x, zml_x, zwi_x, zwl_x, zM_zb, zM_fun, zM_ite, zM_iten, zM_zg, zM_some, hrec4]
theorem x_X10_withLeastRest (τ : zMem) (F : Nat) (σ : zMem)  : f_X10_withLeastRest F (zmx σ τ) = zM τ (f_X10_withLeastRest F σ) := by
  have kX10_withLeastRest_4 : ∀ s y, zit (f_X10_withLeastRest_4 F) F (zmx s τ) y = zM τ (zit (f_X10_withLeastRest_4 F) F s y) := x_it τ (fun r r2 hr s y => x_X10_withLeastRest_4 τ F r r2 s y hr) F
  simp only [f_X10_withLeastRest, Nat.reduceLT, zmx_x, zml_x, zwi_x, zwl_x, zM_zb, zM_fun, zM_ite, zM_iten, zM_zg, zM_some, kX10_withLeastRest_4]
theorem x_X10_cheese_153 (τ : zMem) (F : Nat) (rec153 rec153q : zMem → Int32 × Int32 → Option (Int32 × zMem)) (σ : zMem) (x : Int32 × Int32) (hrec153 : ∀ s y, rec153 (zmx s τ) y = zM τ (rec153q s y)) : f_X10_cheese_153 F rec153 (zmx σ τ) x = zM τ (f_X10_cheese_153 F rec153q σ x) := by
  simp only [f_X10_cheese_153, Nat.reduceLT, zmx_x, zml_x, zwi_x, zwl_x, zM_zb, zM_fun, zM_ite, zM_iten, zM_zg, zM_some, hrec153]
theorem x_X10_cheese_116 (τ : zMem) (F : Nat) (rec116 rec116q : zMem → Int32 × Int32 → Option (Int32 × zMem)) (σ : zMem) (x : Int32 × Int32) (hrec116 : ∀ s y, rec116 (zmx s τ) y = zM τ (rec116q s y)) : f_X10_cheese_116 F rec116 (zmx σ τ) x = zM τ (f_X10_cheese_116 F rec116q σ x) := by
  have kX10_cheese_153 : ∀ s y, zit (f_X10_cheese_153 F) F (zmx s τ) y = zM τ (zit (f_X10_cheese_153 F) F s y) := x_it τ (fun r r2 hr s y => x_X10_cheese_153 τ F r r2 s y hr) F
  simp only [f_X10_cheese_116, Nat.reduceLT, zmx_x, zml_x, zwi_x, zwl_x, zM_zb, zM_fun, zM_ite, zM_iten, zM_zg, zM_some, kX10_cheese_153, x_X10_withLeastRest τ, x_X2_takeWheels τ, hrec116]
theorem x_X10_cheese_88 (τ : zMem) (F : Nat) (rec88 rec88q : zMem → Int32 × Int32 × Int32 → Option (Int32 × zMem)) (σ : zMem) (x : Int32 × Int32 × Int32) (hrec88 : ∀ s y, rec88 (zmx s τ) y = zM τ (rec88q s y)) : f_X10_cheese_88 F rec88 (zmx σ τ) x = zM τ (f_X10_cheese_88 F rec88q σ x) := by
  have kX10_cheese_116 : ∀ s y, zit (f_X10_cheese_116 F) F (zmx s τ) y = zM τ (zit (f_X10_cheese_116 F) F s y) := x_it τ (fun r r2 hr s y => x_X10_cheese_116 τ F r r2 s y hr) F
  simp only [f_X10_cheese_88, Nat.reduceLT, zmx_x, zml_x, zwi_x, zwl_x, zM_zb, zM_fun, zM_ite, zM_iten, zM_zg, zM_some, kX10_cheese_116, x_X10_withMostRest τ, x_X2_takeWheels τ, hrec88]
theorem x_X10_cheese_55 (τ : zMem) (F : Nat) (rec55 rec55q : zMem → Int32 × Int32 × Int32 × Int32 → Option (Int32 × zMem)) (σ : zMem) (x : Int32 × Int32 × Int32 × Int32) (hrec55 : ∀ s y, rec55 (zmx s τ) y = zM τ (rec55q s y)) : f_X10_cheese_55 F rec55 (zmx σ τ) x = zM τ (f_X10_cheese_55 F rec55q σ x) := by
  have kX10_cheese_88 : ∀ s y, zit (f_X10_cheese_88 F) F (zmx s τ) y = zM τ (zit (f_X10_cheese_88 F) F s y) := x_it τ (fun r r2 hr s y => x_X10_cheese_88 τ F r r2 s y hr) F
  simp only [f_X10_cheese_55, Nat.reduceLT, zmx_x, zml_x, zwi_x, zwl_x, zM_zb, zM_fun, zM_ite, zM_iten, zM_zg, zM_some, x_X2_partWheels τ, kX10_cheese_88, hrec55]
theorem x_X10_cheese_18 (τ : zMem) (F : Nat) (rec18 rec18q : zMem → Int32 × Int32 × Int32 → Option (Int32 × zMem)) (σ : zMem) (x : Int32 × Int32 × Int32) (hrec18 : ∀ s y, rec18 (zmx s τ) y = zM τ (rec18q s y)) : f_X10_cheese_18 F rec18 (zmx σ τ) x = zM τ (f_X10_cheese_18 F rec18q σ x) := by
  have kX10_cheese_55 : ∀ s y, zit (f_X10_cheese_55 F) F (zmx s τ) y = zM τ (zit (f_X10_cheese_55 F) F s y) := x_it τ (fun r r2 hr s y => x_X10_cheese_55 τ F r r2 s y hr) F
  simp only [f_X10_cheese_18, Nat.reduceLT, zmx_x, zml_x, zwi_x, zwl_x, zM_zb, zM_fun, zM_ite, zM_iten, zM_zg, zM_some, kX10_cheese_55, hrec18]
theorem x_X10_cheese (τ : zMem) (F : Nat) (σ : zMem) (a1 : Int32)  : f_X10_cheese F (zmx σ τ) a1 = zM τ (f_X10_cheese F σ a1) := by
  have kX10_cheese_18 : ∀ s y, zit (f_X10_cheese_18 F) F (zmx s τ) y = zM τ (zit (f_X10_cheese_18 F) F s y) := x_it τ (fun r r2 hr s y => x_X10_cheese_18 τ F r r2 s y hr) F
  simp only [f_X10_cheese, Nat.reduceLT, zmx_x, zml_x, zwi_x, zwl_x, zM_zb, zM_fun, zM_ite, zM_iten, zM_zg, zM_some, kX10_cheese_18]
theorem x_X10_handOutLogs_5 (τ : zMem) (F : Nat) (rec5 rec5q : zMem → Int32 × Int32 × Int32 → Option (Int32 × zMem)) (σ : zMem) (x : Int32 × Int32 × Int32) (hrec5 : ∀ s y, rec5 (zmx s τ) y = zM τ (rec5q s y)) : f_X10_handOutLogs_5 F rec5 (zmx σ τ) x = zM τ (f_X10_handOutLogs_5 F rec5q σ x) := by
  simp only [f_X10_handOutLogs_5, Nat.reduceLT, zmx_x, zml_x, zwi_x, zwl_x, zM_zb, zM_fun, zM_ite, zM_iten, zM_zg, zM_some, x_X10_worthNow τ, hrec5]
theorem x_X10_handOutLogs (τ : zMem) (F : Nat) (σ : zMem) (a1 : Int32) (a2 : Int32)  : f_X10_handOutLogs F (zmx σ τ) a1 a2 = zM τ (f_X10_handOutLogs F σ a1 a2) := by
  have kX10_handOutLogs_5 : ∀ s y, zit (f_X10_handOutLogs_5 F) F (zmx s τ) y = zM τ (zit (f_X10_handOutLogs_5 F) F s y) := x_it τ (fun r r2 hr s y => x_X10_handOutLogs_5 τ F r r2 s y hr) F
  simp only [f_X10_handOutLogs, Nat.reduceLT, zmx_x, zml_x, zwi_x, zwl_x, zM_zb, zM_fun, zM_ite, zM_iten, zM_zg, zM_some, kX10_handOutLogs_5]
theorem x_X10_sellLogs_4 (τ : zMem) (F : Nat) (rec4 rec4q : zMem → Int32 × Int32 → Option (Unit × zMem)) (σ : zMem) (x : Int32 × Int32) (hrec4 : ∀ s y, rec4 (zmx s τ) y = zM τ (rec4q s y)) : f_X10_sellLogs_4 F rec4 (zmx σ τ) x = zM τ (f_X10_sellLogs_4 F rec4q σ x) := by
  simp only [f_X10_sellLogs_4, Nat.reduceLT, zmx_x, zml_x, zwi_x, zwl_x, zM_zb, zM_fun, zM_ite, zM_iten, zM_zg, zM_some, hrec4]
theorem x_X10_sellLogs (τ : zMem) (F : Nat) (σ : zMem) (a1 : Int32)  : f_X10_sellLogs F (zmx σ τ) a1 = zM τ (f_X10_sellLogs F σ a1) := by
  have kX10_sellLogs_4 : ∀ s y, zit (f_X10_sellLogs_4 F) F (zmx s τ) y = zM τ (zit (f_X10_sellLogs_4 F) F s y) := x_it τ (fun r r2 hr s y => x_X10_sellLogs_4 τ F r r2 s y hr) F
  simp only [f_X10_sellLogs, Nat.reduceLT, zmx_x, zml_x, zwi_x, zwl_x, zM_zb, zM_fun, zM_ite, zM_iten, zM_zg, zM_some, kX10_sellLogs_4]
theorem x_X10_fell (τ : zMem) (F : Nat) (σ : zMem) (a1 : Int32) (a2 : Int32)  : f_X10_fell F (zmx σ τ) a1 a2 = zM τ (f_X10_fell F σ a1 a2) := by
  simp only [f_X10_fell, Nat.reduceLT, zmx_x, zml_x, zwi_x, zwl_x, zM_zb, zM_fun, zM_ite, zM_iten, zM_zg, zM_some, x_X10_handOutLogs τ, x_X6_risk τ, x_X10_sellLogs τ, x_X7_has τ, x_X10_isHouse τ]
theorem x_X10_year_95 (τ : zMem) (F : Nat) (rec29 rec29q : zMem → Int32 × Int32 → Option (Int32 × zMem)) (σ : zMem) (l2 : Int32) (l3 : Int32) (l4 : Nat) (hrec29 : ∀ s y, rec29 (zmx s τ) y = zM τ (rec29q s y)) : f_X10_year_95 F rec29 (zmx σ τ) l2 l3 l4 = zM τ (f_X10_year_95 F rec29q σ l2 l3 l4) := by
  simp only [f_X10_year_95, Nat.reduceLT, zmx_x, zml_x, zwi_x, zwl_x, zM_zb, zM_fun, zM_ite, zM_iten, zM_zg, zM_some, hrec29]
theorem x_X10_year_29 (τ : zMem) (F : Nat) (rec29 rec29q : zMem → Int32 × Int32 → Option (Int32 × zMem)) (σ : zMem) (x : Int32 × Int32) (hrec29 : ∀ s y, rec29 (zmx s τ) y = zM τ (rec29q s y)) : f_X10_year_29 F rec29 (zmx σ τ) x = zM τ (f_X10_year_29 F rec29q σ x) := by
  have kX10_year_95 : ∀ s l2 l3 l4, f_X10_year_95 F rec29 (zmx s τ) l2 l3 l4 = zM τ (f_X10_year_95 F rec29q s l2 l3 l4) := fun s l2 l3 l4 => x_X10_year_95 τ F rec29 rec29q s l2 l3 l4 hrec29
  simp only [f_X10_year_29, Nat.reduceLT, zmx_x, zml_x, zwi_x, zwl_x, zM_zb, zM_fun, zM_ite, zM_iten, zM_zg, zM_some, kX10_year_95, x_X10_worthNow τ, x_X2_oweMore τ, hrec29]
theorem x_X10_year (τ : zMem) (F : Nat) (σ : zMem)  : f_X10_year F (zmx σ τ) = zM τ (f_X10_year F σ) := by
  have kX10_year_29 : ∀ s y, zit (f_X10_year_29 F) F (zmx s τ) y = zM τ (zit (f_X10_year_29 F) F s y) := x_it τ (fun r r2 hr s y => x_X10_year_29 τ F r r2 s y hr) F
  simp only [f_X10_year, Nat.reduceLT, zmx_x, zml_x, zwi_x, zwl_x, zM_zb, zM_fun, zM_ite, zM_iten, zM_zg, zM_some, kX10_year_29]
theorem x_X10_foreseeHunger_92 (τ : zMem) (F : Nat) (rec68 rec68q : zMem → Int32 × Int32 × Int32 × Int32 → Option (Unit × zMem)) (rec92 rec92q : zMem → Int32 × Int32 × Int32 × Int32 × Int32 × Int32 → Option (Unit × zMem)) (σ : zMem) (x : Int32 × Int32 × Int32 × Int32 × Int32 × Int32) (hrec68 : ∀ s y, rec68 (zmx s τ) y = zM τ (rec68q s y)) (hrec92 : ∀ s y, rec92 (zmx s τ) y = zM τ (rec92q s y)) : f_X10_foreseeHunger_92 F rec68 rec92 (zmx σ τ) x = zM τ (f_X10_foreseeHunger_92 F rec68q rec92q σ x) := by
  simp only [f_X10_foreseeHunger_92, Nat.reduceLT, zmx_x, zml_x, zwi_x, zwl_x, zM_zb, zM_fun, zM_ite, zM_iten, zM_zg, zM_some, x_X0_hungerWith τ, x_X0_cowsOfSome τ, hrec68, hrec92]
theorem x_X10_foreseeHunger_68 (τ : zMem) (F : Nat) (rec68 rec68q : zMem → Int32 × Int32 × Int32 × Int32 → Option (Unit × zMem)) (σ : zMem) (x : Int32 × Int32 × Int32 × Int32) (hrec68 : ∀ s y, rec68 (zmx s τ) y = zM τ (rec68q s y)) : f_X10_foreseeHunger_68 F rec68 (zmx σ τ) x = zM τ (f_X10_foreseeHunger_68 F rec68q σ x) := by
  have kX10_foreseeHunger_92 : ∀ s y, zit (f_X10_foreseeHunger_92 F rec68) F (zmx s τ) y = zM τ (zit (f_X10_foreseeHunger_92 F rec68q) F s y) := x_it τ (fun r r2 hr s y => x_X10_foreseeHunger_92 τ F rec68 rec68q r r2 s y hrec68 hr) F
  simp only [f_X10_foreseeHunger_68, Nat.reduceLT, zmx_x, zml_x, zwi_x, zwl_x, zM_zb, zM_fun, zM_ite, zM_iten, zM_zg, zM_some, kX10_foreseeHunger_92, x_X10_cowsUpOn τ, hrec68]
theorem x_X10_foreseeHunger_3 (τ : zMem) (F : Nat) (rec3 rec3q : zMem → Int32 × Int32 × Int32 × Int32 → Option (Unit × zMem)) (σ : zMem) (x : Int32 × Int32 × Int32 × Int32) (hrec3 : ∀ s y, rec3 (zmx s τ) y = zM τ (rec3q s y)) : f_X10_foreseeHunger_3 F rec3 (zmx σ τ) x = zM τ (f_X10_foreseeHunger_3 F rec3q σ x) := by
  have kX10_foreseeHunger_68 : ∀ s y, zit (f_X10_foreseeHunger_68 F) F (zmx s τ) y = zM τ (zit (f_X10_foreseeHunger_68 F) F s y) := x_it τ (fun r r2 hr s y => x_X10_foreseeHunger_68 τ F r r2 s y hr) F
  simp only [f_X10_foreseeHunger_3, Nat.reduceLT, zmx_x, zml_x, zwi_x, zwl_x, zM_zb, zM_fun, zM_ite, zM_iten, zM_zg, zM_some, kX10_foreseeHunger_68, x_X5_on τ, hrec3]
theorem x_X10_foreseeHunger (τ : zMem) (F : Nat) (σ : zMem) (a1 : Int32) (a2 : Int32) (a3 : Int32)  : f_X10_foreseeHunger F (zmx σ τ) a1 a2 a3 = zM τ (f_X10_foreseeHunger F σ a1 a2 a3) := by
  have kX10_foreseeHunger_3 : ∀ s y, zit (f_X10_foreseeHunger_3 F) F (zmx s τ) y = zM τ (zit (f_X10_foreseeHunger_3 F) F s y) := x_it τ (fun r r2 hr s y => x_X10_foreseeHunger_3 τ F r r2 s y hr) F
  simp only [f_X10_foreseeHunger, Nat.reduceLT, zmx_x, zml_x, zwi_x, zwl_x, zM_zb, zM_fun, zM_ite, zM_iten, zM_zg, zM_some, kX10_foreseeHunger_3]
theorem y_X11_in (τ : zMem) (F : Nat) (σ : zMem) (a0 : Int32) (a1 : Int32) (a2 : Int32)  : f_X11_in F (zmx τ σ) a0 a1 a2 = zY τ (f_X11_in F σ a0 a1 a2) := by
  simp only [f_X11_in, Nat.reduceLeDiff, zml_y, zmx_y, zwi_y, zwl_y, zY_zb, zY_fun, zY_ite, zY_iten, zY_zg, zY_some]
theorem y_X11_isHouse (τ : zMem) (F : Nat) (σ : zMem) (a1 : Int32)  : f_X11_isHouse F (zmx τ σ) a1 = zY τ (f_X11_isHouse F σ a1) := by
  simp only [f_X11_isHouse, Nat.reduceLeDiff, zml_y, zmx_y, zwi_y, zwl_y, zY_zb, zY_fun, zY_ite, zY_iten, zY_zg, zY_some, y_X11_in τ]
theorem y_X11_isSlope (τ : zMem) (F : Nat) (σ : zMem) (a1 : Int32)  : f_X11_isSlope F (zmx τ σ) a1 = zY τ (f_X11_isSlope F σ a1) := by
  simp only [f_X11_isSlope, Nat.reduceLeDiff, zml_y, zmx_y, zwi_y, zwl_y, zY_zb, zY_fun, zY_ite, zY_iten, zY_zg, zY_some, y_X11_in τ]
theorem y_X11_upOf_4 (τ : zMem) (F : Nat) (rec4 rec4q : zMem → Int32 × Int32 × Int32 → Option (Int32 × zMem)) (σ : zMem) (x : Int32 × Int32 × Int32) (hrec4 : ∀ s y, rec4 (zmx τ s) y = zY τ (rec4q s y)) : f_X11_upOf_4 F rec4 (zmx τ σ) x = zY τ (f_X11_upOf_4 F rec4q σ x) := by
  rcases zdU_c (σ.1 60 0 11).toNatClampNeg with hU | hU | hU
  · simp only [Nat.reduceLeDiff, Nat.reduceAdd, f_X11_upOf_4, zmx_y, zml_y, zwi_y, zwl_y, zY_zb, zY_fun, zY_ite, zY_iten, zY_zg, zY_some, hrec4, hU, zg_0]
  · simp only [Nat.reduceLeDiff, Nat.reduceAdd, f_X11_upOf_4, zmx_y, zml_y, zwi_y, zwl_y, zY_zb, zY_fun, zY_ite, zY_iten, zY_zg, zY_some, hrec4, hU]
  · simp only [Nat.reduceLeDiff, Nat.reduceAdd, f_X11_upOf_4, zmx_y, zml_y, zwi_y, zwl_y, zY_zb, zY_fun, zY_ite, zY_iten, zY_zg, zY_some, hrec4, hU]
theorem y_X11_upOf (τ : zMem) (F : Nat) (σ : zMem) (a1 : Int32)  : f_X11_upOf F (zmx τ σ) a1 = zY τ (f_X11_upOf F σ a1) := by
  have kX11_upOf_4 : ∀ s y, zit (f_X11_upOf_4 F) F (zmx τ s) y = zY τ (zit (f_X11_upOf_4 F) F s y) := y_it τ (fun r r2 hr s y => y_X11_upOf_4 τ F r r2 s y hr) F
  simp only [f_X11_upOf, Nat.reduceLeDiff, zml_y, zmx_y, zwi_y, zwl_y, zY_zb, zY_fun, zY_ite, zY_iten, zY_zg, zY_some, kX11_upOf_4]
theorem y_X11_fieldOf (τ : zMem) (F : Nat) (σ : zMem) (a1 : Int32) (a2 : Int32) (a3 : Int32)  : f_X11_fieldOf F (zmx τ σ) a1 a2 a3 = zY τ (f_X11_fieldOf F σ a1 a2 a3) := by
  simp only [f_X11_fieldOf, Nat.reduceLeDiff, zml_y, zmx_y, zwi_y, zwl_y, zY_zb, zY_fun, zY_ite, zY_iten, zY_zg, zY_some]
theorem y_X11_one_101 (τ : zMem) (F : Nat) (σ : zMem) (s0 : Int32) (s1 : Int32)  : f_X11_one_101 F (zmx τ σ) s0 s1 = zY τ (f_X11_one_101 F σ s0 s1) := by
  simp only [f_X11_one_101, Nat.reduceLeDiff, zml_y, zmx_y, zwi_y, zwl_y, zY_zb, zY_fun, zY_ite, zY_iten, zY_zg, zY_some]
theorem y_X11_one_85 (τ : zMem) (F : Nat) (σ : zMem) (l1 : Nat) (l2 : Int32) (s0 : Int32)  : f_X11_one_85 F (zmx τ σ) l1 l2 s0 = zY τ (f_X11_one_85 F σ l1 l2 s0) := by
  simp only [f_X11_one_85, Nat.reduceLeDiff, zml_y, zmx_y, zwi_y, zwl_y, zY_zb, zY_fun, zY_ite, zY_iten, zY_zg, zY_some, y_X11_one_101 τ]
theorem y_X11_one (τ : zMem) (F : Nat) (σ : zMem) (a1 : Nat) (a2 : Int32) (a3 : Int32) (a4 : Int32)  : f_X11_one F (zmx τ σ) a1 a2 a3 a4 = zY τ (f_X11_one F σ a1 a2 a3 a4) := by
  simp only [f_X11_one, Nat.reduceLeDiff, zml_y, zmx_y, zwi_y, zwl_y, zY_zb, zY_fun, zY_ite, zY_iten, zY_zg, zY_some, y_X11_one_85 τ, y_X11_fieldOf τ]
theorem y_X11_hold_63 (τ : zMem) (F : Nat) (rec22 rec22q : zMem → Int32 × Int32 × Int32 × Int32 × Int32 × Int32 → Option (Int32 × zMem)) (σ : zMem) (l1 : Int32) (l2 : Int32) (l3 : Int32) (l4 : Int32) (l5 : Int32) (l6 : Int32) (hrec22 : ∀ s y, rec22 (zmx τ s) y = zY τ (rec22q s y)) : f_X11_hold_63 F rec22 (zmx τ σ) l1 l2 l3 l4 l5 l6 = zY τ (f_X11_hold_63 F rec22q σ l1 l2 l3 l4 l5 l6) := by
  simp only [f_X11_hold_63, Nat.reduceLeDiff, zml_y, zmx_y, zwi_y, zwl_y, zY_zb, zY_fun, zY_ite, zY_iten, zY_zg, zY_some, y_X11_one τ, hrec22]
theorem y_X11_hold_113 (τ : zMem) (F : Nat) (σ : zMem) (s0 : Int32) (s1 : Int32)  : f_X11_hold_113 F (zmx τ σ) s0 s1 = zY τ (f_X11_hold_113 F σ s0 s1) := by
  simp only [f_X11_hold_113, Nat.reduceLeDiff, zml_y, zmx_y, zwi_y, zwl_y, zY_zb, zY_fun, zY_ite, zY_iten, zY_zg, zY_some]
theorem y_X11_hold_22 (τ : zMem) (F : Nat) (rec22 rec22q : zMem → Int32 × Int32 × Int32 × Int32 × Int32 × Int32 → Option (Int32 × zMem)) (σ : zMem) (x : Int32 × Int32 × Int32 × Int32 × Int32 × Int32) (hrec22 : ∀ s y, rec22 (zmx τ s) y = zY τ (rec22q s y)) : f_X11_hold_22 F rec22 (zmx τ σ) x = zY τ (f_X11_hold_22 F rec22q σ x) := by
  have kX11_hold_63 : ∀ s l1 l2 l3 l4 l5 l6, f_X11_hold_63 F rec22 (zmx τ s) l1 l2 l3 l4 l5 l6 = zY τ (f_X11_hold_63 F rec22q s l1 l2 l3 l4 l5 l6) := fun s l1 l2 l3 l4 l5 l6 => y_X11_hold_63 τ F rec22 rec22q s l1 l2 l3 l4 l5 l6 hrec22
  simp only [f_X11_hold_22, Nat.reduceLeDiff, zml_y, zmx_y, zwi_y, zwl_y, zY_zb, zY_fun, zY_ite, zY_iten, zY_zg, zY_some, y_X11_hold_113 τ, kX11_hold_63, hrec22]
theorem y_X11_hold (τ : zMem) (F : Nat) (σ : zMem) (a1 : Int32) (a2 : Int32) (a3 : Int32)  : f_X11_hold F (zmx τ σ) a1 a2 a3 = zY τ (f_X11_hold F σ a1 a2 a3) := by
  have kX11_hold_22 : ∀ s y, zit (f_X11_hold_22 F) F (zmx τ s) y = zY τ (zit (f_X11_hold_22 F) F s y) := y_it τ (fun r r2 hr s y => y_X11_hold_22 τ F r r2 s y hr) F
  simp only [f_X11_hold, Nat.reduceLeDiff, zml_y, zmx_y, zwi_y, zwl_y, zY_zb, zY_fun, zY_ite, zY_iten, zY_zg, zY_some, kX11_hold_22]
theorem y_X11_whyOf_73 (τ : zMem) (F : Nat) (rec6 rec6q : zMem → Int32 × Int32 × Int32 × Int32 × Int32 × Int32 → Option (Int32 × zMem)) (σ : zMem) (l1 : Int32) (l2 : Int32) (l3 : Int32) (l4 : Int32) (l5 : Int32) (l6 : Int32) (s0 : Int32) (hrec6 : ∀ s y, rec6 (zmx τ s) y = zY τ (rec6q s y)) : f_X11_whyOf_73 F rec6 (zmx τ σ) l1 l2 l3 l4 l5 l6 s0 = zY τ (f_X11_whyOf_73 F rec6q σ l1 l2 l3 l4 l5 l6 s0) := by
  simp only [f_X11_whyOf_73, Nat.reduceLeDiff, zml_y, zmx_y, zwi_y, zwl_y, zY_zb, zY_fun, zY_ite, zY_iten, zY_zg, zY_some, y_X11_hold τ, hrec6]
theorem y_X11_whyOf_6 (τ : zMem) (F : Nat) (rec6 rec6q : zMem → Int32 × Int32 × Int32 × Int32 × Int32 × Int32 → Option (Int32 × zMem)) (σ : zMem) (x : Int32 × Int32 × Int32 × Int32 × Int32 × Int32) (hrec6 : ∀ s y, rec6 (zmx τ s) y = zY τ (rec6q s y)) : f_X11_whyOf_6 F rec6 (zmx τ σ) x = zY τ (f_X11_whyOf_6 F rec6q σ x) := by
  have kX11_whyOf_73 : ∀ s l1 l2 l3 l4 l5 l6 s0, f_X11_whyOf_73 F rec6 (zmx τ s) l1 l2 l3 l4 l5 l6 s0 = zY τ (f_X11_whyOf_73 F rec6q s l1 l2 l3 l4 l5 l6 s0) := fun s l1 l2 l3 l4 l5 l6 s0 => y_X11_whyOf_73 τ F rec6 rec6q s l1 l2 l3 l4 l5 l6 s0 hrec6
  simp only [f_X11_whyOf_6, Nat.reduceLeDiff, zml_y, zmx_y, zwi_y, zwl_y, zY_zb, zY_fun, zY_ite, zY_iten, zY_zg, zY_some, kX11_whyOf_73, hrec6]
theorem y_X11_whyOf (τ : zMem) (F : Nat) (σ : zMem) (a1 : Int32) (a2 : Int32) (a3 : Int32) (a4 : Int32)  : f_X11_whyOf F (zmx τ σ) a1 a2 a3 a4 = zY τ (f_X11_whyOf F σ a1 a2 a3 a4) := by
  have kX11_whyOf_6 : ∀ s y, zit (f_X11_whyOf_6 F) F (zmx τ s) y = zY τ (zit (f_X11_whyOf_6 F) F s y) := y_it τ (fun r r2 hr s y => y_X11_whyOf_6 τ F r r2 s y hr) F
  simp only [f_X11_whyOf, Nat.reduceLeDiff, zml_y, zmx_y, zwi_y, zwl_y, zY_zb, zY_fun, zY_ite, zY_iten, zY_zg, zY_some, kX11_whyOf_6]
theorem y_X11_valueOf (τ : zMem) (F : Nat) (σ : zMem) (a1 : Int32) (a2 : Int32) (a3 : Int32) (a4 : Int32)  : f_X11_valueOf F (zmx τ σ) a1 a2 a3 a4 = zY τ (f_X11_valueOf F σ a1 a2 a3 a4) := by
  simp only [f_X11_valueOf, Nat.reduceLeDiff, zml_y, zmx_y, zwi_y, zwl_y, zY_zb, zY_fun, zY_ite, zY_iten, zY_zg, zY_some, y_X11_whyOf τ]
theorem y_X11_now (τ : zMem) (F : Nat) (σ : zMem) (a1 : Int32) (a2 : Int32)  : f_X11_now F (zmx τ σ) a1 a2 = zY τ (f_X11_now F σ a1 a2) := by
  simp only [f_X11_now, Nat.reduceLeDiff, zml_y, zmx_y, zwi_y, zwl_y, zY_zb, zY_fun, zY_ite, zY_iten, zY_zg, zY_some, y_X11_valueOf τ]
theorem y_X11_isSky (τ : zMem) (F : Nat) (σ : zMem) (a0 : Int32) (a1 : Int32)  : f_X11_isSky F (zmx τ σ) a0 a1 = zY τ (f_X11_isSky F σ a0 a1) := by
  simp only [f_X11_isSky, Nat.reduceLeDiff, zml_y, zmx_y, zwi_y, zwl_y, zY_zb, zY_fun, zY_ite, zY_iten, zY_zg, zY_some, y_X11_in τ]
theorem y_X11_sky_114 (τ : zMem) (F : Nat) (rec114 rec114q : zMem → Int32 × Int32 × Int32 × Int32 × Int32 × Int32 × Int32 → Option (Int32 × zMem)) (σ : zMem) (x : Int32 × Int32 × Int32 × Int32 × Int32 × Int32 × Int32) (hrec114 : ∀ s y, rec114 (zmx τ s) y = zY τ (rec114q s y)) : f_X11_sky_114 F rec114 (zmx τ σ) x = zY τ (f_X11_sky_114 F rec114q σ x) := by
  simp only [f_X11_sky_114, Nat.reduceLeDiff, zml_y, zmx_y, zwi_y, zwl_y, zY_zb, zY_fun, zY_ite, zY_iten, zY_zg, zY_some, y_X11_isSky τ, hrec114]
theorem y_X11_sky (τ : zMem) (F : Nat) (σ : zMem) (a1 : Int32) (a2 : Int32) (a3 : Int32) (a4 : Int32) (a5 : Int32)  : f_X11_sky F (zmx τ σ) a1 a2 a3 a4 a5 = zY τ (f_X11_sky F σ a1 a2 a3 a4 a5) := by
  have kX11_sky_114 : ∀ s y, zit (f_X11_sky_114 F) F (zmx τ s) y = zY τ (zit (f_X11_sky_114 F) F s y) := y_it τ (fun r r2 hr s y => y_X11_sky_114 τ F r r2 s y hr) F
  simp only [f_X11_sky, Nat.reduceLeDiff, zml_y, zmx_y, zwi_y, zwl_y, zY_zb, zY_fun, zY_ite, zY_iten, zY_zg, zY_some, kX11_sky_114, y_X11_in τ]
theorem y_X11_skyAt_2 (τ : zMem) (F : Nat) (rec2 rec2q : zMem → Int32 × Int32 → Option (Int32 × zMem)) (σ : zMem) (x : Int32 × Int32) (hrec2 : ∀ s y, rec2 (zmx τ s) y = zY τ (rec2q s y)) : f_X11_skyAt_2 F rec2 (zmx τ σ) x = zY τ (f_X11_skyAt_2 F rec2q σ x) := by
  simp only [f_X11_skyAt_2, Nat.reduceLeDiff, zml_y, zmx_y, zwi_y, zwl_y, zY_zb, zY_fun, zY_ite, zY_iten, zY_zg, zY_some, hrec2]
theorem y_X11_skyAt (τ : zMem) (F : Nat) (σ : zMem) (a1 : Int32) (a2 : Int32)  : f_X11_skyAt F (zmx τ σ) a1 a2 = zY τ (f_X11_skyAt F σ a1 a2) := by
  have kX11_skyAt_2 : ∀ s y, zit (f_X11_skyAt_2 F) F (zmx τ s) y = zY τ (zit (f_X11_skyAt_2 F) F s y) := y_it τ (fun r r2 hr s y => y_X11_skyAt_2 τ F r r2 s y hr) F
  simp only [f_X11_skyAt, Nat.reduceLeDiff, zml_y, zmx_y, zwi_y, zwl_y, zY_zb, zY_fun, zY_ite, zY_iten, zY_zg, zY_some, kX11_skyAt_2]
theorem y_X11_grow_59 (τ : zMem) (F : Nat) (σ : zMem) (l1 : Int32) (l3 : Int32)  : f_X11_grow_59 F (zmx τ σ) l1 l3 = zY τ (f_X11_grow_59 F σ l1 l3) := by
  rcases zdS_c (σ.1 60 0 29).toNatClampNeg with hS | hS | hS
  · simp only [Nat.reduceLeDiff, Nat.reduceAdd, f_X11_grow_59, zmx_y, zml_y, zwi_y, zwl_y, zY_zb, zY_fun, zY_ite, zY_iten, zY_zg, zY_some, hS, zg_0, zY_none]
  all_goals
    rcases zdG_c (σ.1 60 0 28).toNatClampNeg with hG | hG | hG
    · simp only [Nat.reduceLeDiff, Nat.reduceAdd, f_X11_grow_59, zmx_y, zml_y, zwi_y, zwl_y, zY_zb, zY_fun, zY_ite, zY_iten, zY_zg, zY_some, hS, hG, zg_0, zY_none]
    · simp only [Nat.reduceLeDiff, Nat.reduceAdd, f_X11_grow_59, zmx_y, zml_y, zwi_y, zwl_y, zY_zb, zY_fun, zY_ite, zY_iten, zY_zg, zY_some, hS, hG]
    · simp only [Nat.reduceLeDiff, Nat.reduceAdd, f_X11_grow_59, zmx_y, zml_y, zwi_y, zwl_y, zY_zb, zY_fun, zY_ite, zY_iten, zY_zg, zY_some, hS, hG]
theorem y_X11_grow (τ : zMem) (F : Nat) (σ : zMem) (a1 : Int32) (a2 : Int32)  : f_X11_grow F (zmx τ σ) a1 a2 = zY τ (f_X11_grow F σ a1 a2) := by
  unfold f_X11_grow
  rw [y_X11_skyAt τ, zY_zb, ← zY_fun]
  congr 1
  funext r3 m3
  rcases zdS_c (m3.1 60 0 29).toNatClampNeg with hS | hS | hS
  · simp only [Nat.reduceLeDiff, Nat.reduceAdd, zmx_y, zml_y, zwi_y, zwl_y, zY_zb, zY_fun, zY_ite, zY_iten, zY_zg, zY_some, y_X11_grow_59 τ, y_X11_skyAt τ, hS, zg_0, zY_none, zg_n, zY_ite, ite_self]
  · simp only [Nat.reduceLeDiff, Nat.reduceAdd, zmx_y, zml_y, zwi_y, zwl_y, zY_zb, zY_fun, zY_ite, zY_iten, zY_zg, zY_some, y_X11_grow_59 τ, y_X11_skyAt τ, hS]
  · simp only [Nat.reduceLeDiff, Nat.reduceAdd, zmx_y, zml_y, zwi_y, zwl_y, zY_zb, zY_fun, zY_ite, zY_iten, zY_zg, zY_some, y_X11_grow_59 τ, y_X11_skyAt τ, hS]
theorem y_X11_feedOn (τ : zMem) (F : Nat) (σ : zMem) (a1 : Int32) (a2 : Int32)  : f_X11_feedOn F (zmx τ σ) a1 a2 = zY τ (f_X11_feedOn F σ a1 a2) := by
  rcases zdU_c (σ.1 60 0 11).toNatClampNeg with hU | hU | hU
  · simp only [Nat.reduceLeDiff, Nat.reduceAdd, f_X11_feedOn, zmx_y, zml_y, zwi_y, zwl_y, zY_zb, zY_fun, zY_ite, zY_iten, zY_zg, zY_some, hU, zg_0, zY_none]
  all_goals
    rcases zdG_c (σ.1 60 0 28).toNatClampNeg with hG | hG | hG
    · simp only [Nat.reduceLeDiff, Nat.reduceAdd, f_X11_feedOn, zmx_y, zml_y, zwi_y, zwl_y, zY_zb, zY_fun, zY_ite, zY_iten, zY_zg, zY_some, hU, hG, zg_0, zY_none, zg_n]
    · simp only [Nat.reduceLeDiff, Nat.reduceAdd, f_X11_feedOn, zmx_y, zml_y, zwi_y, zwl_y, zY_zb, zY_fun, zY_ite, zY_iten, zY_zg, zY_some, hU, hG]
    · simp only [Nat.reduceLeDiff, Nat.reduceAdd, f_X11_feedOn, zmx_y, zml_y, zwi_y, zwl_y, zY_zb, zY_fun, zY_ite, zY_iten, zY_zg, zY_some, hU, hG]
theorem y_X11_fields_60 (τ : zMem) (F : Nat) (rec50 rec50q : zMem → Int32 → Option (Unit × zMem)) (rec60 rec60q : zMem → Int32 × Int32 → Option (Unit × zMem)) (σ : zMem) (x : Int32 × Int32) (hrec50 : ∀ s y, rec50 (zmx τ s) y = zY τ (rec50q s y)) (hrec60 : ∀ s y, rec60 (zmx τ s) y = zY τ (rec60q s y)) : f_X11_fields_60 F rec50 rec60 (zmx τ σ) x = zY τ (f_X11_fields_60 F rec50q rec60q σ x) := by
  have k : ∀ r71 m71, (zg (inb x.2 10) (zg (inb x.2 10) (zg (inb x.2 10) (zg (zdU (((zwi (zmx τ m71) 64 0 x.2.toNatClampNeg ((((zmx τ m71).1 64 0 x.2.toNatClampNeg) + (8 * r71)))).1 60 0 11).toNatClampNeg)) (zg (inb x.1 4) (zg (inb x.2 10) (zg (inb x.2 10) (rec60 (zwi (zwi (zmx τ m71) 64 0 x.2.toNatClampNeg ((((zmx τ m71).1 64 0 x.2.toNatClampNeg) + (8 * r71)))) 63 0 x.2.toNatClampNeg ((((zwi (zmx τ m71) 64 0 x.2.toNatClampNeg ((((zmx τ m71).1 64 0 x.2.toNatClampNeg) + (8 * r71)))).1 63 0 x.2.toNatClampNeg) + (((zwi (zmx τ m71) 64 0 x.2.toNatClampNeg ((((zmx τ m71).1 64 0 x.2.toNatClampNeg) + (8 * r71)))).1 ((((zwi (zmx τ m71) 64 0 x.2.toNatClampNeg ((((zmx τ m71).1 64 0 x.2.toNatClampNeg) + (8 * r71)))).1 60 0 11).toNatClampNeg + 1)) x.1.toNatClampNeg x.2.toNatClampNeg) - r71)))) ((x.1, (x.2 + 1))))))))))) = zY τ (zg (inb x.2 10) (zg (inb x.2 10) (zg (inb x.2 10) (zg (zdU (((zwi m71 64 0 x.2.toNatClampNeg (((m71.1 64 0 x.2.toNatClampNeg) + (8 * r71)))).1 60 0 11).toNatClampNeg)) (zg (inb x.1 4) (zg (inb x.2 10) (zg (inb x.2 10) (rec60q (zwi (zwi m71 64 0 x.2.toNatClampNeg (((m71.1 64 0 x.2.toNatClampNeg) + (8 * r71)))) 63 0 x.2.toNatClampNeg ((((zwi m71 64 0 x.2.toNatClampNeg (((m71.1 64 0 x.2.toNatClampNeg) + (8 * r71)))).1 63 0 x.2.toNatClampNeg) + (((zwi m71 64 0 x.2.toNatClampNeg (((m71.1 64 0 x.2.toNatClampNeg) + (8 * r71)))).1 ((((zwi m71 64 0 x.2.toNatClampNeg (((m71.1 64 0 x.2.toNatClampNeg) + (8 * r71)))).1 60 0 11).toNatClampNeg + 1)) x.1.toNatClampNeg x.2.toNatClampNeg) - r71)))) ((x.1, (x.2 + 1))))))))))) := by
    intro r71 m71
    rcases zdU_c ((zwi m71 64 0 x.2.toNatClampNeg (((m71.1 64 0 x.2.toNatClampNeg) + (8 * r71)))).1 60 0 11).toNatClampNeg with hU | hU | hU
    · simp only [Nat.reduceLeDiff, Nat.reduceAdd, zmx_y, zml_y, zwi_y, zwl_y, zY_zb, zY_fun, zY_ite, zY_iten, zY_zg, zY_some, hrec60, hU, zg_0, zY_none, zg_n]
    · simp only [Nat.reduceLeDiff, Nat.reduceAdd, zmx_y, zml_y, zwi_y, zwl_y, zY_zb, zY_fun, zY_ite, zY_iten, zY_zg, zY_some, hrec60, hU]
    · simp only [Nat.reduceLeDiff, Nat.reduceAdd, zmx_y, zml_y, zwi_y, zwl_y, zY_zb, zY_fun, zY_ite, zY_iten, zY_zg, zY_some, hrec60, hU]
  unfold f_X11_fields_60
  rw [zmx_y (by omega), hrec50, y_X11_feedOn τ, zY_zb]
  by_cases c : σ.1 60 0 1 ≤ x.2
  · rw [if_pos c, if_pos c]
  · rw [if_neg c, if_neg c, ← zY_fun]
    congr 1
    funext r m
    exact k r m
theorem y_X11_fields_50 (τ : zMem) (F : Nat) (rec50 rec50q : zMem → Int32 → Option (Unit × zMem)) (σ : zMem) (x : Int32) (hrec50 : ∀ s y, rec50 (zmx τ s) y = zY τ (rec50q s y)) : f_X11_fields_50 F rec50 (zmx τ σ) x = zY τ (f_X11_fields_50 F rec50q σ x) := by
  have kX11_fields_60 : ∀ s y, zit (f_X11_fields_60 F rec50) F (zmx τ s) y = zY τ (zit (f_X11_fields_60 F rec50q) F s y) := y_it τ (fun r r2 hr s y => y_X11_fields_60 τ F rec50 rec50q r r2 s y hrec50 hr) F
  simp only [f_X11_fields_50, Nat.reduceLeDiff, zml_y, zmx_y, zwi_y, zwl_y, zY_zb, zY_fun, zY_ite, zY_iten, zY_zg, zY_some, kX11_fields_60, hrec50]
theorem y_X11_fields_25 (τ : zMem) (F : Nat) (rec25 rec25q : zMem → Int32 → Option (Unit × zMem)) (σ : zMem) (x : Int32) (hrec25 : ∀ s y, rec25 (zmx τ s) y = zY τ (rec25q s y)) : f_X11_fields_25 F rec25 (zmx τ σ) x = zY τ (f_X11_fields_25 F rec25q σ x) := by
  have kX11_fields_50 : ∀ s y, zit (f_X11_fields_50 F) F (zmx τ s) y = zY τ (zit (f_X11_fields_50 F) F s y) := y_it τ (fun r r2 hr s y => y_X11_fields_50 τ F r r2 s y hr) F
  simp only [f_X11_fields_25, Nat.reduceLeDiff, zml_y, zmx_y, zwi_y, zwl_y, zY_zb, zY_fun, zY_ite, zY_iten, zY_zg, zY_some, kX11_fields_50, y_X11_grow τ, hrec25]
theorem y_X11_fields_2 (τ : zMem) (F : Nat) (rec2 rec2q : zMem → Int32 → Option (Unit × zMem)) (σ : zMem) (x : Int32) (hrec2 : ∀ s y, rec2 (zmx τ s) y = zY τ (rec2q s y)) : f_X11_fields_2 F rec2 (zmx τ σ) x = zY τ (f_X11_fields_2 F rec2q σ x) := by
  have kX11_fields_25 : ∀ s y, zit (f_X11_fields_25 F) F (zmx τ s) y = zY τ (zit (f_X11_fields_25 F) F s y) := y_it τ (fun r r2 hr s y => y_X11_fields_25 τ F r r2 s y hr) F
  simp only [f_X11_fields_2, Nat.reduceLeDiff, zml_y, zmx_y, zwi_y, zwl_y, zY_zb, zY_fun, zY_ite, zY_iten, zY_zg, zY_some, kX11_fields_25, hrec2]
theorem y_X11_fields (τ : zMem) (F : Nat) (σ : zMem)  : f_X11_fields F (zmx τ σ) = zY τ (f_X11_fields F σ) := by
  have kX11_fields_2 : ∀ s y, zit (f_X11_fields_2 F) F (zmx τ s) y = zY τ (zit (f_X11_fields_2 F) F s y) := y_it τ (fun r r2 hr s y => y_X11_fields_2 τ F r r2 s y hr) F
  simp only [f_X11_fields, Nat.reduceLeDiff, zml_y, zmx_y, zwi_y, zwl_y, zY_zb, zY_fun, zY_ite, zY_iten, zY_zg, zY_some, kX11_fields_2]
theorem y_X11_owes (τ : zMem) (F : Nat) (σ : zMem) (a1 : Int32) (a2 : Int64)  : f_X11_owes F (zmx τ σ) a1 a2 = zY τ (f_X11_owes F σ a1 a2) := by
  simp only [f_X11_owes, Nat.reduceLeDiff, zml_y, zmx_y, zwi_y, zwl_y, zY_zb, zY_fun, zY_ite, zY_iten, zY_zg, zY_some]
theorem y_X11_stables_32 (τ : zMem) (F : Nat) (rec11 rec11q : zMem → Int32 × Int32 → Option (Unit × zMem)) (σ : zMem) (l1 : Int32) (l2 : Int32) (hrec11 : ∀ s y, rec11 (zmx τ s) y = zY τ (rec11q s y)) : f_X11_stables_32 F rec11 (zmx τ σ) l1 l2 = zY τ (f_X11_stables_32 F rec11q σ l1 l2) := by
  simp only [f_X11_stables_32, Nat.reduceLeDiff, zml_y, zmx_y, zwi_y, zwl_y, zY_zb, zY_fun, zY_ite, zY_iten, zY_zg, zY_some, y_X11_upOf τ, hrec11]
theorem y_X11_stables_123 (τ : zMem) (F : Nat) (rec95 rec95q : zMem → Int32 × Int32 → Option (Unit × zMem)) (σ : zMem) (l1 : Int32) (l2 : Int32) (hrec95 : ∀ s y, rec95 (zmx τ s) y = zY τ (rec95q s y)) : f_X11_stables_123 F rec95 (zmx τ σ) l1 l2 = zY τ (f_X11_stables_123 F rec95q σ l1 l2) := by
  simp only [f_X11_stables_123, Nat.reduceLeDiff, zml_y, zmx_y, zwi_y, zwl_y, zY_zb, zY_fun, zY_ite, zY_iten, zY_zg, zY_some, y_X11_owes τ, y_X11_upOf τ, y_X11_now τ, hrec95]
theorem y_X11_stables_95 (τ : zMem) (F : Nat) (rec95 rec95q : zMem → Int32 × Int32 → Option (Unit × zMem)) (σ : zMem) (x : Int32 × Int32) (hrec95 : ∀ s y, rec95 (zmx τ s) y = zY τ (rec95q s y)) : f_X11_stables_95 F rec95 (zmx τ σ) x = zY τ (f_X11_stables_95 F rec95q σ x) := by
  have kX11_stables_123 : ∀ s l1 l2, f_X11_stables_123 F rec95 (zmx τ s) l1 l2 = zY τ (f_X11_stables_123 F rec95q s l1 l2) := fun s l1 l2 => y_X11_stables_123 τ F rec95 rec95q s l1 l2 hrec95
  simp only [f_X11_stables_95, Nat.reduceLeDiff, zml_y, zmx_y, zwi_y, zwl_y, zY_zb, zY_fun, zY_ite, zY_iten, zY_zg, zY_some, kX11_stables_123, y_X11_now τ, hrec95]
theorem y_X11_stables_11 (τ : zMem) (F : Nat) (rec11 rec11q : zMem → Int32 × Int32 → Option (Unit × zMem)) (σ : zMem) (x : Int32 × Int32) (hrec11 : ∀ s y, rec11 (zmx τ s) y = zY τ (rec11q s y)) : f_X11_stables_11 F rec11 (zmx τ σ) x = zY τ (f_X11_stables_11 F rec11q σ x) := by
  have kX11_stables_32 : ∀ s l1 l2, f_X11_stables_32 F rec11 (zmx τ s) l1 l2 = zY τ (f_X11_stables_32 F rec11q s l1 l2) := fun s l1 l2 => y_X11_stables_32 τ F rec11 rec11q s l1 l2 hrec11
  have kX11_stables_95 : ∀ s y, zit (f_X11_stables_95 F) F (zmx τ s) y = zY τ (zit (f_X11_stables_95 F) F s y) := y_it τ (fun r r2 hr s y => y_X11_stables_95 τ F r r2 s y hr) F
  simp only [f_X11_stables_11, Nat.reduceLeDiff, zml_y, zmx_y, zwi_y, zwl_y, zY_zb, zY_fun, zY_ite, zY_iten, zY_zg, zY_some, kX11_stables_32, kX11_stables_95, hrec11]
theorem y_X11_stables (τ : zMem) (F : Nat) (σ : zMem)  : f_X11_stables F (zmx τ σ) = zY τ (f_X11_stables F σ) := by
  have kX11_stables_11 : ∀ s y, zit (f_X11_stables_11 F) F (zmx τ s) y = zY τ (zit (f_X11_stables_11 F) F s y) := y_it τ (fun r r2 hr s y => y_X11_stables_11 τ F r r2 s y hr) F
  simp only [f_X11_stables, Nat.reduceLeDiff, zml_y, zmx_y, zwi_y, zwl_y, zY_zb, zY_fun, zY_ite, zY_iten, zY_zg, zY_some, kX11_stables_11]
theorem y_X11_newLayer_90 (τ : zMem) (F : Nat) (rec90 rec90q : zMem → Int32 × Int32 → Option (Unit × zMem)) (σ : zMem) (x : Int32 × Int32) (hrec90 : ∀ s y, rec90 (zmx τ s) y = zY τ (rec90q s y)) : f_X11_newLayer_90 F rec90 (zmx τ σ) x = zY τ (f_X11_newLayer_90 F rec90q σ x) := by
  simp only [f_X11_newLayer_90, Nat.reduceLeDiff, zml_y, zmx_y, zwi_y, zwl_y, zY_zb, zY_fun, zY_ite, zY_iten, zY_zg, zY_some, hrec90]
theorem y_X11_newLayer (τ : zMem) (F : Nat) (σ : zMem) (a1 : Int32) (a2 : Int32) (a3 : Int32)  : f_X11_newLayer F (zmx τ σ) a1 a2 a3 = zY τ (f_X11_newLayer F σ a1 a2 a3) := by
  have kX11_newLayer_90 : ∀ s y, zit (f_X11_newLayer_90 F) F (zmx τ s) y = zY τ (zit (f_X11_newLayer_90 F) F s y) := y_it τ (fun r r2 hr s y => y_X11_newLayer_90 τ F r r2 s y hr) F
  simp only [f_X11_newLayer, Nat.reduceLeDiff, zml_y, zmx_y, zwi_y, zwl_y, zY_zb, zY_fun, zY_ite, zY_iten, zY_zg, zY_some, kX11_newLayer_90]
theorem y_X11_holdsOf (τ : zMem) (F : Nat) (σ : zMem) (a1 : Int32) (a2 : Int32)  : f_X11_holdsOf F (zmx τ σ) a1 a2 = zY τ (f_X11_holdsOf F σ a1 a2) := by
  simp only [f_X11_holdsOf, Nat.reduceLeDiff, zml_y, zmx_y, zwi_y, zwl_y, zY_zb, zY_fun, zY_ite, zY_iten, zY_zg, zY_some]
theorem y_X11_over_7 (τ : zMem) (F : Nat) (rec7 rec7q : zMem → Int32 × Int32 × Int32 → Option (Int32 × zMem)) (σ : zMem) (x : Int32 × Int32 × Int32) (hrec7 : ∀ s y, rec7 (zmx τ s) y = zY τ (rec7q s y)) : f_X11_over_7 F rec7 (zmx τ σ) x = zY τ (f_X11_over_7 F rec7q σ x) := by
  simp only [f_X11_over_7, Nat.reduceLeDiff, zml_y, zmx_y, zwi_y, zwl_y, zY_zb, zY_fun, zY_ite, zY_iten, zY_zg, zY_some, hrec7]
theorem y_X11_over (τ : zMem) (F : Nat) (σ : zMem) (a1 : Int32) (a2 : Int32)  : f_X11_over F (zmx τ σ) a1 a2 = zY τ (f_X11_over F σ a1 a2) := by
  have kX11_over_7 : ∀ s y, zit (f_X11_over_7 F) F (zmx τ s) y = zY τ (zit (f_X11_over_7 F) F s y) := y_it τ (fun r r2 hr s y => y_X11_over_7 τ F r r2 s y hr) F
  simp only [f_X11_over, Nat.reduceLeDiff, zml_y, zmx_y, zwi_y, zwl_y, zY_zb, zY_fun, zY_ite, zY_iten, zY_zg, zY_some, kX11_over_7]
theorem y_X11_lowestSoft_2 (τ : zMem) (F : Nat) (rec2 rec2q : zMem → Int32 × Int32 → Option (Int32 × zMem)) (σ : zMem) (x : Int32 × Int32) (hrec2 : ∀ s y, rec2 (zmx τ s) y = zY τ (rec2q s y)) : f_X11_lowestSoft_2 F rec2 (zmx τ σ) x = zY τ (f_X11_lowestSoft_2 F rec2q σ x) := by
  simp only [f_X11_lowestSoft_2, Nat.reduceLeDiff, zml_y, zmx_y, zwi_y, zwl_y, zY_zb, zY_fun, zY_ite, zY_iten, zY_zg, zY_some, hrec2]
theorem y_X11_lowestSoft (τ : zMem) (F : Nat) (σ : zMem) (a1 : Int32)  : f_X11_lowestSoft F (zmx τ σ) a1 = zY τ (f_X11_lowestSoft F σ a1) := by
  have kX11_lowestSoft_2 : ∀ s y, zit (f_X11_lowestSoft_2 F) F (zmx τ s) y = zY τ (zit (f_X11_lowestSoft_2 F) F s y) := y_it τ (fun r r2 hr s y => y_X11_lowestSoft_2 τ F r r2 s y hr) F
  simp only [f_X11_lowestSoft, Nat.reduceLeDiff, zml_y, zmx_y, zwi_y, zwl_y, zY_zb, zY_fun, zY_ite, zY_iten, zY_zg, zY_some, kX11_lowestSoft_2]
theorem y_X11_riskOf (τ : zMem) (F : Nat) (σ : zMem) (a1 : Int32) (a2 : Int32)  : f_X11_riskOf F (zmx τ σ) a1 a2 = zY τ (f_X11_riskOf F σ a1 a2) := by
  simp only [f_X11_riskOf, Nat.reduceLeDiff, zml_y, zmx_y, zwi_y, zwl_y, zY_zb, zY_fun, zY_ite, zY_iten, zY_zg, zY_some, y_X11_over τ, y_X11_lowestSoft τ, y_X11_holdsOf τ]
theorem y_X11_slopeDay_214 (τ : zMem) (F : Nat) (σ : zMem) (s0 : Int32) (s1 : Int32)  : f_X11_slopeDay_214 F (zmx τ σ) s0 s1 = zY τ (f_X11_slopeDay_214 F σ s0 s1) := by
  simp only [f_X11_slopeDay_214, Nat.reduceLeDiff, zml_y, zmx_y, zwi_y, zwl_y, zY_zb, zY_fun, zY_ite, zY_iten, zY_zg, zY_some]
theorem y_X11_slopeDay_176 (τ : zMem) (F : Nat) (σ : zMem) (l1 : Int32) (s0 : Int32) (s1 : Int32)  : f_X11_slopeDay_176 F (zmx τ σ) l1 s0 s1 = zY τ (f_X11_slopeDay_176 F σ l1 s0 s1) := by
  simp only [f_X11_slopeDay_176, Nat.reduceLeDiff, zml_y, zmx_y, zwi_y, zwl_y, zY_zb, zY_fun, zY_ite, zY_iten, zY_zg, zY_some, y_X11_slopeDay_214 τ]
theorem y_X11_slopeDay_107 (τ : zMem) (F : Nat) (σ : zMem) (l1 : Int32)  : f_X11_slopeDay_107 F (zmx τ σ) l1 = zY τ (f_X11_slopeDay_107 F σ l1) := by
  simp only [f_X11_slopeDay_107, Nat.reduceLeDiff, zml_y, zmx_y, zwi_y, zwl_y, zY_zb, zY_fun, zY_ite, zY_iten, zY_zg, zY_some, y_X11_over τ, y_X11_lowestSoft τ, y_X11_holdsOf τ, y_X11_slopeDay_176 τ]
theorem y_X11_slopeDay_46 (τ : zMem) (F : Nat) (σ : zMem) (l1 : Int32) (l2 : Int32)  : f_X11_slopeDay_46 F (zmx τ σ) l1 l2 = zY τ (f_X11_slopeDay_46 F σ l1 l2) := by
  simp only [f_X11_slopeDay_46, Nat.reduceLeDiff, zml_y, zmx_y, zwi_y, zwl_y, zY_zb, zY_fun, zY_ite, zY_iten, zY_zg, zY_some, y_X11_slopeDay_107 τ]
theorem y_X11_slopeDay_43 (τ : zMem) (F : Nat) (σ : zMem) (l1 : Int32) (l2 : Int32) (s0 : Int32) (s1 : Int32) (s2 : Int32)  : f_X11_slopeDay_43 F (zmx τ σ) l1 l2 s0 s1 s2 = zY τ (f_X11_slopeDay_43 F σ l1 l2 s0 s1 s2) := by
  simp only [f_X11_slopeDay_43, Nat.reduceLeDiff, zml_y, zmx_y, zwi_y, zwl_y, zY_zb, zY_fun, zY_ite, zY_iten, zY_zg, zY_some, y_X11_newLayer τ, y_X11_slopeDay_46 τ]
theorem y_X11_slopeDay (τ : zMem) (F : Nat) (σ : zMem) (a1 : Int32)  : f_X11_slopeDay F (zmx τ σ) a1 = zY τ (f_X11_slopeDay F σ a1) := by
  simp only [f_X11_slopeDay, Nat.reduceLeDiff, zml_y, zmx_y, zwi_y, zwl_y, zY_zb, zY_fun, zY_ite, zY_iten, zY_zg, zY_some, y_X11_slopeDay_43 τ, y_X11_skyAt τ, y_X11_slopeDay_46 τ]
theorem y_X11_oneDay_106 (τ : zMem) (F : Nat) (σ : zMem)  : f_X11_oneDay_106 F (zmx τ σ) = zY τ (f_X11_oneDay_106 F σ) := by
  simp only [f_X11_oneDay_106, Nat.reduceLeDiff, zml_y, zmx_y, zwi_y, zwl_y, zY_zb, zY_fun, zY_ite, zY_iten, zY_zg, zY_some]
theorem y_X11_oneDay_61 (τ : zMem) (F : Nat) (rec61 rec61q : zMem → Int32 → Option (Unit × zMem)) (σ : zMem) (x : Int32) (hrec61 : ∀ s y, rec61 (zmx τ s) y = zY τ (rec61q s y)) : f_X11_oneDay_61 F rec61 (zmx τ σ) x = zY τ (f_X11_oneDay_61 F rec61q σ x) := by
  simp only [f_X11_oneDay_61, Nat.reduceLeDiff, zml_y, zmx_y, zwi_y, zwl_y, zY_zb, zY_fun, zY_ite, zY_iten, zY_zg, zY_some, y_X11_oneDay_106 τ, hrec61]
theorem y_X11_oneDay_55 (τ : zMem) (F : Nat) (σ : zMem) (s0 : Int32) (s1 : Int32)  : f_X11_oneDay_55 F (zmx τ σ) s0 s1 = zY τ (f_X11_oneDay_55 F σ s0 s1) := by
  have kX11_oneDay_61 : ∀ s y, zit (f_X11_oneDay_61 F) F (zmx τ s) y = zY τ (zit (f_X11_oneDay_61 F) F s y) := y_it τ (fun r r2 hr s y => y_X11_oneDay_61 τ F r r2 s y hr) F
  simp only [f_X11_oneDay_55, Nat.reduceLeDiff, zml_y, zmx_y, zwi_y, zwl_y, zY_zb, zY_fun, zY_ite, zY_iten, zY_zg, zY_some, kX11_oneDay_61]
theorem y_X11_oneDay_12 (τ : zMem) (F : Nat) (rec12 rec12q : zMem → Int32 × Int32 → Option (Unit × zMem)) (σ : zMem) (x : Int32 × Int32) (hrec12 : ∀ s y, rec12 (zmx τ s) y = zY τ (rec12q s y)) : f_X11_oneDay_12 F rec12 (zmx τ σ) x = zY τ (f_X11_oneDay_12 F rec12q σ x) := by
  simp only [f_X11_oneDay_12, Nat.reduceLeDiff, zml_y, zmx_y, zwi_y, zwl_y, zY_zb, zY_fun, zY_ite, zY_iten, zY_zg, zY_some, y_X11_slopeDay τ, y_X11_oneDay_55 τ, hrec12]
theorem y_X11_oneDay (τ : zMem) (F : Nat) (σ : zMem)  : f_X11_oneDay F (zmx τ σ) = zY τ (f_X11_oneDay F σ) := by
  have kX11_oneDay_12 : ∀ s y, zit (f_X11_oneDay_12 F) F (zmx τ s) y = zY τ (zit (f_X11_oneDay_12 F) F s y) := y_it τ (fun r r2 hr s y => y_X11_oneDay_12 τ F r r2 s y hr) F
  simp only [f_X11_oneDay, Nat.reduceLeDiff, zml_y, zmx_y, zwi_y, zwl_y, zY_zb, zY_fun, zY_ite, zY_iten, zY_zg, zY_some, y_X11_fields τ, y_X11_stables τ, kX11_oneDay_12]
theorem y_X11_days_27 (τ : zMem) (F : Nat) (rec27 rec27q : zMem → Int32 × Int32 → Option (Int32 × zMem)) (σ : zMem) (x : Int32 × Int32) (hrec27 : ∀ s y, rec27 (zmx τ s) y = zY τ (rec27q s y)) : f_X11_days_27 F rec27 (zmx τ σ) x = zY τ (f_X11_days_27 F rec27q σ x) := by
  simp only [f_X11_days_27, Nat.reduceLeDiff, zml_y, zmx_y, zwi_y, zwl_y, zY_zb, zY_fun, zY_ite, zY_iten, zY_zg, zY_some, y_X11_oneDay τ, hrec27]
theorem y_X11_days (τ : zMem) (F : Nat) (σ : zMem) (a1 : Int32)  : f_X11_days F (zmx τ σ) a1 = zY τ (f_X11_days F σ a1) := by
  have kX11_days_27 : ∀ s y, zit (f_X11_days_27 F) F (zmx τ s) y = zY τ (zit (f_X11_days_27 F) F s y) := y_it τ (fun r r2 hr s y => y_X11_days_27 τ F r r2 s y hr) F
  simp only [f_X11_days, Nat.reduceLeDiff, zml_y, zmx_y, zwi_y, zwl_y, zY_zb, zY_fun, zY_ite, zY_iten, zY_zg, zY_some, kX11_days_27, y_X11_in τ]
theorem y_X11_next_28 (τ : zMem) (F : Nat) (rec4 rec4q : zMem → Int32 × Int32 × Int32 → Option (Int32 × zMem)) (σ : zMem) (l1 : Int32) (l2 : Int32) (l3 : Int32) (hrec4 : ∀ s y, rec4 (zmx τ s) y = zY τ (rec4q s y)) : f_X11_next_28 F rec4 (zmx τ σ) l1 l2 l3 = zY τ (f_X11_next_28 F rec4q σ l1 l2 l3) := by
  simp only [f_X11_next_28, Nat.reduceLeDiff, zml_y, zmx_y, zwi_y, zwl_y, zY_zb, zY_fun, zY_ite, zY_iten, zY_zg, zY_some, hrec4]
theorem y_X11_next_4 (τ : zMem) (F : Nat) (rec4 rec4q : zMem → Int32 × Int32 × Int32 → Option (Int32 × zMem)) (σ : zMem) (x : Int32 × Int32 × Int32) (hrec4 : ∀ s y, rec4 (zmx τ s) y = zY τ (rec4q s y)) : f_X11_next_4 F rec4 (zmx τ σ) x = zY τ (f_X11_next_4 F rec4q σ x) := by
  have kX11_next_28 : ∀ s l1 l2 l3, f_X11_next_28 F rec4 (zmx τ s) l1 l2 l3 = zY τ (f_X11_next_28 F rec4q s l1 l2 l3) := fun s l1 l2 l3 => y_X11_next_28 τ F rec4 rec4q s l1 l2 l3 hrec4
  simp only [f_X11_next_4, Nat.reduceLeDiff, zml_y, zmx_y, zwi_y, zwl_y, zY_zb, zY_fun, zY_ite, zY_iten, zY_zg, zY_some, kX11_next_28, hrec4]
theorem y_X11_next (τ : zMem) (F : Nat) (σ : zMem) (a1 : Int32)  : f_X11_next F (zmx τ σ) a1 = zY τ (f_X11_next F σ a1) := by
  have kX11_next_4 : ∀ s y, zit (f_X11_next_4 F) F (zmx τ s) y = zY τ (zit (f_X11_next_4 F) F s y) := y_it τ (fun r r2 hr s y => y_X11_next_4 τ F r r2 s y hr) F
  simp only [f_X11_next, Nat.reduceLeDiff, zml_y, zmx_y, zwi_y, zwl_y, zY_zb, zY_fun, zY_ite, zY_iten, zY_zg, zY_some, kX11_next_4]
theorem y_X11_cheese_120 (τ : zMem) (F : Nat) (rec59 rec59q : zMem → Int32 × Int64 × Int32 × Int32 → Option (Int32 × zMem)) (σ : zMem) (l1 : Int32) (l2 : Int64) (l4 : Int32) (l5 : Int32) (l6 : Int64) (s0 : Int32) (s1 : Int32) (hrec59 : ∀ s y, rec59 (zmx τ s) y = zY τ (rec59q s y)) : f_X11_cheese_120 F rec59 (zmx τ σ) l1 l2 l4 l5 l6 s0 s1 = zY τ (f_X11_cheese_120 F rec59q σ l1 l2 l4 l5 l6 s0 s1) := by
  simp only [f_X11_cheese_120, Nat.reduceLeDiff, zml_y, zmx_y, zwi_y, zwl_y, zY_zb, zY_fun, zY_ite, zY_iten, zY_zg, zY_some, hrec59]
theorem y_X11_cheese_251 (τ : zMem) (F : Nat) (rec251 rec251q : zMem → Int32 × Int32 → Option (Int32 × zMem)) (σ : zMem) (x : Int32 × Int32) (hrec251 : ∀ s y, rec251 (zmx τ s) y = zY τ (rec251q s y)) : f_X11_cheese_251 F rec251 (zmx τ σ) x = zY τ (f_X11_cheese_251 F rec251q σ x) := by
  simp only [f_X11_cheese_251, Nat.reduceLeDiff, zml_y, zmx_y, zwi_y, zwl_y, zY_zb, zY_fun, zY_ite, zY_iten, zY_zg, zY_some, hrec251]
theorem y_X11_cheese_205 (τ : zMem) (F : Nat) (rec205 rec205q : zMem → Int32 × Int32 → Option (Int32 × zMem)) (σ : zMem) (x : Int32 × Int32) (hrec205 : ∀ s y, rec205 (zmx τ s) y = zY τ (rec205q s y)) : f_X11_cheese_205 F rec205 (zmx τ σ) x = zY τ (f_X11_cheese_205 F rec205q σ x) := by
  have kX11_cheese_251 : ∀ s y, zit (f_X11_cheese_251 F) F (zmx τ s) y = zY τ (zit (f_X11_cheese_251 F) F s y) := y_it τ (fun r r2 hr s y => y_X11_cheese_251 τ F r r2 s y hr) F
  simp only [f_X11_cheese_205, Nat.reduceLeDiff, zml_y, zmx_y, zwi_y, zwl_y, zY_zb, zY_fun, zY_ite, zY_iten, zY_zg, zY_some, kX11_cheese_251, y_X11_next τ, hrec205]
theorem y_X11_cheese_162 (τ : zMem) (F : Nat) (rec162 rec162q : zMem → Int32 × Int32 → Option (Int32 × zMem)) (σ : zMem) (x : Int32 × Int32) (hrec162 : ∀ s y, rec162 (zmx τ s) y = zY τ (rec162q s y)) : f_X11_cheese_162 F rec162 (zmx τ σ) x = zY τ (f_X11_cheese_162 F rec162q σ x) := by
  have kX11_cheese_205 : ∀ s y, zit (f_X11_cheese_205 F) F (zmx τ s) y = zY τ (zit (f_X11_cheese_205 F) F s y) := y_it τ (fun r r2 hr s y => y_X11_cheese_205 τ F r r2 s y hr) F
  simp only [f_X11_cheese_162, Nat.reduceLeDiff, zml_y, zmx_y, zwi_y, zwl_y, zY_zb, zY_fun, zY_ite, zY_iten, zY_zg, zY_some, kX11_cheese_205, y_X11_next τ, hrec162]
theorem y_X11_cheese_59 (τ : zMem) (F : Nat) (rec59 rec59q : zMem → Int32 × Int64 × Int32 × Int32 → Option (Int32 × zMem)) (σ : zMem) (x : Int32 × Int64 × Int32 × Int32) (hrec59 : ∀ s y, rec59 (zmx τ s) y = zY τ (rec59q s y)) : f_X11_cheese_59 F rec59 (zmx τ σ) x = zY τ (f_X11_cheese_59 F rec59q σ x) := by
  have kX11_cheese_120 : ∀ s l1 l2 l4 l5 l6 s0 s1, f_X11_cheese_120 F rec59 (zmx τ s) l1 l2 l4 l5 l6 s0 s1 = zY τ (f_X11_cheese_120 F rec59q s l1 l2 l4 l5 l6 s0 s1) := fun s l1 l2 l4 l5 l6 s0 s1 => y_X11_cheese_120 τ F rec59 rec59q s l1 l2 l4 l5 l6 s0 s1 hrec59
  have kX11_cheese_162 : ∀ s y, zit (f_X11_cheese_162 F) F (zmx τ s) y = zY τ (zit (f_X11_cheese_162 F) F s y) := y_it τ (fun r r2 hr s y => y_X11_cheese_162 τ F r r2 s y hr) F
  simp only [f_X11_cheese_59, Nat.reduceLeDiff, zml_y, zmx_y, zwi_y, zwl_y, zY_zb, zY_fun, zY_ite, zY_iten, zY_zg, zY_some, kX11_cheese_120, kX11_cheese_162, hrec59]
theorem y_X11_cheese_19 (τ : zMem) (F : Nat) (rec19 rec19q : zMem → Int32 × Int64 × Int32 → Option (Int32 × zMem)) (σ : zMem) (x : Int32 × Int64 × Int32) (hrec19 : ∀ s y, rec19 (zmx τ s) y = zY τ (rec19q s y)) : f_X11_cheese_19 F rec19 (zmx τ σ) x = zY τ (f_X11_cheese_19 F rec19q σ x) := by
  have kX11_cheese_59 : ∀ s y, zit (f_X11_cheese_59 F) F (zmx τ s) y = zY τ (zit (f_X11_cheese_59 F) F s y) := y_it τ (fun r r2 hr s y => y_X11_cheese_59 τ F r r2 s y hr) F
  simp only [f_X11_cheese_19, Nat.reduceLeDiff, zml_y, zmx_y, zwi_y, zwl_y, zY_zb, zY_fun, zY_ite, zY_iten, zY_zg, zY_some, kX11_cheese_59, hrec19]
theorem y_X11_cheese (τ : zMem) (F : Nat) (σ : zMem) (a1 : Int32)  : f_X11_cheese F (zmx τ σ) a1 = zY τ (f_X11_cheese F σ a1) := by
  have kX11_cheese_19 : ∀ s y, zit (f_X11_cheese_19 F) F (zmx τ s) y = zY τ (zit (f_X11_cheese_19 F) F s y) := y_it τ (fun r r2 hr s y => y_X11_cheese_19 τ F r r2 s y hr) F
  simp only [f_X11_cheese, Nat.reduceLeDiff, zml_y, zmx_y, zwi_y, zwl_y, zY_zb, zY_fun, zY_ite, zY_iten, zY_zg, zY_some, kX11_cheese_19, y_X11_in τ]
theorem y_X11_fell_131 (τ : zMem) (F : Nat) (rec131 rec131q : zMem → Int32 × Int32 × Int32 → Option (Int32 × zMem)) (σ : zMem) (x : Int32 × Int32 × Int32) (hrec131 : ∀ s y, rec131 (zmx τ s) y = zY τ (rec131q s y)) : f_X11_fell_131 F rec131 (zmx τ σ) x = zY τ (f_X11_fell_131 F rec131q σ x) := by
  simp only [f_X11_fell_131, Nat.reduceLeDiff, zml_y, zmx_y, zwi_y, zwl_y, zY_zb, zY_fun, zY_ite, zY_iten, zY_zg, zY_some, hrec131]
theorem y_X11_fell_47 (τ : zMem) (F : Nat) (rec47 rec47q : zMem → Int32 × Int32 × Int32 × Int32 × Int32 → Option (Int32 × zMem)) (σ : zMem) (x : Int32 × Int32 × Int32 × Int32 × Int32) (hrec47 : ∀ s y, rec47 (zmx τ s) y = zY τ (rec47q s y)) : f_X11_fell_47 F rec47 (zmx τ σ) x = zY τ (f_X11_fell_47 F rec47q σ x) := by
  have kX11_fell_131 : ∀ s y, zit (f_X11_fell_131 F) F (zmx τ s) y = zY τ (zit (f_X11_fell_131 F) F s y) := y_it τ (fun r r2 hr s y => y_X11_fell_131 τ F r r2 s y hr) F
  simp only [f_X11_fell_47, Nat.reduceLeDiff, zml_y, zmx_y, zwi_y, zwl_y, zY_zb, zY_fun, zY_ite, zY_iten, zY_zg, zY_some, kX11_fell_131, y_X11_now τ, hrec47]
theorem y_X11_fell (τ : zMem) (F : Nat) (σ : zMem) (a1 : Int32) (a2 : Int32)  : f_X11_fell F (zmx τ σ) a1 a2 = zY τ (f_X11_fell F σ a1 a2) := by
  have kX11_fell_47 : ∀ s y, zit (f_X11_fell_47 F) F (zmx τ s) y = zY τ (zit (f_X11_fell_47 F) F s y) := y_it τ (fun r r2 hr s y => y_X11_fell_47 τ F r r2 s y hr) F
  simp only [f_X11_fell, Nat.reduceLeDiff, zml_y, zmx_y, zwi_y, zwl_y, zY_zb, zY_fun, zY_ite, zY_iten, zY_zg, zY_some, y_X11_riskOf τ, y_X11_isHouse τ, kX11_fell_47, y_X11_isSlope τ]
theorem y_X11_year_34 (τ : zMem) (F : Nat) (rec34 rec34q : zMem → Int32 × Int32 → Option (Int32 × zMem)) (σ : zMem) (x : Int32 × Int32) (hrec34 : ∀ s y, rec34 (zmx τ s) y = zY τ (rec34q s y)) : f_X11_year_34 F rec34 (zmx τ σ) x = zY τ (f_X11_year_34 F rec34q σ x) := by
  simp only [f_X11_year_34, Nat.reduceLeDiff, zml_y, zmx_y, zwi_y, zwl_y, zY_zb, zY_fun, zY_ite, zY_iten, zY_zg, zY_some, y_X11_owes τ, y_X11_now τ, hrec34]
theorem y_X11_year (τ : zMem) (F : Nat) (σ : zMem)  : f_X11_year F (zmx τ σ) = zY τ (f_X11_year F σ) := by
  have kX11_year_34 : ∀ s y, zit (f_X11_year_34 F) F (zmx τ s) y = zY τ (zit (f_X11_year_34 F) F s y) := y_it τ (fun r r2 hr s y => y_X11_year_34 τ F r r2 s y hr) F
  simp only [f_X11_year, Nat.reduceLeDiff, zml_y, zmx_y, zwi_y, zwl_y, zY_zb, zY_fun, zY_ite, zY_iten, zY_zg, zY_some, kX11_year_34]
