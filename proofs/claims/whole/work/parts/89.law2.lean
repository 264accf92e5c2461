/-! the law once round, for any memory; the ghost cell goes down by one each time round -/
set_option maxHeartbeats 4000000 in
set_option maxRecDepth 100000 in
theorem b_L_law_18 (F : Nat) (Z : zLay) {E : zEn} {h : Nat} {QQ : Int32 → zMem → State → Prop} (hret : ∀ (pc : Nat) (L : List (Nat × Value)) (x : Int32) (σ : zMem), decode cL_law pc = .ok (.ireturn, 1) → zKO E 4 Z QQ pc L [.int x] σ (some (x, σ))) (C : zCx E cL_law RL 4 (some .boolean) Z h) (hh : 11 ≤ h) : ∀ (rec18 : zMem → Int32 → Option (Int32 × zMem)), (∀ (σ : zMem) (x : Int32), zKO E 4 Z QQ 18 [(0, .ref (zad Z 170 0)), (1, .ref (zad Z 0 0)), (2, .ref (zad Z 60 0)), (3, .int x)] [] σ (rec18 σ x)) → ∀ (σ : zMem) (x : Int32), zKO E 4 Z QQ 18 [(0, .ref (zad Z 170 0)), (1, .ref (zad Z 0 0)), (2, .ref (zad Z 60 0)), (3, .int x)] [] σ (f_L_law_18 F Z rec18 σ x) := by
  intro rec18 hrec18 σ x
  obtain ⟨l3, h9⟩ : ∃ y, y = x := ⟨x, rfl⟩
  subst h9
  show zKO E 4 Z QQ 18 [(0, .ref (zad Z 170 0)), (1, .ref (zad Z 0 0)), (2, .ref (zad Z 60 0)), (3, .int l3)] [] σ (if ((Z.2.2.2.1.toInt32) - 6) < l3 then (some (1, σ)) else (zg (inb l3 Z.2.2.2.1) (if (((Z.2.2.2.2 l3.toNatClampNeg) &&& 63)).toInt < 0 ∨ 47 < (((Z.2.2.2.2 l3.toNatClampNeg) &&& 63)).toInt then (rec18 σ ((l3 + 6))) else (if ((Z.2.2.2.2 l3.toNatClampNeg) &&& 63) = 0 then (zg (inb ((l3 + 1)) Z.2.2.2.1) (zg (inb ((l3 + 2)) Z.2.2.2.1) (zg (inb ((l3 + 3)) Z.2.2.2.1) (zg (inb ((l3 + 4)) Z.2.2.2.1) (zb (f_X10_house F σ ((Z.2.2.2.2 ((l3 + 1)).toNatClampNeg)) ((Z.2.2.2.2 ((l3 + 2)).toNatClampNeg)) ((Z.2.2.2.2 ((l3 + 3)).toNatClampNeg)) ((Z.2.2.2.2 ((l3 + 4)).toNatClampNeg))) fun r261 m261 => zg (inb ((l3 + 1)) Z.2.2.2.1) (zg (inb ((l3 + 2)) Z.2.2.2.1) (zg (inb ((l3 + 3)) Z.2.2.2.1) (zg (inb ((l3 + 4)) Z.2.2.2.1) (zb (f_X11_house F m261 ((Z.2.2.2.2 ((l3 + 1)).toNatClampNeg)) ((Z.2.2.2.2 ((l3 + 2)).toNatClampNeg)) ((Z.2.2.2.2 ((l3 + 3)).toNatClampNeg)) ((Z.2.2.2.2 ((l3 + 4)).toNatClampNeg))) fun r285 m285 => if r261 = r285 then (rec18 m285 ((l3 + 6))) else (some (0, m285))))))))))) else (if ((Z.2.2.2.2 l3.toNatClampNeg) &&& 63) = 1 then (zg (inb ((l3 + 1)) Z.2.2.2.1) (zg (inb ((l3 + 2)) Z.2.2.2.1) (zg (inb ((l3 + 3)) Z.2.2.2.1) (zb (f_X10_change F σ ((Z.2.2.2.2 ((l3 + 1)).toNatClampNeg)) ((Z.2.2.2.2 ((l3 + 2)).toNatClampNeg)) ((Z.2.2.2.2 ((l3 + 3)).toNatClampNeg))) fun r309 m309 => zg (inb ((l3 + 1)) Z.2.2.2.1) (zg (inb ((l3 + 2)) Z.2.2.2.1) (zg (inb ((l3 + 3)) Z.2.2.2.1) (zb (f_X11_change F m309 ((Z.2.2.2.2 ((l3 + 1)).toNatClampNeg)) ((Z.2.2.2.2 ((l3 + 2)).toNatClampNeg)) ((Z.2.2.2.2 ((l3 + 3)).toNatClampNeg))) fun r328 m328 => if r309 = r328 then (rec18 m328 ((l3 + 6))) else (some (0, m328))))))))) else (if ((Z.2.2.2.2 l3.toNatClampNeg) &&& 63) = 2 then (zg (inb ((l3 + 1)) Z.2.2.2.1) (zg (inb ((l3 + 2)) Z.2.2.2.1) (zb (f_X10_told F σ ((Z.2.2.2.2 ((l3 + 1)).toNatClampNeg)) ((Z.2.2.2.2 ((l3 + 2)).toNatClampNeg))) fun r347 m347 => zg (inb ((l3 + 1)) Z.2.2.2.1) (zg (inb ((l3 + 2)) Z.2.2.2.1) (zb (f_X11_told F m347 ((Z.2.2.2.2 ((l3 + 1)).toNatClampNeg)) ((Z.2.2.2.2 ((l3 + 2)).toNatClampNeg))) fun r361 m361 => if r347 = r361 then (rec18 m361 ((l3 + 6))) else (some (0, m361))))))) else (if ((Z.2.2.2.2 l3.toNatClampNeg) &&& 63) = 3 then (zb (f_X10_counts F σ) fun r370 m370 => zb (f_X11_counts F m370) fun r374 m374 => if r370 = r374 then (rec18 m374 ((l3 + 6))) else (some (0, m374))) else (if ((Z.2.2.2.2 l3.toNatClampNeg) &&& 63) = 4 then (zg (inb ((l3 + 1)) Z.2.2.2.1) (zg (inb ((l3 + 2)) Z.2.2.2.1) (zg (inb ((l3 + 3)) Z.2.2.2.1) (zb (f_X10_right F σ ((Z.2.2.2.2 ((l3 + 1)).toNatClampNeg)) ((Z.2.2.2.2 ((l3 + 2)).toNatClampNeg)) ((Z.2.2.2.2 ((l3 + 3)).toNatClampNeg))) fun r398 m398 => zg (inb ((l3 + 1)) Z.2.2.2.1) (zg (inb ((l3 + 2)) Z.2.2.2.1) (zg (inb ((l3 + 3)) Z.2.2.2.1) (zb (f_X11_right F m398 ((Z.2.2.2.2 ((l3 + 1)).toNatClampNeg)) ((Z.2.2.2.2 ((l3 + 2)).toNatClampNeg)) ((Z.2.2.2.2 ((l3 + 3)).toNatClampNeg))) fun r417 m417 => if r398 = r417 then (rec18 m417 ((l3 + 6))) else (some (0, m417))))))))) else (if ((Z.2.2.2.2 l3.toNatClampNeg) &&& 63) = 5 then (zg (inb ((l3 + 1)) Z.2.2.2.1) (zg (inb ((l3 + 2)) Z.2.2.2.1) (zb (f_X10_split F σ ((Z.2.2.2.2 ((l3 + 1)).toNatClampNeg)) ((Z.2.2.2.2 ((l3 + 2)).toNatClampNeg))) fun r436 m436 => zg (inb ((l3 + 1)) Z.2.2.2.1) (zg (inb ((l3 + 2)) Z.2.2.2.1) (zb (f_X11_split F m436 ((Z.2.2.2.2 ((l3 + 1)).toNatClampNeg)) ((Z.2.2.2.2 ((l3 + 2)).toNatClampNeg))) fun r450 m450 => if r436 = r450 then (rec18 m450 ((l3 + 6))) else (some (0, m450))))))) else (if ((Z.2.2.2.2 l3.toNatClampNeg) &&& 63) = 6 then (zg (inb ((l3 + 1)) Z.2.2.2.1) (zg (inb ((l3 + 2)) Z.2.2.2.1) (zb (f_X10_join F σ ((Z.2.2.2.2 ((l3 + 1)).toNatClampNeg)) ((Z.2.2.2.2 ((l3 + 2)).toNatClampNeg))) fun r469 m469 => zg (inb ((l3 + 1)) Z.2.2.2.1) (zg (inb ((l3 + 2)) Z.2.2.2.1) (zb (f_X11_join F m469 ((Z.2.2.2.2 ((l3 + 1)).toNatClampNeg)) ((Z.2.2.2.2 ((l3 + 2)).toNatClampNeg))) fun r483 m483 => if r469 = r483 then (rec18 m483 ((l3 + 6))) else (some (0, m483))))))) else (if ((Z.2.2.2.2 l3.toNatClampNeg) &&& 63) = 7 then (zg (inb ((l3 + 1)) Z.2.2.2.1) (zg (inb ((l3 + 2)) Z.2.2.2.1) (zg (inb ((l3 + 3)) Z.2.2.2.1) (zb (f_X10_lend F σ ((Z.2.2.2.2 ((l3 + 1)).toNatClampNeg)) ((Z.2.2.2.2 ((l3 + 2)).toNatClampNeg)) ((Z.2.2.2.2 ((l3 + 3)).toNatClampNeg))) fun r507 m507 => zg (inb ((l3 + 1)) Z.2.2.2.1) (zg (inb ((l3 + 2)) Z.2.2.2.1) (zg (inb ((l3 + 3)) Z.2.2.2.1) (zb (f_X11_lend F m507 ((Z.2.2.2.2 ((l3 + 1)).toNatClampNeg)) ((Z.2.2.2.2 ((l3 + 2)).toNatClampNeg)) ((Z.2.2.2.2 ((l3 + 3)).toNatClampNeg))) fun r526 m526 => if r507 = r526 then (rec18 m526 ((l3 + 6))) else (some (0, m526))))))))) else (if ((Z.2.2.2.2 l3.toNatClampNeg) &&& 63) = 8 then (zg (inb ((l3 + 1)) Z.2.2.2.1) (zg (inb ((l3 + 2)) Z.2.2.2.1) (zb (f_X10_leave F σ ((Z.2.2.2.2 ((l3 + 1)).toNatClampNeg)) ((Z.2.2.2.2 ((l3 + 2)).toNatClampNeg))) fun r545 m545 => zg (inb ((l3 + 1)) Z.2.2.2.1) (zg (inb ((l3 + 2)) Z.2.2.2.1) (zb (f_X11_leave F m545 ((Z.2.2.2.2 ((l3 + 1)).toNatClampNeg)) ((Z.2.2.2.2 ((l3 + 2)).toNatClampNeg))) fun r559 m559 => if r545 = r559 then (rec18 m559 ((l3 + 6))) else (some (0, m559))))))) else (if ((Z.2.2.2.2 l3.toNatClampNeg) &&& 63) = 9 then (zg (inb ((l3 + 1)) Z.2.2.2.1) (zg (inb ((l3 + 2)) Z.2.2.2.1) (zb (f_X10_rightOf F σ ((Z.2.2.2.2 ((l3 + 1)).toNatClampNeg)) ((Z.2.2.2.2 ((l3 + 2)).toNatClampNeg))) fun r578 m578 => zg (inb ((l3 + 1)) Z.2.2.2.1) (zg (inb ((l3 + 2)) Z.2.2.2.1) (zb (f_X11_rightOf F m578 ((Z.2.2.2.2 ((l3 + 1)).toNatClampNeg)) ((Z.2.2.2.2 ((l3 + 2)).toNatClampNeg))) fun r592 m592 => if r578 = r592 then (rec18 m592 ((l3 + 6))) else (some (0, m592))))))) else (if ((Z.2.2.2.2 l3.toNatClampNeg) &&& 63) = 10 then (zg (inb ((l3 + 1)) Z.2.2.2.1) (zg (inb ((l3 + 2)) Z.2.2.2.1) (zb (f_X10_parts F σ ((Z.2.2.2.2 ((l3 + 1)).toNatClampNeg)) ((Z.2.2.2.2 ((l3 + 2)).toNatClampNeg))) fun r611 m611 => zg (inb ((l3 + 1)) Z.2.2.2.1) (zg (inb ((l3 + 2)) Z.2.2.2.1) (zb (f_X11_parts F m611 ((Z.2.2.2.2 ((l3 + 1)).toNatClampNeg)) ((Z.2.2.2.2 ((l3 + 2)).toNatClampNeg))) fun r625 m625 => if r611 = r625 then (rec18 m625 ((l3 + 6))) else (some (0, m625))))))) else (if ((Z.2.2.2.2 l3.toNatClampNeg) &&& 63) = 11 then (zg (inb ((l3 + 1)) Z.2.2.2.1) (zg (inb ((l3 + 2)) Z.2.2.2.1) (zb (f_X10_feed F σ ((Z.2.2.2.2 ((l3 + 1)).toNatClampNeg)) ((Z.2.2.2.2 ((l3 + 2)).toNatClampNeg))) fun r644 m644 => zg (inb ((l3 + 1)) Z.2.2.2.1) (zg (inb ((l3 + 2)) Z.2.2.2.1) (zb (f_X11_feed F m644 ((Z.2.2.2.2 ((l3 + 1)).toNatClampNeg)) ((Z.2.2.2.2 ((l3 + 2)).toNatClampNeg))) fun r658 m658 => if r644 = r658 then (rec18 m658 ((l3 + 6))) else (some (0, m658))))))) else (if ((Z.2.2.2.2 l3.toNatClampNeg) &&& 63) = 12 then (zg (inb ((l3 + 1)) Z.2.2.2.1) (zg (inb ((l3 + 2)) Z.2.2.2.1) (zb (f_X10_vote F σ ((Z.2.2.2.2 ((l3 + 1)).toNatClampNeg)) ((Z.2.2.2.2 ((l3 + 2)).toNatClampNeg))) fun r677 m677 => zg (inb ((l3 + 1)) Z.2.2.2.1) (zg (inb ((l3 + 2)) Z.2.2.2.1) (zb (f_X11_vote F m677 ((Z.2.2.2.2 ((l3 + 1)).toNatClampNeg)) ((Z.2.2.2.2 ((l3 + 2)).toNatClampNeg))) fun r691 m691 => if r677 = r691 then (rec18 m691 ((l3 + 6))) else (some (0, m691))))))) else (if ((Z.2.2.2.2 l3.toNatClampNeg) &&& 63) = 13 then (zg (inb ((l3 + 1)) Z.2.2.2.1) (zb (f_X10_voids F σ ((Z.2.2.2.2 ((l3 + 1)).toNatClampNeg))) fun r705 m705 => zg (inb ((l3 + 1)) Z.2.2.2.1) (zb (f_X11_voids F m705 ((Z.2.2.2.2 ((l3 + 1)).toNatClampNeg))) fun r714 m714 => if r705 = r714 then (rec18 m714 ((l3 + 6))) else (some (0, m714))))) else (if ((Z.2.2.2.2 l3.toNatClampNeg) &&& 63) = 14 then (zg (inb ((l3 + 1)) Z.2.2.2.1) (zg (inb ((l3 + 2)) Z.2.2.2.1) (zg (inb ((l3 + 3)) Z.2.2.2.1) (zg (inb ((l3 + 4)) Z.2.2.2.1) (zb (f_X10_value F σ ((Z.2.2.2.2 ((l3 + 1)).toNatClampNeg)) ((Z.2.2.2.2 ((l3 + 2)).toNatClampNeg)) ((Z.2.2.2.2 ((l3 + 3)).toNatClampNeg)) ((Z.2.2.2.2 ((l3 + 4)).toNatClampNeg))) fun r743 m743 => zg (inb ((l3 + 1)) Z.2.2.2.1) (zg (inb ((l3 + 2)) Z.2.2.2.1) (zg (inb ((l3 + 3)) Z.2.2.2.1) (zg (inb ((l3 + 4)) Z.2.2.2.1) (zb (f_X11_value F m743 ((Z.2.2.2.2 ((l3 + 1)).toNatClampNeg)) ((Z.2.2.2.2 ((l3 + 2)).toNatClampNeg)) ((Z.2.2.2.2 ((l3 + 3)).toNatClampNeg)) ((Z.2.2.2.2 ((l3 + 4)).toNatClampNeg))) fun r767 m767 => if r743 = r767 then (rec18 m767 ((l3 + 6))) else (some (0, m767))))))))))) else (if ((Z.2.2.2.2 l3.toNatClampNeg) &&& 63) = 15 then (zg (inb ((l3 + 1)) Z.2.2.2.1) (zg (inb ((l3 + 2)) Z.2.2.2.1) (zg (inb ((l3 + 3)) Z.2.2.2.1) (zg (inb ((l3 + 4)) Z.2.2.2.1) (zb (f_X10_why F σ ((Z.2.2.2.2 ((l3 + 1)).toNatClampNeg)) ((Z.2.2.2.2 ((l3 + 2)).toNatClampNeg)) ((Z.2.2.2.2 ((l3 + 3)).toNatClampNeg)) ((Z.2.2.2.2 ((l3 + 4)).toNatClampNeg))) fun r796 m796 => zg (inb ((l3 + 1)) Z.2.2.2.1) (zg (inb ((l3 + 2)) Z.2.2.2.1) (zg (inb ((l3 + 3)) Z.2.2.2.1) (zg (inb ((l3 + 4)) Z.2.2.2.1) (zb (f_X11_why F m796 ((Z.2.2.2.2 ((l3 + 1)).toNatClampNeg)) ((Z.2.2.2.2 ((l3 + 2)).toNatClampNeg)) ((Z.2.2.2.2 ((l3 + 3)).toNatClampNeg)) ((Z.2.2.2.2 ((l3 + 4)).toNatClampNeg))) fun r820 m820 => if r796 = r820 then (rec18 m820 ((l3 + 6))) else (some (0, m820))))))))))) else (if ((Z.2.2.2.2 l3.toNatClampNeg) &&& 63) = 16 then (zg (inb ((l3 + 1)) Z.2.2.2.1) (zg (inb ((l3 + 2)) Z.2.2.2.1) (zg (inb ((l3 + 3)) Z.2.2.2.1) (zb (f_X10_weather F σ ((Z.2.2.2.2 ((l3 + 1)).toNatClampNeg)) ((Z.2.2.2.2 ((l3 + 2)).toNatClampNeg)) ((Z.2.2.2.2 ((l3 + 3)).toNatClampNeg))) fun r844 m844 => zg (inb ((l3 + 1)) Z.2.2.2.1) (zg (inb ((l3 + 2)) Z.2.2.2.1) (zg (inb ((l3 + 3)) Z.2.2.2.1) (zb (f_X11_weather F m844 ((Z.2.2.2.2 ((l3 + 1)).toNatClampNeg)) ((Z.2.2.2.2 ((l3 + 2)).toNatClampNeg)) ((Z.2.2.2.2 ((l3 + 3)).toNatClampNeg))) fun r863 m863 => if r844 = r863 then (rec18 m863 ((l3 + 6))) else (some (0, m863))))))))) else (if ((Z.2.2.2.2 l3.toNatClampNeg) &&& 63) = 17 then (zg (inb ((l3 + 1)) Z.2.2.2.1) (zg (inb ((l3 + 2)) Z.2.2.2.1) (zg (inb ((l3 + 3)) Z.2.2.2.1) (zg (inb ((l3 + 4)) Z.2.2.2.1) (zg (inb ((l3 + 5)) Z.2.2.2.1) (zb (f_X10_sky F σ ((Z.2.2.2.2 ((l3 + 1)).toNatClampNeg)) ((Z.2.2.2.2 ((l3 + 2)).toNatClampNeg)) ((Z.2.2.2.2 ((l3 + 3)).toNatClampNeg)) ((Z.2.2.2.2 ((l3 + 4)).toNatClampNeg)) ((Z.2.2.2.2 ((l3 + 5)).toNatClampNeg))) fun r897 m897 => zg (inb ((l3 + 1)) Z.2.2.2.1) (zg (inb ((l3 + 2)) Z.2.2.2.1) (zg (inb ((l3 + 3)) Z.2.2.2.1) (zg (inb ((l3 + 4)) Z.2.2.2.1) (zg (inb ((l3 + 5)) Z.2.2.2.1) (zb (f_X11_sky F m897 ((Z.2.2.2.2 ((l3 + 1)).toNatClampNeg)) ((Z.2.2.2.2 ((l3 + 2)).toNatClampNeg)) ((Z.2.2.2.2 ((l3 + 3)).toNatClampNeg)) ((Z.2.2.2.2 ((l3 + 4)).toNatClampNeg)) ((Z.2.2.2.2 ((l3 + 5)).toNatClampNeg))) fun r926 m926 => if r897 = r926 then (rec18 m926 ((l3 + 6))) else (some (0, m926))))))))))))) else (if ((Z.2.2.2.2 l3.toNatClampNeg) &&& 63) = 18 then (zg (inb ((l3 + 1)) Z.2.2.2.1) (zg (inb ((l3 + 2)) Z.2.2.2.1) (zb (f_X10_skyOf F σ ((Z.2.2.2.2 ((l3 + 1)).toNatClampNeg)) ((Z.2.2.2.2 ((l3 + 2)).toNatClampNeg))) fun r945 m945 => zg (inb ((l3 + 1)) Z.2.2.2.1) (zg (inb ((l3 + 2)) Z.2.2.2.1) (zb (f_X11_skyOf F m945 ((Z.2.2.2.2 ((l3 + 1)).toNatClampNeg)) ((Z.2.2.2.2 ((l3 + 2)).toNatClampNeg))) fun r959 m959 => if r945 = r959 then (rec18 m959 ((l3 + 6))) else (some (0, m959))))))) else (if ((Z.2.2.2.2 l3.toNatClampNeg) &&& 63) = 19 then (zg (inb ((l3 + 1)) Z.2.2.2.1) (zg (inb ((l3 + 2)) Z.2.2.2.1) (zb (f_X10_alp F σ ((Z.2.2.2.2 ((l3 + 1)).toNatClampNeg)) ((Z.2.2.2.2 ((l3 + 2)).toNatClampNeg))) fun r978 m978 => zg (inb ((l3 + 1)) Z.2.2.2.1) (zg (inb ((l3 + 2)) Z.2.2.2.1) (zb (f_X11_alp F m978 ((Z.2.2.2.2 ((l3 + 1)).toNatClampNeg)) ((Z.2.2.2.2 ((l3 + 2)).toNatClampNeg))) fun r992 m992 => if r978 = r992 then (rec18 m992 ((l3 + 6))) else (some (0, m992))))))) else (if ((Z.2.2.2.2 l3.toNatClampNeg) &&& 63) = 20 then (zg (inb ((l3 + 1)) Z.2.2.2.1) (zg (inb ((l3 + 2)) Z.2.2.2.1) (zb (f_X10_alpOf F σ ((Z.2.2.2.2 ((l3 + 1)).toNatClampNeg)) ((Z.2.2.2.2 ((l3 + 2)).toNatClampNeg))) fun r1011 m1011 => zg (inb ((l3 + 1)) Z.2.2.2.1) (zg (inb ((l3 + 2)) Z.2.2.2.1) (zb (f_X11_alpOf F m1011 ((Z.2.2.2.2 ((l3 + 1)).toNatClampNeg)) ((Z.2.2.2.2 ((l3 + 2)).toNatClampNeg))) fun r1025 m1025 => if r1011 = r1025 then (rec18 m1025 ((l3 + 6))) else (some (0, m1025))))))) else (if ((Z.2.2.2.2 l3.toNatClampNeg) &&& 63) = 21 then (zg (inb ((l3 + 1)) Z.2.2.2.1) (zg (inb ((l3 + 2)) Z.2.2.2.1) (zg (inb ((l3 + 3)) Z.2.2.2.1) (zb (f_X10_drive F σ ((Z.2.2.2.2 ((l3 + 1)).toNatClampNeg)) ((Z.2.2.2.2 ((l3 + 2)).toNatClampNeg)) ((Z.2.2.2.2 ((l3 + 3)).toNatClampNeg))) fun r1049 m1049 => zg (inb ((l3 + 1)) Z.2.2.2.1) (zg (inb ((l3 + 2)) Z.2.2.2.1) (zg (inb ((l3 + 3)) Z.2.2.2.1) (zb (f_X11_drive F m1049 ((Z.2.2.2.2 ((l3 + 1)).toNatClampNeg)) ((Z.2.2.2.2 ((l3 + 2)).toNatClampNeg)) ((Z.2.2.2.2 ((l3 + 3)).toNatClampNeg))) fun r1068 m1068 => if r1049 = r1068 then (rec18 m1068 ((l3 + 6))) else (some (0, m1068))))))))) else (if ((Z.2.2.2.2 l3.toNatClampNeg) &&& 63) = 22 then (zg (inb ((l3 + 1)) Z.2.2.2.1) (zg (inb ((l3 + 2)) Z.2.2.2.1) (zg (inb ((l3 + 3)) Z.2.2.2.1) (zb (f_X10_home F σ ((Z.2.2.2.2 ((l3 + 1)).toNatClampNeg)) ((Z.2.2.2.2 ((l3 + 2)).toNatClampNeg)) ((Z.2.2.2.2 ((l3 + 3)).toNatClampNeg))) fun r1092 m1092 => zg (inb ((l3 + 1)) Z.2.2.2.1) (zg (inb ((l3 + 2)) Z.2.2.2.1) (zg (inb ((l3 + 3)) Z.2.2.2.1) (zb (f_X11_home F m1092 ((Z.2.2.2.2 ((l3 + 1)).toNatClampNeg)) ((Z.2.2.2.2 ((l3 + 2)).toNatClampNeg)) ((Z.2.2.2.2 ((l3 + 3)).toNatClampNeg))) fun r1111 m1111 => if r1092 = r1111 then (rec18 m1111 ((l3 + 6))) else (some (0, m1111))))))))) else (if ((Z.2.2.2.2 l3.toNatClampNeg) &&& 63) = 23 then (zg (inb ((l3 + 1)) Z.2.2.2.1) (zg (inb ((l3 + 2)) Z.2.2.2.1) (zb (f_X10_book F σ ((Z.2.2.2.2 ((l3 + 1)).toNatClampNeg)) ((Z.2.2.2.2 ((l3 + 2)).toNatClampNeg))) fun r1130 m1130 => zg (inb ((l3 + 1)) Z.2.2.2.1) (zg (inb ((l3 + 2)) Z.2.2.2.1) (zb (f_X11_book F m1130 ((Z.2.2.2.2 ((l3 + 1)).toNatClampNeg)) ((Z.2.2.2.2 ((l3 + 2)).toNatClampNeg))) fun r1144 m1144 => if r1130 = r1144 then (rec18 m1144 ((l3 + 6))) else (some (0, m1144))))))) else (if ((Z.2.2.2.2 l3.toNatClampNeg) &&& 63) = 24 then (zg (inb ((l3 + 1)) Z.2.2.2.1) (zb (f_X10_days F σ ((Z.2.2.2.2 ((l3 + 1)).toNatClampNeg))) fun r1158 m1158 => zg (inb ((l3 + 1)) Z.2.2.2.1) (zb (f_X11_days F m1158 ((Z.2.2.2.2 ((l3 + 1)).toNatClampNeg))) fun r1167 m1167 => if r1158 = r1167 then (rec18 m1167 ((l3 + 6))) else (some (0, m1167))))) else (if ((Z.2.2.2.2 l3.toNatClampNeg) &&& 63) = 25 then (zg (inb ((l3 + 1)) Z.2.2.2.1) (zb (f_X10_slope F σ ((Z.2.2.2.2 ((l3 + 1)).toNatClampNeg))) fun r1181 m1181 => zg (inb ((l3 + 1)) Z.2.2.2.1) (zb (f_X11_slope F m1181 ((Z.2.2.2.2 ((l3 + 1)).toNatClampNeg))) fun r1190 m1190 => if r1181 = r1190 then (rec18 m1190 ((l3 + 6))) else (some (0, m1190))))) else (if ((Z.2.2.2.2 l3.toNatClampNeg) &&& 63) = 26 then (zg (inb ((l3 + 1)) Z.2.2.2.1) (zg (inb ((l3 + 2)) Z.2.2.2.1) (zb (f_X10_slopeOf F σ ((Z.2.2.2.2 ((l3 + 1)).toNatClampNeg)) ((Z.2.2.2.2 ((l3 + 2)).toNatClampNeg))) fun r1209 m1209 => zg (inb ((l3 + 1)) Z.2.2.2.1) (zg (inb ((l3 + 2)) Z.2.2.2.1) (zb (f_X11_slopeOf F m1209 ((Z.2.2.2.2 ((l3 + 1)).toNatClampNeg)) ((Z.2.2.2.2 ((l3 + 2)).toNatClampNeg))) fun r1223 m1223 => if r1209 = r1223 then (rec18 m1223 ((l3 + 6))) else (some (0, m1223))))))) else (if ((Z.2.2.2.2 l3.toNatClampNeg) &&& 63) = 27 then (zg (inb ((l3 + 1)) Z.2.2.2.1) (zg (inb ((l3 + 2)) Z.2.2.2.1) (if (Z.2.2.2.2 ((l3 + 2)).toNatClampNeg) = 0 then (f_L_law_1250 F Z rec18 σ l3 0 ((Z.2.2.2.2 ((l3 + 1)).toNatClampNeg))) else (f_L_law_1250 F Z rec18 σ l3 1 ((Z.2.2.2.2 ((l3 + 1)).toNatClampNeg)))))) else (if ((Z.2.2.2.2 l3.toNatClampNeg) &&& 63) = 28 then (zg (inb ((l3 + 1)) Z.2.2.2.1) (if (Z.2.2.2.2 ((l3 + 1)).toNatClampNeg) = 0 then (f_L_law_1294 F Z rec18 σ l3 0) else (f_L_law_1294 F Z rec18 σ l3 1))) else (if ((Z.2.2.2.2 l3.toNatClampNeg) &&& 63) = 29 then (zb (f_X10_measure F σ) fun r1320 m1320 => zb (f_X11_measure F m1320) fun r1324 m1324 => if r1320 = r1324 then (rec18 m1324 ((l3 + 6))) else (some (0, m1324))) else (if ((Z.2.2.2.2 l3.toNatClampNeg) &&& 63) = 30 then (zg (inb ((l3 + 1)) Z.2.2.2.1) (zb (f_X10_cheese F σ ((Z.2.2.2.2 ((l3 + 1)).toNatClampNeg))) fun r1338 m1338 => zg (inb ((l3 + 1)) Z.2.2.2.1) (zb (f_X11_cheese F m1338 ((Z.2.2.2.2 ((l3 + 1)).toNatClampNeg))) fun r1347 m1347 => if r1338 = r1347 then (rec18 m1347 ((l3 + 6))) else (some (0, m1347))))) else (if ((Z.2.2.2.2 l3.toNatClampNeg) &&& 63) = 31 then (zg (inb ((l3 + 1)) Z.2.2.2.1) (zb (f_X10_rest F σ ((Z.2.2.2.2 ((l3 + 1)).toNatClampNeg))) fun r1361 m1361 => zg (inb ((l3 + 1)) Z.2.2.2.1) (zb (f_X11_rest F m1361 ((Z.2.2.2.2 ((l3 + 1)).toNatClampNeg))) fun r1370 m1370 => if r1361 = r1370 then (rec18 m1370 ((l3 + 6))) else (some (0, m1370))))) else (if ((Z.2.2.2.2 l3.toNatClampNeg) &&& 63) = 32 then (zg (inb ((l3 + 1)) Z.2.2.2.1) (zg (inb ((l3 + 2)) Z.2.2.2.1) (zb (f_X10_fell F σ ((Z.2.2.2.2 ((l3 + 1)).toNatClampNeg)) ((Z.2.2.2.2 ((l3 + 2)).toNatClampNeg))) fun r1389 m1389 => zg (inb ((l3 + 1)) Z.2.2.2.1) (zg (inb ((l3 + 2)) Z.2.2.2.1) (zb (f_X11_fell F m1389 ((Z.2.2.2.2 ((l3 + 1)).toNatClampNeg)) ((Z.2.2.2.2 ((l3 + 2)).toNatClampNeg))) fun r1403 m1403 => if r1389 = r1403 then (rec18 m1403 ((l3 + 6))) else (some (0, m1403))))))) else (if ((Z.2.2.2.2 l3.toNatClampNeg) &&& 63) = 33 then (zg (inb ((l3 + 1)) Z.2.2.2.1) (zg (inb ((l3 + 2)) Z.2.2.2.1) (zg (inb ((l3 + 3)) Z.2.2.2.1) (zb (f_X10_channel F σ ((Z.2.2.2.2 ((l3 + 1)).toNatClampNeg)) ((Z.2.2.2.2 ((l3 + 2)).toNatClampNeg)) ((Z.2.2.2.2 ((l3 + 3)).toNatClampNeg))) fun r1427 m1427 => zg (inb ((l3 + 1)) Z.2.2.2.1) (zg (inb ((l3 + 2)) Z.2.2.2.1) (zg (inb ((l3 + 3)) Z.2.2.2.1) (zb (f_X11_channel F m1427 ((Z.2.2.2.2 ((l3 + 1)).toNatClampNeg)) ((Z.2.2.2.2 ((l3 + 2)).toNatClampNeg)) ((Z.2.2.2.2 ((l3 + 3)).toNatClampNeg))) fun r1446 m1446 => if r1427 = r1446 then (rec18 m1446 ((l3 + 6))) else (some (0, m1446))))))))) else (if ((Z.2.2.2.2 l3.toNatClampNeg) &&& 63) = 34 then (zg (inb ((l3 + 1)) Z.2.2.2.1) (zb (f_X10_hour F σ ((Z.2.2.2.2 ((l3 + 1)).toNatClampNeg))) fun r1460 m1460 => zg (inb ((l3 + 1)) Z.2.2.2.1) (zb (f_X11_hour F m1460 ((Z.2.2.2.2 ((l3 + 1)).toNatClampNeg))) fun r1469 m1469 => if r1460 = r1469 then (rec18 m1469 ((l3 + 6))) else (some (0, m1469))))) else (if ((Z.2.2.2.2 l3.toNatClampNeg) &&& 63) = 35 then (zg (inb ((l3 + 1)) Z.2.2.2.1) (zg (inb ((l3 + 2)) Z.2.2.2.1) (zg (inb ((l3 + 3)) Z.2.2.2.1) (zb (f_X10_gets F σ ((Z.2.2.2.2 ((l3 + 1)).toNatClampNeg)) ((Z.2.2.2.2 ((l3 + 2)).toNatClampNeg)) ((Z.2.2.2.2 ((l3 + 3)).toNatClampNeg))) fun r1493 m1493 => zg (inb ((l3 + 1)) Z.2.2.2.1) (zg (inb ((l3 + 2)) Z.2.2.2.1) (zg (inb ((l3 + 3)) Z.2.2.2.1) (zb (f_X11_gets F m1493 ((Z.2.2.2.2 ((l3 + 1)).toNatClampNeg)) ((Z.2.2.2.2 ((l3 + 2)).toNatClampNeg)) ((Z.2.2.2.2 ((l3 + 3)).toNatClampNeg))) fun r1512 m1512 => if r1493 = r1512 then (rec18 m1512 ((l3 + 6))) else (some (0, m1512))))))))) else (if ((Z.2.2.2.2 l3.toNatClampNeg) &&& 63) = 36 then (zg (inb ((l3 + 1)) Z.2.2.2.1) (zb (f_X10_turn F σ ((Z.2.2.2.2 ((l3 + 1)).toNatClampNeg))) fun r1526 m1526 => zg (inb ((l3 + 1)) Z.2.2.2.1) (zb (f_X11_turn F m1526 ((Z.2.2.2.2 ((l3 + 1)).toNatClampNeg))) fun r1535 m1535 => if r1526 = r1535 then (rec18 m1535 ((l3 + 6))) else (some (0, m1535))))) else (if ((Z.2.2.2.2 l3.toNatClampNeg) &&& 63) = 37 then (zg (inb ((l3 + 1)) Z.2.2.2.1) (zg (inb ((l3 + 2)) Z.2.2.2.1) (zb (f_X10_work F σ ((Z.2.2.2.2 ((l3 + 1)).toNatClampNeg)) ((Z.2.2.2.2 ((l3 + 2)).toNatClampNeg))) fun r1554 m1554 => zg (inb ((l3 + 1)) Z.2.2.2.1) (zg (inb ((l3 + 2)) Z.2.2.2.1) (zb (f_X11_work F m1554 ((Z.2.2.2.2 ((l3 + 1)).toNatClampNeg)) ((Z.2.2.2.2 ((l3 + 2)).toNatClampNeg))) fun r1568 m1568 => if r1554 = r1568 then (rec18 m1568 ((l3 + 6))) else (some (0, m1568))))))) else (if ((Z.2.2.2.2 l3.toNatClampNeg) &&& 63) = 38 then (zb (f_X10_year F σ) fun r1577 m1577 => zb (f_X11_year F m1577) fun r1581 m1581 => if r1577 = r1581 then (rec18 m1581 ((l3 + 6))) else (some (0, m1581))) else (if ((Z.2.2.2.2 l3.toNatClampNeg) &&& 63) = 39 then (zg (inb ((l3 + 1)) Z.2.2.2.1) (zg (inb ((l3 + 2)) Z.2.2.2.1) (zg (inb ((l3 + 3)) Z.2.2.2.1) (zb (f_X10_plan F σ ((Z.2.2.2.2 ((l3 + 1)).toNatClampNeg)) ((Z.2.2.2.2 ((l3 + 2)).toNatClampNeg)) ((Z.2.2.2.2 ((l3 + 3)).toNatClampNeg))) fun r1605 m1605 => zg (inb ((l3 + 1)) Z.2.2.2.1) (zg (inb ((l3 + 2)) Z.2.2.2.1) (zg (inb ((l3 + 3)) Z.2.2.2.1) (zb (f_X11_plan F m1605 ((Z.2.2.2.2 ((l3 + 1)).toNatClampNeg)) ((Z.2.2.2.2 ((l3 + 2)).toNatClampNeg)) ((Z.2.2.2.2 ((l3 + 3)).toNatClampNeg))) fun r1624 m1624 => if r1605 = r1624 then (rec18 m1624 ((l3 + 6))) else (some (0, m1624))))))))) else (if ((Z.2.2.2.2 l3.toNatClampNeg) &&& 63) = 40 then (zg (inb ((l3 + 1)) Z.2.2.2.1) (zg (inb ((l3 + 2)) Z.2.2.2.1) (zg (inb ((l3 + 3)) Z.2.2.2.1) (zb (f_X10_act F σ ((Z.2.2.2.2 ((l3 + 1)).toNatClampNeg)) ((Z.2.2.2.2 ((l3 + 2)).toNatClampNeg)) ((Z.2.2.2.2 ((l3 + 3)).toNatClampNeg))) fun r1648 m1648 => zg (inb ((l3 + 1)) Z.2.2.2.1) (zg (inb ((l3 + 2)) Z.2.2.2.1) (zg (inb ((l3 + 3)) Z.2.2.2.1) (zb (f_X11_act F m1648 ((Z.2.2.2.2 ((l3 + 1)).toNatClampNeg)) ((Z.2.2.2.2 ((l3 + 2)).toNatClampNeg)) ((Z.2.2.2.2 ((l3 + 3)).toNatClampNeg))) fun r1667 m1667 => if r1648 = r1667 then (rec18 m1667 ((l3 + 6))) else (some (0, m1667))))))))) else (if ((Z.2.2.2.2 l3.toNatClampNeg) &&& 63) = 41 then (zg (inb ((l3 + 1)) Z.2.2.2.1) (zb (f_X10_trace F σ ((Z.2.2.2.2 ((l3 + 1)).toNatClampNeg))) fun r1681 m1681 => zg (inb ((l3 + 1)) Z.2.2.2.1) (zb (f_X11_trace F m1681 ((Z.2.2.2.2 ((l3 + 1)).toNatClampNeg))) fun r1690 m1690 => if r1681 = r1690 then (rec18 m1690 ((l3 + 6))) else (some (0, m1690))))) else (if ((Z.2.2.2.2 l3.toNatClampNeg) &&& 63) = 42 then (zg (inb ((l3 + 1)) Z.2.2.2.1) (zg (inb ((l3 + 2)) Z.2.2.2.1) (zb (f_X10_taken F σ ((Z.2.2.2.2 ((l3 + 1)).toNatClampNeg)) ((Z.2.2.2.2 ((l3 + 2)).toNatClampNeg))) fun r1709 m1709 => zg (inb ((l3 + 1)) Z.2.2.2.1) (zg (inb ((l3 + 2)) Z.2.2.2.1) (zb (f_X11_taken F m1709 ((Z.2.2.2.2 ((l3 + 1)).toNatClampNeg)) ((Z.2.2.2.2 ((l3 + 2)).toNatClampNeg))) fun r1723 m1723 => if r1709 = r1723 then (rec18 m1723 ((l3 + 6))) else (some (0, m1723))))))) else (if ((Z.2.2.2.2 l3.toNatClampNeg) &&& 63) = 43 then (zg (inb ((l3 + 1)) Z.2.2.2.1) (zb (f_X10_count F σ ((Z.2.2.2.2 ((l3 + 1)).toNatClampNeg))) fun r1737 m1737 => zg (inb ((l3 + 1)) Z.2.2.2.1) (zb (f_X11_count F m1737 ((Z.2.2.2.2 ((l3 + 1)).toNatClampNeg))) fun r1746 m1746 => if r1737 = r1746 then (rec18 m1746 ((l3 + 6))) else (some (0, m1746))))) else (if ((Z.2.2.2.2 l3.toNatClampNeg) &&& 63) = 44 then (zg (inb ((l3 + 1)) Z.2.2.2.1) (zg (inb ((l3 + 2)) Z.2.2.2.1) (zg (inb ((l3 + 3)) Z.2.2.2.1) (zb (f_X10_sheet F σ ((Z.2.2.2.2 ((l3 + 1)).toNatClampNeg)) ((Z.2.2.2.2 ((l3 + 2)).toNatClampNeg)) ((Z.2.2.2.2 ((l3 + 3)).toNatClampNeg))) fun r1770 m1770 => zg (inb ((l3 + 1)) Z.2.2.2.1) (zg (inb ((l3 + 2)) Z.2.2.2.1) (zg (inb ((l3 + 3)) Z.2.2.2.1) (zb (f_X11_sheet F m1770 ((Z.2.2.2.2 ((l3 + 1)).toNatClampNeg)) ((Z.2.2.2.2 ((l3 + 2)).toNatClampNeg)) ((Z.2.2.2.2 ((l3 + 3)).toNatClampNeg))) fun r1789 m1789 => if r1770 = r1789 then (rec18 m1789 ((l3 + 6))) else (some (0, m1789))))))))) else (if ((Z.2.2.2.2 l3.toNatClampNeg) &&& 63) = 45 then (zg (inb ((l3 + 1)) Z.2.2.2.1) (zg (inb ((l3 + 2)) Z.2.2.2.1) (zg (inb ((l3 + 3)) Z.2.2.2.1) (zb (f_X10_cell F σ ((Z.2.2.2.2 ((l3 + 1)).toNatClampNeg)) ((Z.2.2.2.2 ((l3 + 2)).toNatClampNeg)) ((Z.2.2.2.2 ((l3 + 3)).toNatClampNeg))) fun r1813 m1813 => zg (inb ((l3 + 1)) Z.2.2.2.1) (zg (inb ((l3 + 2)) Z.2.2.2.1) (zg (inb ((l3 + 3)) Z.2.2.2.1) (zb (f_X11_cell F m1813 ((Z.2.2.2.2 ((l3 + 1)).toNatClampNeg)) ((Z.2.2.2.2 ((l3 + 2)).toNatClampNeg)) ((Z.2.2.2.2 ((l3 + 3)).toNatClampNeg))) fun r1832 m1832 => if r1813 = r1832 then (rec18 m1832 ((l3 + 6))) else (some (0, m1832))))))))) else (if ((Z.2.2.2.2 l3.toNatClampNeg) &&& 63) = 46 then (zg (inb ((l3 + 1)) Z.2.2.2.1) (zg (inb ((l3 + 2)) Z.2.2.2.1) (zb (f_X10_lose F σ ((Z.2.2.2.2 ((l3 + 1)).toNatClampNeg)) ((Z.2.2.2.2 ((l3 + 2)).toNatClampNeg))) fun r1851 m1851 => zg (inb ((l3 + 1)) Z.2.2.2.1) (zg (inb ((l3 + 2)) Z.2.2.2.1) (zb (f_X11_lose F m1851 ((Z.2.2.2.2 ((l3 + 1)).toNatClampNeg)) ((Z.2.2.2.2 ((l3 + 2)).toNatClampNeg))) fun r1865 m1865 => if r1851 = r1865 then (rec18 m1865 ((l3 + 6))) else (some (0, m1865))))))) else (if ((Z.2.2.2.2 l3.toNatClampNeg) &&& 63) = 47 then (zg (inb ((l3 + 1)) Z.2.2.2.1) (zg (inb ((l3 + 2)) Z.2.2.2.1) (zg (inb ((l3 + 3)) Z.2.2.2.1) (zg (inb ((l3 + 4)) Z.2.2.2.1) (zg (inb ((l3 + 5)) Z.2.2.2.1) (zb (f_X10_copy F σ ((Z.2.2.2.2 ((l3 + 1)).toNatClampNeg)) ((Z.2.2.2.2 ((l3 + 2)).toNatClampNeg)) ((Z.2.2.2.2 ((l3 + 3)).toNatClampNeg)) ((Z.2.2.2.2 ((l3 + 4)).toNatClampNeg)) ((Z.2.2.2.2 ((l3 + 5)).toNatClampNeg))) fun r1899 m1899 => zg (inb ((l3 + 1)) Z.2.2.2.1) (zg (inb ((l3 + 2)) Z.2.2.2.1) (zg (inb ((l3 + 3)) Z.2.2.2.1) (zg (inb ((l3 + 4)) Z.2.2.2.1) (zg (inb ((l3 + 5)) Z.2.2.2.1) (zb (f_X11_copy F m1899 ((Z.2.2.2.2 ((l3 + 1)).toNatClampNeg)) ((Z.2.2.2.2 ((l3 + 2)).toNatClampNeg)) ((Z.2.2.2.2 ((l3 + 3)).toNatClampNeg)) ((Z.2.2.2.2 ((l3 + 4)).toNatClampNeg)) ((Z.2.2.2.2 ((l3 + 5)).toNatClampNeg))) fun r1928 m1928 => if r1899 = r1928 then (rec18 m1928 ((l3 + 6))) else (some (0, m1928))))))))))))) else none)))))))))))))))))))))))))))))))))))))))))))))))))))
  refine zr_iload_n C dL_law_18 rfl ?_
  refine zr_aload_n C dL_law_19 rfl ?_
  refine zr_slen0 C dL_law_20 ?_
  refine zr_bipush (v := 6) C dL_law_21 rfl ?_
  refine zr_isub C dL_law_23 ?_
  refine zr_icmp_gt (tgt := 1942) C dL_law_24 (by decide) ?_ ?_
  · refine zr_iconst (v := 1) C dL_law_1942 rfl ?_
    exact hret _ _ _ _ dL_law_1943
  · refine zr_aload_n C dL_law_27 rfl ?_
    refine zr_iload_n C dL_law_28 rfl ?_
    refine zr_sald0 C dL_law_29 ?_
    refine zr_bipush (v := 63) C dL_law_30 rfl ?_
    refine zr_iand C dL_law_32 ?_
    refine zr_if (fun hx => ?_) (fun _ => ?_)
    · refine zr_tabOut (tgt := 1936) C dL_law_33 hx (by decide) ?_
      refine zr_iinc (kk := 3) (v := (l3 + 6)) (L1 := [(3, .int _), (0, .ref _), (1, .ref _), (2, .ref _)]) C dL_law_1936 rfl rfl (by decide) rfl ?_
      refine zr_goto (tgt := 18) C dL_law_1939 (by decide) ?_
      exact zr_sub [1, 2, 3, 0] rfl (hrec18 σ ((l3 + 6)))
    · refine zr_if (fun hx => ?_) (fun _ => ?_)
      · refine zr_tabIn (tgt := 240) C dL_law_33 (by rw [hx]; decide) (by rw [hx]; decide) (off := 207) (by rw [hx]; decide) (by decide) ?_
        refine zr_aload_n C dL_law_240 rfl ?_
        refine zr_aload_n C dL_law_241 rfl ?_
        refine zr_iload_n C dL_law_242 rfl ?_
        refine zr_iconst (v := 1) C dL_law_243 rfl ?_
        refine zr_iadd C dL_law_244 ?_
        refine zr_sald0 C dL_law_245 ?_
        refine zr_aload_n C dL_law_246 rfl ?_
        refine zr_iload_n C dL_law_247 rfl ?_
        refine zr_iconst (v := 2) C dL_law_248 rfl ?_
        refine zr_iadd C dL_law_249 ?_
        refine zr_sald0 C dL_law_250 ?_
        refine zr_aload_n C dL_law_251 rfl ?_
        refine zr_iload_n C dL_law_252 rfl ?_
        refine zr_iconst (v := 3) C dL_law_253 rfl ?_
        refine zr_iadd C dL_law_254 ?_
        refine zr_sald0 C dL_law_255 ?_
        refine zr_aload_n C dL_law_256 rfl ?_
        refine zr_iload_n C dL_law_257 rfl ?_
        refine zr_iconst (v := 4) C dL_law_258 rfl ?_
        refine zr_iadd C dL_law_259 ?_
        refine zr_sald0 C dL_law_260 ?_
        refine zk_L_13 C F (Nat.le_of_ble_eq_true rfl) (Nat.le_trans (by decide) hh) (by simp [Value.category]) dL_law_261 (fun r261 m261 => ?_)
        refine zr_aload_n C dL_law_264 rfl ?_
        refine zr_aload_n C dL_law_265 rfl ?_
        refine zr_iload_n C dL_law_266 rfl ?_
        refine zr_iconst (v := 1) C dL_law_267 rfl ?_
        refine zr_iadd C dL_law_268 ?_
        refine zr_sald0 C dL_law_269 ?_
        refine zr_aload_n C dL_law_270 rfl ?_
        refine zr_iload_n C dL_law_271 rfl ?_
        refine zr_iconst (v := 2) C dL_law_272 rfl ?_
        refine zr_iadd C dL_law_273 ?_
        refine zr_sald0 C dL_law_274 ?_
        refine zr_aload_n C dL_law_275 rfl ?_
        refine zr_iload_n C dL_law_276 rfl ?_
        refine zr_iconst (v := 3) C dL_law_277 rfl ?_
        refine zr_iadd C dL_law_278 ?_
        refine zr_sald0 C dL_law_279 ?_
        refine zr_aload_n C dL_law_280 rfl ?_
        refine zr_iload_n C dL_law_281 rfl ?_
        refine zr_iconst (v := 4) C dL_law_282 rfl ?_
        refine zr_iadd C dL_law_283 ?_
        refine zr_sald0 C dL_law_284 ?_
        refine zk_L_17 C F (Nat.le_of_ble_eq_true rfl) (Nat.le_trans (by decide) hh) (by simp [Value.category]) dL_law_285 (fun r285 m285 => ?_)
        refine zr_icmp_eq (tgt := 1936) C dL_law_288 (by decide) ?_ ?_
        · refine zr_iinc (kk := 3) (v := (l3 + 6)) (L1 := [(3, .int _), (0, .ref _), (1, .ref _), (2, .ref _)]) C dL_law_1936 rfl rfl (by decide) rfl ?_
          refine zr_goto (tgt := 18) C dL_law_1939 (by decide) ?_
          exact zr_sub [1, 2, 3, 0] rfl (hrec18 m285 ((l3 + 6)))
        · refine zr_iconst (v := 0) C dL_law_291 rfl ?_
          exact hret _ _ _ _ dL_law_292
      · refine zr_if (fun hx => ?_) (fun _ => ?_)
        · refine zr_tabIn (tgt := 293) C dL_law_33 (by rw [hx]; decide) (by rw [hx]; decide) (off := 260) (by rw [hx]; decide) (by decide) ?_
          refine zr_aload_n C dL_law_293 rfl ?_
          refine zr_aload_n C dL_law_294 rfl ?_
          refine zr_iload_n C dL_law_295 rfl ?_
          refine zr_iconst (v := 1) C dL_law_296 rfl ?_
          refine zr_iadd C dL_law_297 ?_
          refine zr_sald0 C dL_law_298 ?_
          refine zr_aload_n C dL_law_299 rfl ?_
          refine zr_iload_n C dL_law_300 rfl ?_
          refine zr_iconst (v := 2) C dL_law_301 rfl ?_
          refine zr_iadd C dL_law_302 ?_
          refine zr_sald0 C dL_law_303 ?_
          refine zr_aload_n C dL_law_304 rfl ?_
          refine zr_iload_n C dL_law_305 rfl ?_
          refine zr_iconst (v := 3) C dL_law_306 rfl ?_
          refine zr_iadd C dL_law_307 ?_
          refine zr_sald0 C dL_law_308 ?_
          refine zk_L_18 C F (Nat.le_of_ble_eq_true rfl) (Nat.le_trans (by decide) hh) (by simp [Value.category]) dL_law_309 (fun r309 m309 => ?_)
          refine zr_aload_n C dL_law_312 rfl ?_
          refine zr_aload_n C dL_law_313 rfl ?_
          refine zr_iload_n C dL_law_314 rfl ?_
          refine zr_iconst (v := 1) C dL_law_315 rfl ?_
          refine zr_iadd C dL_law_316 ?_
          refine zr_sald0 C dL_law_317 ?_
          refine zr_aload_n C dL_law_318 rfl ?_
          refine zr_iload_n C dL_law_319 rfl ?_
          refine zr_iconst (v := 2) C dL_law_320 rfl ?_
          refine zr_iadd C dL_law_321 ?_
          refine zr_sald0 C dL_law_322 ?_
          refine zr_aload_n C dL_law_323 rfl ?_
          refine zr_iload_n C dL_law_324 rfl ?_
          refine zr_iconst (v := 3) C dL_law_325 rfl ?_
          refine zr_iadd C dL_law_326 ?_
          refine zr_sald0 C dL_law_327 ?_
          refine zk_L_22 C F (Nat.le_of_ble_eq_true rfl) (Nat.le_trans (by decide) hh) (by simp [Value.category]) dL_law_328 (fun r328 m328 => ?_)
          refine zr_icmp_eq (tgt := 1936) C dL_law_331 (by decide) ?_ ?_
          · refine zr_iinc (kk := 3) (v := (l3 + 6)) (L1 := [(3, .int _), (0, .ref _), (1, .ref _), (2, .ref _)]) C dL_law_1936 rfl rfl (by decide) rfl ?_
            refine zr_goto (tgt := 18) C dL_law_1939 (by decide) ?_
            exact zr_sub [1, 2, 3, 0] rfl (hrec18 m328 ((l3 + 6)))
          · refine zr_iconst (v := 0) C dL_law_334 rfl ?_
            exact hret _ _ _ _ dL_law_335
        · refine zr_if (fun hx => ?_) (fun _ => ?_)
          · refine zr_tabIn (tgt := 336) C dL_law_33 (by rw [hx]; decide) (by rw [hx]; decide) (off := 303) (by rw [hx]; decide) (by decide) ?_
            refine zr_aload_n C dL_law_336 rfl ?_
            refine zr_aload_n C dL_law_337 rfl ?_
            refine zr_iload_n C dL_law_338 rfl ?_
            refine zr_iconst (v := 1) C dL_law_339 rfl ?_
            refine zr_iadd C dL_law_340 ?_
            refine zr_sald0 C dL_law_341 ?_
            refine zr_aload_n C dL_law_342 rfl ?_
            refine zr_iload_n C dL_law_343 rfl ?_
            refine zr_iconst (v := 2) C dL_law_344 rfl ?_
            refine zr_iadd C dL_law_345 ?_
            refine zr_sald0 C dL_law_346 ?_
            refine zk_L_23 C F (Nat.le_of_ble_eq_true rfl) (Nat.le_trans (by decide) hh) (by simp [Value.category]) dL_law_347 (fun r347 m347 => ?_)
            refine zr_aload_n C dL_law_350 rfl ?_
            refine zr_aload_n C dL_law_351 rfl ?_
            refine zr_iload_n C dL_law_352 rfl ?_
            refine zr_iconst (v := 1) C dL_law_353 rfl ?_
            refine zr_iadd C dL_law_354 ?_
            refine zr_sald0 C dL_law_355 ?_
            refine zr_aload_n C dL_law_356 rfl ?_
            refine zr_iload_n C dL_law_357 rfl ?_
            refine zr_iconst (v := 2) C dL_law_358 rfl ?_
            refine zr_iadd C dL_law_359 ?_
            refine zr_sald0 C dL_law_360 ?_
            refine zk_L_27 C F (Nat.le_of_ble_eq_true rfl) (Nat.le_trans (by decide) hh) (by simp [Value.category]) dL_law_361 (fun r361 m361 => ?_)
            refine zr_icmp_eq (tgt := 1936) C dL_law_364 (by decide) ?_ ?_
            · refine zr_iinc (kk := 3) (v := (l3 + 6)) (L1 := [(3, .int _), (0, .ref _), (1, .ref _), (2, .ref _)]) C dL_law_1936 rfl rfl (by decide) rfl ?_
              refine zr_goto (tgt := 18) C dL_law_1939 (by decide) ?_
              exact zr_sub [1, 2, 3, 0] rfl (hrec18 m361 ((l3 + 6)))
            · refine zr_iconst (v := 0) C dL_law_367 rfl ?_
              exact hret _ _ _ _ dL_law_368
          · refine zr_if (fun hx => ?_) (fun _ => ?_)
            · refine zr_tabIn (tgt := 369) C dL_law_33 (by rw [hx]; decide) (by rw [hx]; decide) (off := 336) (by rw [hx]; decide) (by decide) ?_
              refine zr_aload_n C dL_law_369 rfl ?_
              refine zk_L_28 C F (Nat.le_of_ble_eq_true rfl) (Nat.le_trans (by decide) hh) (by simp [Value.category]) dL_law_370 (fun r370 m370 => ?_)
              refine zr_aload_n C dL_law_373 rfl ?_
              refine zk_L_32 C F (Nat.le_of_ble_eq_true rfl) (Nat.le_trans (by decide) hh) (by simp [Value.category]) dL_law_374 (fun r374 m374 => ?_)
              refine zr_icmp_eq (tgt := 1936) C dL_law_377 (by decide) ?_ ?_
              · refine zr_iinc (kk := 3) (v := (l3 + 6)) (L1 := [(3, .int _), (0, .ref _), (1, .ref _), (2, .ref _)]) C dL_law_1936 rfl rfl (by decide) rfl ?_
                refine zr_goto (tgt := 18) C dL_law_1939 (by decide) ?_
                exact zr_sub [1, 2, 3, 0] rfl (hrec18 m374 ((l3 + 6)))
              · refine zr_iconst (v := 0) C dL_law_380 rfl ?_
                exact hret _ _ _ _ dL_law_381
            · refine zr_if (fun hx => ?_) (fun _ => ?_)
              · refine zr_tabIn (tgt := 382) C dL_law_33 (by rw [hx]; decide) (by rw [hx]; decide) (off := 349) (by rw [hx]; decide) (by decide) ?_
                refine zr_aload_n C dL_law_382 rfl ?_
                refine zr_aload_n C dL_law_383 rfl ?_
                refine zr_iload_n C dL_law_384 rfl ?_
                refine zr_iconst (v := 1) C dL_law_385 rfl ?_
                refine zr_iadd C dL_law_386 ?_
                refine zr_sald0 C dL_law_387 ?_
                refine zr_aload_n C dL_law_388 rfl ?_
                refine zr_iload_n C dL_law_389 rfl ?_
                refine zr_iconst (v := 2) C dL_law_390 rfl ?_
                refine zr_iadd C dL_law_391 ?_
                refine zr_sald0 C dL_law_392 ?_
                refine zr_aload_n C dL_law_393 rfl ?_
                refine zr_iload_n C dL_law_394 rfl ?_
                refine zr_iconst (v := 3) C dL_law_395 rfl ?_
                refine zr_iadd C dL_law_396 ?_
                refine zr_sald0 C dL_law_397 ?_
                refine zk_L_33 C F (Nat.le_of_ble_eq_true rfl) (Nat.le_trans (by decide) hh) (by simp [Value.category]) dL_law_398 (fun r398 m398 => ?_)
                refine zr_aload_n C dL_law_401 rfl ?_
                refine zr_aload_n C dL_law_402 rfl ?_
                refine zr_iload_n C dL_law_403 rfl ?_
                refine zr_iconst (v := 1) C dL_law_404 rfl ?_
                refine zr_iadd C dL_law_405 ?_
                refine zr_sald0 C dL_law_406 ?_
                refine zr_aload_n C dL_law_407 rfl ?_
                refine zr_iload_n C dL_law_408 rfl ?_
                refine zr_iconst (v := 2) C dL_law_409 rfl ?_
                refine zr_iadd C dL_law_410 ?_
                refine zr_sald0 C dL_law_411 ?_
                refine zr_aload_n C dL_law_412 rfl ?_
                refine zr_iload_n C dL_law_413 rfl ?_
                refine zr_iconst (v := 3) C dL_law_414 rfl ?_
                refine zr_iadd C dL_law_415 ?_
                refine zr_sald0 C dL_law_416 ?_
                refine zk_L_36 C F (Nat.le_of_ble_eq_true rfl) (Nat.le_trans (by decide) hh) (by simp [Value.category]) dL_law_417 (fun r417 m417 => ?_)
                refine zr_icmp_eq (tgt := 1936) C dL_law_420 (by decide) ?_ ?_
                · refine zr_iinc (kk := 3) (v := (l3 + 6)) (L1 := [(3, .int _), (0, .ref _), (1, .ref _), (2, .ref _)]) C dL_law_1936 rfl rfl (by decide) rfl ?_
                  refine zr_goto (tgt := 18) C dL_law_1939 (by decide) ?_
                  exact zr_sub [1, 2, 3, 0] rfl (hrec18 m417 ((l3 + 6)))
                · refine zr_iconst (v := 0) C dL_law_423 rfl ?_
                  exact hret _ _ _ _ dL_law_424
              · refine zr_if (fun hx => ?_) (fun _ => ?_)
                · refine zr_tabIn (tgt := 425) C dL_law_33 (by rw [hx]; decide) (by rw [hx]; decide) (off := 392) (by rw [hx]; decide) (by decide) ?_
                  refine zr_aload_n C dL_law_425 rfl ?_
                  refine zr_aload_n C dL_law_426 rfl ?_
                  refine zr_iload_n C dL_law_427 rfl ?_
                  refine zr_iconst (v := 1) C dL_law_428 rfl ?_
                  refine zr_iadd C dL_law_429 ?_
                  refine zr_sald0 C dL_law_430 ?_
                  refine zr_aload_n C dL_law_431 rfl ?_
                  refine zr_iload_n C dL_law_432 rfl ?_
                  refine zr_iconst (v := 2) C dL_law_433 rfl ?_
                  refine zr_iadd C dL_law_434 ?_
                  refine zr_sald0 C dL_law_435 ?_
                  refine zk_L_37 C F (Nat.le_of_ble_eq_true rfl) (Nat.le_trans (by decide) hh) (by simp [Value.category]) dL_law_436 (fun r436 m436 => ?_)
                  refine zr_aload_n C dL_law_439 rfl ?_
                  refine zr_aload_n C dL_law_440 rfl ?_
                  refine zr_iload_n C dL_law_441 rfl ?_
                  refine zr_iconst (v := 1) C dL_law_442 rfl ?_
                  refine zr_iadd C dL_law_443 ?_
                  refine zr_sald0 C dL_law_444 ?_
                  refine zr_aload_n C dL_law_445 rfl ?_
                  refine zr_iload_n C dL_law_446 rfl ?_
                  refine zr_iconst (v := 2) C dL_law_447 rfl ?_
                  refine zr_iadd C dL_law_448 ?_
                  refine zr_sald0 C dL_law_449 ?_
                  refine zk_L_40 C F (Nat.le_of_ble_eq_true rfl) (Nat.le_trans (by decide) hh) (by simp [Value.category]) dL_law_450 (fun r450 m450 => ?_)
                  refine zr_icmp_eq (tgt := 1936) C dL_law_453 (by decide) ?_ ?_
                  · refine zr_iinc (kk := 3) (v := (l3 + 6)) (L1 := [(3, .int _), (0, .ref _), (1, .ref _), (2, .ref _)]) C dL_law_1936 rfl rfl (by decide) rfl ?_
                    refine zr_goto (tgt := 18) C dL_law_1939 (by decide) ?_
                    exact zr_sub [1, 2, 3, 0] rfl (hrec18 m450 ((l3 + 6)))
                  · refine zr_iconst (v := 0) C dL_law_456 rfl ?_
                    exact hret _ _ _ _ dL_law_457
                · refine zr_if (fun hx => ?_) (fun _ => ?_)
                  · refine zr_tabIn (tgt := 458) C dL_law_33 (by rw [hx]; decide) (by rw [hx]; decide) (off := 425) (by rw [hx]; decide) (by decide) ?_
                    refine zr_aload_n C dL_law_458 rfl ?_
                    refine zr_aload_n C dL_law_459 rfl ?_
                    refine zr_iload_n C dL_law_460 rfl ?_
                    refine zr_iconst (v := 1) C dL_law_461 rfl ?_
                    refine zr_iadd C dL_law_462 ?_
                    refine zr_sald0 C dL_law_463 ?_
                    refine zr_aload_n C dL_law_464 rfl ?_
                    refine zr_iload_n C dL_law_465 rfl ?_
                    refine zr_iconst (v := 2) C dL_law_466 rfl ?_
                    refine zr_iadd C dL_law_467 ?_
                    refine zr_sald0 C dL_law_468 ?_
                    refine zk_L_41 C F (Nat.le_of_ble_eq_true rfl) (Nat.le_trans (by decide) hh) (by simp [Value.category]) dL_law_469 (fun r469 m469 => ?_)
                    refine zr_aload_n C dL_law_472 rfl ?_
                    refine zr_aload_n C dL_law_473 rfl ?_
                    refine zr_iload_n C dL_law_474 rfl ?_
                    refine zr_iconst (v := 1) C dL_law_475 rfl ?_
                    refine zr_iadd C dL_law_476 ?_
                    refine zr_sald0 C dL_law_477 ?_
                    refine zr_aload_n C dL_law_478 rfl ?_
                    refine zr_iload_n C dL_law_479 rfl ?_
                    refine zr_iconst (v := 2) C dL_law_480 rfl ?_
                    refine zr_iadd C dL_law_481 ?_
                    refine zr_sald0 C dL_law_482 ?_
                    refine zk_L_44 C F (Nat.le_of_ble_eq_true rfl) (Nat.le_trans (by decide) hh) (by simp [Value.category]) dL_law_483 (fun r483 m483 => ?_)
                    refine zr_icmp_eq (tgt := 1936) C dL_law_486 (by decide) ?_ ?_
                    · refine zr_iinc (kk := 3) (v := (l3 + 6)) (L1 := [(3, .int _), (0, .ref _), (1, .ref _), (2, .ref _)]) C dL_law_1936 rfl rfl (by decide) rfl ?_
                      refine zr_goto (tgt := 18) C dL_law_1939 (by decide) ?_
                      exact zr_sub [1, 2, 3, 0] rfl (hrec18 m483 ((l3 + 6)))
                    · refine zr_iconst (v := 0) C dL_law_489 rfl ?_
                      exact hret _ _ _ _ dL_law_490
                  · refine zr_if (fun hx => ?_) (fun _ => ?_)
                    · refine zr_tabIn (tgt := 491) C dL_law_33 (by rw [hx]; decide) (by rw [hx]; decide) (off := 458) (by rw [hx]; decide) (by decide) ?_
                      refine zr_aload_n C dL_law_491 rfl ?_
                      refine zr_aload_n C dL_law_492 rfl ?_
                      refine zr_iload_n C dL_law_493 rfl ?_
                      refine zr_iconst (v := 1) C dL_law_494 rfl ?_
                      refine zr_iadd C dL_law_495 ?_
                      refine zr_sald0 C dL_law_496 ?_
                      refine zr_aload_n C dL_law_497 rfl ?_
                      refine zr_iload_n C dL_law_498 rfl ?_
                      refine zr_iconst (v := 2) C dL_law_499 rfl ?_
                      refine zr_iadd C dL_law_500 ?_
                      refine zr_sald0 C dL_law_501 ?_
                      refine zr_aload_n C dL_law_502 rfl ?_
                      refine zr_iload_n C dL_law_503 rfl ?_
                      refine zr_iconst (v := 3) C dL_law_504 rfl ?_
                      refine zr_iadd C dL_law_505 ?_
                      refine zr_sald0 C dL_law_506 ?_
                      refine zk_L_45 C F (Nat.le_of_ble_eq_true rfl) (Nat.le_trans (by decide) hh) (by simp [Value.category]) dL_law_507 (fun r507 m507 => ?_)
                      refine zr_aload_n C dL_law_510 rfl ?_
                      refine zr_aload_n C dL_law_511 rfl ?_
                      refine zr_iload_n C dL_law_512 rfl ?_
                      refine zr_iconst (v := 1) C dL_law_513 rfl ?_
                      refine zr_iadd C dL_law_514 ?_
                      refine zr_sald0 C dL_law_515 ?_
                      refine zr_aload_n C dL_law_516 rfl ?_
                      refine zr_iload_n C dL_law_517 rfl ?_
                      refine zr_iconst (v := 2) C dL_law_518 rfl ?_
                      refine zr_iadd C dL_law_519 ?_
                      refine zr_sald0 C dL_law_520 ?_
                      refine zr_aload_n C dL_law_521 rfl ?_
                      refine zr_iload_n C dL_law_522 rfl ?_
                      refine zr_iconst (v := 3) C dL_law_523 rfl ?_
                      refine zr_iadd C dL_law_524 ?_
                      refine zr_sald0 C dL_law_525 ?_
                      refine zk_L_48 C F (Nat.le_of_ble_eq_true rfl) (Nat.le_trans (by decide) hh) (by simp [Value.category]) dL_law_526 (fun r526 m526 => ?_)
                      refine zr_icmp_eq (tgt := 1936) C dL_law_529 (by decide) ?_ ?_
                      · refine zr_iinc (kk := 3) (v := (l3 + 6)) (L1 := [(3, .int _), (0, .ref _), (1, .ref _), (2, .ref _)]) C dL_law_1936 rfl rfl (by decide) rfl ?_
                        refine zr_goto (tgt := 18) C dL_law_1939 (by decide) ?_
                        exact zr_sub [1, 2, 3, 0] rfl (hrec18 m526 ((l3 + 6)))
                      · refine zr_iconst (v := 0) C dL_law_532 rfl ?_
                        exact hret _ _ _ _ dL_law_533
                    · refine zr_if (fun hx => ?_) (fun _ => ?_)
                      · refine zr_tabIn (tgt := 534) C dL_law_33 (by rw [hx]; decide) (by rw [hx]; decide) (off := 501) (by rw [hx]; decide) (by decide) ?_
                        refine zr_aload_n C dL_law_534 rfl ?_
                        refine zr_aload_n C dL_law_535 rfl ?_
                        refine zr_iload_n C dL_law_536 rfl ?_
                        refine zr_iconst (v := 1) C dL_law_537 rfl ?_
                        refine zr_iadd C dL_law_538 ?_
                        refine zr_sald0 C dL_law_539 ?_
                        refine zr_aload_n C dL_law_540 rfl ?_
                        refine zr_iload_n C dL_law_541 rfl ?_
                        refine zr_iconst (v := 2) C dL_law_542 rfl ?_
                        refine zr_iadd C dL_law_543 ?_
                        refine zr_sald0 C dL_law_544 ?_
                        refine zk_L_49 C F (Nat.le_of_ble_eq_true rfl) (Nat.le_trans (by decide) hh) (by simp [Value.category]) dL_law_545 (fun r545 m545 => ?_)
                        refine zr_aload_n C dL_law_548 rfl ?_
                        refine zr_aload_n C dL_law_549 rfl ?_
                        refine zr_iload_n C dL_law_550 rfl ?_
                        refine zr_iconst (v := 1) C dL_law_551 rfl ?_
                        refine zr_iadd C dL_law_552 ?_
                        refine zr_sald0 C dL_law_553 ?_
                        refine zr_aload_n C dL_law_554 rfl ?_
                        refine zr_iload_n C dL_law_555 rfl ?_
                        refine zr_iconst (v := 2) C dL_law_556 rfl ?_
                        refine zr_iadd C dL_law_557 ?_
                        refine zr_sald0 C dL_law_558 ?_
                        refine zk_L_52 C F (Nat.le_of_ble_eq_true rfl) (Nat.le_trans (by decide) hh) (by simp [Value.category]) dL_law_559 (fun r559 m559 => ?_)
                        refine zr_icmp_eq (tgt := 1936) C dL_law_562 (by decide) ?_ ?_
                        · refine zr_iinc (kk := 3) (v := (l3 + 6)) (L1 := [(3, .int _), (0, .ref _), (1, .ref _), (2, .ref _)]) C dL_law_1936 rfl rfl (by decide) rfl ?_
                          refine zr_goto (tgt := 18) C dL_law_1939 (by decide) ?_
                          exact zr_sub [1, 2, 3, 0] rfl (hrec18 m559 ((l3 + 6)))
                        · refine zr_iconst (v := 0) C dL_law_565 rfl ?_
                          exact hret _ _ _ _ dL_law_566
                      · refine zr_if (fun hx => ?_) (fun _ => ?_)
                        · refine zr_tabIn (tgt := 567) C dL_law_33 (by rw [hx]; decide) (by rw [hx]; decide) (off := 534) (by rw [hx]; decide) (by decide) ?_
                          refine zr_aload_n C dL_law_567 rfl ?_
                          refine zr_aload_n C dL_law_568 rfl ?_
                          refine zr_iload_n C dL_law_569 rfl ?_
                          refine zr_iconst (v := 1) C dL_law_570 rfl ?_
                          refine zr_iadd C dL_law_571 ?_
                          refine zr_sald0 C dL_law_572 ?_
                          refine zr_aload_n C dL_law_573 rfl ?_
                          refine zr_iload_n C dL_law_574 rfl ?_
                          refine zr_iconst (v := 2) C dL_law_575 rfl ?_
                          refine zr_iadd C dL_law_576 ?_
                          refine zr_sald0 C dL_law_577 ?_
                          refine zk_L_53 C F (Nat.le_of_ble_eq_true rfl) (Nat.le_trans (by decide) hh) (by simp [Value.category]) dL_law_578 (fun r578 m578 => ?_)
                          refine zr_aload_n C dL_law_581 rfl ?_
                          refine zr_aload_n C dL_law_582 rfl ?_
                          refine zr_iload_n C dL_law_583 rfl ?_
                          refine zr_iconst (v := 1) C dL_law_584 rfl ?_
                          refine zr_iadd C dL_law_585 ?_
                          refine zr_sald0 C dL_law_586 ?_
                          refine zr_aload_n C dL_law_587 rfl ?_
                          refine zr_iload_n C dL_law_588 rfl ?_
                          refine zr_iconst (v := 2) C dL_law_589 rfl ?_
                          refine zr_iadd C dL_law_590 ?_
                          refine zr_sald0 C dL_law_591 ?_
                          refine zk_L_56 C F (Nat.le_of_ble_eq_true rfl) (Nat.le_trans (by decide) hh) (by simp [Value.category]) dL_law_592 (fun r592 m592 => ?_)
                          refine zr_icmp_eq (tgt := 1936) C dL_law_595 (by decide) ?_ ?_
                          · refine zr_iinc (kk := 3) (v := (l3 + 6)) (L1 := [(3, .int _), (0, .ref _), (1, .ref _), (2, .ref _)]) C dL_law_1936 rfl rfl (by decide) rfl ?_
                            refine zr_goto (tgt := 18) C dL_law_1939 (by decide) ?_
                            exact zr_sub [1, 2, 3, 0] rfl (hrec18 m592 ((l3 + 6)))
                          · refine zr_iconst (v := 0) C dL_law_598 rfl ?_
                            exact hret _ _ _ _ dL_law_599
                        · refine zr_if (fun hx => ?_) (fun _ => ?_)
                          · refine zr_tabIn (tgt := 600) C dL_law_33 (by rw [hx]; decide) (by rw [hx]; decide) (off := 567) (by rw [hx]; decide) (by decide) ?_
                            refine zr_aload_n C dL_law_600 rfl ?_
                            refine zr_aload_n C dL_law_601 rfl ?_
                            refine zr_iload_n C dL_law_602 rfl ?_
                            refine zr_iconst (v := 1) C dL_law_603 rfl ?_
                            refine zr_iadd C dL_law_604 ?_
                            refine zr_sald0 C dL_law_605 ?_
                            refine zr_aload_n C dL_law_606 rfl ?_
                            refine zr_iload_n C dL_law_607 rfl ?_
                            refine zr_iconst (v := 2) C dL_law_608 rfl ?_
                            refine zr_iadd C dL_law_609 ?_
                            refine zr_sald0 C dL_law_610 ?_
                            refine zk_L_57 C F (Nat.le_of_ble_eq_true rfl) (Nat.le_trans (by decide) hh) (by simp [Value.category]) dL_law_611 (fun r611 m611 => ?_)
                            refine zr_aload_n C dL_law_614 rfl ?_
                            refine zr_aload_n C dL_law_615 rfl ?_
                            refine zr_iload_n C dL_law_616 rfl ?_
                            refine zr_iconst (v := 1) C dL_law_617 rfl ?_
                            refine zr_iadd C dL_law_618 ?_
                            refine zr_sald0 C dL_law_619 ?_
                            refine zr_aload_n C dL_law_620 rfl ?_
                            refine zr_iload_n C dL_law_621 rfl ?_
                            refine zr_iconst (v := 2) C dL_law_622 rfl ?_
                            refine zr_iadd C dL_law_623 ?_
                            refine zr_sald0 C dL_law_624 ?_
                            refine zk_L_60 C F (Nat.le_of_ble_eq_true rfl) (Nat.le_trans (by decide) hh) (by simp [Value.category]) dL_law_625 (fun r625 m625 => ?_)
                            refine zr_icmp_eq (tgt := 1936) C dL_law_628 (by decide) ?_ ?_
                            · refine zr_iinc (kk := 3) (v := (l3 + 6)) (L1 := [(3, .int _), (0, .ref _), (1, .ref _), (2, .ref _)]) C dL_law_1936 rfl rfl (by decide) rfl ?_
                              refine zr_goto (tgt := 18) C dL_law_1939 (by decide) ?_
                              exact zr_sub [1, 2, 3, 0] rfl (hrec18 m625 ((l3 + 6)))
                            · refine zr_iconst (v := 0) C dL_law_631 rfl ?_
                              exact hret _ _ _ _ dL_law_632
                          · refine zr_if (fun hx => ?_) (fun _ => ?_)
                            · refine zr_tabIn (tgt := 633) C dL_law_33 (by rw [hx]; decide) (by rw [hx]; decide) (off := 600) (by rw [hx]; decide) (by decide) ?_
                              refine zr_aload_n C dL_law_633 rfl ?_
                              refine zr_aload_n C dL_law_634 rfl ?_
                              refine zr_iload_n C dL_law_635 rfl ?_
                              refine zr_iconst (v := 1) C dL_law_636 rfl ?_
                              refine zr_iadd C dL_law_637 ?_
                              refine zr_sald0 C dL_law_638 ?_
                              refine zr_aload_n C dL_law_639 rfl ?_
                              refine zr_iload_n C dL_law_640 rfl ?_
                              refine zr_iconst (v := 2) C dL_law_641 rfl ?_
                              refine zr_iadd C dL_law_642 ?_
                              refine zr_sald0 C dL_law_643 ?_
                              refine zk_L_61 C F (Nat.le_of_ble_eq_true rfl) (Nat.le_trans (by decide) hh) (by simp [Value.category]) dL_law_644 (fun r644 m644 => ?_)
                              refine zr_aload_n C dL_law_647 rfl ?_
                              refine zr_aload_n C dL_law_648 rfl ?_
                              refine zr_iload_n C dL_law_649 rfl ?_
                              refine zr_iconst (v := 1) C dL_law_650 rfl ?_
                              refine zr_iadd C dL_law_651 ?_
                              refine zr_sald0 C dL_law_652 ?_
                              refine zr_aload_n C dL_law_653 rfl ?_
                              refine zr_iload_n C dL_law_654 rfl ?_
                              refine zr_iconst (v := 2) C dL_law_655 rfl ?_
                              refine zr_iadd C dL_law_656 ?_
                              refine zr_sald0 C dL_law_657 ?_
                              refine zk_L_64 C F (Nat.le_of_ble_eq_true rfl) (Nat.le_trans (by decide) hh) (by simp [Value.category]) dL_law_658 (fun r658 m658 => ?_)
                              refine zr_icmp_eq (tgt := 1936) C dL_law_661 (by decide) ?_ ?_
                              · refine zr_iinc (kk := 3) (v := (l3 + 6)) (L1 := [(3, .int _), (0, .ref _), (1, .ref _), (2, .ref _)]) C dL_law_1936 rfl rfl (by decide) rfl ?_
                                refine zr_goto (tgt := 18) C dL_law_1939 (by decide) ?_
                                exact zr_sub [1, 2, 3, 0] rfl (hrec18 m658 ((l3 + 6)))
                              · refine zr_iconst (v := 0) C dL_law_664 rfl ?_
                                exact hret _ _ _ _ dL_law_665
                            · refine zr_if (fun hx => ?_) (fun _ => ?_)
                              · refine zr_tabIn (tgt := 666) C dL_law_33 (by rw [hx]; decide) (by rw [hx]; decide) (off := 633) (by rw [hx]; decide) (by decide) ?_
                                refine zr_aload_n C dL_law_666 rfl ?_
                                refine zr_aload_n C dL_law_667 rfl ?_
                                refine zr_iload_n C dL_law_668 rfl ?_
                                refine zr_iconst (v := 1) C dL_law_669 rfl ?_
                                refine zr_iadd C dL_law_670 ?_
                                refine zr_sald0 C dL_law_671 ?_
                                refine zr_aload_n C dL_law_672 rfl ?_
                                refine zr_iload_n C dL_law_673 rfl ?_
                                refine zr_iconst (v := 2) C dL_law_674 rfl ?_
                                refine zr_iadd C dL_law_675 ?_
                                refine zr_sald0 C dL_law_676 ?_
                                refine zk_L_65 C F (Nat.le_of_ble_eq_true rfl) (Nat.le_trans (by decide) hh) (by simp [Value.category]) dL_law_677 (fun r677 m677 => ?_)
                                refine zr_aload_n C dL_law_680 rfl ?_
                                refine zr_aload_n C dL_law_681 rfl ?_
                                refine zr_iload_n C dL_law_682 rfl ?_
                                refine zr_iconst (v := 1) C dL_law_683 rfl ?_
                                refine zr_iadd C dL_law_684 ?_
                                refine zr_sald0 C dL_law_685 ?_
                                refine zr_aload_n C dL_law_686 rfl ?_
                                refine zr_iload_n C dL_law_687 rfl ?_
                                refine zr_iconst (v := 2) C dL_law_688 rfl ?_
                                refine zr_iadd C dL_law_689 ?_
                                refine zr_sald0 C dL_law_690 ?_
                                refine zk_L_68 C F (Nat.le_of_ble_eq_true rfl) (Nat.le_trans (by decide) hh) (by simp [Value.category]) dL_law_691 (fun r691 m691 => ?_)
                                refine zr_icmp_eq (tgt := 1936) C dL_law_694 (by decide) ?_ ?_
                                · refine zr_iinc (kk := 3) (v := (l3 + 6)) (L1 := [(3, .int _), (0, .ref _), (1, .ref _), (2, .ref _)]) C dL_law_1936 rfl rfl (by decide) rfl ?_
                                  refine zr_goto (tgt := 18) C dL_law_1939 (by decide) ?_
                                  exact zr_sub [1, 2, 3, 0] rfl (hrec18 m691 ((l3 + 6)))
                                · refine zr_iconst (v := 0) C dL_law_697 rfl ?_
                                  exact hret _ _ _ _ dL_law_698
                              · refine zr_if (fun hx => ?_) (fun _ => ?_)
                                · refine zr_tabIn (tgt := 699) C dL_law_33 (by rw [hx]; decide) (by rw [hx]; decide) (off := 666) (by rw [hx]; decide) (by decide) ?_
                                  refine zr_aload_n C dL_law_699 rfl ?_
                                  refine zr_aload_n C dL_law_700 rfl ?_
                                  refine zr_iload_n C dL_law_701 rfl ?_
                                  refine zr_iconst (v := 1) C dL_law_702 rfl ?_
                                  refine zr_iadd C dL_law_703 ?_
                                  refine zr_sald0 C dL_law_704 ?_
                                  refine zk_L_69 C F (Nat.le_of_ble_eq_true rfl) (Nat.le_trans (by decide) hh) (by simp [Value.category]) dL_law_705 (fun r705 m705 => ?_)
                                  refine zr_aload_n C dL_law_708 rfl ?_
                                  refine zr_aload_n C dL_law_709 rfl ?_
                                  refine zr_iload_n C dL_law_710 rfl ?_
                                  refine zr_iconst (v := 1) C dL_law_711 rfl ?_
                                  refine zr_iadd C dL_law_712 ?_
                                  refine zr_sald0 C dL_law_713 ?_
                                  refine zk_L_73 C F (Nat.le_of_ble_eq_true rfl) (Nat.le_trans (by decide) hh) (by simp [Value.category]) dL_law_714 (fun r714 m714 => ?_)
                                  refine zr_icmp_eq (tgt := 1936) C dL_law_717 (by decide) ?_ ?_
                                  · refine zr_iinc (kk := 3) (v := (l3 + 6)) (L1 := [(3, .int _), (0, .ref _), (1, .ref _), (2, .ref _)]) C dL_law_1936 rfl rfl (by decide) rfl ?_
                                    refine zr_goto (tgt := 18) C dL_law_1939 (by decide) ?_
                                    exact zr_sub [1, 2, 3, 0] rfl (hrec18 m714 ((l3 + 6)))
                                  · refine zr_iconst (v := 0) C dL_law_720 rfl ?_
                                    exact hret _ _ _ _ dL_law_721
                                · refine zr_if (fun hx => ?_) (fun _ => ?_)
                                  · refine zr_tabIn (tgt := 722) C dL_law_33 (by rw [hx]; decide) (by rw [hx]; decide) (off := 689) (by rw [hx]; decide) (by decide) ?_
                                    refine zr_aload_n C dL_law_722 rfl ?_
                                    refine zr_aload_n C dL_law_723 rfl ?_
                                    refine zr_iload_n C dL_law_724 rfl ?_
                                    refine zr_iconst (v := 1) C dL_law_725 rfl ?_
                                    refine zr_iadd C dL_law_726 ?_
                                    refine zr_sald0 C dL_law_727 ?_
                                    refine zr_aload_n C dL_law_728 rfl ?_
                                    refine zr_iload_n C dL_law_729 rfl ?_
                                    refine zr_iconst (v := 2) C dL_law_730 rfl ?_
                                    refine zr_iadd C dL_law_731 ?_
                                    refine zr_sald0 C dL_law_732 ?_
                                    refine zr_aload_n C dL_law_733 rfl ?_
                                    refine zr_iload_n C dL_law_734 rfl ?_
                                    refine zr_iconst (v := 3) C dL_law_735 rfl ?_
                                    refine zr_iadd C dL_law_736 ?_
                                    refine zr_sald0 C dL_law_737 ?_
                                    refine zr_aload_n C dL_law_738 rfl ?_
                                    refine zr_iload_n C dL_law_739 rfl ?_
                                    refine zr_iconst (v := 4) C dL_law_740 rfl ?_
                                    refine zr_iadd C dL_law_741 ?_
                                    refine zr_sald0 C dL_law_742 ?_
                                    refine zk_L_74 C F (Nat.le_of_ble_eq_true rfl) (Nat.le_trans (by decide) hh) (by simp [Value.category]) dL_law_743 (fun r743 m743 => ?_)
                                    refine zr_aload_n C dL_law_746 rfl ?_
                                    refine zr_aload_n C dL_law_747 rfl ?_
                                    refine zr_iload_n C dL_law_748 rfl ?_
                                    refine zr_iconst (v := 1) C dL_law_749 rfl ?_
                                    refine zr_iadd C dL_law_750 ?_
                                    refine zr_sald0 C dL_law_751 ?_
                                    refine zr_aload_n C dL_law_752 rfl ?_
                                    refine zr_iload_n C dL_law_753 rfl ?_
                                    refine zr_iconst (v := 2) C dL_law_754 rfl ?_
                                    refine zr_iadd C dL_law_755 ?_
                                    refine zr_sald0 C dL_law_756 ?_
                                    refine zr_aload_n C dL_law_757 rfl ?_
                                    refine zr_iload_n C dL_law_758 rfl ?_
                                    refine zr_iconst (v := 3) C dL_law_759 rfl ?_
                                    refine zr_iadd C dL_law_760 ?_
                                    refine zr_sald0 C dL_law_761 ?_
                                    refine zr_aload_n C dL_law_762 rfl ?_
                                    refine zr_iload_n C dL_law_763 rfl ?_
                                    refine zr_iconst (v := 4) C dL_law_764 rfl ?_
                                    refine zr_iadd C dL_law_765 ?_
                                    refine zr_sald0 C dL_law_766 ?_
                                    refine zk_L_77 C F (Nat.le_of_ble_eq_true rfl) (Nat.le_trans (by decide) hh) (by simp [Value.category]) dL_law_767 (fun r767 m767 => ?_)
                                    refine zr_icmp_eq (tgt := 1936) C dL_law_770 (by decide) ?_ ?_
                                    · refine zr_iinc (kk := 3) (v := (l3 + 6)) (L1 := [(3, .int _), (0, .ref _), (1, .ref _), (2, .ref _)]) C dL_law_1936 rfl rfl (by decide) rfl ?_
                                      refine zr_goto (tgt := 18) C dL_law_1939 (by decide) ?_
                                      exact zr_sub [1, 2, 3, 0] rfl (hrec18 m767 ((l3 + 6)))
                                    · refine zr_iconst (v := 0) C dL_law_773 rfl ?_
                                      exact hret _ _ _ _ dL_law_774
                                  · refine zr_if (fun hx => ?_) (fun _ => ?_)
                                    · refine zr_tabIn (tgt := 775) C dL_law_33 (by rw [hx]; decide) (by rw [hx]; decide) (off := 742) (by rw [hx]; decide) (by decide) ?_
                                      refine zr_aload_n C dL_law_775 rfl ?_
                                      refine zr_aload_n C dL_law_776 rfl ?_
                                      refine zr_iload_n C dL_law_777 rfl ?_
                                      refine zr_iconst (v := 1) C dL_law_778 rfl ?_
                                      refine zr_iadd C dL_law_779 ?_
                                      refine zr_sald0 C dL_law_780 ?_
                                      refine zr_aload_n C dL_law_781 rfl ?_
                                      refine zr_iload_n C dL_law_782 rfl ?_
                                      refine zr_iconst (v := 2) C dL_law_783 rfl ?_
                                      refine zr_iadd C dL_law_784 ?_
                                      refine zr_sald0 C dL_law_785 ?_
                                      refine zr_aload_n C dL_law_786 rfl ?_
                                      refine zr_iload_n C dL_law_787 rfl ?_
                                      refine zr_iconst (v := 3) C dL_law_788 rfl ?_
                                      refine zr_iadd C dL_law_789 ?_
                                      refine zr_sald0 C dL_law_790 ?_
                                      refine zr_aload_n C dL_law_791 rfl ?_
                                      refine zr_iload_n C dL_law_792 rfl ?_
                                      refine zr_iconst (v := 4) C dL_law_793 rfl ?_
                                      refine zr_iadd C dL_law_794 ?_
                                      refine zr_sald0 C dL_law_795 ?_
                                      refine zk_L_78 C F (Nat.le_of_ble_eq_true rfl) (Nat.le_trans (by decide) hh) (by simp [Value.category]) dL_law_796 (fun r796 m796 => ?_)
                                      refine zr_aload_n C dL_law_799 rfl ?_
                                      refine zr_aload_n C dL_law_800 rfl ?_
                                      refine zr_iload_n C dL_law_801 rfl ?_
                                      refine zr_iconst (v := 1) C dL_law_802 rfl ?_
                                      refine zr_iadd C dL_law_803 ?_
                                      refine zr_sald0 C dL_law_804 ?_
                                      refine zr_aload_n C dL_law_805 rfl ?_
                                      refine zr_iload_n C dL_law_806 rfl ?_
                                      refine zr_iconst (v := 2) C dL_law_807 rfl ?_
                                      refine zr_iadd C dL_law_808 ?_
                                      refine zr_sald0 C dL_law_809 ?_
                                      refine zr_aload_n C dL_law_810 rfl ?_
                                      refine zr_iload_n C dL_law_811 rfl ?_
                                      refine zr_iconst (v := 3) C dL_law_812 rfl ?_
                                      refine zr_iadd C dL_law_813 ?_
                                      refine zr_sald0 C dL_law_814 ?_
                                      refine zr_aload_n C dL_law_815 rfl ?_
                                      refine zr_iload_n C dL_law_816 rfl ?_
                                      refine zr_iconst (v := 4) C dL_law_817 rfl ?_
                                      refine zr_iadd C dL_law_818 ?_
                                      refine zr_sald0 C dL_law_819 ?_
                                      refine zk_L_81 C F (Nat.le_of_ble_eq_true rfl) (Nat.le_trans (by decide) hh) (by simp [Value.category]) dL_law_820 (fun r820 m820 => ?_)
                                      refine zr_icmp_eq (tgt := 1936) C dL_law_823 (by decide) ?_ ?_
                                      · refine zr_iinc (kk := 3) (v := (l3 + 6)) (L1 := [(3, .int _), (0, .ref _), (1, .ref _), (2, .ref _)]) C dL_law_1936 rfl rfl (by decide) rfl ?_
                                        refine zr_goto (tgt := 18) C dL_law_1939 (by decide) ?_
                                        exact zr_sub [1, 2, 3, 0] rfl (hrec18 m820 ((l3 + 6)))
                                      · refine zr_iconst (v := 0) C dL_law_826 rfl ?_
                                        exact hret _ _ _ _ dL_law_827
                                    · refine zr_if (fun hx => ?_) (fun _ => ?_)
                                      · refine zr_tabIn (tgt := 828) C dL_law_33 (by rw [hx]; decide) (by rw [hx]; decide) (off := 795) (by rw [hx]; decide) (by decide) ?_
                                        refine zr_aload_n C dL_law_828 rfl ?_
                                        refine zr_aload_n C dL_law_829 rfl ?_
                                        refine zr_iload_n C dL_law_830 rfl ?_
                                        refine zr_iconst (v := 1) C dL_law_831 rfl ?_
                                        refine zr_iadd C dL_law_832 ?_
                                        refine zr_sald0 C dL_law_833 ?_
                                        refine zr_aload_n C dL_law_834 rfl ?_
                                        refine zr_iload_n C dL_law_835 rfl ?_
                                        refine zr_iconst (v := 2) C dL_law_836 rfl ?_
                                        refine zr_iadd C dL_law_837 ?_
                                        refine zr_sald0 C dL_law_838 ?_
                                        refine zr_aload_n C dL_law_839 rfl ?_
                                        refine zr_iload_n C dL_law_840 rfl ?_
                                        refine zr_iconst (v := 3) C dL_law_841 rfl ?_
                                        refine zr_iadd C dL_law_842 ?_
                                        refine zr_sald0 C dL_law_843 ?_
                                        refine zk_L_82 C F (Nat.le_of_ble_eq_true rfl) (Nat.le_trans (by decide) hh) (by simp [Value.category]) dL_law_844 (fun r844 m844 => ?_)
                                        refine zr_aload_n C dL_law_847 rfl ?_
                                        refine zr_aload_n C dL_law_848 rfl ?_
                                        refine zr_iload_n C dL_law_849 rfl ?_
                                        refine zr_iconst (v := 1) C dL_law_850 rfl ?_
                                        refine zr_iadd C dL_law_851 ?_
                                        refine zr_sald0 C dL_law_852 ?_
                                        refine zr_aload_n C dL_law_853 rfl ?_
                                        refine zr_iload_n C dL_law_854 rfl ?_
                                        refine zr_iconst (v := 2) C dL_law_855 rfl ?_
                                        refine zr_iadd C dL_law_856 ?_
                                        refine zr_sald0 C dL_law_857 ?_
                                        refine zr_aload_n C dL_law_858 rfl ?_
                                        refine zr_iload_n C dL_law_859 rfl ?_
                                        refine zr_iconst (v := 3) C dL_law_860 rfl ?_
                                        refine zr_iadd C dL_law_861 ?_
                                        refine zr_sald0 C dL_law_862 ?_
                                        refine zk_L_85 C F (Nat.le_of_ble_eq_true rfl) (Nat.le_trans (by decide) hh) (by simp [Value.category]) dL_law_863 (fun r863 m863 => ?_)
                                        refine zr_icmp_eq (tgt := 1936) C dL_law_866 (by decide) ?_ ?_
                                        · refine zr_iinc (kk := 3) (v := (l3 + 6)) (L1 := [(3, .int _), (0, .ref _), (1, .ref _), (2, .ref _)]) C dL_law_1936 rfl rfl (by decide) rfl ?_
                                          refine zr_goto (tgt := 18) C dL_law_1939 (by decide) ?_
                                          exact zr_sub [1, 2, 3, 0] rfl (hrec18 m863 ((l3 + 6)))
                                        · refine zr_iconst (v := 0) C dL_law_869 rfl ?_
                                          exact hret _ _ _ _ dL_law_870
                                      · refine zr_if (fun hx => ?_) (fun _ => ?_)
                                        · refine zr_tabIn (tgt := 871) C dL_law_33 (by rw [hx]; decide) (by rw [hx]; decide) (off := 838) (by rw [hx]; decide) (by decide) ?_
                                          refine zr_aload_n C dL_law_871 rfl ?_
                                          refine zr_aload_n C dL_law_872 rfl ?_
                                          refine zr_iload_n C dL_law_873 rfl ?_
                                          refine zr_iconst (v := 1) C dL_law_874 rfl ?_
                                          refine zr_iadd C dL_law_875 ?_
                                          refine zr_sald0 C dL_law_876 ?_
                                          refine zr_aload_n C dL_law_877 rfl ?_
                                          refine zr_iload_n C dL_law_878 rfl ?_
                                          refine zr_iconst (v := 2) C dL_law_879 rfl ?_
                                          refine zr_iadd C dL_law_880 ?_
                                          refine zr_sald0 C dL_law_881 ?_
                                          refine zr_aload_n C dL_law_882 rfl ?_
                                          refine zr_iload_n C dL_law_883 rfl ?_
                                          refine zr_iconst (v := 3) C dL_law_884 rfl ?_
                                          refine zr_iadd C dL_law_885 ?_
                                          refine zr_sald0 C dL_law_886 ?_
                                          refine zr_aload_n C dL_law_887 rfl ?_
                                          refine zr_iload_n C dL_law_888 rfl ?_
                                          refine zr_iconst (v := 4) C dL_law_889 rfl ?_
                                          refine zr_iadd C dL_law_890 ?_
                                          refine zr_sald0 C dL_law_891 ?_
                                          refine zr_aload_n C dL_law_892 rfl ?_
                                          refine zr_iload_n C dL_law_893 rfl ?_
                                          refine zr_iconst (v := 5) C dL_law_894 rfl ?_
                                          refine zr_iadd C dL_law_895 ?_
                                          refine zr_sald0 C dL_law_896 ?_
                                          refine zk_L_86 C F (Nat.le_of_ble_eq_true rfl) (Nat.le_trans (by decide) hh) (by simp [Value.category]) dL_law_897 (fun r897 m897 => ?_)
                                          refine zr_aload_n C dL_law_900 rfl ?_
                                          refine zr_aload_n C dL_law_901 rfl ?_
                                          refine zr_iload_n C dL_law_902 rfl ?_
                                          refine zr_iconst (v := 1) C dL_law_903 rfl ?_
                                          refine zr_iadd C dL_law_904 ?_
                                          refine zr_sald0 C dL_law_905 ?_
                                          refine zr_aload_n C dL_law_906 rfl ?_
                                          refine zr_iload_n C dL_law_907 rfl ?_
                                          refine zr_iconst (v := 2) C dL_law_908 rfl ?_
                                          refine zr_iadd C dL_law_909 ?_
                                          refine zr_sald0 C dL_law_910 ?_
                                          refine zr_aload_n C dL_law_911 rfl ?_
                                          refine zr_iload_n C dL_law_912 rfl ?_
                                          refine zr_iconst (v := 3) C dL_law_913 rfl ?_
                                          refine zr_iadd C dL_law_914 ?_
                                          refine zr_sald0 C dL_law_915 ?_
                                          refine zr_aload_n C dL_law_916 rfl ?_
                                          refine zr_iload_n C dL_law_917 rfl ?_
                                          refine zr_iconst (v := 4) C dL_law_918 rfl ?_
                                          refine zr_iadd C dL_law_919 ?_
                                          refine zr_sald0 C dL_law_920 ?_
                                          refine zr_aload_n C dL_law_921 rfl ?_
                                          refine zr_iload_n C dL_law_922 rfl ?_
                                          refine zr_iconst (v := 5) C dL_law_923 rfl ?_
                                          refine zr_iadd C dL_law_924 ?_
                                          refine zr_sald0 C dL_law_925 ?_
                                          refine zk_L_90 C F (Nat.le_of_ble_eq_true rfl) (Nat.le_trans (by decide) hh) (by simp [Value.category]) dL_law_926 (fun r926 m926 => ?_)
                                          refine zr_icmp_eq (tgt := 1936) C dL_law_929 (by decide) ?_ ?_
                                          · refine zr_iinc (kk := 3) (v := (l3 + 6)) (L1 := [(3, .int _), (0, .ref _), (1, .ref _), (2, .ref _)]) C dL_law_1936 rfl rfl (by decide) rfl ?_
                                            refine zr_goto (tgt := 18) C dL_law_1939 (by decide) ?_
                                            exact zr_sub [1, 2, 3, 0] rfl (hrec18 m926 ((l3 + 6)))
                                          · refine zr_iconst (v := 0) C dL_law_932 rfl ?_
                                            exact hret _ _ _ _ dL_law_933
                                        · refine zr_if (fun hx => ?_) (fun _ => ?_)
                                          · refine zr_tabIn (tgt := 934) C dL_law_33 (by rw [hx]; decide) (by rw [hx]; decide) (off := 901) (by rw [hx]; decide) (by decide) ?_
                                            refine zr_aload_n C dL_law_934 rfl ?_
                                            refine zr_aload_n C dL_law_935 rfl ?_
                                            refine zr_iload_n C dL_law_936 rfl ?_
                                            refine zr_iconst (v := 1) C dL_law_937 rfl ?_
                                            refine zr_iadd C dL_law_938 ?_
                                            refine zr_sald0 C dL_law_939 ?_
                                            refine zr_aload_n C dL_law_940 rfl ?_
                                            refine zr_iload_n C dL_law_941 rfl ?_
                                            refine zr_iconst (v := 2) C dL_law_942 rfl ?_
                                            refine zr_iadd C dL_law_943 ?_
                                            refine zr_sald0 C dL_law_944 ?_
                                            refine zk_L_91 C F (Nat.le_of_ble_eq_true rfl) (Nat.le_trans (by decide) hh) (by simp [Value.category]) dL_law_945 (fun r945 m945 => ?_)
                                            refine zr_aload_n C dL_law_948 rfl ?_
                                            refine zr_aload_n C dL_law_949 rfl ?_
                                            refine zr_iload_n C dL_law_950 rfl ?_
                                            refine zr_iconst (v := 1) C dL_law_951 rfl ?_
                                            refine zr_iadd C dL_law_952 ?_
                                            refine zr_sald0 C dL_law_953 ?_
                                            refine zr_aload_n C dL_law_954 rfl ?_
                                            refine zr_iload_n C dL_law_955 rfl ?_
                                            refine zr_iconst (v := 2) C dL_law_956 rfl ?_
                                            refine zr_iadd C dL_law_957 ?_
                                            refine zr_sald0 C dL_law_958 ?_
                                            refine zk_L_94 C F (Nat.le_of_ble_eq_true rfl) (Nat.le_trans (by decide) hh) (by simp [Value.category]) dL_law_959 (fun r959 m959 => ?_)
                                            refine zr_icmp_eq (tgt := 1936) C dL_law_962 (by decide) ?_ ?_
                                            · refine zr_iinc (kk := 3) (v := (l3 + 6)) (L1 := [(3, .int _), (0, .ref _), (1, .ref _), (2, .ref _)]) C dL_law_1936 rfl rfl (by decide) rfl ?_
                                              refine zr_goto (tgt := 18) C dL_law_1939 (by decide) ?_
                                              exact zr_sub [1, 2, 3, 0] rfl (hrec18 m959 ((l3 + 6)))
                                            · refine zr_iconst (v := 0) C dL_law_965 rfl ?_
                                              exact hret _ _ _ _ dL_law_966
                                          · refine zr_if (fun hx => ?_) (fun _ => ?_)
                                            · refine zr_tabIn (tgt := 967) C dL_law_33 (by rw [hx]; decide) (by rw [hx]; decide) (off := 934) (by rw [hx]; decide) (by decide) ?_
                                              refine zr_aload_n C dL_law_967 rfl ?_
                                              refine zr_aload_n C dL_law_968 rfl ?_
                                              refine zr_iload_n C dL_law_969 rfl ?_
                                              refine zr_iconst (v := 1) C dL_law_970 rfl ?_
                                              refine zr_iadd C dL_law_971 ?_
                                              refine zr_sald0 C dL_law_972 ?_
                                              refine zr_aload_n C dL_law_973 rfl ?_
                                              refine zr_iload_n C dL_law_974 rfl ?_
                                              refine zr_iconst (v := 2) C dL_law_975 rfl ?_
                                              refine zr_iadd C dL_law_976 ?_
                                              refine zr_sald0 C dL_law_977 ?_
                                              refine zk_L_95 C F (Nat.le_of_ble_eq_true rfl) (Nat.le_trans (by decide) hh) (by simp [Value.category]) dL_law_978 (fun r978 m978 => ?_)
                                              refine zr_aload_n C dL_law_981 rfl ?_
                                              refine zr_aload_n C dL_law_982 rfl ?_
                                              refine zr_iload_n C dL_law_983 rfl ?_
                                              refine zr_iconst (v := 1) C dL_law_984 rfl ?_
                                              refine zr_iadd C dL_law_985 ?_
                                              refine zr_sald0 C dL_law_986 ?_
                                              refine zr_aload_n C dL_law_987 rfl ?_
                                              refine zr_iload_n C dL_law_988 rfl ?_
                                              refine zr_iconst (v := 2) C dL_law_989 rfl ?_
                                              refine zr_iadd C dL_law_990 ?_
                                              refine zr_sald0 C dL_law_991 ?_
                                              refine zk_L_98 C F (Nat.le_of_ble_eq_true rfl) (Nat.le_trans (by decide) hh) (by simp [Value.category]) dL_law_992 (fun r992 m992 => ?_)
                                              refine zr_icmp_eq (tgt := 1936) C dL_law_995 (by decide) ?_ ?_
                                              · refine zr_iinc (kk := 3) (v := (l3 + 6)) (L1 := [(3, .int _), (0, .ref _), (1, .ref _), (2, .ref _)]) C dL_law_1936 rfl rfl (by decide) rfl ?_
                                                refine zr_goto (tgt := 18) C dL_law_1939 (by decide) ?_
                                                exact zr_sub [1, 2, 3, 0] rfl (hrec18 m992 ((l3 + 6)))
                                              · refine zr_iconst (v := 0) C dL_law_998 rfl ?_
                                                exact hret _ _ _ _ dL_law_999
                                            · refine zr_if (fun hx => ?_) (fun _ => ?_)
                                              · refine zr_tabIn (tgt := 1000) C dL_law_33 (by rw [hx]; decide) (by rw [hx]; decide) (off := 967) (by rw [hx]; decide) (by decide) ?_
                                                refine zr_aload_n C dL_law_1000 rfl ?_
                                                refine zr_aload_n C dL_law_1001 rfl ?_
                                                refine zr_iload_n C dL_law_1002 rfl ?_
                                                refine zr_iconst (v := 1) C dL_law_1003 rfl ?_
                                                refine zr_iadd C dL_law_1004 ?_
                                                refine zr_sald0 C dL_law_1005 ?_
                                                refine zr_aload_n C dL_law_1006 rfl ?_
                                                refine zr_iload_n C dL_law_1007 rfl ?_
                                                refine zr_iconst (v := 2) C dL_law_1008 rfl ?_
                                                refine zr_iadd C dL_law_1009 ?_
                                                refine zr_sald0 C dL_law_1010 ?_
                                                refine zk_L_99 C F (Nat.le_of_ble_eq_true rfl) (Nat.le_trans (by decide) hh) (by simp [Value.category]) dL_law_1011 (fun r1011 m1011 => ?_)
                                                refine zr_aload_n C dL_law_1014 rfl ?_
                                                refine zr_aload_n C dL_law_1015 rfl ?_
                                                refine zr_iload_n C dL_law_1016 rfl ?_
                                                refine zr_iconst (v := 1) C dL_law_1017 rfl ?_
                                                refine zr_iadd C dL_law_1018 ?_
                                                refine zr_sald0 C dL_law_1019 ?_
                                                refine zr_aload_n C dL_law_1020 rfl ?_
                                                refine zr_iload_n C dL_law_1021 rfl ?_
                                                refine zr_iconst (v := 2) C dL_law_1022 rfl ?_
                                                refine zr_iadd C dL_law_1023 ?_
                                                refine zr_sald0 C dL_law_1024 ?_
                                                refine zk_L_102 C F (Nat.le_of_ble_eq_true rfl) (Nat.le_trans (by decide) hh) (by simp [Value.category]) dL_law_1025 (fun r1025 m1025 => ?_)
                                                refine zr_icmp_eq (tgt := 1936) C dL_law_1028 (by decide) ?_ ?_
                                                · refine zr_iinc (kk := 3) (v := (l3 + 6)) (L1 := [(3, .int _), (0, .ref _), (1, .ref _), (2, .ref _)]) C dL_law_1936 rfl rfl (by decide) rfl ?_
                                                  refine zr_goto (tgt := 18) C dL_law_1939 (by decide) ?_
                                                  exact zr_sub [1, 2, 3, 0] rfl (hrec18 m1025 ((l3 + 6)))
                                                · refine zr_iconst (v := 0) C dL_law_1031 rfl ?_
                                                  exact hret _ _ _ _ dL_law_1032
                                              · refine zr_if (fun hx => ?_) (fun _ => ?_)
                                                · refine zr_tabIn (tgt := 1033) C dL_law_33 (by rw [hx]; decide) (by rw [hx]; decide) (off := 1000) (by rw [hx]; decide) (by decide) ?_
                                                  refine zr_aload_n C dL_law_1033 rfl ?_
                                                  refine zr_aload_n C dL_law_1034 rfl ?_
                                                  refine zr_iload_n C dL_law_1035 rfl ?_
                                                  refine zr_iconst (v := 1) C dL_law_1036 rfl ?_
                                                  refine zr_iadd C dL_law_1037 ?_
                                                  refine zr_sald0 C dL_law_1038 ?_
                                                  refine zr_aload_n C dL_law_1039 rfl ?_
                                                  refine zr_iload_n C dL_law_1040 rfl ?_
                                                  refine zr_iconst (v := 2) C dL_law_1041 rfl ?_
                                                  refine zr_iadd C dL_law_1042 ?_
                                                  refine zr_sald0 C dL_law_1043 ?_
                                                  refine zr_aload_n C dL_law_1044 rfl ?_
                                                  refine zr_iload_n C dL_law_1045 rfl ?_
                                                  refine zr_iconst (v := 3) C dL_law_1046 rfl ?_
                                                  refine zr_iadd C dL_law_1047 ?_
                                                  refine zr_sald0 C dL_law_1048 ?_
                                                  refine zk_L_103 C F (Nat.le_of_ble_eq_true rfl) (Nat.le_trans (by decide) hh) (by simp [Value.category]) dL_law_1049 (fun r1049 m1049 => ?_)
                                                  refine zr_aload_n C dL_law_1052 rfl ?_
                                                  refine zr_aload_n C dL_law_1053 rfl ?_
                                                  refine zr_iload_n C dL_law_1054 rfl ?_
                                                  refine zr_iconst (v := 1) C dL_law_1055 rfl ?_
                                                  refine zr_iadd C dL_law_1056 ?_
                                                  refine zr_sald0 C dL_law_1057 ?_
                                                  refine zr_aload_n C dL_law_1058 rfl ?_
                                                  refine zr_iload_n C dL_law_1059 rfl ?_
                                                  refine zr_iconst (v := 2) C dL_law_1060 rfl ?_
                                                  refine zr_iadd C dL_law_1061 ?_
                                                  refine zr_sald0 C dL_law_1062 ?_
                                                  refine zr_aload_n C dL_law_1063 rfl ?_
                                                  refine zr_iload_n C dL_law_1064 rfl ?_
                                                  refine zr_iconst (v := 3) C dL_law_1065 rfl ?_
                                                  refine zr_iadd C dL_law_1066 ?_
                                                  refine zr_sald0 C dL_law_1067 ?_
                                                  refine zk_L_106 C F (Nat.le_of_ble_eq_true rfl) (Nat.le_trans (by decide) hh) (by simp [Value.category]) dL_law_1068 (fun r1068 m1068 => ?_)
                                                  refine zr_icmp_eq (tgt := 1936) C dL_law_1071 (by decide) ?_ ?_
                                                  · refine zr_iinc (kk := 3) (v := (l3 + 6)) (L1 := [(3, .int _), (0, .ref _), (1, .ref _), (2, .ref _)]) C dL_law_1936 rfl rfl (by decide) rfl ?_
                                                    refine zr_goto (tgt := 18) C dL_law_1939 (by decide) ?_
                                                    exact zr_sub [1, 2, 3, 0] rfl (hrec18 m1068 ((l3 + 6)))
                                                  · refine zr_iconst (v := 0) C dL_law_1074 rfl ?_
                                                    exact hret _ _ _ _ dL_law_1075
                                                · refine zr_if (fun hx => ?_) (fun _ => ?_)
                                                  · refine zr_tabIn (tgt := 1076) C dL_law_33 (by rw [hx]; decide) (by rw [hx]; decide) (off := 1043) (by rw [hx]; decide) (by decide) ?_
                                                    refine zr_aload_n C dL_law_1076 rfl ?_
                                                    refine zr_aload_n C dL_law_1077 rfl ?_
                                                    refine zr_iload_n C dL_law_1078 rfl ?_
                                                    refine zr_iconst (v := 1) C dL_law_1079 rfl ?_
                                                    refine zr_iadd C dL_law_1080 ?_
                                                    refine zr_sald0 C dL_law_1081 ?_
                                                    refine zr_aload_n C dL_law_1082 rfl ?_
                                                    refine zr_iload_n C dL_law_1083 rfl ?_
                                                    refine zr_iconst (v := 2) C dL_law_1084 rfl ?_
                                                    refine zr_iadd C dL_law_1085 ?_
                                                    refine zr_sald0 C dL_law_1086 ?_
                                                    refine zr_aload_n C dL_law_1087 rfl ?_
                                                    refine zr_iload_n C dL_law_1088 rfl ?_
                                                    refine zr_iconst (v := 3) C dL_law_1089 rfl ?_
                                                    refine zr_iadd C dL_law_1090 ?_
                                                    refine zr_sald0 C dL_law_1091 ?_
                                                    refine zk_L_107 C F (Nat.le_of_ble_eq_true rfl) (Nat.le_trans (by decide) hh) (by simp [Value.category]) dL_law_1092 (fun r1092 m1092 => ?_)
                                                    refine zr_aload_n C dL_law_1095 rfl ?_
                                                    refine zr_aload_n C dL_law_1096 rfl ?_
                                                    refine zr_iload_n C dL_law_1097 rfl ?_
                                                    refine zr_iconst (v := 1) C dL_law_1098 rfl ?_
                                                    refine zr_iadd C dL_law_1099 ?_
                                                    refine zr_sald0 C dL_law_1100 ?_
                                                    refine zr_aload_n C dL_law_1101 rfl ?_
                                                    refine zr_iload_n C dL_law_1102 rfl ?_
                                                    refine zr_iconst (v := 2) C dL_law_1103 rfl ?_
                                                    refine zr_iadd C dL_law_1104 ?_
                                                    refine zr_sald0 C dL_law_1105 ?_
                                                    refine zr_aload_n C dL_law_1106 rfl ?_
                                                    refine zr_iload_n C dL_law_1107 rfl ?_
                                                    refine zr_iconst (v := 3) C dL_law_1108 rfl ?_
                                                    refine zr_iadd C dL_law_1109 ?_
                                                    refine zr_sald0 C dL_law_1110 ?_
                                                    refine zk_L_110 C F (Nat.le_of_ble_eq_true rfl) (Nat.le_trans (by decide) hh) (by simp [Value.category]) dL_law_1111 (fun r1111 m1111 => ?_)
                                                    refine zr_icmp_eq (tgt := 1936) C dL_law_1114 (by decide) ?_ ?_
                                                    · refine zr_iinc (kk := 3) (v := (l3 + 6)) (L1 := [(3, .int _), (0, .ref _), (1, .ref _), (2, .ref _)]) C dL_law_1936 rfl rfl (by decide) rfl ?_
                                                      refine zr_goto (tgt := 18) C dL_law_1939 (by decide) ?_
                                                      exact zr_sub [1, 2, 3, 0] rfl (hrec18 m1111 ((l3 + 6)))
                                                    · refine zr_iconst (v := 0) C dL_law_1117 rfl ?_
                                                      exact hret _ _ _ _ dL_law_1118
                                                  · refine zr_if (fun hx => ?_) (fun _ => ?_)
                                                    · refine zr_tabIn (tgt := 1119) C dL_law_33 (by rw [hx]; decide) (by rw [hx]; decide) (off := 1086) (by rw [hx]; decide) (by decide) ?_
                                                      refine zr_aload_n C dL_law_1119 rfl ?_
                                                      refine zr_aload_n C dL_law_1120 rfl ?_
                                                      refine zr_iload_n C dL_law_1121 rfl ?_
                                                      refine zr_iconst (v := 1) C dL_law_1122 rfl ?_
                                                      refine zr_iadd C dL_law_1123 ?_
                                                      refine zr_sald0 C dL_law_1124 ?_
                                                      refine zr_aload_n C dL_law_1125 rfl ?_
                                                      refine zr_iload_n C dL_law_1126 rfl ?_
                                                      refine zr_iconst (v := 2) C dL_law_1127 rfl ?_
                                                      refine zr_iadd C dL_law_1128 ?_
                                                      refine zr_sald0 C dL_law_1129 ?_
                                                      refine zk_L_111 C F (Nat.le_of_ble_eq_true rfl) (Nat.le_trans (by decide) hh) (by simp [Value.category]) dL_law_1130 (fun r1130 m1130 => ?_)
                                                      refine zr_aload_n C dL_law_1133 rfl ?_
                                                      refine zr_aload_n C dL_law_1134 rfl ?_
                                                      refine zr_iload_n C dL_law_1135 rfl ?_
                                                      refine zr_iconst (v := 1) C dL_law_1136 rfl ?_
                                                      refine zr_iadd C dL_law_1137 ?_
                                                      refine zr_sald0 C dL_law_1138 ?_
                                                      refine zr_aload_n C dL_law_1139 rfl ?_
                                                      refine zr_iload_n C dL_law_1140 rfl ?_
                                                      refine zr_iconst (v := 2) C dL_law_1141 rfl ?_
                                                      refine zr_iadd C dL_law_1142 ?_
                                                      refine zr_sald0 C dL_law_1143 ?_
                                                      refine zk_L_114 C F (Nat.le_of_ble_eq_true rfl) (Nat.le_trans (by decide) hh) (by simp [Value.category]) dL_law_1144 (fun r1144 m1144 => ?_)
                                                      refine zr_icmp_eq (tgt := 1936) C dL_law_1147 (by decide) ?_ ?_
                                                      · refine zr_iinc (kk := 3) (v := (l3 + 6)) (L1 := [(3, .int _), (0, .ref _), (1, .ref _), (2, .ref _)]) C dL_law_1936 rfl rfl (by decide) rfl ?_
                                                        refine zr_goto (tgt := 18) C dL_law_1939 (by decide) ?_
                                                        exact zr_sub [1, 2, 3, 0] rfl (hrec18 m1144 ((l3 + 6)))
                                                      · refine zr_iconst (v := 0) C dL_law_1150 rfl ?_
                                                        exact hret _ _ _ _ dL_law_1151
                                                    · refine zr_if (fun hx => ?_) (fun _ => ?_)
                                                      · refine zr_tabIn (tgt := 1152) C dL_law_33 (by rw [hx]; decide) (by rw [hx]; decide) (off := 1119) (by rw [hx]; decide) (by decide) ?_
                                                        refine zr_aload_n C dL_law_1152 rfl ?_
                                                        refine zr_aload_n C dL_law_1153 rfl ?_
                                                        refine zr_iload_n C dL_law_1154 rfl ?_
                                                        refine zr_iconst (v := 1) C dL_law_1155 rfl ?_
                                                        refine zr_iadd C dL_law_1156 ?_
                                                        refine zr_sald0 C dL_law_1157 ?_
                                                        refine zk_L_115 C F (Nat.le_of_ble_eq_true rfl) (Nat.le_trans (by decide) hh) (by simp [Value.category]) dL_law_1158 (fun r1158 m1158 => ?_)
                                                        refine zr_aload_n C dL_law_1161 rfl ?_
                                                        refine zr_aload_n C dL_law_1162 rfl ?_
                                                        refine zr_iload_n C dL_law_1163 rfl ?_
                                                        refine zr_iconst (v := 1) C dL_law_1164 rfl ?_
                                                        refine zr_iadd C dL_law_1165 ?_
                                                        refine zr_sald0 C dL_law_1166 ?_
                                                        refine zk_L_118 C F (Nat.le_of_ble_eq_true rfl) (Nat.le_trans (by decide) hh) (by simp [Value.category]) dL_law_1167 (fun r1167 m1167 => ?_)
                                                        refine zr_icmp_eq (tgt := 1936) C dL_law_1170 (by decide) ?_ ?_
                                                        · refine zr_iinc (kk := 3) (v := (l3 + 6)) (L1 := [(3, .int _), (0, .ref _), (1, .ref _), (2, .ref _)]) C dL_law_1936 rfl rfl (by decide) rfl ?_
                                                          refine zr_goto (tgt := 18) C dL_law_1939 (by decide) ?_
                                                          exact zr_sub [1, 2, 3, 0] rfl (hrec18 m1167 ((l3 + 6)))
                                                        · refine zr_iconst (v := 0) C dL_law_1173 rfl ?_
                                                          exact hret _ _ _ _ dL_law_1174
                                                      · refine zr_if (fun hx => ?_) (fun _ => ?_)
                                                        · refine zr_tabIn (tgt := 1175) C dL_law_33 (by rw [hx]; decide) (by rw [hx]; decide) (off := 1142) (by rw [hx]; decide) (by decide) ?_
                                                          refine zr_aload_n C dL_law_1175 rfl ?_
                                                          refine zr_aload_n C dL_law_1176 rfl ?_
                                                          refine zr_iload_n C dL_law_1177 rfl ?_
                                                          refine zr_iconst (v := 1) C dL_law_1178 rfl ?_
                                                          refine zr_iadd C dL_law_1179 ?_
                                                          refine zr_sald0 C dL_law_1180 ?_
                                                          refine zk_L_119 C F (Nat.le_of_ble_eq_true rfl) (Nat.le_trans (by decide) hh) (by simp [Value.category]) dL_law_1181 (fun r1181 m1181 => ?_)
                                                          refine zr_aload_n C dL_law_1184 rfl ?_
                                                          refine zr_aload_n C dL_law_1185 rfl ?_
                                                          refine zr_iload_n C dL_law_1186 rfl ?_
                                                          refine zr_iconst (v := 1) C dL_law_1187 rfl ?_
                                                          refine zr_iadd C dL_law_1188 ?_
                                                          refine zr_sald0 C dL_law_1189 ?_
                                                          refine zk_L_122 C F (Nat.le_of_ble_eq_true rfl) (Nat.le_trans (by decide) hh) (by simp [Value.category]) dL_law_1190 (fun r1190 m1190 => ?_)
                                                          refine zr_icmp_eq (tgt := 1936) C dL_law_1193 (by decide) ?_ ?_
                                                          · refine zr_iinc (kk := 3) (v := (l3 + 6)) (L1 := [(3, .int _), (0, .ref _), (1, .ref _), (2, .ref _)]) C dL_law_1936 rfl rfl (by decide) rfl ?_
                                                            refine zr_goto (tgt := 18) C dL_law_1939 (by decide) ?_
                                                            exact zr_sub [1, 2, 3, 0] rfl (hrec18 m1190 ((l3 + 6)))
                                                          · refine zr_iconst (v := 0) C dL_law_1196 rfl ?_
                                                            exact hret _ _ _ _ dL_law_1197
                                                        · refine zr_if (fun hx => ?_) (fun _ => ?_)
                                                          · refine zr_tabIn (tgt := 1198) C dL_law_33 (by rw [hx]; decide) (by rw [hx]; decide) (off := 1165) (by rw [hx]; decide) (by decide) ?_
                                                            refine zr_aload_n C dL_law_1198 rfl ?_
                                                            refine zr_aload_n C dL_law_1199 rfl ?_
                                                            refine zr_iload_n C dL_law_1200 rfl ?_
                                                            refine zr_iconst (v := 1) C dL_law_1201 rfl ?_
                                                            refine zr_iadd C dL_law_1202 ?_
                                                            refine zr_sald0 C dL_law_1203 ?_
                                                            refine zr_aload_n C dL_law_1204 rfl ?_
                                                            refine zr_iload_n C dL_law_1205 rfl ?_
                                                            refine zr_iconst (v := 2) C dL_law_1206 rfl ?_
                                                            refine zr_iadd C dL_law_1207 ?_
                                                            refine zr_sald0 C dL_law_1208 ?_
                                                            refine zk_L_123 C F (Nat.le_of_ble_eq_true rfl) (Nat.le_trans (by decide) hh) (by simp [Value.category]) dL_law_1209 (fun r1209 m1209 => ?_)
                                                            refine zr_aload_n C dL_law_1212 rfl ?_
                                                            refine zr_aload_n C dL_law_1213 rfl ?_
                                                            refine zr_iload_n C dL_law_1214 rfl ?_
                                                            refine zr_iconst (v := 1) C dL_law_1215 rfl ?_
                                                            refine zr_iadd C dL_law_1216 ?_
                                                            refine zr_sald0 C dL_law_1217 ?_
                                                            refine zr_aload_n C dL_law_1218 rfl ?_
                                                            refine zr_iload_n C dL_law_1219 rfl ?_
                                                            refine zr_iconst (v := 2) C dL_law_1220 rfl ?_
                                                            refine zr_iadd C dL_law_1221 ?_
                                                            refine zr_sald0 C dL_law_1222 ?_
                                                            refine zk_L_126 C F (Nat.le_of_ble_eq_true rfl) (Nat.le_trans (by decide) hh) (by simp [Value.category]) dL_law_1223 (fun r1223 m1223 => ?_)
                                                            refine zr_icmp_eq (tgt := 1936) C dL_law_1226 (by decide) ?_ ?_
                                                            · refine zr_iinc (kk := 3) (v := (l3 + 6)) (L1 := [(3, .int _), (0, .ref _), (1, .ref _), (2, .ref _)]) C dL_law_1936 rfl rfl (by decide) rfl ?_
                                                              refine zr_goto (tgt := 18) C dL_law_1939 (by decide) ?_
                                                              exact zr_sub [1, 2, 3, 0] rfl (hrec18 m1223 ((l3 + 6)))
                                                            · refine zr_iconst (v := 0) C dL_law_1229 rfl ?_
                                                              exact hret _ _ _ _ dL_law_1230
                                                          · refine zr_if (fun hx => ?_) (fun _ => ?_)
                                                            · refine zr_tabIn (tgt := 1231) C dL_law_33 (by rw [hx]; decide) (by rw [hx]; decide) (off := 1198) (by rw [hx]; decide) (by decide) ?_
                                                              refine zr_aload_n C dL_law_1231 rfl ?_
                                                              refine zr_aload_n C dL_law_1232 rfl ?_
                                                              refine zr_iload_n C dL_law_1233 rfl ?_
                                                              refine zr_iconst (v := 1) C dL_law_1234 rfl ?_
                                                              refine zr_iadd C dL_law_1235 ?_
                                                              refine zr_sald0 C dL_law_1236 ?_
                                                              refine zr_aload_n C dL_law_1237 rfl ?_
                                                              refine zr_iload_n C dL_law_1238 rfl ?_
                                                              refine zr_iconst (v := 2) C dL_law_1239 rfl ?_
                                                              refine zr_iadd C dL_law_1240 ?_
                                                              refine zr_sald0 C dL_law_1241 ?_
                                                              refine zr_if_eq (tgt := 1249) C dL_law_1242 (by decide) ?_ ?_
                                                              · refine zr_iconst (v := 0) C dL_law_1249 rfl ?_
                                                                exact zr_sub [0, 1, 2, 3] rfl (c_L_law_1250 F Z rec18 hret C hh hrec18 σ l3 0 ((Z.2.2.2.2 ((l3 + 1)).toNatClampNeg)))
                                                              · refine zr_iconst (v := 1) C dL_law_1245 rfl ?_
                                                                refine zr_goto (tgt := 1250) C dL_law_1246 (by decide) ?_
                                                                exact zr_sub [0, 1, 2, 3] rfl (c_L_law_1250 F Z rec18 hret C hh hrec18 σ l3 1 ((Z.2.2.2.2 ((l3 + 1)).toNatClampNeg)))
                                                            · refine zr_if (fun hx => ?_) (fun _ => ?_)
                                                              · refine zr_tabIn (tgt := 1280) C dL_law_33 (by rw [hx]; decide) (by rw [hx]; decide) (off := 1247) (by rw [hx]; decide) (by decide) ?_
                                                                refine zr_aload_n C dL_law_1280 rfl ?_
                                                                refine zr_aload_n C dL_law_1281 rfl ?_
                                                                refine zr_iload_n C dL_law_1282 rfl ?_
                                                                refine zr_iconst (v := 1) C dL_law_1283 rfl ?_
                                                                refine zr_iadd C dL_law_1284 ?_
                                                                refine zr_sald0 C dL_law_1285 ?_
                                                                refine zr_if_eq (tgt := 1293) C dL_law_1286 (by decide) ?_ ?_
                                                                · refine zr_iconst (v := 0) C dL_law_1293 rfl ?_
                                                                  exact zr_sub [0, 1, 2, 3] rfl (c_L_law_1294 F Z rec18 hret C hh hrec18 σ l3 0)
                                                                · refine zr_iconst (v := 1) C dL_law_1289 rfl ?_
                                                                  refine zr_goto (tgt := 1294) C dL_law_1290 (by decide) ?_
                                                                  exact zr_sub [0, 1, 2, 3] rfl (c_L_law_1294 F Z rec18 hret C hh hrec18 σ l3 1)
                                                              · refine zr_if (fun hx => ?_) (fun _ => ?_)
                                                                · refine zr_tabIn (tgt := 1319) C dL_law_33 (by rw [hx]; decide) (by rw [hx]; decide) (off := 1286) (by rw [hx]; decide) (by decide) ?_
                                                                  refine zr_aload_n C dL_law_1319 rfl ?_
                                                                  refine zk_L_137 C F (Nat.le_of_ble_eq_true rfl) (Nat.le_trans (by decide) hh) (by simp [Value.category]) dL_law_1320 (fun r1320 m1320 => ?_)
                                                                  refine zr_aload_n C dL_law_1323 rfl ?_
                                                                  refine zk_L_140 C F (Nat.le_of_ble_eq_true rfl) (Nat.le_trans (by decide) hh) (by simp [Value.category]) dL_law_1324 (fun r1324 m1324 => ?_)
                                                                  refine zr_icmp_eq (tgt := 1936) C dL_law_1327 (by decide) ?_ ?_
                                                                  · refine zr_iinc (kk := 3) (v := (l3 + 6)) (L1 := [(3, .int _), (0, .ref _), (1, .ref _), (2, .ref _)]) C dL_law_1936 rfl rfl (by decide) rfl ?_
                                                                    refine zr_goto (tgt := 18) C dL_law_1939 (by decide) ?_
                                                                    exact zr_sub [1, 2, 3, 0] rfl (hrec18 m1324 ((l3 + 6)))
                                                                  · refine zr_iconst (v := 0) C dL_law_1330 rfl ?_
                                                                    exact hret _ _ _ _ dL_law_1331
                                                                · refine zr_if (fun hx => ?_) (fun _ => ?_)
                                                                  · refine zr_tabIn (tgt := 1332) C dL_law_33 (by rw [hx]; decide) (by rw [hx]; decide) (off := 1299) (by rw [hx]; decide) (by decide) ?_
                                                                    refine zr_aload_n C dL_law_1332 rfl ?_
                                                                    refine zr_aload_n C dL_law_1333 rfl ?_
                                                                    refine zr_iload_n C dL_law_1334 rfl ?_
                                                                    refine zr_iconst (v := 1) C dL_law_1335 rfl ?_
                                                                    refine zr_iadd C dL_law_1336 ?_
                                                                    refine zr_sald0 C dL_law_1337 ?_
                                                                    refine zk_L_141 C F (Nat.le_of_ble_eq_true rfl) (Nat.le_trans (by decide) hh) (by simp [Value.category]) dL_law_1338 (fun r1338 m1338 => ?_)
                                                                    refine zr_aload_n C dL_law_1341 rfl ?_
                                                                    refine zr_aload_n C dL_law_1342 rfl ?_
                                                                    refine zr_iload_n C dL_law_1343 rfl ?_
                                                                    refine zr_iconst (v := 1) C dL_law_1344 rfl ?_
                                                                    refine zr_iadd C dL_law_1345 ?_
                                                                    refine zr_sald0 C dL_law_1346 ?_
                                                                    refine zk_L_144 C F (Nat.le_of_ble_eq_true rfl) (Nat.le_trans (by decide) hh) (by simp [Value.category]) dL_law_1347 (fun r1347 m1347 => ?_)
                                                                    refine zr_icmp_eq (tgt := 1936) C dL_law_1350 (by decide) ?_ ?_
                                                                    · refine zr_iinc (kk := 3) (v := (l3 + 6)) (L1 := [(3, .int _), (0, .ref _), (1, .ref _), (2, .ref _)]) C dL_law_1936 rfl rfl (by decide) rfl ?_
                                                                      refine zr_goto (tgt := 18) C dL_law_1939 (by decide) ?_
                                                                      exact zr_sub [1, 2, 3, 0] rfl (hrec18 m1347 ((l3 + 6)))
                                                                    · refine zr_iconst (v := 0) C dL_law_1353 rfl ?_
                                                                      exact hret _ _ _ _ dL_law_1354
                                                                  · refine zr_if (fun hx => ?_) (fun _ => ?_)
                                                                    · refine zr_tabIn (tgt := 1355) C dL_law_33 (by rw [hx]; decide) (by rw [hx]; decide) (off := 1322) (by rw [hx]; decide) (by decide) ?_
                                                                      refine zr_aload_n C dL_law_1355 rfl ?_
                                                                      refine zr_aload_n C dL_law_1356 rfl ?_
                                                                      refine zr_iload_n C dL_law_1357 rfl ?_
                                                                      refine zr_iconst (v := 1) C dL_law_1358 rfl ?_
                                                                      refine zr_iadd C dL_law_1359 ?_
                                                                      refine zr_sald0 C dL_law_1360 ?_
                                                                      refine zk_L_145 C F (Nat.le_of_ble_eq_true rfl) (Nat.le_trans (by decide) hh) (by simp [Value.category]) dL_law_1361 (fun r1361 m1361 => ?_)
                                                                      refine zr_aload_n C dL_law_1364 rfl ?_
                                                                      refine zr_aload_n C dL_law_1365 rfl ?_
                                                                      refine zr_iload_n C dL_law_1366 rfl ?_
                                                                      refine zr_iconst (v := 1) C dL_law_1367 rfl ?_
                                                                      refine zr_iadd C dL_law_1368 ?_
                                                                      refine zr_sald0 C dL_law_1369 ?_
                                                                      refine zk_L_148 C F (Nat.le_of_ble_eq_true rfl) (Nat.le_trans (by decide) hh) (by simp [Value.category]) dL_law_1370 (fun r1370 m1370 => ?_)
                                                                      refine zr_icmp_eq (tgt := 1936) C dL_law_1373 (by decide) ?_ ?_
                                                                      · refine zr_iinc (kk := 3) (v := (l3 + 6)) (L1 := [(3, .int _), (0, .ref _), (1, .ref _), (2, .ref _)]) C dL_law_1936 rfl rfl (by decide) rfl ?_
                                                                        refine zr_goto (tgt := 18) C dL_law_1939 (by decide) ?_
                                                                        exact zr_sub [1, 2, 3, 0] rfl (hrec18 m1370 ((l3 + 6)))
                                                                      · refine zr_iconst (v := 0) C dL_law_1376 rfl ?_
                                                                        exact hret _ _ _ _ dL_law_1377
                                                                    · refine zr_if (fun hx => ?_) (fun _ => ?_)
                                                                      · refine zr_tabIn (tgt := 1378) C dL_law_33 (by rw [hx]; decide) (by rw [hx]; decide) (off := 1345) (by rw [hx]; decide) (by decide) ?_
                                                                        refine zr_aload_n C dL_law_1378 rfl ?_
                                                                        refine zr_aload_n C dL_law_1379 rfl ?_
                                                                        refine zr_iload_n C dL_law_1380 rfl ?_
                                                                        refine zr_iconst (v := 1) C dL_law_1381 rfl ?_
                                                                        refine zr_iadd C dL_law_1382 ?_
                                                                        refine zr_sald0 C dL_law_1383 ?_
                                                                        refine zr_aload_n C dL_law_1384 rfl ?_
                                                                        refine zr_iload_n C dL_law_1385 rfl ?_
                                                                        refine zr_iconst (v := 2) C dL_law_1386 rfl ?_
                                                                        refine zr_iadd C dL_law_1387 ?_
                                                                        refine zr_sald0 C dL_law_1388 ?_
                                                                        refine zk_L_149 C F (Nat.le_of_ble_eq_true rfl) (Nat.le_trans (by decide) hh) (by simp [Value.category]) dL_law_1389 (fun r1389 m1389 => ?_)
                                                                        refine zr_aload_n C dL_law_1392 rfl ?_
                                                                        refine zr_aload_n C dL_law_1393 rfl ?_
                                                                        refine zr_iload_n C dL_law_1394 rfl ?_
                                                                        refine zr_iconst (v := 1) C dL_law_1395 rfl ?_
                                                                        refine zr_iadd C dL_law_1396 ?_
                                                                        refine zr_sald0 C dL_law_1397 ?_
                                                                        refine zr_aload_n C dL_law_1398 rfl ?_
                                                                        refine zr_iload_n C dL_law_1399 rfl ?_
                                                                        refine zr_iconst (v := 2) C dL_law_1400 rfl ?_
                                                                        refine zr_iadd C dL_law_1401 ?_
                                                                        refine zr_sald0 C dL_law_1402 ?_
                                                                        refine zk_L_152 C F (Nat.le_of_ble_eq_true rfl) (Nat.le_trans (by decide) hh) (by simp [Value.category]) dL_law_1403 (fun r1403 m1403 => ?_)
                                                                        refine zr_icmp_eq (tgt := 1936) C dL_law_1406 (by decide) ?_ ?_
                                                                        · refine zr_iinc (kk := 3) (v := (l3 + 6)) (L1 := [(3, .int _), (0, .ref _), (1, .ref _), (2, .ref _)]) C dL_law_1936 rfl rfl (by decide) rfl ?_
                                                                          refine zr_goto (tgt := 18) C dL_law_1939 (by decide) ?_
                                                                          exact zr_sub [1, 2, 3, 0] rfl (hrec18 m1403 ((l3 + 6)))
                                                                        · refine zr_iconst (v := 0) C dL_law_1409 rfl ?_
                                                                          exact hret _ _ _ _ dL_law_1410
                                                                      · refine zr_if (fun hx => ?_) (fun _ => ?_)
                                                                        · refine zr_tabIn (tgt := 1411) C dL_law_33 (by rw [hx]; decide) (by rw [hx]; decide) (off := 1378) (by rw [hx]; decide) (by decide) ?_
                                                                          refine zr_aload_n C dL_law_1411 rfl ?_
                                                                          refine zr_aload_n C dL_law_1412 rfl ?_
                                                                          refine zr_iload_n C dL_law_1413 rfl ?_
                                                                          refine zr_iconst (v := 1) C dL_law_1414 rfl ?_
                                                                          refine zr_iadd C dL_law_1415 ?_
                                                                          refine zr_sald0 C dL_law_1416 ?_
                                                                          refine zr_aload_n C dL_law_1417 rfl ?_
                                                                          refine zr_iload_n C dL_law_1418 rfl ?_
                                                                          refine zr_iconst (v := 2) C dL_law_1419 rfl ?_
                                                                          refine zr_iadd C dL_law_1420 ?_
                                                                          refine zr_sald0 C dL_law_1421 ?_
                                                                          refine zr_aload_n C dL_law_1422 rfl ?_
                                                                          refine zr_iload_n C dL_law_1423 rfl ?_
                                                                          refine zr_iconst (v := 3) C dL_law_1424 rfl ?_
                                                                          refine zr_iadd C dL_law_1425 ?_
                                                                          refine zr_sald0 C dL_law_1426 ?_
                                                                          refine zk_L_153 C F (Nat.le_of_ble_eq_true rfl) (Nat.le_trans (by decide) hh) (by simp [Value.category]) dL_law_1427 (fun r1427 m1427 => ?_)
                                                                          refine zr_aload_n C dL_law_1430 rfl ?_
                                                                          refine zr_aload_n C dL_law_1431 rfl ?_
                                                                          refine zr_iload_n C dL_law_1432 rfl ?_
                                                                          refine zr_iconst (v := 1) C dL_law_1433 rfl ?_
                                                                          refine zr_iadd C dL_law_1434 ?_
                                                                          refine zr_sald0 C dL_law_1435 ?_
                                                                          refine zr_aload_n C dL_law_1436 rfl ?_
                                                                          refine zr_iload_n C dL_law_1437 rfl ?_
                                                                          refine zr_iconst (v := 2) C dL_law_1438 rfl ?_
                                                                          refine zr_iadd C dL_law_1439 ?_
                                                                          refine zr_sald0 C dL_law_1440 ?_
                                                                          refine zr_aload_n C dL_law_1441 rfl ?_
                                                                          refine zr_iload_n C dL_law_1442 rfl ?_
                                                                          refine zr_iconst (v := 3) C dL_law_1443 rfl ?_
                                                                          refine zr_iadd C dL_law_1444 ?_
                                                                          refine zr_sald0 C dL_law_1445 ?_
                                                                          refine zk_L_156 C F (Nat.le_of_ble_eq_true rfl) (Nat.le_trans (by decide) hh) (by simp [Value.category]) dL_law_1446 (fun r1446 m1446 => ?_)
                                                                          refine zr_icmp_eq (tgt := 1936) C dL_law_1449 (by decide) ?_ ?_
                                                                          · refine zr_iinc (kk := 3) (v := (l3 + 6)) (L1 := [(3, .int _), (0, .ref _), (1, .ref _), (2, .ref _)]) C dL_law_1936 rfl rfl (by decide) rfl ?_
                                                                            refine zr_goto (tgt := 18) C dL_law_1939 (by decide) ?_
                                                                            exact zr_sub [1, 2, 3, 0] rfl (hrec18 m1446 ((l3 + 6)))
                                                                          · refine zr_iconst (v := 0) C dL_law_1452 rfl ?_
                                                                            exact hret _ _ _ _ dL_law_1453
                                                                        · refine zr_if (fun hx => ?_) (fun _ => ?_)
                                                                          · refine zr_tabIn (tgt := 1454) C dL_law_33 (by rw [hx]; decide) (by rw [hx]; decide) (off := 1421) (by rw [hx]; decide) (by decide) ?_
                                                                            refine zr_aload_n C dL_law_1454 rfl ?_
                                                                            refine zr_aload_n C dL_law_1455 rfl ?_
                                                                            refine zr_iload_n C dL_law_1456 rfl ?_
                                                                            refine zr_iconst (v := 1) C dL_law_1457 rfl ?_
                                                                            refine zr_iadd C dL_law_1458 ?_
                                                                            refine zr_sald0 C dL_law_1459 ?_
                                                                            refine zk_L_157 C F (Nat.le_of_ble_eq_true rfl) (Nat.le_trans (by decide) hh) (by simp [Value.category]) dL_law_1460 (fun r1460 m1460 => ?_)
                                                                            refine zr_aload_n C dL_law_1463 rfl ?_
                                                                            refine zr_aload_n C dL_law_1464 rfl ?_
                                                                            refine zr_iload_n C dL_law_1465 rfl ?_
                                                                            refine zr_iconst (v := 1) C dL_law_1466 rfl ?_
                                                                            refine zr_iadd C dL_law_1467 ?_
                                                                            refine zr_sald0 C dL_law_1468 ?_
                                                                            refine zk_L_160 C F (Nat.le_of_ble_eq_true rfl) (Nat.le_trans (by decide) hh) (by simp [Value.category]) dL_law_1469 (fun r1469 m1469 => ?_)
                                                                            refine zr_icmp_eq (tgt := 1936) C dL_law_1472 (by decide) ?_ ?_
                                                                            · refine zr_iinc (kk := 3) (v := (l3 + 6)) (L1 := [(3, .int _), (0, .ref _), (1, .ref _), (2, .ref _)]) C dL_law_1936 rfl rfl (by decide) rfl ?_
                                                                              refine zr_goto (tgt := 18) C dL_law_1939 (by decide) ?_
                                                                              exact zr_sub [1, 2, 3, 0] rfl (hrec18 m1469 ((l3 + 6)))
                                                                            · refine zr_iconst (v := 0) C dL_law_1475 rfl ?_
                                                                              exact hret _ _ _ _ dL_law_1476
                                                                          · refine zr_if (fun hx => ?_) (fun _ => ?_)
                                                                            · refine zr_tabIn (tgt := 1477) C dL_law_33 (by rw [hx]; decide) (by rw [hx]; decide) (off := 1444) (by rw [hx]; decide) (by decide) ?_
                                                                              refine zr_aload_n C dL_law_1477 rfl ?_
                                                                              refine zr_aload_n C dL_law_1478 rfl ?_
                                                                              refine zr_iload_n C dL_law_1479 rfl ?_
                                                                              refine zr_iconst (v := 1) C dL_law_1480 rfl ?_
                                                                              refine zr_iadd C dL_law_1481 ?_
                                                                              refine zr_sald0 C dL_law_1482 ?_
                                                                              refine zr_aload_n C dL_law_1483 rfl ?_
                                                                              refine zr_iload_n C dL_law_1484 rfl ?_
                                                                              refine zr_iconst (v := 2) C dL_law_1485 rfl ?_
                                                                              refine zr_iadd C dL_law_1486 ?_
                                                                              refine zr_sald0 C dL_law_1487 ?_
                                                                              refine zr_aload_n C dL_law_1488 rfl ?_
                                                                              refine zr_iload_n C dL_law_1489 rfl ?_
                                                                              refine zr_iconst (v := 3) C dL_law_1490 rfl ?_
                                                                              refine zr_iadd C dL_law_1491 ?_
                                                                              refine zr_sald0 C dL_law_1492 ?_
                                                                              refine zk_L_161 C F (Nat.le_of_ble_eq_true rfl) (Nat.le_trans (by decide) hh) (by simp [Value.category]) dL_law_1493 (fun r1493 m1493 => ?_)
                                                                              refine zr_aload_n C dL_law_1496 rfl ?_
                                                                              refine zr_aload_n C dL_law_1497 rfl ?_
                                                                              refine zr_iload_n C dL_law_1498 rfl ?_
                                                                              refine zr_iconst (v := 1) C dL_law_1499 rfl ?_
                                                                              refine zr_iadd C dL_law_1500 ?_
                                                                              refine zr_sald0 C dL_law_1501 ?_
                                                                              refine zr_aload_n C dL_law_1502 rfl ?_
                                                                              refine zr_iload_n C dL_law_1503 rfl ?_
                                                                              refine zr_iconst (v := 2) C dL_law_1504 rfl ?_
                                                                              refine zr_iadd C dL_law_1505 ?_
                                                                              refine zr_sald0 C dL_law_1506 ?_
                                                                              refine zr_aload_n C dL_law_1507 rfl ?_
                                                                              refine zr_iload_n C dL_law_1508 rfl ?_
                                                                              refine zr_iconst (v := 3) C dL_law_1509 rfl ?_
                                                                              refine zr_iadd C dL_law_1510 ?_
                                                                              refine zr_sald0 C dL_law_1511 ?_
                                                                              refine zk_L_164 C F (Nat.le_of_ble_eq_true rfl) (Nat.le_trans (by decide) hh) (by simp [Value.category]) dL_law_1512 (fun r1512 m1512 => ?_)
                                                                              refine zr_icmp_eq (tgt := 1936) C dL_law_1515 (by decide) ?_ ?_
                                                                              · refine zr_iinc (kk := 3) (v := (l3 + 6)) (L1 := [(3, .int _), (0, .ref _), (1, .ref _), (2, .ref _)]) C dL_law_1936 rfl rfl (by decide) rfl ?_
                                                                                refine zr_goto (tgt := 18) C dL_law_1939 (by decide) ?_
                                                                                exact zr_sub [1, 2, 3, 0] rfl (hrec18 m1512 ((l3 + 6)))
                                                                              · refine zr_iconst (v := 0) C dL_law_1518 rfl ?_
                                                                                exact hret _ _ _ _ dL_law_1519
                                                                            · refine zr_if (fun hx => ?_) (fun _ => ?_)
                                                                              · refine zr_tabIn (tgt := 1520) C dL_law_33 (by rw [hx]; decide) (by rw [hx]; decide) (off := 1487) (by rw [hx]; decide) (by decide) ?_
                                                                                refine zr_aload_n C dL_law_1520 rfl ?_
                                                                                refine zr_aload_n C dL_law_1521 rfl ?_
                                                                                refine zr_iload_n C dL_law_1522 rfl ?_
                                                                                refine zr_iconst (v := 1) C dL_law_1523 rfl ?_
                                                                                refine zr_iadd C dL_law_1524 ?_
                                                                                refine zr_sald0 C dL_law_1525 ?_
                                                                                refine zk_L_165 C F (Nat.le_of_ble_eq_true rfl) (Nat.le_trans (by decide) hh) (by simp [Value.category]) dL_law_1526 (fun r1526 m1526 => ?_)
                                                                                refine zr_aload_n C dL_law_1529 rfl ?_
                                                                                refine zr_aload_n C dL_law_1530 rfl ?_
                                                                                refine zr_iload_n C dL_law_1531 rfl ?_
                                                                                refine zr_iconst (v := 1) C dL_law_1532 rfl ?_
                                                                                refine zr_iadd C dL_law_1533 ?_
                                                                                refine zr_sald0 C dL_law_1534 ?_
                                                                                refine zk_L_168 C F (Nat.le_of_ble_eq_true rfl) (Nat.le_trans (by decide) hh) (by simp [Value.category]) dL_law_1535 (fun r1535 m1535 => ?_)
                                                                                refine zr_icmp_eq (tgt := 1936) C dL_law_1538 (by decide) ?_ ?_
                                                                                · refine zr_iinc (kk := 3) (v := (l3 + 6)) (L1 := [(3, .int _), (0, .ref _), (1, .ref _), (2, .ref _)]) C dL_law_1936 rfl rfl (by decide) rfl ?_
                                                                                  refine zr_goto (tgt := 18) C dL_law_1939 (by decide) ?_
                                                                                  exact zr_sub [1, 2, 3, 0] rfl (hrec18 m1535 ((l3 + 6)))
                                                                                · refine zr_iconst (v := 0) C dL_law_1541 rfl ?_
                                                                                  exact hret _ _ _ _ dL_law_1542
                                                                              · refine zr_if (fun hx => ?_) (fun _ => ?_)
                                                                                · refine zr_tabIn (tgt := 1543) C dL_law_33 (by rw [hx]; decide) (by rw [hx]; decide) (off := 1510) (by rw [hx]; decide) (by decide) ?_
                                                                                  refine zr_aload_n C dL_law_1543 rfl ?_
                                                                                  refine zr_aload_n C dL_law_1544 rfl ?_
                                                                                  refine zr_iload_n C dL_law_1545 rfl ?_
                                                                                  refine zr_iconst (v := 1) C dL_law_1546 rfl ?_
                                                                                  refine zr_iadd C dL_law_1547 ?_
                                                                                  refine zr_sald0 C dL_law_1548 ?_
                                                                                  refine zr_aload_n C dL_law_1549 rfl ?_
                                                                                  refine zr_iload_n C dL_law_1550 rfl ?_
                                                                                  refine zr_iconst (v := 2) C dL_law_1551 rfl ?_
                                                                                  refine zr_iadd C dL_law_1552 ?_
                                                                                  refine zr_sald0 C dL_law_1553 ?_
                                                                                  refine zk_L_169 C F (Nat.le_of_ble_eq_true rfl) (Nat.le_trans (by decide) hh) (by simp [Value.category]) dL_law_1554 (fun r1554 m1554 => ?_)
                                                                                  refine zr_aload_n C dL_law_1557 rfl ?_
                                                                                  refine zr_aload_n C dL_law_1558 rfl ?_
                                                                                  refine zr_iload_n C dL_law_1559 rfl ?_
                                                                                  refine zr_iconst (v := 1) C dL_law_1560 rfl ?_
                                                                                  refine zr_iadd C dL_law_1561 ?_
                                                                                  refine zr_sald0 C dL_law_1562 ?_
                                                                                  refine zr_aload_n C dL_law_1563 rfl ?_
                                                                                  refine zr_iload_n C dL_law_1564 rfl ?_
                                                                                  refine zr_iconst (v := 2) C dL_law_1565 rfl ?_
                                                                                  refine zr_iadd C dL_law_1566 ?_
                                                                                  refine zr_sald0 C dL_law_1567 ?_
                                                                                  refine zk_L_172 C F (Nat.le_of_ble_eq_true rfl) (Nat.le_trans (by decide) hh) (by simp [Value.category]) dL_law_1568 (fun r1568 m1568 => ?_)
                                                                                  refine zr_icmp_eq (tgt := 1936) C dL_law_1571 (by decide) ?_ ?_
                                                                                  · refine zr_iinc (kk := 3) (v := (l3 + 6)) (L1 := [(3, .int _), (0, .ref _), (1, .ref _), (2, .ref _)]) C dL_law_1936 rfl rfl (by decide) rfl ?_
                                                                                    refine zr_goto (tgt := 18) C dL_law_1939 (by decide) ?_
                                                                                    exact zr_sub [1, 2, 3, 0] rfl (hrec18 m1568 ((l3 + 6)))
                                                                                  · refine zr_iconst (v := 0) C dL_law_1574 rfl ?_
                                                                                    exact hret _ _ _ _ dL_law_1575
                                                                                · refine zr_if (fun hx => ?_) (fun _ => ?_)
                                                                                  · refine zr_tabIn (tgt := 1576) C dL_law_33 (by rw [hx]; decide) (by rw [hx]; decide) (off := 1543) (by rw [hx]; decide) (by decide) ?_
                                                                                    refine zr_aload_n C dL_law_1576 rfl ?_
                                                                                    refine zk_L_173 C F (Nat.le_of_ble_eq_true rfl) (Nat.le_trans (by decide) hh) (by simp [Value.category]) dL_law_1577 (fun r1577 m1577 => ?_)
                                                                                    refine zr_aload_n C dL_law_1580 rfl ?_
                                                                                    refine zk_L_176 C F (Nat.le_of_ble_eq_true rfl) (Nat.le_trans (by decide) hh) (by simp [Value.category]) dL_law_1581 (fun r1581 m1581 => ?_)
                                                                                    refine zr_icmp_eq (tgt := 1936) C dL_law_1584 (by decide) ?_ ?_
                                                                                    · refine zr_iinc (kk := 3) (v := (l3 + 6)) (L1 := [(3, .int _), (0, .ref _), (1, .ref _), (2, .ref _)]) C dL_law_1936 rfl rfl (by decide) rfl ?_
                                                                                      refine zr_goto (tgt := 18) C dL_law_1939 (by decide) ?_
                                                                                      exact zr_sub [1, 2, 3, 0] rfl (hrec18 m1581 ((l3 + 6)))
                                                                                    · refine zr_iconst (v := 0) C dL_law_1587 rfl ?_
                                                                                      exact hret _ _ _ _ dL_law_1588
                                                                                  · refine zr_if (fun hx => ?_) (fun _ => ?_)
                                                                                    · refine zr_tabIn (tgt := 1589) C dL_law_33 (by rw [hx]; decide) (by rw [hx]; decide) (off := 1556) (by rw [hx]; decide) (by decide) ?_
                                                                                      refine zr_aload_n C dL_law_1589 rfl ?_
                                                                                      refine zr_aload_n C dL_law_1590 rfl ?_
                                                                                      refine zr_iload_n C dL_law_1591 rfl ?_
                                                                                      refine zr_iconst (v := 1) C dL_law_1592 rfl ?_
                                                                                      refine zr_iadd C dL_law_1593 ?_
                                                                                      refine zr_sald0 C dL_law_1594 ?_
                                                                                      refine zr_aload_n C dL_law_1595 rfl ?_
                                                                                      refine zr_iload_n C dL_law_1596 rfl ?_
                                                                                      refine zr_iconst (v := 2) C dL_law_1597 rfl ?_
                                                                                      refine zr_iadd C dL_law_1598 ?_
                                                                                      refine zr_sald0 C dL_law_1599 ?_
                                                                                      refine zr_aload_n C dL_law_1600 rfl ?_
                                                                                      refine zr_iload_n C dL_law_1601 rfl ?_
                                                                                      refine zr_iconst (v := 3) C dL_law_1602 rfl ?_
                                                                                      refine zr_iadd C dL_law_1603 ?_
                                                                                      refine zr_sald0 C dL_law_1604 ?_
                                                                                      refine zk_L_177 C F (Nat.le_of_ble_eq_true rfl) (Nat.le_trans (by decide) hh) (by simp [Value.category]) dL_law_1605 (fun r1605 m1605 => ?_)
                                                                                      refine zr_aload_n C dL_law_1608 rfl ?_
                                                                                      refine zr_aload_n C dL_law_1609 rfl ?_
                                                                                      refine zr_iload_n C dL_law_1610 rfl ?_
                                                                                      refine zr_iconst (v := 1) C dL_law_1611 rfl ?_
                                                                                      refine zr_iadd C dL_law_1612 ?_
                                                                                      refine zr_sald0 C dL_law_1613 ?_
                                                                                      refine zr_aload_n C dL_law_1614 rfl ?_
                                                                                      refine zr_iload_n C dL_law_1615 rfl ?_
                                                                                      refine zr_iconst (v := 2) C dL_law_1616 rfl ?_
                                                                                      refine zr_iadd C dL_law_1617 ?_
                                                                                      refine zr_sald0 C dL_law_1618 ?_
                                                                                      refine zr_aload_n C dL_law_1619 rfl ?_
                                                                                      refine zr_iload_n C dL_law_1620 rfl ?_
                                                                                      refine zr_iconst (v := 3) C dL_law_1621 rfl ?_
                                                                                      refine zr_iadd C dL_law_1622 ?_
                                                                                      refine zr_sald0 C dL_law_1623 ?_
                                                                                      refine zk_L_180 C F (Nat.le_of_ble_eq_true rfl) (Nat.le_trans (by decide) hh) (by simp [Value.category]) dL_law_1624 (fun r1624 m1624 => ?_)
                                                                                      refine zr_icmp_eq (tgt := 1936) C dL_law_1627 (by decide) ?_ ?_
                                                                                      · refine zr_iinc (kk := 3) (v := (l3 + 6)) (L1 := [(3, .int _), (0, .ref _), (1, .ref _), (2, .ref _)]) C dL_law_1936 rfl rfl (by decide) rfl ?_
                                                                                        refine zr_goto (tgt := 18) C dL_law_1939 (by decide) ?_
                                                                                        exact zr_sub [1, 2, 3, 0] rfl (hrec18 m1624 ((l3 + 6)))
                                                                                      · refine zr_iconst (v := 0) C dL_law_1630 rfl ?_
                                                                                        exact hret _ _ _ _ dL_law_1631
                                                                                    · refine zr_if (fun hx => ?_) (fun _ => ?_)
                                                                                      · refine zr_tabIn (tgt := 1632) C dL_law_33 (by rw [hx]; decide) (by rw [hx]; decide) (off := 1599) (by rw [hx]; decide) (by decide) ?_
                                                                                        refine zr_aload_n C dL_law_1632 rfl ?_
                                                                                        refine zr_aload_n C dL_law_1633 rfl ?_
                                                                                        refine zr_iload_n C dL_law_1634 rfl ?_
                                                                                        refine zr_iconst (v := 1) C dL_law_1635 rfl ?_
                                                                                        refine zr_iadd C dL_law_1636 ?_
                                                                                        refine zr_sald0 C dL_law_1637 ?_
                                                                                        refine zr_aload_n C dL_law_1638 rfl ?_
                                                                                        refine zr_iload_n C dL_law_1639 rfl ?_
                                                                                        refine zr_iconst (v := 2) C dL_law_1640 rfl ?_
                                                                                        refine zr_iadd C dL_law_1641 ?_
                                                                                        refine zr_sald0 C dL_law_1642 ?_
                                                                                        refine zr_aload_n C dL_law_1643 rfl ?_
                                                                                        refine zr_iload_n C dL_law_1644 rfl ?_
                                                                                        refine zr_iconst (v := 3) C dL_law_1645 rfl ?_
                                                                                        refine zr_iadd C dL_law_1646 ?_
                                                                                        refine zr_sald0 C dL_law_1647 ?_
                                                                                        refine zk_L_181 C F (Nat.le_of_ble_eq_true rfl) (Nat.le_trans (by decide) hh) (by simp [Value.category]) dL_law_1648 (fun r1648 m1648 => ?_)
                                                                                        refine zr_aload_n C dL_law_1651 rfl ?_
                                                                                        refine zr_aload_n C dL_law_1652 rfl ?_
                                                                                        refine zr_iload_n C dL_law_1653 rfl ?_
                                                                                        refine zr_iconst (v := 1) C dL_law_1654 rfl ?_
                                                                                        refine zr_iadd C dL_law_1655 ?_
                                                                                        refine zr_sald0 C dL_law_1656 ?_
                                                                                        refine zr_aload_n C dL_law_1657 rfl ?_
                                                                                        refine zr_iload_n C dL_law_1658 rfl ?_
                                                                                        refine zr_iconst (v := 2) C dL_law_1659 rfl ?_
                                                                                        refine zr_iadd C dL_law_1660 ?_
                                                                                        refine zr_sald0 C dL_law_1661 ?_
                                                                                        refine zr_aload_n C dL_law_1662 rfl ?_
                                                                                        refine zr_iload_n C dL_law_1663 rfl ?_
                                                                                        refine zr_iconst (v := 3) C dL_law_1664 rfl ?_
                                                                                        refine zr_iadd C dL_law_1665 ?_
                                                                                        refine zr_sald0 C dL_law_1666 ?_
                                                                                        refine zk_L_184 C F (Nat.le_of_ble_eq_true rfl) (Nat.le_trans (by decide) hh) (by simp [Value.category]) dL_law_1667 (fun r1667 m1667 => ?_)
                                                                                        refine zr_icmp_eq (tgt := 1936) C dL_law_1670 (by decide) ?_ ?_
                                                                                        · refine zr_iinc (kk := 3) (v := (l3 + 6)) (L1 := [(3, .int _), (0, .ref _), (1, .ref _), (2, .ref _)]) C dL_law_1936 rfl rfl (by decide) rfl ?_
                                                                                          refine zr_goto (tgt := 18) C dL_law_1939 (by decide) ?_
                                                                                          exact zr_sub [1, 2, 3, 0] rfl (hrec18 m1667 ((l3 + 6)))
                                                                                        · refine zr_iconst (v := 0) C dL_law_1673 rfl ?_
                                                                                          exact hret _ _ _ _ dL_law_1674
                                                                                      · refine zr_if (fun hx => ?_) (fun _ => ?_)
                                                                                        · refine zr_tabIn (tgt := 1675) C dL_law_33 (by rw [hx]; decide) (by rw [hx]; decide) (off := 1642) (by rw [hx]; decide) (by decide) ?_
                                                                                          refine zr_aload_n C dL_law_1675 rfl ?_
                                                                                          refine zr_aload_n C dL_law_1676 rfl ?_
                                                                                          refine zr_iload_n C dL_law_1677 rfl ?_
                                                                                          refine zr_iconst (v := 1) C dL_law_1678 rfl ?_
                                                                                          refine zr_iadd C dL_law_1679 ?_
                                                                                          refine zr_sald0 C dL_law_1680 ?_
                                                                                          refine zk_L_185 C F (Nat.le_of_ble_eq_true rfl) (Nat.le_trans (by decide) hh) (by simp [Value.category]) dL_law_1681 (fun r1681 m1681 => ?_)
                                                                                          refine zr_aload_n C dL_law_1684 rfl ?_
                                                                                          refine zr_aload_n C dL_law_1685 rfl ?_
                                                                                          refine zr_iload_n C dL_law_1686 rfl ?_
                                                                                          refine zr_iconst (v := 1) C dL_law_1687 rfl ?_
                                                                                          refine zr_iadd C dL_law_1688 ?_
                                                                                          refine zr_sald0 C dL_law_1689 ?_
                                                                                          refine zk_L_188 C F (Nat.le_of_ble_eq_true rfl) (Nat.le_trans (by decide) hh) (by simp [Value.category]) dL_law_1690 (fun r1690 m1690 => ?_)
                                                                                          refine zr_icmp_eq (tgt := 1936) C dL_law_1693 (by decide) ?_ ?_
                                                                                          · refine zr_iinc (kk := 3) (v := (l3 + 6)) (L1 := [(3, .int _), (0, .ref _), (1, .ref _), (2, .ref _)]) C dL_law_1936 rfl rfl (by decide) rfl ?_
                                                                                            refine zr_goto (tgt := 18) C dL_law_1939 (by decide) ?_
                                                                                            exact zr_sub [1, 2, 3, 0] rfl (hrec18 m1690 ((l3 + 6)))
                                                                                          · refine zr_iconst (v := 0) C dL_law_1696 rfl ?_
                                                                                            exact hret _ _ _ _ dL_law_1697
                                                                                        · refine zr_if (fun hx => ?_) (fun _ => ?_)
                                                                                          · refine zr_tabIn (tgt := 1698) C dL_law_33 (by rw [hx]; decide) (by rw [hx]; decide) (off := 1665) (by rw [hx]; decide) (by decide) ?_
                                                                                            refine zr_aload_n C dL_law_1698 rfl ?_
                                                                                            refine zr_aload_n C dL_law_1699 rfl ?_
                                                                                            refine zr_iload_n C dL_law_1700 rfl ?_
                                                                                            refine zr_iconst (v := 1) C dL_law_1701 rfl ?_
                                                                                            refine zr_iadd C dL_law_1702 ?_
                                                                                            refine zr_sald0 C dL_law_1703 ?_
                                                                                            refine zr_aload_n C dL_law_1704 rfl ?_
                                                                                            refine zr_iload_n C dL_law_1705 rfl ?_
                                                                                            refine zr_iconst (v := 2) C dL_law_1706 rfl ?_
                                                                                            refine zr_iadd C dL_law_1707 ?_
                                                                                            refine zr_sald0 C dL_law_1708 ?_
                                                                                            refine zk_L_189 C F (Nat.le_of_ble_eq_true rfl) (Nat.le_trans (by decide) hh) (by simp [Value.category]) dL_law_1709 (fun r1709 m1709 => ?_)
                                                                                            refine zr_aload_n C dL_law_1712 rfl ?_
                                                                                            refine zr_aload_n C dL_law_1713 rfl ?_
                                                                                            refine zr_iload_n C dL_law_1714 rfl ?_
                                                                                            refine zr_iconst (v := 1) C dL_law_1715 rfl ?_
                                                                                            refine zr_iadd C dL_law_1716 ?_
                                                                                            refine zr_sald0 C dL_law_1717 ?_
                                                                                            refine zr_aload_n C dL_law_1718 rfl ?_
                                                                                            refine zr_iload_n C dL_law_1719 rfl ?_
                                                                                            refine zr_iconst (v := 2) C dL_law_1720 rfl ?_
                                                                                            refine zr_iadd C dL_law_1721 ?_
                                                                                            refine zr_sald0 C dL_law_1722 ?_
                                                                                            refine zk_L_192 C F (Nat.le_of_ble_eq_true rfl) (Nat.le_trans (by decide) hh) (by simp [Value.category]) dL_law_1723 (fun r1723 m1723 => ?_)
                                                                                            refine zr_icmp_eq (tgt := 1936) C dL_law_1726 (by decide) ?_ ?_
                                                                                            · refine zr_iinc (kk := 3) (v := (l3 + 6)) (L1 := [(3, .int _), (0, .ref _), (1, .ref _), (2, .ref _)]) C dL_law_1936 rfl rfl (by decide) rfl ?_
                                                                                              refine zr_goto (tgt := 18) C dL_law_1939 (by decide) ?_
                                                                                              exact zr_sub [1, 2, 3, 0] rfl (hrec18 m1723 ((l3 + 6)))
                                                                                            · refine zr_iconst (v := 0) C dL_law_1729 rfl ?_
                                                                                              exact hret _ _ _ _ dL_law_1730
                                                                                          · refine zr_if (fun hx => ?_) (fun _ => ?_)
                                                                                            · refine zr_tabIn (tgt := 1731) C dL_law_33 (by rw [hx]; decide) (by rw [hx]; decide) (off := 1698) (by rw [hx]; decide) (by decide) ?_
                                                                                              refine zr_aload_n C dL_law_1731 rfl ?_
                                                                                              refine zr_aload_n C dL_law_1732 rfl ?_
                                                                                              refine zr_iload_n C dL_law_1733 rfl ?_
                                                                                              refine zr_iconst (v := 1) C dL_law_1734 rfl ?_
                                                                                              refine zr_iadd C dL_law_1735 ?_
                                                                                              refine zr_sald0 C dL_law_1736 ?_
                                                                                              refine zk_L_193 C F (Nat.le_of_ble_eq_true rfl) (Nat.le_trans (by decide) hh) (by simp [Value.category]) dL_law_1737 (fun r1737 m1737 => ?_)
                                                                                              refine zr_aload_n C dL_law_1740 rfl ?_
                                                                                              refine zr_aload_n C dL_law_1741 rfl ?_
                                                                                              refine zr_iload_n C dL_law_1742 rfl ?_
                                                                                              refine zr_iconst (v := 1) C dL_law_1743 rfl ?_
                                                                                              refine zr_iadd C dL_law_1744 ?_
                                                                                              refine zr_sald0 C dL_law_1745 ?_
                                                                                              refine zk_L_196 C F (Nat.le_of_ble_eq_true rfl) (Nat.le_trans (by decide) hh) (by simp [Value.category]) dL_law_1746 (fun r1746 m1746 => ?_)
                                                                                              refine zr_icmp_eq (tgt := 1936) C dL_law_1749 (by decide) ?_ ?_
                                                                                              · refine zr_iinc (kk := 3) (v := (l3 + 6)) (L1 := [(3, .int _), (0, .ref _), (1, .ref _), (2, .ref _)]) C dL_law_1936 rfl rfl (by decide) rfl ?_
                                                                                                refine zr_goto (tgt := 18) C dL_law_1939 (by decide) ?_
                                                                                                exact zr_sub [1, 2, 3, 0] rfl (hrec18 m1746 ((l3 + 6)))
                                                                                              · refine zr_iconst (v := 0) C dL_law_1752 rfl ?_
                                                                                                exact hret _ _ _ _ dL_law_1753
                                                                                            · refine zr_if (fun hx => ?_) (fun _ => ?_)
                                                                                              · refine zr_tabIn (tgt := 1754) C dL_law_33 (by rw [hx]; decide) (by rw [hx]; decide) (off := 1721) (by rw [hx]; decide) (by decide) ?_
                                                                                                refine zr_aload_n C dL_law_1754 rfl ?_
                                                                                                refine zr_aload_n C dL_law_1755 rfl ?_
                                                                                                refine zr_iload_n C dL_law_1756 rfl ?_
                                                                                                refine zr_iconst (v := 1) C dL_law_1757 rfl ?_
                                                                                                refine zr_iadd C dL_law_1758 ?_
                                                                                                refine zr_sald0 C dL_law_1759 ?_
                                                                                                refine zr_aload_n C dL_law_1760 rfl ?_
                                                                                                refine zr_iload_n C dL_law_1761 rfl ?_
                                                                                                refine zr_iconst (v := 2) C dL_law_1762 rfl ?_
                                                                                                refine zr_iadd C dL_law_1763 ?_
                                                                                                refine zr_sald0 C dL_law_1764 ?_
                                                                                                refine zr_aload_n C dL_law_1765 rfl ?_
                                                                                                refine zr_iload_n C dL_law_1766 rfl ?_
                                                                                                refine zr_iconst (v := 3) C dL_law_1767 rfl ?_
                                                                                                refine zr_iadd C dL_law_1768 ?_
                                                                                                refine zr_sald0 C dL_law_1769 ?_
                                                                                                refine zk_L_197 C F (Nat.le_of_ble_eq_true rfl) (Nat.le_trans (by decide) hh) (by simp [Value.category]) dL_law_1770 (fun r1770 m1770 => ?_)
                                                                                                refine zr_aload_n C dL_law_1773 rfl ?_
                                                                                                refine zr_aload_n C dL_law_1774 rfl ?_
                                                                                                refine zr_iload_n C dL_law_1775 rfl ?_
                                                                                                refine zr_iconst (v := 1) C dL_law_1776 rfl ?_
                                                                                                refine zr_iadd C dL_law_1777 ?_
                                                                                                refine zr_sald0 C dL_law_1778 ?_
                                                                                                refine zr_aload_n C dL_law_1779 rfl ?_
                                                                                                refine zr_iload_n C dL_law_1780 rfl ?_
                                                                                                refine zr_iconst (v := 2) C dL_law_1781 rfl ?_
                                                                                                refine zr_iadd C dL_law_1782 ?_
                                                                                                refine zr_sald0 C dL_law_1783 ?_
                                                                                                refine zr_aload_n C dL_law_1784 rfl ?_
                                                                                                refine zr_iload_n C dL_law_1785 rfl ?_
                                                                                                refine zr_iconst (v := 3) C dL_law_1786 rfl ?_
                                                                                                refine zr_iadd C dL_law_1787 ?_
                                                                                                refine zr_sald0 C dL_law_1788 ?_
                                                                                                refine zk_L_200 C F (Nat.le_of_ble_eq_true rfl) (Nat.le_trans (by decide) hh) (by simp [Value.category]) dL_law_1789 (fun r1789 m1789 => ?_)
                                                                                                refine zr_icmp_eq (tgt := 1936) C dL_law_1792 (by decide) ?_ ?_
                                                                                                · refine zr_iinc (kk := 3) (v := (l3 + 6)) (L1 := [(3, .int _), (0, .ref _), (1, .ref _), (2, .ref _)]) C dL_law_1936 rfl rfl (by decide) rfl ?_
                                                                                                  refine zr_goto (tgt := 18) C dL_law_1939 (by decide) ?_
                                                                                                  exact zr_sub [1, 2, 3, 0] rfl (hrec18 m1789 ((l3 + 6)))
                                                                                                · refine zr_iconst (v := 0) C dL_law_1795 rfl ?_
                                                                                                  exact hret _ _ _ _ dL_law_1796
                                                                                              · refine zr_if (fun hx => ?_) (fun _ => ?_)
                                                                                                · refine zr_tabIn (tgt := 1797) C dL_law_33 (by rw [hx]; decide) (by rw [hx]; decide) (off := 1764) (by rw [hx]; decide) (by decide) ?_
                                                                                                  refine zr_aload_n C dL_law_1797 rfl ?_
                                                                                                  refine zr_aload_n C dL_law_1798 rfl ?_
                                                                                                  refine zr_iload_n C dL_law_1799 rfl ?_
                                                                                                  refine zr_iconst (v := 1) C dL_law_1800 rfl ?_
                                                                                                  refine zr_iadd C dL_law_1801 ?_
                                                                                                  refine zr_sald0 C dL_law_1802 ?_
                                                                                                  refine zr_aload_n C dL_law_1803 rfl ?_
                                                                                                  refine zr_iload_n C dL_law_1804 rfl ?_
                                                                                                  refine zr_iconst (v := 2) C dL_law_1805 rfl ?_
                                                                                                  refine zr_iadd C dL_law_1806 ?_
                                                                                                  refine zr_sald0 C dL_law_1807 ?_
                                                                                                  refine zr_aload_n C dL_law_1808 rfl ?_
                                                                                                  refine zr_iload_n C dL_law_1809 rfl ?_
                                                                                                  refine zr_iconst (v := 3) C dL_law_1810 rfl ?_
                                                                                                  refine zr_iadd C dL_law_1811 ?_
                                                                                                  refine zr_sald0 C dL_law_1812 ?_
                                                                                                  refine zk_L_201 C F (Nat.le_of_ble_eq_true rfl) (Nat.le_trans (by decide) hh) (by simp [Value.category]) dL_law_1813 (fun r1813 m1813 => ?_)
                                                                                                  refine zr_aload_n C dL_law_1816 rfl ?_
                                                                                                  refine zr_aload_n C dL_law_1817 rfl ?_
                                                                                                  refine zr_iload_n C dL_law_1818 rfl ?_
                                                                                                  refine zr_iconst (v := 1) C dL_law_1819 rfl ?_
                                                                                                  refine zr_iadd C dL_law_1820 ?_
                                                                                                  refine zr_sald0 C dL_law_1821 ?_
                                                                                                  refine zr_aload_n C dL_law_1822 rfl ?_
                                                                                                  refine zr_iload_n C dL_law_1823 rfl ?_
                                                                                                  refine zr_iconst (v := 2) C dL_law_1824 rfl ?_
                                                                                                  refine zr_iadd C dL_law_1825 ?_
                                                                                                  refine zr_sald0 C dL_law_1826 ?_
                                                                                                  refine zr_aload_n C dL_law_1827 rfl ?_
                                                                                                  refine zr_iload_n C dL_law_1828 rfl ?_
                                                                                                  refine zr_iconst (v := 3) C dL_law_1829 rfl ?_
                                                                                                  refine zr_iadd C dL_law_1830 ?_
                                                                                                  refine zr_sald0 C dL_law_1831 ?_
                                                                                                  refine zk_L_204 C F (Nat.le_of_ble_eq_true rfl) (Nat.le_trans (by decide) hh) (by simp [Value.category]) dL_law_1832 (fun r1832 m1832 => ?_)
                                                                                                  refine zr_icmp_eq (tgt := 1936) C dL_law_1835 (by decide) ?_ ?_
                                                                                                  · refine zr_iinc (kk := 3) (v := (l3 + 6)) (L1 := [(3, .int _), (0, .ref _), (1, .ref _), (2, .ref _)]) C dL_law_1936 rfl rfl (by decide) rfl ?_
                                                                                                    refine zr_goto (tgt := 18) C dL_law_1939 (by decide) ?_
                                                                                                    exact zr_sub [1, 2, 3, 0] rfl (hrec18 m1832 ((l3 + 6)))
                                                                                                  · refine zr_iconst (v := 0) C dL_law_1838 rfl ?_
                                                                                                    exact hret _ _ _ _ dL_law_1839
                                                                                                · refine zr_if (fun hx => ?_) (fun _ => ?_)
                                                                                                  · refine zr_tabIn (tgt := 1840) C dL_law_33 (by rw [hx]; decide) (by rw [hx]; decide) (off := 1807) (by rw [hx]; decide) (by decide) ?_
                                                                                                    refine zr_aload_n C dL_law_1840 rfl ?_
                                                                                                    refine zr_aload_n C dL_law_1841 rfl ?_
                                                                                                    refine zr_iload_n C dL_law_1842 rfl ?_
                                                                                                    refine zr_iconst (v := 1) C dL_law_1843 rfl ?_
                                                                                                    refine zr_iadd C dL_law_1844 ?_
                                                                                                    refine zr_sald0 C dL_law_1845 ?_
                                                                                                    refine zr_aload_n C dL_law_1846 rfl ?_
                                                                                                    refine zr_iload_n C dL_law_1847 rfl ?_
                                                                                                    refine zr_iconst (v := 2) C dL_law_1848 rfl ?_
                                                                                                    refine zr_iadd C dL_law_1849 ?_
                                                                                                    refine zr_sald0 C dL_law_1850 ?_
                                                                                                    refine zk_L_205 C F (Nat.le_of_ble_eq_true rfl) (Nat.le_trans (by decide) hh) (by simp [Value.category]) dL_law_1851 (fun r1851 m1851 => ?_)
                                                                                                    refine zr_aload_n C dL_law_1854 rfl ?_
                                                                                                    refine zr_aload_n C dL_law_1855 rfl ?_
                                                                                                    refine zr_iload_n C dL_law_1856 rfl ?_
                                                                                                    refine zr_iconst (v := 1) C dL_law_1857 rfl ?_
                                                                                                    refine zr_iadd C dL_law_1858 ?_
                                                                                                    refine zr_sald0 C dL_law_1859 ?_
                                                                                                    refine zr_aload_n C dL_law_1860 rfl ?_
                                                                                                    refine zr_iload_n C dL_law_1861 rfl ?_
                                                                                                    refine zr_iconst (v := 2) C dL_law_1862 rfl ?_
                                                                                                    refine zr_iadd C dL_law_1863 ?_
                                                                                                    refine zr_sald0 C dL_law_1864 ?_
                                                                                                    refine zk_L_208 C F (Nat.le_of_ble_eq_true rfl) (Nat.le_trans (by decide) hh) (by simp [Value.category]) dL_law_1865 (fun r1865 m1865 => ?_)
                                                                                                    refine zr_icmp_eq (tgt := 1936) C dL_law_1868 (by decide) ?_ ?_
                                                                                                    · refine zr_iinc (kk := 3) (v := (l3 + 6)) (L1 := [(3, .int _), (0, .ref _), (1, .ref _), (2, .ref _)]) C dL_law_1936 rfl rfl (by decide) rfl ?_
                                                                                                      refine zr_goto (tgt := 18) C dL_law_1939 (by decide) ?_
                                                                                                      exact zr_sub [1, 2, 3, 0] rfl (hrec18 m1865 ((l3 + 6)))
                                                                                                    · refine zr_iconst (v := 0) C dL_law_1871 rfl ?_
                                                                                                      exact hret _ _ _ _ dL_law_1872
                                                                                                  · refine zr_if (fun hx => ?_) (fun _ => ?_)
                                                                                                    · refine zr_tabIn (tgt := 1873) C dL_law_33 (by rw [hx]; decide) (by rw [hx]; decide) (off := 1840) (by rw [hx]; decide) (by decide) ?_
                                                                                                      refine zr_aload_n C dL_law_1873 rfl ?_
                                                                                                      refine zr_aload_n C dL_law_1874 rfl ?_
                                                                                                      refine zr_iload_n C dL_law_1875 rfl ?_
                                                                                                      refine zr_iconst (v := 1) C dL_law_1876 rfl ?_
                                                                                                      refine zr_iadd C dL_law_1877 ?_
                                                                                                      refine zr_sald0 C dL_law_1878 ?_
                                                                                                      refine zr_aload_n C dL_law_1879 rfl ?_
                                                                                                      refine zr_iload_n C dL_law_1880 rfl ?_
                                                                                                      refine zr_iconst (v := 2) C dL_law_1881 rfl ?_
                                                                                                      refine zr_iadd C dL_law_1882 ?_
                                                                                                      refine zr_sald0 C dL_law_1883 ?_
                                                                                                      refine zr_aload_n C dL_law_1884 rfl ?_
                                                                                                      refine zr_iload_n C dL_law_1885 rfl ?_
                                                                                                      refine zr_iconst (v := 3) C dL_law_1886 rfl ?_
                                                                                                      refine zr_iadd C dL_law_1887 ?_
                                                                                                      refine zr_sald0 C dL_law_1888 ?_
                                                                                                      refine zr_aload_n C dL_law_1889 rfl ?_
                                                                                                      refine zr_iload_n C dL_law_1890 rfl ?_
                                                                                                      refine zr_iconst (v := 4) C dL_law_1891 rfl ?_
                                                                                                      refine zr_iadd C dL_law_1892 ?_
                                                                                                      refine zr_sald0 C dL_law_1893 ?_
                                                                                                      refine zr_aload_n C dL_law_1894 rfl ?_
                                                                                                      refine zr_iload_n C dL_law_1895 rfl ?_
                                                                                                      refine zr_iconst (v := 5) C dL_law_1896 rfl ?_
                                                                                                      refine zr_iadd C dL_law_1897 ?_
                                                                                                      refine zr_sald0 C dL_law_1898 ?_
                                                                                                      refine zk_L_209 C F (Nat.le_of_ble_eq_true rfl) (Nat.le_trans (by decide) hh) (by simp [Value.category]) dL_law_1899 (fun r1899 m1899 => ?_)
                                                                                                      refine zr_aload_n C dL_law_1902 rfl ?_
                                                                                                      refine zr_aload_n C dL_law_1903 rfl ?_
                                                                                                      refine zr_iload_n C dL_law_1904 rfl ?_
                                                                                                      refine zr_iconst (v := 1) C dL_law_1905 rfl ?_
                                                                                                      refine zr_iadd C dL_law_1906 ?_
                                                                                                      refine zr_sald0 C dL_law_1907 ?_
                                                                                                      refine zr_aload_n C dL_law_1908 rfl ?_
                                                                                                      refine zr_iload_n C dL_law_1909 rfl ?_
                                                                                                      refine zr_iconst (v := 2) C dL_law_1910 rfl ?_
                                                                                                      refine zr_iadd C dL_law_1911 ?_
                                                                                                      refine zr_sald0 C dL_law_1912 ?_
                                                                                                      refine zr_aload_n C dL_law_1913 rfl ?_
                                                                                                      refine zr_iload_n C dL_law_1914 rfl ?_
                                                                                                      refine zr_iconst (v := 3) C dL_law_1915 rfl ?_
                                                                                                      refine zr_iadd C dL_law_1916 ?_
                                                                                                      refine zr_sald0 C dL_law_1917 ?_
                                                                                                      refine zr_aload_n C dL_law_1918 rfl ?_
                                                                                                      refine zr_iload_n C dL_law_1919 rfl ?_
                                                                                                      refine zr_iconst (v := 4) C dL_law_1920 rfl ?_
                                                                                                      refine zr_iadd C dL_law_1921 ?_
                                                                                                      refine zr_sald0 C dL_law_1922 ?_
                                                                                                      refine zr_aload_n C dL_law_1923 rfl ?_
                                                                                                      refine zr_iload_n C dL_law_1924 rfl ?_
                                                                                                      refine zr_iconst (v := 5) C dL_law_1925 rfl ?_
                                                                                                      refine zr_iadd C dL_law_1926 ?_
                                                                                                      refine zr_sald0 C dL_law_1927 ?_
                                                                                                      refine zk_L_212 C F (Nat.le_of_ble_eq_true rfl) (Nat.le_trans (by decide) hh) (by simp [Value.category]) dL_law_1928 (fun r1928 m1928 => ?_)
                                                                                                      refine zr_icmp_eq (tgt := 1936) C dL_law_1931 (by decide) ?_ ?_
                                                                                                      · refine zr_iinc (kk := 3) (v := (l3 + 6)) (L1 := [(3, .int _), (0, .ref _), (1, .ref _), (2, .ref _)]) C dL_law_1936 rfl rfl (by decide) rfl ?_
                                                                                                        refine zr_goto (tgt := 18) C dL_law_1939 (by decide) ?_
                                                                                                        exact zr_sub [1, 2, 3, 0] rfl (hrec18 m1928 ((l3 + 6)))
                                                                                                      · refine zr_iconst (v := 0) C dL_law_1934 rfl ?_
                                                                                                        exact hret _ _ _ _ dL_law_1935
                                                                                                    · exact zr_none
theorem zW_gh {Z : zLay} {σ : zMem} {H : Heap} {v : Int32} (h : zW Z σ H) : zW Z (zwi σ 999 0 0 v) H := fun k i hi => by
  have hk : k ≠ 999 := fun q => by
    rw [q] at hi
    exact absurd hi (Nat.not_lt_zero i)
  have e : (zwi σ 999 0 0 v).1 k = σ.1 k := by
    funext a b
    exact if_neg (fun w => hk w.1)
  rw [e]
  exact h k i hi
theorem zKO_gh {E : zEn} {nL : Nat} {Z : zLay} {α : Type} {QQ : α → zMem → State → Prop} {pc : Nat} {L : List (Nat × Value)} {st : List Value} {σ : zMem} {v : Int32} {o : Option (α × zMem)} (h : zKO E nL Z QQ pc L st (zwi σ 999 0 0 v) o) : zKO E nL Z QQ pc L st σ o := fun r σ' ho H locs ls hW hS hl => h r σ' ho H locs ls (zW_gh hW) hS hl
def zlaw (F : Nat) (Z : zLay) (rec18 : zMem → Int32 → Option (Int32 × zMem)) (σ : zMem) (x : Int32) : Option (Int32 × zMem) := f_L_law_18 F Z rec18 (zwi σ 999 0 0 (σ.1 999 0 0 - 1)) x
theorem c_zlaw (F : Nat) (Z : zLay) {E : zEn} {h : Nat} {QQ : Int32 → zMem → State → Prop} (hret : ∀ (pc : Nat) (L : List (Nat × Value)) (x : Int32) (σ : zMem), decode cL_law pc = .ok (.ireturn, 1) → zKO E 4 Z QQ pc L [.int x] σ (some (x, σ))) (C : zCx E cL_law RL 4 (some .boolean) Z h) (hh : 13 ≤ h) : ∀ (n : Nat) (σ : zMem) (x : Int32), zKO E 4 Z QQ 18 [(0, .ref (zad Z 170 0)), (1, .ref (zad Z 0 0)), (2, .ref (zad Z 60 0)), (3, .int x)] [] σ (zit (zlaw F Z) n σ x) :=
  zr_loop (LL := fun (x : Int32) => [(0, .ref (zad Z 170 0)), (1, .ref (zad Z 0 0)), (2, .ref (zad Z 60 0)), (3, .int x)]) (ST := fun (_ : Int32) => []) (fun rec18 hrec18 σ x => zKO_gh (b_L_law_18 F Z hret C (by omega) rec18 hrec18 _ x))
