/-! the relation holds of the memory as the constructors leave it -/
theorem ztold00 (b : Nat) : ∀ n, ztold (fun _ => 0) b n = 0 := by
  intro n
  induction n with
  | zero => rfl
  | succ n ih =>
    show ztold (fun _ => 0) b n + (if (0 : Int32) = 0 then 0 else 1) = 0
    rw [ih, if_pos rfl]
theorem zib0 {a : Int} (h : (0 : Int) ≤ a) : zib 0 0 a := ⟨by decide, by
  show (0 : Int32).toInt ≤ a
  rw [show (0 : Int32).toInt = 0 from rfl]
  exact h⟩
theorem z0Rh : zRh zsig := ⟨⟨0, by omega, (by decide +kernel)⟩, (by decide +kernel), fun _ _ _ _ => rfl, fun _ _ => ⟨rfl, rfl, rfl, rfl, rfl, rfl, rfl, rfl, rfl⟩, fun _ _ _ _ => rfl, (by decide +kernel)⟩
theorem z0Rr : zRr zsig := ⟨⟨0, by omega, (by decide +kernel), fun _ _ _ => rfl⟩, (by decide +kernel), fun r _ => ⟨rfl, rfl, rfl, Or.inl ⟨rfl, rfl⟩⟩, fun r _ => (by decide : (0 : Int32) ≤ 0 ∧ (0 : Int32) ≤ 5 ∧ (0 : Int32) ≤ 0)⟩
theorem z0Rw : zRw zsig := ⟨⟨0, by omega, (by decide +kernel), fun _ _ _ => rfl⟩, (by decide +kernel), ⟨0, by omega, (by decide +kernel), fun j h => absurd h (Nat.not_lt_zero _)⟩, (by decide +kernel), fun w hw h => absurd h (nI_pos (by omega))⟩
theorem z0Rk : zRk zsig := ⟨fun w d _ _ => Or.inl ⟨rfl, rfl⟩, fun w b _ _ => by
  show (0 : Int32) = nI (ztold (fun _ => 0) b 60)
  rw [ztold00]
  rfl⟩
theorem z0Ra : zRa zsig := ⟨⟨0, by omega, (by decide +kernel)⟩, (by decide +kernel), ⟨0, by omega, (by decide +kernel), fun _ _ _ _ _ => rfl⟩, (by decide +kernel), fun _ _ => ⟨rfl, rfl, rfl, rfl⟩, (by decide +kernel), (by decide +kernel)⟩
theorem z0Rd : zRd zsig := ⟨⟨0, by omega, (by decide +kernel)⟩, (by decide +kernel), fun _ _ _ _ => rfl⟩
theorem z0Rl : zRl zsig := ⟨⟨0, by omega, (by decide +kernel)⟩, (by decide +kernel), fun s _ => ⟨rfl, rfl, Or.inl rfl, (by decide : (0 : Int32) ≤ 0), (by decide : (0 : Int32) ≤ 400), rfl, 0, by omega, (by decide : (0 : Int32) = nI 0), (by decide : (0 : Int32) = nI 0), fun i h => absurd h (Nat.not_lt_zero _)⟩, (by decide +kernel), Or.inl (by decide +kernel), (by decide +kernel), (by decide +kernel), (by decide +kernel), (by decide +kernel)⟩
theorem z0Rc : zRc zsig := ⟨⟨0, by omega, (by decide +kernel)⟩, (by decide +kernel), fun _ _ => ⟨rfl, rfl⟩, fun k hk => ⟨rfl, Or.inl ((by decide +kernel : ∀ k, k < 3 → zs0 103 k = -1) k hk)⟩, (by decide +kernel), Or.inl (by decide +kernel), (by decide +kernel), Or.inr ⟨(by decide +kernel), Or.inl (by decide +kernel)⟩, (by decide +kernel), (by decide +kernel)⟩
theorem z0Rt : zRt zsig := fun s hs => ⟨(by decide +kernel : ∀ s, s < 3 → zs0 47 0 = zs0 104 s) s hs, (by decide +kernel : ∀ s, s < 3 → -1 ≤ zs0 104 s) s hs, (by decide +kernel : ∀ s, s < 3 → zs0 104 s ≤ 2) s hs, (by decide +kernel : zs0 47 1 = 0), ⟨0, by omega, (by decide : (0 : Int32) = nI 0)⟩, fun i _ => Or.inr ⟨rfl, (by decide : (0 : Int64) = (0 : Int32).toInt64)⟩⟩
theorem z0Rb : zRb zsig := ⟨⟨0, by omega, (by decide +kernel)⟩, (by decide +kernel), fun i _ _ => rfl⟩
theorem z0Rz : zRz zsig := by
  refine ⟨fun h _ => ⟨zib0 (by decide), zib0 (by decide), zib0 (by decide), zib0 (by decide), zib0 (by decide)⟩, fun h _ => ⟨fun a _ => (by decide : (0 : Int) ≤ (0 : Int32).toInt), (by decide : (0 : Int32).toInt + (0 : Int32).toInt + (0 : Int32).toInt + (0 : Int32).toInt ≤ (0 : Int32).toInt)⟩, fun w hw h => absurd h (nI_pos (by omega)), (by decide +kernel), fun h _ _ => ⟨rfl, rfl, rfl, rfl, rfl⟩, fun a _ => ⟨zib0 (by decide), zib0 (by decide)⟩, fun s i _ _ h => absurd h (nI_pos (by omega)), fun h _ => ⟨zib0 (by decide), zib0 (by decide +kernel), (by decide : (-100000 : Int) ≤ (0 : Int32).toInt)⟩, ⟨(by decide +kernel), (by decide +kernel), ?_⟩, ⟨0, 512, (by decide +kernel), rfl, by omega⟩⟩
  rintro ⟨h, _, q⟩
  exact absurd rfl q
theorem z0Rel : zRel zsig := ⟨z0Rh, z0Rr, z0Rw, z0Rk, z0Ra, z0Rd, z0Rl, z0Rc, z0Rt, z0Rb, z0Rz⟩
