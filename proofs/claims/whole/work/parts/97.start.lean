/-! what the Statement gives of the start -/
theorem st_prim {args : Array Value} {s : State} {ty : FieldType} (h : (Cond.arrayClass ty).before args s = true) : ∃ cA : ClassId, ArrOfT s cA ty ∧ s.vm.findClass ("[" ++ ty.toString) = some cA := by
  obtain ⟨c, k, comp, h1, h2, h3⟩ := Cond.arrayClass_spec h
  exact ⟨c, fun n z => ⟨fun k h => (by cases h), k, h2, comp, h3⟩, h1⟩
theorem st_obj {s : State} {n : String} (h : (Cond.arrayOver (.object n)).before #[] s = true) : ∃ cA : ClassId, ArrOfT s cA (.object n) ∧ va_RA s cA (.object n) := by
  obtain ⟨comp, c, k, h1, h2, h3, h4, h5⟩ := Cond.arrayOver_spec h
  exact ⟨c, fun n z => ⟨fun k h => (by cases h), k, h3, comp, h4⟩, k, comp, h3, h4, h1, h5⟩
theorem st_arr {s : State} {ty : FieldType} (h : (Cond.arrayOver (.array ty)).before #[] s = true) : ∃ cA : ClassId, ArrOfT s cA (.array ty) ∧ va_RA s cA (.array ty) := by
  obtain ⟨comp, c, k, h1, h2, h3, h4, h5⟩ := arrayOverA_spec h
  exact ⟨c, fun n z => ⟨fun k h => (by cases h), k, h3, comp, h4⟩, h5⟩
theorem st_tb (i : Nat) {args : Array Value} {s : State} {w : Cond} (hts : ∀ w ∈ lw_tbl, w.before args s = true) (h : lw_tbl[i]? = some w) : w.before args s = true := hts w (List.mem_of_getElem? h)
theorem st_ov {args : Array Value} {s : State} (hts : ∀ w ∈ lw_tbl, w.before args s = true) : zOv s := fun t ht => by
  simp only [zOvL, List.mem_cons, List.not_mem_nil, or_false] at ht
  rcases ht with rfl | rfl | rfl | rfl | rfl | rfl | rfl
  · have h : (Cond.arrayOver (ClassFile.FieldType.object "AlpCommune$House")).before args s = true := st_tb 156 hts (by decide +kernel)
    exact h
  · have h : (Cond.arrayOver (ClassFile.FieldType.object "AlpCommune$Word")).before args s = true := st_tb 196 hts (by decide +kernel)
    exact h
  · have h : (Cond.arrayOver (ClassFile.FieldType.object "AlpCommune$Slope")).before args s = true := st_tb 350 hts (by decide +kernel)
    exact h
  · have h : (Cond.arrayOver (ClassFile.FieldType.object "AlpCommune$Sheet")).before args s = true := st_tb 428 hts (by decide +kernel)
    exact h
  · have h : (Cond.arrayOver (ClassFile.FieldType.array ClassFile.FieldType.int)).before args s = true := st_tb 280 hts (by decide +kernel)
    exact h
  · have h : (Cond.arrayOver (ClassFile.FieldType.array ClassFile.FieldType.short)).before args s = true := st_tb 278 hts (by decide +kernel)
    exact h
  · have h : (Cond.arrayOver (ClassFile.FieldType.array ClassFile.FieldType.boolean)).before args s = true := st_tb 1224 hts (by decide +kernel)
    exact h
theorem st_nw {args : Array Value} {s : State} (hts : ∀ w ∈ lw_tbl, w.before args s = true) : zNw s := by
  intro w hw
  have h1 : w.before args s = true := hts w (List.mem_append_right _ (List.mem_filter.mp hw).1)
  have h2 := (List.mem_filter.mp hw).2
  cases w <;> simp [zisNest] at h2
  · exact va_Nw.of rfl h1
  · exact va_Nw.of rfl h1
theorem st_TB {args : Array Value} {s : State} (hts : ∀ w ∈ lw_tbl, w.before args s = true) : ∀ w ∈ zTB, w.before args s = true := fun w hw => hts w (List.mem_filter.mp hw).1
def zTl : List FieldType := [.int, .long, .byte, .short, .boolean, .object "AlpCommune$House", .object "AlpCommune$Word", .object "AlpCommune$Slope", .object "AlpCommune$Sheet", .array .int, .array .short, .array .boolean]
theorem st_K {args : Array Value} {s : State} (hts : ∀ w ∈ lw_tbl, w.before args s = true) : ∃ (G : va_G) (ca : Nat → ClassId), ∀ (ad : Nat → Nat → Nat) (n : Nat) (xs : Nat → Int32), va_K G vwCl (zTys (G, ad, ca, n, xs)) s := by
  have h0 : ∀ c : Nat, ∃ r : ClassId × (Nat → Nat), ∀ q : vw_C, vwCl[c]? = some q → u_Kn s q.1 q.2.1 q.2.2 r.1 r.2 := by
    intro c
    match c with
    | 0 =>
      obtain ⟨a, f, h⟩ := u_known (ws := zTB) (C := RX0) (T := TX0) (N := 12) (n := 12) (st_TB hts) zin_X0 (st_tb 290 hts (by decide +kernel))
      exact ⟨(a, f), fun q hq => (by obtain rfl : (RX0, TX0, 12) = q := Option.some.inj hq; exact h)⟩
    | 1 =>
      obtain ⟨a, f, h⟩ := u_known (ws := zTB) (C := RX1) (T := TX1) (N := 3) (n := 3) (st_TB hts) zin_X1 (st_tb 409 hts (by decide +kernel))
      exact ⟨(a, f), fun q hq => (by obtain rfl : (RX1, TX1, 3) = q := Option.some.inj hq; exact h)⟩
    | 2 =>
      obtain ⟨a, f, h⟩ := u_known (ws := zTB) (C := RX2) (T := TX2) (N := 12) (n := 12) (st_TB hts) zin_X2 (st_tb 430 hts (by decide +kernel))
      exact ⟨(a, f), fun q hq => (by obtain rfl : (RX2, TX2, 12) = q := Option.some.inj hq; exact h)⟩
    | 3 =>
      obtain ⟨a, f, h⟩ := u_known (ws := zTB) (C := RX3) (T := TX3) (N := 6) (n := 6) (st_TB hts) zin_X3 (st_tb 158 hts (by decide +kernel))
      exact ⟨(a, f), fun q hq => (by obtain rfl : (RX3, TX3, 6) = q := Option.some.inj hq; exact h)⟩
    | 4 =>
      obtain ⟨a, f, h⟩ := u_known (ws := zTB) (C := RX4) (T := TX4) (N := 3) (n := 3) (st_TB hts) zin_X4 (st_tb 481 hts (by decide +kernel))
      exact ⟨(a, f), fun q hq => (by obtain rfl : (RX4, TX4, 3) = q := Option.some.inj hq; exact h)⟩
    | 5 =>
      obtain ⟨a, f, h⟩ := u_known (ws := zTB) (C := RX5) (T := TX5) (N := 2) (n := 2) (st_TB hts) zin_X5 (st_tb 272 hts (by decide +kernel))
      exact ⟨(a, f), fun q hq => (by obtain rfl : (RX5, TX5, 2) = q := Option.some.inj hq; exact h)⟩
    | 6 =>
      obtain ⟨a, f, h⟩ := u_known (ws := zTB) (C := RX6) (T := TX6) (N := 6) (n := 6) (st_TB hts) zin_X6 (st_tb 351 hts (by decide +kernel))
      exact ⟨(a, f), fun q hq => (by obtain rfl : (RX6, TX6, 6) = q := Option.some.inj hq; exact h)⟩
    | 7 =>
      obtain ⟨a, f, h⟩ := u_known (ws := zTB) (C := RX7) (T := TX7) (N := 7) (n := 7) (st_TB hts) zin_X7 (st_tb 344 hts (by decide +kernel))
      exact ⟨(a, f), fun q hq => (by obtain rfl : (RX7, TX7, 7) = q := Option.some.inj hq; exact h)⟩
    | 8 =>
      obtain ⟨a, f, h⟩ := u_known (ws := zTB) (C := RX8) (T := TX8) (N := 12) (n := 12) (st_TB hts) zin_X8 (st_tb 197 hts (by decide +kernel))
      exact ⟨(a, f), fun q hq => (by obtain rfl : (RX8, TX8, 12) = q := Option.some.inj hq; exact h)⟩
    | 9 =>
      obtain ⟨a, f, h⟩ := u_known (ws := zTB) (C := RX9) (T := TX9) (N := 5) (n := 5) (st_TB hts) zin_X9 (st_tb 190 hts (by decide +kernel))
      exact ⟨(a, f), fun q hq => (by obtain rfl : (RX9, TX9, 5) = q := Option.some.inj hq; exact h)⟩
    | 10 =>
      obtain ⟨a, f, h⟩ := u_known (ws := zTB) (C := RX10) (T := TX10) (N := 18) (n := 18) (st_TB hts) zin_X10 (st_tb 148 hts (by decide +kernel))
      exact ⟨(a, f), fun q hq => (by obtain rfl : (RX10, TX10, 18) = q := Option.some.inj hq; exact h)⟩
    | 11 =>
      obtain ⟨a, f, h⟩ := u_known (ws := zTB) (C := RX11) (T := TX11) (N := 68) (n := 68) (st_TB hts) zin_X11 (st_tb 1217 hts (by decide +kernel))
      exact ⟨(a, f), fun q hq => (by obtain rfl : (RX11, TX11, 68) = q := Option.some.inj hq; exact h)⟩
    | n + 12 => exact ⟨((0 : Nat), fun _ => 0), fun q hq => (by cases hq)⟩
  have h1 : ∀ c : Nat, ∃ r : ClassId, ∀ q : FieldType, zTl[c]? = some q → ArrOfT s r q ∧ va_RA s r q := by
    intro c
    match c with
    | 0 =>
      obtain ⟨a, h1, h2⟩ := st_prim (s := s) (ty := .int) (st_tb 188 hts (by decide +kernel))
      exact ⟨a, fun q hq => (by obtain rfl : FieldType.int = q := Option.some.inj hq; exact ⟨h1, h2⟩)⟩
    | 1 =>
      obtain ⟨a, h1, h2⟩ := st_prim (s := s) (ty := .long) (st_tb 498 hts (by decide +kernel))
      exact ⟨a, fun q hq => (by obtain rfl : FieldType.long = q := Option.some.inj hq; exact ⟨h1, h2⟩)⟩
    | 2 =>
      obtain ⟨a, h1, h2⟩ := st_prim (s := s) (ty := .byte) (st_tb 250 hts (by decide +kernel))
      exact ⟨a, fun q hq => (by obtain rfl : FieldType.byte = q := Option.some.inj hq; exact ⟨h1, h2⟩)⟩
    | 3 =>
      obtain ⟨a, h1, h2⟩ := st_prim (s := s) (ty := .short) (st_tb 288 hts (by decide +kernel))
      exact ⟨a, fun q hq => (by obtain rfl : FieldType.short = q := Option.some.inj hq; exact ⟨h1, h2⟩)⟩
    | 4 =>
      obtain ⟨a, h1, h2⟩ := st_prim (s := s) (ty := .boolean) (st_tb 251 hts (by decide +kernel))
      exact ⟨a, fun q hq => (by obtain rfl : FieldType.boolean = q := Option.some.inj hq; exact ⟨h1, h2⟩)⟩
    | 5 =>
      obtain ⟨a, h⟩ := st_obj (st_ov hts _ (by unfold zOvL; simp : FieldType.object "AlpCommune$House" ∈ zOvL))
      exact ⟨a, fun q hq => (by obtain rfl : FieldType.object "AlpCommune$House" = q := Option.some.inj hq; exact h)⟩
    | 6 =>
      obtain ⟨a, h⟩ := st_obj (st_ov hts _ (by unfold zOvL; simp : FieldType.object "AlpCommune$Word" ∈ zOvL))
      exact ⟨a, fun q hq => (by obtain rfl : FieldType.object "AlpCommune$Word" = q := Option.some.inj hq; exact h)⟩
    | 7 =>
      obtain ⟨a, h⟩ := st_obj (st_ov hts _ (by unfold zOvL; simp : FieldType.object "AlpCommune$Slope" ∈ zOvL))
      exact ⟨a, fun q hq => (by obtain rfl : FieldType.object "AlpCommune$Slope" = q := Option.some.inj hq; exact h)⟩
    | 8 =>
      obtain ⟨a, h⟩ := st_obj (st_ov hts _ (by unfold zOvL; simp : FieldType.object "AlpCommune$Sheet" ∈ zOvL))
      exact ⟨a, fun q hq => (by obtain rfl : FieldType.object "AlpCommune$Sheet" = q := Option.some.inj hq; exact h)⟩
    | 9 =>
      obtain ⟨a, h⟩ := st_arr (st_ov hts _ (by unfold zOvL; simp : FieldType.array .int ∈ zOvL))
      exact ⟨a, fun q hq => (by obtain rfl : FieldType.array .int = q := Option.some.inj hq; exact h)⟩
    | 10 =>
      obtain ⟨a, h⟩ := st_arr (st_ov hts _ (by unfold zOvL; simp : FieldType.array .short ∈ zOvL))
      exact ⟨a, fun q hq => (by obtain rfl : FieldType.array .short = q := Option.some.inj hq; exact h)⟩
    | 11 =>
      obtain ⟨a, h⟩ := st_arr (st_ov hts _ (by unfold zOvL; simp : FieldType.array .boolean ∈ zOvL))
      exact ⟨a, fun q hq => (by obtain rfl : FieldType.array .boolean = q := Option.some.inj hq; exact h)⟩
    | n + 12 => exact ⟨(0 : Nat), fun q hq => (by cases hq)⟩
  obtain ⟨r, hr⟩ := Classical.axiomOfChoice h0
  obtain ⟨ca, hca⟩ := Classical.axiomOfChoice h1
  refine ⟨(fun c => (r c).1, fun c => (r c).2), ca, fun ad n xs => ⟨fun c q hq => hr c q hq, fun k q hq => ?_⟩⟩
  have e : ∀ k : Nat, (zTys ((fun c => (r c).1, fun c => (r c).2), ad, ca, n, xs))[k]? = (zTl[k]?).map fun t => (ca k, t) := by
    intro k
    match k with
    | 0 => rfl
    | 1 => rfl
    | 2 => rfl
    | 3 => rfl
    | 4 => rfl
    | 5 => rfl
    | 6 => rfl
    | 7 => rfl
    | 8 => rfl
    | 9 => rfl
    | 10 => rfl
    | 11 => rfl
    | n + 12 => rfl
  rw [e k, Option.map_eq_some_iff] at hq
  obtain ⟨t, h2, rfl⟩ := hq
  exact hca k t h2
