/-! what the Statement gives of the static arrays and of the String constants -/
def zFl : List Cond := flatC (Jvm.Cond.and given_1 narrow_1)
def ztm (i : Nat) : Term := .string (zStr.getD i ("", 0, "", 0)).1 (zStr.getD i ("", 0, "", 0)).2.1
theorem st_f1 : ∀ q ∈ zStat, Cond.arrayOf (.static q.1 q.2.1 "[I") .int ∈ zFl := by decide +kernel
theorem st_f2 : ∀ q ∈ zStat, Cond.eq (.length (.static q.1 q.2.1 "[I")) (.int (Int32.ofNat q.2.2.2.length)) ∈ zFl := by decide +kernel
theorem st_f3 : ∀ q ∈ zStat, ∀ j, j < q.2.2.2.length → Cond.eq (.elem (.static q.1 q.2.1 "[I") (.int (Int32.ofNat j))) (.int (q.2.2.2.getD j 0)) ∈ zFl := by decide +kernel
theorem st_f4 : ∀ q ∈ zStat, Cond.laysStatic q.1 q.2.1 "[I" ∈ lw_tbl := by decide +kernel
theorem st_f5 : ∀ q ∈ zStat, Cond.initialized q.1 ∈ lw_tbl := by decide +kernel
theorem st_f6 : ∀ q ∈ zStat, q.2.2.2.length < 2 ^ 31 := by decide +kernel
theorem st_f7 : ∀ q ∈ zStat, zStat.find? (fun x => x.2.2.1 == q.2.2.1) = some q := by decide +kernel
def zSw1 (i : Nat) : List Cond := [Cond.exactly (ztm i) "java/lang/String", Cond.eq (.field (ztm i) "java/lang/String" "coder" "B") (.int 0), Cond.arrayOf (.field (ztm i) "java/lang/String" "value" "[B") .byte, Cond.eq (.length (.field (ztm i) "java/lang/String" "value" "[B")) (.int (Int32.ofNat (zSlen.getD i 0)))]
def zSw2 (i : Nat) : List Cond := (List.range (zSlen.getD i 0)).map fun j => Cond.eq (.elem (.field (ztm i) "java/lang/String" "value" "[B") (.int (Int32.ofNat j))) (.int ((zSbyt.getD i []).getD j 0))
theorem st_sw : (zFl.drop 126).take 327 = (List.range 28).flatMap (fun i => zSw1 i ++ zSw2 i) := by decide +kernel
theorem st_sm {i : Nat} (hi : i < 28) {w : Cond} (h : w ∈ zSw1 i ++ zSw2 i) : w ∈ zFl := by
  refine List.mem_of_mem_drop (i := 126) (List.mem_of_mem_take (i := 327) ?_)
  rw [st_sw]
  exact List.mem_flatMap.mpr ⟨i, List.mem_range.mpr hi, h⟩
theorem st_s1 (i : Nat) (hi : i < 28) : Cond.exactly (ztm i) "java/lang/String" ∈ zFl := st_sm hi (List.mem_append_left _ (List.mem_of_getElem? (i := 0) rfl))
theorem st_s2 (i : Nat) (hi : i < 28) : Cond.eq (.field (ztm i) "java/lang/String" "coder" "B") (.int 0) ∈ zFl := st_sm hi (List.mem_append_left _ (List.mem_of_getElem? (i := 1) rfl))
theorem st_s3 (i : Nat) (hi : i < 28) : Cond.arrayOf (.field (ztm i) "java/lang/String" "value" "[B") .byte ∈ zFl := st_sm hi (List.mem_append_left _ (List.mem_of_getElem? (i := 2) rfl))
theorem st_s4 (i : Nat) (hi : i < 28) : Cond.eq (.length (.field (ztm i) "java/lang/String" "value" "[B")) (.int (Int32.ofNat (zSlen.getD i 0))) ∈ zFl := st_sm hi (List.mem_append_left _ (List.mem_of_getElem? (i := 3) rfl))
theorem st_s5 (i : Nat) (hi : i < 28) (j : Nat) (hj : j < zSlen.getD i 0) : Cond.eq (.elem (.field (ztm i) "java/lang/String" "value" "[B") (.int (Int32.ofNat j))) (.int ((zSbyt.getD i []).getD j 0)) ∈ zFl := st_sm hi (List.mem_append_right _ (List.mem_map.mpr ⟨j, List.mem_range.mpr hj, rfl⟩))
theorem st_s6 : ∀ i, i < 28 → zSlen.getD i 0 < 2 ^ 31 := by decide +kernel
theorem st_s7 : ∀ i, i < 28 → ∀ j, j < 28 → Int32.ofNat (zSlen.getD i 0) = Int32.ofNat (zSlen.getD j 0) → zSlen.getD i 0 = zSlen.getD j 0 := by decide +kernel
theorem st_s8 : ∀ i, i < 28 → ∀ j, j < 28 → zSlen.getD i 0 = zSlen.getD j 0 → (∀ k, k < zSlen.getD i 0 → (zSbyt.getD i []).getD k 0 = (zSbyt.getD j []).getD k 0) → i = j := by decide +kernel
theorem st_s9 : ∀ q ∈ zStr, ztm q.2.2.2 = .string q.1 q.2.1 ∧ q.2.2.2 < 28 ∧ Cond.stringRef q.1 q.2.1 q.2.2.1 ∈ lw_tbl := by decide +kernel
theorem st_c1 : Cond.eq (.static "java/lang/String" "COMPACT_STRINGS" "Z") (.int 1) ∈ zFl ∧ Cond.isRef (.static "jdk/internal/util/Preconditions" "SIOOBE_FORMATTER" "Ljava/util/function/BiFunction;") ∈ zFl := by decide +kernel
theorem st_c2 : Cond.laysStatic "java/lang/String" "COMPACT_STRINGS" "Z" ∈ lw_tbl ∧ Cond.initialized "java/lang/String" ∈ lw_tbl ∧ Cond.laysStatic "jdk/internal/util/Preconditions" "SIOOBE_FORMATTER" "Ljava/util/function/BiFunction;" ∈ lw_tbl ∧ Cond.initialized "jdk/internal/util/Preconditions" ∈ lw_tbl := by decide +kernel
section ST
variable {args : Array Value} {s : State}
theorem st_stat (hs : ∀ w ∈ zFl, w.before args s = true) (hts : ∀ w ∈ lw_tbl, w.before args s = true) : ∃ t : Nat → Nat, ∀ q ∈ zStat, va_Z q.1 q.2.1 "[I" (.ref (t q.2.2.1)) (zNA s.heap.size) s s.heap ∧ va_T .int (t q.2.2.1) q.2.2.2.length (fun j => .int (q.2.2.2.getD j 0)) (zNA s.heap.size) s s.heap := by
  have hA : ∀ a : Nat, a < s.heap.size → ¬ zNA s.heap.size a := fun a h => Nat.not_le.mpr h
  have h0 : ∀ q : String × String × Nat × List Int32, ∃ t : Nat, q ∈ zStat → va_Z q.1 q.2.1 "[I" (.ref t) (zNA s.heap.size) s s.heap ∧ va_T .int t q.2.2.2.length (fun j => .int (q.2.2.2.getD j 0)) (zNA s.heap.size) s s.heap := by
    intro q
    by_cases hq : q ∈ zStat
    · obtain ⟨t, ht, hT⟩ := va_Tof (f := fun j => .int (q.2.2.2.getD j 0)) (A := zNA s.heap.size) (st_f6 q hq) (hs _ (st_f1 q hq)) (va_eqt (hs _ (st_f2 q hq))) (fun j hj => va_eqt (hs _ (st_f3 q hq j hj))) hA
      exact ⟨t, fun _ => ⟨va_Zref (hts _ (st_f4 q hq)) (hts _ (st_f5 q hq)) ht hA, hT⟩⟩
    · exact ⟨0, fun h => absurd h hq⟩
  obtain ⟨f, hf⟩ := Classical.axiomOfChoice h0
  refine ⟨fun k => ((zStat.find? (fun x => x.2.2.1 == k)).map f).getD 0, fun q hq => ?_⟩
  have e : ((zStat.find? (fun x => x.2.2.1 == q.2.2.1)).map f).getD 0 = f q := by rw [st_f7 q hq]; rfl
  show va_Z _ _ _ (.ref (((zStat.find? (fun x => x.2.2.1 == q.2.2.1)).map f).getD 0)) _ _ _ ∧ va_T _ (((zStat.find? (fun x => x.2.2.1 == q.2.2.1)).map f).getD 0) _ _ _ _ _
  rw [e]
  exact hf q hq
theorem st_str (hs : ∀ w ∈ zFl, w.before args s = true) (hts : ∀ w ∈ lw_tbl, w.before args s = true) : ∃ adK adV : Nat → Nat, vk_S zSn zSlen zSbyt adK adV (zNA s.heap.size) s s.heap ∧ ∀ q ∈ zStr, vk_R q.1 q.2.1 q.2.2.1 (adK q.2.2.2) s := by
  have hA : ∀ a : Nat, a < s.heap.size → ¬ zNA s.heap.size a := fun a h => Nat.not_le.mpr h
  have h0 : ∀ i : Nat, ∃ q : Nat × Nat, i < 28 → (ztm i).eval args s none [] s = some (.ref q.1) ∧ va_O "java/lang/String" q.1 (zNA s.heap.size) s s.heap ∧ va_OF "java/lang/String" "coder" "B" (.int 0) q.1 (zNA s.heap.size) s s.heap ∧ va_OF "java/lang/String" "value" "[B" (.ref q.2) q.1 (zNA s.heap.size) s s.heap ∧ va_T .byte q.2 (zSlen.getD i 0) (fun j => .int ((zSbyt.getD i []).getD j 0)) (zNA s.heap.size) s s.heap := by
    intro i
    by_cases hi : i < 28
    · obtain ⟨a, c, cA, kA, q1, q2, q3, q4, q5, q6, -⟩ := Cond.exactly_spec (args := args) (first := s) (o := none) (s := s) (idx := []) (t := ztm i) (cls := "java/lang/String") (hs _ (st_s1 i hi))
      obtain ⟨t, ht, hT⟩ := va_Tof (f := fun j => .int ((zSbyt.getD i []).getD j 0)) (A := zNA s.heap.size) (st_s6 i hi) (hs _ (st_s3 i hi)) (va_eqt (hs _ (st_s4 i hi))) (fun j hj => va_eqt (hs _ (st_s5 i hi j hj))) hA
      exact ⟨(a, t), fun _ => ⟨q1, ⟨cA, q3, q5, by rw [q6]; exact q2, hA a (Array.getElem?_eq_some_iff.mp q3).1⟩, vk_OFof q1 (va_eqt (hs _ (st_s2 i hi))) hA, vk_OFof q1 ht hA, hT⟩⟩
    · exact ⟨(0, 0), fun h => absurd h hi⟩
  obtain ⟨ad, had⟩ := Classical.axiomOfChoice h0
  refine ⟨fun i => (ad i).1, fun i => (ad i).2, ⟨fun i hi => (had i hi).2, fun i j hi hj e => ?_⟩, fun q hq => ?_⟩
  · obtain ⟨-, -, -, v1, t1⟩ := had i hi
    obtain ⟨-, -, -, v2, t2⟩ := had j hj
    have e : (ad i).1 = (ad j).1 := e
    rw [e] at v1
    obtain ⟨cf, k, fi, f, cell, a1, a2, a3, a4, a5, a6⟩ := v1
    obtain ⟨cf', k', fi', f', cell', b1, b2, b3, b4, b5, b6⟩ := v2
    cases a1.symm.trans b1
    cases a3.symm.trans b3
    have ev : (ad i).2 = (ad j).2 := by
      have h9 := a5.symm.trans b5
      injection h9 with h9
      injection h9 with h9
    rw [ev] at t1
    obtain ⟨c1, d1, d2, d3, d4, d5, d6, d7⟩ := t1
    obtain ⟨c2, g1, g2, g3, g4, g5, g6, g7⟩ := t2
    cases d1.symm.trans g1
    have el := st_s7 i hi j hj (d5.symm.trans g5)
    refine st_s8 i hi j hj el (fun m hm => ?_)
    have h9 := (d6 m hm).symm.trans (g6 m (by rw [← el]; exact hm))
    injection h9 with h9
    injection h9 with h9
  · obtain ⟨r1, r2, r3⟩ := st_s9 q hq
    refine vk_R.of (hts _ r3) ?_
    rw [← r1]
    exact (had _ r2).1
end ST
