/-! the pure picture: numbers of the cells by kind, place and slot -/
abbrev zMem : Type := (Nat → Nat → Nat → Int32) × (Nat → Nat → Nat → Int64)
def zu {β : Type} (f : Nat → Nat → Nat → β) (k i j : Nat) (v : β) : Nat → Nat → Nat → β := fun a b c => if a = k ∧ b = i ∧ c = j then v else f a b c
theorem zu_at {β : Type} (f : Nat → Nat → Nat → β) (k i j : Nat) (v : β) : zu f k i j v k i = fun c => if c = j then v else f k i c := by
  funext c
  simp [zu]
theorem zu_off {β : Type} (f : Nat → Nat → Nat → β) {k i a b : Nat} (j : Nat) (v : β) (h : ¬ (a = k ∧ b = i)) : zu f k i j v a b = f a b := by
  funext c
  have : ¬ (a = k ∧ b = i ∧ c = j) := fun q => h ⟨q.1, q.2.1⟩
  simp [zu, this]
def zwi (σ : zMem) (k i j : Nat) (v : Int32) : zMem := (zu σ.1 k i j v, σ.2)
def zwl (σ : zMem) (k i j : Nat) (v : Int64) : zMem := (σ.1, zu σ.2 k i j v)
/-- n slots from sp on of (k0, i0) come to (k1, i1) from dp on -/
def zcp {β : Type} (f : Nat → Nat → Nat → β) (k0 i0 sp k1 i1 dp n : Nat) : Nat → Nat → Nat → β := fun a b c => if a = k1 ∧ b = i1 ∧ dp ≤ c ∧ c < dp + n then f k0 i0 (sp + (c - dp)) else f a b c
def inb (x : Int32) (n : Nat) : Bool := !(decide (x < 0) || decide (n ≤ x.toNatClampNeg))
theorem inb_in {x : Int32} {n : Nat} (h : inb x n = true) : vp_in x n := by
  intro q
  simp only [inb, Bool.not_eq_true', Bool.or_eq_false_iff, decide_eq_false_iff_not] at h
  exact q.elim h.1 h.2
def zg {β : Type} (b : Bool) (o : Option β) : Option β := if b = true then o else none
def zb {β α : Type} (o : Option (β × zMem)) (g : β → zMem → Option (α × zMem)) : Option (α × zMem) := match o with
  | none => none
  | some q => g q.1 q.2
def zrem (x y : Int32) : Int32 := x - x / y * y
def zush (x y : Int32) : Int32 := (x.toUInt32 >>> (y.toUInt32 &&& Int32.toUInt32 31)).toInt32
def zmax (x y : Int32) : Int32 := if x < y then y else x
def zmin (x y : Int32) : Int32 := if y < x then y else x
def zminl (x y : Int64) : Int64 := if y < x then y else x
def zbo (x : Int32) : Bool := decide (x = 0) || decide (x = 1)
def zni (x : Int32) : Bool := decide (x ≠ 0)
def znl (x : Int64) : Bool := decide (x ≠ 0)
/-- a loop: its body, that may begin it anew -/
def zit {tl β : Type} (b : (zMem → tl → Option β) → zMem → tl → Option β) : Nat → zMem → tl → Option β
  | 0 => fun _ _ => none
  | n + 1 => b (zit b n)
/-! the machine around a method: program, launch, environment, room, start, method, arguments, frames below, its row, code, cells and slots made before -/
abbrev zEn : Type := Program × Launch × Env × Room × State × MethodId × Array Value × List Frame × Method × Code × Nat × Nat
abbrev zp (E : zEn) : Program := E.1
abbrev zla (E : zEn) : Launch := E.2.1
abbrev zev (E : zEn) : Env := E.2.2.1
abbrev zR (E : zEn) : Room := E.2.2.2.1
abbrev zs (E : zEn) : State := E.2.2.2.2.1
abbrev zm (E : zEn) : MethodId := E.2.2.2.2.2.1
abbrev zar (E : zEn) : Array Value := E.2.2.2.2.2.2.1
abbrev zbe (E : zEn) : List Frame := E.2.2.2.2.2.2.2.1
abbrev zme (E : zEn) : Method := E.2.2.2.2.2.2.2.2.1
abbrev zco (E : zEn) : Code := E.2.2.2.2.2.2.2.2.2.1
abbrev znc (E : zEn) : Nat := E.2.2.2.2.2.2.2.2.2.2.1
abbrev zns (E : zEn) : Nat := E.2.2.2.2.2.2.2.2.2.2.2
abbrev zWW (E : zEn) (H : Heap) (locs : List Loc) (Q : State → Prop) (g : JFrame) : Prop := W (zp E) (zla E) (zev E) (zR E) (zs E) (zm E) (zar E) (zbe E) (zme E) (zco E) H locs (znc E) (zns E) Q g
/-- class numbers and slots, addresses by kind and place, numbers of array classes, the script's length and ints -/
abbrev zLay : Type := va_G × (Nat → Nat → Nat) × (Nat → ClassId) × Nat × (Nat → Int32)
abbrev zad (Z : zLay) : Nat → Nat → Nat := Z.2.1
abbrev zca (Z : zLay) : Nat → ClassId := Z.2.2.1

def zN (k : Nat) : Nat := match k with
  | 0 => 1
  | 1 => 1
  | 2 => 10
  | 3 => 10
  | 4 => 10
  | 5 => 1
  | 6 => 1
  | 7 => 1
  | 8 => 1
  | 9 => 1
  | 10 => 1
  | 11 => 1
  | 12 => 1
  | 13 => 40
  | 14 => 40
  | 15 => 40
  | 16 => 40
  | 17 => 40
  | 18 => 40
  | 19 => 1
  | 20 => 1
  | 21 => 1
  | 22 => 2
  | 23 => 1
  | 24 => 2
  | 25 => 1
  | 26 => 1
  | 27 => 1
  | 28 => 1
  | 29 => 1
  | 30 => 1
  | 31 => 1
  | 32 => 1
  | 33 => 1
  | 34 => 4
  | 35 => 1
  | 36 => 1
  | 37 => 1
  | 38 => 1
  | 39 => 1
  | 40 => 6
  | 41 => 6
  | 42 => 6
  | 43 => 1
  | 44 => 1
  | 45 => 1
  | 46 => 1
  | 47 => 3
  | 48 => 3
  | 49 => 1
  | 50 => 6
  | 51 => 1
  | 52 => 1
  | 60 => 1
  | 61 => 1
  | 62 => 10
  | 63 => 1
  | 64 => 1
  | 65 => 1
  | 66 => 1
  | 67 => 1
  | 68 => 1
  | 69 => 1
  | 70 => 1
  | 71 => 1
  | 72 => 4
  | 73 => 1
  | 74 => 1
  | 75 => 1
  | 76 => 1
  | 77 => 1
  | 78 => 1
  | 79 => 1
  | 80 => 41
  | 81 => 1
  | 82 => 41
  | 83 => 1
  | 84 => 2
  | 85 => 1
  | 86 => 2
  | 87 => 1
  | 88 => 1
  | 89 => 1
  | 90 => 1
  | 91 => 1
  | 92 => 200
  | 93 => 1
  | 94 => 1
  | 95 => 1
  | 96 => 1
  | 97 => 6
  | 98 => 1
  | 99 => 6
  | 100 => 1
  | 101 => 1
  | 102 => 1
  | 103 => 1
  | 104 => 1
  | 105 => 1
  | 106 => 1
  | 107 => 3
  | 108 => 1
  | 109 => 3
  | 110 => 1
  | 111 => 1
  | 112 => 1
  | 113 => 1
  | 114 => 1
  | 115 => 1
  | 116 => 4
  | 117 => 1
  | 118 => 1
  | _ => 0
def zTys (Z : zLay) : List (ClassId × FieldType) := [(zca Z 0, .int), (zca Z 1, .long), (zca Z 2, .byte), (zca Z 3, .short), (zca Z 4, .boolean), (zca Z 5, .object "AlpCommune$House"), (zca Z 6, .object "AlpCommune$Word"), (zca Z 7, .object "AlpCommune$Slope"), (zca Z 8, .object "AlpCommune$Sheet"), (zca Z 9, .array .int), (zca Z 10, .array .short), (zca Z 11, .array .boolean)]
def zE (Z : zLay) (k i : Nat) (f : Nat → Int32) (g : Nat → Int64) : va_E := match k with
  | 0 => .inr (10, [.ref (zad Z 1 0), .int (f 1), .ref (zad Z 5 0), .ref (zad Z 11 0), .ref (zad Z 20 0), .ref (zad Z 25 0), .ref (zad Z 38 0), .ref (zad Z 43 0), .ref (zad Z 46 0), .ref (zad Z 49 0), .int (f 10), .int (f 11), .int (f 12), .int (f 13), .ref (zad Z 51 0), .int (f 15), .ref (zad Z 52 0), .int (f 17)])
  | 1 => .inl (zca Z 5, 10, .inr (.inr (.inr (.inr (fun j => some (zad Z 2 j))))))
  | 2 => .inr (2, [.ref (zad Z 3 i), .ref (zad Z 4 i), .int (f 2), .int (f 3), .int (f 4), .int (f 5), .int (f 6), .int (f 7), .int (f 8), .int (f 9), .int (f 10), .int (f 11)])
  | 3 => .inl (zca Z 0, 4, .inl f)
  | 4 => .inl (zca Z 0, 4, .inl f)
  | 5 => .inr (3, [.ref (zad Z 6 0), .ref (zad Z 7 0), .ref (zad Z 8 0), .ref (zad Z 9 0), .ref (zad Z 10 0), .int (f 5)])
  | 6 => .inl (zca Z 0, 50, .inl f)
  | 7 => .inl (zca Z 0, 50, .inl f)
  | 8 => .inl (zca Z 0, 50, .inl f)
  | 9 => .inl (zca Z 0, 50, .inl f)
  | 10 => .inl (zca Z 0, 50, .inl f)
  | 11 => .inr (9, [.ref (zad Z 12 0), .int (f 1), .ref (zad Z 19 0), .int (f 3), .int (f 4)])
  | 12 => .inl (zca Z 6, 40, .inr (.inr (.inr (.inr (fun j => some (zad Z 13 j))))))
  | 13 => .inr (8, [.int (f 0), .int (f 1), .int (f 2), .int (f 3), .int (f 4), .int (f 5), .int (f 6), .ref (zad Z 14 i), .ref (zad Z 15 i), .ref (zad Z 16 i), .ref (zad Z 17 i), .ref (zad Z 18 i)])
  | 14 => .inl (zca Z 0, 4, .inl f)
  | 15 => .inl (zca Z 0, 4, .inl f)
  | 16 => .inl (zca Z 0, 4, .inl f)
  | 17 => .inl (zca Z 4, 4, .inl f)
  | 18 => .inl (zca Z 4, 4, .inl f)
  | 19 => .inl (zca Z 2, 100, .inl f)
  | 20 => .inr (5, [.ref (zad Z 21 0), .ref (zad Z 23 0)])
  | 21 => .inl (zca Z 10, 2, .inr (.inr (.inr (.inr (fun j => some (zad Z 22 j))))))
  | 22 => .inl (zca Z 3, 7200, .inl f)
  | 23 => .inl (zca Z 9, 2, .inr (.inr (.inr (.inr (fun j => some (zad Z 24 j))))))
  | 24 => .inl (zca Z 0, 120, .inl f)
  | 25 => .inr (0, [.ref (zad Z 26 0), .ref (zad Z 27 0), .ref (zad Z 28 0), .ref (zad Z 29 0), .int (f 4), .ref (zad Z 30 0), .ref (zad Z 31 0), .ref (zad Z 32 0), .ref (zad Z 33 0), .ref (zad Z 35 0), .ref (zad Z 36 0), .ref (zad Z 37 0)])
  | 26 => .inl (zca Z 0, 4, .inl f)
  | 27 => .inl (zca Z 0, 4, .inl f)
  | 28 => .inl (zca Z 0, 4, .inl f)
  | 29 => .inl (zca Z 0, 4, .inl f)
  | 30 => .inl (zca Z 0, 30, .inl f)
  | 31 => .inl (zca Z 0, 30, .inl f)
  | 32 => .inl (zca Z 0, 5, .inl f)
  | 33 => .inl (zca Z 9, 4, .inr (.inr (.inr (.inr (fun j => some (zad Z 34 j))))))
  | 34 => .inl (zca Z 0, 32, .inl f)
  | 35 => .inl (zca Z 0, 5, .inl f)
  | 36 => .inl (zca Z 0, 4, .inl f)
  | 37 => .inl (zca Z 0, 5, .inl f)
  | 38 => .inr (7, [.ref (zad Z 39 0), .int (f 1), .int (f 2), .int (f 3), .int (f 4), .int (f 5), .int (f 6)])
  | 39 => .inl (zca Z 7, 6, .inr (.inr (.inr (.inr (fun j => some (zad Z 40 j))))))
  | 40 => .inr (6, [.int (f 0), .int (f 1), .int (f 2), .int (f 3), .ref (zad Z 41 i), .ref (zad Z 42 i)])
  | 41 => .inl (zca Z 0, 7, .inl f)
  | 42 => .inl (zca Z 4, 7, .inl f)
  | 43 => .inr (1, [.ref (zad Z 44 0), .ref (zad Z 45 0), .int (f 2)])
  | 44 => .inl (zca Z 0, 10, .inl f)
  | 45 => .inl (zca Z 0, 10, .inl f)
  | 46 => .inl (zca Z 8, 3, .inr (.inr (.inr (.inr (fun j => some (zad Z 47 j))))))
  | 47 => .inr (4, [.int (f 0), .int (f 1), .ref (zad Z 48 i)])
  | 48 => .inl (zca Z 1, 60, .inr (.inl g))
  | 49 => .inl (zca Z 9, 6, .inr (.inr (.inr (.inr (fun j => some (zad Z 50 j))))))
  | 50 => .inl (zca Z 0, 200, .inl f)
  | 51 => .inl (zca Z 0, 3, .inl f)
  | 52 => .inl (zca Z 0, 20, .inl f)
  | 60 => .inr (11, [.int (f 0), .int (f 1), .ref (zad Z 61 0), .ref (zad Z 63 0), .ref (zad Z 64 0), .ref (zad Z 65 0), .ref (zad Z 66 0), .ref (zad Z 67 0), .ref (zad Z 68 0), .ref (zad Z 69 0), .ref (zad Z 70 0), .ref (zad Z (f 11).toNatClampNeg 0), .int (f 12), .ref (zad Z 73 0), .ref (zad Z 74 0), .ref (zad Z 75 0), .ref (zad Z 76 0), .ref (zad Z 77 0), .ref (zad Z 78 0), .int (f 19), .int (f 20), .ref (zad Z 79 0), .ref (zad Z 81 0), .ref (zad Z 83 0), .ref (zad Z 85 0), .int (f 25), .ref (zad Z 87 0), .ref (zad Z 88 0), .ref (zad Z (f 28).toNatClampNeg 0), .ref (zad Z (f 29).toNatClampNeg 0), .int (f 30), .ref (zad Z 91 0), .int (f 32), .ref (zad Z 93 0), .ref (zad Z 94 0), .ref (zad Z 95 0), .ref (zad Z 96 0), .ref (zad Z 98 0), .ref (zad Z 100 0), .int (f 39), .int (f 40), .int (f 41), .int (f 42), .int (f 43), .int (f 44), .int (f 45), .int (f 46), .ref (zad Z 101 0), .ref (zad Z 102 0), .ref (zad Z 103 0), .int (f 50), .int (f 51), .ref (zad Z 104 0), .ref (zad Z 105 0), .ref (zad Z 106 0), .ref (zad Z 108 0), .ref (zad Z 110 0), .int (f 57), .int (f 58), .int (f 59), .int (f 60), .ref (zad Z 111 0), .ref (zad Z 112 0), .ref (zad Z 113 0), .ref (zad Z 114 0), .ref (zad Z 115 0), .ref (zad Z 117 0), .ref (zad Z 118 0)])
  | 61 => .inl (zca Z 9, 10, .inr (.inr (.inr (.inr (fun j => some (zad Z 62 j))))))
  | 62 => .inl (zca Z 0, 5, .inl f)
  | 63 => .inl (zca Z 0, 10, .inl f)
  | 64 => .inl (zca Z 0, 10, .inl f)
  | 65 => .inl (zca Z 0, 10, .inl f)
  | 66 => .inl (zca Z 0, 10, .inl f)
  | 67 => .inl (zca Z 0, 10, .inl f)
  | 68 => .inl (zca Z 0, 10, .inl f)
  | 69 => .inl (zca Z 0, 10, .inl f)
  | 70 => .inl (zca Z 0, 10, .inl f)
  | 71 => .inl (zca Z 9, 4, .inr (.inr (.inr (.inr (fun j => some (zad Z 72 j))))))
  | 72 => .inl (zca Z 0, 10, .inl f)
  | 73 => .inl (zca Z 0, 50, .inl f)
  | 74 => .inl (zca Z 0, 50, .inl f)
  | 75 => .inl (zca Z 0, 50, .inl f)
  | 76 => .inl (zca Z 0, 50, .inl f)
  | 77 => .inl (zca Z 0, 50, .inl f)
  | 78 => .inl (zca Z 0, 100, .inl f)
  | 79 => .inl (zca Z 9, 41, .inr (.inr (.inr (.inr (fun j => some (zad Z 80 j))))))
  | 80 => .inl (zca Z 0, 6, .inl f)
  | 81 => .inl (zca Z 9, 41, .inr (.inr (.inr (.inr (fun j => some (zad Z 82 j))))))
  | 82 => .inl (zca Z 0, 24, .inl f)
  | 83 => .inl (zca Z 9, 2, .inr (.inr (.inr (.inr (fun j => some (zad Z 84 j))))))
  | 84 => .inl (zca Z 0, 7200, .inl f)
  | 85 => .inl (zca Z 11, 2, .inr (.inr (.inr (.inr (fun j => some (zad Z 86 j))))))
  | 86 => .inl (zca Z 4, 7200, .inl f)
  | 87 => .inl (zca Z 0, 4, .inl f)
  | 88 => .inl (zca Z 0, 4, .inl f)
  | 89 => .inl (zca Z 0, 4, .inl f)
  | 90 => .inl (zca Z 0, 4, .inl f)
  | 91 => .inl (zca Z 9, 200, .inr (.inr (.inr (.inr (fun j => some (zad Z 92 j))))))
  | 92 => .inl (zca Z 0, 6, .inl f)
  | 93 => .inl (zca Z 0, 6, .inl f)
  | 94 => .inl (zca Z 4, 6, .inl f)
  | 95 => .inl (zca Z 0, 6, .inl f)
  | 96 => .inl (zca Z 9, 6, .inr (.inr (.inr (.inr (fun j => some (zad Z 97 j))))))
  | 97 => .inl (zca Z 0, 8, .inl f)
  | 98 => .inl (zca Z 11, 6, .inr (.inr (.inr (.inr (fun j => some (zad Z 99 j))))))
  | 99 => .inl (zca Z 4, 8, .inl f)
  | 100 => .inl (zca Z 0, 6, .inl f)
  | 101 => .inl (zca Z 0, 10, .inl f)
  | 102 => .inl (zca Z 0, 10, .inl f)
  | 103 => .inl (zca Z 0, 3, .inl f)
  | 104 => .inl (zca Z 0, 3, .inl f)
  | 105 => .inl (zca Z 0, 3, .inl f)
  | 106 => .inl (zca Z 9, 3, .inr (.inr (.inr (.inr (fun j => some (zad Z 107 j))))))
  | 107 => .inl (zca Z 0, 60, .inl f)
  | 108 => .inl (zca Z 11, 3, .inr (.inr (.inr (.inr (fun j => some (zad Z 109 j))))))
  | 109 => .inl (zca Z 4, 60, .inl f)
  | 110 => .inl (zca Z 0, 20, .inl f)
  | 111 => .inl (zca Z 0, 6, .inl f)
  | 112 => .inl (zca Z 0, 10, .inl f)
  | 113 => .inl (zca Z 0, 4, .inl f)
  | 114 => .inl (zca Z 0, 4, .inl f)
  | 115 => .inl (zca Z 9, 4, .inr (.inr (.inr (.inr (fun j => some (zad Z 116 j))))))
  | 116 => .inl (zca Z 0, 10, .inl f)
  | 117 => .inl (zca Z 0, 5, .inl f)
  | 118 => .inl (zca Z 0, 5, .inl f)
  | _ => .inr (0, [])
def zA (Z : zLay) : Nat → Prop := fun q => ∃ k i, i < zN k ∧ q = zad Z k i
theorem zbo_nar {x : Int32} (h : zbo x = true) : narrow .boolean (.int x) = .int x := by
  simp only [zbo, Bool.or_eq_true, decide_eq_true_eq] at h
  rcases h with rfl | rfl <;> rfl
theorem zn_byte (x : Int32) : narrow .byte (.int x) = .int x.toInt8.toInt32 := rfl
theorem zn_short (x : Int32) : narrow .short (.int x) = .int x.toInt16.toInt32 := rfl
def zisNest : Cond → Bool
  | .fieldLinkNest _ _ _ _ _ _ => true
  | .methodLinkNest _ _ _ _ => true
  | _ => false
def zNest : List Cond := tables_1.filter zisNest
def zNw (U : State) : Prop := ∀ w ∈ zNest, va_Nw w U
theorem zNw_warm {s U : State} (hW : s.WarmedH U.vm) (h : zNw s) : zNw U := by
  intro w hw
  have h1 := h w hw
  have h2 := (List.mem_filter.mp hw).2
  cases w <;> simp [zisNest] at h2
  · exact va_Nw.warmM hW h1
  · exact va_Nw.warmF hW h1
theorem zNw_same {u U : State} (e : u.vm = U.vm) (h : zNw u) : zNw U := by
  intro w hw
  have h1 := h w hw
  have h2 := (List.mem_filter.mp hw).2
  cases w <;> simp [zisNest] at h2
  · exact va_Nw.same rfl e h1
  · exact va_Nw.same rfl e h1
def zStat : List (String × String × Nat × List Int32) := [("AlpCommune$House", "LEAST", 150, [1, 1, 0, 0]), ("AlpCommune$House", "MOST", 151, [9, 20, 99, 99999]), ("AlpCommune$Rights", "COMMON_OF", 152, [-1, 0, 1, 2, 0, -1]), ("AlpCommune$Rights", "KIND_ABOVE", 153, [-1, 0, 0, 0, 1, 0]), ("AlpCommune$Words", "WORTH_AT_FIRST", 154, [30, 4, 150, 270, 2, 5, 3, 1]), ("AlpCommune$Sky", "LEAST", 155, [-40, 0]), ("AlpCommune$Sky", "MOST", 156, [40, 200]), ("AlpCommune$Sky", "WITHOUT", 157, [5, 0]), ("AlpCommuneModel", "USUAL", 158, [30, 4, 150, 270, 2, 5, 3, 1])]
def zStr : List (String × Nat × String × Nat) := [("AlpCommune$Words", 61, "rate feet from till heads fine lot watch ", 0), ("AlpCommune$Words", 78, "if unless ", 1), ("AlpCommune$Words", 93, "cows hay heads hearths year season not ", 2), ("AlpCommune$Words", 98, "cows hay heads hearths year season ", 3), ("AlpCommune$Words", 106, "< = > ", 4), ("AlpCommune$Words", 91, "and or ", 5), ("AlpCommuneModel", 245, "rate", 6), ("AlpCommuneModel", 251, "eet", 7), ("AlpCommuneModel", 253, "rom", 8), ("AlpCommuneModel", 255, "ine", 9), ("AlpCommuneModel", 257, "till", 10), ("AlpCommuneModel", 259, "heads", 11), ("AlpCommuneModel", 261, "lot", 12), ("AlpCommuneModel", 263, "watch", 13), ("AlpCommuneModel", 295, " ", 14), ("AlpCommuneModel", 297, "unless ", 15), ("AlpCommuneModel", 299, "if ", 16), ("AlpCommuneModel", 281, "not ", 17), ("AlpCommuneModel", 265, "cows", 18), ("AlpCommuneModel", 267, "year", 19), ("AlpCommuneModel", 269, "season", 20), ("AlpCommuneModel", 271, "h", 21), ("AlpCommuneModel", 273, "ay", 22), ("AlpCommuneModel", 275, "ea", 23), ("AlpCommuneModel", 277, "ds", 24), ("AlpCommuneModel", 279, "rths", 25), ("AlpCommuneModel", 310, "or ", 26), ("AlpCommuneModel", 312, "and ", 27)]
def zSn : Nat := 28
def zSlen : List Nat := [41, 10, 39, 35, 6, 7, 4, 3, 3, 3, 4, 5, 3, 5, 1, 7, 3, 4, 4, 4, 6, 1, 2, 2, 2, 4, 3, 4]
def zSbyt : List (List Int32) := [[114, 97, 116, 101, 32, 102, 101, 101, 116, 32, 102, 114, 111, 109, 32, 116, 105, 108, 108, 32, 104, 101, 97, 100, 115, 32, 102, 105, 110, 101, 32, 108, 111, 116, 32, 119, 97, 116, 99, 104, 32], [105, 102, 32, 117, 110, 108, 101, 115, 115, 32], [99, 111, 119, 115, 32, 104, 97, 121, 32, 104, 101, 97, 100, 115, 32, 104, 101, 97, 114, 116, 104, 115, 32, 121, 101, 97, 114, 32, 115, 101, 97, 115, 111, 110, 32, 110, 111, 116, 32], [99, 111, 119, 115, 32, 104, 97, 121, 32, 104, 101, 97, 100, 115, 32, 104, 101, 97, 114, 116, 104, 115, 32, 121, 101, 97, 114, 32, 115, 101, 97, 115, 111, 110, 32], [60, 32, 61, 32, 62, 32], [97, 110, 100, 32, 111, 114, 32], [114, 97, 116, 101], [101, 101, 116], [114, 111, 109], [105, 110, 101], [116, 105, 108, 108], [104, 101, 97, 100, 115], [108, 111, 116], [119, 97, 116, 99, 104], [32], [117, 110, 108, 101, 115, 115, 32], [105, 102, 32], [110, 111, 116, 32], [99, 111, 119, 115], [121, 101, 97, 114], [115, 101, 97, 115, 111, 110], [104], [97, 121], [101, 97], [100, 115], [114, 116, 104, 115], [111, 114, 32], [97, 110, 100, 32]]
def zS (Z : zLay) (U : State) (H : Heap) : Prop :=
  (∀ q ∈ zStat, va_Z q.1 q.2.1 "[I" (.ref (zad Z q.2.2.1 0)) (zA Z) U H ∧ va_T .int (zad Z q.2.2.1 0) q.2.2.2.length (fun j => .int (q.2.2.2.getD j 0)) (zA Z) U H) ∧
  vk_S zSn zSlen zSbyt (zad Z 180) (zad Z 181) (zA Z) U H ∧ (∀ q ∈ zStr, vk_R q.1 q.2.1 q.2.2.1 (zad Z 180 q.2.2.2) U) ∧
  va_Z "java/lang/String" "COMPACT_STRINGS" "Z" (.int 1) (zA Z) U H ∧ va_Zq "jdk/internal/util/Preconditions" "SIOOBE_FORMATTER" "Ljava/util/function/BiFunction;" (zA Z) U H ∧
  va_X (zad Z 170 0) Z.2.2.2.1 Z.2.2.2.2 U H ∧ ¬ zA Z (zad Z 170 0)
def zW (Z : zLay) (σ : zMem) (H : Heap) : Prop := ∀ k i, i < zN k → va_at Z.1 vwCl (zad Z k i, zE Z k i (σ.1 k i) (σ.2 k i)) H
def zI (Z : zLay) : Prop := ∀ k i k' i', i < zN k → i' < zN k' → zad Z k i = zad Z k' i' → k = k' ∧ i = i'
def zRm (n : Nat) : Room := { frames := n, cells := 0, slots := 0, locals := 60 * n }
def zTB : List Cond := lw_tbl.filter goodWord
def zCx (E : zEn) (cc : ByteArray) (own : String) (nL : Nat) (ret : Option FieldType) (Z : zLay) (h : Nat) : Prop :=
  (zp E).tables.exec = Jvm.exec ∧ (zco E).code = cc ∧ (zs E).vm.findClass own = some (zm E).cls ∧ (zco E).maxLocals = nL ∧ (∀ w ∈ zTB, w.before (zar E) (zs E) = true) ∧ va_K Z.1 vwCl (zTys Z) (zs E) ∧ zI Z ∧ zNw (zs E) ∧ zS Z (zs E) (zs E).heap ∧ (zme E).locks = false ∧ (zme E).sig.returnType = ret ∧ h ≤ (zR E).frames ∧ 60 * h ≤ (zR E).locals ∧ znc E ≤ (zR E).cells ∧ zns E ≤ (zR E).slots
def zKO (E : zEn) (nL : Nat) (Z : zLay) {α : Type} (QQ : α → zMem → State → Prop) (pc : Nat) (L : List (Nat × Value)) (st : List Value) (σ : zMem) (o : Option (α × zMem)) : Prop :=
  ∀ r σ', o = some (r, σ') → ∀ (H : Heap) (locs : List Loc) (ls : Array Slot), zW Z σ H → va_S (zA Z) (zs E).heap H locs → lv_has ls nL L → zWW E H locs (QQ r σ') (F0 (zm E) pc ls st)
theorem zW_put {Z : zLay} {σ : zMem} {H H1 : Heap} {k i : Nat} {f : Nat → Int32} {g : Nat → Int64} (hW : zW Z σ H) (hI : zI Z) (hk : i < zN k) (σ' : zMem) (h1 : ∀ a b, ¬ (a = k ∧ b = i) → σ'.1 a b = σ.1 a b) (h2 : ∀ a b, ¬ (a = k ∧ b = i) → σ'.2 a b = σ.2 a b) (e1 : σ'.1 k i = f) (e2 : σ'.2 k i = g) (ho : ∀ q, q ≠ zad Z k i → H1[q]? = H[q]?) (ha : va_at Z.1 vwCl (zad Z k i, zE Z k i f g) H1) : zW Z σ' H1 := by
  intro a b hb
  by_cases e : a = k ∧ b = i
  · obtain ⟨rfl, rfl⟩ := e
    rw [e1, e2]
    exact ha
  · rw [h1 a b e, h2 a b e]
    exact (hW a b hb).kept (ho _ fun q => e (hI a b k i hb hk q))

section ZB
variable {E : zEn} {cc : ByteArray} {own : String} {nL h : Nat} {ret : Option FieldType} {Z : zLay} {α : Type} {QQ : α → zMem → State → Prop} {pc : Nat} {L : List (Nat × Value)} {st : List Value} {σ : zMem} {o o1 o2 : Option (α × zMem)}

theorem zr_iconst (C : zCx E cc own nL ret Z h) {n : Int} {v : Int32} (hd : decode cc pc = .ok (.iconst n, 1)) (hv : Int32.ofInt n = v) (k : zKO E nL Z QQ (pc + 1) L (.int v :: st) σ o) : zKO E nL Z QQ (pc) L (st) σ o := fun r σ' ho H locs ls hW hS hl => lv_iconst C.1 C.2.1 hd hv (k r σ' ho H locs ls hW hS hl)
theorem zr_bipush (C : zCx E cc own nL ret Z h) {n : Int} {v : Int32} (hd : decode cc pc = .ok (.bipush n, 2)) (hv : (Int8.ofInt n).toInt32 = v) (k : zKO E nL Z QQ (pc + 2) L (.int v :: st) σ o) : zKO E nL Z QQ (pc) L (st) σ o := fun r σ' ho H locs ls hW hS hl => lv_bipush C.1 C.2.1 hd hv (k r σ' ho H locs ls hW hS hl)
theorem zr_sipush (C : zCx E cc own nL ret Z h) {n : Int} {v : Int32} (hd : decode cc pc = .ok (.sipush n, 3)) (hv : (Int16.ofInt n).toInt32 = v) (k : zKO E nL Z QQ (pc + 3) L (.int v :: st) σ o) : zKO E nL Z QQ (pc) L (st) σ o := fun r σ' ho H locs ls hW hS hl => lv_sipush C.1 C.2.1 hd hv (k r σ' ho H locs ls hW hS hl)
theorem zr_lconst (C : zCx E cc own nL ret Z h) {n : Fin 2} {v : Int64} (hd : decode cc pc = .ok (.lconst n, 1)) (hv : Int64.ofNat (n : Nat) = v) (k : zKO E nL Z QQ (pc + 1) L (.long v :: st) σ o) : zKO E nL Z QQ (pc) L (st) σ o := fun r σ' ho H locs ls hW hS hl => lv_lconst C.1 C.2.1 hd hv (k r σ' ho H locs ls hW hS hl)
theorem zr_ldc (C : zCx E cc own nL ret Z h) {ix : Nat} {v : Int32} (hd : decode cc pc = .ok (.ldc ix, 2)) (hc : Cond.constant own ix v ∈ zTB) (k : zKO E nL Z QQ (pc + 2) L (.int v :: st) σ o) : zKO E nL Z QQ (pc) L (st) σ o := fun r σ' ho H locs ls hW hS hl => lv_ldc C.1 C.2.1 C.2.2.1 (C.2.2.2.2.1 _ hc) hd (k r σ' ho H locs ls hW hS hl)
theorem zr_ldc2 (C : zCx E cc own nL ret Z h) {ix : Nat} {v : Int64} (hd : decode cc pc = .ok (.ldc2_w ix, 3)) (hc : Cond.constantLong own ix v ∈ zTB) (k : zKO E nL Z QQ (pc + 3) L (.long v :: st) σ o) : zKO E nL Z QQ (pc) L (st) σ o := fun r σ' ho H locs ls hW hS hl => lv_ldc2 C.1 C.2.1 C.2.2.1 (C.2.2.2.2.1 _ hc) hd (k r σ' ho H locs ls hW hS hl)
theorem zl_of {ls : Array Slot} {n : Nat} {L : List (Nat × Value)} {i : Nat} {v : Value} (h : lv_has ls n L) (hL : List.lookup i L = some v) : ls[i]? = some (.val v) := by
  have : ∀ L : List (Nat × Value), List.lookup i L = some v → (i, v) ∈ L := by
    intro L
    induction L with
    | nil => intro h; simp at h
    | cons q L ih =>
      obtain ⟨a, b⟩ := q
      intro h
      by_cases e : i = a
      · subst e
        simp at h
        subst h
        exact List.mem_cons_self
      · have e2 : (i == a) = false := by simp [e]
        rw [List.lookup_cons, e2] at h
        exact List.mem_cons_of_mem _ (ih h)
  exact h.2.2 (i, v) (this L hL)
theorem zr_iload (C : zCx E cc own nL ret Z h) {i : Nat} {x : Int32} (hd : decode cc pc = .ok (.iload i, 2)) (hL : List.lookup i L = some (.int x)) (k : zKO E nL Z QQ (pc + 2) L (.int x :: st) σ o) : zKO E nL Z QQ (pc) L (st) σ o := fun r σ' ho H locs ls hW hS hl => lv_iload C.1 C.2.1 hd (zl_of hl hL) (k r σ' ho H locs ls hW hS hl)
theorem zr_iload_n (C : zCx E cc own nL ret Z h) {q : Fin 4} {x : Int32} (hd : decode cc pc = .ok (.iload_n q, 1)) (hL : List.lookup (q : Nat) L = some (.int x)) (k : zKO E nL Z QQ (pc + 1) L (.int x :: st) σ o) : zKO E nL Z QQ (pc) L (st) σ o := fun r σ' ho H locs ls hW hS hl => lv_iload_n C.1 C.2.1 hd rfl (zl_of hl hL) (k r σ' ho H locs ls hW hS hl)
theorem zr_lload (C : zCx E cc own nL ret Z h) {i : Nat} {x : Int64} (hd : decode cc pc = .ok (.lload i, 2)) (hL : List.lookup i L = some (.long x)) (k : zKO E nL Z QQ (pc + 2) L (.long x :: st) σ o) : zKO E nL Z QQ (pc) L (st) σ o := fun r σ' ho H locs ls hW hS hl => lv_lload C.1 C.2.1 hd (zl_of hl hL) (k r σ' ho H locs ls hW hS hl)
theorem zr_lload_n (C : zCx E cc own nL ret Z h) {q : Fin 4} {x : Int64} (hd : decode cc pc = .ok (.lload_n q, 1)) (hL : List.lookup (q : Nat) L = some (.long x)) (k : zKO E nL Z QQ (pc + 1) L (.long x :: st) σ o) : zKO E nL Z QQ (pc) L (st) σ o := fun r σ' ho H locs ls hW hS hl => lv_lload_n C.1 C.2.1 hd rfl (zl_of hl hL) (k r σ' ho H locs ls hW hS hl)
theorem zr_aload (C : zCx E cc own nL ret Z h) {i : Nat} {x : Nat} (hd : decode cc pc = .ok (.aload i, 2)) (hL : List.lookup i L = some (.ref x)) (k : zKO E nL Z QQ (pc + 2) L (.ref x :: st) σ o) : zKO E nL Z QQ (pc) L (st) σ o := fun r σ' ho H locs ls hW hS hl => lv_aload C.1 C.2.1 hd (zl_of hl hL) (k r σ' ho H locs ls hW hS hl)
theorem zr_aload_n (C : zCx E cc own nL ret Z h) {q : Fin 4} {x : Nat} (hd : decode cc pc = .ok (.aload_n q, 1)) (hL : List.lookup (q : Nat) L = some (.ref x)) (k : zKO E nL Z QQ (pc + 1) L (.ref x :: st) σ o) : zKO E nL Z QQ (pc) L (st) σ o := fun r σ' ho H locs ls hW hS hl => lv_aload_n C.1 C.2.1 hd rfl (zl_of hl hL) (k r σ' ho H locs ls hW hS hl)
theorem zr_istore (C : zCx E cc own nL ret Z h) {i : Nat} {x : Int32} {L1 : List (Nat × Value)} (hd : decode cc pc = .ok (.istore i, 2)) (hn : i < nL) (hL : (i, Value.int x) :: L.filter (fun q => !(q.1 == i) && !(q.1 + 1 == i && q.2.category == 2)) = L1) (k : zKO E nL Z QQ (pc + 2) L1 (st) σ o) : zKO E nL Z QQ (pc) L (.int x :: st) σ o := fun r σ' ho H locs ls hW hS hl => lv_istore C.1 C.2.1 hd hl hn hL (fun ls1 hl1 => k r σ' ho H locs ls1 hW hS hl1)
theorem zr_istore_n (C : zCx E cc own nL ret Z h) {q : Fin 4} {i : Nat} {x : Int32} {L1 : List (Nat × Value)} (hd : decode cc pc = .ok (.istore_n q, 1)) (hq : (q : Nat) = i) (hn : i < nL) (hL : (i, Value.int x) :: L.filter (fun q => !(q.1 == i) && !(q.1 + 1 == i && q.2.category == 2)) = L1) (k : zKO E nL Z QQ (pc + 1) L1 (st) σ o) : zKO E nL Z QQ (pc) L (.int x :: st) σ o := fun r σ' ho H locs ls hW hS hl => lv_istore_n C.1 C.2.1 hd hq hl hn hL (fun ls1 hl1 => k r σ' ho H locs ls1 hW hS hl1)
theorem zr_astore (C : zCx E cc own nL ret Z h) {i : Nat} {x : Nat} {L1 : List (Nat × Value)} (hd : decode cc pc = .ok (.astore i, 2)) (hn : i < nL) (hL : (i, Value.ref x) :: L.filter (fun q => !(q.1 == i) && !(q.1 + 1 == i && q.2.category == 2)) = L1) (k : zKO E nL Z QQ (pc + 2) L1 (st) σ o) : zKO E nL Z QQ (pc) L (.ref x :: st) σ o := fun r σ' ho H locs ls hW hS hl => lv_astore C.1 C.2.1 hd hl hn hL (fun ls1 hl1 => k r σ' ho H locs ls1 hW hS hl1)
theorem zr_astore_n (C : zCx E cc own nL ret Z h) {q : Fin 4} {i : Nat} {x : Nat} {L1 : List (Nat × Value)} (hd : decode cc pc = .ok (.astore_n q, 1)) (hq : (q : Nat) = i) (hn : i < nL) (hL : (i, Value.ref x) :: L.filter (fun q => !(q.1 == i) && !(q.1 + 1 == i && q.2.category == 2)) = L1) (k : zKO E nL Z QQ (pc + 1) L1 (st) σ o) : zKO E nL Z QQ (pc) L (.ref x :: st) σ o := fun r σ' ho H locs ls hW hS hl => lv_astore_n C.1 C.2.1 hd hq hl hn hL (fun ls1 hl1 => k r σ' ho H locs ls1 hW hS hl1)
theorem zr_lstore (C : zCx E cc own nL ret Z h) {i : Nat} {x : Int64} {L1 : List (Nat × Value)} (hd : decode cc pc = .ok (.lstore i, 2)) (hn : i + 1 < nL) (hL : (i, Value.long x) :: L.filter (fun q => !(q.1 == i) && (!(q.1 == i + 1) && !(q.1 + 1 == i && q.2.category == 2))) = L1) (k : zKO E nL Z QQ (pc + 2) L1 (st) σ o) : zKO E nL Z QQ (pc) L (.long x :: st) σ o := fun r σ' ho H locs ls hW hS hl => lv_lstore C.1 C.2.1 hd hl hn hL (fun ls1 hl1 => k r σ' ho H locs ls1 hW hS hl1)
theorem zr_lstore_n (C : zCx E cc own nL ret Z h) {q : Fin 4} {i : Nat} {x : Int64} {L1 : List (Nat × Value)} (hd : decode cc pc = .ok (.lstore_n q, 1)) (hq : (q : Nat) = i) (hn : i + 1 < nL) (hL : (i, Value.long x) :: L.filter (fun q => !(q.1 == i) && (!(q.1 == i + 1) && !(q.1 + 1 == i && q.2.category == 2))) = L1) (k : zKO E nL Z QQ (pc + 1) L1 (st) σ o) : zKO E nL Z QQ (pc) L (.long x :: st) σ o := fun r σ' ho H locs ls hW hS hl => lv_lstore_n C.1 C.2.1 hd hq hl hn hL (fun ls1 hl1 => k r σ' ho H locs ls1 hW hS hl1)
theorem zr_iinc (C : zCx E cc own nL ret Z h) {i kk : Nat} {n : Int} {x v : Int32} {L1 : List (Nat × Value)} (hd : decode cc pc = .ok (.iinc i n, 3)) (hk : L[kk]? = some (i, .int x)) (hv : x + Int32.ofInt n = v) (hn : i < nL) (hL : (i, Value.int v) :: L.filter (fun q => !(q.1 == i) && !(q.1 + 1 == i && q.2.category == 2)) = L1) (k : zKO E nL Z QQ (pc + 3) L1 (st) σ o) : zKO E nL Z QQ (pc) L (st) σ o := fun r σ' ho H locs ls hW hS hl => lv_iinc C.1 C.2.1 hd hl hk hv hn hL (fun ls1 hl1 => k r σ' ho H locs ls1 hW hS hl1)
theorem zr_iadd (C : zCx E cc own nL ret Z h) {x y : Int32} (hd : decode cc pc = .ok (.iadd, 1))  (k : zKO E nL Z QQ (pc + 1) L (.int (x + y) :: st) σ o) : zKO E nL Z QQ (pc) L (.int y :: .int x :: st) σ o := fun r σ' ho H locs ls hW hS hl => lv_iadd C.1 C.2.1 hd  (k r σ' ho H locs ls hW hS hl)
theorem zr_isub (C : zCx E cc own nL ret Z h) {x y : Int32} (hd : decode cc pc = .ok (.isub, 1))  (k : zKO E nL Z QQ (pc + 1) L (.int (x - y) :: st) σ o) : zKO E nL Z QQ (pc) L (.int y :: .int x :: st) σ o := fun r σ' ho H locs ls hW hS hl => lv_isub C.1 C.2.1 hd  (k r σ' ho H locs ls hW hS hl)
theorem zr_imul (C : zCx E cc own nL ret Z h) {x y : Int32} (hd : decode cc pc = .ok (.imul, 1))  (k : zKO E nL Z QQ (pc + 1) L (.int (x * y) :: st) σ o) : zKO E nL Z QQ (pc) L (.int y :: .int x :: st) σ o := fun r σ' ho H locs ls hW hS hl => lv_imul C.1 C.2.1 hd  (k r σ' ho H locs ls hW hS hl)
theorem zr_iand (C : zCx E cc own nL ret Z h) {x y : Int32} (hd : decode cc pc = .ok (.iand, 1))  (k : zKO E nL Z QQ (pc + 1) L (.int (x &&& y) :: st) σ o) : zKO E nL Z QQ (pc) L (.int y :: .int x :: st) σ o := fun r σ' ho H locs ls hW hS hl => lv_iand C.1 C.2.1 hd  (k r σ' ho H locs ls hW hS hl)
theorem zr_ior (C : zCx E cc own nL ret Z h) {x y : Int32} (hd : decode cc pc = .ok (.ior, 1))  (k : zKO E nL Z QQ (pc + 1) L (.int (x ||| y) :: st) σ o) : zKO E nL Z QQ (pc) L (.int y :: .int x :: st) σ o := fun r σ' ho H locs ls hW hS hl => lv_ior C.1 C.2.1 hd  (k r σ' ho H locs ls hW hS hl)
theorem zr_ixor (C : zCx E cc own nL ret Z h) {x y : Int32} (hd : decode cc pc = .ok (.ixor, 1))  (k : zKO E nL Z QQ (pc + 1) L (.int (x ^^^ y) :: st) σ o) : zKO E nL Z QQ (pc) L (.int y :: .int x :: st) σ o := fun r σ' ho H locs ls hW hS hl => lv_ixor C.1 C.2.1 hd  (k r σ' ho H locs ls hW hS hl)
theorem zr_ishl (C : zCx E cc own nL ret Z h) {x y : Int32} (hd : decode cc pc = .ok (.ishl, 1))  (k : zKO E nL Z QQ (pc + 1) L (.int (x <<< (y &&& 31)) :: st) σ o) : zKO E nL Z QQ (pc) L (.int y :: .int x :: st) σ o := fun r σ' ho H locs ls hW hS hl => lv_ishl C.1 C.2.1 hd  (k r σ' ho H locs ls hW hS hl)
theorem zr_ishr (C : zCx E cc own nL ret Z h) {x y : Int32} (hd : decode cc pc = .ok (.ishr, 1))  (k : zKO E nL Z QQ (pc + 1) L (.int (x >>> (y &&& 31)) :: st) σ o) : zKO E nL Z QQ (pc) L (.int y :: .int x :: st) σ o := fun r σ' ho H locs ls hW hS hl => lv_ishr C.1 C.2.1 hd  (k r σ' ho H locs ls hW hS hl)
theorem zr_ladd (C : zCx E cc own nL ret Z h) {x y : Int64} (hd : decode cc pc = .ok (.ladd, 1))  (k : zKO E nL Z QQ (pc + 1) L (.long (x + y) :: st) σ o) : zKO E nL Z QQ (pc) L (.long y :: .long x :: st) σ o := fun r σ' ho H locs ls hW hS hl => lv_ladd C.1 C.2.1 hd  (k r σ' ho H locs ls hW hS hl)
theorem zr_lsub (C : zCx E cc own nL ret Z h) {x y : Int64} (hd : decode cc pc = .ok (.lsub, 1))  (k : zKO E nL Z QQ (pc + 1) L (.long (x - y) :: st) σ o) : zKO E nL Z QQ (pc) L (.long y :: .long x :: st) σ o := fun r σ' ho H locs ls hW hS hl => lv_lsub C.1 C.2.1 hd  (k r σ' ho H locs ls hW hS hl)
theorem zr_lmul (C : zCx E cc own nL ret Z h) {x y : Int64} (hd : decode cc pc = .ok (.lmul, 1))  (k : zKO E nL Z QQ (pc + 1) L (.long (x * y) :: st) σ o) : zKO E nL Z QQ (pc) L (.long y :: .long x :: st) σ o := fun r σ' ho H locs ls hW hS hl => lv_lmul C.1 C.2.1 hd  (k r σ' ho H locs ls hW hS hl)
theorem zr_iushr (C : zCx E cc own nL ret Z h) {x y : Int32} (hd : decode cc pc = .ok (.iushr, 1))  (k : zKO E nL Z QQ (pc + 1) L (.int (zush x y) :: st) σ o) : zKO E nL Z QQ (pc) L (.int y :: .int x :: st) σ o := fun r σ' ho H locs ls hW hS hl => lv_iushr C.1 C.2.1 hd rfl (k r σ' ho H locs ls hW hS hl)
theorem zr_ineg (C : zCx E cc own nL ret Z h) {x : Int32} (hd : decode cc pc = .ok (.ineg, 1))  (k : zKO E nL Z QQ (pc + 1) L (.int (-x) :: st) σ o) : zKO E nL Z QQ (pc) L (.int x :: st) σ o := fun r σ' ho H locs ls hW hS hl => lv_ineg C.1 C.2.1 hd  (k r σ' ho H locs ls hW hS hl)
theorem zr_i2l (C : zCx E cc own nL ret Z h) {x : Int32} (hd : decode cc pc = .ok (.i2l, 1))  (k : zKO E nL Z QQ (pc + 1) L (.long (x.toInt64) :: st) σ o) : zKO E nL Z QQ (pc) L (.int x :: st) σ o := fun r σ' ho H locs ls hW hS hl => lv_i2l C.1 C.2.1 hd rfl (k r σ' ho H locs ls hW hS hl)
theorem zr_l2i (C : zCx E cc own nL ret Z h) {x : Int64} (hd : decode cc pc = .ok (.l2i, 1))  (k : zKO E nL Z QQ (pc + 1) L (.int (x.toInt32) :: st) σ o) : zKO E nL Z QQ (pc) L (.long x :: st) σ o := fun r σ' ho H locs ls hW hS hl => lv_l2i C.1 C.2.1 hd rfl (k r σ' ho H locs ls hW hS hl)
theorem zr_i2b (C : zCx E cc own nL ret Z h) {x : Int32} (hd : decode cc pc = .ok (.i2b, 1))  (k : zKO E nL Z QQ (pc + 1) L (.int (x.toInt8.toInt32) :: st) σ o) : zKO E nL Z QQ (pc) L (.int x :: st) σ o := fun r σ' ho H locs ls hW hS hl => lv_i2b C.1 C.2.1 hd rfl (k r σ' ho H locs ls hW hS hl)
theorem zr_i2s (C : zCx E cc own nL ret Z h) {x : Int32} (hd : decode cc pc = .ok (.i2s, 1))  (k : zKO E nL Z QQ (pc + 1) L (.int (x.toInt16.toInt32) :: st) σ o) : zKO E nL Z QQ (pc) L (.int x :: st) σ o := fun r σ' ho H locs ls hW hS hl => lv_i2s C.1 C.2.1 hd rfl (k r σ' ho H locs ls hW hS hl)
theorem zr_i2c (C : zCx E cc own nL ret Z h) {x : Int32} (hd : decode cc pc = .ok (.i2c, 1))  (k : zKO E nL Z QQ (pc + 1) L (.int ((x.toUInt32 % 65536).toInt32) :: st) σ o) : zKO E nL Z QQ (pc) L (.int x :: st) σ o := fun r σ' ho H locs ls hW hS hl => lv_i2c C.1 C.2.1 hd rfl (k r σ' ho H locs ls hW hS hl)
theorem zr_idiv (C : zCx E cc own nL ret Z h) {x y : Int32} (hd : decode cc pc = .ok (.idiv, 1)) (k : zKO E nL Z QQ (pc + 1) L (.int (x / y) :: st) σ o) : zKO E nL Z QQ (pc) L (.int y :: .int x :: st) σ (zg (zni y) o) := by
  intro r σ' ho H locs ls hW hS hl
  by_cases hy : y = 0
  · simp [zg, zni, hy] at ho
  · exact lv_idiv C.1 C.2.1 hd hy (k r σ' (by simpa [zg, zni, hy] using ho) H locs ls hW hS hl)
theorem zr_irem (C : zCx E cc own nL ret Z h) {x y : Int32} (hd : decode cc pc = .ok (.irem, 1)) (k : zKO E nL Z QQ (pc + 1) L (.int (zrem x y) :: st) σ o) : zKO E nL Z QQ (pc) L (.int y :: .int x :: st) σ (zg (zni y) o) := by
  intro r σ' ho H locs ls hW hS hl
  by_cases hy : y = 0
  · simp [zg, zni, hy] at ho
  · exact lv_irem C.1 C.2.1 hd hy (k r σ' (by simpa [zg, zni, hy] using ho) H locs ls hW hS hl)
theorem zr_ldiv (C : zCx E cc own nL ret Z h) {x y : Int64} (hd : decode cc pc = .ok (.ldiv, 1)) (k : zKO E nL Z QQ (pc + 1) L (.long (x / y) :: st) σ o) : zKO E nL Z QQ (pc) L (.long y :: .long x :: st) σ (zg (znl y) o) := by
  intro r σ' ho H locs ls hW hS hl
  by_cases hy : y = 0
  · simp [zg, znl, hy] at ho
  · exact lv_ldiv C.1 C.2.1 hd hy (k r σ' (by simpa [zg, znl, hy] using ho) H locs ls hW hS hl)
theorem zr_lcmp (C : zCx E cc own nL ret Z h) {x y : Int64} (hd : decode cc pc = .ok (.lcmp, 1)) (k : zKO E nL Z QQ (pc + 1) L (.int (lg_cmp x y) :: st) σ o) : zKO E nL Z QQ (pc) L (.long y :: .long x :: st) σ o := fun r σ' ho H locs ls hW hS hl => W.lcmp C.1 C.2.1 hd (k r σ' ho H locs ls hW hS hl)
theorem zr_icmp_eq (C : zCx E cc own nL ret Z h) {x y : Int32} {off : Int} {tgt : Nat} (hd : decode cc pc = .ok (.if_icmp .eq off, 3)) (ht : (pc : Int) + off = (tgt : Int)) (kt : zKO E nL Z QQ (tgt) L (st) σ o1) (kf : zKO E nL Z QQ (pc + 3) L (st) σ o2) : zKO E nL Z QQ (pc) L (.int y :: .int x :: st) σ (if x = y then o1 else o2) := by
  intro r σ' ho H locs ls hW hS hl
  refine lv_icmp_eq C.1 C.2.1 hd ht (fun c => ?_) (fun c => ?_)
  · exact kt r σ' (by simpa [c] using ho) H locs ls hW hS hl
  · exact kf r σ' (by simpa [c] using ho) H locs ls hW hS hl
theorem zr_icmp_lt (C : zCx E cc own nL ret Z h) {x y : Int32} {off : Int} {tgt : Nat} (hd : decode cc pc = .ok (.if_icmp .lt off, 3)) (ht : (pc : Int) + off = (tgt : Int)) (kt : zKO E nL Z QQ (tgt) L (st) σ o1) (kf : zKO E nL Z QQ (pc + 3) L (st) σ o2) : zKO E nL Z QQ (pc) L (.int y :: .int x :: st) σ (if x < y then o1 else o2) := by
  intro r σ' ho H locs ls hW hS hl
  refine lv_icmp_lt C.1 C.2.1 hd ht (fun c => ?_) (fun c => ?_)
  · exact kt r σ' (by simpa [c] using ho) H locs ls hW hS hl
  · exact kf r σ' (by simpa [c] using ho) H locs ls hW hS hl
theorem zr_icmp_ge (C : zCx E cc own nL ret Z h) {x y : Int32} {off : Int} {tgt : Nat} (hd : decode cc pc = .ok (.if_icmp .ge off, 3)) (ht : (pc : Int) + off = (tgt : Int)) (kt : zKO E nL Z QQ (tgt) L (st) σ o1) (kf : zKO E nL Z QQ (pc + 3) L (st) σ o2) : zKO E nL Z QQ (pc) L (.int y :: .int x :: st) σ (if y ≤ x then o1 else o2) := by
  intro r σ' ho H locs ls hW hS hl
  refine lv_icmp_ge C.1 C.2.1 hd ht (fun c => ?_) (fun c => ?_)
  · exact kt r σ' (by simpa [c] using ho) H locs ls hW hS hl
  · exact kf r σ' (by simpa [c] using ho) H locs ls hW hS hl
theorem zr_icmp_gt (C : zCx E cc own nL ret Z h) {x y : Int32} {off : Int} {tgt : Nat} (hd : decode cc pc = .ok (.if_icmp .gt off, 3)) (ht : (pc : Int) + off = (tgt : Int)) (kt : zKO E nL Z QQ (tgt) L (st) σ o1) (kf : zKO E nL Z QQ (pc + 3) L (st) σ o2) : zKO E nL Z QQ (pc) L (.int y :: .int x :: st) σ (if y < x then o1 else o2) := by
  intro r σ' ho H locs ls hW hS hl
  refine lv_icmp_gt C.1 C.2.1 hd ht (fun c => ?_) (fun c => ?_)
  · exact kt r σ' (by simpa [c] using ho) H locs ls hW hS hl
  · exact kf r σ' (by simpa [c] using ho) H locs ls hW hS hl
theorem zr_icmp_le (C : zCx E cc own nL ret Z h) {x y : Int32} {off : Int} {tgt : Nat} (hd : decode cc pc = .ok (.if_icmp .le off, 3)) (ht : (pc : Int) + off = (tgt : Int)) (kt : zKO E nL Z QQ (tgt) L (st) σ o1) (kf : zKO E nL Z QQ (pc + 3) L (st) σ o2) : zKO E nL Z QQ (pc) L (.int y :: .int x :: st) σ (if x ≤ y then o1 else o2) := by
  intro r σ' ho H locs ls hW hS hl
  refine lv_icmp_le C.1 C.2.1 hd ht (fun c => ?_) (fun c => ?_)
  · exact kt r σ' (by simpa [c] using ho) H locs ls hW hS hl
  · exact kf r σ' (by simpa [c] using ho) H locs ls hW hS hl
theorem zr_icmp_ne (C : zCx E cc own nL ret Z h) {x y : Int32} {off : Int} {tgt : Nat} (hd : decode cc pc = .ok (.if_icmp .ne off, 3)) (ht : (pc : Int) + off = (tgt : Int)) (kt : zKO E nL Z QQ (tgt) L (st) σ o2) (kf : zKO E nL Z QQ (pc + 3) L (st) σ o1) : zKO E nL Z QQ (pc) L (.int y :: .int x :: st) σ (if x = y then o1 else o2) := by
  intro r σ' ho H locs ls hW hS hl
  refine lv_icmp_ne C.1 C.2.1 hd ht (fun c => ?_) (fun c => ?_)
  · exact kt r σ' (by simpa [c] using ho) H locs ls hW hS hl
  · exact kf r σ' (by simpa [c] using ho) H locs ls hW hS hl
theorem zr_if_eq (C : zCx E cc own nL ret Z h) {x : Int32} {off : Int} {tgt : Nat} (hd : decode cc pc = .ok (.ifCond .eq off, 3)) (ht : (pc : Int) + off = (tgt : Int)) (kt : zKO E nL Z QQ (tgt) L (st) σ o1) (kf : zKO E nL Z QQ (pc + 3) L (st) σ o2) : zKO E nL Z QQ (pc) L (.int x :: st) σ (if x = 0 then o1 else o2) := by
  intro r σ' ho H locs ls hW hS hl
  refine lv_if_eq C.1 C.2.1 hd ht (fun c => ?_) (fun c => ?_)
  · exact kt r σ' (by simpa [c] using ho) H locs ls hW hS hl
  · exact kf r σ' (by simpa [c] using ho) H locs ls hW hS hl
theorem zr_if_lt (C : zCx E cc own nL ret Z h) {x : Int32} {off : Int} {tgt : Nat} (hd : decode cc pc = .ok (.ifCond .lt off, 3)) (ht : (pc : Int) + off = (tgt : Int)) (kt : zKO E nL Z QQ (tgt) L (st) σ o1) (kf : zKO E nL Z QQ (pc + 3) L (st) σ o2) : zKO E nL Z QQ (pc) L (.int x :: st) σ (if x < 0 then o1 else o2) := by
  intro r σ' ho H locs ls hW hS hl
  refine lv_if_lt C.1 C.2.1 hd ht (fun c => ?_) (fun c => ?_)
  · exact kt r σ' (by simpa [c] using ho) H locs ls hW hS hl
  · exact kf r σ' (by simpa [c] using ho) H locs ls hW hS hl
theorem zr_if_ge (C : zCx E cc own nL ret Z h) {x : Int32} {off : Int} {tgt : Nat} (hd : decode cc pc = .ok (.ifCond .ge off, 3)) (ht : (pc : Int) + off = (tgt : Int)) (kt : zKO E nL Z QQ (tgt) L (st) σ o1) (kf : zKO E nL Z QQ (pc + 3) L (st) σ o2) : zKO E nL Z QQ (pc) L (.int x :: st) σ (if 0 ≤ x then o1 else o2) := by
  intro r σ' ho H locs ls hW hS hl
  refine lv_if_ge C.1 C.2.1 hd ht (fun c => ?_) (fun c => ?_)
  · exact kt r σ' (by simpa [c] using ho) H locs ls hW hS hl
  · exact kf r σ' (by simpa [c] using ho) H locs ls hW hS hl
theorem zr_if_gt (C : zCx E cc own nL ret Z h) {x : Int32} {off : Int} {tgt : Nat} (hd : decode cc pc = .ok (.ifCond .gt off, 3)) (ht : (pc : Int) + off = (tgt : Int)) (kt : zKO E nL Z QQ (tgt) L (st) σ o1) (kf : zKO E nL Z QQ (pc + 3) L (st) σ o2) : zKO E nL Z QQ (pc) L (.int x :: st) σ (if 0 < x then o1 else o2) := by
  intro r σ' ho H locs ls hW hS hl
  refine lv_if_gt C.1 C.2.1 hd ht (fun c => ?_) (fun c => ?_)
  · exact kt r σ' (by simpa [c] using ho) H locs ls hW hS hl
  · exact kf r σ' (by simpa [c] using ho) H locs ls hW hS hl
theorem zr_if_le (C : zCx E cc own nL ret Z h) {x : Int32} {off : Int} {tgt : Nat} (hd : decode cc pc = .ok (.ifCond .le off, 3)) (ht : (pc : Int) + off = (tgt : Int)) (kt : zKO E nL Z QQ (tgt) L (st) σ o1) (kf : zKO E nL Z QQ (pc + 3) L (st) σ o2) : zKO E nL Z QQ (pc) L (.int x :: st) σ (if x ≤ 0 then o1 else o2) := by
  intro r σ' ho H locs ls hW hS hl
  refine lv_if_le C.1 C.2.1 hd ht (fun c => ?_) (fun c => ?_)
  · exact kt r σ' (by simpa [c] using ho) H locs ls hW hS hl
  · exact kf r σ' (by simpa [c] using ho) H locs ls hW hS hl
theorem zr_if_ne (C : zCx E cc own nL ret Z h) {x : Int32} {off : Int} {tgt : Nat} (hd : decode cc pc = .ok (.ifCond .ne off, 3)) (ht : (pc : Int) + off = (tgt : Int)) (kt : zKO E nL Z QQ (tgt) L (st) σ o2) (kf : zKO E nL Z QQ (pc + 3) L (st) σ o1) : zKO E nL Z QQ (pc) L (.int x :: st) σ (if x = 0 then o1 else o2) := by
  intro r σ' ho H locs ls hW hS hl
  refine lv_if_ne C.1 C.2.1 hd ht (fun c => ?_) (fun c => ?_)
  · exact kt r σ' (by simpa [c] using ho) H locs ls hW hS hl
  · exact kf r σ' (by simpa [c] using ho) H locs ls hW hS hl
theorem zr_goto (C : zCx E cc own nL ret Z h) {off : Int} {tgt : Nat} (hd : decode cc pc = .ok (.goto off, 3)) (ht : (pc : Int) + off = (tgt : Int)) (k : zKO E nL Z QQ (tgt) L (st) σ o) : zKO E nL Z QQ (pc) L (st) σ o := fun r σ' ho H locs ls hW hS hl => lv_goto C.1 C.2.1 hd ht (k r σ' ho H locs ls hW hS hl)
theorem zr_tabOut (C : zCx E cc own nL ret Z h) {dflt lo hi : Int} {offs : Array Int} {len : Nat} {x : Int32} {tgt : Nat} (hd : decode cc pc = .ok (.tableswitch dflt lo hi offs, len)) (hx : x.toInt < lo ∨ hi < x.toInt) (ht : (pc : Int) + dflt = (tgt : Int)) (k : zKO E nL Z QQ (tgt) L (st) σ o) : zKO E nL Z QQ (pc) L (.int x :: st) σ o :=
  fun r σ' ho H locs ls hW hS hl => lv_tableOut C.1 C.2.1 hd hx ht (k r σ' ho H locs ls hW hS hl)
theorem zr_tabIn (C : zCx E cc own nL ret Z h) {dflt lo hi : Int} {offs : Array Int} {len : Nat} {x : Int32} {off : Int} {tgt : Nat} (hd : decode cc pc = .ok (.tableswitch dflt lo hi offs, len)) (h1 : ¬ x.toInt < lo) (h2 : ¬ hi < x.toInt) (ho1 : offs[(x.toInt - lo).toNat]? = some off) (ht : (pc : Int) + off = (tgt : Int)) (k : zKO E nL Z QQ (tgt) L (st) σ o) : zKO E nL Z QQ (pc) L (.int x :: st) σ o :=
  fun r σ' ho H locs ls hW hS hl => lv_tableIn C.1 C.2.1 hd h1 h2 ho1 ht (k r σ' ho H locs ls hW hS hl)
theorem zr_lookup (C : zCx E cc own nL ret Z h) {dflt : Int} {ps : Array (Int × Int)} {len : Nat} {x : Int32} {off : Int} {tgt : Nat} (hd : decode cc pc = .ok (.lookupswitch dflt ps, len)) (hp : (ps.toList.zip (ps.toList.drop 1)).all (fun (a, next) => a.1 < next.1) = true) (ho1 : Op.lookupswitch.offset ps.toList dflt x.toInt = off) (ht : (pc : Int) + off = (tgt : Int)) (k : zKO E nL Z QQ (tgt) L (st) σ o) : zKO E nL Z QQ (pc) L (.int x :: st) σ o :=
  fun r σ' ho H locs ls hW hS hl => lv_lookup C.1 C.2.1 hd hp ho1 ht (k r σ' ho H locs ls hW hS hl)
/-- a split by a condition, without a step -/
theorem zr_if {c : Prop} [Decidable c] (kt : c → zKO E nL Z QQ (pc) L (st) σ o1) (kf : ¬ c → zKO E nL Z QQ (pc) L (st) σ o2) : zKO E nL Z QQ (pc) L (st) σ (if c then o1 else o2) := by
  intro r σ' ho
  by_cases hc : c
  · exact kt hc r σ' (by simpa [hc] using ho)
  · exact kf hc r σ' (by simpa [hc] using ho)
theorem zr_g {b : Bool} (k : b = true → zKO E nL Z QQ (pc) L (st) σ o) : zKO E nL Z QQ (pc) L (st) σ (zg b o) := by
  intro r σ' ho
  by_cases hc : b = true
  · exact k hc r σ' (by simpa [zg, hc] using ho)
  · simp [zg, hc] at ho
theorem zr_none : zKO E nL Z QQ (pc) L (st) σ none := fun r σ' ho => by cases ho
theorem zr_sub {L1 : List (Nat × Value)} (ks : List Nat) (hL : lv_pick L ks = L1) (k : zKO E nL Z QQ (pc) L1 (st) σ o) : zKO E nL Z QQ (pc) L (st) σ o := fun r σ' ho H locs ls hW hS hl => k r σ' ho H locs ls hW hS (lv_sub hl ks hL)
theorem zr_loop {tl : Type} {b : (zMem → tl → Option (α × zMem)) → zMem → tl → Option (α × zMem)} {LL : tl → List (Nat × Value)} {ST : tl → List Value} (hb : ∀ rec : zMem → tl → Option (α × zMem), (∀ σ x, zKO E nL Z QQ pc (LL x) (ST x) σ (rec σ x)) → ∀ σ x, zKO E nL Z QQ pc (LL x) (ST x) σ (b rec σ x)) : ∀ (n : Nat) (σ : zMem) (x : tl), zKO E nL Z QQ pc (LL x) (ST x) σ (zit b n σ x)
  | 0, _, _ => fun r σ' ho => by cases ho
  | n + 1, σ, x => hb (zit b n) (zr_loop hb n) σ x
theorem zr_dup (C : zCx E cc own nL ret Z h) {va : Value} (hd : decode cc pc = .ok (.dup, 1)) (h1 : va.category = 1) (k : zKO E nL Z QQ (pc + 1) L (va :: va :: st) σ o) : zKO E nL Z QQ (pc) L (va :: st) σ o := fun r σ' ho H locs ls hW hS hl => lv_dup C.1 C.2.1 hd h1 (k r σ' ho H locs ls hW hS hl)
theorem zr_dup_x1 (C : zCx E cc own nL ret Z h) {va vb : Value} (hd : decode cc pc = .ok (.dup_x1, 1)) (h1 : va.category = 1) (h2 : vb.category = 1) (k : zKO E nL Z QQ (pc + 1) L (va :: vb :: va :: st) σ o) : zKO E nL Z QQ (pc) L (va :: vb :: st) σ o := fun r σ' ho H locs ls hW hS hl => lv_dup_x1 C.1 C.2.1 hd h1 h2 (k r σ' ho H locs ls hW hS hl)
theorem zr_pop (C : zCx E cc own nL ret Z h) {va : Value} (hd : decode cc pc = .ok (.pop, 1)) (h1 : va.category = 1) (k : zKO E nL Z QQ (pc + 1) L (st) σ o) : zKO E nL Z QQ (pc) L (va :: st) σ o := fun r σ' ho H locs ls hW hS hl => lv_pop C.1 C.2.1 hd h1 (k r σ' ho H locs ls hW hS hl)
theorem zr_dup2 (C : zCx E cc own nL ret Z h) {va vb : Value} (hd : decode cc pc = .ok (.dup2, 1)) (h1 : va.category = 1) (h2 : vb.category = 1) (k : zKO E nL Z QQ (pc + 1) L (va :: vb :: va :: vb :: st) σ o) : zKO E nL Z QQ (pc) L (va :: vb :: st) σ o := fun r σ' ho H locs ls hW hS hl => lv_dup2_11 C.1 C.2.1 hd h1 h2 (k r σ' ho H locs ls hW hS hl)
theorem zP1 {Z : zLay} {σ : zMem} {H : Heap} (hW : zW Z σ H) {k i : Nat} (hk : i < zN k) : va_P Z.1 vwCl [(zad Z k i, zE Z k i (σ.1 k i) (σ.2 k i))] H := by
  intro q x hx
  cases q with
  | zero => cases hx; exact hW k i hk
  | succ q => simp at hx
theorem zT_in {C : String} {T : u_T} {N : Nat} (h : (u_ws C T N).all (fun w => zTB.contains w) = true) : ∀ w ∈ u_ws C T N, w ∈ zTB := fun w hw => by
  have := List.all_eq_true.mp h w hw
  simpa using this
theorem zr_get (C : zCx E cc own nL ret Z h) {Cn : String} {T : u_T} {N ci ix k i : Nat} (j : Nat) {fs : List Value} {v : Value} (hin : ∀ w ∈ u_ws Cn T N, w ∈ zTB) (hc : vwCl[ci]? = some (Cn, T, N)) (hj : j < N) (hT : (T j).1 = Cn) (hlink : Cond.fieldLink own ix Cn (T j).2.1 (T j).2.2.1 ∈ zTB) (hd : decode cc pc = .ok (.getfield ix, 3)) (hk : i < zN k) (hE : zE Z k i (σ.1 k i) (σ.2 k i) = .inr (ci, fs)) (hv : fs[j]? = some v) (kk : zKO E nL Z QQ (pc + 3) L (v :: st) σ o) : zKO E nL Z QQ (pc) L (.ref (zad Z k i) :: st) σ o := by
  intro r σ' ho H locs ls hW hS hl
  have hP := zP1 hW hk
  rw [hE] at hP
  exact va_get C.1 C.2.1 (Ts := zTB) C.2.2.2.2.1 hin C.2.2.1 C.2.2.2.2.2.1 hP 0 rfl hc j hj (C.2.2.2.2.1 _ hlink) (fun x q => by rw [hT] at q; exact q) hv hd (kk r σ' ho H locs ls hW hS hl)
theorem zr_getN (C : zCx E cc own nL ret Z h) {Cn : String} {T : u_T} {N ci ix k i : Nat} (j : Nat) {fs : List Value} {v : Value} (hin : ∀ w ∈ u_ws Cn T N, w ∈ zTB) (hc : vwCl[ci]? = some (Cn, T, N)) (hj : j < N) (hT : (T j).1 = Cn) {host : String} (hlink : Cond.fieldLinkNest own ix Cn (T j).2.1 (T j).2.2.1 host ∈ zNest) (hd : decode cc pc = .ok (.getfield ix, 3)) (hk : i < zN k) (hE : zE Z k i (σ.1 k i) (σ.2 k i) = .inr (ci, fs)) (hv : fs[j]? = some v) (kk : zKO E nL Z QQ (pc + 3) L (v :: st) σ o) : zKO E nL Z QQ (pc) L (.ref (zad Z k i) :: st) σ o := by
  intro r σ' ho H locs ls hW hS hl
  have hP := zP1 hW hk
  rw [hE] at hP
  exact va_getN C.1 C.2.1 (Ts := zTB) C.2.2.2.2.1 hin C.2.2.1 C.2.2.2.2.2.1 hP 0 rfl hc j hj (va_Nw.use rfl (C.2.2.2.2.2.2.2.1 _ hlink)) (fun x q => by rw [hT] at q; exact q) hv hd (kk r σ' ho H locs ls hW hS hl)
theorem zS_add {A : Nat → Prop} {H0 H H1 : Heap} {locs locs1 : List Loc} {a : Nat} (h : va_S A H0 H locs) (ha : A a) (z : H1.size = H.size) (oq : ∀ q : Nat, q ≠ a → H1[q]? = H[q]?) (j : Nat) : va_S A H0 H1 (locs ++ [⟨a, j⟩]) := h.put z oq ha
theorem zr_put (C : zCx E cc own nL ret Z h) {Cn : String} {T : u_T} {N ci ix k i : Nat} (j : Nat) {ty0 : Nat → FieldType} {ty : FieldType} {fs : List Value} {v : Value} {σ1 : zMem} (hin : ∀ w ∈ u_ws Cn T N, w ∈ zTB) (hc : vwCl[ci]? = some (Cn, T, N)) (hj : j < N) (hT : (T j).1 = Cn) (hty : ∀ k, k < N → parseFieldDescriptor (T k).2.2.1 = some (ty0 k)) (hnm : ∀ a, a < N → ∀ b, b < N → a ≠ b → (T a).2.1 ≠ (T b).2.1) (hfin : (T j).2.2.2 = false) (hd1 : parseFieldDescriptor (T j).2.2.1 = some ty) (hlink : Cond.fieldLink own ix Cn (T j).2.1 (T j).2.2.1 ∈ zTB) (hd : decode cc pc = .ok (.putfield ix, 3)) (hk : i < zN k) (hE : zE Z k i (σ.1 k i) (σ.2 k i) = .inr (ci, fs)) (hl0 : j < fs.length) (hn : narrow ty v = v) (hfit : fits ty v = true)
    (h1 : ∀ a b, ¬ (a = k ∧ b = i) → σ1.1 a b = σ.1 a b) (h2 : ∀ a b, ¬ (a = k ∧ b = i) → σ1.2 a b = σ.2 a b) (hE1 : zE Z k i (σ1.1 k i) (σ1.2 k i) = .inr (ci, fs.set j v)) (kk : zKO E nL Z QQ (pc + 3) L (st) σ1 o) : zKO E nL Z QQ (pc) L (v :: .ref (zad Z k i) :: st) σ o := by
  intro r σ' ho H locs ls hW hS hl
  have hap := va_apart (own := own) C.2.2.2.2.1 hin ty0 hty hnm C.2.2.2.2.2.1 hc
  have ha := hW k i hk
  rw [hE] at ha
  obtain ⟨rr, g1, cell, q1, q2, q3, q4⟩ := ha
  have hr : rr = (Cn, T, N) := Option.some.inj (g1.symm.trans hc)
  subst hr
  obtain ⟨hSl, hfc, kC, hkC, hkind⟩ := C.2.2.2.2.2.1.1 ci _ hc
  obtain ⟨cf, kf, fi, f, hi, hsl⟩ := hSl j hj
  have hlay := C.2.2.2.2.1 _ (hin _ (u_in_lay hj))
  unfold u_lay at hlay
  rw [if_neg (by rw [hfin]; decide)] at hlay
  have hst := (u_facts hfc hkC (u_lays C.2.2.2.2.1 hin hj) hi).1
  have h6 := u_store hfc hkC hkind hlay hi hd1 hn hfit
  rw [hT] at hi
  refine W.putK C.1 C.2.1 (f := f) ⟨C.2.2.1, C.2.2.2.2.1 _ hlink, ⟨_, _, _, hi⟩, hst⟩ (by rw [q2]; exact h6) q1 q3 (by rw [hsl]; exact k2_hasslot (q4 j hj)) rfl rfl hd fun H' e1 e2 e3 => ?_
  rw [hsl] at e1 ⊢
  have hat : va_at Z.1 vwCl (zad Z k i, zE Z k i (σ1.1 k i) (σ1.2 k i)) H' := by
    rw [hE1]
    exact ⟨_, hc, t_OB.to (V := updV (vp_V fs) j v) ⟨_, e1, q2, q3, t_set q4 hap hj v⟩ (fun x _ => vp_updV_set hl0 v x)⟩
  exact kk r σ' ho H' _ ls (zW_put hW C.2.2.2.2.2.2.1 hk σ1 h1 h2 rfl rfl e3 hat) (hS.put e2 e3 ⟨k, i, hk, rfl⟩) hl
theorem zr_putN (C : zCx E cc own nL ret Z h) {Cn : String} {T : u_T} {N ci ix k i : Nat} (j : Nat) {ty0 : Nat → FieldType} {ty : FieldType} {fs : List Value} {v : Value} {σ1 : zMem} (hin : ∀ w ∈ u_ws Cn T N, w ∈ zTB) (hc : vwCl[ci]? = some (Cn, T, N)) (hj : j < N) (hT : (T j).1 = Cn) (hty : ∀ k, k < N → parseFieldDescriptor (T k).2.2.1 = some (ty0 k)) (hnm : ∀ a, a < N → ∀ b, b < N → a ≠ b → (T a).2.1 ≠ (T b).2.1) (hfin : (T j).2.2.2 = false) (hd1 : parseFieldDescriptor (T j).2.2.1 = some ty) {host : String} (hlink : Cond.fieldLinkNest own ix Cn (T j).2.1 (T j).2.2.1 host ∈ zNest) (hd : decode cc pc = .ok (.putfield ix, 3)) (hk : i < zN k) (hE : zE Z k i (σ.1 k i) (σ.2 k i) = .inr (ci, fs)) (hl0 : j < fs.length) (hn : narrow ty v = v) (hfit : fits ty v = true)
    (h1 : ∀ a b, ¬ (a = k ∧ b = i) → σ1.1 a b = σ.1 a b) (h2 : ∀ a b, ¬ (a = k ∧ b = i) → σ1.2 a b = σ.2 a b) (hE1 : zE Z k i (σ1.1 k i) (σ1.2 k i) = .inr (ci, fs.set j v)) (kk : zKO E nL Z QQ (pc + 3) L (st) σ1 o) : zKO E nL Z QQ (pc) L (v :: .ref (zad Z k i) :: st) σ o := by
  intro r σ' ho H locs ls hW hS hl
  have hap := va_apart (own := own) C.2.2.2.2.1 hin ty0 hty hnm C.2.2.2.2.2.1 hc
  have ha := hW k i hk
  rw [hE] at ha
  obtain ⟨rr, g1, cell, q1, q2, q3, q4⟩ := ha
  have hr : rr = (Cn, T, N) := Option.some.inj (g1.symm.trans hc)
  subst hr
  obtain ⟨hSl, hfc, kC, hkC, hkind⟩ := C.2.2.2.2.2.1.1 ci _ hc
  obtain ⟨cf, kf, fi, f, hi, hsl⟩ := hSl j hj
  have hlay := C.2.2.2.2.1 _ (hin _ (u_in_lay hj))
  unfold u_lay at hlay
  rw [if_neg (by rw [hfin]; decide)] at hlay
  have hst := (u_facts hfc hkC (u_lays C.2.2.2.2.1 hin hj) hi).1
  have h6 := u_store hfc hkC hkind hlay hi hd1 hn hfit
  rw [hT] at hi
  refine va_WputK C.1 C.2.1 (f := f) C.2.2.1 (va_Nw.use rfl (C.2.2.2.2.2.2.2.1 _ hlink)) hi hst (by rw [q2]; exact h6) q1 q3 (by rw [hsl]; exact k2_hasslot (q4 j hj)) rfl rfl hd fun H' e1 e2 e3 => ?_
  rw [hsl] at e1 ⊢
  have hat : va_at Z.1 vwCl (zad Z k i, zE Z k i (σ1.1 k i) (σ1.2 k i)) H' := by
    rw [hE1]
    exact ⟨_, hc, t_OB.to (V := updV (vp_V fs) j v) ⟨_, e1, q2, q3, t_set q4 hap hj v⟩ (fun x _ => vp_updV_set hl0 v x)⟩
  exact kk r σ' ho H' _ ls (zW_put hW C.2.2.2.2.2.2.1 hk σ1 h1 h2 rfl rfl e3 hat) (hS.put e2 e3 ⟨k, i, hk, rfl⟩) hl
theorem zr_iald (C : zCx E cc own nL ret Z h) {k i n : Nat} {x : Int32} (hd : decode cc pc = .ok (.iaload, 1)) (hk : i < zN k) (hE : zE Z k i (σ.1 k i) (σ.2 k i) = .inl (zca Z 0, n, .inl (σ.1 k i))) (kk : zKO E nL Z QQ (pc + 1) L (.int (σ.1 k i x.toNatClampNeg) :: st) σ o) : zKO E nL Z QQ (pc) L (.int x :: .ref (zad Z k i) :: st) σ (zg (inb x n) o) := by
  refine zr_g fun hb => ?_
  intro r σ' ho H locs ls hW hS hl
  have hP := zP1 hW hk
  rw [hE] at hP
  exact va_iald C.1 C.2.1 C.2.2.2.2.2.1 hP 0 0 rfl rfl (inb_in hb) hd (kk r σ' ho H locs ls hW hS hl)
theorem zr_lald (C : zCx E cc own nL ret Z h) {k i n : Nat} {x : Int32} (hd : decode cc pc = .ok (.laload, 1)) (hk : i < zN k) (hE : zE Z k i (σ.1 k i) (σ.2 k i) = .inl (zca Z 1, n, .inr (.inl (σ.2 k i)))) (kk : zKO E nL Z QQ (pc + 1) L (.long (σ.2 k i x.toNatClampNeg) :: st) σ o) : zKO E nL Z QQ (pc) L (.int x :: .ref (zad Z k i) :: st) σ (zg (inb x n) o) := by
  refine zr_g fun hb => ?_
  intro r σ' ho H locs ls hW hS hl
  have hP := zP1 hW hk
  rw [hE] at hP
  exact va_lald C.1 C.2.1 C.2.2.2.2.2.1 hP 0 1 rfl rfl (inb_in hb) hd (kk r σ' ho H locs ls hW hS hl)
theorem zr_bald (C : zCx E cc own nL ret Z h) {k i n : Nat} {x : Int32} (hd : decode cc pc = .ok (.baload, 1)) (hk : i < zN k) (hE : zE Z k i (σ.1 k i) (σ.2 k i) = .inl (zca Z 2, n, .inl (σ.1 k i))) (kk : zKO E nL Z QQ (pc + 1) L (.int (σ.1 k i x.toNatClampNeg) :: st) σ o) : zKO E nL Z QQ (pc) L (.int x :: .ref (zad Z k i) :: st) σ (zg (inb x n) o) := by
  refine zr_g fun hb => ?_
  intro r σ' ho H locs ls hW hS hl
  have hP := zP1 hW hk
  rw [hE] at hP
  exact va_bald C.1 C.2.1 C.2.2.2.2.2.1 hP 0 2 rfl rfl (inb_in hb) hd (kk r σ' ho H locs ls hW hS hl)
theorem zr_sald (C : zCx E cc own nL ret Z h) {k i n : Nat} {x : Int32} (hd : decode cc pc = .ok (.saload, 1)) (hk : i < zN k) (hE : zE Z k i (σ.1 k i) (σ.2 k i) = .inl (zca Z 3, n, .inl (σ.1 k i))) (kk : zKO E nL Z QQ (pc + 1) L (.int (σ.1 k i x.toNatClampNeg) :: st) σ o) : zKO E nL Z QQ (pc) L (.int x :: .ref (zad Z k i) :: st) σ (zg (inb x n) o) := by
  refine zr_g fun hb => ?_
  intro r σ' ho H locs ls hW hS hl
  have hP := zP1 hW hk
  rw [hE] at hP
  exact va_sald C.1 C.2.1 C.2.2.2.2.2.1 hP 0 3 rfl rfl (inb_in hb) hd (kk r σ' ho H locs ls hW hS hl)
theorem zr_zald (C : zCx E cc own nL ret Z h) {k i n : Nat} {x : Int32} (hd : decode cc pc = .ok (.baload, 1)) (hk : i < zN k) (hE : zE Z k i (σ.1 k i) (σ.2 k i) = .inl (zca Z 4, n, .inl (σ.1 k i))) (kk : zKO E nL Z QQ (pc + 1) L (.int (σ.1 k i x.toNatClampNeg) :: st) σ o) : zKO E nL Z QQ (pc) L (.int x :: .ref (zad Z k i) :: st) σ (zg (inb x n) o) := by
  refine zr_g fun hb => ?_
  intro r σ' ho H locs ls hW hS hl
  have hP := zP1 hW hk
  rw [hE] at hP
  exact va_zald C.1 C.2.1 C.2.2.2.2.2.1 hP 0 4 rfl rfl (inb_in hb) hd (kk r σ' ho H locs ls hW hS hl)
theorem zr_aald (C : zCx E cc own nL ret Z h) {k i n k1 t0 : Nat} {ty : FieldType} {x : Int32} (hd : decode cc pc = .ok (.aaload, 1)) (hk : i < zN k) (hE : zE Z k i (σ.1 k i) (σ.2 k i) = .inl (zca Z t0, n, .inr (.inr (.inr (.inr (fun j => some (zad Z k1 j))))))) (ht : (zTys Z)[t0]? = some (zca Z t0, ty)) (hr : ty.isReference = true) (kk : x.toNatClampNeg < n → zKO E nL Z QQ (pc + 1) L (.ref (zad Z k1 x.toNatClampNeg) :: st) σ o) : zKO E nL Z QQ (pc) L (.int x :: .ref (zad Z k i) :: st) σ (zg (inb x n) o) := by
  refine zr_g fun hb => ?_
  intro r σ' ho H locs ls hW hS hl
  have ha := hW k i hk
  rw [hE] at ha
  have hin := inb_in hb
  have hlt : x.toNatClampNeg < n := Nat.not_le.mp fun q => hin (Or.inr q)
  exact W.aald (v := .ref (zad Z k1 x.toNatClampNeg)) (ty := ty) C.1 C.2.1 ha ((C.2.2.2.2.2.1.2 t0 _ ht).1 n (fun j => .ref (zad Z k1 j))) hr (fun q => by cases q) (by show ¬ (x < 0 ∨ (arrV _ _ _).slots.size ≤ _); rw [arrV_size]; exact hin) (by show (arrV _ _ _).slots[_]? = _; rw [arrV_read _ _ hlt]; rfl) rfl rfl hd (kk hlt r σ' ho H locs ls hW hS hl)
theorem zr_iast (C : zCx E cc own nL ret Z h) {k i n : Nat} {y : Int32} {x : Int32} (hd : decode cc pc = .ok (.iastore, 1)) (hk : i < zN k) (hE : ∀ f g, zE Z k i f g = .inl (zca Z 0, n, .inl f)) (kk : zKO E nL Z QQ (pc + 1) L (st) (zwi σ k i y.toNatClampNeg (x)) o) : zKO E nL Z QQ (pc) L (.int x :: .int y :: .ref (zad Z k i) :: st) σ (zg (inb y n) o) := by
  refine zr_g fun hb => ?_
  have hb := hb
  intro r σ' ho H locs ls hW hS hl
  have ha := hW k i hk
  rw [hE] at ha
  have hin := inb_in hb
  have hlt : y.toNatClampNeg < n := Nat.not_le.mp fun q => hin (Or.inr q)
  refine W.iast C.1 C.2.1 ha ((C.2.2.2.2.2.1.2 0 _ rfl).1 n (fun j => .int (σ.1 k i j))) (fun q => by cases q) (by show ¬ (y < 0 ∨ (arrV _ _ _).slots.size ≤ _); rw [arrV_size]; exact hin) rfl rfl hd fun H1 e z oq => ?_
  refine kk r σ' ho H1 _ ls (zW_put hW C.2.2.2.2.2.2.1 hk (zwi σ k i y.toNatClampNeg (x)) (fun a b q => zu_off _ _ _ q) (fun a b q => rfl) rfl rfl oq ?_) (hS.put z oq ⟨k, i, hk, rfl⟩) hl
  rw [hE]
  show H1[zad Z k i]? = some (vp_cell _ _)
  rw [e]
  show some ((arrV (zca Z 0) n (fun j => .int (σ.1 k i j))).setSlot _ _) = some (arrV (zca Z 0) n (fun j => .int (zu σ.1 k i y.toNatClampNeg (x) k i j)))
  rw [arrV_store]
  congr 2
  funext q
  show updV _ _ _ q = .int (zu σ.1 k i y.toNatClampNeg (x) k i q)
  rw [zu_at]
  by_cases hq : q = y.toNatClampNeg
  · subst hq
    simp [updV]
  · simp [updV, hq]
theorem zr_bast (C : zCx E cc own nL ret Z h) {k i n : Nat} {y : Int32} {x : Int32} (hd : decode cc pc = .ok (.bastore, 1)) (hk : i < zN k) (hE : ∀ f g, zE Z k i f g = .inl (zca Z 2, n, .inl f)) (kk : zKO E nL Z QQ (pc + 1) L (st) (zwi σ k i y.toNatClampNeg (x.toInt8.toInt32)) o) : zKO E nL Z QQ (pc) L (.int x :: .int y :: .ref (zad Z k i) :: st) σ (zg (inb y n) o) := by
  refine zr_g fun hb => ?_
  have hb := hb
  intro r σ' ho H locs ls hW hS hl
  have ha := hW k i hk
  rw [hE] at ha
  have hin := inb_in hb
  have hlt : y.toNatClampNeg < n := Nat.not_le.mp fun q => hin (Or.inr q)
  refine W.bast C.1 C.2.1 ha ((C.2.2.2.2.2.1.2 2 _ rfl).1 n (fun j => .int (σ.1 k i j))) (fun q => by cases q) (by show ¬ (y < 0 ∨ (arrV _ _ _).slots.size ≤ _); rw [arrV_size]; exact hin) rfl rfl hd fun H1 e z oq => ?_
  refine kk r σ' ho H1 _ ls (zW_put hW C.2.2.2.2.2.2.1 hk (zwi σ k i y.toNatClampNeg (x.toInt8.toInt32)) (fun a b q => zu_off _ _ _ q) (fun a b q => rfl) rfl rfl oq ?_) (hS.put z oq ⟨k, i, hk, rfl⟩) hl
  rw [hE]
  show H1[zad Z k i]? = some (vp_cell _ _)
  rw [e]
  show some ((arrV (zca Z 2) n (fun j => .int (σ.1 k i j))).setSlot _ _) = some (arrV (zca Z 2) n (fun j => .int (zu σ.1 k i y.toNatClampNeg (x.toInt8.toInt32) k i j)))
  rw [arrV_store]
  congr 2
  funext q
  show updV _ _ _ q = .int (zu σ.1 k i y.toNatClampNeg (x.toInt8.toInt32) k i q)
  rw [zu_at]
  by_cases hq : q = y.toNatClampNeg
  · subst hq
    simp [updV, zn_byte]
  · simp [updV, hq]
theorem zr_sast (C : zCx E cc own nL ret Z h) {k i n : Nat} {y : Int32} {x : Int32} (hd : decode cc pc = .ok (.sastore, 1)) (hk : i < zN k) (hE : ∀ f g, zE Z k i f g = .inl (zca Z 3, n, .inl f)) (kk : zKO E nL Z QQ (pc + 1) L (st) (zwi σ k i y.toNatClampNeg (x.toInt16.toInt32)) o) : zKO E nL Z QQ (pc) L (.int x :: .int y :: .ref (zad Z k i) :: st) σ (zg (inb y n) o) := by
  refine zr_g fun hb => ?_
  have hb := hb
  intro r σ' ho H locs ls hW hS hl
  have ha := hW k i hk
  rw [hE] at ha
  have hin := inb_in hb
  have hlt : y.toNatClampNeg < n := Nat.not_le.mp fun q => hin (Or.inr q)
  refine W.sast C.1 C.2.1 ha ((C.2.2.2.2.2.1.2 3 _ rfl).1 n (fun j => .int (σ.1 k i j))) (fun q => by cases q) (by show ¬ (y < 0 ∨ (arrV _ _ _).slots.size ≤ _); rw [arrV_size]; exact hin) rfl rfl hd fun H1 e z oq => ?_
  refine kk r σ' ho H1 _ ls (zW_put hW C.2.2.2.2.2.2.1 hk (zwi σ k i y.toNatClampNeg (x.toInt16.toInt32)) (fun a b q => zu_off _ _ _ q) (fun a b q => rfl) rfl rfl oq ?_) (hS.put z oq ⟨k, i, hk, rfl⟩) hl
  rw [hE]
  show H1[zad Z k i]? = some (vp_cell _ _)
  rw [e]
  show some ((arrV (zca Z 3) n (fun j => .int (σ.1 k i j))).setSlot _ _) = some (arrV (zca Z 3) n (fun j => .int (zu σ.1 k i y.toNatClampNeg (x.toInt16.toInt32) k i j)))
  rw [arrV_store]
  congr 2
  funext q
  show updV _ _ _ q = .int (zu σ.1 k i y.toNatClampNeg (x.toInt16.toInt32) k i q)
  rw [zu_at]
  by_cases hq : q = y.toNatClampNeg
  · subst hq
    simp [updV, zn_short]
  · simp [updV, hq]
theorem zr_zast (C : zCx E cc own nL ret Z h) {k i n : Nat} {y : Int32} {x : Int32} (hd : decode cc pc = .ok (.bastore, 1)) (hk : i < zN k) (hE : ∀ f g, zE Z k i f g = .inl (zca Z 4, n, .inl f)) (kk : zKO E nL Z QQ (pc + 1) L (st) (zwi σ k i y.toNatClampNeg (x)) o) : zKO E nL Z QQ (pc) L (.int x :: .int y :: .ref (zad Z k i) :: st) σ (zg (zbo x && inb y n) o) := by
  refine zr_g fun hb => ?_
  have hz := (Bool.and_eq_true _ _ ▸ hb).1
  have hb := (Bool.and_eq_true _ _ ▸ hb).2
  intro r σ' ho H locs ls hW hS hl
  have ha := hW k i hk
  rw [hE] at ha
  have hin := inb_in hb
  have hlt : y.toNatClampNeg < n := Nat.not_le.mp fun q => hin (Or.inr q)
  refine W.zast C.1 C.2.1 ha ((C.2.2.2.2.2.1.2 4 _ rfl).1 n (fun j => .int (σ.1 k i j))) (fun q => by cases q) (by show ¬ (y < 0 ∨ (arrV _ _ _).slots.size ≤ _); rw [arrV_size]; exact hin) rfl rfl hd fun H1 e z oq => ?_
  refine kk r σ' ho H1 _ ls (zW_put hW C.2.2.2.2.2.2.1 hk (zwi σ k i y.toNatClampNeg (x)) (fun a b q => zu_off _ _ _ q) (fun a b q => rfl) rfl rfl oq ?_) (hS.put z oq ⟨k, i, hk, rfl⟩) hl
  rw [hE]
  show H1[zad Z k i]? = some (vp_cell _ _)
  rw [e]
  show some ((arrV (zca Z 4) n (fun j => .int (σ.1 k i j))).setSlot _ _) = some (arrV (zca Z 4) n (fun j => .int (zu σ.1 k i y.toNatClampNeg (x) k i j)))
  rw [arrV_store]
  congr 2
  funext q
  show updV _ _ _ q = .int (zu σ.1 k i y.toNatClampNeg (x) k i q)
  rw [zu_at]
  by_cases hq : q = y.toNatClampNeg
  · subst hq
    simp [updV, zbo_nar hz]
  · simp [updV, hq]
theorem zr_last (C : zCx E cc own nL ret Z h) {k i n : Nat} {y : Int32} {x : Int64} (hd : decode cc pc = .ok (.lastore, 1)) (hk : i < zN k) (hE : ∀ f g, zE Z k i f g = .inl (zca Z 1, n, .inr (.inl g))) (kk : zKO E nL Z QQ (pc + 1) L (st) (zwl σ k i y.toNatClampNeg (x)) o) : zKO E nL Z QQ (pc) L (.long x :: .int y :: .ref (zad Z k i) :: st) σ (zg (inb y n) o) := by
  refine zr_g fun hb => ?_
  have hb := hb
  intro r σ' ho H locs ls hW hS hl
  have ha := hW k i hk
  rw [hE] at ha
  have hin := inb_in hb
  have hlt : y.toNatClampNeg < n := Nat.not_le.mp fun q => hin (Or.inr q)
  refine W.last C.1 C.2.1 ha ((C.2.2.2.2.2.1.2 1 _ rfl).1 n (fun j => .long (σ.2 k i j))) (fun q => by cases q) (by show ¬ (y < 0 ∨ (arrV _ _ _).slots.size ≤ _); rw [arrV_size]; exact hin) rfl rfl hd fun H1 e z oq => ?_
  refine kk r σ' ho H1 _ ls (zW_put hW C.2.2.2.2.2.2.1 hk (zwl σ k i y.toNatClampNeg (x)) (fun a b q => rfl) (fun a b q => zu_off _ _ _ q) rfl rfl oq ?_) (hS.put z oq ⟨k, i, hk, rfl⟩) hl
  rw [hE]
  show H1[zad Z k i]? = some (vp_cell _ _)
  rw [e]
  show some ((arrV (zca Z 1) n (fun j => .long (σ.2 k i j))).setSlot _ _) = some (arrV (zca Z 1) n (fun j => .long (zu σ.2 k i y.toNatClampNeg (x) k i j)))
  rw [arrV_store]
  congr 2
  funext q
  show updV _ _ _ q = .long (zu σ.2 k i y.toNatClampNeg (x) k i q)
  rw [zu_at]
  by_cases hq : q = y.toNatClampNeg
  · subst hq
    simp [updV]
  · simp [updV, hq]
end ZB
