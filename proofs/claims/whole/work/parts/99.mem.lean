/-! the memory as the constructors leave it -/
def zD0 : zDm := fun _ _ => none
def zDfin (Z : zLay) : zDm := gX11 Z (gX10 Z zD0)
def zs0 (k : Nat) : Nat → Int32 := match k with
  | 0 => fun j => if j = 13 then (-1) else 0
  | 47 => fun j => if j = 0 then (-1) else 0
  | 51 => fun j => if j = (2 : Int32).toNatClampNeg then (-1) else (fun j => if j = (1 : Int32).toNatClampNeg then (-1) else (fun j => if j = (0 : Int32).toNatClampNeg then (-1) else 0) j) j
  | 60 => fun j => if j = 11 then 71 else if j = 28 then 89 else if j = 29 then 90 else if j = 43 then (-1) else if j = 51 then (-1) else 0
  | 80 => fun j => if j = (5 : Int32).toNatClampNeg then -1 else 0
  | 103 => fun j => if j = (2 : Int32).toNatClampNeg then (-1) else (fun j => if j = (1 : Int32).toNatClampNeg then (-1) else (fun j => if j = (0 : Int32).toNatClampNeg then (-1) else 0) j) j
  | 104 => fun j => if j = (2 : Int32).toNatClampNeg then (-1) else (fun j => if j = (1 : Int32).toNatClampNeg then (-1) else (fun j => if j = (0 : Int32).toNatClampNeg then (-1) else 0) j) j
  | 999 => fun _ => nI 512
  | _ => fun _ => 0
def zsig : zMem := (fun k _ => zs0 k, fun _ _ _ => 0)
theorem arrV_lt (c : ClassId) {N : Nat} {f g : Nat → Value} (h : ∀ j, j < N → f j = g j) : arrV c N f = arrV c N g := by
  unfold arrV
  congr 2
  funext j
  exact h j.1 j.2
theorem va_at_q {D : va_G} {cl : List vw_C} {a N : Nat} {c : ClassId} {f g : Nat → Option Nat} {H : Heap} (ha : va_at D cl (a, .inl (c, N, .inr (.inr (.inr (.inr f))))) H) (h : ∀ j, j < N → f j = g j) : va_at D cl (a, .inl (c, N, .inr (.inr (.inr (.inr g))))) H := by
  show H[a]? = some (vp_cell c (N, .inr (.inr (.inr (.inr g)))))
  rw [vp_cell_q, ← arrV_lt c (f := fun j => va_rf (f j)) (fun j hj => by show va_rf (f j) = va_rf (g j); rw [h j hj])]
  exact ha
theorem w0_0 {Z : zLay} {H : Heap} (hD : zWD Z (zDfin Z) H) {i : Nat} (hi : i < zN 0) : va_at Z.1 vwCl (zad Z 0 i, zE Z 0 i (zsig.1 0 i) (zsig.2 0 i)) H := by
  obtain rfl : i = 0 := Nat.lt_one_iff.mp hi
  exact (hD 0 _ _ (gX11_o (by decide) (qX10_0))).2
theorem w0_1 {Z : zLay} {H : Heap} (hD : zWD Z (zDfin Z) H) {i : Nat} (hi : i < zN 1) : va_at Z.1 vwCl (zad Z 1 i, zE Z 1 i (zsig.1 1 i) (zsig.2 1 i)) H := by
  obtain rfl : i = 0 := Nat.lt_one_iff.mp hi
  exact va_at_q (hD 1 _ _ (gX11_o (by decide) (qX10_1))).2 (fun j hj => zfill_at Z _ _ j hj)
theorem w0_2 {Z : zLay} {H : Heap} (hD : zWD Z (zDfin Z) H) {i : Nat} (hi : i < zN 2) : va_at Z.1 vwCl (zad Z 2 i, zE Z 2 i (zsig.1 2 i) (zsig.2 2 i)) H := by
  exact (hD 2 _ _ (gX11_o (by decide) (qX10_2 hi))).2
theorem w0_3 {Z : zLay} {H : Heap} (hD : zWD Z (zDfin Z) H) {i : Nat} (hi : i < zN 3) : va_at Z.1 vwCl (zad Z 3 i, zE Z 3 i (zsig.1 3 i) (zsig.2 3 i)) H := by
  exact (hD 3 _ _ (gX11_o (by decide) (qX10_3 hi))).2
theorem w0_4 {Z : zLay} {H : Heap} (hD : zWD Z (zDfin Z) H) {i : Nat} (hi : i < zN 4) : va_at Z.1 vwCl (zad Z 4 i, zE Z 4 i (zsig.1 4 i) (zsig.2 4 i)) H := by
  exact (hD 4 _ _ (gX11_o (by decide) (qX10_4 hi))).2
theorem w0_5 {Z : zLay} {H : Heap} (hD : zWD Z (zDfin Z) H) {i : Nat} (hi : i < zN 5) : va_at Z.1 vwCl (zad Z 5 i, zE Z 5 i (zsig.1 5 i) (zsig.2 5 i)) H := by
  obtain rfl : i = 0 := Nat.lt_one_iff.mp hi
  exact (hD 5 _ _ (gX11_o (by decide) (qX10_5))).2
theorem w0_6 {Z : zLay} {H : Heap} (hD : zWD Z (zDfin Z) H) {i : Nat} (hi : i < zN 6) : va_at Z.1 vwCl (zad Z 6 i, zE Z 6 i (zsig.1 6 i) (zsig.2 6 i)) H := by
  obtain rfl : i = 0 := Nat.lt_one_iff.mp hi
  exact (hD 6 _ _ (gX11_o (by decide) (qX10_6))).2
theorem w0_7 {Z : zLay} {H : Heap} (hD : zWD Z (zDfin Z) H) {i : Nat} (hi : i < zN 7) : va_at Z.1 vwCl (zad Z 7 i, zE Z 7 i (zsig.1 7 i) (zsig.2 7 i)) H := by
  obtain rfl : i = 0 := Nat.lt_one_iff.mp hi
  exact (hD 7 _ _ (gX11_o (by decide) (qX10_7))).2
theorem w0_8 {Z : zLay} {H : Heap} (hD : zWD Z (zDfin Z) H) {i : Nat} (hi : i < zN 8) : va_at Z.1 vwCl (zad Z 8 i, zE Z 8 i (zsig.1 8 i) (zsig.2 8 i)) H := by
  obtain rfl : i = 0 := Nat.lt_one_iff.mp hi
  exact (hD 8 _ _ (gX11_o (by decide) (qX10_8))).2
theorem w0_9 {Z : zLay} {H : Heap} (hD : zWD Z (zDfin Z) H) {i : Nat} (hi : i < zN 9) : va_at Z.1 vwCl (zad Z 9 i, zE Z 9 i (zsig.1 9 i) (zsig.2 9 i)) H := by
  obtain rfl : i = 0 := Nat.lt_one_iff.mp hi
  exact (hD 9 _ _ (gX11_o (by decide) (qX10_9))).2
theorem w0_10 {Z : zLay} {H : Heap} (hD : zWD Z (zDfin Z) H) {i : Nat} (hi : i < zN 10) : va_at Z.1 vwCl (zad Z 10 i, zE Z 10 i (zsig.1 10 i) (zsig.2 10 i)) H := by
  obtain rfl : i = 0 := Nat.lt_one_iff.mp hi
  exact (hD 10 _ _ (gX11_o (by decide) (qX10_10))).2
theorem w0_11 {Z : zLay} {H : Heap} (hD : zWD Z (zDfin Z) H) {i : Nat} (hi : i < zN 11) : va_at Z.1 vwCl (zad Z 11 i, zE Z 11 i (zsig.1 11 i) (zsig.2 11 i)) H := by
  obtain rfl : i = 0 := Nat.lt_one_iff.mp hi
  exact (hD 11 _ _ (gX11_o (by decide) (qX10_11))).2
theorem w0_12 {Z : zLay} {H : Heap} (hD : zWD Z (zDfin Z) H) {i : Nat} (hi : i < zN 12) : va_at Z.1 vwCl (zad Z 12 i, zE Z 12 i (zsig.1 12 i) (zsig.2 12 i)) H := by
  obtain rfl : i = 0 := Nat.lt_one_iff.mp hi
  exact va_at_q (hD 12 _ _ (gX11_o (by decide) (qX10_12))).2 (fun j hj => zfill_at Z _ _ j hj)
theorem w0_13 {Z : zLay} {H : Heap} (hD : zWD Z (zDfin Z) H) {i : Nat} (hi : i < zN 13) : va_at Z.1 vwCl (zad Z 13 i, zE Z 13 i (zsig.1 13 i) (zsig.2 13 i)) H := by
  exact (hD 13 _ _ (gX11_o (by decide) (qX10_13 hi))).2
theorem w0_14 {Z : zLay} {H : Heap} (hD : zWD Z (zDfin Z) H) {i : Nat} (hi : i < zN 14) : va_at Z.1 vwCl (zad Z 14 i, zE Z 14 i (zsig.1 14 i) (zsig.2 14 i)) H := by
  exact (hD 14 _ _ (gX11_o (by decide) (qX10_14 hi))).2
theorem w0_15 {Z : zLay} {H : Heap} (hD : zWD Z (zDfin Z) H) {i : Nat} (hi : i < zN 15) : va_at Z.1 vwCl (zad Z 15 i, zE Z 15 i (zsig.1 15 i) (zsig.2 15 i)) H := by
  exact (hD 15 _ _ (gX11_o (by decide) (qX10_15 hi))).2
theorem w0_16 {Z : zLay} {H : Heap} (hD : zWD Z (zDfin Z) H) {i : Nat} (hi : i < zN 16) : va_at Z.1 vwCl (zad Z 16 i, zE Z 16 i (zsig.1 16 i) (zsig.2 16 i)) H := by
  exact (hD 16 _ _ (gX11_o (by decide) (qX10_16 hi))).2
theorem w0_17 {Z : zLay} {H : Heap} (hD : zWD Z (zDfin Z) H) {i : Nat} (hi : i < zN 17) : va_at Z.1 vwCl (zad Z 17 i, zE Z 17 i (zsig.1 17 i) (zsig.2 17 i)) H := by
  exact (hD 17 _ _ (gX11_o (by decide) (qX10_17 hi))).2
theorem w0_18 {Z : zLay} {H : Heap} (hD : zWD Z (zDfin Z) H) {i : Nat} (hi : i < zN 18) : va_at Z.1 vwCl (zad Z 18 i, zE Z 18 i (zsig.1 18 i) (zsig.2 18 i)) H := by
  exact (hD 18 _ _ (gX11_o (by decide) (qX10_18 hi))).2
theorem w0_19 {Z : zLay} {H : Heap} (hD : zWD Z (zDfin Z) H) {i : Nat} (hi : i < zN 19) : va_at Z.1 vwCl (zad Z 19 i, zE Z 19 i (zsig.1 19 i) (zsig.2 19 i)) H := by
  obtain rfl : i = 0 := Nat.lt_one_iff.mp hi
  exact (hD 19 _ _ (gX11_o (by decide) (qX10_19))).2
theorem w0_20 {Z : zLay} {H : Heap} (hD : zWD Z (zDfin Z) H) {i : Nat} (hi : i < zN 20) : va_at Z.1 vwCl (zad Z 20 i, zE Z 20 i (zsig.1 20 i) (zsig.2 20 i)) H := by
  obtain rfl : i = 0 := Nat.lt_one_iff.mp hi
  exact (hD 20 _ _ (gX11_o (by decide) (qX10_20))).2
theorem w0_21 {Z : zLay} {H : Heap} (hD : zWD Z (zDfin Z) H) {i : Nat} (hi : i < zN 21) : va_at Z.1 vwCl (zad Z 21 i, zE Z 21 i (zsig.1 21 i) (zsig.2 21 i)) H := by
  obtain rfl : i = 0 := Nat.lt_one_iff.mp hi
  exact va_at_q (hD 21 _ _ (gX11_o (by decide) (qX10_21))).2 (fun j hj => if_pos hj)
theorem w0_22 {Z : zLay} {H : Heap} (hD : zWD Z (zDfin Z) H) {i : Nat} (hi : i < zN 22) : va_at Z.1 vwCl (zad Z 22 i, zE Z 22 i (zsig.1 22 i) (zsig.2 22 i)) H := by
  exact (hD 22 _ _ (gX11_o (by decide) (qX10_22 hi))).2
theorem w0_23 {Z : zLay} {H : Heap} (hD : zWD Z (zDfin Z) H) {i : Nat} (hi : i < zN 23) : va_at Z.1 vwCl (zad Z 23 i, zE Z 23 i (zsig.1 23 i) (zsig.2 23 i)) H := by
  obtain rfl : i = 0 := Nat.lt_one_iff.mp hi
  exact va_at_q (hD 23 _ _ (gX11_o (by decide) (qX10_23))).2 (fun j hj => if_pos hj)
theorem w0_24 {Z : zLay} {H : Heap} (hD : zWD Z (zDfin Z) H) {i : Nat} (hi : i < zN 24) : va_at Z.1 vwCl (zad Z 24 i, zE Z 24 i (zsig.1 24 i) (zsig.2 24 i)) H := by
  exact (hD 24 _ _ (gX11_o (by decide) (qX10_24 hi))).2
theorem w0_25 {Z : zLay} {H : Heap} (hD : zWD Z (zDfin Z) H) {i : Nat} (hi : i < zN 25) : va_at Z.1 vwCl (zad Z 25 i, zE Z 25 i (zsig.1 25 i) (zsig.2 25 i)) H := by
  obtain rfl : i = 0 := Nat.lt_one_iff.mp hi
  exact (hD 25 _ _ (gX11_o (by decide) (qX10_25))).2
theorem w0_26 {Z : zLay} {H : Heap} (hD : zWD Z (zDfin Z) H) {i : Nat} (hi : i < zN 26) : va_at Z.1 vwCl (zad Z 26 i, zE Z 26 i (zsig.1 26 i) (zsig.2 26 i)) H := by
  obtain rfl : i = 0 := Nat.lt_one_iff.mp hi
  exact (hD 26 _ _ (gX11_o (by decide) (qX10_26))).2
theorem w0_27 {Z : zLay} {H : Heap} (hD : zWD Z (zDfin Z) H) {i : Nat} (hi : i < zN 27) : va_at Z.1 vwCl (zad Z 27 i, zE Z 27 i (zsig.1 27 i) (zsig.2 27 i)) H := by
  obtain rfl : i = 0 := Nat.lt_one_iff.mp hi
  exact (hD 27 _ _ (gX11_o (by decide) (qX10_27))).2
theorem w0_28 {Z : zLay} {H : Heap} (hD : zWD Z (zDfin Z) H) {i : Nat} (hi : i < zN 28) : va_at Z.1 vwCl (zad Z 28 i, zE Z 28 i (zsig.1 28 i) (zsig.2 28 i)) H := by
  obtain rfl : i = 0 := Nat.lt_one_iff.mp hi
  exact (hD 28 _ _ (gX11_o (by decide) (qX10_28))).2
theorem w0_29 {Z : zLay} {H : Heap} (hD : zWD Z (zDfin Z) H) {i : Nat} (hi : i < zN 29) : va_at Z.1 vwCl (zad Z 29 i, zE Z 29 i (zsig.1 29 i) (zsig.2 29 i)) H := by
  obtain rfl : i = 0 := Nat.lt_one_iff.mp hi
  exact (hD 29 _ _ (gX11_o (by decide) (qX10_29))).2
theorem w0_30 {Z : zLay} {H : Heap} (hD : zWD Z (zDfin Z) H) {i : Nat} (hi : i < zN 30) : va_at Z.1 vwCl (zad Z 30 i, zE Z 30 i (zsig.1 30 i) (zsig.2 30 i)) H := by
  obtain rfl : i = 0 := Nat.lt_one_iff.mp hi
  exact (hD 30 _ _ (gX11_o (by decide) (qX10_30))).2
theorem w0_31 {Z : zLay} {H : Heap} (hD : zWD Z (zDfin Z) H) {i : Nat} (hi : i < zN 31) : va_at Z.1 vwCl (zad Z 31 i, zE Z 31 i (zsig.1 31 i) (zsig.2 31 i)) H := by
  obtain rfl : i = 0 := Nat.lt_one_iff.mp hi
  exact (hD 31 _ _ (gX11_o (by decide) (qX10_31))).2
theorem w0_32 {Z : zLay} {H : Heap} (hD : zWD Z (zDfin Z) H) {i : Nat} (hi : i < zN 32) : va_at Z.1 vwCl (zad Z 32 i, zE Z 32 i (zsig.1 32 i) (zsig.2 32 i)) H := by
  obtain rfl : i = 0 := Nat.lt_one_iff.mp hi
  exact (hD 32 _ _ (gX11_o (by decide) (qX10_32))).2
theorem w0_33 {Z : zLay} {H : Heap} (hD : zWD Z (zDfin Z) H) {i : Nat} (hi : i < zN 33) : va_at Z.1 vwCl (zad Z 33 i, zE Z 33 i (zsig.1 33 i) (zsig.2 33 i)) H := by
  obtain rfl : i = 0 := Nat.lt_one_iff.mp hi
  exact va_at_q (hD 33 _ _ (gX11_o (by decide) (qX10_33))).2 (fun j hj => if_pos hj)
theorem w0_34 {Z : zLay} {H : Heap} (hD : zWD Z (zDfin Z) H) {i : Nat} (hi : i < zN 34) : va_at Z.1 vwCl (zad Z 34 i, zE Z 34 i (zsig.1 34 i) (zsig.2 34 i)) H := by
  exact (hD 34 _ _ (gX11_o (by decide) (qX10_34 hi))).2
theorem w0_35 {Z : zLay} {H : Heap} (hD : zWD Z (zDfin Z) H) {i : Nat} (hi : i < zN 35) : va_at Z.1 vwCl (zad Z 35 i, zE Z 35 i (zsig.1 35 i) (zsig.2 35 i)) H := by
  obtain rfl : i = 0 := Nat.lt_one_iff.mp hi
  exact (hD 35 _ _ (gX11_o (by decide) (qX10_35))).2
theorem w0_36 {Z : zLay} {H : Heap} (hD : zWD Z (zDfin Z) H) {i : Nat} (hi : i < zN 36) : va_at Z.1 vwCl (zad Z 36 i, zE Z 36 i (zsig.1 36 i) (zsig.2 36 i)) H := by
  obtain rfl : i = 0 := Nat.lt_one_iff.mp hi
  exact (hD 36 _ _ (gX11_o (by decide) (qX10_36))).2
theorem w0_37 {Z : zLay} {H : Heap} (hD : zWD Z (zDfin Z) H) {i : Nat} (hi : i < zN 37) : va_at Z.1 vwCl (zad Z 37 i, zE Z 37 i (zsig.1 37 i) (zsig.2 37 i)) H := by
  obtain rfl : i = 0 := Nat.lt_one_iff.mp hi
  exact (hD 37 _ _ (gX11_o (by decide) (qX10_37))).2
theorem w0_38 {Z : zLay} {H : Heap} (hD : zWD Z (zDfin Z) H) {i : Nat} (hi : i < zN 38) : va_at Z.1 vwCl (zad Z 38 i, zE Z 38 i (zsig.1 38 i) (zsig.2 38 i)) H := by
  obtain rfl : i = 0 := Nat.lt_one_iff.mp hi
  exact (hD 38 _ _ (gX11_o (by decide) (qX10_38))).2
theorem w0_39 {Z : zLay} {H : Heap} (hD : zWD Z (zDfin Z) H) {i : Nat} (hi : i < zN 39) : va_at Z.1 vwCl (zad Z 39 i, zE Z 39 i (zsig.1 39 i) (zsig.2 39 i)) H := by
  obtain rfl : i = 0 := Nat.lt_one_iff.mp hi
  exact va_at_q (hD 39 _ _ (gX11_o (by decide) (qX10_39))).2 (fun j hj => zfill_at Z _ _ j hj)
theorem w0_40 {Z : zLay} {H : Heap} (hD : zWD Z (zDfin Z) H) {i : Nat} (hi : i < zN 40) : va_at Z.1 vwCl (zad Z 40 i, zE Z 40 i (zsig.1 40 i) (zsig.2 40 i)) H := by
  exact (hD 40 _ _ (gX11_o (by decide) (qX10_40 hi))).2
theorem w0_41 {Z : zLay} {H : Heap} (hD : zWD Z (zDfin Z) H) {i : Nat} (hi : i < zN 41) : va_at Z.1 vwCl (zad Z 41 i, zE Z 41 i (zsig.1 41 i) (zsig.2 41 i)) H := by
  exact (hD 41 _ _ (gX11_o (by decide) (qX10_41 hi))).2
theorem w0_42 {Z : zLay} {H : Heap} (hD : zWD Z (zDfin Z) H) {i : Nat} (hi : i < zN 42) : va_at Z.1 vwCl (zad Z 42 i, zE Z 42 i (zsig.1 42 i) (zsig.2 42 i)) H := by
  exact (hD 42 _ _ (gX11_o (by decide) (qX10_42 hi))).2
theorem w0_43 {Z : zLay} {H : Heap} (hD : zWD Z (zDfin Z) H) {i : Nat} (hi : i < zN 43) : va_at Z.1 vwCl (zad Z 43 i, zE Z 43 i (zsig.1 43 i) (zsig.2 43 i)) H := by
  obtain rfl : i = 0 := Nat.lt_one_iff.mp hi
  exact (hD 43 _ _ (gX11_o (by decide) (qX10_43))).2
theorem w0_44 {Z : zLay} {H : Heap} (hD : zWD Z (zDfin Z) H) {i : Nat} (hi : i < zN 44) : va_at Z.1 vwCl (zad Z 44 i, zE Z 44 i (zsig.1 44 i) (zsig.2 44 i)) H := by
  obtain rfl : i = 0 := Nat.lt_one_iff.mp hi
  exact (hD 44 _ _ (gX11_o (by decide) (qX10_44))).2
theorem w0_45 {Z : zLay} {H : Heap} (hD : zWD Z (zDfin Z) H) {i : Nat} (hi : i < zN 45) : va_at Z.1 vwCl (zad Z 45 i, zE Z 45 i (zsig.1 45 i) (zsig.2 45 i)) H := by
  obtain rfl : i = 0 := Nat.lt_one_iff.mp hi
  exact (hD 45 _ _ (gX11_o (by decide) (qX10_45))).2
theorem w0_46 {Z : zLay} {H : Heap} (hD : zWD Z (zDfin Z) H) {i : Nat} (hi : i < zN 46) : va_at Z.1 vwCl (zad Z 46 i, zE Z 46 i (zsig.1 46 i) (zsig.2 46 i)) H := by
  obtain rfl : i = 0 := Nat.lt_one_iff.mp hi
  exact va_at_q (hD 46 _ _ (gX11_o (by decide) (qX10_46))).2 (fun j hj => zfill_at Z _ _ j hj)
theorem w0_47 {Z : zLay} {H : Heap} (hD : zWD Z (zDfin Z) H) {i : Nat} (hi : i < zN 47) : va_at Z.1 vwCl (zad Z 47 i, zE Z 47 i (zsig.1 47 i) (zsig.2 47 i)) H := by
  exact (hD 47 _ _ (gX11_o (by decide) (qX10_47 hi))).2
theorem w0_48 {Z : zLay} {H : Heap} (hD : zWD Z (zDfin Z) H) {i : Nat} (hi : i < zN 48) : va_at Z.1 vwCl (zad Z 48 i, zE Z 48 i (zsig.1 48 i) (zsig.2 48 i)) H := by
  exact (hD 48 _ _ (gX11_o (by decide) (qX10_48 hi))).2
theorem w0_49 {Z : zLay} {H : Heap} (hD : zWD Z (zDfin Z) H) {i : Nat} (hi : i < zN 49) : va_at Z.1 vwCl (zad Z 49 i, zE Z 49 i (zsig.1 49 i) (zsig.2 49 i)) H := by
  obtain rfl : i = 0 := Nat.lt_one_iff.mp hi
  exact va_at_q (hD 49 _ _ (gX11_o (by decide) (qX10_49))).2 (fun j hj => if_pos hj)
theorem w0_50 {Z : zLay} {H : Heap} (hD : zWD Z (zDfin Z) H) {i : Nat} (hi : i < zN 50) : va_at Z.1 vwCl (zad Z 50 i, zE Z 50 i (zsig.1 50 i) (zsig.2 50 i)) H := by
  exact (hD 50 _ _ (gX11_o (by decide) (qX10_50 hi))).2
theorem w0_51 {Z : zLay} {H : Heap} (hD : zWD Z (zDfin Z) H) {i : Nat} (hi : i < zN 51) : va_at Z.1 vwCl (zad Z 51 i, zE Z 51 i (zsig.1 51 i) (zsig.2 51 i)) H := by
  obtain rfl : i = 0 := Nat.lt_one_iff.mp hi
  exact (hD 51 _ _ (gX11_o (by decide) (qX10_51))).2
theorem w0_52 {Z : zLay} {H : Heap} (hD : zWD Z (zDfin Z) H) {i : Nat} (hi : i < zN 52) : va_at Z.1 vwCl (zad Z 52 i, zE Z 52 i (zsig.1 52 i) (zsig.2 52 i)) H := by
  obtain rfl : i = 0 := Nat.lt_one_iff.mp hi
  exact (hD 52 _ _ (gX11_o (by decide) (qX10_52))).2
theorem w0_60 {Z : zLay} {H : Heap} (hD : zWD Z (zDfin Z) H) {i : Nat} (hi : i < zN 60) : va_at Z.1 vwCl (zad Z 60 i, zE Z 60 i (zsig.1 60 i) (zsig.2 60 i)) H := by
  obtain rfl : i = 0 := Nat.lt_one_iff.mp hi
  have e : zE Z 60 0 (zsig.1 60 0) (zsig.2 60 0) = .inr (11, fX11_48 Z) := by
    have e1 : (zsig.1 60 0 11).toNatClampNeg = 71 := by decide +kernel
    have e2 : (zsig.1 60 0 28).toNatClampNeg = 89 := by decide +kernel
    have e3 : (zsig.1 60 0 29).toNatClampNeg = 90 := by decide +kernel
    unfold zE fX11_48
    rw [e1, e2, e3]
    rfl
  rw [e]
  exact (hD 60 _ _ (qX11_60)).2
theorem w0_61 {Z : zLay} {H : Heap} (hD : zWD Z (zDfin Z) H) {i : Nat} (hi : i < zN 61) : va_at Z.1 vwCl (zad Z 61 i, zE Z 61 i (zsig.1 61 i) (zsig.2 61 i)) H := by
  obtain rfl : i = 0 := Nat.lt_one_iff.mp hi
  exact va_at_q (hD 61 _ _ (qX11_61)).2 (fun j hj => if_pos hj)
theorem w0_62 {Z : zLay} {H : Heap} (hD : zWD Z (zDfin Z) H) {i : Nat} (hi : i < zN 62) : va_at Z.1 vwCl (zad Z 62 i, zE Z 62 i (zsig.1 62 i) (zsig.2 62 i)) H := by
  exact (hD 62 _ _ (qX11_62 hi)).2
theorem w0_63 {Z : zLay} {H : Heap} (hD : zWD Z (zDfin Z) H) {i : Nat} (hi : i < zN 63) : va_at Z.1 vwCl (zad Z 63 i, zE Z 63 i (zsig.1 63 i) (zsig.2 63 i)) H := by
  obtain rfl : i = 0 := Nat.lt_one_iff.mp hi
  exact (hD 63 _ _ (qX11_63)).2
theorem w0_64 {Z : zLay} {H : Heap} (hD : zWD Z (zDfin Z) H) {i : Nat} (hi : i < zN 64) : va_at Z.1 vwCl (zad Z 64 i, zE Z 64 i (zsig.1 64 i) (zsig.2 64 i)) H := by
  obtain rfl : i = 0 := Nat.lt_one_iff.mp hi
  exact (hD 64 _ _ (qX11_64)).2
theorem w0_65 {Z : zLay} {H : Heap} (hD : zWD Z (zDfin Z) H) {i : Nat} (hi : i < zN 65) : va_at Z.1 vwCl (zad Z 65 i, zE Z 65 i (zsig.1 65 i) (zsig.2 65 i)) H := by
  obtain rfl : i = 0 := Nat.lt_one_iff.mp hi
  exact (hD 65 _ _ (qX11_65)).2
theorem w0_66 {Z : zLay} {H : Heap} (hD : zWD Z (zDfin Z) H) {i : Nat} (hi : i < zN 66) : va_at Z.1 vwCl (zad Z 66 i, zE Z 66 i (zsig.1 66 i) (zsig.2 66 i)) H := by
  obtain rfl : i = 0 := Nat.lt_one_iff.mp hi
  exact (hD 66 _ _ (qX11_66)).2
theorem w0_67 {Z : zLay} {H : Heap} (hD : zWD Z (zDfin Z) H) {i : Nat} (hi : i < zN 67) : va_at Z.1 vwCl (zad Z 67 i, zE Z 67 i (zsig.1 67 i) (zsig.2 67 i)) H := by
  obtain rfl : i = 0 := Nat.lt_one_iff.mp hi
  exact (hD 67 _ _ (qX11_67)).2
theorem w0_68 {Z : zLay} {H : Heap} (hD : zWD Z (zDfin Z) H) {i : Nat} (hi : i < zN 68) : va_at Z.1 vwCl (zad Z 68 i, zE Z 68 i (zsig.1 68 i) (zsig.2 68 i)) H := by
  obtain rfl : i = 0 := Nat.lt_one_iff.mp hi
  exact (hD 68 _ _ (qX11_68)).2
theorem w0_69 {Z : zLay} {H : Heap} (hD : zWD Z (zDfin Z) H) {i : Nat} (hi : i < zN 69) : va_at Z.1 vwCl (zad Z 69 i, zE Z 69 i (zsig.1 69 i) (zsig.2 69 i)) H := by
  obtain rfl : i = 0 := Nat.lt_one_iff.mp hi
  exact (hD 69 _ _ (qX11_69)).2
theorem w0_70 {Z : zLay} {H : Heap} (hD : zWD Z (zDfin Z) H) {i : Nat} (hi : i < zN 70) : va_at Z.1 vwCl (zad Z 70 i, zE Z 70 i (zsig.1 70 i) (zsig.2 70 i)) H := by
  obtain rfl : i = 0 := Nat.lt_one_iff.mp hi
  exact (hD 70 _ _ (qX11_70)).2
theorem w0_71 {Z : zLay} {H : Heap} (hD : zWD Z (zDfin Z) H) {i : Nat} (hi : i < zN 71) : va_at Z.1 vwCl (zad Z 71 i, zE Z 71 i (zsig.1 71 i) (zsig.2 71 i)) H := by
  obtain rfl : i = 0 := Nat.lt_one_iff.mp hi
  exact va_at_q (hD 71 _ _ (qX11_71)).2 (fun j hj => if_pos hj)
theorem w0_72 {Z : zLay} {H : Heap} (hD : zWD Z (zDfin Z) H) {i : Nat} (hi : i < zN 72) : va_at Z.1 vwCl (zad Z 72 i, zE Z 72 i (zsig.1 72 i) (zsig.2 72 i)) H := by
  exact (hD 72 _ _ (qX11_72 hi)).2
theorem w0_73 {Z : zLay} {H : Heap} (hD : zWD Z (zDfin Z) H) {i : Nat} (hi : i < zN 73) : va_at Z.1 vwCl (zad Z 73 i, zE Z 73 i (zsig.1 73 i) (zsig.2 73 i)) H := by
  obtain rfl : i = 0 := Nat.lt_one_iff.mp hi
  exact (hD 73 _ _ (qX11_73)).2
theorem w0_74 {Z : zLay} {H : Heap} (hD : zWD Z (zDfin Z) H) {i : Nat} (hi : i < zN 74) : va_at Z.1 vwCl (zad Z 74 i, zE Z 74 i (zsig.1 74 i) (zsig.2 74 i)) H := by
  obtain rfl : i = 0 := Nat.lt_one_iff.mp hi
  exact (hD 74 _ _ (qX11_74)).2
theorem w0_75 {Z : zLay} {H : Heap} (hD : zWD Z (zDfin Z) H) {i : Nat} (hi : i < zN 75) : va_at Z.1 vwCl (zad Z 75 i, zE Z 75 i (zsig.1 75 i) (zsig.2 75 i)) H := by
  obtain rfl : i = 0 := Nat.lt_one_iff.mp hi
  exact (hD 75 _ _ (qX11_75)).2
theorem w0_76 {Z : zLay} {H : Heap} (hD : zWD Z (zDfin Z) H) {i : Nat} (hi : i < zN 76) : va_at Z.1 vwCl (zad Z 76 i, zE Z 76 i (zsig.1 76 i) (zsig.2 76 i)) H := by
  obtain rfl : i = 0 := Nat.lt_one_iff.mp hi
  exact (hD 76 _ _ (qX11_76)).2
theorem w0_77 {Z : zLay} {H : Heap} (hD : zWD Z (zDfin Z) H) {i : Nat} (hi : i < zN 77) : va_at Z.1 vwCl (zad Z 77 i, zE Z 77 i (zsig.1 77 i) (zsig.2 77 i)) H := by
  obtain rfl : i = 0 := Nat.lt_one_iff.mp hi
  exact (hD 77 _ _ (qX11_77)).2
theorem w0_78 {Z : zLay} {H : Heap} (hD : zWD Z (zDfin Z) H) {i : Nat} (hi : i < zN 78) : va_at Z.1 vwCl (zad Z 78 i, zE Z 78 i (zsig.1 78 i) (zsig.2 78 i)) H := by
  obtain rfl : i = 0 := Nat.lt_one_iff.mp hi
  exact (hD 78 _ _ (qX11_78)).2
theorem w0_79 {Z : zLay} {H : Heap} (hD : zWD Z (zDfin Z) H) {i : Nat} (hi : i < zN 79) : va_at Z.1 vwCl (zad Z 79 i, zE Z 79 i (zsig.1 79 i) (zsig.2 79 i)) H := by
  obtain rfl : i = 0 := Nat.lt_one_iff.mp hi
  exact va_at_q (hD 79 _ _ (qX11_79)).2 (fun j hj => if_pos hj)
theorem w0_80 {Z : zLay} {H : Heap} (hD : zWD Z (zDfin Z) H) {i : Nat} (hi : i < zN 80) : va_at Z.1 vwCl (zad Z 80 i, zE Z 80 i (zsig.1 80 i) (zsig.2 80 i)) H := by
  exact (hD 80 _ _ (qX11_80 hi)).2
theorem w0_81 {Z : zLay} {H : Heap} (hD : zWD Z (zDfin Z) H) {i : Nat} (hi : i < zN 81) : va_at Z.1 vwCl (zad Z 81 i, zE Z 81 i (zsig.1 81 i) (zsig.2 81 i)) H := by
  obtain rfl : i = 0 := Nat.lt_one_iff.mp hi
  exact va_at_q (hD 81 _ _ (qX11_81)).2 (fun j hj => if_pos hj)
theorem w0_82 {Z : zLay} {H : Heap} (hD : zWD Z (zDfin Z) H) {i : Nat} (hi : i < zN 82) : va_at Z.1 vwCl (zad Z 82 i, zE Z 82 i (zsig.1 82 i) (zsig.2 82 i)) H := by
  exact (hD 82 _ _ (qX11_82 hi)).2
theorem w0_83 {Z : zLay} {H : Heap} (hD : zWD Z (zDfin Z) H) {i : Nat} (hi : i < zN 83) : va_at Z.1 vwCl (zad Z 83 i, zE Z 83 i (zsig.1 83 i) (zsig.2 83 i)) H := by
  obtain rfl : i = 0 := Nat.lt_one_iff.mp hi
  exact va_at_q (hD 83 _ _ (qX11_83)).2 (fun j hj => if_pos hj)
theorem w0_84 {Z : zLay} {H : Heap} (hD : zWD Z (zDfin Z) H) {i : Nat} (hi : i < zN 84) : va_at Z.1 vwCl (zad Z 84 i, zE Z 84 i (zsig.1 84 i) (zsig.2 84 i)) H := by
  exact (hD 84 _ _ (qX11_84 hi)).2
theorem w0_85 {Z : zLay} {H : Heap} (hD : zWD Z (zDfin Z) H) {i : Nat} (hi : i < zN 85) : va_at Z.1 vwCl (zad Z 85 i, zE Z 85 i (zsig.1 85 i) (zsig.2 85 i)) H := by
  obtain rfl : i = 0 := Nat.lt_one_iff.mp hi
  exact va_at_q (hD 85 _ _ (qX11_85)).2 (fun j hj => if_pos hj)
theorem w0_86 {Z : zLay} {H : Heap} (hD : zWD Z (zDfin Z) H) {i : Nat} (hi : i < zN 86) : va_at Z.1 vwCl (zad Z 86 i, zE Z 86 i (zsig.1 86 i) (zsig.2 86 i)) H := by
  exact (hD 86 _ _ (qX11_86 hi)).2
theorem w0_87 {Z : zLay} {H : Heap} (hD : zWD Z (zDfin Z) H) {i : Nat} (hi : i < zN 87) : va_at Z.1 vwCl (zad Z 87 i, zE Z 87 i (zsig.1 87 i) (zsig.2 87 i)) H := by
  obtain rfl : i = 0 := Nat.lt_one_iff.mp hi
  exact (hD 87 _ _ (qX11_87)).2
theorem w0_88 {Z : zLay} {H : Heap} (hD : zWD Z (zDfin Z) H) {i : Nat} (hi : i < zN 88) : va_at Z.1 vwCl (zad Z 88 i, zE Z 88 i (zsig.1 88 i) (zsig.2 88 i)) H := by
  obtain rfl : i = 0 := Nat.lt_one_iff.mp hi
  exact (hD 88 _ _ (qX11_88)).2
theorem w0_89 {Z : zLay} {H : Heap} (hD : zWD Z (zDfin Z) H) {i : Nat} (hi : i < zN 89) : va_at Z.1 vwCl (zad Z 89 i, zE Z 89 i (zsig.1 89 i) (zsig.2 89 i)) H := by
  obtain rfl : i = 0 := Nat.lt_one_iff.mp hi
  exact (hD 89 _ _ (qX11_89)).2
theorem w0_90 {Z : zLay} {H : Heap} (hD : zWD Z (zDfin Z) H) {i : Nat} (hi : i < zN 90) : va_at Z.1 vwCl (zad Z 90 i, zE Z 90 i (zsig.1 90 i) (zsig.2 90 i)) H := by
  obtain rfl : i = 0 := Nat.lt_one_iff.mp hi
  exact (hD 90 _ _ (qX11_90)).2
theorem w0_91 {Z : zLay} {H : Heap} (hD : zWD Z (zDfin Z) H) {i : Nat} (hi : i < zN 91) : va_at Z.1 vwCl (zad Z 91 i, zE Z 91 i (zsig.1 91 i) (zsig.2 91 i)) H := by
  obtain rfl : i = 0 := Nat.lt_one_iff.mp hi
  exact va_at_q (hD 91 _ _ (qX11_91)).2 (fun j hj => if_pos hj)
theorem w0_92 {Z : zLay} {H : Heap} (hD : zWD Z (zDfin Z) H) {i : Nat} (hi : i < zN 92) : va_at Z.1 vwCl (zad Z 92 i, zE Z 92 i (zsig.1 92 i) (zsig.2 92 i)) H := by
  exact (hD 92 _ _ (qX11_92 hi)).2
theorem w0_93 {Z : zLay} {H : Heap} (hD : zWD Z (zDfin Z) H) {i : Nat} (hi : i < zN 93) : va_at Z.1 vwCl (zad Z 93 i, zE Z 93 i (zsig.1 93 i) (zsig.2 93 i)) H := by
  obtain rfl : i = 0 := Nat.lt_one_iff.mp hi
  exact (hD 93 _ _ (qX11_93)).2
theorem w0_94 {Z : zLay} {H : Heap} (hD : zWD Z (zDfin Z) H) {i : Nat} (hi : i < zN 94) : va_at Z.1 vwCl (zad Z 94 i, zE Z 94 i (zsig.1 94 i) (zsig.2 94 i)) H := by
  obtain rfl : i = 0 := Nat.lt_one_iff.mp hi
  exact (hD 94 _ _ (qX11_94)).2
theorem w0_95 {Z : zLay} {H : Heap} (hD : zWD Z (zDfin Z) H) {i : Nat} (hi : i < zN 95) : va_at Z.1 vwCl (zad Z 95 i, zE Z 95 i (zsig.1 95 i) (zsig.2 95 i)) H := by
  obtain rfl : i = 0 := Nat.lt_one_iff.mp hi
  exact (hD 95 _ _ (qX11_95)).2
theorem w0_96 {Z : zLay} {H : Heap} (hD : zWD Z (zDfin Z) H) {i : Nat} (hi : i < zN 96) : va_at Z.1 vwCl (zad Z 96 i, zE Z 96 i (zsig.1 96 i) (zsig.2 96 i)) H := by
  obtain rfl : i = 0 := Nat.lt_one_iff.mp hi
  exact va_at_q (hD 96 _ _ (qX11_96)).2 (fun j hj => if_pos hj)
theorem w0_97 {Z : zLay} {H : Heap} (hD : zWD Z (zDfin Z) H) {i : Nat} (hi : i < zN 97) : va_at Z.1 vwCl (zad Z 97 i, zE Z 97 i (zsig.1 97 i) (zsig.2 97 i)) H := by
  exact (hD 97 _ _ (qX11_97 hi)).2
theorem w0_98 {Z : zLay} {H : Heap} (hD : zWD Z (zDfin Z) H) {i : Nat} (hi : i < zN 98) : va_at Z.1 vwCl (zad Z 98 i, zE Z 98 i (zsig.1 98 i) (zsig.2 98 i)) H := by
  obtain rfl : i = 0 := Nat.lt_one_iff.mp hi
  exact va_at_q (hD 98 _ _ (qX11_98)).2 (fun j hj => if_pos hj)
theorem w0_99 {Z : zLay} {H : Heap} (hD : zWD Z (zDfin Z) H) {i : Nat} (hi : i < zN 99) : va_at Z.1 vwCl (zad Z 99 i, zE Z 99 i (zsig.1 99 i) (zsig.2 99 i)) H := by
  exact (hD 99 _ _ (qX11_99 hi)).2
theorem w0_100 {Z : zLay} {H : Heap} (hD : zWD Z (zDfin Z) H) {i : Nat} (hi : i < zN 100) : va_at Z.1 vwCl (zad Z 100 i, zE Z 100 i (zsig.1 100 i) (zsig.2 100 i)) H := by
  obtain rfl : i = 0 := Nat.lt_one_iff.mp hi
  exact (hD 100 _ _ (qX11_100)).2
theorem w0_101 {Z : zLay} {H : Heap} (hD : zWD Z (zDfin Z) H) {i : Nat} (hi : i < zN 101) : va_at Z.1 vwCl (zad Z 101 i, zE Z 101 i (zsig.1 101 i) (zsig.2 101 i)) H := by
  obtain rfl : i = 0 := Nat.lt_one_iff.mp hi
  exact (hD 101 _ _ (qX11_101)).2
theorem w0_102 {Z : zLay} {H : Heap} (hD : zWD Z (zDfin Z) H) {i : Nat} (hi : i < zN 102) : va_at Z.1 vwCl (zad Z 102 i, zE Z 102 i (zsig.1 102 i) (zsig.2 102 i)) H := by
  obtain rfl : i = 0 := Nat.lt_one_iff.mp hi
  exact (hD 102 _ _ (qX11_102)).2
theorem w0_103 {Z : zLay} {H : Heap} (hD : zWD Z (zDfin Z) H) {i : Nat} (hi : i < zN 103) : va_at Z.1 vwCl (zad Z 103 i, zE Z 103 i (zsig.1 103 i) (zsig.2 103 i)) H := by
  obtain rfl : i = 0 := Nat.lt_one_iff.mp hi
  exact (hD 103 _ _ (qX11_103)).2
theorem w0_104 {Z : zLay} {H : Heap} (hD : zWD Z (zDfin Z) H) {i : Nat} (hi : i < zN 104) : va_at Z.1 vwCl (zad Z 104 i, zE Z 104 i (zsig.1 104 i) (zsig.2 104 i)) H := by
  obtain rfl : i = 0 := Nat.lt_one_iff.mp hi
  exact (hD 104 _ _ (qX11_104)).2
theorem w0_105 {Z : zLay} {H : Heap} (hD : zWD Z (zDfin Z) H) {i : Nat} (hi : i < zN 105) : va_at Z.1 vwCl (zad Z 105 i, zE Z 105 i (zsig.1 105 i) (zsig.2 105 i)) H := by
  obtain rfl : i = 0 := Nat.lt_one_iff.mp hi
  exact (hD 105 _ _ (qX11_105)).2
theorem w0_106 {Z : zLay} {H : Heap} (hD : zWD Z (zDfin Z) H) {i : Nat} (hi : i < zN 106) : va_at Z.1 vwCl (zad Z 106 i, zE Z 106 i (zsig.1 106 i) (zsig.2 106 i)) H := by
  obtain rfl : i = 0 := Nat.lt_one_iff.mp hi
  exact va_at_q (hD 106 _ _ (qX11_106)).2 (fun j hj => if_pos hj)
theorem w0_107 {Z : zLay} {H : Heap} (hD : zWD Z (zDfin Z) H) {i : Nat} (hi : i < zN 107) : va_at Z.1 vwCl (zad Z 107 i, zE Z 107 i (zsig.1 107 i) (zsig.2 107 i)) H := by
  exact (hD 107 _ _ (qX11_107 hi)).2
theorem w0_108 {Z : zLay} {H : Heap} (hD : zWD Z (zDfin Z) H) {i : Nat} (hi : i < zN 108) : va_at Z.1 vwCl (zad Z 108 i, zE Z 108 i (zsig.1 108 i) (zsig.2 108 i)) H := by
  obtain rfl : i = 0 := Nat.lt_one_iff.mp hi
  exact va_at_q (hD 108 _ _ (qX11_108)).2 (fun j hj => if_pos hj)
theorem w0_109 {Z : zLay} {H : Heap} (hD : zWD Z (zDfin Z) H) {i : Nat} (hi : i < zN 109) : va_at Z.1 vwCl (zad Z 109 i, zE Z 109 i (zsig.1 109 i) (zsig.2 109 i)) H := by
  exact (hD 109 _ _ (qX11_109 hi)).2
theorem w0_110 {Z : zLay} {H : Heap} (hD : zWD Z (zDfin Z) H) {i : Nat} (hi : i < zN 110) : va_at Z.1 vwCl (zad Z 110 i, zE Z 110 i (zsig.1 110 i) (zsig.2 110 i)) H := by
  obtain rfl : i = 0 := Nat.lt_one_iff.mp hi
  exact (hD 110 _ _ (qX11_110)).2
theorem w0_111 {Z : zLay} {H : Heap} (hD : zWD Z (zDfin Z) H) {i : Nat} (hi : i < zN 111) : va_at Z.1 vwCl (zad Z 111 i, zE Z 111 i (zsig.1 111 i) (zsig.2 111 i)) H := by
  obtain rfl : i = 0 := Nat.lt_one_iff.mp hi
  exact (hD 111 _ _ (qX11_111)).2
theorem w0_112 {Z : zLay} {H : Heap} (hD : zWD Z (zDfin Z) H) {i : Nat} (hi : i < zN 112) : va_at Z.1 vwCl (zad Z 112 i, zE Z 112 i (zsig.1 112 i) (zsig.2 112 i)) H := by
  obtain rfl : i = 0 := Nat.lt_one_iff.mp hi
  exact (hD 112 _ _ (qX11_112)).2
theorem w0_113 {Z : zLay} {H : Heap} (hD : zWD Z (zDfin Z) H) {i : Nat} (hi : i < zN 113) : va_at Z.1 vwCl (zad Z 113 i, zE Z 113 i (zsig.1 113 i) (zsig.2 113 i)) H := by
  obtain rfl : i = 0 := Nat.lt_one_iff.mp hi
  exact (hD 113 _ _ (qX11_113)).2
theorem w0_114 {Z : zLay} {H : Heap} (hD : zWD Z (zDfin Z) H) {i : Nat} (hi : i < zN 114) : va_at Z.1 vwCl (zad Z 114 i, zE Z 114 i (zsig.1 114 i) (zsig.2 114 i)) H := by
  obtain rfl : i = 0 := Nat.lt_one_iff.mp hi
  exact (hD 114 _ _ (qX11_114)).2
theorem w0_115 {Z : zLay} {H : Heap} (hD : zWD Z (zDfin Z) H) {i : Nat} (hi : i < zN 115) : va_at Z.1 vwCl (zad Z 115 i, zE Z 115 i (zsig.1 115 i) (zsig.2 115 i)) H := by
  obtain rfl : i = 0 := Nat.lt_one_iff.mp hi
  exact va_at_q (hD 115 _ _ (qX11_115)).2 (fun j hj => if_pos hj)
theorem w0_116 {Z : zLay} {H : Heap} (hD : zWD Z (zDfin Z) H) {i : Nat} (hi : i < zN 116) : va_at Z.1 vwCl (zad Z 116 i, zE Z 116 i (zsig.1 116 i) (zsig.2 116 i)) H := by
  exact (hD 116 _ _ (qX11_116 hi)).2
theorem w0_117 {Z : zLay} {H : Heap} (hD : zWD Z (zDfin Z) H) {i : Nat} (hi : i < zN 117) : va_at Z.1 vwCl (zad Z 117 i, zE Z 117 i (zsig.1 117 i) (zsig.2 117 i)) H := by
  obtain rfl : i = 0 := Nat.lt_one_iff.mp hi
  exact (hD 117 _ _ (qX11_117)).2
theorem w0_118 {Z : zLay} {H : Heap} (hD : zWD Z (zDfin Z) H) {i : Nat} (hi : i < zN 118) : va_at Z.1 vwCl (zad Z 118 i, zE Z 118 i (zsig.1 118 i) (zsig.2 118 i)) H := by
  obtain rfl : i = 0 := Nat.lt_one_iff.mp hi
  exact (hD 118 _ _ (qX11_118)).2
theorem w0_all {Z : zLay} {H : Heap} (hD : zWD Z (zDfin Z) H) : zW Z zsig H := by
  intro k i hi
  have hk := zN_big hi
  match k, hk, hi with
  | 0, _, hi => exact w0_0 hD hi
  | 1, _, hi => exact w0_1 hD hi
  | 2, _, hi => exact w0_2 hD hi
  | 3, _, hi => exact w0_3 hD hi
  | 4, _, hi => exact w0_4 hD hi
  | 5, _, hi => exact w0_5 hD hi
  | 6, _, hi => exact w0_6 hD hi
  | 7, _, hi => exact w0_7 hD hi
  | 8, _, hi => exact w0_8 hD hi
  | 9, _, hi => exact w0_9 hD hi
  | 10, _, hi => exact w0_10 hD hi
  | 11, _, hi => exact w0_11 hD hi
  | 12, _, hi => exact w0_12 hD hi
  | 13, _, hi => exact w0_13 hD hi
  | 14, _, hi => exact w0_14 hD hi
  | 15, _, hi => exact w0_15 hD hi
  | 16, _, hi => exact w0_16 hD hi
  | 17, _, hi => exact w0_17 hD hi
  | 18, _, hi => exact w0_18 hD hi
  | 19, _, hi => exact w0_19 hD hi
  | 20, _, hi => exact w0_20 hD hi
  | 21, _, hi => exact w0_21 hD hi
  | 22, _, hi => exact w0_22 hD hi
  | 23, _, hi => exact w0_23 hD hi
  | 24, _, hi => exact w0_24 hD hi
  | 25, _, hi => exact w0_25 hD hi
  | 26, _, hi => exact w0_26 hD hi
  | 27, _, hi => exact w0_27 hD hi
  | 28, _, hi => exact w0_28 hD hi
  | 29, _, hi => exact w0_29 hD hi
  | 30, _, hi => exact w0_30 hD hi
  | 31, _, hi => exact w0_31 hD hi
  | 32, _, hi => exact w0_32 hD hi
  | 33, _, hi => exact w0_33 hD hi
  | 34, _, hi => exact w0_34 hD hi
  | 35, _, hi => exact w0_35 hD hi
  | 36, _, hi => exact w0_36 hD hi
  | 37, _, hi => exact w0_37 hD hi
  | 38, _, hi => exact w0_38 hD hi
  | 39, _, hi => exact w0_39 hD hi
  | 40, _, hi => exact w0_40 hD hi
  | 41, _, hi => exact w0_41 hD hi
  | 42, _, hi => exact w0_42 hD hi
  | 43, _, hi => exact w0_43 hD hi
  | 44, _, hi => exact w0_44 hD hi
  | 45, _, hi => exact w0_45 hD hi
  | 46, _, hi => exact w0_46 hD hi
  | 47, _, hi => exact w0_47 hD hi
  | 48, _, hi => exact w0_48 hD hi
  | 49, _, hi => exact w0_49 hD hi
  | 50, _, hi => exact w0_50 hD hi
  | 51, _, hi => exact w0_51 hD hi
  | 52, _, hi => exact w0_52 hD hi
  | 53, _, hi => exact absurd hi (Nat.not_lt_zero _)
  | 54, _, hi => exact absurd hi (Nat.not_lt_zero _)
  | 55, _, hi => exact absurd hi (Nat.not_lt_zero _)
  | 56, _, hi => exact absurd hi (Nat.not_lt_zero _)
  | 57, _, hi => exact absurd hi (Nat.not_lt_zero _)
  | 58, _, hi => exact absurd hi (Nat.not_lt_zero _)
  | 59, _, hi => exact absurd hi (Nat.not_lt_zero _)
  | 60, _, hi => exact w0_60 hD hi
  | 61, _, hi => exact w0_61 hD hi
  | 62, _, hi => exact w0_62 hD hi
  | 63, _, hi => exact w0_63 hD hi
  | 64, _, hi => exact w0_64 hD hi
  | 65, _, hi => exact w0_65 hD hi
  | 66, _, hi => exact w0_66 hD hi
  | 67, _, hi => exact w0_67 hD hi
  | 68, _, hi => exact w0_68 hD hi
  | 69, _, hi => exact w0_69 hD hi
  | 70, _, hi => exact w0_70 hD hi
  | 71, _, hi => exact w0_71 hD hi
  | 72, _, hi => exact w0_72 hD hi
  | 73, _, hi => exact w0_73 hD hi
  | 74, _, hi => exact w0_74 hD hi
  | 75, _, hi => exact w0_75 hD hi
  | 76, _, hi => exact w0_76 hD hi
  | 77, _, hi => exact w0_77 hD hi
  | 78, _, hi => exact w0_78 hD hi
  | 79, _, hi => exact w0_79 hD hi
  | 80, _, hi => exact w0_80 hD hi
  | 81, _, hi => exact w0_81 hD hi
  | 82, _, hi => exact w0_82 hD hi
  | 83, _, hi => exact w0_83 hD hi
  | 84, _, hi => exact w0_84 hD hi
  | 85, _, hi => exact w0_85 hD hi
  | 86, _, hi => exact w0_86 hD hi
  | 87, _, hi => exact w0_87 hD hi
  | 88, _, hi => exact w0_88 hD hi
  | 89, _, hi => exact w0_89 hD hi
  | 90, _, hi => exact w0_90 hD hi
  | 91, _, hi => exact w0_91 hD hi
  | 92, _, hi => exact w0_92 hD hi
  | 93, _, hi => exact w0_93 hD hi
  | 94, _, hi => exact w0_94 hD hi
  | 95, _, hi => exact w0_95 hD hi
  | 96, _, hi => exact w0_96 hD hi
  | 97, _, hi => exact w0_97 hD hi
  | 98, _, hi => exact w0_98 hD hi
  | 99, _, hi => exact w0_99 hD hi
  | 100, _, hi => exact w0_100 hD hi
  | 101, _, hi => exact w0_101 hD hi
  | 102, _, hi => exact w0_102 hD hi
  | 103, _, hi => exact w0_103 hD hi
  | 104, _, hi => exact w0_104 hD hi
  | 105, _, hi => exact w0_105 hD hi
  | 106, _, hi => exact w0_106 hD hi
  | 107, _, hi => exact w0_107 hD hi
  | 108, _, hi => exact w0_108 hD hi
  | 109, _, hi => exact w0_109 hD hi
  | 110, _, hi => exact w0_110 hD hi
  | 111, _, hi => exact w0_111 hD hi
  | 112, _, hi => exact w0_112 hD hi
  | 113, _, hi => exact w0_113 hD hi
  | 114, _, hi => exact w0_114 hD hi
  | 115, _, hi => exact w0_115 hD hi
  | 116, _, hi => exact w0_116 hD hi
  | 117, _, hi => exact w0_117 hD hi
  | 118, _, hi => exact w0_118 hD hi
theorem zsum_0 : ∀ n, zsum (fun _ => 0) n = 0 := by
  intro n
  induction n with
  | zero => rfl
  | succ n ih => exact (congrArg (· + 0) ih).trans (by decide)
