/-- a part of a condition, by its path -/
def pth_ : List Bool → Cond → Cond
  | [], c => c
  | b :: r, .and x y => pth_ r (match b with | true => y | false => x)
  | _ :: _, c => c
theorem pth_ok {args : Array Value} {s : State} : ∀ (p : List Bool) {c : Cond}, c.before args s = true → (pth_ p c).before args s = true := by
  intro p
  induction p with
  | nil => intro c h; exact h
  | cons b r ih =>
    intro c h
    cases c with
    | and x y =>
      have h2 : x.before args s = true ∧ y.before args s = true := by rw [Cond.before_and, Bool.and_eq_true] at h; exact h
      cases b with
      | true => exact ih h2.2
      | false => exact ih h2.1
    | _ => exact h
set_option maxRecDepth 20000 in
theorem el_tB {s : State} {b : Nat} (hgv : (Jvm.Cond.and given_1 narrow_1).before #[Value.ref b] s = true) : ∀ j : Nat, j < 15 → (Cond.eq (.elem (.static "DownByAHair" "BINDS" "[I") (.int (Int32.ofNat j))) (.int (tB.getD j 0))).before #[Value.ref b] s = true := by
  intro j hj
  match j, hj with
  | 0, _ => exact pth_ok [true, false, false, false, false, false, true, false, true, false] hgv
  | 1, _ => exact pth_ok [true, false, false, false, false, false, true, false, true, true] hgv
  | 2, _ => exact pth_ok [true, false, false, false, false, false, true, true, false, false] hgv
  | 3, _ => exact pth_ok [true, false, false, false, false, false, true, true, false, true] hgv
  | 4, _ => exact pth_ok [true, false, false, false, false, false, true, true, true, false] hgv
  | 5, _ => exact pth_ok [true, false, false, false, false, false, true, true, true, true, false] hgv
  | 6, _ => exact pth_ok [true, false, false, false, false, false, true, true, true, true, true] hgv
  | 7, _ => exact pth_ok [true, false, false, false, false, true, false, false, false, false] hgv
  | 8, _ => exact pth_ok [true, false, false, false, false, true, false, false, false, true] hgv
  | 9, _ => exact pth_ok [true, false, false, false, false, true, false, false, true, false] hgv
  | 10, _ => exact pth_ok [true, false, false, false, false, true, false, false, true, true] hgv
  | 11, _ => exact pth_ok [true, false, false, false, false, true, false, true, false, false] hgv
  | 12, _ => exact pth_ok [true, false, false, false, false, true, false, true, false, true] hgv
  | 13, _ => exact pth_ok [true, false, false, false, false, true, false, true, true, false] hgv
  | 14, _ => exact pth_ok [true, false, false, false, false, true, false, true, true, true, false] hgv
  | n + 15, h => exact absurd h (by omega)
set_option maxRecDepth 20000 in
theorem ar_tB {s : State} {b : Nat} (hgv : (Jvm.Cond.and given_1 narrow_1).before #[Value.ref b] s = true) : (Cond.arrayOf (.static "DownByAHair" "BINDS" "[I") .int).before #[Value.ref b] s = true := pth_ok [true, false, false, false, false, false, true, false, false, false] hgv
set_option maxRecDepth 20000 in
theorem le_tB {s : State} {b : Nat} (hgv : (Jvm.Cond.and given_1 narrow_1).before #[Value.ref b] s = true) : (Cond.eq (.length (.static "DownByAHair" "BINDS" "[I")) (.int (Int32.ofNat 15))).before #[Value.ref b] s = true := pth_ok [true, false, false, false, false, false, true, false, false, true] hgv
set_option maxRecDepth 20000 in
theorem el_tF {s : State} {b : Nat} (hgv : (Jvm.Cond.and given_1 narrow_1).before #[Value.ref b] s = true) : ∀ j : Nat, j < 160 → (Cond.eq (.elem (.static "DownByAHair" "FEWEST_WEIGHTS" "[I") (.int (Int32.ofNat j))) (.int (tF.getD j 0))).before #[Value.ref b] s = true := by
  intro j hj
  match j, hj with
  | 0, _ => exact pth_ok [true, false, false, false, false, true, true, false, true, false] hgv
  | 1, _ => exact pth_ok [true, false, false, false, false, true, true, false, true, true] hgv
  | 2, _ => exact pth_ok [true, false, false, false, false, true, true, true, false, false] hgv
  | 3, _ => exact pth_ok [true, false, false, false, false, true, true, true, false, true] hgv
  | 4, _ => exact pth_ok [true, false, false, false, false, true, true, true, true, false] hgv
  | 5, _ => exact pth_ok [true, false, false, false, false, true, true, true, true, true, false] hgv
  | 6, _ => exact pth_ok [true, false, false, false, false, true, true, true, true, true, true] hgv
  | 7, _ => exact pth_ok [true, false, false, false, true, false, false, false, false, false] hgv
  | 8, _ => exact pth_ok [true, false, false, false, true, false, false, false, false, true] hgv
  | 9, _ => exact pth_ok [true, false, false, false, true, false, false, false, true, false] hgv
  | 10, _ => exact pth_ok [true, false, false, false, true, false, false, false, true, true] hgv
  | 11, _ => exact pth_ok [true, false, false, false, true, false, false, true, false, false] hgv
  | 12, _ => exact pth_ok [true, false, false, false, true, false, false, true, false, true] hgv
  | 13, _ => exact pth_ok [true, false, false, false, true, false, false, true, true, false] hgv
  | 14, _ => exact pth_ok [true, false, false, false, true, false, false, true, true, true] hgv
  | 15, _ => exact pth_ok [true, false, false, false, true, false, true, false, false, false] hgv
  | 16, _ => exact pth_ok [true, false, false, false, true, false, true, false, false, true] hgv
  | 17, _ => exact pth_ok [true, false, false, false, true, false, true, false, true, false] hgv
  | 18, _ => exact pth_ok [true, false, false, false, true, false, true, false, true, true] hgv
  | 19, _ => exact pth_ok [true, false, false, false, true, false, true, true, false, false] hgv
  | 20, _ => exact pth_ok [true, false, false, false, true, false, true, true, false, true] hgv
  | 21, _ => exact pth_ok [true, false, false, false, true, false, true, true, true, false] hgv
  | 22, _ => exact pth_ok [true, false, false, false, true, false, true, true, true, true, false] hgv
  | 23, _ => exact pth_ok [true, false, false, false, true, false, true, true, true, true, true] hgv
  | 24, _ => exact pth_ok [true, false, false, false, true, true, false, false, false, false] hgv
  | 25, _ => exact pth_ok [true, false, false, false, true, true, false, false, false, true] hgv
  | 26, _ => exact pth_ok [true, false, false, false, true, true, false, false, true, false] hgv
  | 27, _ => exact pth_ok [true, false, false, false, true, true, false, false, true, true] hgv
  | 28, _ => exact pth_ok [true, false, false, false, true, true, false, true, false, false] hgv
  | 29, _ => exact pth_ok [true, false, false, false, true, true, false, true, false, true] hgv
  | 30, _ => exact pth_ok [true, false, false, false, true, true, false, true, true, false] hgv
  | 31, _ => exact pth_ok [true, false, false, false, true, true, false, true, true, true, false] hgv
  | 32, _ => exact pth_ok [true, false, false, false, true, true, false, true, true, true, true] hgv
  | 33, _ => exact pth_ok [true, false, false, false, true, true, true, false, false, false] hgv
  | 34, _ => exact pth_ok [true, false, false, false, true, true, true, false, false, true] hgv
  | 35, _ => exact pth_ok [true, false, false, false, true, true, true, false, true, false] hgv
  | 36, _ => exact pth_ok [true, false, false, false, true, true, true, false, true, true] hgv
  | 37, _ => exact pth_ok [true, false, false, false, true, true, true, true, false, false] hgv
  | 38, _ => exact pth_ok [true, false, false, false, true, true, true, true, false, true] hgv
  | 39, _ => exact pth_ok [true, false, false, false, true, true, true, true, true, false] hgv
  | 40, _ => exact pth_ok [true, false, false, false, true, true, true, true, true, true, false] hgv
  | 41, _ => exact pth_ok [true, false, false, false, true, true, true, true, true, true, true] hgv
  | 42, _ => exact pth_ok [true, false, false, true, false, false, false, false, false, false] hgv
  | 43, _ => exact pth_ok [true, false, false, true, false, false, false, false, false, true] hgv
  | 44, _ => exact pth_ok [true, false, false, true, false, false, false, false, true, false] hgv
  | 45, _ => exact pth_ok [true, false, false, true, false, false, false, false, true, true] hgv
  | 46, _ => exact pth_ok [true, false, false, true, false, false, false, true, false, false] hgv
  | 47, _ => exact pth_ok [true, false, false, true, false, false, false, true, false, true] hgv
  | 48, _ => exact pth_ok [true, false, false, true, false, false, false, true, true, false] hgv
  | 49, _ => exact pth_ok [true, false, false, true, false, false, false, true, true, true] hgv
  | 50, _ => exact pth_ok [true, false, false, true, false, false, true, false, false, false] hgv
  | 51, _ => exact pth_ok [true, false, false, true, false, false, true, false, false, true] hgv
  | 52, _ => exact pth_ok [true, false, false, true, false, false, true, false, true, false] hgv
  | 53, _ => exact pth_ok [true, false, false, true, false, false, true, false, true, true] hgv
  | 54, _ => exact pth_ok [true, false, false, true, false, false, true, true, false, false] hgv
  | 55, _ => exact pth_ok [true, false, false, true, false, false, true, true, false, true] hgv
  | 56, _ => exact pth_ok [true, false, false, true, false, false, true, true, true, false] hgv
  | 57, _ => exact pth_ok [true, false, false, true, false, false, true, true, true, true, false] hgv
  | 58, _ => exact pth_ok [true, false, false, true, false, false, true, true, true, true, true] hgv
  | 59, _ => exact pth_ok [true, false, false, true, false, true, false, false, false, false] hgv
  | 60, _ => exact pth_ok [true, false, false, true, false, true, false, false, false, true] hgv
  | 61, _ => exact pth_ok [true, false, false, true, false, true, false, false, true, false] hgv
  | 62, _ => exact pth_ok [true, false, false, true, false, true, false, false, true, true] hgv
  | 63, _ => exact pth_ok [true, false, false, true, false, true, false, true, false, false] hgv
  | 64, _ => exact pth_ok [true, false, false, true, false, true, false, true, false, true] hgv
  | 65, _ => exact pth_ok [true, false, false, true, false, true, false, true, true, false] hgv
  | 66, _ => exact pth_ok [true, false, false, true, false, true, false, true, true, true, false] hgv
  | 67, _ => exact pth_ok [true, false, false, true, false, true, false, true, true, true, true] hgv
  | 68, _ => exact pth_ok [true, false, false, true, false, true, true, false, false, false] hgv
  | 69, _ => exact pth_ok [true, false, false, true, false, true, true, false, false, true] hgv
  | 70, _ => exact pth_ok [true, false, false, true, false, true, true, false, true, false] hgv
  | 71, _ => exact pth_ok [true, false, false, true, false, true, true, false, true, true] hgv
  | 72, _ => exact pth_ok [true, false, false, true, false, true, true, true, false, false] hgv
  | 73, _ => exact pth_ok [true, false, false, true, false, true, true, true, false, true] hgv
  | 74, _ => exact pth_ok [true, false, false, true, false, true, true, true, true, false] hgv
  | 75, _ => exact pth_ok [true, false, false, true, false, true, true, true, true, true, false] hgv
  | 76, _ => exact pth_ok [true, false, false, true, false, true, true, true, true, true, true] hgv
  | 77, _ => exact pth_ok [true, false, false, true, true, false, false, false, false, false] hgv
  | 78, _ => exact pth_ok [true, false, false, true, true, false, false, false, false, true] hgv
  | 79, _ => exact pth_ok [true, false, false, true, true, false, false, false, true, false] hgv
  | 80, _ => exact pth_ok [true, false, false, true, true, false, false, false, true, true] hgv
  | 81, _ => exact pth_ok [true, false, false, true, true, false, false, true, false, false] hgv
  | 82, _ => exact pth_ok [true, false, false, true, true, false, false, true, false, true] hgv
  | 83, _ => exact pth_ok [true, false, false, true, true, false, false, true, true, false] hgv
  | 84, _ => exact pth_ok [true, false, false, true, true, false, false, true, true, true] hgv
  | 85, _ => exact pth_ok [true, false, false, true, true, false, true, false, false, false] hgv
  | 86, _ => exact pth_ok [true, false, false, true, true, false, true, false, false, true] hgv
  | 87, _ => exact pth_ok [true, false, false, true, true, false, true, false, true, false] hgv
  | 88, _ => exact pth_ok [true, false, false, true, true, false, true, false, true, true] hgv
  | 89, _ => exact pth_ok [true, false, false, true, true, false, true, true, false, false] hgv
  | 90, _ => exact pth_ok [true, false, false, true, true, false, true, true, false, true] hgv
  | 91, _ => exact pth_ok [true, false, false, true, true, false, true, true, true, false] hgv
  | 92, _ => exact pth_ok [true, false, false, true, true, false, true, true, true, true, false] hgv
  | 93, _ => exact pth_ok [true, false, false, true, true, false, true, true, true, true, true] hgv
  | 94, _ => exact pth_ok [true, false, false, true, true, true, false, false, false, false] hgv
  | 95, _ => exact pth_ok [true, false, false, true, true, true, false, false, false, true] hgv
  | 96, _ => exact pth_ok [true, false, false, true, true, true, false, false, true, false] hgv
  | 97, _ => exact pth_ok [true, false, false, true, true, true, false, false, true, true] hgv
  | 98, _ => exact pth_ok [true, false, false, true, true, true, false, true, false, false] hgv
  | 99, _ => exact pth_ok [true, false, false, true, true, true, false, true, false, true] hgv
  | 100, _ => exact pth_ok [true, false, false, true, true, true, false, true, true, false] hgv
  | 101, _ => exact pth_ok [true, false, false, true, true, true, false, true, true, true, false] hgv
  | 102, _ => exact pth_ok [true, false, false, true, true, true, false, true, true, true, true] hgv
  | 103, _ => exact pth_ok [true, false, false, true, true, true, true, false, false, false] hgv
  | 104, _ => exact pth_ok [true, false, false, true, true, true, true, false, false, true] hgv
  | 105, _ => exact pth_ok [true, false, false, true, true, true, true, false, true, false] hgv
  | 106, _ => exact pth_ok [true, false, false, true, true, true, true, false, true, true] hgv
  | 107, _ => exact pth_ok [true, false, false, true, true, true, true, true, false, false] hgv
  | 108, _ => exact pth_ok [true, false, false, true, true, true, true, true, false, true] hgv
  | 109, _ => exact pth_ok [true, false, false, true, true, true, true, true, true, false] hgv
  | 110, _ => exact pth_ok [true, false, false, true, true, true, true, true, true, true, false] hgv
  | 111, _ => exact pth_ok [true, false, false, true, true, true, true, true, true, true, true] hgv
  | 112, _ => exact pth_ok [true, false, true, false, false, false, false, false, false, false] hgv
  | 113, _ => exact pth_ok [true, false, true, false, false, false, false, false, false, true] hgv
  | 114, _ => exact pth_ok [true, false, true, false, false, false, false, false, true, false] hgv
  | 115, _ => exact pth_ok [true, false, true, false, false, false, false, false, true, true] hgv
  | 116, _ => exact pth_ok [true, false, true, false, false, false, false, true, false, false] hgv
  | 117, _ => exact pth_ok [true, false, true, false, false, false, false, true, false, true] hgv
  | 118, _ => exact pth_ok [true, false, true, false, false, false, false, true, true, false] hgv
  | 119, _ => exact pth_ok [true, false, true, false, false, false, false, true, true, true] hgv
  | 120, _ => exact pth_ok [true, false, true, false, false, false, true, false, false, false] hgv
  | 121, _ => exact pth_ok [true, false, true, false, false, false, true, false, false, true] hgv
  | 122, _ => exact pth_ok [true, false, true, false, false, false, true, false, true, false] hgv
  | 123, _ => exact pth_ok [true, false, true, false, false, false, true, false, true, true] hgv
  | 124, _ => exact pth_ok [true, false, true, false, false, false, true, true, false, false] hgv
  | 125, _ => exact pth_ok [true, false, true, false, false, false, true, true, false, true] hgv
  | 126, _ => exact pth_ok [true, false, true, false, false, false, true, true, true, false] hgv
  | 127, _ => exact pth_ok [true, false, true, false, false, false, true, true, true, true, false] hgv
  | 128, _ => exact pth_ok [true, false, true, false, false, false, true, true, true, true, true] hgv
  | 129, _ => exact pth_ok [true, false, true, false, false, true, false, false, false, false] hgv
  | 130, _ => exact pth_ok [true, false, true, false, false, true, false, false, false, true] hgv
  | 131, _ => exact pth_ok [true, false, true, false, false, true, false, false, true, false] hgv
  | 132, _ => exact pth_ok [true, false, true, false, false, true, false, false, true, true] hgv
  | 133, _ => exact pth_ok [true, false, true, false, false, true, false, true, false, false] hgv
  | 134, _ => exact pth_ok [true, false, true, false, false, true, false, true, false, true] hgv
  | 135, _ => exact pth_ok [true, false, true, false, false, true, false, true, true, false] hgv
  | 136, _ => exact pth_ok [true, false, true, false, false, true, false, true, true, true, false] hgv
  | 137, _ => exact pth_ok [true, false, true, false, false, true, false, true, true, true, true] hgv
  | 138, _ => exact pth_ok [true, false, true, false, false, true, true, false, false, false] hgv
  | 139, _ => exact pth_ok [true, false, true, false, false, true, true, false, false, true] hgv
  | 140, _ => exact pth_ok [true, false, true, false, false, true, true, false, true, false] hgv
  | 141, _ => exact pth_ok [true, false, true, false, false, true, true, false, true, true] hgv
  | 142, _ => exact pth_ok [true, false, true, false, false, true, true, true, false, false] hgv
  | 143, _ => exact pth_ok [true, false, true, false, false, true, true, true, false, true] hgv
  | 144, _ => exact pth_ok [true, false, true, false, false, true, true, true, true, false] hgv
  | 145, _ => exact pth_ok [true, false, true, false, false, true, true, true, true, true, false] hgv
  | 146, _ => exact pth_ok [true, false, true, false, false, true, true, true, true, true, true] hgv
  | 147, _ => exact pth_ok [true, false, true, false, true, false, false, false, false, false] hgv
  | 148, _ => exact pth_ok [true, false, true, false, true, false, false, false, false, true] hgv
  | 149, _ => exact pth_ok [true, false, true, false, true, false, false, false, true, false] hgv
  | 150, _ => exact pth_ok [true, false, true, false, true, false, false, false, true, true] hgv
  | 151, _ => exact pth_ok [true, false, true, false, true, false, false, true, false, false] hgv
  | 152, _ => exact pth_ok [true, false, true, false, true, false, false, true, false, true] hgv
  | 153, _ => exact pth_ok [true, false, true, false, true, false, false, true, true, false] hgv
  | 154, _ => exact pth_ok [true, false, true, false, true, false, false, true, true, true] hgv
  | 155, _ => exact pth_ok [true, false, true, false, true, false, true, false, false, false] hgv
  | 156, _ => exact pth_ok [true, false, true, false, true, false, true, false, false, true] hgv
  | 157, _ => exact pth_ok [true, false, true, false, true, false, true, false, true, false] hgv
  | 158, _ => exact pth_ok [true, false, true, false, true, false, true, false, true, true] hgv
  | 159, _ => exact pth_ok [true, false, true, false, true, false, true, true, false, false] hgv
  | n + 160, h => exact absurd h (by omega)
set_option maxRecDepth 20000 in
theorem ar_tF {s : State} {b : Nat} (hgv : (Jvm.Cond.and given_1 narrow_1).before #[Value.ref b] s = true) : (Cond.arrayOf (.static "DownByAHair" "FEWEST_WEIGHTS" "[I") .int).before #[Value.ref b] s = true := pth_ok [true, false, false, false, false, true, true, false, false, false] hgv
set_option maxRecDepth 20000 in
theorem le_tF {s : State} {b : Nat} (hgv : (Jvm.Cond.and given_1 narrow_1).before #[Value.ref b] s = true) : (Cond.eq (.length (.static "DownByAHair" "FEWEST_WEIGHTS" "[I")) (.int (Int32.ofNat 160))).before #[Value.ref b] s = true := pth_ok [true, false, false, false, false, true, true, false, false, true] hgv
set_option maxRecDepth 20000 in
theorem eq_CS {s : State} {b : Nat} (hgv : (Jvm.Cond.and given_1 narrow_1).before #[Value.ref b] s = true) : (Cond.eq (.static "java/lang/String" "COMPACT_STRINGS" "Z") (.int 1)).before #[Value.ref b] s = true := pth_ok [true, false, false, false, false, false, false, false, true, false] hgv
set_option maxRecDepth 20000 in
theorem rf_SF {s : State} {b : Nat} (hgv : (Jvm.Cond.and given_1 narrow_1).before #[Value.ref b] s = true) : (Cond.isRef (.static "jdk/internal/util/Preconditions" "SIOOBE_FORMATTER" "Ljava/util/function/BiFunction;")).before #[Value.ref b] s = true := pth_ok [true, false, false, false, false, false, false, false, true, true] hgv
abbrev stm_ (i : Nat) : Term := .string "DownByAHair$Tokens" (strI.getD i (0, "")).1
set_option maxRecDepth 20000 in
theorem ss_ex {s : State} {b : Nat} (hgv : (Jvm.Cond.and given_1 narrow_1).before #[Value.ref b] s = true) : ∀ i : Nat, i < 20 → (Cond.exactly (stm_ i) "java/lang/String").before #[Value.ref b] s = true := by
  intro i hi
  match i, hi with
  | 0, _ => exact pth_ok [true, false, true, false, true, true, true, true, true, true, false] hgv
  | 1, _ => exact pth_ok [true, false, true, true, false, false, false, true, false, false] hgv
  | 2, _ => exact pth_ok [true, false, true, true, false, false, true, true, false, false] hgv
  | 3, _ => exact pth_ok [true, false, true, true, false, true, false, true, false, false] hgv
  | 4, _ => exact pth_ok [true, false, true, true, false, true, true, true, false, false] hgv
  | 5, _ => exact pth_ok [true, false, true, true, true, false, true, false, false, false] hgv
  | 6, _ => exact pth_ok [true, false, true, true, true, true, false, true, false, false] hgv
  | 7, _ => exact pth_ok [true, false, true, true, true, true, true, true, true, true, true] hgv
  | 8, _ => exact pth_ok [true, true, false, false, false, false, true, true, true, false] hgv
  | 9, _ => exact pth_ok [true, true, false, false, false, true, true, true, false, false] hgv
  | 10, _ => exact pth_ok [true, true, false, false, true, false, true, true, false, false] hgv
  | 11, _ => exact pth_ok [true, true, false, false, true, true, true, false, true, true] hgv
  | 12, _ => exact pth_ok [true, true, false, true, false, false, true, true, false, true] hgv
  | 13, _ => exact pth_ok [true, true, false, true, false, true, true, true, true, true, true] hgv
  | 14, _ => exact pth_ok [true, true, false, true, true, true, false, true, false, true] hgv
  | 15, _ => exact pth_ok [true, true, true, false, false, false, true, false, false, true] hgv
  | 16, _ => exact pth_ok [true, true, true, false, false, true, true, true, false, true] hgv
  | 17, _ => exact pth_ok [true, true, true, false, true, true, false, false, true, true] hgv
  | 18, _ => exact pth_ok [true, true, true, true, false, false, true, false, true, true] hgv
  | 19, _ => exact pth_ok [true, true, true, true, true, false, false, true, false, false] hgv
  | n + 20, h => exact absurd h (by omega)
set_option maxRecDepth 20000 in
theorem ss_co {s : State} {b : Nat} (hgv : (Jvm.Cond.and given_1 narrow_1).before #[Value.ref b] s = true) : ∀ i : Nat, i < 20 → (Cond.eq (.field (stm_ i) "java/lang/String" "coder" "B") (.int 0)).before #[Value.ref b] s = true := by
  intro i hi
  match i, hi with
  | 0, _ => exact pth_ok [true, false, true, false, true, true, true, true, true, true, true] hgv
  | 1, _ => exact pth_ok [true, false, true, true, false, false, false, true, false, true] hgv
  | 2, _ => exact pth_ok [true, false, true, true, false, false, true, true, false, true] hgv
  | 3, _ => exact pth_ok [true, false, true, true, false, true, false, true, false, true] hgv
  | 4, _ => exact pth_ok [true, false, true, true, false, true, true, true, false, true] hgv
  | 5, _ => exact pth_ok [true, false, true, true, true, false, true, false, false, true] hgv
  | 6, _ => exact pth_ok [true, false, true, true, true, true, false, true, false, true] hgv
  | 7, _ => exact pth_ok [true, true, false, false, false, false, false, false, false, false] hgv
  | 8, _ => exact pth_ok [true, true, false, false, false, false, true, true, true, true, false] hgv
  | 9, _ => exact pth_ok [true, true, false, false, false, true, true, true, false, true] hgv
  | 10, _ => exact pth_ok [true, true, false, false, true, false, true, true, false, true] hgv
  | 11, _ => exact pth_ok [true, true, false, false, true, true, true, true, false, false] hgv
  | 12, _ => exact pth_ok [true, true, false, true, false, false, true, true, true, false] hgv
  | 13, _ => exact pth_ok [true, true, false, true, true, false, false, false, false, false] hgv
  | 14, _ => exact pth_ok [true, true, false, true, true, true, false, true, true, false] hgv
  | 15, _ => exact pth_ok [true, true, true, false, false, false, true, false, true, false] hgv
  | 16, _ => exact pth_ok [true, true, true, false, false, true, true, true, true, false] hgv
  | 17, _ => exact pth_ok [true, true, true, false, true, true, false, true, false, false] hgv
  | 18, _ => exact pth_ok [true, true, true, true, false, false, true, true, false, false] hgv
  | 19, _ => exact pth_ok [true, true, true, true, true, false, false, true, false, true] hgv
  | n + 20, h => exact absurd h (by omega)
set_option maxRecDepth 20000 in
theorem ss_ar {s : State} {b : Nat} (hgv : (Jvm.Cond.and given_1 narrow_1).before #[Value.ref b] s = true) : ∀ i : Nat, i < 20 → (Cond.arrayOf (.field (stm_ i) "java/lang/String" "value" "[B") .byte).before #[Value.ref b] s = true := by
  intro i hi
  match i, hi with
  | 0, _ => exact pth_ok [true, false, true, true, false, false, false, false, false, false] hgv
  | 1, _ => exact pth_ok [true, false, true, true, false, false, false, true, true, false] hgv
  | 2, _ => exact pth_ok [true, false, true, true, false, false, true, true, true, false] hgv
  | 3, _ => exact pth_ok [true, false, true, true, false, true, false, true, true, false] hgv
  | 4, _ => exact pth_ok [true, false, true, true, false, true, true, true, true, false] hgv
  | 5, _ => exact pth_ok [true, false, true, true, true, false, true, false, true, false] hgv
  | 6, _ => exact pth_ok [true, false, true, true, true, true, false, true, true, false] hgv
  | 7, _ => exact pth_ok [true, true, false, false, false, false, false, false, false, true] hgv
  | 8, _ => exact pth_ok [true, true, false, false, false, false, true, true, true, true, true] hgv
  | 9, _ => exact pth_ok [true, true, false, false, false, true, true, true, true, false] hgv
  | 10, _ => exact pth_ok [true, true, false, false, true, false, true, true, true, false] hgv
  | 11, _ => exact pth_ok [true, true, false, false, true, true, true, true, false, true] hgv
  | 12, _ => exact pth_ok [true, true, false, true, false, false, true, true, true, true, false] hgv
  | 13, _ => exact pth_ok [true, true, false, true, true, false, false, false, false, true] hgv
  | 14, _ => exact pth_ok [true, true, false, true, true, true, false, true, true, true, false] hgv
  | 15, _ => exact pth_ok [true, true, true, false, false, false, true, false, true, true] hgv
  | 16, _ => exact pth_ok [true, true, true, false, false, true, true, true, true, true, false] hgv
  | 17, _ => exact pth_ok [true, true, true, false, true, true, false, true, false, true] hgv
  | 18, _ => exact pth_ok [true, true, true, true, false, false, true, true, false, true] hgv
  | 19, _ => exact pth_ok [true, true, true, true, true, false, false, true, true, false] hgv
  | n + 20, h => exact absurd h (by omega)
set_option maxRecDepth 20000 in
theorem ss_le {s : State} {b : Nat} (hgv : (Jvm.Cond.and given_1 narrow_1).before #[Value.ref b] s = true) : ∀ i : Nat, i < 20 → (Cond.eq (.length (.field (stm_ i) "java/lang/String" "value" "[B")) (.int (Int32.ofNat (strL.getD i 0)))).before #[Value.ref b] s = true := by
  intro i hi
  match i, hi with
  | 0, _ => exact pth_ok [true, false, true, true, false, false, false, false, false, true] hgv
  | 1, _ => exact pth_ok [true, false, true, true, false, false, false, true, true, true] hgv
  | 2, _ => exact pth_ok [true, false, true, true, false, false, true, true, true, true, false] hgv
  | 3, _ => exact pth_ok [true, false, true, true, false, true, false, true, true, true, false] hgv
  | 4, _ => exact pth_ok [true, false, true, true, false, true, true, true, true, true, false] hgv
  | 5, _ => exact pth_ok [true, false, true, true, true, false, true, false, true, true] hgv
  | 6, _ => exact pth_ok [true, false, true, true, true, true, false, true, true, true, false] hgv
  | 7, _ => exact pth_ok [true, true, false, false, false, false, false, false, true, false] hgv
  | 8, _ => exact pth_ok [true, true, false, false, false, true, false, false, false, false] hgv
  | 9, _ => exact pth_ok [true, true, false, false, false, true, true, true, true, true, false] hgv
  | 10, _ => exact pth_ok [true, true, false, false, true, false, true, true, true, true, false] hgv
  | 11, _ => exact pth_ok [true, true, false, false, true, true, true, true, true, false] hgv
  | 12, _ => exact pth_ok [true, true, false, true, false, false, true, true, true, true, true] hgv
  | 13, _ => exact pth_ok [true, true, false, true, true, false, false, false, true, false] hgv
  | 14, _ => exact pth_ok [true, true, false, true, true, true, false, true, true, true, true] hgv
  | 15, _ => exact pth_ok [true, true, true, false, false, false, true, true, false, false] hgv
  | 16, _ => exact pth_ok [true, true, true, false, false, true, true, true, true, true, true] hgv
  | 17, _ => exact pth_ok [true, true, true, false, true, true, false, true, true, false] hgv
  | 18, _ => exact pth_ok [true, true, true, true, false, false, true, true, true, false] hgv
  | 19, _ => exact pth_ok [true, true, true, true, true, false, false, true, true, true] hgv
  | n + 20, h => exact absurd h (by omega)
set_option maxRecDepth 20000 in
theorem ss_el0 {s : State} {b : Nat} (hgv : (Jvm.Cond.and given_1 narrow_1).before #[Value.ref b] s = true) : ∀ j : Nat, j < 2 → (Cond.eq (.elem (.field (stm_ 0) "java/lang/String" "value" "[B") (.int (Int32.ofNat j))) (.int ((strB.getD 0 []).getD j 0))).before #[Value.ref b] s = true := by
  intro j hj
  match j, hj with
  | 0, _ => exact pth_ok [true, false, true, true, false, false, false, false, true, false] hgv
  | 1, _ => exact pth_ok [true, false, true, true, false, false, false, false, true, true] hgv
  | n + 2, h => exact absurd h (by omega)
set_option maxRecDepth 20000 in
theorem ss_el1 {s : State} {b : Nat} (hgv : (Jvm.Cond.and given_1 narrow_1).before #[Value.ref b] s = true) : ∀ j : Nat, j < 3 → (Cond.eq (.elem (.field (stm_ 1) "java/lang/String" "value" "[B") (.int (Int32.ofNat j))) (.int ((strB.getD 1 []).getD j 0))).before #[Value.ref b] s = true := by
  intro j hj
  match j, hj with
  | 0, _ => exact pth_ok [true, false, true, true, false, false, true, false, false, false] hgv
  | 1, _ => exact pth_ok [true, false, true, true, false, false, true, false, false, true] hgv
  | 2, _ => exact pth_ok [true, false, true, true, false, false, true, false, true, false] hgv
  | n + 3, h => exact absurd h (by omega)
set_option maxRecDepth 20000 in
theorem ss_el2 {s : State} {b : Nat} (hgv : (Jvm.Cond.and given_1 narrow_1).before #[Value.ref b] s = true) : ∀ j : Nat, j < 3 → (Cond.eq (.elem (.field (stm_ 2) "java/lang/String" "value" "[B") (.int (Int32.ofNat j))) (.int ((strB.getD 2 []).getD j 0))).before #[Value.ref b] s = true := by
  intro j hj
  match j, hj with
  | 0, _ => exact pth_ok [true, false, true, true, false, false, true, true, true, true, true] hgv
  | 1, _ => exact pth_ok [true, false, true, true, false, true, false, false, false, false] hgv
  | 2, _ => exact pth_ok [true, false, true, true, false, true, false, false, false, true] hgv
  | n + 3, h => exact absurd h (by omega)
set_option maxRecDepth 20000 in
theorem ss_el3 {s : State} {b : Nat} (hgv : (Jvm.Cond.and given_1 narrow_1).before #[Value.ref b] s = true) : ∀ j : Nat, j < 2 → (Cond.eq (.elem (.field (stm_ 3) "java/lang/String" "value" "[B") (.int (Int32.ofNat j))) (.int ((strB.getD 3 []).getD j 0))).before #[Value.ref b] s = true := by
  intro j hj
  match j, hj with
  | 0, _ => exact pth_ok [true, false, true, true, false, true, false, true, true, true, true] hgv
  | 1, _ => exact pth_ok [true, false, true, true, false, true, true, false, false, false] hgv
  | n + 2, h => exact absurd h (by omega)
set_option maxRecDepth 20000 in
theorem ss_el4 {s : State} {b : Nat} (hgv : (Jvm.Cond.and given_1 narrow_1).before #[Value.ref b] s = true) : ∀ j : Nat, j < 5 → (Cond.eq (.elem (.field (stm_ 4) "java/lang/String" "value" "[B") (.int (Int32.ofNat j))) (.int ((strB.getD 4 []).getD j 0))).before #[Value.ref b] s = true := by
  intro j hj
  match j, hj with
  | 0, _ => exact pth_ok [true, false, true, true, false, true, true, true, true, true, true] hgv
  | 1, _ => exact pth_ok [true, false, true, true, true, false, false, false, false, false] hgv
  | 2, _ => exact pth_ok [true, false, true, true, true, false, false, false, false, true] hgv
  | 3, _ => exact pth_ok [true, false, true, true, true, false, false, false, true, false] hgv
  | 4, _ => exact pth_ok [true, false, true, true, true, false, false, false, true, true] hgv
  | n + 5, h => exact absurd h (by omega)
set_option maxRecDepth 20000 in
theorem ss_el5 {s : State} {b : Nat} (hgv : (Jvm.Cond.and given_1 narrow_1).before #[Value.ref b] s = true) : ∀ j : Nat, j < 4 → (Cond.eq (.elem (.field (stm_ 5) "java/lang/String" "value" "[B") (.int (Int32.ofNat j))) (.int ((strB.getD 5 []).getD j 0))).before #[Value.ref b] s = true := by
  intro j hj
  match j, hj with
  | 0, _ => exact pth_ok [true, false, true, true, true, false, true, true, false, false] hgv
  | 1, _ => exact pth_ok [true, false, true, true, true, false, true, true, false, true] hgv
  | 2, _ => exact pth_ok [true, false, true, true, true, false, true, true, true, false] hgv
  | 3, _ => exact pth_ok [true, false, true, true, true, false, true, true, true, true, false] hgv
  | n + 4, h => exact absurd h (by omega)
set_option maxRecDepth 20000 in
theorem ss_el6 {s : State} {b : Nat} (hgv : (Jvm.Cond.and given_1 narrow_1).before #[Value.ref b] s = true) : ∀ j : Nat, j < 3 → (Cond.eq (.elem (.field (stm_ 6) "java/lang/String" "value" "[B") (.int (Int32.ofNat j))) (.int ((strB.getD 6 []).getD j 0))).before #[Value.ref b] s = true := by
  intro j hj
  match j, hj with
  | 0, _ => exact pth_ok [true, false, true, true, true, true, false, true, true, true, true] hgv
  | 1, _ => exact pth_ok [true, false, true, true, true, true, true, false, false, false] hgv
  | 2, _ => exact pth_ok [true, false, true, true, true, true, true, false, false, true] hgv
  | n + 3, h => exact absurd h (by omega)
set_option maxRecDepth 20000 in
theorem ss_el7 {s : State} {b : Nat} (hgv : (Jvm.Cond.and given_1 narrow_1).before #[Value.ref b] s = true) : ∀ j : Nat, j < 4 → (Cond.eq (.elem (.field (stm_ 7) "java/lang/String" "value" "[B") (.int (Int32.ofNat j))) (.int ((strB.getD 7 []).getD j 0))).before #[Value.ref b] s = true := by
  intro j hj
  match j, hj with
  | 0, _ => exact pth_ok [true, true, false, false, false, false, false, false, true, true] hgv
  | 1, _ => exact pth_ok [true, true, false, false, false, false, false, true, false, false] hgv
  | 2, _ => exact pth_ok [true, true, false, false, false, false, false, true, false, true] hgv
  | 3, _ => exact pth_ok [true, true, false, false, false, false, false, true, true, false] hgv
  | n + 4, h => exact absurd h (by omega)
set_option maxRecDepth 20000 in
theorem ss_el8 {s : State} {b : Nat} (hgv : (Jvm.Cond.and given_1 narrow_1).before #[Value.ref b] s = true) : ∀ j : Nat, j < 4 → (Cond.eq (.elem (.field (stm_ 8) "java/lang/String" "value" "[B") (.int (Int32.ofNat j))) (.int ((strB.getD 8 []).getD j 0))).before #[Value.ref b] s = true := by
  intro j hj
  match j, hj with
  | 0, _ => exact pth_ok [true, true, false, false, false, true, false, false, false, true] hgv
  | 1, _ => exact pth_ok [true, true, false, false, false, true, false, false, true, false] hgv
  | 2, _ => exact pth_ok [true, true, false, false, false, true, false, false, true, true] hgv
  | 3, _ => exact pth_ok [true, true, false, false, false, true, false, true, false, false] hgv
  | n + 4, h => exact absurd h (by omega)
set_option maxRecDepth 20000 in
theorem ss_el9 {s : State} {b : Nat} (hgv : (Jvm.Cond.and given_1 narrow_1).before #[Value.ref b] s = true) : ∀ j : Nat, j < 4 → (Cond.eq (.elem (.field (stm_ 9) "java/lang/String" "value" "[B") (.int (Int32.ofNat j))) (.int ((strB.getD 9 []).getD j 0))).before #[Value.ref b] s = true := by
  intro j hj
  match j, hj with
  | 0, _ => exact pth_ok [true, true, false, false, false, true, true, true, true, true, true] hgv
  | 1, _ => exact pth_ok [true, true, false, false, true, false, false, false, false, false] hgv
  | 2, _ => exact pth_ok [true, true, false, false, true, false, false, false, false, true] hgv
  | 3, _ => exact pth_ok [true, true, false, false, true, false, false, false, true, false] hgv
  | n + 4, h => exact absurd h (by omega)
set_option maxRecDepth 20000 in
theorem ss_el10 {s : State} {b : Nat} (hgv : (Jvm.Cond.and given_1 narrow_1).before #[Value.ref b] s = true) : ∀ j : Nat, j < 3 → (Cond.eq (.elem (.field (stm_ 10) "java/lang/String" "value" "[B") (.int (Int32.ofNat j))) (.int ((strB.getD 10 []).getD j 0))).before #[Value.ref b] s = true := by
  intro j hj
  match j, hj with
  | 0, _ => exact pth_ok [true, true, false, false, true, false, true, true, true, true, true] hgv
  | 1, _ => exact pth_ok [true, true, false, false, true, true, false, false, false, false] hgv
  | 2, _ => exact pth_ok [true, true, false, false, true, true, false, false, false, true] hgv
  | n + 3, h => exact absurd h (by omega)
set_option maxRecDepth 20000 in
theorem ss_el11 {s : State} {b : Nat} (hgv : (Jvm.Cond.and given_1 narrow_1).before #[Value.ref b] s = true) : ∀ j : Nat, j < 4 → (Cond.eq (.elem (.field (stm_ 11) "java/lang/String" "value" "[B") (.int (Int32.ofNat j))) (.int ((strB.getD 11 []).getD j 0))).before #[Value.ref b] s = true := by
  intro j hj
  match j, hj with
  | 0, _ => exact pth_ok [true, true, false, false, true, true, true, true, true, true, false] hgv
  | 1, _ => exact pth_ok [true, true, false, false, true, true, true, true, true, true, true] hgv
  | 2, _ => exact pth_ok [true, true, false, true, false, false, false, false, false, false] hgv
  | 3, _ => exact pth_ok [true, true, false, true, false, false, false, false, false, true] hgv
  | n + 4, h => exact absurd h (by omega)
set_option maxRecDepth 20000 in
theorem ss_el12 {s : State} {b : Nat} (hgv : (Jvm.Cond.and given_1 narrow_1).before #[Value.ref b] s = true) : ∀ j : Nat, j < 5 → (Cond.eq (.elem (.field (stm_ 12) "java/lang/String" "value" "[B") (.int (Int32.ofNat j))) (.int ((strB.getD 12 []).getD j 0))).before #[Value.ref b] s = true := by
  intro j hj
  match j, hj with
  | 0, _ => exact pth_ok [true, true, false, true, false, true, false, false, false, false] hgv
  | 1, _ => exact pth_ok [true, true, false, true, false, true, false, false, false, true] hgv
  | 2, _ => exact pth_ok [true, true, false, true, false, true, false, false, true, false] hgv
  | 3, _ => exact pth_ok [true, true, false, true, false, true, false, false, true, true] hgv
  | 4, _ => exact pth_ok [true, true, false, true, false, true, false, true, false, false] hgv
  | n + 5, h => exact absurd h (by omega)
set_option maxRecDepth 20000 in
theorem ss_el13 {s : State} {b : Nat} (hgv : (Jvm.Cond.and given_1 narrow_1).before #[Value.ref b] s = true) : ∀ j : Nat, j < 6 → (Cond.eq (.elem (.field (stm_ 13) "java/lang/String" "value" "[B") (.int (Int32.ofNat j))) (.int ((strB.getD 13 []).getD j 0))).before #[Value.ref b] s = true := by
  intro j hj
  match j, hj with
  | 0, _ => exact pth_ok [true, true, false, true, true, false, false, false, true, true] hgv
  | 1, _ => exact pth_ok [true, true, false, true, true, false, false, true, false, false] hgv
  | 2, _ => exact pth_ok [true, true, false, true, true, false, false, true, false, true] hgv
  | 3, _ => exact pth_ok [true, true, false, true, true, false, false, true, true, false] hgv
  | 4, _ => exact pth_ok [true, true, false, true, true, false, false, true, true, true] hgv
  | 5, _ => exact pth_ok [true, true, false, true, true, false, true, false, false, false] hgv
  | n + 6, h => exact absurd h (by omega)
set_option maxRecDepth 20000 in
theorem ss_el14 {s : State} {b : Nat} (hgv : (Jvm.Cond.and given_1 narrow_1).before #[Value.ref b] s = true) : ∀ j : Nat, j < 4 → (Cond.eq (.elem (.field (stm_ 14) "java/lang/String" "value" "[B") (.int (Int32.ofNat j))) (.int ((strB.getD 14 []).getD j 0))).before #[Value.ref b] s = true := by
  intro j hj
  match j, hj with
  | 0, _ => exact pth_ok [true, true, false, true, true, true, true, false, false, false] hgv
  | 1, _ => exact pth_ok [true, true, false, true, true, true, true, false, false, true] hgv
  | 2, _ => exact pth_ok [true, true, false, true, true, true, true, false, true, false] hgv
  | 3, _ => exact pth_ok [true, true, false, true, true, true, true, false, true, true] hgv
  | n + 4, h => exact absurd h (by omega)
set_option maxRecDepth 20000 in
theorem ss_el15 {s : State} {b : Nat} (hgv : (Jvm.Cond.and given_1 narrow_1).before #[Value.ref b] s = true) : ∀ j : Nat, j < 3 → (Cond.eq (.elem (.field (stm_ 15) "java/lang/String" "value" "[B") (.int (Int32.ofNat j))) (.int ((strB.getD 15 []).getD j 0))).before #[Value.ref b] s = true := by
  intro j hj
  match j, hj with
  | 0, _ => exact pth_ok [true, true, true, false, false, false, true, true, false, true] hgv
  | 1, _ => exact pth_ok [true, true, true, false, false, false, true, true, true, false] hgv
  | 2, _ => exact pth_ok [true, true, true, false, false, false, true, true, true, true, false] hgv
  | n + 3, h => exact absurd h (by omega)
set_option maxRecDepth 20000 in
theorem ss_el16 {s : State} {b : Nat} (hgv : (Jvm.Cond.and given_1 narrow_1).before #[Value.ref b] s = true) : ∀ j : Nat, j < 4 → (Cond.eq (.elem (.field (stm_ 16) "java/lang/String" "value" "[B") (.int (Int32.ofNat j))) (.int ((strB.getD 16 []).getD j 0))).before #[Value.ref b] s = true := by
  intro j hj
  match j, hj with
  | 0, _ => exact pth_ok [true, true, true, false, true, false, false, false, false, false] hgv
  | 1, _ => exact pth_ok [true, true, true, false, true, false, false, false, false, true] hgv
  | 2, _ => exact pth_ok [true, true, true, false, true, false, false, false, true, false] hgv
  | 3, _ => exact pth_ok [true, true, true, false, true, false, false, false, true, true] hgv
  | n + 4, h => exact absurd h (by omega)
set_option maxRecDepth 20000 in
theorem ss_el17 {s : State} {b : Nat} (hgv : (Jvm.Cond.and given_1 narrow_1).before #[Value.ref b] s = true) : ∀ j : Nat, j < 5 → (Cond.eq (.elem (.field (stm_ 17) "java/lang/String" "value" "[B") (.int (Int32.ofNat j))) (.int ((strB.getD 17 []).getD j 0))).before #[Value.ref b] s = true := by
  intro j hj
  match j, hj with
  | 0, _ => exact pth_ok [true, true, true, false, true, true, false, true, true, true, false] hgv
  | 1, _ => exact pth_ok [true, true, true, false, true, true, false, true, true, true, true] hgv
  | 2, _ => exact pth_ok [true, true, true, false, true, true, true, false, false, false] hgv
  | 3, _ => exact pth_ok [true, true, true, false, true, true, true, false, false, true] hgv
  | 4, _ => exact pth_ok [true, true, true, false, true, true, true, false, true, false] hgv
  | n + 5, h => exact absurd h (by omega)
set_option maxRecDepth 20000 in
theorem ss_el18 {s : State} {b : Nat} (hgv : (Jvm.Cond.and given_1 narrow_1).before #[Value.ref b] s = true) : ∀ j : Nat, j < 6 → (Cond.eq (.elem (.field (stm_ 18) "java/lang/String" "value" "[B") (.int (Int32.ofNat j))) (.int ((strB.getD 18 []).getD j 0))).before #[Value.ref b] s = true := by
  intro j hj
  match j, hj with
  | 0, _ => exact pth_ok [true, true, true, true, false, false, true, true, true, true, false] hgv
  | 1, _ => exact pth_ok [true, true, true, true, false, false, true, true, true, true, true] hgv
  | 2, _ => exact pth_ok [true, true, true, true, false, true, false, false, false, false] hgv
  | 3, _ => exact pth_ok [true, true, true, true, false, true, false, false, false, true] hgv
  | 4, _ => exact pth_ok [true, true, true, true, false, true, false, false, true, false] hgv
  | 5, _ => exact pth_ok [true, true, true, true, false, true, false, false, true, true] hgv
  | n + 6, h => exact absurd h (by omega)
set_option maxRecDepth 20000 in
theorem ss_el19 {s : State} {b : Nat} (hgv : (Jvm.Cond.and given_1 narrow_1).before #[Value.ref b] s = true) : ∀ j : Nat, j < 6 → (Cond.eq (.elem (.field (stm_ 19) "java/lang/String" "value" "[B") (.int (Int32.ofNat j))) (.int ((strB.getD 19 []).getD j 0))).before #[Value.ref b] s = true := by
  intro j hj
  match j, hj with
  | 0, _ => exact pth_ok [true, true, true, true, true, false, true, false, false, false] hgv
  | 1, _ => exact pth_ok [true, true, true, true, true, false, true, false, false, true] hgv
  | 2, _ => exact pth_ok [true, true, true, true, true, false, true, false, true, false] hgv
  | 3, _ => exact pth_ok [true, true, true, true, true, false, true, false, true, true] hgv
  | 4, _ => exact pth_ok [true, true, true, true, true, false, true, true, false, false] hgv
  | 5, _ => exact pth_ok [true, true, true, true, true, false, true, true, false, true] hgv
  | n + 6, h => exact absurd h (by omega)
theorem ss_el {s : State} {b : Nat} (hgv : (Jvm.Cond.and given_1 narrow_1).before #[Value.ref b] s = true) : ∀ i : Nat, i < 20 → ∀ j : Nat, j < strL.getD i 0 → (Cond.eq (.elem (.field (stm_ i) "java/lang/String" "value" "[B") (.int (Int32.ofNat j))) (.int ((strB.getD i []).getD j 0))).before #[Value.ref b] s = true := by
  intro i hi
  match i, hi with
  | 0, _ => exact ss_el0 hgv
  | 1, _ => exact ss_el1 hgv
  | 2, _ => exact ss_el2 hgv
  | 3, _ => exact ss_el3 hgv
  | 4, _ => exact ss_el4 hgv
  | 5, _ => exact ss_el5 hgv
  | 6, _ => exact ss_el6 hgv
  | 7, _ => exact ss_el7 hgv
  | 8, _ => exact ss_el8 hgv
  | 9, _ => exact ss_el9 hgv
  | 10, _ => exact ss_el10 hgv
  | 11, _ => exact ss_el11 hgv
  | 12, _ => exact ss_el12 hgv
  | 13, _ => exact ss_el13 hgv
  | 14, _ => exact ss_el14 hgv
  | 15, _ => exact ss_el15 hgv
  | 16, _ => exact ss_el16 hgv
  | 17, _ => exact ss_el17 hgv
  | 18, _ => exact ss_el18 hgv
  | 19, _ => exact ss_el19 hgv
  | n + 20, h => exact absurd h (by omega)
set_option maxRecDepth 20000 in
theorem ss_ne0 {s : State} {b : Nat} (hgv : (Jvm.Cond.and given_1 narrow_1).before #[Value.ref b] s = true) : ∀ j : Nat, j < 20 → 0 ≠ j → (Cond.not (Cond.eq (stm_ 0) (stm_ j))).before #[Value.ref b] s = true ∨ (Cond.not (Cond.eq (stm_ j) (stm_ 0))).before #[Value.ref b] s = true := by
  intro j hj hn
  match j, hj, hn with
  | 0, _, hn => exact absurd rfl hn
  | 1, _, _ => exact Or.inl (pth_ok [true, false, true, true, false, false, true, false, true, true] hgv)
  | 2, _, _ => exact Or.inl (pth_ok [true, false, true, true, false, true, false, false, true, false] hgv)
  | 3, _, _ => exact Or.inl (pth_ok [true, false, true, true, false, true, true, false, false, true] hgv)
  | 4, _, _ => exact Or.inl (pth_ok [true, false, true, true, true, false, false, true, false, false] hgv)
  | 5, _, _ => exact Or.inl (pth_ok [true, false, true, true, true, false, true, true, true, true, true] hgv)
  | 6, _, _ => exact Or.inl (pth_ok [true, false, true, true, true, true, true, false, true, false] hgv)
  | 7, _, _ => exact Or.inl (pth_ok [true, true, false, false, false, false, false, true, true, true] hgv)
  | 8, _, _ => exact Or.inl (pth_ok [true, true, false, false, false, true, false, true, false, true] hgv)
  | 9, _, _ => exact Or.inl (pth_ok [true, true, false, false, true, false, false, false, true, true] hgv)
  | 10, _, _ => exact Or.inl (pth_ok [true, true, false, false, true, true, false, false, true, false] hgv)
  | 11, _, _ => exact Or.inl (pth_ok [true, true, false, true, false, false, false, false, true, false] hgv)
  | 12, _, _ => exact Or.inl (pth_ok [true, true, false, true, false, true, false, true, false, true] hgv)
  | 13, _, _ => exact Or.inl (pth_ok [true, true, false, true, true, false, true, false, false, true] hgv)
  | 14, _, _ => exact Or.inl (pth_ok [true, true, false, true, true, true, true, true, false, false] hgv)
  | 15, _, _ => exact Or.inl (pth_ok [true, true, true, false, false, false, true, true, true, true, true] hgv)
  | 16, _, _ => exact Or.inl (pth_ok [true, true, true, false, true, false, false, true, false, false] hgv)
  | 17, _, _ => exact Or.inl (pth_ok [true, true, true, false, true, true, true, false, true, true] hgv)
  | 18, _, _ => exact Or.inl (pth_ok [true, true, true, true, false, true, false, true, false, false] hgv)
  | 19, _, _ => exact Or.inl (pth_ok [true, true, true, true, true, false, true, true, true, false] hgv)
  | n + 20, h, _ => exact absurd h (by omega)
set_option maxRecDepth 20000 in
theorem ss_ne1 {s : State} {b : Nat} (hgv : (Jvm.Cond.and given_1 narrow_1).before #[Value.ref b] s = true) : ∀ j : Nat, j < 20 → 1 ≠ j → (Cond.not (Cond.eq (stm_ 1) (stm_ j))).before #[Value.ref b] s = true ∨ (Cond.not (Cond.eq (stm_ j) (stm_ 1))).before #[Value.ref b] s = true := by
  intro j hj hn
  match j, hj, hn with
  | 0, _, _ => exact Or.inr (pth_ok [true, false, true, true, false, false, true, false, true, true] hgv)
  | 1, _, hn => exact absurd rfl hn
  | 2, _, _ => exact Or.inl (pth_ok [true, false, true, true, false, true, false, false, true, true] hgv)
  | 3, _, _ => exact Or.inl (pth_ok [true, false, true, true, false, true, true, false, true, false] hgv)
  | 4, _, _ => exact Or.inl (pth_ok [true, false, true, true, true, false, false, true, false, true] hgv)
  | 5, _, _ => exact Or.inl (pth_ok [true, false, true, true, true, true, false, false, false, false] hgv)
  | 6, _, _ => exact Or.inl (pth_ok [true, false, true, true, true, true, true, false, true, true] hgv)
  | 7, _, _ => exact Or.inl (pth_ok [true, true, false, false, false, false, true, false, false, false] hgv)
  | 8, _, _ => exact Or.inl (pth_ok [true, true, false, false, false, true, false, true, true, false] hgv)
  | 9, _, _ => exact Or.inl (pth_ok [true, true, false, false, true, false, false, true, false, false] hgv)
  | 10, _, _ => exact Or.inl (pth_ok [true, true, false, false, true, true, false, false, true, true] hgv)
  | 11, _, _ => exact Or.inl (pth_ok [true, true, false, true, false, false, false, false, true, true] hgv)
  | 12, _, _ => exact Or.inl (pth_ok [true, true, false, true, false, true, false, true, true, false] hgv)
  | 13, _, _ => exact Or.inl (pth_ok [true, true, false, true, true, false, true, false, true, false] hgv)
  | 14, _, _ => exact Or.inl (pth_ok [true, true, false, true, true, true, true, true, false, true] hgv)
  | 15, _, _ => exact Or.inl (pth_ok [true, true, true, false, false, true, false, false, false, false] hgv)
  | 16, _, _ => exact Or.inl (pth_ok [true, true, true, false, true, false, false, true, false, true] hgv)
  | 17, _, _ => exact Or.inl (pth_ok [true, true, true, false, true, true, true, true, false, false] hgv)
  | 18, _, _ => exact Or.inl (pth_ok [true, true, true, true, false, true, false, true, false, true] hgv)
  | 19, _, _ => exact Or.inl (pth_ok [true, true, true, true, true, false, true, true, true, true, false] hgv)
  | n + 20, h, _ => exact absurd h (by omega)
set_option maxRecDepth 20000 in
theorem ss_ne2 {s : State} {b : Nat} (hgv : (Jvm.Cond.and given_1 narrow_1).before #[Value.ref b] s = true) : ∀ j : Nat, j < 20 → 2 ≠ j → (Cond.not (Cond.eq (stm_ 2) (stm_ j))).before #[Value.ref b] s = true ∨ (Cond.not (Cond.eq (stm_ j) (stm_ 2))).before #[Value.ref b] s = true := by
  intro j hj hn
  match j, hj, hn with
  | 0, _, _ => exact Or.inr (pth_ok [true, false, true, true, false, true, false, false, true, false] hgv)
  | 1, _, _ => exact Or.inr (pth_ok [true, false, true, true, false, true, false, false, true, true] hgv)
  | 2, _, hn => exact absurd rfl hn
  | 3, _, _ => exact Or.inl (pth_ok [true, false, true, true, false, true, true, false, true, true] hgv)
  | 4, _, _ => exact Or.inl (pth_ok [true, false, true, true, true, false, false, true, true, false] hgv)
  | 5, _, _ => exact Or.inl (pth_ok [true, false, true, true, true, true, false, false, false, true] hgv)
  | 6, _, _ => exact Or.inl (pth_ok [true, false, true, true, true, true, true, true, false, false] hgv)
  | 7, _, _ => exact Or.inl (pth_ok [true, true, false, false, false, false, true, false, false, true] hgv)
  | 8, _, _ => exact Or.inl (pth_ok [true, true, false, false, false, true, false, true, true, true, false] hgv)
  | 9, _, _ => exact Or.inl (pth_ok [true, true, false, false, true, false, false, true, false, true] hgv)
  | 10, _, _ => exact Or.inl (pth_ok [true, true, false, false, true, true, false, true, false, false] hgv)
  | 11, _, _ => exact Or.inl (pth_ok [true, true, false, true, false, false, false, true, false, false] hgv)
  | 12, _, _ => exact Or.inl (pth_ok [true, true, false, true, false, true, false, true, true, true, false] hgv)
  | 13, _, _ => exact Or.inl (pth_ok [true, true, false, true, true, false, true, false, true, true] hgv)
  | 14, _, _ => exact Or.inl (pth_ok [true, true, false, true, true, true, true, true, true, false] hgv)
  | 15, _, _ => exact Or.inl (pth_ok [true, true, true, false, false, true, false, false, false, true] hgv)
  | 16, _, _ => exact Or.inl (pth_ok [true, true, true, false, true, false, false, true, true, false] hgv)
  | 17, _, _ => exact Or.inl (pth_ok [true, true, true, false, true, true, true, true, false, true] hgv)
  | 18, _, _ => exact Or.inl (pth_ok [true, true, true, true, false, true, false, true, true, false] hgv)
  | 19, _, _ => exact Or.inl (pth_ok [true, true, true, true, true, false, true, true, true, true, true] hgv)
  | n + 20, h, _ => exact absurd h (by omega)
set_option maxRecDepth 20000 in
theorem ss_ne3 {s : State} {b : Nat} (hgv : (Jvm.Cond.and given_1 narrow_1).before #[Value.ref b] s = true) : ∀ j : Nat, j < 20 → 3 ≠ j → (Cond.not (Cond.eq (stm_ 3) (stm_ j))).before #[Value.ref b] s = true ∨ (Cond.not (Cond.eq (stm_ j) (stm_ 3))).before #[Value.ref b] s = true := by
  intro j hj hn
  match j, hj, hn with
  | 0, _, _ => exact Or.inr (pth_ok [true, false, true, true, false, true, true, false, false, true] hgv)
  | 1, _, _ => exact Or.inr (pth_ok [true, false, true, true, false, true, true, false, true, false] hgv)
  | 2, _, _ => exact Or.inr (pth_ok [true, false, true, true, false, true, true, false, true, true] hgv)
  | 3, _, hn => exact absurd rfl hn
  | 4, _, _ => exact Or.inl (pth_ok [true, false, true, true, true, false, false, true, true, true] hgv)
  | 5, _, _ => exact Or.inl (pth_ok [true, false, true, true, true, true, false, false, true, false] hgv)
  | 6, _, _ => exact Or.inl (pth_ok [true, false, true, true, true, true, true, true, false, true] hgv)
  | 7, _, _ => exact Or.inl (pth_ok [true, true, false, false, false, false, true, false, true, false] hgv)
  | 8, _, _ => exact Or.inl (pth_ok [true, true, false, false, false, true, false, true, true, true, true] hgv)
  | 9, _, _ => exact Or.inl (pth_ok [true, true, false, false, true, false, false, true, true, false] hgv)
  | 10, _, _ => exact Or.inl (pth_ok [true, true, false, false, true, true, false, true, false, true] hgv)
  | 11, _, _ => exact Or.inl (pth_ok [true, true, false, true, false, false, false, true, false, true] hgv)
  | 12, _, _ => exact Or.inl (pth_ok [true, true, false, true, false, true, false, true, true, true, true] hgv)
  | 13, _, _ => exact Or.inl (pth_ok [true, true, false, true, true, false, true, true, false, false] hgv)
  | 14, _, _ => exact Or.inl (pth_ok [true, true, false, true, true, true, true, true, true, true, false] hgv)
  | 15, _, _ => exact Or.inl (pth_ok [true, true, true, false, false, true, false, false, true, false] hgv)
  | 16, _, _ => exact Or.inl (pth_ok [true, true, true, false, true, false, false, true, true, true] hgv)
  | 17, _, _ => exact Or.inl (pth_ok [true, true, true, false, true, true, true, true, true, false] hgv)
  | 18, _, _ => exact Or.inl (pth_ok [true, true, true, true, false, true, false, true, true, true, false] hgv)
  | 19, _, _ => exact Or.inl (pth_ok [true, true, true, true, true, true, false, false, false, false] hgv)
  | n + 20, h, _ => exact absurd h (by omega)
set_option maxRecDepth 20000 in
theorem ss_ne4 {s : State} {b : Nat} (hgv : (Jvm.Cond.and given_1 narrow_1).before #[Value.ref b] s = true) : ∀ j : Nat, j < 20 → 4 ≠ j → (Cond.not (Cond.eq (stm_ 4) (stm_ j))).before #[Value.ref b] s = true ∨ (Cond.not (Cond.eq (stm_ j) (stm_ 4))).before #[Value.ref b] s = true := by
  intro j hj hn
  match j, hj, hn with
  | 0, _, _ => exact Or.inr (pth_ok [true, false, true, true, true, false, false, true, false, false] hgv)
  | 1, _, _ => exact Or.inr (pth_ok [true, false, true, true, true, false, false, true, false, true] hgv)
  | 2, _, _ => exact Or.inr (pth_ok [true, false, true, true, true, false, false, true, true, false] hgv)
  | 3, _, _ => exact Or.inr (pth_ok [true, false, true, true, true, false, false, true, true, true] hgv)
  | 4, _, hn => exact absurd rfl hn
  | 5, _, _ => exact Or.inl (pth_ok [true, false, true, true, true, true, false, false, true, true] hgv)
  | 6, _, _ => exact Or.inl (pth_ok [true, false, true, true, true, true, true, true, true, false] hgv)
  | 7, _, _ => exact Or.inl (pth_ok [true, true, false, false, false, false, true, false, true, true] hgv)
  | 8, _, _ => exact Or.inl (pth_ok [true, true, false, false, false, true, true, false, false, false] hgv)
  | 9, _, _ => exact Or.inl (pth_ok [true, true, false, false, true, false, false, true, true, true] hgv)
  | 10, _, _ => exact Or.inl (pth_ok [true, true, false, false, true, true, false, true, true, false] hgv)
  | 11, _, _ => exact Or.inl (pth_ok [true, true, false, true, false, false, false, true, true, false] hgv)
  | 12, _, _ => exact Or.inl (pth_ok [true, true, false, true, false, true, true, false, false, false] hgv)
  | 13, _, _ => exact Or.inl (pth_ok [true, true, false, true, true, false, true, true, false, true] hgv)
  | 14, _, _ => exact Or.inl (pth_ok [true, true, false, true, true, true, true, true, true, true, true] hgv)
  | 15, _, _ => exact Or.inl (pth_ok [true, true, true, false, false, true, false, false, true, true] hgv)
  | 16, _, _ => exact Or.inl (pth_ok [true, true, true, false, true, false, true, false, false, false] hgv)
  | 17, _, _ => exact Or.inl (pth_ok [true, true, true, false, true, true, true, true, true, true, false] hgv)
  | 18, _, _ => exact Or.inl (pth_ok [true, true, true, true, false, true, false, true, true, true, true] hgv)
  | 19, _, _ => exact Or.inl (pth_ok [true, true, true, true, true, true, false, false, false, true] hgv)
  | n + 20, h, _ => exact absurd h (by omega)
set_option maxRecDepth 20000 in
theorem ss_ne5 {s : State} {b : Nat} (hgv : (Jvm.Cond.and given_1 narrow_1).before #[Value.ref b] s = true) : ∀ j : Nat, j < 20 → 5 ≠ j → (Cond.not (Cond.eq (stm_ 5) (stm_ j))).before #[Value.ref b] s = true ∨ (Cond.not (Cond.eq (stm_ j) (stm_ 5))).before #[Value.ref b] s = true := by
  intro j hj hn
  match j, hj, hn with
  | 0, _, _ => exact Or.inr (pth_ok [true, false, true, true, true, false, true, true, true, true, true] hgv)
  | 1, _, _ => exact Or.inr (pth_ok [true, false, true, true, true, true, false, false, false, false] hgv)
  | 2, _, _ => exact Or.inr (pth_ok [true, false, true, true, true, true, false, false, false, true] hgv)
  | 3, _, _ => exact Or.inr (pth_ok [true, false, true, true, true, true, false, false, true, false] hgv)
  | 4, _, _ => exact Or.inr (pth_ok [true, false, true, true, true, true, false, false, true, true] hgv)
  | 5, _, hn => exact absurd rfl hn
  | 6, _, _ => exact Or.inl (pth_ok [true, false, true, true, true, true, true, true, true, true, false] hgv)
  | 7, _, _ => exact Or.inl (pth_ok [true, true, false, false, false, false, true, true, false, false] hgv)
  | 8, _, _ => exact Or.inl (pth_ok [true, true, false, false, false, true, true, false, false, true] hgv)
  | 9, _, _ => exact Or.inl (pth_ok [true, true, false, false, true, false, true, false, false, false] hgv)
  | 10, _, _ => exact Or.inl (pth_ok [true, true, false, false, true, true, false, true, true, true, false] hgv)
  | 11, _, _ => exact Or.inl (pth_ok [true, true, false, true, false, false, false, true, true, true] hgv)
  | 12, _, _ => exact Or.inl (pth_ok [true, true, false, true, false, true, true, false, false, true] hgv)
  | 13, _, _ => exact Or.inl (pth_ok [true, true, false, true, true, false, true, true, true, false] hgv)
  | 14, _, _ => exact Or.inl (pth_ok [true, true, true, false, false, false, false, false, false, false] hgv)
  | 15, _, _ => exact Or.inl (pth_ok [true, true, true, false, false, true, false, true, false, false] hgv)
  | 16, _, _ => exact Or.inl (pth_ok [true, true, true, false, true, false, true, false, false, true] hgv)
  | 17, _, _ => exact Or.inl (pth_ok [true, true, true, false, true, true, true, true, true, true, true] hgv)
  | 18, _, _ => exact Or.inl (pth_ok [true, true, true, true, false, true, true, false, false, false] hgv)
  | 19, _, _ => exact Or.inl (pth_ok [true, true, true, true, true, true, false, false, true, false] hgv)
  | n + 20, h, _ => exact absurd h (by omega)
set_option maxRecDepth 20000 in
theorem ss_ne6 {s : State} {b : Nat} (hgv : (Jvm.Cond.and given_1 narrow_1).before #[Value.ref b] s = true) : ∀ j : Nat, j < 20 → 6 ≠ j → (Cond.not (Cond.eq (stm_ 6) (stm_ j))).before #[Value.ref b] s = true ∨ (Cond.not (Cond.eq (stm_ j) (stm_ 6))).before #[Value.ref b] s = true := by
  intro j hj hn
  match j, hj, hn with
  | 0, _, _ => exact Or.inr (pth_ok [true, false, true, true, true, true, true, false, true, false] hgv)
  | 1, _, _ => exact Or.inr (pth_ok [true, false, true, true, true, true, true, false, true, true] hgv)
  | 2, _, _ => exact Or.inr (pth_ok [true, false, true, true, true, true, true, true, false, false] hgv)
  | 3, _, _ => exact Or.inr (pth_ok [true, false, true, true, true, true, true, true, false, true] hgv)
  | 4, _, _ => exact Or.inr (pth_ok [true, false, true, true, true, true, true, true, true, false] hgv)
  | 5, _, _ => exact Or.inr (pth_ok [true, false, true, true, true, true, true, true, true, true, false] hgv)
  | 6, _, hn => exact absurd rfl hn
  | 7, _, _ => exact Or.inl (pth_ok [true, true, false, false, false, false, true, true, false, true] hgv)
  | 8, _, _ => exact Or.inl (pth_ok [true, true, false, false, false, true, true, false, true, false] hgv)
  | 9, _, _ => exact Or.inl (pth_ok [true, true, false, false, true, false, true, false, false, true] hgv)
  | 10, _, _ => exact Or.inl (pth_ok [true, true, false, false, true, true, false, true, true, true, true] hgv)
  | 11, _, _ => exact Or.inl (pth_ok [true, true, false, true, false, false, true, false, false, false] hgv)
  | 12, _, _ => exact Or.inl (pth_ok [true, true, false, true, false, true, true, false, true, false] hgv)
  | 13, _, _ => exact Or.inl (pth_ok [true, true, false, true, true, false, true, true, true, true, false] hgv)
  | 14, _, _ => exact Or.inl (pth_ok [true, true, true, false, false, false, false, false, false, true] hgv)
  | 15, _, _ => exact Or.inl (pth_ok [true, true, true, false, false, true, false, true, false, true] hgv)
  | 16, _, _ => exact Or.inl (pth_ok [true, true, true, false, true, false, true, false, true, false] hgv)
  | 17, _, _ => exact Or.inl (pth_ok [true, true, true, true, false, false, false, false, false, false] hgv)
  | 18, _, _ => exact Or.inl (pth_ok [true, true, true, true, false, true, true, false, false, true] hgv)
  | 19, _, _ => exact Or.inl (pth_ok [true, true, true, true, true, true, false, false, true, true] hgv)
  | n + 20, h, _ => exact absurd h (by omega)
set_option maxRecDepth 20000 in
theorem ss_ne7 {s : State} {b : Nat} (hgv : (Jvm.Cond.and given_1 narrow_1).before #[Value.ref b] s = true) : ∀ j : Nat, j < 20 → 7 ≠ j → (Cond.not (Cond.eq (stm_ 7) (stm_ j))).before #[Value.ref b] s = true ∨ (Cond.not (Cond.eq (stm_ j) (stm_ 7))).before #[Value.ref b] s = true := by
  intro j hj hn
  match j, hj, hn with
  | 0, _, _ => exact Or.inr (pth_ok [true, true, false, false, false, false, false, true, true, true] hgv)
  | 1, _, _ => exact Or.inr (pth_ok [true, true, false, false, false, false, true, false, false, false] hgv)
  | 2, _, _ => exact Or.inr (pth_ok [true, true, false, false, false, false, true, false, false, true] hgv)
  | 3, _, _ => exact Or.inr (pth_ok [true, true, false, false, false, false, true, false, true, false] hgv)
  | 4, _, _ => exact Or.inr (pth_ok [true, true, false, false, false, false, true, false, true, true] hgv)
  | 5, _, _ => exact Or.inr (pth_ok [true, true, false, false, false, false, true, true, false, false] hgv)
  | 6, _, _ => exact Or.inr (pth_ok [true, true, false, false, false, false, true, true, false, true] hgv)
  | 7, _, hn => exact absurd rfl hn
  | 8, _, _ => exact Or.inl (pth_ok [true, true, false, false, false, true, true, false, true, true] hgv)
  | 9, _, _ => exact Or.inl (pth_ok [true, true, false, false, true, false, true, false, true, false] hgv)
  | 10, _, _ => exact Or.inl (pth_ok [true, true, false, false, true, true, true, false, false, false] hgv)
  | 11, _, _ => exact Or.inl (pth_ok [true, true, false, true, false, false, true, false, false, true] hgv)
  | 12, _, _ => exact Or.inl (pth_ok [true, true, false, true, false, true, true, false, true, true] hgv)
  | 13, _, _ => exact Or.inl (pth_ok [true, true, false, true, true, false, true, true, true, true, true] hgv)
  | 14, _, _ => exact Or.inl (pth_ok [true, true, true, false, false, false, false, false, true, false] hgv)
  | 15, _, _ => exact Or.inl (pth_ok [true, true, true, false, false, true, false, true, true, false] hgv)
  | 16, _, _ => exact Or.inl (pth_ok [true, true, true, false, true, false, true, false, true, true] hgv)
  | 17, _, _ => exact Or.inl (pth_ok [true, true, true, true, false, false, false, false, false, true] hgv)
  | 18, _, _ => exact Or.inl (pth_ok [true, true, true, true, false, true, true, false, true, false] hgv)
  | 19, _, _ => exact Or.inl (pth_ok [true, true, true, true, true, true, false, true, false, false] hgv)
  | n + 20, h, _ => exact absurd h (by omega)
set_option maxRecDepth 20000 in
theorem ss_ne8 {s : State} {b : Nat} (hgv : (Jvm.Cond.and given_1 narrow_1).before #[Value.ref b] s = true) : ∀ j : Nat, j < 20 → 8 ≠ j → (Cond.not (Cond.eq (stm_ 8) (stm_ j))).before #[Value.ref b] s = true ∨ (Cond.not (Cond.eq (stm_ j) (stm_ 8))).before #[Value.ref b] s = true := by
  intro j hj hn
  match j, hj, hn with
  | 0, _, _ => exact Or.inr (pth_ok [true, true, false, false, false, true, false, true, false, true] hgv)
  | 1, _, _ => exact Or.inr (pth_ok [true, true, false, false, false, true, false, true, true, false] hgv)
  | 2, _, _ => exact Or.inr (pth_ok [true, true, false, false, false, true, false, true, true, true, false] hgv)
  | 3, _, _ => exact Or.inr (pth_ok [true, true, false, false, false, true, false, true, true, true, true] hgv)
  | 4, _, _ => exact Or.inr (pth_ok [true, true, false, false, false, true, true, false, false, false] hgv)
  | 5, _, _ => exact Or.inr (pth_ok [true, true, false, false, false, true, true, false, false, true] hgv)
  | 6, _, _ => exact Or.inr (pth_ok [true, true, false, false, false, true, true, false, true, false] hgv)
  | 7, _, _ => exact Or.inr (pth_ok [true, true, false, false, false, true, true, false, true, true] hgv)
  | 8, _, hn => exact absurd rfl hn
  | 9, _, _ => exact Or.inl (pth_ok [true, true, false, false, true, false, true, false, true, true] hgv)
  | 10, _, _ => exact Or.inl (pth_ok [true, true, false, false, true, true, true, false, false, true] hgv)
  | 11, _, _ => exact Or.inl (pth_ok [true, true, false, true, false, false, true, false, true, false] hgv)
  | 12, _, _ => exact Or.inl (pth_ok [true, true, false, true, false, true, true, true, false, false] hgv)
  | 13, _, _ => exact Or.inl (pth_ok [true, true, false, true, true, true, false, false, false, false] hgv)
  | 14, _, _ => exact Or.inl (pth_ok [true, true, true, false, false, false, false, false, true, true] hgv)
  | 15, _, _ => exact Or.inl (pth_ok [true, true, true, false, false, true, false, true, true, true, false] hgv)
  | 16, _, _ => exact Or.inl (pth_ok [true, true, true, false, true, false, true, true, false, false] hgv)
  | 17, _, _ => exact Or.inl (pth_ok [true, true, true, true, false, false, false, false, true, false] hgv)
  | 18, _, _ => exact Or.inl (pth_ok [true, true, true, true, false, true, true, false, true, true] hgv)
  | 19, _, _ => exact Or.inl (pth_ok [true, true, true, true, true, true, false, true, false, true] hgv)
  | n + 20, h, _ => exact absurd h (by omega)
set_option maxRecDepth 20000 in
theorem ss_ne9 {s : State} {b : Nat} (hgv : (Jvm.Cond.and given_1 narrow_1).before #[Value.ref b] s = true) : ∀ j : Nat, j < 20 → 9 ≠ j → (Cond.not (Cond.eq (stm_ 9) (stm_ j))).before #[Value.ref b] s = true ∨ (Cond.not (Cond.eq (stm_ j) (stm_ 9))).before #[Value.ref b] s = true := by
  intro j hj hn
  match j, hj, hn with
  | 0, _, _ => exact Or.inr (pth_ok [true, true, false, false, true, false, false, false, true, true] hgv)
  | 1, _, _ => exact Or.inr (pth_ok [true, true, false, false, true, false, false, true, false, false] hgv)
  | 2, _, _ => exact Or.inr (pth_ok [true, true, false, false, true, false, false, true, false, true] hgv)
  | 3, _, _ => exact Or.inr (pth_ok [true, true, false, false, true, false, false, true, true, false] hgv)
  | 4, _, _ => exact Or.inr (pth_ok [true, true, false, false, true, false, false, true, true, true] hgv)
  | 5, _, _ => exact Or.inr (pth_ok [true, true, false, false, true, false, true, false, false, false] hgv)
  | 6, _, _ => exact Or.inr (pth_ok [true, true, false, false, true, false, true, false, false, true] hgv)
  | 7, _, _ => exact Or.inr (pth_ok [true, true, false, false, true, false, true, false, true, false] hgv)
  | 8, _, _ => exact Or.inr (pth_ok [true, true, false, false, true, false, true, false, true, true] hgv)
  | 9, _, hn => exact absurd rfl hn
  | 10, _, _ => exact Or.inl (pth_ok [true, true, false, false, true, true, true, false, true, false] hgv)
  | 11, _, _ => exact Or.inl (pth_ok [true, true, false, true, false, false, true, false, true, true] hgv)
  | 12, _, _ => exact Or.inl (pth_ok [true, true, false, true, false, true, true, true, false, true] hgv)
  | 13, _, _ => exact Or.inl (pth_ok [true, true, false, true, true, true, false, false, false, true] hgv)
  | 14, _, _ => exact Or.inl (pth_ok [true, true, true, false, false, false, false, true, false, false] hgv)
  | 15, _, _ => exact Or.inl (pth_ok [true, true, true, false, false, true, false, true, true, true, true] hgv)
  | 16, _, _ => exact Or.inl (pth_ok [true, true, true, false, true, false, true, true, false, true] hgv)
  | 17, _, _ => exact Or.inl (pth_ok [true, true, true, true, false, false, false, false, true, true] hgv)
  | 18, _, _ => exact Or.inl (pth_ok [true, true, true, true, false, true, true, true, false, false] hgv)
  | 19, _, _ => exact Or.inl (pth_ok [true, true, true, true, true, true, false, true, true, false] hgv)
  | n + 20, h, _ => exact absurd h (by omega)
set_option maxRecDepth 20000 in
theorem ss_ne10 {s : State} {b : Nat} (hgv : (Jvm.Cond.and given_1 narrow_1).before #[Value.ref b] s = true) : ∀ j : Nat, j < 20 → 10 ≠ j → (Cond.not (Cond.eq (stm_ 10) (stm_ j))).before #[Value.ref b] s = true ∨ (Cond.not (Cond.eq (stm_ j) (stm_ 10))).before #[Value.ref b] s = true := by
  intro j hj hn
  match j, hj, hn with
  | 0, _, _ => exact Or.inr (pth_ok [true, true, false, false, true, true, false, false, true, false] hgv)
  | 1, _, _ => exact Or.inr (pth_ok [true, true, false, false, true, true, false, false, true, true] hgv)
  | 2, _, _ => exact Or.inr (pth_ok [true, true, false, false, true, true, false, true, false, false] hgv)
  | 3, _, _ => exact Or.inr (pth_ok [true, true, false, false, true, true, false, true, false, true] hgv)
  | 4, _, _ => exact Or.inr (pth_ok [true, true, false, false, true, true, false, true, true, false] hgv)
  | 5, _, _ => exact Or.inr (pth_ok [true, true, false, false, true, true, false, true, true, true, false] hgv)
  | 6, _, _ => exact Or.inr (pth_ok [true, true, false, false, true, true, false, true, true, true, true] hgv)
  | 7, _, _ => exact Or.inr (pth_ok [true, true, false, false, true, true, true, false, false, false] hgv)
  | 8, _, _ => exact Or.inr (pth_ok [true, true, false, false, true, true, true, false, false, true] hgv)
  | 9, _, _ => exact Or.inr (pth_ok [true, true, false, false, true, true, true, false, true, false] hgv)
  | 10, _, hn => exact absurd rfl hn
  | 11, _, _ => exact Or.inl (pth_ok [true, true, false, true, false, false, true, true, false, false] hgv)
  | 12, _, _ => exact Or.inl (pth_ok [true, true, false, true, false, true, true, true, true, false] hgv)
  | 13, _, _ => exact Or.inl (pth_ok [true, true, false, true, true, true, false, false, true, false] hgv)
  | 14, _, _ => exact Or.inl (pth_ok [true, true, true, false, false, false, false, true, false, true] hgv)
  | 15, _, _ => exact Or.inl (pth_ok [true, true, true, false, false, true, true, false, false, false] hgv)
  | 16, _, _ => exact Or.inl (pth_ok [true, true, true, false, true, false, true, true, true, false] hgv)
  | 17, _, _ => exact Or.inl (pth_ok [true, true, true, true, false, false, false, true, false, false] hgv)
  | 18, _, _ => exact Or.inl (pth_ok [true, true, true, true, false, true, true, true, false, true] hgv)
  | 19, _, _ => exact Or.inl (pth_ok [true, true, true, true, true, true, false, true, true, true, false] hgv)
  | n + 20, h, _ => exact absurd h (by omega)
set_option maxRecDepth 20000 in
theorem ss_ne11 {s : State} {b : Nat} (hgv : (Jvm.Cond.and given_1 narrow_1).before #[Value.ref b] s = true) : ∀ j : Nat, j < 20 → 11 ≠ j → (Cond.not (Cond.eq (stm_ 11) (stm_ j))).before #[Value.ref b] s = true ∨ (Cond.not (Cond.eq (stm_ j) (stm_ 11))).before #[Value.ref b] s = true := by
  intro j hj hn
  match j, hj, hn with
  | 0, _, _ => exact Or.inr (pth_ok [true, true, false, true, false, false, false, false, true, false] hgv)
  | 1, _, _ => exact Or.inr (pth_ok [true, true, false, true, false, false, false, false, true, true] hgv)
  | 2, _, _ => exact Or.inr (pth_ok [true, true, false, true, false, false, false, true, false, false] hgv)
  | 3, _, _ => exact Or.inr (pth_ok [true, true, false, true, false, false, false, true, false, true] hgv)
  | 4, _, _ => exact Or.inr (pth_ok [true, true, false, true, false, false, false, true, true, false] hgv)
  | 5, _, _ => exact Or.inr (pth_ok [true, true, false, true, false, false, false, true, true, true] hgv)
  | 6, _, _ => exact Or.inr (pth_ok [true, true, false, true, false, false, true, false, false, false] hgv)
  | 7, _, _ => exact Or.inr (pth_ok [true, true, false, true, false, false, true, false, false, true] hgv)
  | 8, _, _ => exact Or.inr (pth_ok [true, true, false, true, false, false, true, false, true, false] hgv)
  | 9, _, _ => exact Or.inr (pth_ok [true, true, false, true, false, false, true, false, true, true] hgv)
  | 10, _, _ => exact Or.inr (pth_ok [true, true, false, true, false, false, true, true, false, false] hgv)
  | 11, _, hn => exact absurd rfl hn
  | 12, _, _ => exact Or.inl (pth_ok [true, true, false, true, false, true, true, true, true, true, false] hgv)
  | 13, _, _ => exact Or.inl (pth_ok [true, true, false, true, true, true, false, false, true, true] hgv)
  | 14, _, _ => exact Or.inl (pth_ok [true, true, true, false, false, false, false, true, true, false] hgv)
  | 15, _, _ => exact Or.inl (pth_ok [true, true, true, false, false, true, true, false, false, true] hgv)
  | 16, _, _ => exact Or.inl (pth_ok [true, true, true, false, true, false, true, true, true, true, false] hgv)
  | 17, _, _ => exact Or.inl (pth_ok [true, true, true, true, false, false, false, true, false, true] hgv)
  | 18, _, _ => exact Or.inl (pth_ok [true, true, true, true, false, true, true, true, true, false] hgv)
  | 19, _, _ => exact Or.inl (pth_ok [true, true, true, true, true, true, false, true, true, true, true] hgv)
  | n + 20, h, _ => exact absurd h (by omega)
set_option maxRecDepth 20000 in
theorem ss_ne12 {s : State} {b : Nat} (hgv : (Jvm.Cond.and given_1 narrow_1).before #[Value.ref b] s = true) : ∀ j : Nat, j < 20 → 12 ≠ j → (Cond.not (Cond.eq (stm_ 12) (stm_ j))).before #[Value.ref b] s = true ∨ (Cond.not (Cond.eq (stm_ j) (stm_ 12))).before #[Value.ref b] s = true := by
  intro j hj hn
  match j, hj, hn with
  | 0, _, _ => exact Or.inr (pth_ok [true, true, false, true, false, true, false, true, false, true] hgv)
  | 1, _, _ => exact Or.inr (pth_ok [true, true, false, true, false, true, false, true, true, false] hgv)
  | 2, _, _ => exact Or.inr (pth_ok [true, true, false, true, false, true, false, true, true, true, false] hgv)
  | 3, _, _ => exact Or.inr (pth_ok [true, true, false, true, false, true, false, true, true, true, true] hgv)
  | 4, _, _ => exact Or.inr (pth_ok [true, true, false, true, false, true, true, false, false, false] hgv)
  | 5, _, _ => exact Or.inr (pth_ok [true, true, false, true, false, true, true, false, false, true] hgv)
  | 6, _, _ => exact Or.inr (pth_ok [true, true, false, true, false, true, true, false, true, false] hgv)
  | 7, _, _ => exact Or.inr (pth_ok [true, true, false, true, false, true, true, false, true, true] hgv)
  | 8, _, _ => exact Or.inr (pth_ok [true, true, false, true, false, true, true, true, false, false] hgv)
  | 9, _, _ => exact Or.inr (pth_ok [true, true, false, true, false, true, true, true, false, true] hgv)
  | 10, _, _ => exact Or.inr (pth_ok [true, true, false, true, false, true, true, true, true, false] hgv)
  | 11, _, _ => exact Or.inr (pth_ok [true, true, false, true, false, true, true, true, true, true, false] hgv)
  | 12, _, hn => exact absurd rfl hn
  | 13, _, _ => exact Or.inl (pth_ok [true, true, false, true, true, true, false, true, false, false] hgv)
  | 14, _, _ => exact Or.inl (pth_ok [true, true, true, false, false, false, false, true, true, true] hgv)
  | 15, _, _ => exact Or.inl (pth_ok [true, true, true, false, false, true, true, false, true, false] hgv)
  | 16, _, _ => exact Or.inl (pth_ok [true, true, true, false, true, false, true, true, true, true, true] hgv)
  | 17, _, _ => exact Or.inl (pth_ok [true, true, true, true, false, false, false, true, true, false] hgv)
  | 18, _, _ => exact Or.inl (pth_ok [true, true, true, true, false, true, true, true, true, true, false] hgv)
  | 19, _, _ => exact Or.inl (pth_ok [true, true, true, true, true, true, true, false, false, false] hgv)
  | n + 20, h, _ => exact absurd h (by omega)
set_option maxRecDepth 20000 in
theorem ss_ne13 {s : State} {b : Nat} (hgv : (Jvm.Cond.and given_1 narrow_1).before #[Value.ref b] s = true) : ∀ j : Nat, j < 20 → 13 ≠ j → (Cond.not (Cond.eq (stm_ 13) (stm_ j))).before #[Value.ref b] s = true ∨ (Cond.not (Cond.eq (stm_ j) (stm_ 13))).before #[Value.ref b] s = true := by
  intro j hj hn
  match j, hj, hn with
  | 0, _, _ => exact Or.inr (pth_ok [true, true, false, true, true, false, true, false, false, true] hgv)
  | 1, _, _ => exact Or.inr (pth_ok [true, true, false, true, true, false, true, false, true, false] hgv)
  | 2, _, _ => exact Or.inr (pth_ok [true, true, false, true, true, false, true, false, true, true] hgv)
  | 3, _, _ => exact Or.inr (pth_ok [true, true, false, true, true, false, true, true, false, false] hgv)
  | 4, _, _ => exact Or.inr (pth_ok [true, true, false, true, true, false, true, true, false, true] hgv)
  | 5, _, _ => exact Or.inr (pth_ok [true, true, false, true, true, false, true, true, true, false] hgv)
  | 6, _, _ => exact Or.inr (pth_ok [true, true, false, true, true, false, true, true, true, true, false] hgv)
  | 7, _, _ => exact Or.inr (pth_ok [true, true, false, true, true, false, true, true, true, true, true] hgv)
  | 8, _, _ => exact Or.inr (pth_ok [true, true, false, true, true, true, false, false, false, false] hgv)
  | 9, _, _ => exact Or.inr (pth_ok [true, true, false, true, true, true, false, false, false, true] hgv)
  | 10, _, _ => exact Or.inr (pth_ok [true, true, false, true, true, true, false, false, true, false] hgv)
  | 11, _, _ => exact Or.inr (pth_ok [true, true, false, true, true, true, false, false, true, true] hgv)
  | 12, _, _ => exact Or.inr (pth_ok [true, true, false, true, true, true, false, true, false, false] hgv)
  | 13, _, hn => exact absurd rfl hn
  | 14, _, _ => exact Or.inl (pth_ok [true, true, true, false, false, false, true, false, false, false] hgv)
  | 15, _, _ => exact Or.inl (pth_ok [true, true, true, false, false, true, true, false, true, true] hgv)
  | 16, _, _ => exact Or.inl (pth_ok [true, true, true, false, true, true, false, false, false, false] hgv)
  | 17, _, _ => exact Or.inl (pth_ok [true, true, true, true, false, false, false, true, true, true] hgv)
  | 18, _, _ => exact Or.inl (pth_ok [true, true, true, true, false, true, true, true, true, true, true] hgv)
  | 19, _, _ => exact Or.inl (pth_ok [true, true, true, true, true, true, true, false, false, true] hgv)
  | n + 20, h, _ => exact absurd h (by omega)
set_option maxRecDepth 20000 in
theorem ss_ne14 {s : State} {b : Nat} (hgv : (Jvm.Cond.and given_1 narrow_1).before #[Value.ref b] s = true) : ∀ j : Nat, j < 20 → 14 ≠ j → (Cond.not (Cond.eq (stm_ 14) (stm_ j))).before #[Value.ref b] s = true ∨ (Cond.not (Cond.eq (stm_ j) (stm_ 14))).before #[Value.ref b] s = true := by
  intro j hj hn
  match j, hj, hn with
  | 0, _, _ => exact Or.inr (pth_ok [true, true, false, true, true, true, true, true, false, false] hgv)
  | 1, _, _ => exact Or.inr (pth_ok [true, true, false, true, true, true, true, true, false, true] hgv)
  | 2, _, _ => exact Or.inr (pth_ok [true, true, false, true, true, true, true, true, true, false] hgv)
  | 3, _, _ => exact Or.inr (pth_ok [true, true, false, true, true, true, true, true, true, true, false] hgv)
  | 4, _, _ => exact Or.inr (pth_ok [true, true, false, true, true, true, true, true, true, true, true] hgv)
  | 5, _, _ => exact Or.inr (pth_ok [true, true, true, false, false, false, false, false, false, false] hgv)
  | 6, _, _ => exact Or.inr (pth_ok [true, true, true, false, false, false, false, false, false, true] hgv)
  | 7, _, _ => exact Or.inr (pth_ok [true, true, true, false, false, false, false, false, true, false] hgv)
  | 8, _, _ => exact Or.inr (pth_ok [true, true, true, false, false, false, false, false, true, true] hgv)
  | 9, _, _ => exact Or.inr (pth_ok [true, true, true, false, false, false, false, true, false, false] hgv)
  | 10, _, _ => exact Or.inr (pth_ok [true, true, true, false, false, false, false, true, false, true] hgv)
  | 11, _, _ => exact Or.inr (pth_ok [true, true, true, false, false, false, false, true, true, false] hgv)
  | 12, _, _ => exact Or.inr (pth_ok [true, true, true, false, false, false, false, true, true, true] hgv)
  | 13, _, _ => exact Or.inr (pth_ok [true, true, true, false, false, false, true, false, false, false] hgv)
  | 14, _, hn => exact absurd rfl hn
  | 15, _, _ => exact Or.inl (pth_ok [true, true, true, false, false, true, true, true, false, false] hgv)
  | 16, _, _ => exact Or.inl (pth_ok [true, true, true, false, true, true, false, false, false, true] hgv)
  | 17, _, _ => exact Or.inl (pth_ok [true, true, true, true, false, false, true, false, false, false] hgv)
  | 18, _, _ => exact Or.inl (pth_ok [true, true, true, true, true, false, false, false, false, false] hgv)
  | 19, _, _ => exact Or.inl (pth_ok [true, true, true, true, true, true, true, false, true, false] hgv)
  | n + 20, h, _ => exact absurd h (by omega)
set_option maxRecDepth 20000 in
theorem ss_ne15 {s : State} {b : Nat} (hgv : (Jvm.Cond.and given_1 narrow_1).before #[Value.ref b] s = true) : ∀ j : Nat, j < 20 → 15 ≠ j → (Cond.not (Cond.eq (stm_ 15) (stm_ j))).before #[Value.ref b] s = true ∨ (Cond.not (Cond.eq (stm_ j) (stm_ 15))).before #[Value.ref b] s = true := by
  intro j hj hn
  match j, hj, hn with
  | 0, _, _ => exact Or.inr (pth_ok [true, true, true, false, false, false, true, true, true, true, true] hgv)
  | 1, _, _ => exact Or.inr (pth_ok [true, true, true, false, false, true, false, false, false, false] hgv)
  | 2, _, _ => exact Or.inr (pth_ok [true, true, true, false, false, true, false, false, false, true] hgv)
  | 3, _, _ => exact Or.inr (pth_ok [true, true, true, false, false, true, false, false, true, false] hgv)
  | 4, _, _ => exact Or.inr (pth_ok [true, true, true, false, false, true, false, false, true, true] hgv)
  | 5, _, _ => exact Or.inr (pth_ok [true, true, true, false, false, true, false, true, false, false] hgv)
  | 6, _, _ => exact Or.inr (pth_ok [true, true, true, false, false, true, false, true, false, true] hgv)
  | 7, _, _ => exact Or.inr (pth_ok [true, true, true, false, false, true, false, true, true, false] hgv)
  | 8, _, _ => exact Or.inr (pth_ok [true, true, true, false, false, true, false, true, true, true, false] hgv)
  | 9, _, _ => exact Or.inr (pth_ok [true, true, true, false, false, true, false, true, true, true, true] hgv)
  | 10, _, _ => exact Or.inr (pth_ok [true, true, true, false, false, true, true, false, false, false] hgv)
  | 11, _, _ => exact Or.inr (pth_ok [true, true, true, false, false, true, true, false, false, true] hgv)
  | 12, _, _ => exact Or.inr (pth_ok [true, true, true, false, false, true, true, false, true, false] hgv)
  | 13, _, _ => exact Or.inr (pth_ok [true, true, true, false, false, true, true, false, true, true] hgv)
  | 14, _, _ => exact Or.inr (pth_ok [true, true, true, false, false, true, true, true, false, false] hgv)
  | 15, _, hn => exact absurd rfl hn
  | 16, _, _ => exact Or.inl (pth_ok [true, true, true, false, true, true, false, false, true, false] hgv)
  | 17, _, _ => exact Or.inl (pth_ok [true, true, true, true, false, false, true, false, false, true] hgv)
  | 18, _, _ => exact Or.inl (pth_ok [true, true, true, true, true, false, false, false, false, true] hgv)
  | 19, _, _ => exact Or.inl (pth_ok [true, true, true, true, true, true, true, false, true, true] hgv)
  | n + 20, h, _ => exact absurd h (by omega)
set_option maxRecDepth 20000 in
theorem ss_ne16 {s : State} {b : Nat} (hgv : (Jvm.Cond.and given_1 narrow_1).before #[Value.ref b] s = true) : ∀ j : Nat, j < 20 → 16 ≠ j → (Cond.not (Cond.eq (stm_ 16) (stm_ j))).before #[Value.ref b] s = true ∨ (Cond.not (Cond.eq (stm_ j) (stm_ 16))).before #[Value.ref b] s = true := by
  intro j hj hn
  match j, hj, hn with
  | 0, _, _ => exact Or.inr (pth_ok [true, true, true, false, true, false, false, true, false, false] hgv)
  | 1, _, _ => exact Or.inr (pth_ok [true, true, true, false, true, false, false, true, false, true] hgv)
  | 2, _, _ => exact Or.inr (pth_ok [true, true, true, false, true, false, false, true, true, false] hgv)
  | 3, _, _ => exact Or.inr (pth_ok [true, true, true, false, true, false, false, true, true, true] hgv)
  | 4, _, _ => exact Or.inr (pth_ok [true, true, true, false, true, false, true, false, false, false] hgv)
  | 5, _, _ => exact Or.inr (pth_ok [true, true, true, false, true, false, true, false, false, true] hgv)
  | 6, _, _ => exact Or.inr (pth_ok [true, true, true, false, true, false, true, false, true, false] hgv)
  | 7, _, _ => exact Or.inr (pth_ok [true, true, true, false, true, false, true, false, true, true] hgv)
  | 8, _, _ => exact Or.inr (pth_ok [true, true, true, false, true, false, true, true, false, false] hgv)
  | 9, _, _ => exact Or.inr (pth_ok [true, true, true, false, true, false, true, true, false, true] hgv)
  | 10, _, _ => exact Or.inr (pth_ok [true, true, true, false, true, false, true, true, true, false] hgv)
  | 11, _, _ => exact Or.inr (pth_ok [true, true, true, false, true, false, true, true, true, true, false] hgv)
  | 12, _, _ => exact Or.inr (pth_ok [true, true, true, false, true, false, true, true, true, true, true] hgv)
  | 13, _, _ => exact Or.inr (pth_ok [true, true, true, false, true, true, false, false, false, false] hgv)
  | 14, _, _ => exact Or.inr (pth_ok [true, true, true, false, true, true, false, false, false, true] hgv)
  | 15, _, _ => exact Or.inr (pth_ok [true, true, true, false, true, true, false, false, true, false] hgv)
  | 16, _, hn => exact absurd rfl hn
  | 17, _, _ => exact Or.inl (pth_ok [true, true, true, true, false, false, true, false, true, false] hgv)
  | 18, _, _ => exact Or.inl (pth_ok [true, true, true, true, true, false, false, false, true, false] hgv)
  | 19, _, _ => exact Or.inl (pth_ok [true, true, true, true, true, true, true, true, false, false] hgv)
  | n + 20, h, _ => exact absurd h (by omega)
set_option maxRecDepth 20000 in
theorem ss_ne17 {s : State} {b : Nat} (hgv : (Jvm.Cond.and given_1 narrow_1).before #[Value.ref b] s = true) : ∀ j : Nat, j < 20 → 17 ≠ j → (Cond.not (Cond.eq (stm_ 17) (stm_ j))).before #[Value.ref b] s = true ∨ (Cond.not (Cond.eq (stm_ j) (stm_ 17))).before #[Value.ref b] s = true := by
  intro j hj hn
  match j, hj, hn with
  | 0, _, _ => exact Or.inr (pth_ok [true, true, true, false, true, true, true, false, true, true] hgv)
  | 1, _, _ => exact Or.inr (pth_ok [true, true, true, false, true, true, true, true, false, false] hgv)
  | 2, _, _ => exact Or.inr (pth_ok [true, true, true, false, true, true, true, true, false, true] hgv)
  | 3, _, _ => exact Or.inr (pth_ok [true, true, true, false, true, true, true, true, true, false] hgv)
  | 4, _, _ => exact Or.inr (pth_ok [true, true, true, false, true, true, true, true, true, true, false] hgv)
  | 5, _, _ => exact Or.inr (pth_ok [true, true, true, false, true, true, true, true, true, true, true] hgv)
  | 6, _, _ => exact Or.inr (pth_ok [true, true, true, true, false, false, false, false, false, false] hgv)
  | 7, _, _ => exact Or.inr (pth_ok [true, true, true, true, false, false, false, false, false, true] hgv)
  | 8, _, _ => exact Or.inr (pth_ok [true, true, true, true, false, false, false, false, true, false] hgv)
  | 9, _, _ => exact Or.inr (pth_ok [true, true, true, true, false, false, false, false, true, true] hgv)
  | 10, _, _ => exact Or.inr (pth_ok [true, true, true, true, false, false, false, true, false, false] hgv)
  | 11, _, _ => exact Or.inr (pth_ok [true, true, true, true, false, false, false, true, false, true] hgv)
  | 12, _, _ => exact Or.inr (pth_ok [true, true, true, true, false, false, false, true, true, false] hgv)
  | 13, _, _ => exact Or.inr (pth_ok [true, true, true, true, false, false, false, true, true, true] hgv)
  | 14, _, _ => exact Or.inr (pth_ok [true, true, true, true, false, false, true, false, false, false] hgv)
  | 15, _, _ => exact Or.inr (pth_ok [true, true, true, true, false, false, true, false, false, true] hgv)
  | 16, _, _ => exact Or.inr (pth_ok [true, true, true, true, false, false, true, false, true, false] hgv)
  | 17, _, hn => exact absurd rfl hn
  | 18, _, _ => exact Or.inl (pth_ok [true, true, true, true, true, false, false, false, true, true] hgv)
  | 19, _, _ => exact Or.inl (pth_ok [true, true, true, true, true, true, true, true, false, true] hgv)
  | n + 20, h, _ => exact absurd h (by omega)
set_option maxRecDepth 20000 in
theorem ss_ne18 {s : State} {b : Nat} (hgv : (Jvm.Cond.and given_1 narrow_1).before #[Value.ref b] s = true) : ∀ j : Nat, j < 20 → 18 ≠ j → (Cond.not (Cond.eq (stm_ 18) (stm_ j))).before #[Value.ref b] s = true ∨ (Cond.not (Cond.eq (stm_ j) (stm_ 18))).before #[Value.ref b] s = true := by
  intro j hj hn
  match j, hj, hn with
  | 0, _, _ => exact Or.inr (pth_ok [true, true, true, true, false, true, false, true, false, false] hgv)
  | 1, _, _ => exact Or.inr (pth_ok [true, true, true, true, false, true, false, true, false, true] hgv)
  | 2, _, _ => exact Or.inr (pth_ok [true, true, true, true, false, true, false, true, true, false] hgv)
  | 3, _, _ => exact Or.inr (pth_ok [true, true, true, true, false, true, false, true, true, true, false] hgv)
  | 4, _, _ => exact Or.inr (pth_ok [true, true, true, true, false, true, false, true, true, true, true] hgv)
  | 5, _, _ => exact Or.inr (pth_ok [true, true, true, true, false, true, true, false, false, false] hgv)
  | 6, _, _ => exact Or.inr (pth_ok [true, true, true, true, false, true, true, false, false, true] hgv)
  | 7, _, _ => exact Or.inr (pth_ok [true, true, true, true, false, true, true, false, true, false] hgv)
  | 8, _, _ => exact Or.inr (pth_ok [true, true, true, true, false, true, true, false, true, true] hgv)
  | 9, _, _ => exact Or.inr (pth_ok [true, true, true, true, false, true, true, true, false, false] hgv)
  | 10, _, _ => exact Or.inr (pth_ok [true, true, true, true, false, true, true, true, false, true] hgv)
  | 11, _, _ => exact Or.inr (pth_ok [true, true, true, true, false, true, true, true, true, false] hgv)
  | 12, _, _ => exact Or.inr (pth_ok [true, true, true, true, false, true, true, true, true, true, false] hgv)
  | 13, _, _ => exact Or.inr (pth_ok [true, true, true, true, false, true, true, true, true, true, true] hgv)
  | 14, _, _ => exact Or.inr (pth_ok [true, true, true, true, true, false, false, false, false, false] hgv)
  | 15, _, _ => exact Or.inr (pth_ok [true, true, true, true, true, false, false, false, false, true] hgv)
  | 16, _, _ => exact Or.inr (pth_ok [true, true, true, true, true, false, false, false, true, false] hgv)
  | 17, _, _ => exact Or.inr (pth_ok [true, true, true, true, true, false, false, false, true, true] hgv)
  | 18, _, hn => exact absurd rfl hn
  | 19, _, _ => exact Or.inl (pth_ok [true, true, true, true, true, true, true, true, true, false] hgv)
  | n + 20, h, _ => exact absurd h (by omega)
set_option maxRecDepth 20000 in
theorem ss_ne19 {s : State} {b : Nat} (hgv : (Jvm.Cond.and given_1 narrow_1).before #[Value.ref b] s = true) : ∀ j : Nat, j < 20 → 19 ≠ j → (Cond.not (Cond.eq (stm_ 19) (stm_ j))).before #[Value.ref b] s = true ∨ (Cond.not (Cond.eq (stm_ j) (stm_ 19))).before #[Value.ref b] s = true := by
  intro j hj hn
  match j, hj, hn with
  | 0, _, _ => exact Or.inr (pth_ok [true, true, true, true, true, false, true, true, true, false] hgv)
  | 1, _, _ => exact Or.inr (pth_ok [true, true, true, true, true, false, true, true, true, true, false] hgv)
  | 2, _, _ => exact Or.inr (pth_ok [true, true, true, true, true, false, true, true, true, true, true] hgv)
  | 3, _, _ => exact Or.inr (pth_ok [true, true, true, true, true, true, false, false, false, false] hgv)
  | 4, _, _ => exact Or.inr (pth_ok [true, true, true, true, true, true, false, false, false, true] hgv)
  | 5, _, _ => exact Or.inr (pth_ok [true, true, true, true, true, true, false, false, true, false] hgv)
  | 6, _, _ => exact Or.inr (pth_ok [true, true, true, true, true, true, false, false, true, true] hgv)
  | 7, _, _ => exact Or.inr (pth_ok [true, true, true, true, true, true, false, true, false, false] hgv)
  | 8, _, _ => exact Or.inr (pth_ok [true, true, true, true, true, true, false, true, false, true] hgv)
  | 9, _, _ => exact Or.inr (pth_ok [true, true, true, true, true, true, false, true, true, false] hgv)
  | 10, _, _ => exact Or.inr (pth_ok [true, true, true, true, true, true, false, true, true, true, false] hgv)
  | 11, _, _ => exact Or.inr (pth_ok [true, true, true, true, true, true, false, true, true, true, true] hgv)
  | 12, _, _ => exact Or.inr (pth_ok [true, true, true, true, true, true, true, false, false, false] hgv)
  | 13, _, _ => exact Or.inr (pth_ok [true, true, true, true, true, true, true, false, false, true] hgv)
  | 14, _, _ => exact Or.inr (pth_ok [true, true, true, true, true, true, true, false, true, false] hgv)
  | 15, _, _ => exact Or.inr (pth_ok [true, true, true, true, true, true, true, false, true, true] hgv)
  | 16, _, _ => exact Or.inr (pth_ok [true, true, true, true, true, true, true, true, false, false] hgv)
  | 17, _, _ => exact Or.inr (pth_ok [true, true, true, true, true, true, true, true, false, true] hgv)
  | 18, _, _ => exact Or.inr (pth_ok [true, true, true, true, true, true, true, true, true, false] hgv)
  | 19, _, hn => exact absurd rfl hn
  | n + 20, h, _ => exact absurd h (by omega)
theorem ss_ne {s : State} {b : Nat} (hgv : (Jvm.Cond.and given_1 narrow_1).before #[Value.ref b] s = true) : ∀ i j : Nat, i < 20 → j < 20 → i ≠ j → (Cond.not (Cond.eq (stm_ i) (stm_ j))).before #[Value.ref b] s = true ∨ (Cond.not (Cond.eq (stm_ j) (stm_ i))).before #[Value.ref b] s = true := by
  intro i j hi
  match i, hi with
  | 0, _ => exact ss_ne0 hgv j
  | 1, _ => exact ss_ne1 hgv j
  | 2, _ => exact ss_ne2 hgv j
  | 3, _ => exact ss_ne3 hgv j
  | 4, _ => exact ss_ne4 hgv j
  | 5, _ => exact ss_ne5 hgv j
  | 6, _ => exact ss_ne6 hgv j
  | 7, _ => exact ss_ne7 hgv j
  | 8, _ => exact ss_ne8 hgv j
  | 9, _ => exact ss_ne9 hgv j
  | 10, _ => exact ss_ne10 hgv j
  | 11, _ => exact ss_ne11 hgv j
  | 12, _ => exact ss_ne12 hgv j
  | 13, _ => exact ss_ne13 hgv j
  | 14, _ => exact ss_ne14 hgv j
  | 15, _ => exact ss_ne15 hgv j
  | 16, _ => exact ss_ne16 hgv j
  | 17, _ => exact ss_ne17 hgv j
  | 18, _ => exact ss_ne18 hgv j
  | 19, _ => exact ss_ne19 hgv j
  | n + 20, h => exact absurd h (by omega)
