/-- the state behind both constructors -/
def z_1 (j : Nat) : Int32 := match j with
  | 0 => 10
  | 1 => 10
  | 12 => (-1)
  | _ => 0
def z_4 (j : Nat) : Int32 := match j with
  | 4 => (-1)
  | 5 => (-1)
  | _ => 0
def z_27 (j : Nat) : Int32 := match j with
  | 5 => (-1)
  | 6 => (-1)
  | _ => 0
def z_68 (j : Nat) : Int32 := match j with
  | 0 => 10
  | 1 => 10
  | _ => 0
def z_28 : Nat → Int32 := upd (upd (upd (fun _ => 0) 1 10) 2 10) 8 (-1)
def z_all (k : Nat) : Nat → Int32 := match k with
  | 1 => z_1
  | 2 => z_1
  | 4 => z_4
  | 27 => z_27
  | 28 => z_28
  | 29 => z_28
  | k => match decide (68 ≤ k) with
    | true => z_68
    | false => fun _ => 0
def s0_ : Sg := (z_all, fun _ _ => 0, fun _ _ => 0)
theorem en_0 (ct : Nat → ClassId) (A : Nat → Nat) : ent ct A s0_ 0 = .inr (8, [.ref (A 1), .ref (A 2), .ref (A 3), .ref (A 4), .ref (A 5), .ref (A 6), .ref (A 7), .ref (A 8)]) := rfl
theorem en_1 (ct : Nat → ClassId) (A : Nat → Nat) : ent ct A s0_ 1 = .inr (6, [.int 10, .int 10, .int 0, .int 0, .int 0, .int 0, .int 0, .ref (A 9), .ref (A 10), .int 0, .int 0, .int 0, .int (-1), .null, .ref (A 11), .int 0, .ref (A 12), .int 0]) := rfl
theorem en_2 (ct : Nat → ClassId) (A : Nat → Nat) : ent ct A s0_ 2 = .inr (6, [.int 10, .int 10, .int 0, .int 0, .int 0, .int 0, .int 0, .ref (A 13), .ref (A 14), .int 0, .int 0, .int 0, .int (-1), .null, .ref (A 15), .int 0, .ref (A 16), .int 0]) := rfl
theorem en_3 (ct : Nat → ClassId) (A : Nat → Nat) : ent ct A s0_ 3 = .inr (7, [.ref (A 17), .int 0, .int 0, .int 0, .int 0, .int 0]) := rfl
theorem en_4 (ct : Nat → ClassId) (A : Nat → Nat) : ent ct A s0_ 4 = .inr (2, [.ref (A 3), .ref (A 18), .int 0, .null, .int (-1), .int (-1), .int 0, .int 0, .int 0, .int 0, .int 0, .int 0, .int 0]) := rfl
theorem en_5 (ct : Nat → ClassId) (A : Nat → Nat) : ent ct A s0_ 5 = .inl (ct 5, 4, .inr (.inr (.inr (.inr (fun j => some (A (48 + 5 * j))))))) := rfl
theorem en_6 (ct : Nat → ClassId) (A : Nat → Nat) : ent ct A s0_ 6 = .inr (4, [.ref (A 19), .ref (A 20), .int 0, .int 0, .int 0]) := rfl
theorem en_7 (ct : Nat → ClassId) (A : Nat → Nat) : ent ct A s0_ 7 = .inr (1, [.ref (A 21), .int 0, .ref (A 22), .ref (A 23), .ref (A 24), .ref (A 25)]) := rfl
theorem en_8 (ct : Nat → ClassId) (A : Nat → Nat) : ent ct A s0_ 8 = .inr (0, [.ref (A 26), .int 0, .int 0]) := rfl
theorem en_9 (ct : Nat → ClassId) (A : Nat → Nat) : ent ct A s0_ 9 = .inl (ct 9, 12, .inl (fun _ => 0)) := rfl
theorem en_10 (ct : Nat → ClassId) (A : Nat → Nat) : ent ct A s0_ 10 = .inl (ct 10, 12, .inl (fun _ => 0)) := rfl
theorem en_11 (ct : Nat → ClassId) (A : Nat → Nat) : ent ct A s0_ 11 = .inl (ct 11, 40, .inl (fun _ => 0)) := rfl
theorem en_12 (ct : Nat → ClassId) (A : Nat → Nat) : ent ct A s0_ 12 = .inl (ct 12, 10, .inr (.inr (.inr (.inr (fun j => some (A (68 + 1 * j))))))) := rfl
theorem en_13 (ct : Nat → ClassId) (A : Nat → Nat) : ent ct A s0_ 13 = .inl (ct 13, 12, .inl (fun _ => 0)) := rfl
theorem en_14 (ct : Nat → ClassId) (A : Nat → Nat) : ent ct A s0_ 14 = .inl (ct 14, 12, .inl (fun _ => 0)) := rfl
theorem en_15 (ct : Nat → ClassId) (A : Nat → Nat) : ent ct A s0_ 15 = .inl (ct 15, 40, .inl (fun _ => 0)) := rfl
theorem en_16 (ct : Nat → ClassId) (A : Nat → Nat) : ent ct A s0_ 16 = .inl (ct 16, 10, .inr (.inr (.inr (.inr (fun j => some (A (78 + 1 * j))))))) := rfl
theorem en_17 (ct : Nat → ClassId) (A : Nat → Nat) : ent ct A s0_ 17 = .inl (ct 17, 300, .inl (fun _ => 0)) := rfl
theorem en_18 (ct : Nat → ClassId) (A : Nat → Nat) : ent ct A s0_ 18 = .inl (ct 18, 29, .inl (fun _ => 0)) := rfl
theorem en_19 (ct : Nat → ClassId) (A : Nat → Nat) : ent ct A s0_ 19 = .inl (ct 19, 11, .inl (fun _ => 0)) := rfl
theorem en_20 (ct : Nat → ClassId) (A : Nat → Nat) : ent ct A s0_ 20 = .inl (ct 20, 22, .inl (fun _ => 0)) := rfl
theorem en_21 (ct : Nat → ClassId) (A : Nat → Nat) : ent ct A s0_ 21 = .inl (ct 21, 10, .inl (fun _ => 0)) := rfl
theorem en_22 (ct : Nat → ClassId) (A : Nat → Nat) : ent ct A s0_ 22 = .inl (ct 22, 1024, .inl (fun _ => 0)) := rfl
theorem en_23 (ct : Nat → ClassId) (A : Nat → Nat) : ent ct A s0_ 23 = .inl (ct 23, 1024, .inl (fun _ => 0)) := rfl
theorem en_24 (ct : Nat → ClassId) (A : Nat → Nat) : ent ct A s0_ 24 = .inl (ct 24, 1024, .inl (fun _ => 0)) := rfl
theorem en_25 (ct : Nat → ClassId) (A : Nat → Nat) : ent ct A s0_ 25 = .inl (ct 25, 1024, .inl (fun _ => 0)) := rfl
theorem en_26 (ct : Nat → ClassId) (A : Nat → Nat) : ent ct A s0_ 26 = .inl (ct 26, 4096, .inl (fun _ => 0)) := rfl
theorem en_27 (ct : Nat → ClassId) (A : Nat → Nat) : ent ct A s0_ 27 = .inr (9, [.ref (A 28), .ref (A 29), .ref (A 30), .ref (A 31), .int 0, .int (-1), .int (-1), .int 0, .int 0, .int 0, .int 0, .long 0, .int 0, .int 0, .int 0, .int 0, .ref (A 32), .int 0, .int 0, .int 0, .int 0, .int 0, .ref (A 33), .ref (A 34), .ref (A 35), .ref (A 36), .ref (A 37), .ref (A 38), .ref (A 39), .int 0, .ref (A 40), .ref (A 41), .ref (A 42), .ref (A 43), .ref (A 44), .ref (A 45), .ref (A 46), .ref (A 47)]) := rfl
theorem en_28 (ct : Nat → ClassId) (A : Nat → Nat) : ent ct A s0_ 28 = .inl (ct 28, 720, .inl z_28) := rfl
theorem en_29 (ct : Nat → ClassId) (A : Nat → Nat) : ent ct A s0_ 29 = .inl (ct 29, 720, .inl z_28) := rfl
theorem en_30 (ct : Nat → ClassId) (A : Nat → Nat) : ent ct A s0_ 30 = .inl (ct 30, 2720, .inl (fun _ => 0)) := rfl
theorem en_31 (ct : Nat → ClassId) (A : Nat → Nat) : ent ct A s0_ 31 = .inl (ct 31, 300, .inl (fun _ => 0)) := rfl
theorem en_32 (ct : Nat → ClassId) (A : Nat → Nat) : ent ct A s0_ 32 = .inl (ct 32, 160, .inl (fun _ => 0)) := rfl
theorem en_33 (ct : Nat → ClassId) (A : Nat → Nat) : ent ct A s0_ 33 = .inl (ct 33, 11, .inl (fun _ => 0)) := rfl
theorem en_34 (ct : Nat → ClassId) (A : Nat → Nat) : ent ct A s0_ 34 = .inl (ct 34, 330, .inr (.inl (fun _ => 0))) := rfl
theorem en_35 (ct : Nat → ClassId) (A : Nat → Nat) : ent ct A s0_ 35 = .inl (ct 35, 330, .inl (fun _ => 0)) := rfl
theorem en_36 (ct : Nat → ClassId) (A : Nat → Nat) : ent ct A s0_ 36 = .inl (ct 36, 12, .inl (fun _ => 0)) := rfl
theorem en_37 (ct : Nat → ClassId) (A : Nat → Nat) : ent ct A s0_ 37 = .inl (ct 37, 12, .inl (fun _ => 0)) := rfl
theorem en_38 (ct : Nat → ClassId) (A : Nat → Nat) : ent ct A s0_ 38 = .inl (ct 38, 1024, .inl (fun _ => 0)) := rfl
theorem en_39 (ct : Nat → ClassId) (A : Nat → Nat) : ent ct A s0_ 39 = .inl (ct 39, 1024, .inl (fun _ => 0)) := rfl
theorem en_40 (ct : Nat → ClassId) (A : Nat → Nat) : ent ct A s0_ 40 = .inl (ct 40, 1024, .inr (.inl (fun _ => 0))) := rfl
theorem en_41 (ct : Nat → ClassId) (A : Nat → Nat) : ent ct A s0_ 41 = .inl (ct 41, 1024, .inl (fun _ => 0)) := rfl
theorem en_42 (ct : Nat → ClassId) (A : Nat → Nat) : ent ct A s0_ 42 = .inl (ct 42, 10, .inl (fun _ => 0)) := rfl
theorem en_43 (ct : Nat → ClassId) (A : Nat → Nat) : ent ct A s0_ 43 = .inl (ct 43, 3, .inl (fun _ => 0)) := rfl
theorem en_44 (ct : Nat → ClassId) (A : Nat → Nat) : ent ct A s0_ 44 = .inl (ct 44, 4096, .inl (fun _ => 0)) := rfl
theorem en_45 (ct : Nat → ClassId) (A : Nat → Nat) : ent ct A s0_ 45 = .inl (ct 45, 6, .inl (fun _ => 0)) := rfl
theorem en_46 (ct : Nat → ClassId) (A : Nat → Nat) : ent ct A s0_ 46 = .inl (ct 46, 6006, .inl (fun _ => 0)) := rfl
theorem en_47 (ct : Nat → ClassId) (A : Nat → Nat) : ent ct A s0_ 47 = .inl (ct 47, 6, .inl (fun _ => 0)) := rfl
theorem en_48 (ct : Nat → ClassId) (A : Nat → Nat) : ent ct A s0_ 48 = .inr (5, [.ref (A 49), .int 0, .int 0, .int 0, .int 0, .int 0, .ref (A 50), .ref (A 51), .ref (A 52), .int 0]) := rfl
theorem en_49 (ct : Nat → ClassId) (A : Nat → Nat) : ent ct A s0_ 49 = .inl (ct 49, 300, .inl (fun _ => 0)) := rfl
theorem en_50 (ct : Nat → ClassId) (A : Nat → Nat) : ent ct A s0_ 50 = .inl (ct 50, 24, .inl (fun _ => 0)) := rfl
theorem en_51 (ct : Nat → ClassId) (A : Nat → Nat) : ent ct A s0_ 51 = .inl (ct 51, 24, .inl (fun _ => 0)) := rfl
theorem en_52 (ct : Nat → ClassId) (A : Nat → Nat) : ent ct A s0_ 52 = .inl (ct 52, 24, .inl (fun _ => 0)) := rfl
theorem en_53 (ct : Nat → ClassId) (A : Nat → Nat) : ent ct A s0_ 53 = .inr (5, [.ref (A 54), .int 0, .int 0, .int 0, .int 0, .int 0, .ref (A 55), .ref (A 56), .ref (A 57), .int 0]) := rfl
theorem en_54 (ct : Nat → ClassId) (A : Nat → Nat) : ent ct A s0_ 54 = .inl (ct 54, 300, .inl (fun _ => 0)) := rfl
theorem en_55 (ct : Nat → ClassId) (A : Nat → Nat) : ent ct A s0_ 55 = .inl (ct 55, 24, .inl (fun _ => 0)) := rfl
theorem en_56 (ct : Nat → ClassId) (A : Nat → Nat) : ent ct A s0_ 56 = .inl (ct 56, 24, .inl (fun _ => 0)) := rfl
theorem en_57 (ct : Nat → ClassId) (A : Nat → Nat) : ent ct A s0_ 57 = .inl (ct 57, 24, .inl (fun _ => 0)) := rfl
theorem en_58 (ct : Nat → ClassId) (A : Nat → Nat) : ent ct A s0_ 58 = .inr (5, [.ref (A 59), .int 0, .int 0, .int 0, .int 0, .int 0, .ref (A 60), .ref (A 61), .ref (A 62), .int 0]) := rfl
theorem en_59 (ct : Nat → ClassId) (A : Nat → Nat) : ent ct A s0_ 59 = .inl (ct 59, 300, .inl (fun _ => 0)) := rfl
theorem en_60 (ct : Nat → ClassId) (A : Nat → Nat) : ent ct A s0_ 60 = .inl (ct 60, 24, .inl (fun _ => 0)) := rfl
theorem en_61 (ct : Nat → ClassId) (A : Nat → Nat) : ent ct A s0_ 61 = .inl (ct 61, 24, .inl (fun _ => 0)) := rfl
theorem en_62 (ct : Nat → ClassId) (A : Nat → Nat) : ent ct A s0_ 62 = .inl (ct 62, 24, .inl (fun _ => 0)) := rfl
theorem en_63 (ct : Nat → ClassId) (A : Nat → Nat) : ent ct A s0_ 63 = .inr (5, [.ref (A 64), .int 0, .int 0, .int 0, .int 0, .int 0, .ref (A 65), .ref (A 66), .ref (A 67), .int 0]) := rfl
theorem en_64 (ct : Nat → ClassId) (A : Nat → Nat) : ent ct A s0_ 64 = .inl (ct 64, 300, .inl (fun _ => 0)) := rfl
theorem en_65 (ct : Nat → ClassId) (A : Nat → Nat) : ent ct A s0_ 65 = .inl (ct 65, 24, .inl (fun _ => 0)) := rfl
theorem en_66 (ct : Nat → ClassId) (A : Nat → Nat) : ent ct A s0_ 66 = .inl (ct 66, 24, .inl (fun _ => 0)) := rfl
theorem en_67 (ct : Nat → ClassId) (A : Nat → Nat) : ent ct A s0_ 67 = .inl (ct 67, 24, .inl (fun _ => 0)) := rfl
theorem en_68 (ct : Nat → ClassId) (A : Nat → Nat) : ent ct A s0_ 68 = .inr (3, [.int 10, .int 10, .int 0, .int 0, .int 0, .int 0, .int 0, .int 0, .int 0, .int 0, .int 0]) := rfl
theorem en_69 (ct : Nat → ClassId) (A : Nat → Nat) : ent ct A s0_ 69 = .inr (3, [.int 10, .int 10, .int 0, .int 0, .int 0, .int 0, .int 0, .int 0, .int 0, .int 0, .int 0]) := rfl
theorem en_70 (ct : Nat → ClassId) (A : Nat → Nat) : ent ct A s0_ 70 = .inr (3, [.int 10, .int 10, .int 0, .int 0, .int 0, .int 0, .int 0, .int 0, .int 0, .int 0, .int 0]) := rfl
theorem en_71 (ct : Nat → ClassId) (A : Nat → Nat) : ent ct A s0_ 71 = .inr (3, [.int 10, .int 10, .int 0, .int 0, .int 0, .int 0, .int 0, .int 0, .int 0, .int 0, .int 0]) := rfl
theorem en_72 (ct : Nat → ClassId) (A : Nat → Nat) : ent ct A s0_ 72 = .inr (3, [.int 10, .int 10, .int 0, .int 0, .int 0, .int 0, .int 0, .int 0, .int 0, .int 0, .int 0]) := rfl
theorem en_73 (ct : Nat → ClassId) (A : Nat → Nat) : ent ct A s0_ 73 = .inr (3, [.int 10, .int 10, .int 0, .int 0, .int 0, .int 0, .int 0, .int 0, .int 0, .int 0, .int 0]) := rfl
theorem en_74 (ct : Nat → ClassId) (A : Nat → Nat) : ent ct A s0_ 74 = .inr (3, [.int 10, .int 10, .int 0, .int 0, .int 0, .int 0, .int 0, .int 0, .int 0, .int 0, .int 0]) := rfl
theorem en_75 (ct : Nat → ClassId) (A : Nat → Nat) : ent ct A s0_ 75 = .inr (3, [.int 10, .int 10, .int 0, .int 0, .int 0, .int 0, .int 0, .int 0, .int 0, .int 0, .int 0]) := rfl
theorem en_76 (ct : Nat → ClassId) (A : Nat → Nat) : ent ct A s0_ 76 = .inr (3, [.int 10, .int 10, .int 0, .int 0, .int 0, .int 0, .int 0, .int 0, .int 0, .int 0, .int 0]) := rfl
theorem en_77 (ct : Nat → ClassId) (A : Nat → Nat) : ent ct A s0_ 77 = .inr (3, [.int 10, .int 10, .int 0, .int 0, .int 0, .int 0, .int 0, .int 0, .int 0, .int 0, .int 0]) := rfl
theorem en_78 (ct : Nat → ClassId) (A : Nat → Nat) : ent ct A s0_ 78 = .inr (3, [.int 10, .int 10, .int 0, .int 0, .int 0, .int 0, .int 0, .int 0, .int 0, .int 0, .int 0]) := rfl
theorem en_79 (ct : Nat → ClassId) (A : Nat → Nat) : ent ct A s0_ 79 = .inr (3, [.int 10, .int 10, .int 0, .int 0, .int 0, .int 0, .int 0, .int 0, .int 0, .int 0, .int 0]) := rfl
theorem en_80 (ct : Nat → ClassId) (A : Nat → Nat) : ent ct A s0_ 80 = .inr (3, [.int 10, .int 10, .int 0, .int 0, .int 0, .int 0, .int 0, .int 0, .int 0, .int 0, .int 0]) := rfl
theorem en_81 (ct : Nat → ClassId) (A : Nat → Nat) : ent ct A s0_ 81 = .inr (3, [.int 10, .int 10, .int 0, .int 0, .int 0, .int 0, .int 0, .int 0, .int 0, .int 0, .int 0]) := rfl
theorem en_82 (ct : Nat → ClassId) (A : Nat → Nat) : ent ct A s0_ 82 = .inr (3, [.int 10, .int 10, .int 0, .int 0, .int 0, .int 0, .int 0, .int 0, .int 0, .int 0, .int 0]) := rfl
theorem en_83 (ct : Nat → ClassId) (A : Nat → Nat) : ent ct A s0_ 83 = .inr (3, [.int 10, .int 10, .int 0, .int 0, .int 0, .int 0, .int 0, .int 0, .int 0, .int 0, .int 0]) := rfl
theorem en_84 (ct : Nat → ClassId) (A : Nat → Nat) : ent ct A s0_ 84 = .inr (3, [.int 10, .int 10, .int 0, .int 0, .int 0, .int 0, .int 0, .int 0, .int 0, .int 0, .int 0]) := rfl
theorem en_85 (ct : Nat → ClassId) (A : Nat → Nat) : ent ct A s0_ 85 = .inr (3, [.int 10, .int 10, .int 0, .int 0, .int 0, .int 0, .int 0, .int 0, .int 0, .int 0, .int 0]) := rfl
theorem en_86 (ct : Nat → ClassId) (A : Nat → Nat) : ent ct A s0_ 86 = .inr (3, [.int 10, .int 10, .int 0, .int 0, .int 0, .int 0, .int 0, .int 0, .int 0, .int 0, .int 0]) := rfl
theorem en_87 (ct : Nat → ClassId) (A : Nat → Nat) : ent ct A s0_ 87 = .inr (3, [.int 10, .int 10, .int 0, .int 0, .int 0, .int 0, .int 0, .int 0, .int 0, .int 0, .int 0]) := rfl
theorem at_q {D : va_G} {cl : List vw_C} {a n : Nat} {c : ClassId} {f g : Nat → Option Nat} {H : Heap} (h : va_at D cl (a, .inl (c, n, .inr (.inr (.inr (.inr f))))) H) (e : ∀ j, j < n → f j = g j) : va_at D cl (a, .inl (c, n, .inr (.inr (.inr (.inr g))))) H := by
  have h1 : H[a]? = some (arrV c n (fun j => va_rf (f j))) := h
  show H[a]? = some (arrV c n (fun j => va_rf (g j)))
  rw [h1]
  have : (fun j : Fin n => va_rf (f j.val)) = fun j : Fin n => va_rf (g j.val) := funext fun j => by rw [e j.val j.isLt]
  unfold arrV
  rw [this]
theorem at_i {D : va_G} {cl : List vw_C} {a n : Nat} {c : ClassId} {f g : Nat → Int32} {H : Heap} (h : va_at D cl (a, .inl (c, n, .inl f)) H) (e : ∀ j, j < n → f j = g j) : va_at D cl (a, .inl (c, n, .inl g)) H := by
  have h1 : H[a]? = some (arrV c n (fun j => .int (f j))) := h
  show H[a]? = some (arrV c n (fun j => .int (g j)))
  rw [h1]
  have : (fun j : Fin n => Value.int (f j.val)) = fun j : Fin n => Value.int (g j.val) := funext fun j => by rw [e j.val j.isLt]
  unfold arrV
  rw [this]
def mkA (adr : List Nat) (t0 t1 t2 t3 : Nat) (adK adV : Nat → Nat) (k : Nat) : Nat := if k < 88 then adr.getD k 0 else if k = 90 then t0 else if k = 91 then t1 else if k = 92 then t2 else if k = 93 then t3 else if k < 150 then adK (k - 100) else adV (k - 150)
theorem mkA_lt {adr : List Nat} {t0 t1 t2 t3 : Nat} {adK adV : Nat → Nat} {k : Nat} (h : k < 88) : mkA adr t0 t1 t2 t3 adK adV k = adr.getD k 0 := if_pos h
theorem adr_of {Ar : Nat → Prop} {ws : va_W} {adr : List Nat} (hD : va_D Ar ws) (hm : ws.map (·.1) = adr) : (∀ i j, i < adr.length → j < adr.length → adr.getD i 0 = adr.getD j 0 → i = j) ∧ ∀ k, k < adr.length → Ar (adr.getD k 0) := by
  subst hm
  have key : ∀ i, i < (ws.map (·.1)).length → ∃ p : Nat × va_E, ws[i]? = some p ∧ (ws.map (·.1)).getD i 0 = p.1 := by
    intro i hi
    rw [List.length_map] at hi
    exact ⟨ws[i], List.getElem?_eq_getElem hi, by simp [List.getD, hi]⟩
  refine ⟨fun i j hi hj e => ?_, fun k hk => ?_⟩
  · obtain ⟨p1, g1, e1⟩ := key i hi
    obtain ⟨p2, g2, e2⟩ := key j hj
    exact hD.1 i j p1 p2 g1 g2 (by rw [← e1, ← e2, e])
  · obtain ⟨p1, g1, e1⟩ := key k hk
    rw [e1]
    exact hD.2 k p1 g1
theorem tw_1 {w : Cond} (h : w ∈ tables_1_1) : w ∈ lw_tbl := List.mem_append_right _ (show w ∈ tables_1 from List.mem_append_left _ h)
theorem tw_2 {w : Cond} (h : w ∈ tables_1_2) : w ∈ lw_tbl := List.mem_append_right _ (show w ∈ tables_1 from List.mem_append_right _ (List.mem_append_left _ h))
theorem tw_3 {w : Cond} (h : w ∈ tables_1_3) : w ∈ lw_tbl := List.mem_append_right _ (show w ∈ tables_1 from List.mem_append_right _ (List.mem_append_right _ (List.mem_append_left _ h)))
theorem tw_4 {w : Cond} (h : w ∈ tables_1_4) : w ∈ lw_tbl := List.mem_append_right _ (show w ∈ tables_1 from List.mem_append_right _ (List.mem_append_right _ (List.mem_append_right _ (List.mem_append_left _ h))))
theorem tw_5 {w : Cond} (h : w ∈ tables_1_5) : w ∈ lw_tbl := List.mem_append_right _ (show w ∈ tables_1 from List.mem_append_right _ (List.mem_append_right _ (List.mem_append_right _ (List.mem_append_right _ (List.mem_append_left _ h)))))
theorem tw_6 {w : Cond} (h : w ∈ tables_1_6) : w ∈ lw_tbl := List.mem_append_right _ (show w ∈ tables_1 from List.mem_append_right _ (List.mem_append_right _ (List.mem_append_right _ (List.mem_append_right _ (List.mem_append_right _ (h))))))
set_option maxRecDepth 20000 in
theorem nw_M {s : State} {b : Nat} (hts0 : ∀ w ∈ lw_tbl, w.before #[Value.ref b] s = true) : ∀ q ∈ NWM, va_Nw (.methodLinkNest q.1 q.2.1 q.2.2.1 q.2.2.2) s := List.forall_mem_cons.mpr ⟨va_Nw.of rfl (hts0 _ (tw_1 (List.mem_of_getElem? (i := 32) rfl))), List.forall_mem_cons.mpr ⟨va_Nw.of rfl (hts0 _ (tw_1 (List.mem_of_getElem? (i := 39) rfl))), List.forall_mem_cons.mpr ⟨va_Nw.of rfl (hts0 _ (tw_1 (List.mem_of_getElem? (i := 42) rfl))), List.forall_mem_cons.mpr ⟨va_Nw.of rfl (hts0 _ (tw_1 (List.mem_of_getElem? (i := 175) rfl))), List.forall_mem_cons.mpr ⟨va_Nw.of rfl (hts0 _ (tw_2 (List.mem_of_getElem? (i := 15) rfl))), List.forall_mem_cons.mpr ⟨va_Nw.of rfl (hts0 _ (tw_2 (List.mem_of_getElem? (i := 43) rfl))), List.forall_mem_cons.mpr ⟨va_Nw.of rfl (hts0 _ (tw_2 (List.mem_of_getElem? (i := 68) rfl))), List.forall_mem_cons.mpr ⟨va_Nw.of rfl (hts0 _ (tw_2 (List.mem_of_getElem? (i := 85) rfl))), List.forall_mem_cons.mpr ⟨va_Nw.of rfl (hts0 _ (tw_3 (List.mem_of_getElem? (i := 155) rfl))), List.forall_mem_cons.mpr ⟨va_Nw.of rfl (hts0 _ (tw_4 (List.mem_of_getElem? (i := 99) rfl))), fun _ h => absurd h List.not_mem_nil⟩⟩⟩⟩⟩⟩⟩⟩⟩⟩
set_option maxRecDepth 20000 in
theorem nw_F {s : State} {b : Nat} (hts0 : ∀ w ∈ lw_tbl, w.before #[Value.ref b] s = true) : ∀ q ∈ NWF, va_Nw (.fieldLinkNest q.1 q.2.1 q.2.2.1 q.2.2.2.1 q.2.2.2.2.1 q.2.2.2.2.2) s := List.forall_mem_cons.mpr ⟨va_Nw.of rfl (hts0 _ (tw_3 (List.mem_of_getElem? (i := 102) rfl))), fun _ h => absurd h List.not_mem_nil⟩
set_option maxRecDepth 20000 in
theorem sd_ok {s : State} {b : Nat} (hts0 : ∀ w ∈ lw_tbl, w.before #[Value.ref b] s = true) : SD s := ⟨nw_M hts0, va_AO.of (hts0 _ (tw_2 (List.mem_of_getElem? (i := 12) rfl))), va_AO.of (hts0 _ (tw_1 (List.mem_of_getElem? (i := 37) rfl)))⟩
set_option maxRecDepth 20000 in
theorem sr_ok {s : State} {b : Nat} (hts0 : ∀ w ∈ lw_tbl, w.before #[Value.ref b] s = true) : ∀ i : Nat, i < 20 → (Cond.stringRef "DownByAHair$Tokens" (strI.getD i (0, "")).1 (strI.getD i (0, "")).2).before #[Value.ref b] s = true := by
  intro i hi
  match i, hi with
  | 0, _ => exact hts0 _ (tw_2 (List.mem_of_getElem? (i := 212) rfl))
  | 1, _ => exact hts0 _ (tw_3 (List.mem_of_getElem? (i := 25) rfl))
  | 2, _ => exact hts0 _ (tw_3 (List.mem_of_getElem? (i := 26) rfl))
  | 3, _ => exact hts0 _ (tw_3 (List.mem_of_getElem? (i := 27) rfl))
  | 4, _ => exact hts0 _ (tw_3 (List.mem_of_getElem? (i := 28) rfl))
  | 5, _ => exact hts0 _ (tw_3 (List.mem_of_getElem? (i := 29) rfl))
  | 6, _ => exact hts0 _ (tw_3 (List.mem_of_getElem? (i := 30) rfl))
  | 7, _ => exact hts0 _ (tw_3 (List.mem_of_getElem? (i := 31) rfl))
  | 8, _ => exact hts0 _ (tw_3 (List.mem_of_getElem? (i := 32) rfl))
  | 9, _ => exact hts0 _ (tw_3 (List.mem_of_getElem? (i := 33) rfl))
  | 10, _ => exact hts0 _ (tw_3 (List.mem_of_getElem? (i := 34) rfl))
  | 11, _ => exact hts0 _ (tw_3 (List.mem_of_getElem? (i := 35) rfl))
  | 12, _ => exact hts0 _ (tw_3 (List.mem_of_getElem? (i := 36) rfl))
  | 13, _ => exact hts0 _ (tw_3 (List.mem_of_getElem? (i := 37) rfl))
  | 14, _ => exact hts0 _ (tw_3 (List.mem_of_getElem? (i := 38) rfl))
  | 15, _ => exact hts0 _ (tw_3 (List.mem_of_getElem? (i := 39) rfl))
  | 16, _ => exact hts0 _ (tw_3 (List.mem_of_getElem? (i := 40) rfl))
  | 17, _ => exact hts0 _ (tw_3 (List.mem_of_getElem? (i := 41) rfl))
  | 18, _ => exact hts0 _ (tw_3 (List.mem_of_getElem? (i := 42) rfl))
  | 19, _ => exact hts0 _ (tw_3 (List.mem_of_getElem? (i := 43) rfl))
  | n + 20, h => exact absurd h (by omega)
set_option maxRecDepth 20000 in
theorem st_ok {s : State} {b : Nat} (hts0 : ∀ w ∈ lw_tbl, w.before #[Value.ref b] s = true) (hgv : (Jvm.Cond.and given_1 narrow_1).before #[Value.ref b] s = true) : ∃ (t0 t1 t2 t3 : Nat) (adK adV : Nat → Nat), ∀ (A : Nat → Nat), A 90 = t0 → A 91 = t1 → A 92 = t2 → A 93 = t3 → (∀ i, i < 20 → A (100 + i) = adK i) → (∀ i, i < 20 → A (150 + i) = adV i) → (∀ k, k < NC → s.heap.size ≤ A k) → (∀ i, i < 20 → vk_R "DownByAHair$Tokens" (strI.getD i (0, "")).1 (strI.getD i (0, "")).2 (A (100 + i)) s) ∧ FXh A s s.heap := by
  have hA : ∀ a : Nat, a < s.heap.size → ¬ N_Ws s a := fun a ha => Nat.not_le.mpr ha
  obtain ⟨t0, e0, g0⟩ := va_Tof (A := N_Ws s) (f := fun j => .int (tB.getD j 0)) (N := 15) (by decide) (ar_tB hgv) (va_eqt (le_tB hgv)) (fun j hj => va_eqt (el_tB hgv j hj)) hA
  obtain ⟨t1, e1, g1⟩ := va_Tof (A := N_Ws s) (f := fun j => .int (tF.getD j 0)) (N := 160) (by decide) (ar_tF hgv) (va_eqt (le_tF hgv)) (fun j hj => va_eqt (el_tF hgv j hj)) hA
  obtain ⟨adK, adV, gS, eS⟩ := vk_Sof (N := 20) (tm := stm_) (len := strL) (byt := strB) (A := N_Ws s) (by decide +kernel) (ss_ex hgv) (ss_co hgv) (ss_ar hgv) (ss_le hgv) (ss_el hgv) (ss_ne hgv) hA
  have z0 := va_Zref (A := N_Ws s) (hts0 _ (tw_3 (List.mem_of_getElem? (i := 103) rfl))) (hts0 _ (tw_1 (List.mem_of_getElem? (i := 1) rfl))) e0 hA
  have z1 := va_Zref (A := N_Ws s) (hts0 _ (tw_4 (List.mem_of_getElem? (i := 134) rfl))) (hts0 _ (tw_1 (List.mem_of_getElem? (i := 1) rfl))) e1 hA
  have z2 := va_Zof (A := N_Ws s) (hts0 _ (tw_2 (List.mem_of_getElem? (i := 226) rfl))) (hts0 _ (tw_1 (List.mem_of_getElem? (i := 12) rfl))) (va_eqi (eq_CS hgv)) hA
  have z3 := va_Zqof (A := N_Ws s) (hts0 _ (tw_3 (List.mem_of_getElem? (i := 2) rfl))) (hts0 _ (tw_1 (List.mem_of_getElem? (i := 14) rfl))) (rf_SF hgv) hA
  obtain ⟨t2, t3, z4⟩ : ∃ t2 t3 : Nat, va_Z "jdk/internal/util/Preconditions" "SIOOBE_FORMATTER" "Ljava/util/function/BiFunction;" (va_rf (if t3 = 0 then none else some t2)) (N_Ws s) s s.heap := by
    rcases z3 with z | ⟨t, z⟩
    · exact ⟨0, 0, z⟩
    · exact ⟨t, 1, z⟩
  refine ⟨t0, t1, t2, t3, adK, adV, ?_⟩
  intro A h0 h1 h2 h3 hK hV hN
  have nar : ∀ q, InA A q → N_Ws s q := fun q ⟨k, hk, e⟩ => by rw [e]; exact hN k hk
  refine ⟨fun i hi => ?_, ?_⟩
  · rw [hK i hi]
    exact vk_R.of (sr_ok hts0 i hi) (eS i hi)
  · refine ⟨by rw [h0]; exact z0.narrow nar, by rw [h0]; exact g0.narrow nar, by rw [h1]; exact z1.narrow nar, by rw [h1]; exact g1.narrow nar, z2.narrow nar, ?_, by unfold fmt; rw [h2, h3]; exact z4.narrow nar⟩
    have gS2 := gS.narrow nar
    refine ⟨fun i hi => ?_, fun i j hi hj e => gS2.2 i j hi hj (by rw [← hK i hi, ← hK j hj]; exact e)⟩
    dsimp only
    rw [hK i hi, hV i hi]
    exact gS2.1 i hi
set_option maxRecDepth 20000 in
theorem we_19 : Cond.classLink RL 7 "DownByAHair" ∈ AL := AL_t1 (List.mem_of_getElem? (i := 19) rfl) rfl
set_option maxRecDepth 20000 in
theorem we_20 : Cond.instantiable RX9 8 ∈ AL := AL_t1 (List.mem_of_getElem? (i := 20) rfl) rfl
set_option maxRecDepth 20000 in
theorem we_1 : Cond.initialized RX9 ∈ AL := AL_t1 (List.mem_of_getElem? (i := 1) rfl) rfl
set_option maxRecDepth 20000 in
theorem we_22 : Cond.instanceMethod yX9_init ∈ AL := AL_t1 (List.mem_of_getElem? (i := 22) rfl) rfl
set_option maxRecDepth 20000 in
theorem we_23 : Cond.code yX9_init cX9_init 2 none ∈ AL := AL_t1 (List.mem_of_getElem? (i := 23) rfl) rfl
set_option maxRecDepth 20000 in
theorem we_21 : Cond.methodLink RL 9 yX9_init ∈ AL := AL_t1 (List.mem_of_getElem? (i := 21) rfl) rfl
set_option maxRecDepth 20000 in
theorem we_884 : Cond.classLink RL 10 "DownByAHairModel" ∈ AL := AL_t4 (List.mem_of_getElem? (i := 164) rfl) rfl
set_option maxRecDepth 20000 in
theorem we_885 : Cond.instantiable RX10 38 ∈ AL := AL_t4 (List.mem_of_getElem? (i := 165) rfl) rfl
set_option maxRecDepth 20000 in
theorem we_11 : Cond.initialized RX10 ∈ AL := AL_t1 (List.mem_of_getElem? (i := 11) rfl) rfl
set_option maxRecDepth 20000 in
theorem we_887 : Cond.instanceMethod yX10_init ∈ AL := AL_t4 (List.mem_of_getElem? (i := 167) rfl) rfl
set_option maxRecDepth 20000 in
theorem we_888 : Cond.code yX10_init cX10_init 1 none ∈ AL := AL_t4 (List.mem_of_getElem? (i := 168) rfl) rfl
set_option maxRecDepth 20000 in
theorem we_886 : Cond.methodLink RL 12 yX10_init ∈ AL := AL_t4 (List.mem_of_getElem? (i := 166) rfl) rfl
theorem mkA_K {adr : List Nat} {t0 t1 t2 t3 : Nat} {adK adV : Nat → Nat} {i : Nat} (h : i < 20) : mkA adr t0 t1 t2 t3 adK adV (100 + i) = adK i := by
  unfold mkA
  rw [if_neg (by omega), if_neg (by omega), if_neg (by omega), if_neg (by omega), if_neg (by omega), if_pos (by omega), Nat.add_sub_cancel_left]
theorem mkA_V {adr : List Nat} {t0 t1 t2 t3 : Nat} {adK adV : Nat → Nat} {i : Nat} (h : i < 20) : mkA adr t0 t1 t2 t3 adK adV (150 + i) = adV i := by
  unfold mkA
  rw [if_neg (by omega), if_neg (by omega), if_neg (by omega), if_neg (by omega), if_neg (by omega), if_neg (by omega), Nat.add_sub_cancel_left]
