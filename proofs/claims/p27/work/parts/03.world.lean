/-- the pure state: ints, longs and references (0 is null, k is the cell k) by cell and slot -/
abbrev Sg : Type := (Nat → Nat → Int32) × (Nat → Nat → Int64) × (Nat → Nat → Nat)
def gi (σ : Sg) (k : Nat) : Nat → Int32 := σ.1 k
def gl (σ : Sg) (k : Nat) : Nat → Int64 := σ.2.1 k
def gr (σ : Sg) (k : Nat) : Nat → Nat := σ.2.2 k
def sa (σ : Sg) (k : Nat) (f : Nat → Int32) : Sg := (va_up σ.1 k f, σ.2)
def sal (σ : Sg) (k : Nat) (f : Nat → Int64) : Sg := (σ.1, va_up σ.2.1 k f, σ.2.2)
def si (σ : Sg) (k j : Nat) (v : Int32) : Sg := sa σ k (upd (gi σ k) j v)
def sl (σ : Sg) (k j : Nat) (v : Int64) : Sg := sal σ k (vp_updL (gl σ k) j v)
def sr (σ : Sg) (k j : Nat) (v : Nat) : Sg := (σ.1, σ.2.1, va_up σ.2.2 k (va_up (σ.2.2 k) j v))
theorem gi_sa (σ : Sg) (k : Nat) (f : Nat → Int32) (k' : Nat) : gi (sa σ k f) k' = if k' = k then f else gi σ k' := rfl
theorem gi_sal (σ : Sg) (k : Nat) (f : Nat → Int64) (k' : Nat) : gi (sal σ k f) k' = gi σ k' := rfl
theorem gl_sa (σ : Sg) (k : Nat) (f : Nat → Int32) (k' : Nat) : gl (sa σ k f) k' = gl σ k' := rfl
theorem gl_sal (σ : Sg) (k : Nat) (f : Nat → Int64) (k' : Nat) : gl (sal σ k f) k' = if k' = k then f else gl σ k' := rfl
theorem gr_sa (σ : Sg) (k : Nat) (f : Nat → Int32) (k' : Nat) : gr (sa σ k f) k' = gr σ k' := rfl
theorem gr_sal (σ : Sg) (k : Nat) (f : Nat → Int64) (k' : Nat) : gr (sal σ k f) k' = gr σ k' := rfl
theorem gi_si (σ : Sg) (k j : Nat) (v : Int32) (k' : Nat) : gi (si σ k j v) k' = if k' = k then upd (gi σ k) j v else gi σ k' := rfl
theorem gi_sl (σ : Sg) (k j : Nat) (v : Int64) (k' : Nat) : gi (sl σ k j v) k' = gi σ k' := rfl
theorem gi_sr (σ : Sg) (k j : Nat) (v : Nat) (k' : Nat) : gi (sr σ k j v) k' = gi σ k' := rfl
theorem gl_si (σ : Sg) (k j : Nat) (v : Int32) (k' : Nat) : gl (si σ k j v) k' = gl σ k' := rfl
theorem gl_sl (σ : Sg) (k j : Nat) (v : Int64) (k' : Nat) : gl (sl σ k j v) k' = if k' = k then vp_updL (gl σ k) j v else gl σ k' := rfl
theorem gl_sr (σ : Sg) (k j : Nat) (v : Nat) (k' : Nat) : gl (sr σ k j v) k' = gl σ k' := rfl
theorem gr_si (σ : Sg) (k j : Nat) (v : Int32) (k' : Nat) : gr (si σ k j v) k' = gr σ k' := rfl
theorem gr_sl (σ : Sg) (k j : Nat) (v : Int64) (k' : Nat) : gr (sl σ k j v) k' = gr σ k' := rfl
theorem gr_sr (σ : Sg) (k j : Nat) (v : Nat) (k' : Nat) : gr (sr σ k j v) k' = if k' = k then va_up (gr σ k) j v else gr σ k' := rfl

/-- a cell: (0, class, fields), (1, array class of ints, length), (2, of longs, length), (3, of references, length) -/
def layS (k : Nat) : Nat × Nat × Nat := match k with
  | 0 => (0, 8, 8)
  | 1 => (0, 6, 18)
  | 2 => (0, 6, 18)
  | 3 => (0, 7, 6)
  | 4 => (0, 2, 13)
  | 5 => (3, 4, 4)
  | 6 => (0, 4, 5)
  | 7 => (0, 1, 6)
  | 8 => (0, 0, 3)
  | 9 => (1, 0, 12)
  | 10 => (1, 0, 12)
  | 11 => (1, 0, 40)
  | 12 => (3, 5, 10)
  | 13 => (1, 0, 12)
  | 14 => (1, 0, 12)
  | 15 => (1, 0, 40)
  | 16 => (3, 5, 10)
  | 17 => (1, 1, 300)
  | 18 => (1, 0, 29)
  | 19 => (1, 0, 11)
  | 20 => (1, 0, 22)
  | 21 => (1, 0, 10)
  | 22 => (1, 0, 1024)
  | 23 => (1, 0, 1024)
  | 24 => (1, 0, 1024)
  | 25 => (1, 0, 1024)
  | 26 => (1, 0, 4096)
  | 27 => (0, 9, 38)
  | 28 => (1, 0, 720)
  | 29 => (1, 0, 720)
  | 30 => (1, 0, 2720)
  | 31 => (1, 0, 300)
  | 32 => (1, 0, 160)
  | 33 => (1, 0, 11)
  | 34 => (2, 3, 330)
  | 35 => (1, 2, 330)
  | 36 => (1, 0, 12)
  | 37 => (1, 0, 12)
  | 38 => (1, 2, 1024)
  | 39 => (1, 0, 1024)
  | 40 => (2, 3, 1024)
  | 41 => (1, 0, 1024)
  | 42 => (1, 0, 10)
  | 43 => (1, 0, 3)
  | 44 => (1, 0, 4096)
  | 45 => (1, 0, 6)
  | 46 => (1, 2, 6006)
  | 47 => (1, 0, 6)
  | _ => (9, 0, 0)
def layC (k : Nat) : Nat × Nat × Nat := match k with
  | 0 => (0, 5, 10)
  | 1 => (1, 0, 300)
  | _ => (1, 0, 24)
def NC : Nat := 88
def lay (k : Nat) : Nat × Nat × Nat := if k < 48 then layS k else if k < 68 then layC ((k - 48) % 5) else if k < 88 then (0, 3, 11) else (9, 0, 0)
/-- a field: 0 an int, 1 a long, 2 a reference that changes, 3 + k the cell k -/
def fkO0 (j : Nat) : Nat := match j with
  | 0 => 4
  | 1 => 5
  | 2 => 6
  | 3 => 7
  | 4 => 8
  | 5 => 9
  | 6 => 10
  | 7 => 11
  | _ => 0
def fkO1 (j : Nat) : Nat := match j with
  | 7 => 12
  | 8 => 13
  | 13 => 2
  | 14 => 14
  | 16 => 15
  | _ => 0
def fkO2 (j : Nat) : Nat := match j with
  | 7 => 16
  | 8 => 17
  | 13 => 2
  | 14 => 18
  | 16 => 19
  | _ => 0
def fkO3 (j : Nat) : Nat := match j with
  | 0 => 20
  | _ => 0
def fkO4 (j : Nat) : Nat := match j with
  | 0 => 6
  | 1 => 21
  | 3 => 2
  | _ => 0
def fkO6 (j : Nat) : Nat := match j with
  | 0 => 22
  | 1 => 23
  | _ => 0
def fkO7 (j : Nat) : Nat := match j with
  | 0 => 24
  | 2 => 25
  | 3 => 26
  | 4 => 27
  | 5 => 28
  | _ => 0
def fkO8 (j : Nat) : Nat := match j with
  | 0 => 29
  | _ => 0
def fkO27 (j : Nat) : Nat := match j with
  | 0 => 31
  | 1 => 32
  | 2 => 33
  | 3 => 34
  | 11 => 1
  | 16 => 35
  | 22 => 36
  | 23 => 37
  | 24 => 38
  | 25 => 39
  | 26 => 40
  | 27 => 41
  | 28 => 42
  | 30 => 43
  | 31 => 44
  | 32 => 45
  | 33 => 46
  | 34 => 47
  | 35 => 48
  | 36 => 49
  | 37 => 50
  | _ => 0
def fkS (k j : Nat) : Nat := match k with
  | 0 => fkO0 j
  | 1 => fkO1 j
  | 2 => fkO2 j
  | 3 => fkO3 j
  | 4 => fkO4 j
  | 6 => fkO6 j
  | 7 => fkO7 j
  | 8 => fkO8 j
  | 27 => fkO27 j
  | _ => 0
def fkC (k j : Nat) : Nat := match j with
  | 0 => k + 4
  | 6 => k + 5
  | 7 => k + 6
  | 8 => k + 7
  | _ => 0
def fk (k j : Nat) : Nat := if k < 48 then fkS k j else if k < 68 then fkC k j else 0
def rfv (A : Nat → Nat) (r : Nat) : Value := va_rf (if r = 0 then none else some (A r))
def fvc (A : Nat → Nat) (σ : Sg) (k j : Nat) (cd : Nat) : Value := match cd with
  | 0 => .int (gi σ k j)
  | 1 => .long (gl σ k j)
  | 2 => rfv A (gr σ k j)
  | q + 3 => .ref (A q)
def fv (A : Nat → Nat) (σ : Sg) (k j : Nat) : Value := fvc A σ k j (fk k j)
/-- the first cell of an array of references, and the step -/
def qb (k : Nat) : Nat × Nat := if k = 5 then (48, 5) else if k = 12 then (68, 1) else (78, 1)
def entc (ct : Nat → ClassId) (A : Nat → Nat) (σ : Sg) (k : Nat) (l : Nat × Nat × Nat) : va_E := match l with
  | (0, ci, n) => .inr (ci, (List.range n).map (fv A σ k))
  | (1, _, n) => .inl (ct k, n, .inl (gi σ k))
  | (2, _, n) => .inl (ct k, n, .inr (.inl (gl σ k)))
  | (_, _, n) => .inl (ct k, n, .inr (.inr (.inr (.inr (fun j => some (A ((qb k).1 + (qb k).2 * j)))))))
def ent (ct : Nat → ClassId) (A : Nat → Nat) (σ : Sg) (k : Nat) : va_E := entc ct A σ k (lay k)
def wl (ct : Nat → ClassId) (A : Nat → Nat) (σ : Sg) : va_W := (List.range NC).map (fun k => (A k, ent ct A σ k))
theorem wl_at {ct : Nat → ClassId} {A : Nat → Nat} {σ : Sg} {k : Nat} (hk : k < NC) : (wl ct A σ)[k]? = some (A k, ent ct A σ k) := by
  simp [wl, hk]
theorem lay_lt {k ci n t : Nat} (h : lay k = (t, ci, n)) (ht : t < 9) : k < NC := by
  unfold lay at h
  unfold NC
  by_cases h1 : k < 48
  · omega
  · by_cases h2 : k < 68
    · omega
    · by_cases h3 : k < 88
      · exact h3
      · simp only [h1, h2, h3, if_false] at h
        injection h with h4 _
        omega
theorem wl_set {ct : Nat → ClassId} {A : Nat → Nat} {σ σ' : Sg} {k : Nat} {e : va_E} (he : e = ent ct A σ' k) (ho : ∀ j, j ≠ k → ent ct A σ' j = ent ct A σ j) : (wl ct A σ).set k (A k, e) = wl ct A σ' := by
  apply List.ext_getElem?
  intro j
  by_cases hj : j = k
  · subst hj
    by_cases hk : j < NC
    · rw [wl_at hk, List.getElem?_set_self (by simp [wl, hk]), he]
    · simp [wl, hk]
  · rw [List.getElem?_set_ne (fun q => hj q.symm)]
    by_cases hk : j < NC
    · rw [wl_at hk, wl_at hk, ho j hj]
    · simp [wl, hk]
theorem fv_of {A : Nat → Nat} {σ σ' : Sg} {k j : Nat} (h1 : gi σ' k j = gi σ k j) (h2 : gl σ' k j = gl σ k j) (h3 : gr σ' k j = gr σ k j) : fv A σ' k j = fv A σ k j := by
  unfold fv fvc
  split <;> simp only [h1, h2, h3]
theorem ent_of {ct : Nat → ClassId} {A : Nat → Nat} {σ σ' : Sg} {k : Nat} (h1 : gi σ' k = gi σ k) (h2 : gl σ' k = gl σ k) (h3 : gr σ' k = gr σ k) : ent ct A σ' k = ent ct A σ k := by
  unfold ent entc
  have hf : fv A σ' k = fv A σ k := funext fun j => fv_of (by rw [h1]) (by rw [h2]) (by rw [h3])
  split <;> simp only [h1, h2, hf]
theorem ent_sa {ct : Nat → ClassId} {A : Nat → Nat} {σ : Sg} {k j : Nat} {f : Nat → Int32} (h : j ≠ k) : ent ct A (sa σ k f) j = ent ct A σ j := ent_of (by rw [gi_sa, if_neg h]) rfl rfl
theorem ent_sal {ct : Nat → ClassId} {A : Nat → Nat} {σ : Sg} {k j : Nat} {f : Nat → Int64} (h : j ≠ k) : ent ct A (sal σ k f) j = ent ct A σ j := ent_of rfl (by rw [gl_sal, if_neg h]) rfl
theorem ent_sr {ct : Nat → ClassId} {A : Nat → Nat} {σ : Sg} {k j i v : Nat} (h : j ≠ k) : ent ct A (sr σ k i v) j = ent ct A σ j := ent_of rfl rfl (by rw [gr_sr, if_neg h])
theorem ent_o {ct : Nat → ClassId} {A : Nat → Nat} {σ : Sg} {k ci n : Nat} (h : lay k = (0, ci, n)) : ent ct A σ k = .inr (ci, (List.range n).map (fv A σ k)) := by unfold ent; rw [h]; rfl
theorem ent_i {ct : Nat → ClassId} {A : Nat → Nat} {σ : Sg} {k t n : Nat} (h : lay k = (1, t, n)) : ent ct A σ k = .inl (ct k, n, .inl (gi σ k)) := by unfold ent; rw [h]; rfl
theorem ent_l {ct : Nat → ClassId} {A : Nat → Nat} {σ : Sg} {k t n : Nat} (h : lay k = (2, t, n)) : ent ct A σ k = .inl (ct k, n, .inr (.inl (gl σ k))) := by unfold ent; rw [h]; rfl
theorem ent_q {ct : Nat → ClassId} {A : Nat → Nat} {σ : Sg} {k t n : Nat} (h : lay k = (3, t, n)) : ent ct A σ k = .inl (ct k, n, .inr (.inr (.inr (.inr (fun j => some (A ((qb k).1 + (qb k).2 * j))))))) := by unfold ent; rw [h]; rfl
theorem fs_at {A : Nat → Nat} {σ : Sg} {k n j : Nat} (hj : j < n) : ((List.range n).map (fv A σ k))[j]? = some (fv A σ k j) := by simp [hj]
theorem fs_set {A : Nat → Nat} {σ σ' : Sg} {k n j : Nat} {v : Value} (hv : fv A σ' k j = v) (ho : ∀ i, i ≠ j → fv A σ' k i = fv A σ k i) : ((List.range n).map (fv A σ k)).set j v = (List.range n).map (fv A σ' k) := by
  apply List.ext_getElem?
  intro i
  by_cases hi : i = j
  · subst hi
    by_cases hn : i < n
    · rw [List.getElem?_set_self (by simp [hn])]
      simp [hn, hv]
    · simp [hn]
  · rw [List.getElem?_set_ne (fun q => hi q.symm)]
    by_cases hn : i < n
    · simp [hn, ho i hi]
    · simp [hn]
theorem upd_self {f : Nat → Int32} {k : Nat} {x : Int32} : upd f k x k = x := by simp [upd]
theorem upd_ne {f : Nat → Int32} {k j : Nat} {x : Int32} (h : j ≠ k) : upd f k x j = f j := by simp [upd, h]
/-- all cells apart -/
def injA (A : Nat → Nat) : Prop := ∀ i j, i < NC → j < NC → A i = A j → i = j
def InA (A : Nat → Nat) (q : Nat) : Prop := ∃ k, k < NC ∧ q = A k
theorem wl_D {ct : Nat → ClassId} {A : Nat → Nat} {σ : Sg} (h : injA A) : va_D (InA A) (wl ct A σ) := by
  have key : ∀ (i : Nat) (p : Nat × va_E), (wl ct A σ)[i]? = some p → i < NC ∧ p.1 = A i := by
    intro i p hp
    by_cases hi : i < NC
    · rw [wl_at hi] at hp
      cases hp
      exact ⟨hi, rfl⟩
    · simp [wl, hi] at hp
  refine ⟨fun i j p q hp hq e => ?_, fun k q hq => ?_⟩
  · obtain ⟨a1, a2⟩ := key i p hp
    obtain ⟨b1, b2⟩ := key j q hq
    exact h i j a1 b1 (by rw [← a2, ← b2, e])
  · obtain ⟨a1, a2⟩ := key k q hq
    exact ⟨k, a1, a2⟩
/-- all words that hold of every state of a run -/
def AL : List Cond := lw_tbl.filter goodWord
theorem AL_good {w : Cond} (h : w ∈ AL) : (w.onTables && w.keeps) = true ∨ ∃ ty, w = .arrayClass ty := good_of_word (List.mem_filter.mp h).2
theorem AL_of {w : Cond} (i : Nat) (h : tables_1[i]? = some w) (g : goodWord w = true) : w ∈ AL := List.mem_filter.mpr ⟨List.mem_append_right _ (List.mem_of_getElem? h), g⟩
theorem AL_ofs {w : Cond} (i : Nat) (h : (k2_sels lw_privs)[i]? = some w) (g : goodWord w = true) : w ∈ AL := List.mem_filter.mpr ⟨List.mem_append_left _ (List.mem_of_getElem? h), g⟩
def ety (l : Nat × Nat × Nat) : FieldType := match l with
  | (1, 1, _) => .byte
  | (1, 2, _) => .boolean
  | (2, _, _) => .long
  | (3, 4, _) => .object "DownByAHair$Script"
  | (3, 5, _) => .object "DownByAHair$Reading"
  | _ => .int
/-- an array's class, by its cell (of a cell that is no array: any array of ints) -/
def tys (ct : Nat → ClassId) : List (ClassId × FieldType) := (List.range NC).map (fun k => (ct k, ety (lay k)))
theorem tys_at {ct : Nat → ClassId} {k t x n : Nat} (h : lay k = (t, x, n)) (ht : t < 9) : (tys ct)[k]? = some (ct k, ety (t, x, n)) := by
  have hk := lay_lt h ht
  simp [tys, hk, h]
