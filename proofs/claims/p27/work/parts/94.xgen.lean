/-! small rows -/
theorem pf_ifc {β : Type} {c : Prop} [Decidable c] {f g : Option β} {Q : β → Prop} (h1 : c → pf_ f Q) (h2 : ¬ c → pf_ g Q) : pf_ (if c then f else g) Q := by
  by_cases h : c
  · rw [if_pos h]; exact h1 h
  · rw [if_neg h]; exact h2 h
theorem pf_ifi {β : Type} {c d : Prop} [Decidable c] {f g : Option β} {Q : β → Prop} (e : c ↔ d) (h1 : d → pf_ f Q) (h2 : ¬ d → pf_ g Q) : pf_ (if c then f else g) Q := pf_ifc (fun h => h1 (e.mp h)) (fun h => h2 (fun h' => h (e.mpr h')))
theorem pf_bnde {α β : Type} {f : Option (α × Sg)} {s : Sg} {r : α} {k : α → Sg → Option β} {Q : β → Prop} (h : f = some (r, s)) (hk : pf_ (k r s) Q) : pf_ (bnd f k) Q := by
  rw [h]; exact hk
theorem nI_lei {a b : Nat} (ha : a < 2 ^ 31) (hb : b < 2 ^ 31) : nI a ≤ nI b ↔ a ≤ b := by
  rw [Int32.le_iff_toInt_le, nI_toInt ha, nI_toInt hb]; omega
theorem nI_lti {a b : Nat} (ha : a < 2 ^ 31) (hb : b < 2 ^ 31) : nI a < nI b ↔ a < b := by
  rw [Int32.lt_iff_toInt_lt, nI_toInt ha, nI_toInt hb]; omega
theorem nI_eqi {a b : Nat} (ha : a < 2 ^ 31) (hb : b < 2 ^ 31) : nI a = nI b ↔ a = b := by
  constructor
  · intro h
    have := congrArg Int32.toInt h
    rw [nI_toInt ha, nI_toInt hb] at this
    omega
  · intro h; rw [h]
theorem nI_add_ (a b : Nat) : nI a + nI b = nI (a + b) := (nI_add a b)
theorem sub_ {a b : Nat} (h : b ≤ a) : nI a - nI b = nI (a - b) := by
  obtain ⟨c, rfl⟩ : ∃ c, a = c + b := ⟨a - b, by omega⟩
  rw [← nI_add_, Int32.add_sub_cancel, Nat.add_sub_cancel]
