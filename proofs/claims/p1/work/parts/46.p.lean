theorem bv_p {α β : Type} (a : α) (k : α → β) : bv a k = k a := Eq.trans (Eq.refl _) (Eq.refl _)
theorem bnd_p {α β : Type} (r : α) (s : Sg) (k : α → Sg → Option β) : bnd (some (r, s)) k = k r s := Eq.trans (Eq.refl _) (Eq.refl _)
theorem bnv_p {β : Type} (s : Sg) (k : Sg → Option β) : bnv (some s) k = k s := Eq.trans (Eq.refl _) (Eq.refl _)
theorem chk_p {α : Type} (f : Option α) : chk true f = f := Eq.trans (Eq.refl _) (Eq.refl _)
theorem b2i_t : b2i true = 1 := rfl
theorem b2i_f : b2i false = 0 := rfl
theorem one_n0 : ¬ ((1 : Int32) = 0) := by decide +kernel
