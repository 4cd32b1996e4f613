theorem I9_0 : I9_ s0_ := by
  refine ⟨fun k j => ?_, Or.inl rfl, Or.inl rfl⟩
  show Bd9_ k j (z_all k j).toInt
  unfold Bd9_
  split
  · unfold BdS_; split <;> first | exact trivial | decide +kernel
  · unfold BdS_; split <;> first | exact trivial | decide +kernel
  · unfold BdT_; split <;> first | exact trivial | decide +kernel
  · unfold BdR_; split <;> first | exact trivial | decide +kernel
  · split <;> first | exact trivial | decide +kernel
  · show 0 ≤ (0 : Int32).toInt ∧ (0 : Int32).toInt ≤ 14
    decide +kernel
  · unfold BdC_; split <;> first | exact trivial | decide +kernel
  · unfold BdC_; split <;> first | exact trivial | decide +kernel
  · unfold BdC_; split <;> first | exact trivial | decide +kernel
  · unfold BdC_; split <;> first | exact trivial | decide +kernel
  · exact Or.inl (show (0 : Int32).toInt ≤ 10010 by decide +kernel)
  · exact Or.inl (show (0 : Int32).toInt ≤ 10010 by decide +kernel)
  · exact Or.inl (show (0 : Int32).toInt ≤ 10010 by decide +kernel)
  · exact Or.inl (show (0 : Int32).toInt ≤ 10010 by decide +kernel)
  · exact trivial
