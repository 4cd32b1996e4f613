/-! the model's frame, once more with the limits ahead -/
def Z10_ (s t : Sg) : Prop := I10_ t ∧ K10_ s t
theorem Z10_.rf {s : Sg} (h : I10_ s) : Z10_ s s := ⟨h, K10_.rf h⟩
theorem Z10_.tr {s t u : Sg} (h1 : Z10_ s t) (h2 : Z10_ t u) : Z10_ s u := ⟨h2.1, h1.2.tr h2.2⟩
theorem Z10_.si {s σ : Sg} (h : Z10_ s σ) {k j : Nat} {v : Int32} (hk : 27 ≤ k ∧ k < 48 ∧ k ≠ 30 ∧ k ≠ 29) (hb : Bd10_ k j v.toInt) (hj : k = 28 → ¬ kp_ j) : Z10_ s (si σ k j v) := ⟨h.1.si hb, h.2.si hk hb hj⟩
theorem Z10_.sl {s σ : Sg} (h : Z10_ s σ) {k j : Nat} {v : Int64} : Z10_ s (sl σ k j v) := ⟨(N10_.sl h.2.1 (k := k) (j := j) (v := v)).1, h.2.sl⟩
