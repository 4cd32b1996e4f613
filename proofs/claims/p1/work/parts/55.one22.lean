def chkW_ (n : Nat) : Bool := match wsr_ n 5 1 with
  | none => false
  | some (K, st) => decide (st.length = K) && decide (K ≤ 4) && decide ((fX9_weights (nI n) (-1) s0_).map (fun q => q.1) = some (nI K)) && (List.range 4).all (fun i => decide ((fX9_weights (nI n) (nI i) s0_).map (fun q => q.1) = some (if i < K then nI (cAt_ st i) else -1)))
theorem chkW_ok : ∀ n, n < 41 → 1 ≤ n → chkW_ n = true := by decide +kernel
