/-! the class's advance -/
theorem wkr_17 (f : Nat → Bool) : ∀ k, wkr_ f k ≠ 17 := by
  intro k
  induction k with
  | zero => show (25 : Nat) ≠ 17; decide
  | succ k ih =>
    show (if f (19 - k) = true then kds_.getD (19 - k) 25 else wkr_ f k) ≠ 17
    by_cases h : f (19 - k) = true
    · rw [if_pos h]
      have : ∀ j, j < 20 → kds_.getD j 25 ≠ 17 := by decide
      exact this _ (by omega)
    · rw [if_neg h]; exact ih
theorem sgk_17 (c d : Int) : sgk_ c d ≠ 17 := by
  unfold sgk_
  repeat' split
  all_goals decide
theorem sgk_lt (c d : Int) : sgk_ c d < 30 := by
  unfold sgk_
  repeat' split
  all_goals decide
theorem sgk_57 {c d : Int} (hn : ¬ ((c = 60 ∨ c = 62) ∧ d = 61)) : ¬ (sgk_ c d = 5 ∨ sgk_ c d = 7) := by
  unfold sgk_
  repeat' split
  all_goals first | omega | decide
theorem sgk_61 {c d : Int} (h : sgk_ c d = 5 ∨ sgk_ c d = 7) : d = 61 := by
  by_cases hd : d = 61
  · exact hd
  · exact absurd h (sgk_57 (fun e => hd e.2))
theorem Tk_17 {B : Nat → Int} {p st nx nm : Nat} (h : Tk_ B p 17 st nx nm) : dgt_ (B st) ∧ nm = val_ B st (nx - st) := by
  rcases h.2.2.2 with ⟨_, c2, _⟩ | ⟨_, _, _, _, c5⟩ | ⟨c1, _, _, _, _, c6⟩ | ⟨_, _, _, c4, _⟩
  · omega
  · exact absurd c5.symm (wkr_17 _ _)
  · exact ⟨c1, c6⟩
  · exact absurd c4.symm (sgk_17 _ _)
/-- what advance may change -/
def AF_ (s t : Sg) : Prop := (∀ k, k ≠ 3 → gi t k = gi s k) ∧ (∀ j, j < 2 ∨ 5 < j → gi t 3 j = gi s 3 j) ∧ t.2 = s.2
theorem AF_.rf {s : Sg} : AF_ s s := ⟨fun _ _ => rfl, fun _ _ => rfl, rfl⟩
theorem AF_.tr {s t u : Sg} (h1 : AF_ s t) (h2 : AF_ t u) : AF_ s u := ⟨fun k hk => by rw [h2.1 k hk, h1.1 k hk], fun j hj => by rw [h2.2.1 j hj, h1.2.1 j hj], by rw [h2.2.2, h1.2.2]⟩
theorem AF_.si {s t : Sg} {j : Nat} {v : Int32} (h : AF_ s t) (hj : 2 ≤ j ∧ j ≤ 5) : AF_ s (si t 3 j v) := ⟨fun k hk => by rw [gsi_f hk]; exact h.1 k hk, fun i hi => by rw [gsi_ne (by omega)]; exact h.2.1 i hi, h.2.2⟩
theorem AF_.tp {B : Nat → Int} {n : Nat} {s t : Sg} (h : AF_ s t) (hp : TPc_ B n s) : TPc_ B n t := ⟨by rw [h.2.1 1 (by decide)]; exact hp.1, hp.2.1, fun k hk => by rw [h.1 17 (by decide)]; exact hp.2.2.1 k hk, hp.2.2.2⟩
theorem sign9_e {B : Nat → Int} {n k : Nat} {s : Sg} (h : TPc_ B n s) (hk : k < n) {y : Bool} {d : Int} (hy : y = true ↔ d = 61) (t : Sg) : fX7_signToken (gi s 17 k) (b2i y) t = some (nI (sgk_ (B k) d), t) := by
  have E : ∀ m : Int32, 0 ≤ m.toInt → m.toInt < 128 → (gi s 17 k = m ↔ B k = m.toInt) := fun m a b => h.eq hk ⟨a, b⟩
  have e35 := E 35 (by decide +kernel) (by decide +kernel)
  have e40 := E 40 (by decide +kernel) (by decide +kernel)
  have e41 := E 41 (by decide +kernel) (by decide +kernel)
  have e42 := E 42 (by decide +kernel) (by decide +kernel)
  have e43 := E 43 (by decide +kernel) (by decide +kernel)
  have e45 := E 45 (by decide +kernel) (by decide +kernel)
  have e47 := E 47 (by decide +kernel) (by decide +kernel)
  have e59 := E 59 (by decide +kernel) (by decide +kernel)
  have e60 := E 60 (by decide +kernel) (by decide +kernel)
  have e61 := E 61 (by decide +kernel) (by decide +kernel)
  have e62 := E 62 (by decide +kernel) (by decide +kernel)
  rw [show (35 : Int32).toInt = 35 from rfl] at e35
  rw [show (40 : Int32).toInt = 40 from rfl] at e40
  rw [show (41 : Int32).toInt = 41 from rfl] at e41
  rw [show (42 : Int32).toInt = 42 from rfl] at e42
  rw [show (43 : Int32).toInt = 43 from rfl] at e43
  rw [show (45 : Int32).toInt = 45 from rfl] at e45
  rw [show (47 : Int32).toInt = 47 from rfl] at e47
  rw [show (59 : Int32).toInt = 59 from rfl] at e59
  rw [show (60 : Int32).toInt = 60 from rfl] at e60
  rw [show (61 : Int32).toInt = 61 from rfl] at e61
  rw [show (62 : Int32).toInt = 62 from rfl] at e62
  generalize gi s 17 k = c at *
  generalize B k = x at *
  clear E h hk
  unfold fX7_signToken sgk_
  by_cases h35 : x = 35
  · rw [if_pos (e35.mpr h35), if_pos h35]; rfl
  rw [if_neg (fun e => h35 (e35.mp e)), if_neg h35]
  by_cases h40 : x = 40
  · rw [if_pos (e40.mpr h40), if_pos h40]; rfl
  rw [if_neg (fun e => h40 (e40.mp e)), if_neg h40]
  by_cases h41 : x = 41
  · rw [if_pos (e41.mpr h41), if_pos h41]; rfl
  rw [if_neg (fun e => h41 (e41.mp e)), if_neg h41]
  by_cases h42 : x = 42
  · rw [if_pos (e42.mpr h42), if_pos h42]; rfl
  rw [if_neg (fun e => h42 (e42.mp e)), if_neg h42]
  by_cases h43 : x = 43
  · rw [if_pos (e43.mpr h43), if_pos h43]; rfl
  rw [if_neg (fun e => h43 (e43.mp e)), if_neg h43]
  by_cases h45 : x = 45
  · rw [if_pos (e45.mpr h45), if_pos h45]; rfl
  rw [if_neg (fun e => h45 (e45.mp e)), if_neg h45]
  by_cases h47 : x = 47
  · rw [if_pos (e47.mpr h47), if_pos h47]; rfl
  rw [if_neg (fun e => h47 (e47.mp e)), if_neg h47]
  by_cases h59 : x = 59
  · rw [if_pos (e59.mpr h59), if_pos h59]; rfl
  rw [if_neg (fun e => h59 (e59.mp e)), if_neg h59]
  by_cases h60 : x = 60
  · rw [if_pos (e60.mpr h60), if_pos h60]
    cases y with
    | true => rw [if_neg (show ¬ b2i true = 0 by decide +kernel), if_pos (hy.mp rfl)]; rfl
    | false => rw [if_pos (show b2i false = 0 from rfl), if_neg (fun e => nomatch hy.mpr e)]; rfl
  rw [if_neg (fun e => h60 (e60.mp e)), if_neg h60]
  by_cases h61 : x = 61
  · rw [if_pos (e61.mpr h61), if_pos h61]; rfl
  rw [if_neg (fun e => h61 (e61.mp e)), if_neg h61]
  by_cases h62 : x = 62
  · rw [if_pos (e62.mpr h62), if_pos h62]
    cases y with
    | true => rw [if_neg (show ¬ b2i true = 0 by decide +kernel), if_pos (hy.mp rfl)]; rfl
    | false => rw [if_pos (show b2i false = 0 from rfl), if_neg (fun e => nomatch hy.mpr e)]; rfl
  rw [if_neg (fun e => h62 (e62.mp e)), if_neg h62]
  rfl
/-- what is known of the class's token -/
def Ct_ (B : Nat → Int) (n p : Nat) (t : Sg) : Prop := ∃ kd st nx nm, Tk_ B p kd st nx nm ∧ nx ≤ n ∧ gi t 3 2 = nI kd ∧ gi t 3 3 = nI st ∧ gi t 3 4 = nI nx ∧ (kd = 17 → gi t 3 5 = nI nm)
theorem imin_ {a b : Nat} (ha : a < 2 ^ 31) (hb : b < 2 ^ 31) : imin (nI a) (nI b) = nI (min a b) := by
  unfold imin
  by_cases h : b < a
  · rw [if_pos ((nI_lti hb ha).mpr h), Nat.min_eq_right (by omega)]
  · rw [if_neg (fun e => h ((nI_lti hb ha).mp e)), Nat.min_eq_left (by omega)]
theorem advance9_v {B : Nat → Int} {n p : Nat} {s : Sg} (h : TPc_ B n s) (h4 : gi s 3 4 = nI p) (hp : p ≤ n) : pf_ (fX7_advance s) (fun t => AF_ s t ∧ Ct_ B n p t) := by
  generalize hQ : (fun t : Sg => AF_ s t ∧ Ct_ B n p t) = Q
  have hn := h.2.1
  have out : ∀ k, n ≤ k → ¬ skp_ (B k) ∧ ¬ ltr_ (B k) ∧ ¬ dgt_ (B k) := fun k hk => by
    have := h.2.2.2 k hk
    unfold skp_ ltr_ dgt_
    omega
  have fin : ∀ t kd st nx nm, AF_ s t → Tk_ B p kd st nx nm → nx ≤ n → gi t 3 2 = nI kd → gi t 3 3 = nI st → gi t 3 4 = nI nx → (kd = 17 → gi t 3 5 = nI nm) → pf_ (some t) Q := fun t kd st nx nm a b c d e f g => pf_some (by rw [← hQ]; exact ⟨a, kd, st, nx, nm, b, c, d, e, f, g⟩)
  unfold fX7_advance
  refine pf_jn (fun k => ∀ u i, AF_ s u → gi u 3 4 = nI i → p ≤ i → i ≤ n → (∀ j, p ≤ j → j < i → skp_ (B j)) → ¬ skp_ (B i) → pf_ (k u) Q) ?_ (fun k2 hk2 => ?_)
  · intro u i au u4 hpi hin hsk hns
    try dsimp only
    refine pf_bv (fun t et => ?_)
    have a_t : AF_ s t := by rw [et]; exact au.si (by decide)
    have t3 : gi t 3 3 = nI i := by rw [et, gsi_eq, u4]
    have t4 : gi t 3 4 = nI i := by rw [et, gsi_ne (by decide), u4]
    have tp := a_t.tp h
    clear et
    rw [t4, tp.1]
    refine pf_ifi (nI_lti (by omega) (by omega)) (fun hlt => ?_) (fun hge => ?_)
    · refine pf_chk (fun _ => ?_)
      rw [ix_nI (show i < 2 ^ 31 by omega)]
      obtain ⟨b, eb, hb⟩ := isLetter9_v (t := t) tp hlt
      refine pf_bnde eb ?_
      have hbi := h.2.2.1 i hlt
      refine pf_jn (fun k => ∀ v nx, AF_ s v → gi v 3 3 = nI i → gi v 3 4 = nI nx → i < nx → nx ≤ n → (∀ j, i ≤ j → j < nx → ltr_ (B j)) → ¬ ltr_ (B nx) → pf_ (k v) Q) ?_ (fun k8 hk8 => ?_)
      · intro v nx av v3 v4 h1 h2 h3' h5
        try dsimp only
        refine pf_bnd (wordToken9_v (av.tp h) v3 v4 (by omega) h2) (fun r w hw => ?_)
        obtain ⟨hw1, hw2⟩ := hw
        dsimp only at hw1 hw2
        subst hw1
        refine pf_bv (fun z ez => ?_)
        refine fin z (wk_ B i (nx - i)) i nx 0 (by rw [ez]; exact av.si (by decide)) ⟨hpi, hsk, hns, Or.inr (Or.inl ⟨h3' i (by omega) h1, h1, h3', h5, rfl⟩)⟩ h2 (by rw [ez, gsi_eq, hw2]) (by rw [ez, gsi_ne (by decide)]; exact v3) (by rw [ez, gsi_ne (by decide)]; exact v4) (fun e => absurd e (wkr_17 _ _))
      · refine pf_ifc (fun hl => ?_) (fun hl => ?_)
        · have hnl : ¬ ltr_ (B i) := fun e => by rw [hb.mpr e] at hl; exact absurd hl (by decide +kernel)
          refine pf_chk (fun _ => ?_)
          rw [t4, ix_nI (show i < 2 ^ 31 by omega)]
          obtain ⟨c, ec, hc⟩ := isDigit9_v (t := t) tp hlt
          refine pf_bnde ec (pf_ifc (fun hd => ?_) (fun hd => ?_))
          · have hnd : ¬ dgt_ (B i) := fun e => by rw [hc.mpr e] at hd; exact absurd hd (by decide +kernel)
            refine pf_chk (fun _ => ?_)
            rw [t4, tp.1, ix_nI (show i < 2 ^ 31 by omega)]
            refine pf_jn (fun k => ∀ y, (y = true ↔ B (i + 1) = 61) → pf_ (k (gi t 17 i) y) Q) ?_ (fun k23 hk23 => ?_)
            · intro y hy
              try dsimp only
              refine pf_bnde (sign9_e tp hlt hy t) (pf_bv (fun z ez => ?_))
              have az : AF_ s z := by rw [ez]; exact a_t.si (by decide)
              have z2 : gi z 3 2 = nI (sgk_ (B i) (B (i + 1))) := by rw [ez, gsi_eq]
              have z3 : gi z 3 3 = nI i := by rw [ez, gsi_ne (by decide)]; exact t3
              have z4 : gi z 3 4 = nI i := by rw [ez, gsi_ne (by decide)]; exact t4
              clear ez
              have sg := sgk_lt (B i) (B (i + 1))
              have e57 : (sgk_ (B i) (B (i + 1)) = 5 ∨ sgk_ (B i) (B (i + 1)) = 7) → B (i + 1) = 61 := sgk_61
              have n61 : B (i + 1) = 61 → i + 1 < n := fun e => by
                by_cases hh : i + 1 < n
                · exact hh
                · have := h.2.2.2 (i + 1) (by omega); omega
              refine pf_jn (fun k => ∀ d : Nat, (d = if sgk_ (B i) (B (i + 1)) = 5 ∨ sgk_ (B i) (B (i + 1)) = 7 then 2 else 1) → pf_ (k (nI i) (nI d)) Q) ?_ (fun k29 hk29 => ?_)
              · intro d hd'
                try dsimp only
                refine pf_bv (fun y2 ey2 => ?_)
                rw [nI_add_] at ey2
                refine fin y2 (sgk_ (B i) (B (i + 1))) i (i + d) 0 (by rw [ey2]; exact az.si (by decide)) ⟨hpi, hsk, hns, Or.inr (Or.inr (Or.inr ⟨by omega, hnl, hnd, rfl, by rw [hd']⟩))⟩ ?_ (by rw [ey2, gsi_ne (by decide)]; exact z2) (by rw [ey2, gsi_ne (by decide)]; exact z3) (by rw [ey2, gsi_eq]) (fun e => absurd e (sgk_17 _ _))
                by_cases hh : sgk_ (B i) (B (i + 1)) = 5 ∨ sgk_ (B i) (B (i + 1)) = 7
                · rw [if_pos hh] at hd'
                  have := n61 (e57 hh)
                  omega
                · rw [if_neg hh] at hd'
                  omega
              · refine pf_jn (fun k => (sgk_ (B i) (B (i + 1)) = 5 ∨ sgk_ (B i) (B (i + 1)) = 7) → pf_ (k (nI i)) Q) (fun hh => hk29 2 (by rw [if_pos hh])) (fun k32 hk32 => ?_)
                rw [z2, z4, show (5 : Int32) = nI 5 from rfl, show (7 : Int32) = nI 7 from rfl]
                refine pf_ifi (nI_eqi (by omega) (by omega)) (fun e5 => hk32 (Or.inl e5)) (fun n5 => pf_ifi (nI_eqi (by omega) (by omega)) (fun e7 => hk32 (Or.inr e7)) (fun n7 => hk29 1 (by rw [if_neg (by omega)])))
            · refine pf_jn (fun k => ¬ B (i + 1) = 61 → pf_ (k (gi t 17 i)) Q) (fun hne => hk23 false ⟨fun e => (nomatch e), fun e => absurd e hne⟩) (fun k34 hk34 => ?_)
              rw [nI_1]
              refine pf_ifi (nI_lei (by omega) (by omega)) (fun hle => hk34 (fun e => ?_)) (fun hlt2 => pf_chk (fun _ => ?_))
              · have := h.2.2.2 (i + 1) (by omega)
                omega
              · rw [ix_nI (show i + 1 < 2 ^ 31 by omega)]
                exact pf_ifi (show gi t 17 (i + 1) = 61 ↔ B (i + 1) = 61 from tp.eq (by omega) (by decide +kernel)) (fun e => hk23 true ⟨fun _ => e, fun _ => rfl⟩) (fun e => hk34 e)
          · have hdg : dgt_ (B i) := hc.mp (b2i_ne hd)
            unfold fX7_readNumber
            refine pf_bnv (P := fun z => AF_ s z ∧ ∃ nx, gi z 3 2 = nI 17 ∧ gi z 3 3 = nI i ∧ gi z 3 4 = nI nx ∧ i < nx ∧ nx ≤ n ∧ (∀ j, i ≤ j → j < nx → dgt_ (B j)) ∧ ¬ dgt_ (B nx) ∧ gi z 3 5 = nI (val_ B i (nx - i))) ?_ (fun z hz => ?_)
            · refine pf_bv (fun z1 e1 => pf_bv (fun z2 e2 => ?_))
              have a2 : AF_ s z2 := by rw [e2, e1]; exact (a_t.si (by decide)).si (by decide)
              have k2' : gi z2 3 2 = nI 17 := by rw [e2, gsi_ne (by decide), e1, gsi_eq]; rfl
              have k3 : gi z2 3 3 = nI i := by rw [e2, gsi_ne (by decide), e1, gsi_ne (by decide)]; exact t3
              have k4 : gi z2 3 4 = nI i := by rw [e2, gsi_ne (by decide), e1, gsi_ne (by decide)]; exact t4
              have k5 : gi z2 3 5 = nI (val_ B i 0) := by rw [e2, gsi_eq]; rfl
              clear e1 e2
              refine pf_lo1 (fun z => AF_ s z ∧ ∃ d, gi z 3 2 = nI 17 ∧ gi z 3 3 = nI i ∧ gi z 3 4 = nI (i + d) ∧ i + d ≤ n ∧ (∀ j, i ≤ j → j < i + d → dgt_ (B j)) ∧ gi z 3 5 = nI (val_ B i d)) ?_ FU z2 ⟨a2, 0, k2', k3, k4, by omega, fun j _ _ => by omega, k5⟩
              rintro rec z ⟨az, d, g2, g3, g4, gn, gd, g5⟩ hr
              have zp := az.tp h
              unfold fX7_readNumber_11_b
              rw [zp.1, g4]
              have done : ¬ dgt_ (B (i + d)) → AF_ s z ∧ ∃ nx, gi z 3 2 = nI 17 ∧ gi z 3 3 = nI i ∧ gi z 3 4 = nI nx ∧ i < nx ∧ nx ≤ n ∧ (∀ j, i ≤ j → j < nx → dgt_ (B j)) ∧ ¬ dgt_ (B nx) ∧ gi z 3 5 = nI (val_ B i (nx - i)) := fun hnd => by
                refine ⟨az, i + d, g2, g3, g4, ?_, gn, gd, hnd, by rw [Nat.add_sub_cancel_left]; exact g5⟩
                by_cases e : d = 0
                · subst e; exact absurd hdg hnd
                · omega
              refine pf_ifi (nI_lei (by omega) (by omega)) (fun hle => pf_some (done (out _ hle).2.2)) (fun hlt3 => pf_chk (fun _ => ?_))
              rw [ix_nI (show i + d < 2 ^ 31 by omega)]
              obtain ⟨c2, ec2, hc2⟩ := isDigit9_v (t := z) zp (show i + d < n by omega)
              refine pf_bnde ec2 (pf_ifc (fun e => pf_some (done (fun e' => by rw [hc2.mpr e'] at e; exact absurd e (by decide +kernel)))) (fun e => pf_chk (fun _ => ?_)))
              have hd2 := hc2.mp (b2i_ne e)
              have vle := val_le B i d
              have hb17 := zp.2.2.1 (i + d) (by omega)
              have e17 : gi z 17 (i + d) - 48 = nI (B (i + d) - 48).toNat := by
                have hd3 := hd2
                unfold dgt_ at hd3
                apply Int32.toInt_inj.mp
                rw [if_pos (by omega)] at hb17
                rw [ti_sub (by rw [hb17.2.2, show (48 : Int32).toInt = 48 from rfl]; omega) (by rw [hb17.2.2, show (48 : Int32).toInt = 48 from rfl]; omega), hb17.2.2, show (48 : Int32).toInt = 48 from rfl, nI_toInt (by omega)]
                omega
              have m10 : nI (val_ B i d) * 10 = nI (val_ B i d * 10) := by
                apply Int32.toInt_inj.mp
                rw [Int32.mul_comm, tm_10 (by rw [nI_toInt (by omega)]; omega) (by rw [nI_toInt (by omega)]; omega), nI_toInt (by omega), nI_toInt (by omega)]
                omega
              have hd3 := hd2
              unfold dgt_ at hd3
              rw [g5, g4, ix_nI (show i + d < 2 ^ 31 by omega), e17, m10, nI_add_, show (10000 : Int32) = nI 10000 from rfl, imin_ (by omega) (by omega)]
              refine pf_bv (fun y1 f1 => pf_bv (fun y2 f2 => ?_))
              have y14 : gi y1 3 4 = nI (i + d) := by rw [f1, gsi_ne (by decide)]; exact g4
              rw [y14, nI_1] at f2
              refine hr y2 ⟨by rw [f2, f1]; exact (az.si (by decide)).si (by decide), d + 1, by rw [f2, gsi_ne (by decide), f1, gsi_ne (by decide)]; exact g2, by rw [f2, gsi_ne (by decide), f1, gsi_ne (by decide)]; exact g3, by rw [f2, gsi_eq]; rfl, by omega, fun j j1 j2 => ?_, by rw [f2, gsi_ne (by decide), f1, gsi_eq]; rfl⟩
              by_cases ej : j = i + d
              · subst ej; exact hd2
              · exact gd j j1 (by omega)
            · obtain ⟨az, nx, g2, g3, g4, g5, g6, g7, g8, g9⟩ := hz
              exact fin z 17 i nx (val_ B i (nx - i)) az ⟨hpi, hsk, hns, Or.inr (Or.inr (Or.inl ⟨hdg, g5, g7, g8, rfl, rfl⟩))⟩ g6 g2 g3 g4 (fun _ => g9)
        · have hlt' := hb.mp (b2i_ne hl)
          refine pf_lo1 (fun v => AF_ s v ∧ ∃ nx, gi v 3 3 = nI i ∧ gi v 3 4 = nI nx ∧ i ≤ nx ∧ nx ≤ n ∧ ∀ j, i ≤ j → j < nx → ltr_ (B j)) ?_ FU t ⟨a_t, i, t3, t4, Nat.le_refl _, by omega, fun j j1 j2 => by omega⟩
          rintro rec v ⟨av, nx, v3, v4, h1, h2, h5⟩ hr
          have vp := av.tp h
          unfold fX7_advance_95_b
          rw [vp.1, v4]
          have gt : ¬ ltr_ (B nx) → i < nx := fun e => by
            by_cases e' : nx = i
            · subst e'; exact absurd hlt' e
            · omega
          refine pf_ifi (nI_lei (by omega) (by omega)) (fun hle => hk8 v nx av v3 v4 (gt (out _ hle).2.1) h2 h5 (out _ hle).2.1) (fun hlt3 => pf_chk (fun _ => ?_))
          rw [ix_nI (show nx < 2 ^ 31 by omega)]
          obtain ⟨c2, ec2, hc2⟩ := isLetter9_v (t := v) vp (show nx < n by omega)
          refine pf_bnde ec2 (pf_ifc (fun e => ?_) (fun e => pf_bv (fun z ez => ?_)))
          · have hnl : ¬ ltr_ (B nx) := fun e' => by rw [hc2.mpr e'] at e; exact absurd e (by decide +kernel)
            exact hk8 v nx av v3 v4 (gt hnl) h2 h5 hnl
          · rw [v4, nI_1] at ez
            refine hr z ⟨by rw [ez]; exact av.si (by decide), nx + 1, by rw [ez, gsi_ne (by decide)]; exact v3, by rw [ez, gsi_eq], by omega, by omega, fun j j1 j2 => ?_⟩
            by_cases ej : j = nx
            · subst ej; exact hc2.mp (b2i_ne e)
            · exact h5 j j1 (by omega)
    · have e : i = n := by omega
      subst e
      refine pf_bv (fun z ez => ?_)
      exact fin z 24 i i 0 (by rw [ez]; exact a_t.si (by decide)) ⟨hpi, hsk, hns, Or.inl ⟨h.2.2.2 i (Nat.le_refl _), rfl, rfl⟩⟩ (Nat.le_refl _) (by rw [ez, gsi_eq]; rfl) (by rw [ez, gsi_ne (by decide)]; exact t3) (by rw [ez, gsi_ne (by decide)]; exact t4) (fun e => by omega)
  · refine pf_lo1 (fun u => AF_ s u ∧ ∃ i, gi u 3 4 = nI i ∧ p ≤ i ∧ i ≤ n ∧ ∀ j, p ≤ j → j < i → skp_ (B j)) ?_ FU s ⟨AF_.rf, p, h4, Nat.le_refl _, hp, fun j j1 j2 => by omega⟩
    rintro rec u ⟨au, i, u4, h1, h2, h3⟩ hr
    have up := au.tp h
    unfold fX7_advance_0_b
    rw [up.1, u4]
    refine pf_ifi (nI_lei (by omega) (by omega)) (fun hle => hk2 u i au u4 h1 h2 h3 (out _ hle).1) (fun hlt => pf_chk (fun _ => ?_))
    rw [ix_nI (show i < 2 ^ 31 by omega)]
    refine pf_jn (fun k => skp_ (B i) → pf_ k Q) ?_ (fun k40 hk40 => ?_)
    · intro hs
      refine pf_bv (fun z ez => ?_)
      rw [nI_1] at ez
      refine hr z ⟨by rw [ez]; exact au.si (by decide), i + 1, by rw [ez, gsi_eq], by omega, by omega, fun j j1 j2 => ?_⟩
      by_cases ej : j = i
      · subst ej; exact hs
      · exact h3 j j1 (by omega)
    · refine pf_ifi (show gi u 17 i = 32 ↔ B i = 32 from up.eq (by omega) (by decide +kernel)) (fun e => hk40 (Or.inl e)) (fun n32 => pf_ifi (show gi u 17 i = 10 ↔ B i = 10 from up.eq (by omega) (by decide +kernel)) (fun e => hk40 (Or.inr e)) (fun n10 => hk2 u i au u4 h1 h2 h3 (fun e => ?_)))
      rcases e with e | e
      · exact n32 e
      · exact n10 e
