set_option maxHeartbeats 8000000 in
set_option maxRecDepth 100000 in
/-- the law from its entry, for any invariant of its loop -/
theorem whole_gen {p : Program} {e : Env} {s : State} {m : MethodId} {below : List Frame} {meth : Method} {c : Code} (l : Launch) {b L : Nat} {xs : Nat → Int32} (hL : L ≤ 3072) (C0 : lw_At p s m meth c b L xs) (I : Nat → Sg → Prop) (hI0 : I 0 s0_) (hI : ∀ (i : Nat) (σ : Sg), I i σ → i + 6 ≤ L → ∃ σ2, stp_ (xs i) (xs (i + 1)) (xs (i + 2)) (xs (i + 3)) (xs (i + 4)) (xs (i + 5)) σ = some σ2 ∧ I (i + 6) σ2) : W p l e room_1 s m #[Value.ref b] below meth c s.heap [] 0 0 (lw_Z below #[Value.ref b] s) (entryFrame m ([Value.ref b] : List Value).toArray 4) := by
  obtain ⟨hx, hb, hr, hml, hown, hts0, hX, hbl, hlocks, hgv⟩ := id C0
  have hts : ∀ w ∈ AL, w.before #[Value.ref b] s = true := fun w hw => hts0 w (List.mem_filter.mp hw).1
  have hSD : SD s := sd_ok hts0
  obtain ⟨t0, t1, t2, t3, adK, adV, hFX⟩ := st_ok hts0 hgv
  obtain ⟨c_0_, i_0_, hk_0⟩ := u_known (C := RX0) (T := TX0) (N := 3) (n := 3) hts inA0 (hts0 _ (tw_2 (List.mem_of_getElem? (i := 67) rfl)))
  obtain ⟨c_1_, i_1_, hk_1⟩ := u_known (C := RX1) (T := TX1) (N := 6) (n := 6) hts inA1 (hts0 _ (tw_2 (List.mem_of_getElem? (i := 42) rfl)))
  obtain ⟨c_2_, i_2_, hk_2⟩ := u_known (C := RX2) (T := TX2) (N := 13) (n := 13) hts inA2 (hts0 _ (tw_1 (List.mem_of_getElem? (i := 204) rfl)))
  obtain ⟨c_3_, i_3_, hk_3⟩ := u_known (C := RX3) (T := TX3) (N := 11) (n := 11) hts inA3 (hts0 _ (tw_1 (List.mem_of_getElem? (i := 38) rfl)))
  obtain ⟨c_4_, i_4_, hk_4⟩ := u_known (C := RX4) (T := TX4) (N := 5) (n := 5) hts inA4 (hts0 _ (tw_2 (List.mem_of_getElem? (i := 14) rfl)))
  obtain ⟨c_5_, i_5_, hk_5⟩ := u_known (C := RX5) (T := TX5) (N := 10) (n := 10) hts inA5 (hts0 _ (tw_2 (List.mem_of_getElem? (i := 84) rfl)))
  obtain ⟨c_6_, i_6_, hk_6⟩ := u_known (C := RX6) (T := TX6) (N := 18) (n := 18) hts inA6 (hts0 _ (tw_1 (List.mem_of_getElem? (i := 28) rfl)))
  obtain ⟨c_7_, i_7_, hk_7⟩ := u_known (C := RX7) (T := TX7) (N := 6) (n := 6) hts inA7 (hts0 _ (tw_1 (List.mem_of_getElem? (i := 174) rfl)))
  obtain ⟨c_8_, i_8_, hk_8⟩ := u_known (C := RX9) (T := TX9) (N := 8) (n := 8) hts inA9 (hts0 _ (tw_1 (List.mem_of_getElem? (i := 20) rfl)))
  obtain ⟨c_9_, i_9_, hk_9⟩ := u_known (C := RX10) (T := TX10) (N := 38) (n := 38) hts inA10 (hts0 _ (tw_4 (List.mem_of_getElem? (i := 165) rfl)))
  obtain ⟨D, hKc⟩ : ∃ D : va_G, ∀ (k : Nat) (q : vw_C), vwCl[k]? = some q → u_Kn s q.1 q.2.1 q.2.2 (D.1 k) (D.2 k) := by
    refine ⟨(fun k => [c_0_, c_1_, c_2_, c_3_, c_4_, c_5_, c_6_, c_7_, c_8_, c_9_].getD k c_0_, fun k => [i_0_, i_1_, i_2_, i_3_, i_4_, i_5_, i_6_, i_7_, i_8_, i_9_].getD k i_0_), ?_⟩
    intro k q hq
    match k, hq with
    | 0, hq => cases hq; exact hk_0
    | 1, hq => cases hq; exact hk_1
    | 2, hq => cases hq; exact hk_2
    | 3, hq => cases hq; exact hk_3
    | 4, hq => cases hq; exact hk_4
    | 5, hq => cases hq; exact hk_5
    | 6, hq => cases hq; exact hk_6
    | 7, hq => cases hq; exact hk_7
    | 8, hq => cases hq; exact hk_8
    | 9, hq => cases hq; exact hk_9
    | k + 10, hq => simp [vwCl] at hq
  have hA : ∀ q : Nat, s.heap.size ≤ q → N_Ws s q := fun _ h => h
  have hS : va_S (N_Ws s) s.heap s.heap [] := va_S.rf
  have hK : va_K D vwCl [] s := ⟨hKc, fun k q h => by simp at h⟩
  have hP : va_P D vwCl [] s.heap := fun k q h => by simp at h
  have hD : va_D (N_Ws s) [] := ⟨fun i j p q h => by simp at h, fun k q h => by simp at h⟩
  have hl := lv_entry ([.ref b]) (n := 4) (Nat.le_of_ble_eq_true rfl)
  rw [lg_entry_eq]
  generalize (lg_sl ([.ref b]) ++ List.replicate (4 - (lg_sl ([.ref b])).length) Slot.unset).toArray = ls at hl ⊢
  have hl : lv_has ls 4 [(0, .ref b)] := hl
  refine va_new (ci := 8) (fs := [.null, .null, .null, .null, .null, .null, .null, .null]) (C := RX9) (T := TX9) (N := 8) hx hb hts inA9 tyX9 tyX9_ok hown (hts _ we_19) (hts _ we_20) (hts _ we_1) hK hP hD hS hA rfl df_9 (Nat.le_of_ble_eq_true rfl) (Nat.le_of_ble_eq_true rfl) dL_law_0 (fun q_1 H hP hD hS => ?_)
  have hP : va_P D vwCl [(q_1, .inr (8, [.null, .null, .null, .null, .null, .null, .null, .null]))] H := hP
  have hD : va_D (N_Ws s) [(q_1, .inr (8, [.null, .null, .null, .null, .null, .null, .null, .null]))] := hD
  refine lv_dup hx hb dL_law_3 rfl ?_
  have hPc := hP.sub (ws' := [(q_1, .inr (8, [.null, .null, .null, .null, .null, .null, .null, .null]))]) [0] rfl
  have hDc := hD.sub (ws' := [(q_1, .inr (8, [.null, .null, .null, .null, .null, .null, .null, .null]))]) [0] (by decide) rfl
  have hKc := hK.sub (tys' := []) [] rfl
  have hFc := va_free (wc := [(q_1, .inr (8, [.null, .null, .null, .null, .null, .null, .null, .null]))]) hD hS hA [0] rfl
  refine va_callv (va_runI (As := []) (rest := [.ref q_1]) ⟨hx, hb, hml, hown, hts⟩ (cX9_init_8 l D q_1 H.size) (cwI 0 hts (good_A we_23) rfl rfl rfl (hts _ we_1) (hts _ we_21) (hts _ we_22) rfl (by decide +kernel) ⟨Nat.le_of_ble_eq_true rfl, Nat.le_of_ble_eq_true rfl⟩) ⟨PcC.blind, fun U hU hW => ⟨rfl, by rw [hU], by rw [hU]; exact hPc, va_K.moved hW.alike hKc, hDc.weaken (fun _ _ _ _ => trivial), hSD.warm hW⟩⟩ rfl rfl hl.1 rfl (lv_room (Nat.le_of_ble_eq_true rfl)) dL_law_4 ⟨Nat.le_of_ble_eq_true rfl, Nat.le_of_ble_eq_true rfl⟩) hS (fun q _ h => hFc q h) hFc (fun u_ t_ H1 locs ht hvm hw hB hz1 hk1 hS => ?_)
  obtain ⟨f, g, hP1, hK1, hD1⟩ := ex_X9 hB
  rw [ht] at hP1
  have hK1 := va_K.moved hvm.symm hK1
  obtain ⟨hP, hD⟩ := va_join (wr := []) (w1 := LL9 q_1 f g) hP hD [0] [] rfl rfl (by decide) (by decide) hk1 hFc hP1 hD1
  have hK : va_K D vwCl (TL9 g) s := hK.app hK1
  have hP : va_P D vwCl (LL9 q_1 f g) H1 := hP
  have hD : va_D (N_Ws s) (LL9 q_1 f g) := hD
  clear hP1 hD1 hPc hDc hFc hk1 hB
  generalize H1 = H at hP hS ⊢
  refine lv_astore_n (lv' := [(1, .ref q_1), (0, .ref b)]) hx hb dL_law_7 rfl hl (by decide) rfl (fun ls hl => ?_)
  refine va_new (ci := 9) (fs := [.null, .null, .null, .null, .int 0, .int 0, .int 0, .int 0, .int 0, .int 0, .int 0, .long 0, .int 0, .int 0, .int 0, .int 0, .null, .int 0, .int 0, .int 0, .int 0, .int 0, .null, .null, .null, .null, .null, .null, .null, .int 0, .null, .null, .null, .null, .null, .null, .null, .null]) (C := RX10) (T := TX10) (N := 38) hx hb hts inA10 tyX10 tyX10_ok hown (hts _ we_884) (hts _ we_885) (hts _ we_11) hK hP hD hS hA rfl df_10 (Nat.le_of_ble_eq_true rfl) (Nat.le_of_ble_eq_true rfl) dL_law_8 (fun q_103 H hP hD hS => ?_)
  have hP : va_P D vwCl (LL9 q_1 f g ++ [(q_103, .inr (9, [.null, .null, .null, .null, .int 0, .int 0, .int 0, .int 0, .int 0, .int 0, .int 0, .long 0, .int 0, .int 0, .int 0, .int 0, .null, .int 0, .int 0, .int 0, .int 0, .int 0, .null, .null, .null, .null, .null, .null, .null, .int 0, .null, .null, .null, .null, .null, .null, .null, .null]))]) H := hP
  have hD : va_D (N_Ws s) (LL9 q_1 f g ++ [(q_103, .inr (9, [.null, .null, .null, .null, .int 0, .int 0, .int 0, .int 0, .int 0, .int 0, .int 0, .long 0, .int 0, .int 0, .int 0, .int 0, .null, .int 0, .int 0, .int 0, .int 0, .int 0, .null, .null, .null, .null, .null, .null, .null, .int 0, .null, .null, .null, .null, .null, .null, .null, .null]))]) := hD
  refine lv_dup hx hb dL_law_11 rfl ?_
  have hPc := hP.sub (ws' := [(q_103, .inr (9, [.null, .null, .null, .null, .int 0, .int 0, .int 0, .int 0, .int 0, .int 0, .int 0, .long 0, .int 0, .int 0, .int 0, .int 0, .null, .int 0, .int 0, .int 0, .int 0, .int 0, .null, .null, .null, .null, .null, .null, .null, .int 0, .null, .null, .null, .null, .null, .null, .null, .null]))]) [67] rfl
  have hDc := hD.sub (ws' := [(q_103, .inr (9, [.null, .null, .null, .null, .int 0, .int 0, .int 0, .int 0, .int 0, .int 0, .int 0, .long 0, .int 0, .int 0, .int 0, .int 0, .null, .int 0, .int 0, .int 0, .int 0, .int 0, .null, .null, .null, .null, .null, .null, .null, .int 0, .null, .null, .null, .null, .null, .null, .null, .null]))]) [67] (by decide) rfl
  have hKc := hK.sub (tys' := []) [] rfl
  have hFc := va_free (wc := [(q_103, .inr (9, [.null, .null, .null, .null, .int 0, .int 0, .int 0, .int 0, .int 0, .int 0, .int 0, .long 0, .int 0, .int 0, .int 0, .int 0, .null, .int 0, .int 0, .int 0, .int 0, .int 0, .null, .null, .null, .null, .null, .null, .null, .int 0, .null, .null, .null, .null, .null, .null, .null, .null]))]) hD hS hA [67] rfl
  refine va_callv (va_runI (As := []) (rest := [.ref q_103]) ⟨hx, hb, hml, hown, hts⟩ (cX10_init_9 l D q_103 H.size) (cwI 0 hts (good_A we_888) rfl rfl rfl (hts _ we_11) (hts _ we_886) (hts _ we_887) rfl (by decide +kernel) ⟨Nat.le_of_ble_eq_true rfl, Nat.le_of_ble_eq_true rfl⟩) ⟨PcC.blind, fun U hU hW => ⟨rfl, by rw [hU], by rw [hU]; exact hPc, va_K.moved hW.alike hKc, hDc.weaken (fun _ _ _ _ => trivial), hSD.warm hW⟩⟩ rfl rfl hl.1 rfl (lv_room (Nat.le_of_ble_eq_true rfl)) dL_law_12 ⟨Nat.le_of_ble_eq_true rfl, Nat.le_of_ble_eq_true rfl⟩) hS (fun q _ h => hFc q h) hFc (fun u_ t_ H1 locs ht hvm hw hB hz1 hk1 hS => ?_)
  obtain ⟨f2, g2, z, hz, hP1, hK1, hD1⟩ := ex_X10 hB
  rw [ht] at hP1
  have hK1 := va_K.moved hvm.symm hK1
  obtain ⟨hP, hD⟩ := va_join (wr := LL9 q_1 f g) (w1 := LL10 q_103 f2 g2 z) hP hD [67] [0, 1, 2, 3, 4, 5, 6, 7, 8, 9, 10, 11, 12, 13, 14, 15, 16, 17, 18, 19, 20, 21, 22, 23, 24, 25, 26, 27, 28, 29, 30, 31, 32, 33, 34, 35, 36, 37, 38, 39, 40, 41, 42, 43, 44, 45, 46, 47, 48, 49, 50, 51, 52, 53, 54, 55, 56, 57, 58, 59, 60, 61, 62, 63, 64, 65, 66] rfl rfl (by decide) (by decide) hk1 hFc hP1 hD1
  have hK : va_K D vwCl (TL9 g ++ TL10 g2) s := hK.app hK1
  clear hP1 hD1 hPc hDc hFc hk1 hB
  generalize H1 = H at hP hS ⊢
  refine lv_astore_n (lv' := [(2, .ref q_103), (1, .ref q_1), (0, .ref b)]) hx hb dL_law_15 rfl hl (by decide) rfl (fun ls hl => ?_)
  refine lv_iconst hx hb dL_law_16 ci_0 ?_
  refine lv_istore_n (lv' := [(3, .int 0), (2, .ref q_103), (1, .ref q_1), (0, .ref b)]) hx hb dL_law_17 rfl hl (by decide) rfl (fun ls hl => ?_)
  obtain ⟨hinj, hnew⟩ := in_adr hD
  have hPw := in_P hP hz t0 t1 t2 t3 adK adV
  have hKw := in_K hK
  obtain ⟨A, hAd⟩ : ∃ A, A = mkA (adrs q_1 q_103 f f2) t0 t1 t2 t3 adK adV := ⟨_, rfl⟩
  rw [← hAd] at hPw
  generalize cts g g2 = ct at hPw hKw
  have hAk : ∀ k, k < 88 → A k = (adrs q_1 q_103 f f2).getD k 0 := fun k hk => by rw [hAd]; exact mkA_lt hk
  have hNew : ∀ k, k < NC → s.heap.size ≤ A k := fun k hk => by rw [hAk k hk]; exact hnew k hk
  have hInj : injA A := fun i j hi hj he => hinj i j hi hj (by rw [← hAk i hi, ← hAk j hj, he])
  obtain ⟨hvR, hFh⟩ := hFX A (by rw [hAd]; rfl) (by rw [hAd]; rfl) (by rw [hAd]; rfl) (by rw [hAd]; rfl) (fun i hi => by rw [hAd]; exact mkA_K hi) (fun i hi => by rw [hAd]; exact mkA_V hi) hNew
  have hF : FX D ct A s := ⟨hKw, hInj, nw_M hts0, nw_F hts0, hvR, hFh⟩
  have C : L_x p s m meth c b L xs D ct A := ⟨C0, hL, hF, hNew⟩
  refine W.widen (k := 88) (n := 30117) (Nat.le_of_ble_eq_true rfl) (Nat.le_of_ble_eq_true rfl) ?_
  refine law_loop C I hI (L + 1) 0 s0_ hI0 (Nat.zero_le _) (by omega) H _ ls hPw hS ?_
  have e0 : A 0 = q_1 := hAk 0 (by decide)
  have e27 : A 27 = q_103 := hAk 27 (by decide)
  rw [show L_ls A b 0 = [(0, .ref b), (1, .ref q_1), (2, .ref q_103), (3, .int 0)] by unfold L_ls; rw [e0, e27]; rfl]
  exact lv_sub hl [3, 2, 1, 0] rfl
