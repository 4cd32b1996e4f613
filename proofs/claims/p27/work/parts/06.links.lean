theorem AL_t1 {w : Cond} (h : w ∈ tables_1_1) (g : goodWord w = true) : w ∈ AL := List.mem_filter.mpr ⟨List.mem_append_right _ (show w ∈ tables_1 from List.mem_append_left _ h), g⟩
theorem AL_t2 {w : Cond} (h : w ∈ tables_1_2) (g : goodWord w = true) : w ∈ AL := List.mem_filter.mpr ⟨List.mem_append_right _ (show w ∈ tables_1 from List.mem_append_right _ (List.mem_append_left _ h)), g⟩
theorem AL_t3 {w : Cond} (h : w ∈ tables_1_3) (g : goodWord w = true) : w ∈ AL := List.mem_filter.mpr ⟨List.mem_append_right _ (show w ∈ tables_1 from List.mem_append_right _ (List.mem_append_right _ (List.mem_append_left _ h))), g⟩
theorem AL_t4 {w : Cond} (h : w ∈ tables_1_4) (g : goodWord w = true) : w ∈ AL := List.mem_filter.mpr ⟨List.mem_append_right _ (show w ∈ tables_1 from List.mem_append_right _ (List.mem_append_right _ (List.mem_append_right _ (List.mem_append_left _ h)))), g⟩
theorem AL_t5 {w : Cond} (h : w ∈ tables_1_5) (g : goodWord w = true) : w ∈ AL := List.mem_filter.mpr ⟨List.mem_append_right _ (show w ∈ tables_1 from List.mem_append_right _ (List.mem_append_right _ (List.mem_append_right _ (List.mem_append_right _ (List.mem_append_left _ h))))), g⟩
theorem AL_t6 {w : Cond} (h : w ∈ tables_1_6) (g : goodWord w = true) : w ∈ AL := List.mem_filter.mpr ⟨List.mem_append_right _ (show w ∈ tables_1 from List.mem_append_right _ (List.mem_append_right _ (List.mem_append_right _ (List.mem_append_right _ (List.mem_append_right _ (h)))))), g⟩
theorem ci_m8 : Int32.ofInt (-8) = (-8) := by decide +kernel
theorem ci_m2 : Int32.ofInt (-2) = (-2) := by decide +kernel
theorem ci_m1 : Int32.ofInt (-1) = (-1) := by decide +kernel
theorem ci_0 : Int32.ofInt 0 = 0 := by decide +kernel
theorem ci_1 : Int32.ofInt 1 = 1 := by decide +kernel
theorem ci_2 : Int32.ofInt 2 = 2 := by decide +kernel
theorem ci_3 : Int32.ofInt 3 = 3 := by decide +kernel
theorem ci_4 : Int32.ofInt 4 = 4 := by decide +kernel
theorem ci_5 : Int32.ofInt 5 = 5 := by decide +kernel
theorem ci_6 : Int32.ofInt 6 = 6 := by decide +kernel
theorem cb_m100 : (Int8.ofInt (-100)).toInt32 = (-100) := by decide +kernel
theorem cb_m9 : (Int8.ofInt (-9)).toInt32 = (-9) := by decide +kernel
theorem cb_m2 : (Int8.ofInt (-2)).toInt32 = (-2) := by decide +kernel
theorem cb_6 : (Int8.ofInt 6).toInt32 = 6 := by decide +kernel
theorem cb_7 : (Int8.ofInt 7).toInt32 = 7 := by decide +kernel
theorem cb_8 : (Int8.ofInt 8).toInt32 = 8 := by decide +kernel
theorem cb_9 : (Int8.ofInt 9).toInt32 = 9 := by decide +kernel
theorem cb_10 : (Int8.ofInt 10).toInt32 = 10 := by decide +kernel
theorem cb_11 : (Int8.ofInt 11).toInt32 = 11 := by decide +kernel
theorem cb_12 : (Int8.ofInt 12).toInt32 = 12 := by decide +kernel
theorem cb_13 : (Int8.ofInt 13).toInt32 = 13 := by decide +kernel
theorem cb_14 : (Int8.ofInt 14).toInt32 = 14 := by decide +kernel
theorem cb_15 : (Int8.ofInt 15).toInt32 = 15 := by decide +kernel
theorem cb_16 : (Int8.ofInt 16).toInt32 = 16 := by decide +kernel
theorem cb_17 : (Int8.ofInt 17).toInt32 = 17 := by decide +kernel
theorem cb_18 : (Int8.ofInt 18).toInt32 = 18 := by decide +kernel
theorem cb_19 : (Int8.ofInt 19).toInt32 = 19 := by decide +kernel
theorem cb_20 : (Int8.ofInt 20).toInt32 = 20 := by decide +kernel
theorem cb_21 : (Int8.ofInt 21).toInt32 = 21 := by decide +kernel
theorem cb_22 : (Int8.ofInt 22).toInt32 = 22 := by decide +kernel
theorem cb_23 : (Int8.ofInt 23).toInt32 = 23 := by decide +kernel
theorem cb_24 : (Int8.ofInt 24).toInt32 = 24 := by decide +kernel
theorem cb_25 : (Int8.ofInt 25).toInt32 = 25 := by decide +kernel
theorem cb_26 : (Int8.ofInt 26).toInt32 = 26 := by decide +kernel
theorem cb_27 : (Int8.ofInt 27).toInt32 = 27 := by decide +kernel
theorem cb_28 : (Int8.ofInt 28).toInt32 = 28 := by decide +kernel
theorem cb_29 : (Int8.ofInt 29).toInt32 = 29 := by decide +kernel
theorem cb_30 : (Int8.ofInt 30).toInt32 = 30 := by decide +kernel
theorem cb_31 : (Int8.ofInt 31).toInt32 = 31 := by decide +kernel
theorem cb_32 : (Int8.ofInt 32).toInt32 = 32 := by decide +kernel
theorem cb_33 : (Int8.ofInt 33).toInt32 = 33 := by decide +kernel
theorem cb_34 : (Int8.ofInt 34).toInt32 = 34 := by decide +kernel
theorem cb_35 : (Int8.ofInt 35).toInt32 = 35 := by decide +kernel
theorem cb_36 : (Int8.ofInt 36).toInt32 = 36 := by decide +kernel
theorem cb_39 : (Int8.ofInt 39).toInt32 = 39 := by decide +kernel
theorem cb_40 : (Int8.ofInt 40).toInt32 = 40 := by decide +kernel
theorem cb_41 : (Int8.ofInt 41).toInt32 = 41 := by decide +kernel
theorem cb_42 : (Int8.ofInt 42).toInt32 = 42 := by decide +kernel
theorem cb_43 : (Int8.ofInt 43).toInt32 = 43 := by decide +kernel
theorem cb_45 : (Int8.ofInt 45).toInt32 = 45 := by decide +kernel
theorem cb_47 : (Int8.ofInt 47).toInt32 = 47 := by decide +kernel
theorem cb_48 : (Int8.ofInt 48).toInt32 = 48 := by decide +kernel
theorem cb_55 : (Int8.ofInt 55).toInt32 = 55 := by decide +kernel
theorem cb_57 : (Int8.ofInt 57).toInt32 = 57 := by decide +kernel
theorem cb_59 : (Int8.ofInt 59).toInt32 = 59 := by decide +kernel
theorem cb_60 : (Int8.ofInt 60).toInt32 = 60 := by decide +kernel
theorem cb_61 : (Int8.ofInt 61).toInt32 = 61 := by decide +kernel
theorem cb_62 : (Int8.ofInt 62).toInt32 = 62 := by decide +kernel
theorem cb_63 : (Int8.ofInt 63).toInt32 = 63 := by decide +kernel
theorem cb_65 : (Int8.ofInt 65).toInt32 = 65 := by decide +kernel
theorem cb_75 : (Int8.ofInt 75).toInt32 = 75 := by decide +kernel
theorem cb_90 : (Int8.ofInt 90).toInt32 = 90 := by decide +kernel
theorem cb_97 : (Int8.ofInt 97).toInt32 = 97 := by decide +kernel
theorem cb_98 : (Int8.ofInt 98).toInt32 = 98 := by decide +kernel
theorem cb_99 : (Int8.ofInt 99).toInt32 = 99 := by decide +kernel
theorem cb_100 : (Int8.ofInt 100).toInt32 = 100 := by decide +kernel
theorem cb_101 : (Int8.ofInt 101).toInt32 = 101 := by decide +kernel
theorem cb_102 : (Int8.ofInt 102).toInt32 = 102 := by decide +kernel
theorem cb_103 : (Int8.ofInt 103).toInt32 = 103 := by decide +kernel
theorem cb_104 : (Int8.ofInt 104).toInt32 = 104 := by decide +kernel
theorem cb_105 : (Int8.ofInt 105).toInt32 = 105 := by decide +kernel
theorem cb_107 : (Int8.ofInt 107).toInt32 = 107 := by decide +kernel
theorem cb_108 : (Int8.ofInt 108).toInt32 = 108 := by decide +kernel
theorem cb_109 : (Int8.ofInt 109).toInt32 = 109 := by decide +kernel
theorem cb_110 : (Int8.ofInt 110).toInt32 = 110 := by decide +kernel
theorem cb_111 : (Int8.ofInt 111).toInt32 = 111 := by decide +kernel
theorem cb_112 : (Int8.ofInt 112).toInt32 = 112 := by decide +kernel
theorem cb_114 : (Int8.ofInt 114).toInt32 = 114 := by decide +kernel
theorem cb_115 : (Int8.ofInt 115).toInt32 = 115 := by decide +kernel
theorem cb_116 : (Int8.ofInt 116).toInt32 = 116 := by decide +kernel
theorem cb_117 : (Int8.ofInt 117).toInt32 = 117 := by decide +kernel
theorem cb_119 : (Int8.ofInt 119).toInt32 = 119 := by decide +kernel
theorem cb_122 : (Int8.ofInt 122).toInt32 = 122 := by decide +kernel
theorem cs_160 : (Int16.ofInt 160).toInt32 = 160 := by decide +kernel
theorem cs_167 : (Int16.ofInt 167).toInt32 = 167 := by decide +kernel
theorem cs_174 : (Int16.ofInt 174).toInt32 = 174 := by decide +kernel
theorem cs_255 : (Int16.ofInt 255).toInt32 = 255 := by decide +kernel
theorem cs_300 : (Int16.ofInt 300).toInt32 = 300 := by decide +kernel
theorem cs_330 : (Int16.ofInt 330).toInt32 = 330 := by decide +kernel
theorem cs_500 : (Int16.ofInt 500).toInt32 = 500 := by decide +kernel
theorem cs_546 : (Int16.ofInt 546).toInt32 = 546 := by decide +kernel
theorem cs_680 : (Int16.ofInt 680).toInt32 = 680 := by decide +kernel
theorem cs_720 : (Int16.ofInt 720).toInt32 = 720 := by decide +kernel
theorem cs_999 : (Int16.ofInt 999).toInt32 = 999 := by decide +kernel
theorem cs_1001 : (Int16.ofInt 1001).toInt32 = 1001 := by decide +kernel
theorem cs_1024 : (Int16.ofInt 1024).toInt32 = 1024 := by decide +kernel
theorem cs_2720 : (Int16.ofInt 2720).toInt32 = 2720 := by decide +kernel
theorem cs_4095 : (Int16.ofInt 4095).toInt32 = 4095 := by decide +kernel
theorem cs_4096 : (Int16.ofInt 4096).toInt32 = 4096 := by decide +kernel
theorem cs_6006 : (Int16.ofInt 6006).toInt32 = 6006 := by decide +kernel
theorem cs_9999 : (Int16.ofInt 9999).toInt32 = 9999 := by decide +kernel
theorem cs_10000 : (Int16.ofInt 10000).toInt32 = 10000 := by decide +kernel
theorem cs_20000 : (Int16.ofInt 20000).toInt32 = 20000 := by decide +kernel
theorem cs_30089 : (Int16.ofInt 30089).toInt32 = 30089 := by decide +kernel
theorem cl_0 : Int64.ofNat ((0 : Fin 2) : Nat) = 0 := by decide +kernel
theorem cl_1 : Int64.ofNat ((1 : Fin 2) : Nat) = 1 := by decide +kernel
theorem fv_rd {A : Nat → Nat} {σ : Sg} {q : Nat} (h : isRd q = true) (j : Nat) : fv A σ q j = .int (gi σ q j) := by unfold fv; rw [fk_rd h]; rfl
theorem fv_scr {A : Nat → Nat} {σ : Sg} {q j : Nat} {v : Value} (h : isScr q = true) (hv : fvc A σ q j (fkC q j) = v) : fv A σ q j = v := by unfold fv; rw [fk_scr h]; exact hv
def isCd (q : Nat) : Bool := q == 49 || q == 54 || q == 59 || q == 64
theorem lay_cd {q : Nat} (h : isCd q = true) : lay q = (1, 0, 300) := by
  simp only [isCd, Bool.or_eq_true, beq_iff_eq] at h
  rcases h with ((h | h) | h) | h <;> subst h <;> rfl
theorem cd_scr {q : Nat} (h : isScr q = true) : isCd (q + 1) = true := by
  simp only [isScr, Bool.or_eq_true, beq_iff_eq] at h
  rcases h with ((h | h) | h) | h <;> subst h <;> rfl
theorem AL_all {ws : List Cond} (h : ws.all (fun w => decide (w ∈ tables_1) && goodWord w) = true) : ∀ w ∈ ws, w ∈ AL := by
  intro w hw
  have h1 := List.all_eq_true.mp h w hw
  simp only [Bool.and_eq_true, decide_eq_true_eq] at h1
  exact List.mem_filter.mpr ⟨List.mem_append_right _ h1.1, h1.2⟩
theorem tbl_dflt {x : Int32} {lo hi : Int} {offs : Array Int} {dflt : Int} (vs : List Int32) (hne : ∀ v ∈ vs, x ≠ v) (n : Nat) (hn : hi = lo + n) (hall : (List.range (n + 1)).all (fun z => vs.any (fun v => v.toInt == lo + z) || offs[z]? == some dflt) = true) : x.toInt < lo ∨ hi < x.toInt ∨ offs[(x.toInt - lo).toNat]? = some dflt := by
  by_cases h1 : x.toInt < lo
  · exact Or.inl h1
  · by_cases h2 : hi < x.toInt
    · exact Or.inr (Or.inl h2)
    · refine Or.inr (Or.inr ?_)
      have h3 := List.all_eq_true.mp hall (x.toInt - lo).toNat (List.mem_range.mpr (by omega))
      simp only [Bool.or_eq_true, List.any_eq_true, beq_iff_eq] at h3
      rcases h3 with ⟨v, hv, e⟩ | h3
      · exact absurd (Int32.toInt_inj.mp (by rw [e]; omega)) (hne v hv)
      · exact h3
set_option maxRecDepth 20000 in
theorem inA0 : ∀ w ∈ u_ws RX0 TX0 3, w ∈ AL := by
  intro w hw
  obtain ⟨k, hk, rfl⟩ := List.mem_map.mp hw
  rw [List.mem_range] at hk
  match k, hk with
  | 0, _ => exact (AL_t2 (List.mem_of_getElem? (i := 77) rfl) rfl : u_lay RX0 TX0 0 ∈ AL)
  | 1, _ => exact (AL_t2 (List.mem_of_getElem? (i := 79) rfl) rfl : u_lay RX0 TX0 1 ∈ AL)
  | 2, _ => exact (AL_t2 (List.mem_of_getElem? (i := 81) rfl) rfl : u_lay RX0 TX0 2 ∈ AL)
  | n + 3, h => exact absurd h (by omega)
set_option maxRecDepth 20000 in
theorem inA1 : ∀ w ∈ u_ws RX1 TX1 6, w ∈ AL := by
  intro w hw
  obtain ⟨k, hk, rfl⟩ := List.mem_map.mp hw
  rw [List.mem_range] at hk
  match k, hk with
  | 0, _ => exact (AL_t2 (List.mem_of_getElem? (i := 53) rfl) rfl : u_lay RX1 TX1 0 ∈ AL)
  | 1, _ => exact (AL_t2 (List.mem_of_getElem? (i := 55) rfl) rfl : u_lay RX1 TX1 1 ∈ AL)
  | 2, _ => exact (AL_t2 (List.mem_of_getElem? (i := 57) rfl) rfl : u_lay RX1 TX1 2 ∈ AL)
  | 3, _ => exact (AL_t2 (List.mem_of_getElem? (i := 59) rfl) rfl : u_lay RX1 TX1 3 ∈ AL)
  | 4, _ => exact (AL_t2 (List.mem_of_getElem? (i := 61) rfl) rfl : u_lay RX1 TX1 4 ∈ AL)
  | 5, _ => exact (AL_t2 (List.mem_of_getElem? (i := 63) rfl) rfl : u_lay RX1 TX1 5 ∈ AL)
  | n + 6, h => exact absurd h (by omega)
set_option maxRecDepth 20000 in
theorem inA2 : ∀ w ∈ u_ws RX2 TX2 13, w ∈ AL := by
  intro w hw
  obtain ⟨k, hk, rfl⟩ := List.mem_map.mp hw
  rw [List.mem_range] at hk
  match k, hk with
  | 0, _ => exact (AL_t1 (List.mem_of_getElem? (i := 224) rfl) rfl : u_lay RX2 TX2 0 ∈ AL)
  | 1, _ => exact (AL_t1 (List.mem_of_getElem? (i := 226) rfl) rfl : u_lay RX2 TX2 1 ∈ AL)
  | 2, _ => exact (AL_t1 (List.mem_of_getElem? (i := 228) rfl) rfl : u_lay RX2 TX2 2 ∈ AL)
  | 3, _ => exact (AL_t1 (List.mem_of_getElem? (i := 230) rfl) rfl : u_lay RX2 TX2 3 ∈ AL)
  | 4, _ => exact (AL_t1 (List.mem_of_getElem? (i := 232) rfl) rfl : u_lay RX2 TX2 4 ∈ AL)
  | 5, _ => exact (AL_t1 (List.mem_of_getElem? (i := 234) rfl) rfl : u_lay RX2 TX2 5 ∈ AL)
  | 6, _ => exact (AL_t1 (List.mem_of_getElem? (i := 236) rfl) rfl : u_lay RX2 TX2 6 ∈ AL)
  | 7, _ => exact (AL_t1 (List.mem_of_getElem? (i := 238) rfl) rfl : u_lay RX2 TX2 7 ∈ AL)
  | 8, _ => exact (AL_t2 (List.mem_of_getElem? (i := 0) rfl) rfl : u_lay RX2 TX2 8 ∈ AL)
  | 9, _ => exact (AL_t2 (List.mem_of_getElem? (i := 2) rfl) rfl : u_lay RX2 TX2 9 ∈ AL)
  | 10, _ => exact (AL_t2 (List.mem_of_getElem? (i := 4) rfl) rfl : u_lay RX2 TX2 10 ∈ AL)
  | 11, _ => exact (AL_t2 (List.mem_of_getElem? (i := 6) rfl) rfl : u_lay RX2 TX2 11 ∈ AL)
  | 12, _ => exact (AL_t2 (List.mem_of_getElem? (i := 8) rfl) rfl : u_lay RX2 TX2 12 ∈ AL)
  | n + 13, h => exact absurd h (by omega)
set_option maxRecDepth 20000 in
theorem inA3 : ∀ w ∈ u_ws RX3 TX3 11, w ∈ AL := by
  intro w hw
  obtain ⟨k, hk, rfl⟩ := List.mem_map.mp hw
  rw [List.mem_range] at hk
  match k, hk with
  | 0, _ => exact (AL_t1 (List.mem_of_getElem? (i := 97) rfl) rfl : u_lay RX3 TX3 0 ∈ AL)
  | 1, _ => exact (AL_t1 (List.mem_of_getElem? (i := 99) rfl) rfl : u_lay RX3 TX3 1 ∈ AL)
  | 2, _ => exact (AL_t1 (List.mem_of_getElem? (i := 101) rfl) rfl : u_lay RX3 TX3 2 ∈ AL)
  | 3, _ => exact (AL_t1 (List.mem_of_getElem? (i := 103) rfl) rfl : u_lay RX3 TX3 3 ∈ AL)
  | 4, _ => exact (AL_t1 (List.mem_of_getElem? (i := 105) rfl) rfl : u_lay RX3 TX3 4 ∈ AL)
  | 5, _ => exact (AL_t1 (List.mem_of_getElem? (i := 107) rfl) rfl : u_lay RX3 TX3 5 ∈ AL)
  | 6, _ => exact (AL_t1 (List.mem_of_getElem? (i := 87) rfl) rfl : u_lay RX3 TX3 6 ∈ AL)
  | 7, _ => exact (AL_t1 (List.mem_of_getElem? (i := 89) rfl) rfl : u_lay RX3 TX3 7 ∈ AL)
  | 8, _ => exact (AL_t1 (List.mem_of_getElem? (i := 91) rfl) rfl : u_lay RX3 TX3 8 ∈ AL)
  | 9, _ => exact (AL_t1 (List.mem_of_getElem? (i := 93) rfl) rfl : u_lay RX3 TX3 9 ∈ AL)
  | 10, _ => exact (AL_t1 (List.mem_of_getElem? (i := 95) rfl) rfl : u_lay RX3 TX3 10 ∈ AL)
  | n + 11, h => exact absurd h (by omega)
set_option maxRecDepth 20000 in
theorem inA4 : ∀ w ∈ u_ws RX4 TX4 5, w ∈ AL := by
  intro w hw
  obtain ⟨k, hk, rfl⟩ := List.mem_map.mp hw
  rw [List.mem_range] at hk
  match k, hk with
  | 0, _ => exact (AL_t2 (List.mem_of_getElem? (i := 30) rfl) rfl : u_lay RX4 TX4 0 ∈ AL)
  | 1, _ => exact (AL_t2 (List.mem_of_getElem? (i := 32) rfl) rfl : u_lay RX4 TX4 1 ∈ AL)
  | 2, _ => exact (AL_t2 (List.mem_of_getElem? (i := 34) rfl) rfl : u_lay RX4 TX4 2 ∈ AL)
  | 3, _ => exact (AL_t2 (List.mem_of_getElem? (i := 36) rfl) rfl : u_lay RX4 TX4 3 ∈ AL)
  | 4, _ => exact (AL_t2 (List.mem_of_getElem? (i := 38) rfl) rfl : u_lay RX4 TX4 4 ∈ AL)
  | n + 5, h => exact absurd h (by omega)
set_option maxRecDepth 20000 in
theorem inA5 : ∀ w ∈ u_ws RX5 TX5 10, w ∈ AL := by
  intro w hw
  obtain ⟨k, hk, rfl⟩ := List.mem_map.mp hw
  rw [List.mem_range] at hk
  match k, hk with
  | 0, _ => exact (AL_t2 (List.mem_of_getElem? (i := 112) rfl) rfl : u_lay RX5 TX5 0 ∈ AL)
  | 1, _ => exact (AL_t2 (List.mem_of_getElem? (i := 114) rfl) rfl : u_lay RX5 TX5 1 ∈ AL)
  | 2, _ => exact (AL_t2 (List.mem_of_getElem? (i := 116) rfl) rfl : u_lay RX5 TX5 2 ∈ AL)
  | 3, _ => exact (AL_t2 (List.mem_of_getElem? (i := 118) rfl) rfl : u_lay RX5 TX5 3 ∈ AL)
  | 4, _ => exact (AL_t2 (List.mem_of_getElem? (i := 120) rfl) rfl : u_lay RX5 TX5 4 ∈ AL)
  | 5, _ => exact (AL_t2 (List.mem_of_getElem? (i := 122) rfl) rfl : u_lay RX5 TX5 5 ∈ AL)
  | 6, _ => exact (AL_t2 (List.mem_of_getElem? (i := 124) rfl) rfl : u_lay RX5 TX5 6 ∈ AL)
  | 7, _ => exact (AL_t2 (List.mem_of_getElem? (i := 126) rfl) rfl : u_lay RX5 TX5 7 ∈ AL)
  | 8, _ => exact (AL_t2 (List.mem_of_getElem? (i := 128) rfl) rfl : u_lay RX5 TX5 8 ∈ AL)
  | 9, _ => exact (AL_t2 (List.mem_of_getElem? (i := 130) rfl) rfl : u_lay RX5 TX5 9 ∈ AL)
  | n + 10, h => exact absurd h (by omega)
set_option maxRecDepth 20000 in
theorem inA6 : ∀ w ∈ u_ws RX6 TX6 18, w ∈ AL := by
  intro w hw
  obtain ⟨k, hk, rfl⟩ := List.mem_map.mp hw
  rw [List.mem_range] at hk
  match k, hk with
  | 0, _ => exact (AL_t1 (List.mem_of_getElem? (i := 166) rfl) rfl : u_lay RX6 TX6 0 ∈ AL)
  | 1, _ => exact (AL_t1 (List.mem_of_getElem? (i := 167) rfl) rfl : u_lay RX6 TX6 1 ∈ AL)
  | 2, _ => exact (AL_t1 (List.mem_of_getElem? (i := 168) rfl) rfl : u_lay RX6 TX6 2 ∈ AL)
  | 3, _ => exact (AL_t1 (List.mem_of_getElem? (i := 169) rfl) rfl : u_lay RX6 TX6 3 ∈ AL)
  | 4, _ => exact (AL_t1 (List.mem_of_getElem? (i := 170) rfl) rfl : u_lay RX6 TX6 4 ∈ AL)
  | 5, _ => exact (AL_t1 (List.mem_of_getElem? (i := 171) rfl) rfl : u_lay RX6 TX6 5 ∈ AL)
  | 6, _ => exact (AL_t1 (List.mem_of_getElem? (i := 142) rfl) rfl : u_lay RX6 TX6 6 ∈ AL)
  | 7, _ => exact (AL_t1 (List.mem_of_getElem? (i := 144) rfl) rfl : u_lay RX6 TX6 7 ∈ AL)
  | 8, _ => exact (AL_t1 (List.mem_of_getElem? (i := 146) rfl) rfl : u_lay RX6 TX6 8 ∈ AL)
  | 9, _ => exact (AL_t1 (List.mem_of_getElem? (i := 148) rfl) rfl : u_lay RX6 TX6 9 ∈ AL)
  | 10, _ => exact (AL_t1 (List.mem_of_getElem? (i := 150) rfl) rfl : u_lay RX6 TX6 10 ∈ AL)
  | 11, _ => exact (AL_t1 (List.mem_of_getElem? (i := 152) rfl) rfl : u_lay RX6 TX6 11 ∈ AL)
  | 12, _ => exact (AL_t1 (List.mem_of_getElem? (i := 154) rfl) rfl : u_lay RX6 TX6 12 ∈ AL)
  | 13, _ => exact (AL_t1 (List.mem_of_getElem? (i := 156) rfl) rfl : u_lay RX6 TX6 13 ∈ AL)
  | 14, _ => exact (AL_t1 (List.mem_of_getElem? (i := 158) rfl) rfl : u_lay RX6 TX6 14 ∈ AL)
  | 15, _ => exact (AL_t1 (List.mem_of_getElem? (i := 160) rfl) rfl : u_lay RX6 TX6 15 ∈ AL)
  | 16, _ => exact (AL_t1 (List.mem_of_getElem? (i := 162) rfl) rfl : u_lay RX6 TX6 16 ∈ AL)
  | 17, _ => exact (AL_t1 (List.mem_of_getElem? (i := 164) rfl) rfl : u_lay RX6 TX6 17 ∈ AL)
  | n + 18, h => exact absurd h (by omega)
set_option maxRecDepth 20000 in
theorem inA7 : ∀ w ∈ u_ws RX7 TX7 6, w ∈ AL := by
  intro w hw
  obtain ⟨k, hk, rfl⟩ := List.mem_map.mp hw
  rw [List.mem_range] at hk
  match k, hk with
  | 0, _ => exact (AL_t1 (List.mem_of_getElem? (i := 189) rfl) rfl : u_lay RX7 TX7 0 ∈ AL)
  | 1, _ => exact (AL_t1 (List.mem_of_getElem? (i := 191) rfl) rfl : u_lay RX7 TX7 1 ∈ AL)
  | 2, _ => exact (AL_t1 (List.mem_of_getElem? (i := 193) rfl) rfl : u_lay RX7 TX7 2 ∈ AL)
  | 3, _ => exact (AL_t1 (List.mem_of_getElem? (i := 195) rfl) rfl : u_lay RX7 TX7 3 ∈ AL)
  | 4, _ => exact (AL_t1 (List.mem_of_getElem? (i := 197) rfl) rfl : u_lay RX7 TX7 4 ∈ AL)
  | 5, _ => exact (AL_t1 (List.mem_of_getElem? (i := 199) rfl) rfl : u_lay RX7 TX7 5 ∈ AL)
  | n + 6, h => exact absurd h (by omega)
set_option maxRecDepth 20000 in
theorem inA9 : ∀ w ∈ u_ws RX9 TX9 8, w ∈ AL := by
  intro w hw
  obtain ⟨k, hk, rfl⟩ := List.mem_map.mp hw
  rw [List.mem_range] at hk
  match k, hk with
  | 0, _ => exact (AL_t2 (List.mem_of_getElem? (i := 141) rfl) rfl : u_lay RX9 TX9 0 ∈ AL)
  | 1, _ => exact (AL_t2 (List.mem_of_getElem? (i := 143) rfl) rfl : u_lay RX9 TX9 1 ∈ AL)
  | 2, _ => exact (AL_t2 (List.mem_of_getElem? (i := 145) rfl) rfl : u_lay RX9 TX9 2 ∈ AL)
  | 3, _ => exact (AL_t2 (List.mem_of_getElem? (i := 147) rfl) rfl : u_lay RX9 TX9 3 ∈ AL)
  | 4, _ => exact (AL_t2 (List.mem_of_getElem? (i := 149) rfl) rfl : u_lay RX9 TX9 4 ∈ AL)
  | 5, _ => exact (AL_t2 (List.mem_of_getElem? (i := 151) rfl) rfl : u_lay RX9 TX9 5 ∈ AL)
  | 6, _ => exact (AL_t2 (List.mem_of_getElem? (i := 153) rfl) rfl : u_lay RX9 TX9 6 ∈ AL)
  | 7, _ => exact (AL_t2 (List.mem_of_getElem? (i := 155) rfl) rfl : u_lay RX9 TX9 7 ∈ AL)
  | n + 8, h => exact absurd h (by omega)
set_option maxRecDepth 20000 in
theorem inA10 : ∀ w ∈ u_ws RX10 TX10 38, w ∈ AL := by
  intro w hw
  obtain ⟨k, hk, rfl⟩ := List.mem_map.mp hw
  rw [List.mem_range] at hk
  match k, hk with
  | 0, _ => exact (AL_t4 (List.mem_of_getElem? (i := 209) rfl) rfl : u_lay RX10 TX10 0 ∈ AL)
  | 1, _ => exact (AL_t4 (List.mem_of_getElem? (i := 211) rfl) rfl : u_lay RX10 TX10 1 ∈ AL)
  | 2, _ => exact (AL_t4 (List.mem_of_getElem? (i := 213) rfl) rfl : u_lay RX10 TX10 2 ∈ AL)
  | 3, _ => exact (AL_t4 (List.mem_of_getElem? (i := 215) rfl) rfl : u_lay RX10 TX10 3 ∈ AL)
  | 4, _ => exact (AL_t4 (List.mem_of_getElem? (i := 217) rfl) rfl : u_lay RX10 TX10 4 ∈ AL)
  | 5, _ => exact (AL_t4 (List.mem_of_getElem? (i := 219) rfl) rfl : u_lay RX10 TX10 5 ∈ AL)
  | 6, _ => exact (AL_t4 (List.mem_of_getElem? (i := 221) rfl) rfl : u_lay RX10 TX10 6 ∈ AL)
  | 7, _ => exact (AL_t4 (List.mem_of_getElem? (i := 223) rfl) rfl : u_lay RX10 TX10 7 ∈ AL)
  | 8, _ => exact (AL_t4 (List.mem_of_getElem? (i := 225) rfl) rfl : u_lay RX10 TX10 8 ∈ AL)
  | 9, _ => exact (AL_t4 (List.mem_of_getElem? (i := 227) rfl) rfl : u_lay RX10 TX10 9 ∈ AL)
  | 10, _ => exact (AL_t4 (List.mem_of_getElem? (i := 229) rfl) rfl : u_lay RX10 TX10 10 ∈ AL)
  | 11, _ => exact (AL_t4 (List.mem_of_getElem? (i := 231) rfl) rfl : u_lay RX10 TX10 11 ∈ AL)
  | 12, _ => exact (AL_t4 (List.mem_of_getElem? (i := 233) rfl) rfl : u_lay RX10 TX10 12 ∈ AL)
  | 13, _ => exact (AL_t4 (List.mem_of_getElem? (i := 235) rfl) rfl : u_lay RX10 TX10 13 ∈ AL)
  | 14, _ => exact (AL_t4 (List.mem_of_getElem? (i := 237) rfl) rfl : u_lay RX10 TX10 14 ∈ AL)
  | 15, _ => exact (AL_t4 (List.mem_of_getElem? (i := 239) rfl) rfl : u_lay RX10 TX10 15 ∈ AL)
  | 16, _ => exact (AL_t5 (List.mem_of_getElem? (i := 1) rfl) rfl : u_lay RX10 TX10 16 ∈ AL)
  | 17, _ => exact (AL_t5 (List.mem_of_getElem? (i := 3) rfl) rfl : u_lay RX10 TX10 17 ∈ AL)
  | 18, _ => exact (AL_t5 (List.mem_of_getElem? (i := 5) rfl) rfl : u_lay RX10 TX10 18 ∈ AL)
  | 19, _ => exact (AL_t5 (List.mem_of_getElem? (i := 7) rfl) rfl : u_lay RX10 TX10 19 ∈ AL)
  | 20, _ => exact (AL_t5 (List.mem_of_getElem? (i := 9) rfl) rfl : u_lay RX10 TX10 20 ∈ AL)
  | 21, _ => exact (AL_t5 (List.mem_of_getElem? (i := 11) rfl) rfl : u_lay RX10 TX10 21 ∈ AL)
  | 22, _ => exact (AL_t5 (List.mem_of_getElem? (i := 13) rfl) rfl : u_lay RX10 TX10 22 ∈ AL)
  | 23, _ => exact (AL_t5 (List.mem_of_getElem? (i := 15) rfl) rfl : u_lay RX10 TX10 23 ∈ AL)
  | 24, _ => exact (AL_t5 (List.mem_of_getElem? (i := 17) rfl) rfl : u_lay RX10 TX10 24 ∈ AL)
  | 25, _ => exact (AL_t5 (List.mem_of_getElem? (i := 19) rfl) rfl : u_lay RX10 TX10 25 ∈ AL)
  | 26, _ => exact (AL_t5 (List.mem_of_getElem? (i := 21) rfl) rfl : u_lay RX10 TX10 26 ∈ AL)
  | 27, _ => exact (AL_t5 (List.mem_of_getElem? (i := 23) rfl) rfl : u_lay RX10 TX10 27 ∈ AL)
  | 28, _ => exact (AL_t5 (List.mem_of_getElem? (i := 25) rfl) rfl : u_lay RX10 TX10 28 ∈ AL)
  | 29, _ => exact (AL_t5 (List.mem_of_getElem? (i := 27) rfl) rfl : u_lay RX10 TX10 29 ∈ AL)
  | 30, _ => exact (AL_t5 (List.mem_of_getElem? (i := 29) rfl) rfl : u_lay RX10 TX10 30 ∈ AL)
  | 31, _ => exact (AL_t5 (List.mem_of_getElem? (i := 31) rfl) rfl : u_lay RX10 TX10 31 ∈ AL)
  | 32, _ => exact (AL_t5 (List.mem_of_getElem? (i := 33) rfl) rfl : u_lay RX10 TX10 32 ∈ AL)
  | 33, _ => exact (AL_t5 (List.mem_of_getElem? (i := 35) rfl) rfl : u_lay RX10 TX10 33 ∈ AL)
  | 34, _ => exact (AL_t5 (List.mem_of_getElem? (i := 37) rfl) rfl : u_lay RX10 TX10 34 ∈ AL)
  | 35, _ => exact (AL_t5 (List.mem_of_getElem? (i := 39) rfl) rfl : u_lay RX10 TX10 35 ∈ AL)
  | 36, _ => exact (AL_t5 (List.mem_of_getElem? (i := 41) rfl) rfl : u_lay RX10 TX10 36 ∈ AL)
  | 37, _ => exact (AL_t5 (List.mem_of_getElem? (i := 43) rfl) rfl : u_lay RX10 TX10 37 ∈ AL)
  | n + 38, h => exact absurd h (by omega)
set_option maxRecDepth 20000 in
theorem fl_X3_15_3 : FLk RX3 15 3 6 := ⟨RX3, TX3, 11, "DownByAHair$Reading", tyX3, rfl, by decide, inA3, AL_t1 (List.mem_of_getElem? (i := 43) rfl) rfl, Or.inl rfl, tyX3_ok, nmX3⟩
set_option maxRecDepth 20000 in
theorem fl_X9_222_3 : FLk RX9 222 3 6 := ⟨RX3, TX3, 11, "DownByAHair$Reading", tyX3, rfl, by decide, inA3, AL_t1 (List.mem_of_getElem? (i := 44) rfl) rfl, Or.inl rfl, tyX3_ok, nmX3⟩
set_option maxRecDepth 20000 in
theorem fl_X3_19_3 : FLk RX3 19 3 7 := ⟨RX3, TX3, 11, "DownByAHair$Reading", tyX3, rfl, by decide, inA3, AL_t1 (List.mem_of_getElem? (i := 45) rfl) rfl, Or.inl rfl, tyX3_ok, nmX3⟩
set_option maxRecDepth 20000 in
theorem fl_X9_227_3 : FLk RX9 227 3 7 := ⟨RX3, TX3, 11, "DownByAHair$Reading", tyX3, rfl, by decide, inA3, AL_t1 (List.mem_of_getElem? (i := 46) rfl) rfl, Or.inl rfl, tyX3_ok, nmX3⟩
set_option maxRecDepth 20000 in
theorem fl_X3_22_3 : FLk RX3 22 3 8 := ⟨RX3, TX3, 11, "DownByAHair$Reading", tyX3, rfl, by decide, inA3, AL_t1 (List.mem_of_getElem? (i := 47) rfl) rfl, Or.inl rfl, tyX3_ok, nmX3⟩
set_option maxRecDepth 20000 in
theorem fl_X9_234_3 : FLk RX9 234 3 8 := ⟨RX3, TX3, 11, "DownByAHair$Reading", tyX3, rfl, by decide, inA3, AL_t1 (List.mem_of_getElem? (i := 48) rfl) rfl, Or.inl rfl, tyX3_ok, nmX3⟩
set_option maxRecDepth 20000 in
theorem fl_X3_25_3 : FLk RX3 25 3 9 := ⟨RX3, TX3, 11, "DownByAHair$Reading", tyX3, rfl, by decide, inA3, AL_t1 (List.mem_of_getElem? (i := 49) rfl) rfl, Or.inl rfl, tyX3_ok, nmX3⟩
set_option maxRecDepth 20000 in
theorem fl_X9_235_3 : FLk RX9 235 3 9 := ⟨RX3, TX3, 11, "DownByAHair$Reading", tyX3, rfl, by decide, inA3, AL_t1 (List.mem_of_getElem? (i := 50) rfl) rfl, Or.inl rfl, tyX3_ok, nmX3⟩
set_option maxRecDepth 20000 in
theorem fl_X3_28_3 : FLk RX3 28 3 10 := ⟨RX3, TX3, 11, "DownByAHair$Reading", tyX3, rfl, by decide, inA3, AL_t1 (List.mem_of_getElem? (i := 51) rfl) rfl, Or.inl rfl, tyX3_ok, nmX3⟩
set_option maxRecDepth 20000 in
theorem fl_X9_283_3 : FLk RX9 283 3 10 := ⟨RX3, TX3, 11, "DownByAHair$Reading", tyX3, rfl, by decide, inA3, AL_t1 (List.mem_of_getElem? (i := 52) rfl) rfl, Or.inl rfl, tyX3_ok, nmX3⟩
set_option maxRecDepth 20000 in
theorem fl_X8_7_3 : FLk RX8 7 3 0 := ⟨RX3, TX3, 11, "DownByAHair$World", tyX3, rfl, by decide, inA3, AL_t1 (List.mem_of_getElem? (i := 53) rfl) rfl, Or.inl rfl, tyX3_ok, nmX3⟩
set_option maxRecDepth 20000 in
theorem fl_X8_7_6 : FLk RX8 7 6 0 := ⟨RX6, TX6, 18, "DownByAHair$World", tyX6, rfl, by decide, inA6, AL_t1 (List.mem_of_getElem? (i := 53) rfl) rfl, Or.inl rfl, tyX6_ok, nmX6⟩
set_option maxRecDepth 20000 in
theorem fl_X9_67_6 : FLk RX9 67 6 0 := ⟨RX6, TX6, 18, "DownByAHair$State", tyX6, rfl, by decide, inA6, AL_t1 (List.mem_of_getElem? (i := 54) rfl) rfl, Or.inr (AL_t1 (List.mem_of_getElem? (i := 55) rfl) rfl), tyX6_ok, nmX6⟩
set_option maxRecDepth 20000 in
theorem fl_X4_48_6 : FLk RX4 48 6 0 := ⟨RX6, TX6, 18, "DownByAHair$State", tyX6, rfl, by decide, inA6, AL_t1 (List.mem_of_getElem? (i := 56) rfl) rfl, Or.inr (AL_t1 (List.mem_of_getElem? (i := 55) rfl) rfl), tyX6_ok, nmX6⟩
set_option maxRecDepth 20000 in
theorem fl_X9_286_3 : FLk RX9 286 3 0 := ⟨RX3, TX3, 11, "DownByAHair$Reading", tyX3, rfl, by decide, inA3, AL_t1 (List.mem_of_getElem? (i := 57) rfl) rfl, Or.inr (AL_t1 (List.mem_of_getElem? (i := 58) rfl) rfl), tyX3_ok, nmX3⟩
set_option maxRecDepth 20000 in
theorem fl_X8_13_3 : FLk RX8 13 3 1 := ⟨RX3, TX3, 11, "DownByAHair$World", tyX3, rfl, by decide, inA3, AL_t1 (List.mem_of_getElem? (i := 59) rfl) rfl, Or.inl rfl, tyX3_ok, nmX3⟩
set_option maxRecDepth 20000 in
theorem fl_X8_13_6 : FLk RX8 13 6 1 := ⟨RX6, TX6, 18, "DownByAHair$World", tyX6, rfl, by decide, inA6, AL_t1 (List.mem_of_getElem? (i := 59) rfl) rfl, Or.inl rfl, tyX6_ok, nmX6⟩
set_option maxRecDepth 20000 in
theorem fl_X9_71_6 : FLk RX9 71 6 1 := ⟨RX6, TX6, 18, "DownByAHair$State", tyX6, rfl, by decide, inA6, AL_t1 (List.mem_of_getElem? (i := 60) rfl) rfl, Or.inr (AL_t1 (List.mem_of_getElem? (i := 61) rfl) rfl), tyX6_ok, nmX6⟩
set_option maxRecDepth 20000 in
theorem fl_X4_51_6 : FLk RX4 51 6 1 := ⟨RX6, TX6, 18, "DownByAHair$State", tyX6, rfl, by decide, inA6, AL_t1 (List.mem_of_getElem? (i := 62) rfl) rfl, Or.inr (AL_t1 (List.mem_of_getElem? (i := 61) rfl) rfl), tyX6_ok, nmX6⟩
set_option maxRecDepth 20000 in
theorem fl_X9_287_3 : FLk RX9 287 3 1 := ⟨RX3, TX3, 11, "DownByAHair$Reading", tyX3, rfl, by decide, inA3, AL_t1 (List.mem_of_getElem? (i := 63) rfl) rfl, Or.inr (AL_t1 (List.mem_of_getElem? (i := 64) rfl) rfl), tyX3_ok, nmX3⟩
set_option maxRecDepth 20000 in
theorem fl_X8_16_3 : FLk RX8 16 3 2 := ⟨RX3, TX3, 11, "DownByAHair$World", tyX3, rfl, by decide, inA3, AL_t1 (List.mem_of_getElem? (i := 65) rfl) rfl, Or.inl rfl, tyX3_ok, nmX3⟩
set_option maxRecDepth 20000 in
theorem fl_X8_16_6 : FLk RX8 16 6 2 := ⟨RX6, TX6, 18, "DownByAHair$World", tyX6, rfl, by decide, inA6, AL_t1 (List.mem_of_getElem? (i := 65) rfl) rfl, Or.inl rfl, tyX6_ok, nmX6⟩
set_option maxRecDepth 20000 in
theorem fl_X9_74_6 : FLk RX9 74 6 2 := ⟨RX6, TX6, 18, "DownByAHair$State", tyX6, rfl, by decide, inA6, AL_t1 (List.mem_of_getElem? (i := 66) rfl) rfl, Or.inr (AL_t1 (List.mem_of_getElem? (i := 67) rfl) rfl), tyX6_ok, nmX6⟩
set_option maxRecDepth 20000 in
theorem fl_X3_34_3 : FLk RX3 34 3 2 := ⟨RX3, TX3, 11, "DownByAHair$Reading", tyX3, rfl, by decide, inA3, AL_t1 (List.mem_of_getElem? (i := 68) rfl) rfl, Or.inr (AL_t1 (List.mem_of_getElem? (i := 69) rfl) rfl), tyX3_ok, nmX3⟩
set_option maxRecDepth 20000 in
theorem fl_X8_19_3 : FLk RX8 19 3 3 := ⟨RX3, TX3, 11, "DownByAHair$World", tyX3, rfl, by decide, inA3, AL_t1 (List.mem_of_getElem? (i := 70) rfl) rfl, Or.inl rfl, tyX3_ok, nmX3⟩
set_option maxRecDepth 20000 in
theorem fl_X8_19_6 : FLk RX8 19 6 3 := ⟨RX6, TX6, 18, "DownByAHair$World", tyX6, rfl, by decide, inA6, AL_t1 (List.mem_of_getElem? (i := 70) rfl) rfl, Or.inl rfl, tyX6_ok, nmX6⟩
set_option maxRecDepth 20000 in
theorem fl_X9_87_6 : FLk RX9 87 6 3 := ⟨RX6, TX6, 18, "DownByAHair$State", tyX6, rfl, by decide, inA6, AL_t1 (List.mem_of_getElem? (i := 71) rfl) rfl, Or.inr (AL_t1 (List.mem_of_getElem? (i := 72) rfl) rfl), tyX6_ok, nmX6⟩
set_option maxRecDepth 20000 in
theorem fl_X6_72_6 : FLk RX6 72 6 3 := ⟨RX6, TX6, 18, "DownByAHair$State", tyX6, rfl, by decide, inA6, AL_t1 (List.mem_of_getElem? (i := 73) rfl) rfl, Or.inr (AL_t1 (List.mem_of_getElem? (i := 72) rfl) rfl), tyX6_ok, nmX6⟩
set_option maxRecDepth 20000 in
theorem fl_X9_291_3 : FLk RX9 291 3 3 := ⟨RX3, TX3, 11, "DownByAHair$Reading", tyX3, rfl, by decide, inA3, AL_t1 (List.mem_of_getElem? (i := 74) rfl) rfl, Or.inr (AL_t1 (List.mem_of_getElem? (i := 75) rfl) rfl), tyX3_ok, nmX3⟩
set_option maxRecDepth 20000 in
theorem fl_X8_22_3 : FLk RX8 22 3 4 := ⟨RX3, TX3, 11, "DownByAHair$World", tyX3, rfl, by decide, inA3, AL_t1 (List.mem_of_getElem? (i := 76) rfl) rfl, Or.inl rfl, tyX3_ok, nmX3⟩
set_option maxRecDepth 20000 in
theorem fl_X8_22_6 : FLk RX8 22 6 4 := ⟨RX6, TX6, 18, "DownByAHair$World", tyX6, rfl, by decide, inA6, AL_t1 (List.mem_of_getElem? (i := 76) rfl) rfl, Or.inl rfl, tyX6_ok, nmX6⟩
set_option maxRecDepth 20000 in
theorem fl_X9_90_6 : FLk RX9 90 6 4 := ⟨RX6, TX6, 18, "DownByAHair$State", tyX6, rfl, by decide, inA6, AL_t1 (List.mem_of_getElem? (i := 77) rfl) rfl, Or.inr (AL_t1 (List.mem_of_getElem? (i := 78) rfl) rfl), tyX6_ok, nmX6⟩
set_option maxRecDepth 20000 in
theorem fl_X9_292_3 : FLk RX9 292 3 4 := ⟨RX3, TX3, 11, "DownByAHair$Reading", tyX3, rfl, by decide, inA3, AL_t1 (List.mem_of_getElem? (i := 79) rfl) rfl, Or.inr (AL_t1 (List.mem_of_getElem? (i := 80) rfl) rfl), tyX3_ok, nmX3⟩
set_option maxRecDepth 20000 in
theorem fl_X8_25_3 : FLk RX8 25 3 5 := ⟨RX3, TX3, 11, "DownByAHair$World", tyX3, rfl, by decide, inA3, AL_t1 (List.mem_of_getElem? (i := 81) rfl) rfl, Or.inl rfl, tyX3_ok, nmX3⟩
set_option maxRecDepth 20000 in
theorem fl_X8_25_6 : FLk RX8 25 6 5 := ⟨RX6, TX6, 18, "DownByAHair$World", tyX6, rfl, by decide, inA6, AL_t1 (List.mem_of_getElem? (i := 81) rfl) rfl, Or.inl rfl, tyX6_ok, nmX6⟩
set_option maxRecDepth 20000 in
theorem fl_X3_31_3 : FLk RX3 31 3 5 := ⟨RX3, TX3, 11, "DownByAHair$Reading", tyX3, rfl, by decide, inA3, AL_t1 (List.mem_of_getElem? (i := 82) rfl) rfl, Or.inr (AL_t1 (List.mem_of_getElem? (i := 83) rfl) rfl), tyX3_ok, nmX3⟩
set_option maxRecDepth 20000 in
theorem fl_X9_93_6 : FLk RX9 93 6 5 := ⟨RX6, TX6, 18, "DownByAHair$State", tyX6, rfl, by decide, inA6, AL_t1 (List.mem_of_getElem? (i := 84) rfl) rfl, Or.inr (AL_t1 (List.mem_of_getElem? (i := 85) rfl) rfl), tyX6_ok, nmX6⟩
set_option maxRecDepth 20000 in
theorem fl_X9_293_3 : FLk RX9 293 3 5 := ⟨RX3, TX3, 11, "DownByAHair$Reading", tyX3, rfl, by decide, inA3, AL_t1 (List.mem_of_getElem? (i := 86) rfl) rfl, Or.inr (AL_t1 (List.mem_of_getElem? (i := 83) rfl) rfl), tyX3_ok, nmX3⟩
set_option maxRecDepth 20000 in
theorem fl_X6_36_6 : FLk RX6 36 6 6 := ⟨RX6, TX6, 18, "DownByAHair$State", tyX6, rfl, by decide, inA6, AL_t1 (List.mem_of_getElem? (i := 111) rfl) rfl, Or.inl rfl, tyX6_ok, nmX6⟩
set_option maxRecDepth 20000 in
theorem fl_X0_19_6 : FLk RX0 19 6 6 := ⟨RX6, TX6, 18, "DownByAHair$State", tyX6, rfl, by decide, inA6, AL_t1 (List.mem_of_getElem? (i := 112) rfl) rfl, Or.inl rfl, tyX6_ok, nmX6⟩
set_option maxRecDepth 20000 in
theorem fl_X1_37_6 : FLk RX1 37 6 6 := ⟨RX6, TX6, 18, "DownByAHair$State", tyX6, rfl, by decide, inA6, AL_t1 (List.mem_of_getElem? (i := 113) rfl) rfl, Or.inl rfl, tyX6_ok, nmX6⟩
set_option maxRecDepth 20000 in
theorem fl_X4_18_6 : FLk RX4 18 6 6 := ⟨RX6, TX6, 18, "DownByAHair$State", tyX6, rfl, by decide, inA6, AL_t1 (List.mem_of_getElem? (i := 114) rfl) rfl, Or.inl rfl, tyX6_ok, nmX6⟩
set_option maxRecDepth 20000 in
theorem fl_X9_77_6 : FLk RX9 77 6 6 := ⟨RX6, TX6, 18, "DownByAHair$State", tyX6, rfl, by decide, inA6, AL_t1 (List.mem_of_getElem? (i := 115) rfl) rfl, Or.inl rfl, tyX6_ok, nmX6⟩
set_option maxRecDepth 20000 in
theorem fl_X6_9_6 : FLk RX6 9 6 7 := ⟨RX6, TX6, 18, "DownByAHair$State", tyX6, rfl, by decide, inA6, AL_t1 (List.mem_of_getElem? (i := 116) rfl) rfl, Or.inl rfl, tyX6_ok, nmX6⟩
set_option maxRecDepth 20000 in
theorem fl_X0_41_6 : FLk RX0 41 6 7 := ⟨RX6, TX6, 18, "DownByAHair$State", tyX6, rfl, by decide, inA6, AL_t1 (List.mem_of_getElem? (i := 117) rfl) rfl, Or.inl rfl, tyX6_ok, nmX6⟩
set_option maxRecDepth 20000 in
theorem fl_X4_28_6 : FLk RX4 28 6 7 := ⟨RX6, TX6, 18, "DownByAHair$State", tyX6, rfl, by decide, inA6, AL_t1 (List.mem_of_getElem? (i := 118) rfl) rfl, Or.inl rfl, tyX6_ok, nmX6⟩
set_option maxRecDepth 20000 in
theorem fl_X9_80_6 : FLk RX9 80 6 7 := ⟨RX6, TX6, 18, "DownByAHair$State", tyX6, rfl, by decide, inA6, AL_t1 (List.mem_of_getElem? (i := 119) rfl) rfl, Or.inl rfl, tyX6_ok, nmX6⟩
set_option maxRecDepth 20000 in
theorem fl_X6_15_6 : FLk RX6 15 6 8 := ⟨RX6, TX6, 18, "DownByAHair$State", tyX6, rfl, by decide, inA6, AL_t1 (List.mem_of_getElem? (i := 120) rfl) rfl, Or.inl rfl, tyX6_ok, nmX6⟩
set_option maxRecDepth 20000 in
theorem fl_X4_31_6 : FLk RX4 31 6 8 := ⟨RX6, TX6, 18, "DownByAHair$State", tyX6, rfl, by decide, inA6, AL_t1 (List.mem_of_getElem? (i := 121) rfl) rfl, Or.inl rfl, tyX6_ok, nmX6⟩
set_option maxRecDepth 20000 in
theorem fl_X9_84_6 : FLk RX9 84 6 8 := ⟨RX6, TX6, 18, "DownByAHair$State", tyX6, rfl, by decide, inA6, AL_t1 (List.mem_of_getElem? (i := 122) rfl) rfl, Or.inl rfl, tyX6_ok, nmX6⟩
set_option maxRecDepth 20000 in
theorem fl_X6_45_6 : FLk RX6 45 6 9 := ⟨RX6, TX6, 18, "DownByAHair$State", tyX6, rfl, by decide, inA6, AL_t1 (List.mem_of_getElem? (i := 123) rfl) rfl, Or.inl rfl, tyX6_ok, nmX6⟩
set_option maxRecDepth 20000 in
theorem fl_X9_258_6 : FLk RX9 258 6 9 := ⟨RX6, TX6, 18, "DownByAHair$State", tyX6, rfl, by decide, inA6, AL_t1 (List.mem_of_getElem? (i := 124) rfl) rfl, Or.inl rfl, tyX6_ok, nmX6⟩
set_option maxRecDepth 20000 in
theorem fl_X6_48_6 : FLk RX6 48 6 10 := ⟨RX6, TX6, 18, "DownByAHair$State", tyX6, rfl, by decide, inA6, AL_t1 (List.mem_of_getElem? (i := 125) rfl) rfl, Or.inl rfl, tyX6_ok, nmX6⟩
set_option maxRecDepth 20000 in
theorem fl_X9_259_6 : FLk RX9 259 6 10 := ⟨RX6, TX6, 18, "DownByAHair$State", tyX6, rfl, by decide, inA6, AL_t1 (List.mem_of_getElem? (i := 126) rfl) rfl, Or.inl rfl, tyX6_ok, nmX6⟩
set_option maxRecDepth 20000 in
theorem fl_X6_51_6 : FLk RX6 51 6 11 := ⟨RX6, TX6, 18, "DownByAHair$State", tyX6, rfl, by decide, inA6, AL_t1 (List.mem_of_getElem? (i := 127) rfl) rfl, Or.inl rfl, tyX6_ok, nmX6⟩
set_option maxRecDepth 20000 in
theorem fl_X9_103_6 : FLk RX9 103 6 11 := ⟨RX6, TX6, 18, "DownByAHair$State", tyX6, rfl, by decide, inA6, AL_t1 (List.mem_of_getElem? (i := 128) rfl) rfl, Or.inl rfl, tyX6_ok, nmX6⟩
set_option maxRecDepth 20000 in
theorem fl_X6_18_6 : FLk RX6 18 6 12 := ⟨RX6, TX6, 18, "DownByAHair$State", tyX6, rfl, by decide, inA6, AL_t1 (List.mem_of_getElem? (i := 129) rfl) rfl, Or.inl rfl, tyX6_ok, nmX6⟩
set_option maxRecDepth 20000 in
theorem fl_X9_120_6 : FLk RX9 120 6 12 := ⟨RX6, TX6, 18, "DownByAHair$State", tyX6, rfl, by decide, inA6, AL_t1 (List.mem_of_getElem? (i := 130) rfl) rfl, Or.inl rfl, tyX6_ok, nmX6⟩
set_option maxRecDepth 20000 in
theorem fl_X6_54_6 : FLk RX6 54 6 13 := ⟨RX6, TX6, 18, "DownByAHair$State", tyX6, rfl, by decide, inA6, AL_t1 (List.mem_of_getElem? (i := 131) rfl) rfl, Or.inl rfl, tyX6_ok, nmX6⟩
set_option maxRecDepth 20000 in
theorem fl_X1_54_6 : FLk RX1 54 6 13 := ⟨RX6, TX6, 18, "DownByAHair$State", tyX6, rfl, by decide, inA6, AL_t1 (List.mem_of_getElem? (i := 132) rfl) rfl, Or.inl rfl, tyX6_ok, nmX6⟩
set_option maxRecDepth 20000 in
theorem fl_X4_24_6 : FLk RX4 24 6 13 := ⟨RX6, TX6, 18, "DownByAHair$State", tyX6, rfl, by decide, inA6, AL_t1 (List.mem_of_getElem? (i := 133) rfl) rfl, Or.inl rfl, tyX6_ok, nmX6⟩
set_option maxRecDepth 20000 in
theorem fl_X9_123_6 : FLk RX9 123 6 13 := ⟨RX6, TX6, 18, "DownByAHair$State", tyX6, rfl, by decide, inA6, AL_t1 (List.mem_of_getElem? (i := 134) rfl) rfl, Or.inl rfl, tyX6_ok, nmX6⟩
set_option maxRecDepth 20000 in
theorem fl_X6_22_6 : FLk RX6 22 6 14 := ⟨RX6, TX6, 18, "DownByAHair$State", tyX6, rfl, by decide, inA6, AL_t1 (List.mem_of_getElem? (i := 135) rfl) rfl, Or.inl rfl, tyX6_ok, nmX6⟩
set_option maxRecDepth 20000 in
theorem fl_X6_58_6 : FLk RX6 58 6 15 := ⟨RX6, TX6, 18, "DownByAHair$State", tyX6, rfl, by decide, inA6, AL_t1 (List.mem_of_getElem? (i := 136) rfl) rfl, Or.inl rfl, tyX6_ok, nmX6⟩
set_option maxRecDepth 20000 in
theorem fl_X9_163_6 : FLk RX9 163 6 15 := ⟨RX6, TX6, 18, "DownByAHair$State", tyX6, rfl, by decide, inA6, AL_t1 (List.mem_of_getElem? (i := 137) rfl) rfl, Or.inl rfl, tyX6_ok, nmX6⟩
set_option maxRecDepth 20000 in
theorem fl_X6_27_6 : FLk RX6 27 6 16 := ⟨RX6, TX6, 18, "DownByAHair$State", tyX6, rfl, by decide, inA6, AL_t1 (List.mem_of_getElem? (i := 138) rfl) rfl, Or.inl rfl, tyX6_ok, nmX6⟩
set_option maxRecDepth 20000 in
theorem fl_X9_218_6 : FLk RX9 218 6 16 := ⟨RX6, TX6, 18, "DownByAHair$State", tyX6, rfl, by decide, inA6, AL_t1 (List.mem_of_getElem? (i := 139) rfl) rfl, Or.inl rfl, tyX6_ok, nmX6⟩
set_option maxRecDepth 20000 in
theorem fl_X6_61_6 : FLk RX6 61 6 17 := ⟨RX6, TX6, 18, "DownByAHair$State", tyX6, rfl, by decide, inA6, AL_t1 (List.mem_of_getElem? (i := 140) rfl) rfl, Or.inl rfl, tyX6_ok, nmX6⟩
set_option maxRecDepth 20000 in
theorem fl_X9_215_6 : FLk RX9 215 6 17 := ⟨RX6, TX6, 18, "DownByAHair$State", tyX6, rfl, by decide, inA6, AL_t1 (List.mem_of_getElem? (i := 141) rfl) rfl, Or.inl rfl, tyX6_ok, nmX6⟩
set_option maxRecDepth 20000 in
theorem fl_X7_9_7 : FLk RX7 9 7 0 := ⟨RX7, TX7, 6, "DownByAHair$Tokens", tyX7, rfl, by decide, inA7, AL_t1 (List.mem_of_getElem? (i := 179) rfl) rfl, Or.inl rfl, tyX7_ok, nmX7⟩
set_option maxRecDepth 20000 in
theorem fl_X7_15_7 : FLk RX7 15 7 1 := ⟨RX7, TX7, 6, "DownByAHair$Tokens", tyX7, rfl, by decide, inA7, AL_t1 (List.mem_of_getElem? (i := 180) rfl) rfl, Or.inl rfl, tyX7_ok, nmX7⟩
set_option maxRecDepth 20000 in
theorem fl_X9_96_7 : FLk RX9 96 7 1 := ⟨RX7, TX7, 6, "DownByAHair$Tokens", tyX7, rfl, by decide, inA7, AL_t1 (List.mem_of_getElem? (i := 181) rfl) rfl, Or.inl rfl, tyX7_ok, nmX7⟩
set_option maxRecDepth 20000 in
theorem fl_X2_40_7 : FLk RX2 40 7 2 := ⟨RX7, TX7, 6, "DownByAHair$Tokens", tyX7, rfl, by decide, inA7, AL_t1 (List.mem_of_getElem? (i := 182) rfl) rfl, Or.inl rfl, tyX7_ok, nmX7⟩
set_option maxRecDepth 20000 in
theorem fl_X7_28_7 : FLk RX7 28 7 2 := ⟨RX7, TX7, 6, "DownByAHair$Tokens", tyX7, rfl, by decide, inA7, AL_t1 (List.mem_of_getElem? (i := 183) rfl) rfl, Or.inl rfl, tyX7_ok, nmX7⟩
set_option maxRecDepth 20000 in
theorem fl_X2_57_7 : FLk RX2 57 7 3 := ⟨RX7, TX7, 6, "DownByAHair$Tokens", tyX7, rfl, by decide, inA7, AL_t1 (List.mem_of_getElem? (i := 184) rfl) rfl, Or.inl rfl, tyX7_ok, nmX7⟩
set_option maxRecDepth 20000 in
theorem fl_X7_25_7 : FLk RX7 25 7 3 := ⟨RX7, TX7, 6, "DownByAHair$Tokens", tyX7, rfl, by decide, inA7, AL_t1 (List.mem_of_getElem? (i := 185) rfl) rfl, Or.inl rfl, tyX7_ok, nmX7⟩
set_option maxRecDepth 20000 in
theorem fl_X7_19_7 : FLk RX7 19 7 4 := ⟨RX7, TX7, 6, "DownByAHair$Tokens", tyX7, rfl, by decide, inA7, AL_t1 (List.mem_of_getElem? (i := 186) rfl) rfl, Or.inl rfl, tyX7_ok, nmX7⟩
set_option maxRecDepth 20000 in
theorem fl_X7_49_7 : FLk RX7 49 7 5 := ⟨RX7, TX7, 6, "DownByAHair$Tokens", tyX7, rfl, by decide, inA7, AL_t1 (List.mem_of_getElem? (i := 187) rfl) rfl, Or.inl rfl, tyX7_ok, nmX7⟩
set_option maxRecDepth 20000 in
theorem fl_X2_82_7 : FLk RX2 82 7 5 := ⟨RX7, TX7, 6, "DownByAHair$Tokens", tyX7, rfl, by decide, inA7, AL_t1 (List.mem_of_getElem? (i := 188) rfl) rfl, Or.inl rfl, tyX7_ok, nmX7⟩
set_option maxRecDepth 20000 in
theorem fl_X2_22_2 : FLk RX2 22 2 0 := ⟨RX2, TX2, 13, "DownByAHair$Reader", tyX2, rfl, by decide, inA2, AL_t1 (List.mem_of_getElem? (i := 209) rfl) rfl, Or.inl rfl, tyX2_ok, nmX2⟩
set_option maxRecDepth 20000 in
theorem fl_X2_11_2 : FLk RX2 11 2 1 := ⟨RX2, TX2, 13, "DownByAHair$Reader", tyX2, rfl, by decide, inA2, AL_t1 (List.mem_of_getElem? (i := 210) rfl) rfl, Or.inl rfl, tyX2_ok, nmX2⟩
set_option maxRecDepth 20000 in
theorem fl_X2_92_2 : FLk RX2 92 2 2 := ⟨RX2, TX2, 13, "DownByAHair$Reader", tyX2, rfl, by decide, inA2, AL_t1 (List.mem_of_getElem? (i := 211) rfl) rfl, Or.inl rfl, tyX2_ok, nmX2⟩
set_option maxRecDepth 20000 in
theorem fl_X2_26_2 : FLk RX2 26 2 3 := ⟨RX2, TX2, 13, "DownByAHair$Reader", tyX2, rfl, by decide, inA2, AL_t1 (List.mem_of_getElem? (i := 212) rfl) rfl, Or.inl rfl, tyX2_ok, nmX2⟩
set_option maxRecDepth 20000 in
theorem fl_X2_15_2 : FLk RX2 15 2 4 := ⟨RX2, TX2, 13, "DownByAHair$Reader", tyX2, rfl, by decide, inA2, AL_t1 (List.mem_of_getElem? (i := 213) rfl) rfl, Or.inl rfl, tyX2_ok, nmX2⟩
set_option maxRecDepth 20000 in
theorem fl_X9_110_2 : FLk RX9 110 2 4 := ⟨RX2, TX2, 13, "DownByAHair$Reader", tyX2, rfl, by decide, inA2, AL_t1 (List.mem_of_getElem? (i := 214) rfl) rfl, Or.inl rfl, tyX2_ok, nmX2⟩
set_option maxRecDepth 20000 in
theorem fl_X2_19_2 : FLk RX2 19 2 5 := ⟨RX2, TX2, 13, "DownByAHair$Reader", tyX2, rfl, by decide, inA2, AL_t1 (List.mem_of_getElem? (i := 215) rfl) rfl, Or.inl rfl, tyX2_ok, nmX2⟩
set_option maxRecDepth 20000 in
theorem fl_X9_113_2 : FLk RX9 113 2 5 := ⟨RX2, TX2, 13, "DownByAHair$Reader", tyX2, rfl, by decide, inA2, AL_t1 (List.mem_of_getElem? (i := 216) rfl) rfl, Or.inl rfl, tyX2_ok, nmX2⟩
set_option maxRecDepth 20000 in
theorem fl_X2_95_2 : FLk RX2 95 2 6 := ⟨RX2, TX2, 13, "DownByAHair$Reader", tyX2, rfl, by decide, inA2, AL_t1 (List.mem_of_getElem? (i := 217) rfl) rfl, Or.inl rfl, tyX2_ok, nmX2⟩
set_option maxRecDepth 20000 in
theorem fl_X2_98_2 : FLk RX2 98 2 7 := ⟨RX2, TX2, 13, "DownByAHair$Reader", tyX2, rfl, by decide, inA2, AL_t1 (List.mem_of_getElem? (i := 218) rfl) rfl, Or.inl rfl, tyX2_ok, nmX2⟩
set_option maxRecDepth 20000 in
theorem fl_X2_88_2 : FLk RX2 88 2 8 := ⟨RX2, TX2, 13, "DownByAHair$Reader", tyX2, rfl, by decide, inA2, AL_t1 (List.mem_of_getElem? (i := 219) rfl) rfl, Or.inl rfl, tyX2_ok, nmX2⟩
set_option maxRecDepth 20000 in
theorem fl_X2_101_2 : FLk RX2 101 2 9 := ⟨RX2, TX2, 13, "DownByAHair$Reader", tyX2, rfl, by decide, inA2, AL_t1 (List.mem_of_getElem? (i := 220) rfl) rfl, Or.inl rfl, tyX2_ok, nmX2⟩
set_option maxRecDepth 20000 in
theorem fl_X2_104_2 : FLk RX2 104 2 10 := ⟨RX2, TX2, 13, "DownByAHair$Reader", tyX2, rfl, by decide, inA2, AL_t1 (List.mem_of_getElem? (i := 221) rfl) rfl, Or.inl rfl, tyX2_ok, nmX2⟩
set_option maxRecDepth 20000 in
theorem fl_X2_107_2 : FLk RX2 107 2 11 := ⟨RX2, TX2, 13, "DownByAHair$Reader", tyX2, rfl, by decide, inA2, AL_t1 (List.mem_of_getElem? (i := 222) rfl) rfl, Or.inl rfl, tyX2_ok, nmX2⟩
set_option maxRecDepth 20000 in
theorem fl_X2_110_2 : FLk RX2 110 2 12 := ⟨RX2, TX2, 13, "DownByAHair$Reader", tyX2, rfl, by decide, inA2, AL_t1 (List.mem_of_getElem? (i := 223) rfl) rfl, Or.inl rfl, tyX2_ok, nmX2⟩
set_option maxRecDepth 20000 in
theorem fl_X4_9_4 : FLk RX4 9 4 0 := ⟨RX4, TX4, 5, "DownByAHair$Scales", tyX4, rfl, by decide, inA4, AL_t2 (List.mem_of_getElem? (i := 19) rfl) rfl, Or.inl rfl, tyX4_ok, nmX4⟩
set_option maxRecDepth 20000 in
theorem fl_X4_15_4 : FLk RX4 15 4 1 := ⟨RX4, TX4, 5, "DownByAHair$Scales", tyX4, rfl, by decide, inA4, AL_t2 (List.mem_of_getElem? (i := 20) rfl) rfl, Or.inl rfl, tyX4_ok, nmX4⟩
set_option maxRecDepth 20000 in
theorem fl_X1_27_4 : FLk RX1 27 4 2 := ⟨RX4, TX4, 5, "DownByAHair$Scales", tyX4, rfl, by decide, inA4, AL_t2 (List.mem_of_getElem? (i := 21) rfl) rfl, Or.inl rfl, tyX4_ok, nmX4⟩
set_option maxRecDepth 20000 in
theorem fl_X4_42_4 : FLk RX4 42 4 2 := ⟨RX4, TX4, 5, "DownByAHair$Scales", tyX4, rfl, by decide, inA4, AL_t2 (List.mem_of_getElem? (i := 22) rfl) rfl, Or.inl rfl, tyX4_ok, nmX4⟩
set_option maxRecDepth 20000 in
theorem fl_X9_131_4 : FLk RX9 131 4 2 := ⟨RX4, TX4, 5, "DownByAHair$Scales", tyX4, rfl, by decide, inA4, AL_t2 (List.mem_of_getElem? (i := 23) rfl) rfl, Or.inl rfl, tyX4_ok, nmX4⟩
set_option maxRecDepth 20000 in
theorem fl_X1_32_4 : FLk RX1 32 4 3 := ⟨RX4, TX4, 5, "DownByAHair$Scales", tyX4, rfl, by decide, inA4, AL_t2 (List.mem_of_getElem? (i := 24) rfl) rfl, Or.inl rfl, tyX4_ok, nmX4⟩
set_option maxRecDepth 20000 in
theorem fl_X4_45_4 : FLk RX4 45 4 3 := ⟨RX4, TX4, 5, "DownByAHair$Scales", tyX4, rfl, by decide, inA4, AL_t2 (List.mem_of_getElem? (i := 25) rfl) rfl, Or.inl rfl, tyX4_ok, nmX4⟩
set_option maxRecDepth 20000 in
theorem fl_X9_134_4 : FLk RX9 134 4 3 := ⟨RX4, TX4, 5, "DownByAHair$Scales", tyX4, rfl, by decide, inA4, AL_t2 (List.mem_of_getElem? (i := 26) rfl) rfl, Or.inl rfl, tyX4_ok, nmX4⟩
set_option maxRecDepth 20000 in
theorem fl_X1_62_4 : FLk RX1 62 4 4 := ⟨RX4, TX4, 5, "DownByAHair$Scales", tyX4, rfl, by decide, inA4, AL_t2 (List.mem_of_getElem? (i := 27) rfl) rfl, Or.inl rfl, tyX4_ok, nmX4⟩
set_option maxRecDepth 20000 in
theorem fl_X4_54_4 : FLk RX4 54 4 4 := ⟨RX4, TX4, 5, "DownByAHair$Scales", tyX4, rfl, by decide, inA4, AL_t2 (List.mem_of_getElem? (i := 28) rfl) rfl, Or.inl rfl, tyX4_ok, nmX4⟩
set_option maxRecDepth 20000 in
theorem fl_X9_177_4 : FLk RX9 177 4 4 := ⟨RX4, TX4, 5, "DownByAHair$Scales", tyX4, rfl, by decide, inA4, AL_t2 (List.mem_of_getElem? (i := 29) rfl) rfl, Or.inl rfl, tyX4_ok, nmX4⟩
set_option maxRecDepth 20000 in
theorem fl_X1_9_1 : FLk RX1 9 1 0 := ⟨RX1, TX1, 6, "DownByAHair$Orders", tyX1, rfl, by decide, inA1, AL_t2 (List.mem_of_getElem? (i := 47) rfl) rfl, Or.inl rfl, tyX1_ok, nmX1⟩
set_option maxRecDepth 20000 in
theorem fl_X1_34_1 : FLk RX1 34 1 1 := ⟨RX1, TX1, 6, "DownByAHair$Orders", tyX1, rfl, by decide, inA1, AL_t2 (List.mem_of_getElem? (i := 48) rfl) rfl, Or.inl rfl, tyX1_ok, nmX1⟩
set_option maxRecDepth 20000 in
theorem fl_X1_15_1 : FLk RX1 15 1 2 := ⟨RX1, TX1, 6, "DownByAHair$Orders", tyX1, rfl, by decide, inA1, AL_t2 (List.mem_of_getElem? (i := 49) rfl) rfl, Or.inl rfl, tyX1_ok, nmX1⟩
set_option maxRecDepth 20000 in
theorem fl_X1_18_1 : FLk RX1 18 1 3 := ⟨RX1, TX1, 6, "DownByAHair$Orders", tyX1, rfl, by decide, inA1, AL_t2 (List.mem_of_getElem? (i := 50) rfl) rfl, Or.inl rfl, tyX1_ok, nmX1⟩
set_option maxRecDepth 20000 in
theorem fl_X1_21_1 : FLk RX1 21 1 4 := ⟨RX1, TX1, 6, "DownByAHair$Orders", tyX1, rfl, by decide, inA1, AL_t2 (List.mem_of_getElem? (i := 51) rfl) rfl, Or.inl rfl, tyX1_ok, nmX1⟩
set_option maxRecDepth 20000 in
theorem fl_X1_24_1 : FLk RX1 24 1 5 := ⟨RX1, TX1, 6, "DownByAHair$Orders", tyX1, rfl, by decide, inA1, AL_t2 (List.mem_of_getElem? (i := 52) rfl) rfl, Or.inl rfl, tyX1_ok, nmX1⟩
set_option maxRecDepth 20000 in
theorem fl_X0_9_0 : FLk RX0 9 0 0 := ⟨RX0, TX0, 3, "DownByAHair$Counterpoise", tyX0, rfl, by decide, inA0, AL_t2 (List.mem_of_getElem? (i := 72) rfl) rfl, Or.inl rfl, tyX0_ok, nmX0⟩
set_option maxRecDepth 20000 in
theorem fl_X0_35_0 : FLk RX0 35 0 1 := ⟨RX0, TX0, 3, "DownByAHair$Counterpoise", tyX0, rfl, by decide, inA0, AL_t2 (List.mem_of_getElem? (i := 73) rfl) rfl, Or.inl rfl, tyX0_ok, nmX0⟩
set_option maxRecDepth 20000 in
theorem fl_X9_249_0 : FLk RX9 249 0 1 := ⟨RX0, TX0, 3, "DownByAHair$Counterpoise", tyX0, rfl, by decide, inA0, AL_t2 (List.mem_of_getElem? (i := 74) rfl) rfl, Or.inl rfl, tyX0_ok, nmX0⟩
set_option maxRecDepth 20000 in
theorem fl_X0_38_0 : FLk RX0 38 0 2 := ⟨RX0, TX0, 3, "DownByAHair$Counterpoise", tyX0, rfl, by decide, inA0, AL_t2 (List.mem_of_getElem? (i := 75) rfl) rfl, Or.inl rfl, tyX0_ok, nmX0⟩
set_option maxRecDepth 20000 in
theorem fl_X9_252_0 : FLk RX9 252 0 2 := ⟨RX0, TX0, 3, "DownByAHair$Counterpoise", tyX0, rfl, by decide, inA0, AL_t2 (List.mem_of_getElem? (i := 76) rfl) rfl, Or.inl rfl, tyX0_ok, nmX0⟩
set_option maxRecDepth 20000 in
theorem fl_X5_9_5 : FLk RX5 9 5 0 := ⟨RX5, TX5, 10, "DownByAHair$Script", tyX5, rfl, by decide, inA5, AL_t2 (List.mem_of_getElem? (i := 89) rfl) rfl, Or.inl rfl, tyX5_ok, nmX5⟩
set_option maxRecDepth 20000 in
theorem fl_X4_62_5 : FLk RX4 62 5 0 := ⟨RX5, TX5, 10, "DownByAHair$Script", tyX5, rfl, by decide, inA5, AL_t2 (List.mem_of_getElem? (i := 90) rfl) rfl, Or.inl rfl, tyX5_ok, nmX5⟩
set_option maxRecDepth 20000 in
theorem fl_X5_24_5 : FLk RX5 24 5 1 := ⟨RX5, TX5, 10, "DownByAHair$Script", tyX5, rfl, by decide, inA5, AL_t2 (List.mem_of_getElem? (i := 91) rfl) rfl, Or.inl rfl, tyX5_ok, nmX5⟩
set_option maxRecDepth 20000 in
theorem fl_X2_85_5 : FLk RX2 85 5 1 := ⟨RX5, TX5, 10, "DownByAHair$Script", tyX5, rfl, by decide, inA5, AL_t2 (List.mem_of_getElem? (i := 92) rfl) rfl, Or.inl rfl, tyX5_ok, nmX5⟩
set_option maxRecDepth 20000 in
theorem fl_X5_28_5 : FLk RX5 28 5 2 := ⟨RX5, TX5, 10, "DownByAHair$Script", tyX5, rfl, by decide, inA5, AL_t2 (List.mem_of_getElem? (i := 93) rfl) rfl, Or.inl rfl, tyX5_ok, nmX5⟩
set_option maxRecDepth 20000 in
theorem fl_X2_60_5 : FLk RX2 60 5 2 := ⟨RX5, TX5, 10, "DownByAHair$Script", tyX5, rfl, by decide, inA5, AL_t2 (List.mem_of_getElem? (i := 94) rfl) rfl, Or.inl rfl, tyX5_ok, nmX5⟩
set_option maxRecDepth 20000 in
theorem fl_X4_57_5 : FLk RX4 57 5 2 := ⟨RX5, TX5, 10, "DownByAHair$Script", tyX5, rfl, by decide, inA5, AL_t2 (List.mem_of_getElem? (i := 95) rfl) rfl, Or.inl rfl, tyX5_ok, nmX5⟩
set_option maxRecDepth 20000 in
theorem fl_X4_65_5 : FLk RX4 65 5 3 := ⟨RX5, TX5, 10, "DownByAHair$Script", tyX5, rfl, by decide, inA5, AL_t2 (List.mem_of_getElem? (i := 96) rfl) rfl, Or.inl rfl, tyX5_ok, nmX5⟩
set_option maxRecDepth 20000 in
theorem fl_X2_122_5 : FLk RX2 122 5 3 := ⟨RX5, TX5, 10, "DownByAHair$Script", tyX5, rfl, by decide, inA5, AL_t2 (List.mem_of_getElem? (i := 97) rfl) rfl, Or.inl rfl, tyX5_ok, nmX5⟩
set_option maxRecDepth 20000 in
theorem fl_X5_31_5 : FLk RX5 31 5 4 := ⟨RX5, TX5, 10, "DownByAHair$Script", tyX5, rfl, by decide, inA5, AL_t2 (List.mem_of_getElem? (i := 98) rfl) rfl, Or.inl rfl, tyX5_ok, nmX5⟩
set_option maxRecDepth 20000 in
theorem fl_X2_63_5 : FLk RX2 63 5 4 := ⟨RX5, TX5, 10, "DownByAHair$Script", tyX5, rfl, by decide, inA5, AL_t2 (List.mem_of_getElem? (i := 99) rfl) rfl, Or.inl rfl, tyX5_ok, nmX5⟩
set_option maxRecDepth 20000 in
theorem fl_X4_72_5 : FLk RX4 72 5 4 := ⟨RX5, TX5, 10, "DownByAHair$Script", tyX5, rfl, by decide, inA5, AL_t2 (List.mem_of_getElem? (i := 100) rfl) rfl, Or.inl rfl, tyX5_ok, nmX5⟩
set_option maxRecDepth 20000 in
theorem fl_X4_85_5 : FLk RX4 85 5 5 := ⟨RX5, TX5, 10, "DownByAHair$Script", tyX5, rfl, by decide, inA5, AL_t2 (List.mem_of_getElem? (i := 101) rfl) rfl, Or.inl rfl, tyX5_ok, nmX5⟩
set_option maxRecDepth 20000 in
theorem fl_X2_119_5 : FLk RX2 119 5 5 := ⟨RX5, TX5, 10, "DownByAHair$Script", tyX5, rfl, by decide, inA5, AL_t2 (List.mem_of_getElem? (i := 102) rfl) rfl, Or.inl rfl, tyX5_ok, nmX5⟩
set_option maxRecDepth 20000 in
theorem fl_X5_15_5 : FLk RX5 15 5 6 := ⟨RX5, TX5, 10, "DownByAHair$Script", tyX5, rfl, by decide, inA5, AL_t2 (List.mem_of_getElem? (i := 103) rfl) rfl, Or.inl rfl, tyX5_ok, nmX5⟩
set_option maxRecDepth 20000 in
theorem fl_X9_150_5 : FLk RX9 150 5 6 := ⟨RX5, TX5, 10, "DownByAHair$Script", tyX5, rfl, by decide, inA5, AL_t2 (List.mem_of_getElem? (i := 104) rfl) rfl, Or.inl rfl, tyX5_ok, nmX5⟩
set_option maxRecDepth 20000 in
theorem fl_X5_18_5 : FLk RX5 18 5 7 := ⟨RX5, TX5, 10, "DownByAHair$Script", tyX5, rfl, by decide, inA5, AL_t2 (List.mem_of_getElem? (i := 105) rfl) rfl, Or.inl rfl, tyX5_ok, nmX5⟩
set_option maxRecDepth 20000 in
theorem fl_X9_153_5 : FLk RX9 153 5 7 := ⟨RX5, TX5, 10, "DownByAHair$Script", tyX5, rfl, by decide, inA5, AL_t2 (List.mem_of_getElem? (i := 106) rfl) rfl, Or.inl rfl, tyX5_ok, nmX5⟩
set_option maxRecDepth 20000 in
theorem fl_X5_21_5 : FLk RX5 21 5 8 := ⟨RX5, TX5, 10, "DownByAHair$Script", tyX5, rfl, by decide, inA5, AL_t2 (List.mem_of_getElem? (i := 107) rfl) rfl, Or.inl rfl, tyX5_ok, nmX5⟩
set_option maxRecDepth 20000 in
theorem fl_X9_156_5 : FLk RX9 156 5 8 := ⟨RX5, TX5, 10, "DownByAHair$Script", tyX5, rfl, by decide, inA5, AL_t2 (List.mem_of_getElem? (i := 108) rfl) rfl, Or.inl rfl, tyX5_ok, nmX5⟩
set_option maxRecDepth 20000 in
theorem fl_X5_34_5 : FLk RX5 34 5 9 := ⟨RX5, TX5, 10, "DownByAHair$Script", tyX5, rfl, by decide, inA5, AL_t2 (List.mem_of_getElem? (i := 109) rfl) rfl, Or.inl rfl, tyX5_ok, nmX5⟩
set_option maxRecDepth 20000 in
theorem fl_X2_66_5 : FLk RX2 66 5 9 := ⟨RX5, TX5, 10, "DownByAHair$Script", tyX5, rfl, by decide, inA5, AL_t2 (List.mem_of_getElem? (i := 110) rfl) rfl, Or.inl rfl, tyX5_ok, nmX5⟩
set_option maxRecDepth 20000 in
theorem fl_X9_147_5 : FLk RX9 147 5 9 := ⟨RX5, TX5, 10, "DownByAHair$Script", tyX5, rfl, by decide, inA5, AL_t2 (List.mem_of_getElem? (i := 111) rfl) rfl, Or.inl rfl, tyX5_ok, nmX5⟩
set_option maxRecDepth 20000 in
theorem fl_X9_10_8 : FLk RX9 10 8 0 := ⟨RX9, TX9, 8, "DownByAHair", tyX9, rfl, by decide, inA9, AL_t2 (List.mem_of_getElem? (i := 133) rfl) rfl, Or.inl rfl, tyX9_ok, nmX9⟩
set_option maxRecDepth 20000 in
theorem fl_X9_16_8 : FLk RX9 16 8 1 := ⟨RX9, TX9, 8, "DownByAHair", tyX9, rfl, by decide, inA9, AL_t2 (List.mem_of_getElem? (i := 134) rfl) rfl, Or.inl rfl, tyX9_ok, nmX9⟩
set_option maxRecDepth 20000 in
theorem fl_X9_22_8 : FLk RX9 22 8 2 := ⟨RX9, TX9, 8, "DownByAHair", tyX9, rfl, by decide, inA9, AL_t2 (List.mem_of_getElem? (i := 135) rfl) rfl, Or.inl rfl, tyX9_ok, nmX9⟩
set_option maxRecDepth 20000 in
theorem fl_X9_31_8 : FLk RX9 31 8 3 := ⟨RX9, TX9, 8, "DownByAHair", tyX9, rfl, by decide, inA9, AL_t2 (List.mem_of_getElem? (i := 136) rfl) rfl, Or.inl rfl, tyX9_ok, nmX9⟩
set_option maxRecDepth 20000 in
theorem fl_X9_37_8 : FLk RX9 37 8 4 := ⟨RX9, TX9, 8, "DownByAHair", tyX9, rfl, by decide, inA9, AL_t2 (List.mem_of_getElem? (i := 137) rfl) rfl, Or.inl rfl, tyX9_ok, nmX9⟩
set_option maxRecDepth 20000 in
theorem fl_X9_44_8 : FLk RX9 44 8 5 := ⟨RX9, TX9, 8, "DownByAHair", tyX9, rfl, by decide, inA9, AL_t2 (List.mem_of_getElem? (i := 138) rfl) rfl, Or.inl rfl, tyX9_ok, nmX9⟩
set_option maxRecDepth 20000 in
theorem fl_X9_51_8 : FLk RX9 51 8 6 := ⟨RX9, TX9, 8, "DownByAHair", tyX9, rfl, by decide, inA9, AL_t2 (List.mem_of_getElem? (i := 139) rfl) rfl, Or.inl rfl, tyX9_ok, nmX9⟩
set_option maxRecDepth 20000 in
theorem fl_X9_58_8 : FLk RX9 58 8 7 := ⟨RX9, TX9, 8, "DownByAHair", tyX9, rfl, by decide, inA9, AL_t2 (List.mem_of_getElem? (i := 140) rfl) rfl, Or.inl rfl, tyX9_ok, nmX9⟩
set_option maxRecDepth 20000 in
theorem wd_853 : Cond.fieldLink RX9 255 "DownByAHair" "FEWEST_WEIGHTS" "[I" ∈ AL := AL_t4 (List.mem_of_getElem? (i := 133) rfl) rfl
set_option maxRecDepth 20000 in
theorem fl_X10_7_9 : FLk RX10 7 9 0 := ⟨RX10, TX10, 38, "DownByAHairModel", tyX10, rfl, by decide, inA10, AL_t4 (List.mem_of_getElem? (i := 173) rfl) rfl, Or.inl rfl, tyX10_ok, nmX10⟩
set_option maxRecDepth 20000 in
theorem fl_X10_13_9 : FLk RX10 13 9 1 := ⟨RX10, TX10, 38, "DownByAHairModel", tyX10, rfl, by decide, inA10, AL_t4 (List.mem_of_getElem? (i := 174) rfl) rfl, Or.inl rfl, tyX10_ok, nmX10⟩
set_option maxRecDepth 20000 in
theorem fl_X10_16_9 : FLk RX10 16 9 2 := ⟨RX10, TX10, 38, "DownByAHairModel", tyX10, rfl, by decide, inA10, AL_t4 (List.mem_of_getElem? (i := 175) rfl) rfl, Or.inl rfl, tyX10_ok, nmX10⟩
set_option maxRecDepth 20000 in
theorem fl_X10_19_9 : FLk RX10 19 9 3 := ⟨RX10, TX10, 38, "DownByAHairModel", tyX10, rfl, by decide, inA10, AL_t4 (List.mem_of_getElem? (i := 176) rfl) rfl, Or.inl rfl, tyX10_ok, nmX10⟩
set_option maxRecDepth 20000 in
theorem fl_X10_91_9 : FLk RX10 91 9 4 := ⟨RX10, TX10, 38, "DownByAHairModel", tyX10, rfl, by decide, inA10, AL_t4 (List.mem_of_getElem? (i := 177) rfl) rfl, Or.inl rfl, tyX10_ok, nmX10⟩
set_option maxRecDepth 20000 in
theorem fl_X10_22_9 : FLk RX10 22 9 5 := ⟨RX10, TX10, 38, "DownByAHairModel", tyX10, rfl, by decide, inA10, AL_t4 (List.mem_of_getElem? (i := 178) rfl) rfl, Or.inl rfl, tyX10_ok, nmX10⟩
set_option maxRecDepth 20000 in
theorem fl_X10_26_9 : FLk RX10 26 9 6 := ⟨RX10, TX10, 38, "DownByAHairModel", tyX10, rfl, by decide, inA10, AL_t4 (List.mem_of_getElem? (i := 179) rfl) rfl, Or.inl rfl, tyX10_ok, nmX10⟩
set_option maxRecDepth 20000 in
theorem fl_X10_98_9 : FLk RX10 98 9 7 := ⟨RX10, TX10, 38, "DownByAHairModel", tyX10, rfl, by decide, inA10, AL_t4 (List.mem_of_getElem? (i := 180) rfl) rfl, Or.inl rfl, tyX10_ok, nmX10⟩
set_option maxRecDepth 20000 in
theorem fl_X10_104_9 : FLk RX10 104 9 8 := ⟨RX10, TX10, 38, "DownByAHairModel", tyX10, rfl, by decide, inA10, AL_t4 (List.mem_of_getElem? (i := 181) rfl) rfl, Or.inl rfl, tyX10_ok, nmX10⟩
set_option maxRecDepth 20000 in
theorem fl_X10_107_9 : FLk RX10 107 9 9 := ⟨RX10, TX10, 38, "DownByAHairModel", tyX10, rfl, by decide, inA10, AL_t4 (List.mem_of_getElem? (i := 182) rfl) rfl, Or.inl rfl, tyX10_ok, nmX10⟩
set_option maxRecDepth 20000 in
theorem fl_X10_114_9 : FLk RX10 114 9 10 := ⟨RX10, TX10, 38, "DownByAHairModel", tyX10, rfl, by decide, inA10, AL_t4 (List.mem_of_getElem? (i := 183) rfl) rfl, Or.inl rfl, tyX10_ok, nmX10⟩
set_option maxRecDepth 20000 in
theorem fl_X10_121_9 : FLk RX10 121 9 11 := ⟨RX10, TX10, 38, "DownByAHairModel", tyX10, rfl, by decide, inA10, AL_t4 (List.mem_of_getElem? (i := 184) rfl) rfl, Or.inl rfl, tyX10_ok, nmX10⟩
set_option maxRecDepth 20000 in
theorem fl_X10_133_9 : FLk RX10 133 9 12 := ⟨RX10, TX10, 38, "DownByAHairModel", tyX10, rfl, by decide, inA10, AL_t4 (List.mem_of_getElem? (i := 185) rfl) rfl, Or.inl rfl, tyX10_ok, nmX10⟩
set_option maxRecDepth 20000 in
theorem fl_X10_136_9 : FLk RX10 136 9 14 := ⟨RX10, TX10, 38, "DownByAHairModel", tyX10, rfl, by decide, inA10, AL_t4 (List.mem_of_getElem? (i := 186) rfl) rfl, Or.inl rfl, tyX10_ok, nmX10⟩
set_option maxRecDepth 20000 in
theorem fl_X10_29_9 : FLk RX10 29 9 16 := ⟨RX10, TX10, 38, "DownByAHairModel", tyX10, rfl, by decide, inA10, AL_t4 (List.mem_of_getElem? (i := 187) rfl) rfl, Or.inl rfl, tyX10_ok, nmX10⟩
set_option maxRecDepth 20000 in
theorem fl_X10_139_9 : FLk RX10 139 9 17 := ⟨RX10, TX10, 38, "DownByAHairModel", tyX10, rfl, by decide, inA10, AL_t4 (List.mem_of_getElem? (i := 188) rfl) rfl, Or.inl rfl, tyX10_ok, nmX10⟩
set_option maxRecDepth 20000 in
theorem fl_X10_146_9 : FLk RX10 146 9 18 := ⟨RX10, TX10, 38, "DownByAHairModel", tyX10, rfl, by decide, inA10, AL_t4 (List.mem_of_getElem? (i := 189) rfl) rfl, Or.inl rfl, tyX10_ok, nmX10⟩
set_option maxRecDepth 20000 in
theorem fl_X10_142_9 : FLk RX10 142 9 19 := ⟨RX10, TX10, 38, "DownByAHairModel", tyX10, rfl, by decide, inA10, AL_t4 (List.mem_of_getElem? (i := 190) rfl) rfl, Or.inl rfl, tyX10_ok, nmX10⟩
set_option maxRecDepth 20000 in
theorem fl_X10_161_9 : FLk RX10 161 9 20 := ⟨RX10, TX10, 38, "DownByAHairModel", tyX10, rfl, by decide, inA10, AL_t4 (List.mem_of_getElem? (i := 191) rfl) rfl, Or.inl rfl, tyX10_ok, nmX10⟩
set_option maxRecDepth 20000 in
theorem fl_X10_220_9 : FLk RX10 220 9 21 := ⟨RX10, TX10, 38, "DownByAHairModel", tyX10, rfl, by decide, inA10, AL_t4 (List.mem_of_getElem? (i := 192) rfl) rfl, Or.inl rfl, tyX10_ok, nmX10⟩
set_option maxRecDepth 20000 in
theorem fl_X10_32_9 : FLk RX10 32 9 22 := ⟨RX10, TX10, 38, "DownByAHairModel", tyX10, rfl, by decide, inA10, AL_t4 (List.mem_of_getElem? (i := 193) rfl) rfl, Or.inl rfl, tyX10_ok, nmX10⟩
set_option maxRecDepth 20000 in
theorem fl_X10_35_9 : FLk RX10 35 9 23 := ⟨RX10, TX10, 38, "DownByAHairModel", tyX10, rfl, by decide, inA10, AL_t4 (List.mem_of_getElem? (i := 194) rfl) rfl, Or.inl rfl, tyX10_ok, nmX10⟩
set_option maxRecDepth 20000 in
theorem fl_X10_39_9 : FLk RX10 39 9 24 := ⟨RX10, TX10, 38, "DownByAHairModel", tyX10, rfl, by decide, inA10, AL_t4 (List.mem_of_getElem? (i := 195) rfl) rfl, Or.inl rfl, tyX10_ok, nmX10⟩
set_option maxRecDepth 20000 in
theorem fl_X10_43_9 : FLk RX10 43 9 25 := ⟨RX10, TX10, 38, "DownByAHairModel", tyX10, rfl, by decide, inA10, AL_t4 (List.mem_of_getElem? (i := 196) rfl) rfl, Or.inl rfl, tyX10_ok, nmX10⟩
set_option maxRecDepth 20000 in
theorem fl_X10_46_9 : FLk RX10 46 9 26 := ⟨RX10, TX10, 38, "DownByAHairModel", tyX10, rfl, by decide, inA10, AL_t4 (List.mem_of_getElem? (i := 197) rfl) rfl, Or.inl rfl, tyX10_ok, nmX10⟩
set_option maxRecDepth 20000 in
theorem fl_X10_49_9 : FLk RX10 49 9 27 := ⟨RX10, TX10, 38, "DownByAHairModel", tyX10, rfl, by decide, inA10, AL_t4 (List.mem_of_getElem? (i := 198) rfl) rfl, Or.inl rfl, tyX10_ok, nmX10⟩
set_option maxRecDepth 20000 in
theorem fl_X10_52_9 : FLk RX10 52 9 28 := ⟨RX10, TX10, 38, "DownByAHairModel", tyX10, rfl, by decide, inA10, AL_t4 (List.mem_of_getElem? (i := 199) rfl) rfl, Or.inl rfl, tyX10_ok, nmX10⟩
set_option maxRecDepth 20000 in
theorem fl_X10_324_9 : FLk RX10 324 9 29 := ⟨RX10, TX10, 38, "DownByAHairModel", tyX10, rfl, by decide, inA10, AL_t4 (List.mem_of_getElem? (i := 200) rfl) rfl, Or.inl rfl, tyX10_ok, nmX10⟩
set_option maxRecDepth 20000 in
theorem fl_X10_55_9 : FLk RX10 55 9 30 := ⟨RX10, TX10, 38, "DownByAHairModel", tyX10, rfl, by decide, inA10, AL_t4 (List.mem_of_getElem? (i := 201) rfl) rfl, Or.inl rfl, tyX10_ok, nmX10⟩
set_option maxRecDepth 20000 in
theorem fl_X10_58_9 : FLk RX10 58 9 31 := ⟨RX10, TX10, 38, "DownByAHairModel", tyX10, rfl, by decide, inA10, AL_t4 (List.mem_of_getElem? (i := 202) rfl) rfl, Or.inl rfl, tyX10_ok, nmX10⟩
set_option maxRecDepth 20000 in
theorem fl_X10_61_9 : FLk RX10 61 9 32 := ⟨RX10, TX10, 38, "DownByAHairModel", tyX10, rfl, by decide, inA10, AL_t4 (List.mem_of_getElem? (i := 203) rfl) rfl, Or.inl rfl, tyX10_ok, nmX10⟩
set_option maxRecDepth 20000 in
theorem fl_X10_64_9 : FLk RX10 64 9 33 := ⟨RX10, TX10, 38, "DownByAHairModel", tyX10, rfl, by decide, inA10, AL_t4 (List.mem_of_getElem? (i := 204) rfl) rfl, Or.inl rfl, tyX10_ok, nmX10⟩
set_option maxRecDepth 20000 in
theorem fl_X10_67_9 : FLk RX10 67 9 34 := ⟨RX10, TX10, 38, "DownByAHairModel", tyX10, rfl, by decide, inA10, AL_t4 (List.mem_of_getElem? (i := 205) rfl) rfl, Or.inl rfl, tyX10_ok, nmX10⟩
set_option maxRecDepth 20000 in
theorem fl_X10_70_9 : FLk RX10 70 9 35 := ⟨RX10, TX10, 38, "DownByAHairModel", tyX10, rfl, by decide, inA10, AL_t4 (List.mem_of_getElem? (i := 206) rfl) rfl, Or.inl rfl, tyX10_ok, nmX10⟩
set_option maxRecDepth 20000 in
theorem fl_X10_73_9 : FLk RX10 73 9 36 := ⟨RX10, TX10, 38, "DownByAHairModel", tyX10, rfl, by decide, inA10, AL_t4 (List.mem_of_getElem? (i := 207) rfl) rfl, Or.inl rfl, tyX10_ok, nmX10⟩
set_option maxRecDepth 20000 in
theorem fl_X10_76_9 : FLk RX10 76 9 37 := ⟨RX10, TX10, 38, "DownByAHairModel", tyX10, rfl, by decide, inA10, AL_t4 (List.mem_of_getElem? (i := 208) rfl) rfl, Or.inl rfl, tyX10_ok, nmX10⟩
theorem fw_0_1 : FLw 0 1 .int := fun _ _ _ h => by
  have h2 : some (RX0, TX0, 3) = some _ := h
  cases h2
  exact ⟨rfl, by decide +kernel⟩
theorem fw_0_2 : FLw 0 2 .int := fun _ _ _ h => by
  have h2 : some (RX0, TX0, 3) = some _ := h
  cases h2
  exact ⟨rfl, by decide +kernel⟩
theorem fw_1_1 : FLw 1 1 .int := fun _ _ _ h => by
  have h2 : some (RX1, TX1, 6) = some _ := h
  cases h2
  exact ⟨rfl, by decide +kernel⟩
theorem fw_2_2 : FLw 2 2 .int := fun _ _ _ h => by
  have h2 : some (RX2, TX2, 13) = some _ := h
  cases h2
  exact ⟨rfl, by decide +kernel⟩
theorem fw_2_3 : FLw 2 3 (.object "DownByAHair$Script") := fun _ _ _ h => by
  have h2 : some (RX2, TX2, 13) = some _ := h
  cases h2
  exact ⟨rfl, by decide +kernel⟩
theorem fw_2_4 : FLw 2 4 .int := fun _ _ _ h => by
  have h2 : some (RX2, TX2, 13) = some _ := h
  cases h2
  exact ⟨rfl, by decide +kernel⟩
theorem fw_2_5 : FLw 2 5 .int := fun _ _ _ h => by
  have h2 : some (RX2, TX2, 13) = some _ := h
  cases h2
  exact ⟨rfl, by decide +kernel⟩
theorem fw_2_6 : FLw 2 6 .int := fun _ _ _ h => by
  have h2 : some (RX2, TX2, 13) = some _ := h
  cases h2
  exact ⟨rfl, by decide +kernel⟩
theorem fw_2_7 : FLw 2 7 .int := fun _ _ _ h => by
  have h2 : some (RX2, TX2, 13) = some _ := h
  cases h2
  exact ⟨rfl, by decide +kernel⟩
theorem fw_2_8 : FLw 2 8 .boolean := fun _ _ _ h => by
  have h2 : some (RX2, TX2, 13) = some _ := h
  cases h2
  exact ⟨rfl, by decide +kernel⟩
theorem fw_2_9 : FLw 2 9 .boolean := fun _ _ _ h => by
  have h2 : some (RX2, TX2, 13) = some _ := h
  cases h2
  exact ⟨rfl, by decide +kernel⟩
theorem fw_2_10 : FLw 2 10 .boolean := fun _ _ _ h => by
  have h2 : some (RX2, TX2, 13) = some _ := h
  cases h2
  exact ⟨rfl, by decide +kernel⟩
theorem fw_2_11 : FLw 2 11 .boolean := fun _ _ _ h => by
  have h2 : some (RX2, TX2, 13) = some _ := h
  cases h2
  exact ⟨rfl, by decide +kernel⟩
theorem fw_2_12 : FLw 2 12 .boolean := fun _ _ _ h => by
  have h2 : some (RX2, TX2, 13) = some _ := h
  cases h2
  exact ⟨rfl, by decide +kernel⟩
theorem fw_3_0 : FLw 3 0 .int := fun _ _ _ h => by
  have h2 : some (RX3, TX3, 11) = some _ := h
  cases h2
  exact ⟨rfl, by decide +kernel⟩
theorem fw_3_1 : FLw 3 1 .int := fun _ _ _ h => by
  have h2 : some (RX3, TX3, 11) = some _ := h
  cases h2
  exact ⟨rfl, by decide +kernel⟩
theorem fw_3_2 : FLw 3 2 .int := fun _ _ _ h => by
  have h2 : some (RX3, TX3, 11) = some _ := h
  cases h2
  exact ⟨rfl, by decide +kernel⟩
theorem fw_3_3 : FLw 3 3 .int := fun _ _ _ h => by
  have h2 : some (RX3, TX3, 11) = some _ := h
  cases h2
  exact ⟨rfl, by decide +kernel⟩
theorem fw_3_4 : FLw 3 4 .int := fun _ _ _ h => by
  have h2 : some (RX3, TX3, 11) = some _ := h
  cases h2
  exact ⟨rfl, by decide +kernel⟩
theorem fw_3_5 : FLw 3 5 .int := fun _ _ _ h => by
  have h2 : some (RX3, TX3, 11) = some _ := h
  cases h2
  exact ⟨rfl, by decide +kernel⟩
theorem fw_3_6 : FLw 3 6 .int := fun _ _ _ h => by
  have h2 : some (RX3, TX3, 11) = some _ := h
  cases h2
  exact ⟨rfl, by decide +kernel⟩
theorem fw_3_7 : FLw 3 7 .int := fun _ _ _ h => by
  have h2 : some (RX3, TX3, 11) = some _ := h
  cases h2
  exact ⟨rfl, by decide +kernel⟩
theorem fw_3_8 : FLw 3 8 .int := fun _ _ _ h => by
  have h2 : some (RX3, TX3, 11) = some _ := h
  cases h2
  exact ⟨rfl, by decide +kernel⟩
theorem fw_3_9 : FLw 3 9 .int := fun _ _ _ h => by
  have h2 : some (RX3, TX3, 11) = some _ := h
  cases h2
  exact ⟨rfl, by decide +kernel⟩
theorem fw_3_10 : FLw 3 10 .int := fun _ _ _ h => by
  have h2 : some (RX3, TX3, 11) = some _ := h
  cases h2
  exact ⟨rfl, by decide +kernel⟩
theorem fw_4_2 : FLw 4 2 .int := fun _ _ _ h => by
  have h2 : some (RX4, TX4, 5) = some _ := h
  cases h2
  exact ⟨rfl, by decide +kernel⟩
theorem fw_4_3 : FLw 4 3 .int := fun _ _ _ h => by
  have h2 : some (RX4, TX4, 5) = some _ := h
  cases h2
  exact ⟨rfl, by decide +kernel⟩
theorem fw_4_4 : FLw 4 4 .int := fun _ _ _ h => by
  have h2 : some (RX4, TX4, 5) = some _ := h
  cases h2
  exact ⟨rfl, by decide +kernel⟩
theorem fw_5_1 : FLw 5 1 .int := fun _ _ _ h => by
  have h2 : some (RX5, TX5, 10) = some _ := h
  cases h2
  exact ⟨rfl, by decide +kernel⟩
theorem fw_5_2 : FLw 5 2 .int := fun _ _ _ h => by
  have h2 : some (RX5, TX5, 10) = some _ := h
  cases h2
  exact ⟨rfl, by decide +kernel⟩
theorem fw_5_3 : FLw 5 3 .int := fun _ _ _ h => by
  have h2 : some (RX5, TX5, 10) = some _ := h
  cases h2
  exact ⟨rfl, by decide +kernel⟩
theorem fw_5_4 : FLw 5 4 .int := fun _ _ _ h => by
  have h2 : some (RX5, TX5, 10) = some _ := h
  cases h2
  exact ⟨rfl, by decide +kernel⟩
theorem fw_5_5 : FLw 5 5 .int := fun _ _ _ h => by
  have h2 : some (RX5, TX5, 10) = some _ := h
  cases h2
  exact ⟨rfl, by decide +kernel⟩
theorem fw_5_9 : FLw 5 9 .int := fun _ _ _ h => by
  have h2 : some (RX5, TX5, 10) = some _ := h
  cases h2
  exact ⟨rfl, by decide +kernel⟩
theorem fw_6_0 : FLw 6 0 .int := fun _ _ _ h => by
  have h2 : some (RX6, TX6, 18) = some _ := h
  cases h2
  exact ⟨rfl, by decide +kernel⟩
theorem fw_6_1 : FLw 6 1 .int := fun _ _ _ h => by
  have h2 : some (RX6, TX6, 18) = some _ := h
  cases h2
  exact ⟨rfl, by decide +kernel⟩
theorem fw_6_2 : FLw 6 2 .int := fun _ _ _ h => by
  have h2 : some (RX6, TX6, 18) = some _ := h
  cases h2
  exact ⟨rfl, by decide +kernel⟩
theorem fw_6_3 : FLw 6 3 .int := fun _ _ _ h => by
  have h2 : some (RX6, TX6, 18) = some _ := h
  cases h2
  exact ⟨rfl, by decide +kernel⟩
theorem fw_6_4 : FLw 6 4 .int := fun _ _ _ h => by
  have h2 : some (RX6, TX6, 18) = some _ := h
  cases h2
  exact ⟨rfl, by decide +kernel⟩
theorem fw_6_5 : FLw 6 5 .int := fun _ _ _ h => by
  have h2 : some (RX6, TX6, 18) = some _ := h
  cases h2
  exact ⟨rfl, by decide +kernel⟩
theorem fw_6_6 : FLw 6 6 .int := fun _ _ _ h => by
  have h2 : some (RX6, TX6, 18) = some _ := h
  cases h2
  exact ⟨rfl, by decide +kernel⟩
theorem fw_6_9 : FLw 6 9 .int := fun _ _ _ h => by
  have h2 : some (RX6, TX6, 18) = some _ := h
  cases h2
  exact ⟨rfl, by decide +kernel⟩
theorem fw_6_10 : FLw 6 10 .int := fun _ _ _ h => by
  have h2 : some (RX6, TX6, 18) = some _ := h
  cases h2
  exact ⟨rfl, by decide +kernel⟩
theorem fw_6_11 : FLw 6 11 .int := fun _ _ _ h => by
  have h2 : some (RX6, TX6, 18) = some _ := h
  cases h2
  exact ⟨rfl, by decide +kernel⟩
theorem fw_6_12 : FLw 6 12 .int := fun _ _ _ h => by
  have h2 : some (RX6, TX6, 18) = some _ := h
  cases h2
  exact ⟨rfl, by decide +kernel⟩
theorem fw_6_13 : FLw 6 13 (.object "DownByAHair$Script") := fun _ _ _ h => by
  have h2 : some (RX6, TX6, 18) = some _ := h
  cases h2
  exact ⟨rfl, by decide +kernel⟩
theorem fw_6_15 : FLw 6 15 .int := fun _ _ _ h => by
  have h2 : some (RX6, TX6, 18) = some _ := h
  cases h2
  exact ⟨rfl, by decide +kernel⟩
theorem fw_6_17 : FLw 6 17 .int := fun _ _ _ h => by
  have h2 : some (RX6, TX6, 18) = some _ := h
  cases h2
  exact ⟨rfl, by decide +kernel⟩
theorem fw_7_1 : FLw 7 1 .int := fun _ _ _ h => by
  have h2 : some (RX7, TX7, 6) = some _ := h
  cases h2
  exact ⟨rfl, by decide +kernel⟩
theorem fw_7_2 : FLw 7 2 .int := fun _ _ _ h => by
  have h2 : some (RX7, TX7, 6) = some _ := h
  cases h2
  exact ⟨rfl, by decide +kernel⟩
theorem fw_7_3 : FLw 7 3 .int := fun _ _ _ h => by
  have h2 : some (RX7, TX7, 6) = some _ := h
  cases h2
  exact ⟨rfl, by decide +kernel⟩
theorem fw_7_4 : FLw 7 4 .int := fun _ _ _ h => by
  have h2 : some (RX7, TX7, 6) = some _ := h
  cases h2
  exact ⟨rfl, by decide +kernel⟩
theorem fw_7_5 : FLw 7 5 .int := fun _ _ _ h => by
  have h2 : some (RX7, TX7, 6) = some _ := h
  cases h2
  exact ⟨rfl, by decide +kernel⟩
theorem fw_9_4 : FLw 9 4 .int := fun _ _ _ h => by
  have h2 : some (RX10, TX10, 38) = some _ := h
  cases h2
  exact ⟨rfl, by decide +kernel⟩
theorem fw_9_5 : FLw 9 5 .int := fun _ _ _ h => by
  have h2 : some (RX10, TX10, 38) = some _ := h
  cases h2
  exact ⟨rfl, by decide +kernel⟩
theorem fw_9_6 : FLw 9 6 .int := fun _ _ _ h => by
  have h2 : some (RX10, TX10, 38) = some _ := h
  cases h2
  exact ⟨rfl, by decide +kernel⟩
theorem fw_9_7 : FLw 9 7 .int := fun _ _ _ h => by
  have h2 : some (RX10, TX10, 38) = some _ := h
  cases h2
  exact ⟨rfl, by decide +kernel⟩
theorem fw_9_8 : FLw 9 8 .int := fun _ _ _ h => by
  have h2 : some (RX10, TX10, 38) = some _ := h
  cases h2
  exact ⟨rfl, by decide +kernel⟩
theorem fw_9_9 : FLw 9 9 .int := fun _ _ _ h => by
  have h2 : some (RX10, TX10, 38) = some _ := h
  cases h2
  exact ⟨rfl, by decide +kernel⟩
theorem fw_9_10 : FLw 9 10 .int := fun _ _ _ h => by
  have h2 : some (RX10, TX10, 38) = some _ := h
  cases h2
  exact ⟨rfl, by decide +kernel⟩
theorem fw_9_11 : FLw 9 11 .long := fun _ _ _ h => by
  have h2 : some (RX10, TX10, 38) = some _ := h
  cases h2
  exact ⟨rfl, by decide +kernel⟩
theorem fw_9_12 : FLw 9 12 .int := fun _ _ _ h => by
  have h2 : some (RX10, TX10, 38) = some _ := h
  cases h2
  exact ⟨rfl, by decide +kernel⟩
theorem fw_9_13 : FLw 9 13 .int := fun _ _ _ h => by
  have h2 : some (RX10, TX10, 38) = some _ := h
  cases h2
  exact ⟨rfl, by decide +kernel⟩
theorem fw_9_14 : FLw 9 14 .int := fun _ _ _ h => by
  have h2 : some (RX10, TX10, 38) = some _ := h
  cases h2
  exact ⟨rfl, by decide +kernel⟩
theorem fw_9_15 : FLw 9 15 .int := fun _ _ _ h => by
  have h2 : some (RX10, TX10, 38) = some _ := h
  cases h2
  exact ⟨rfl, by decide +kernel⟩
theorem fw_9_17 : FLw 9 17 .int := fun _ _ _ h => by
  have h2 : some (RX10, TX10, 38) = some _ := h
  cases h2
  exact ⟨rfl, by decide +kernel⟩
theorem fw_9_18 : FLw 9 18 .int := fun _ _ _ h => by
  have h2 : some (RX10, TX10, 38) = some _ := h
  cases h2
  exact ⟨rfl, by decide +kernel⟩
theorem fw_9_19 : FLw 9 19 .boolean := fun _ _ _ h => by
  have h2 : some (RX10, TX10, 38) = some _ := h
  cases h2
  exact ⟨rfl, by decide +kernel⟩
theorem fw_9_20 : FLw 9 20 .int := fun _ _ _ h => by
  have h2 : some (RX10, TX10, 38) = some _ := h
  cases h2
  exact ⟨rfl, by decide +kernel⟩
theorem fw_9_21 : FLw 9 21 .int := fun _ _ _ h => by
  have h2 : some (RX10, TX10, 38) = some _ := h
  cases h2
  exact ⟨rfl, by decide +kernel⟩
theorem fw_9_29 : FLw 9 29 .int := fun _ _ _ h => by
  have h2 : some (RX10, TX10, 38) = some _ := h
  cases h2
  exact ⟨rfl, by decide +kernel⟩
set_option maxRecDepth 20000 in
theorem wd_465 : Cond.fieldLink RJ0 38 "java/lang/String" "COMPACT_STRINGS" "Z" ∈ AL := AL_t2 (List.mem_of_getElem? (i := 225) rfl) rfl
set_option maxRecDepth 20000 in
theorem wd_481 : Cond.fieldLink RJ0 1053 "jdk/internal/util/Preconditions" "SIOOBE_FORMATTER" "Ljava/util/function/BiFunction;" ∈ AL := AL_t3 (List.mem_of_getElem? (i := 1) rfl) rfl
set_option maxRecDepth 20000 in
theorem wd_1375 : Cond.fieldLink RJ0 9 "java/lang/String" "value" "[B" ∈ AL := AL_t6 (List.mem_of_getElem? (i := 175) rfl) rfl
set_option maxRecDepth 20000 in
theorem wd_1376 : Cond.fieldLink RJ0 15 "java/lang/String" "coder" "B" ∈ AL := AL_t6 (List.mem_of_getElem? (i := 176) rfl) rfl
set_option maxRecDepth 20000 in
theorem wd_398 : Cond.methodLink RL 13 yX9_beam ∈ AL := AL_t2 (List.mem_of_getElem? (i := 158) rfl) rfl
set_option maxRecDepth 20000 in
theorem wd_399 : Cond.instanceMethod yX9_beam ∈ AL := AL_t2 (List.mem_of_getElem? (i := 159) rfl) rfl
set_option maxRecDepth 20000 in
theorem wd_400 : Cond.selects RX9 yX9_beam yX9_beam ∈ AL := AL_t2 (List.mem_of_getElem? (i := 160) rfl) rfl
set_option maxRecDepth 20000 in
theorem wd_1 : Cond.initialized RX9 ∈ AL := AL_t1 (List.mem_of_getElem? (i := 1) rfl) rfl
set_option maxRecDepth 20000 in
theorem wd_401 : Cond.code yX9_beam cX9_beam 4 (some .boolean) ∈ AL := AL_t2 (List.mem_of_getElem? (i := 161) rfl) rfl
theorem ml_L_13 : MLv RL 13 RX9 yX9_beam cX9_beam 4 (some .boolean) 3 := ⟨by decide +kernel, wd_398, wd_399, wd_400, wd_1, wd_401⟩
set_option maxRecDepth 20000 in
theorem wd_402 : Cond.methodLink RX9 63 yX9_within ∈ AL := AL_t2 (List.mem_of_getElem? (i := 162) rfl) rfl
set_option maxRecDepth 20000 in
theorem wd_403 : Cond.static yX9_within ∈ AL := AL_t2 (List.mem_of_getElem? (i := 163) rfl) rfl
set_option maxRecDepth 20000 in
theorem wd_404 : Cond.code yX9_within cX9_within 3 (some .boolean) ∈ AL := AL_t2 (List.mem_of_getElem? (i := 164) rfl) rfl
theorem ml_X9_63 : MLs RX9 63 yX9_within cX9_within 3 (some .boolean) 3 := ⟨by decide +kernel, wd_402, wd_403, wd_1, wd_404⟩
set_option maxRecDepth 20000 in
theorem wd_405 : Cond.methodLink RL 18 yX9_thing ∈ AL := AL_t2 (List.mem_of_getElem? (i := 165) rfl) rfl
set_option maxRecDepth 20000 in
theorem wd_406 : Cond.instanceMethod yX9_thing ∈ AL := AL_t2 (List.mem_of_getElem? (i := 166) rfl) rfl
set_option maxRecDepth 20000 in
theorem wd_407 : Cond.selects RX9 yX9_thing yX9_thing ∈ AL := AL_t2 (List.mem_of_getElem? (i := 167) rfl) rfl
set_option maxRecDepth 20000 in
theorem wd_408 : Cond.code yX9_thing cX9_thing 4 (some .int) ∈ AL := AL_t2 (List.mem_of_getElem? (i := 168) rfl) rfl
theorem ml_L_18 : MLv RL 18 RX9 yX9_thing cX9_thing 4 (some .int) 2 := ⟨by decide +kernel, wd_405, wd_406, wd_407, wd_1, wd_408⟩
set_option maxRecDepth 20000 in
theorem wd_409 : Cond.methodLink RL 23 yX9_weather ∈ AL := AL_t2 (List.mem_of_getElem? (i := 169) rfl) rfl
set_option maxRecDepth 20000 in
theorem wd_410 : Cond.instanceMethod yX9_weather ∈ AL := AL_t2 (List.mem_of_getElem? (i := 170) rfl) rfl
set_option maxRecDepth 20000 in
theorem wd_411 : Cond.selects RX9 yX9_weather yX9_weather ∈ AL := AL_t2 (List.mem_of_getElem? (i := 171) rfl) rfl
set_option maxRecDepth 20000 in
theorem wd_412 : Cond.code yX9_weather cX9_weather 4 (some .boolean) ∈ AL := AL_t2 (List.mem_of_getElem? (i := 172) rfl) rfl
theorem ml_L_23 : MLv RL 23 RX9 yX9_weather cX9_weather 4 (some .boolean) 3 := ⟨by decide +kernel, wd_409, wd_410, wd_411, wd_1, wd_412⟩
set_option maxRecDepth 20000 in
theorem wd_413 : Cond.methodLink RL 27 yX9_feed ∈ AL := AL_t2 (List.mem_of_getElem? (i := 173) rfl) rfl
set_option maxRecDepth 20000 in
theorem wd_414 : Cond.instanceMethod yX9_feed ∈ AL := AL_t2 (List.mem_of_getElem? (i := 174) rfl) rfl
set_option maxRecDepth 20000 in
theorem wd_415 : Cond.selects RX9 yX9_feed yX9_feed ∈ AL := AL_t2 (List.mem_of_getElem? (i := 175) rfl) rfl
set_option maxRecDepth 20000 in
theorem wd_416 : Cond.code yX9_feed cX9_feed 6 (some .int) ∈ AL := AL_t2 (List.mem_of_getElem? (i := 176) rfl) rfl
theorem ml_L_27 : MLv RL 27 RX9 yX9_feed cX9_feed 6 (some .int) 5 := ⟨by decide +kernel, wd_413, wd_414, wd_415, wd_1, wd_416⟩
set_option maxRecDepth 20000 in
theorem wd_417 : Cond.methodLink RX9 99 yX7_append ∈ AL := AL_t2 (List.mem_of_getElem? (i := 177) rfl) rfl
set_option maxRecDepth 20000 in
theorem wd_418 : Cond.instanceMethod yX7_append ∈ AL := AL_t2 (List.mem_of_getElem? (i := 178) rfl) rfl
set_option maxRecDepth 20000 in
theorem wd_419 : Cond.selects RX7 yX7_append yX7_append ∈ AL := AL_t2 (List.mem_of_getElem? (i := 179) rfl) rfl
set_option maxRecDepth 20000 in
theorem wd_5 : Cond.initialized RX7 ∈ AL := AL_t1 (List.mem_of_getElem? (i := 5) rfl) rfl
set_option maxRecDepth 20000 in
theorem wd_420 : Cond.code yX7_append cX7_append 3 none ∈ AL := AL_t2 (List.mem_of_getElem? (i := 180) rfl) rfl
theorem ml_X9_99 : MLv RX9 99 RX7 yX7_append cX7_append 3 none 1 := ⟨by decide +kernel, wd_417, wd_418, wd_419, wd_5, wd_420⟩
set_option maxRecDepth 20000 in
theorem wd_421 : Cond.methodLink RL 32 yX9_end ∈ AL := AL_t2 (List.mem_of_getElem? (i := 181) rfl) rfl
set_option maxRecDepth 20000 in
theorem wd_422 : Cond.instanceMethod yX9_end ∈ AL := AL_t2 (List.mem_of_getElem? (i := 182) rfl) rfl
set_option maxRecDepth 20000 in
theorem wd_423 : Cond.selects RX9 yX9_end yX9_end ∈ AL := AL_t2 (List.mem_of_getElem? (i := 183) rfl) rfl
set_option maxRecDepth 20000 in
theorem wd_424 : Cond.code yX9_end cX9_end 2 (some .int) ∈ AL := AL_t2 (List.mem_of_getElem? (i := 184) rfl) rfl
theorem ml_L_32 : MLv RL 32 RX9 yX9_end cX9_end 2 (some .int) 1 := ⟨by decide +kernel, wd_421, wd_422, wd_423, wd_1, wd_424⟩
set_option maxRecDepth 20000 in
theorem wd_425 : Cond.methodLink RL 37 yX9_text ∈ AL := AL_t2 (List.mem_of_getElem? (i := 185) rfl) rfl
set_option maxRecDepth 20000 in
theorem wd_426 : Cond.instanceMethod yX9_text ∈ AL := AL_t2 (List.mem_of_getElem? (i := 186) rfl) rfl
set_option maxRecDepth 20000 in
theorem wd_427 : Cond.selects RX9 yX9_text yX9_text ∈ AL := AL_t2 (List.mem_of_getElem? (i := 187) rfl) rfl
set_option maxRecDepth 20000 in
theorem wd_428 : Cond.code yX9_text cX9_text 2 (some .int) ∈ AL := AL_t2 (List.mem_of_getElem? (i := 188) rfl) rfl
theorem ml_L_37 : MLv RL 37 RX9 yX9_text cX9_text 2 (some .int) 0 := ⟨by decide +kernel, wd_425, wd_426, wd_427, wd_1, wd_428⟩
set_option maxRecDepth 20000 in
theorem wd_429 : Cond.methodLink RX9 106 yX2_read ∈ AL := AL_t2 (List.mem_of_getElem? (i := 189) rfl) rfl
set_option maxRecDepth 20000 in
theorem wd_430 : Cond.instanceMethod yX2_read ∈ AL := AL_t2 (List.mem_of_getElem? (i := 190) rfl) rfl
set_option maxRecDepth 20000 in
theorem wd_431 : Cond.selects RX2 yX2_read yX2_read ∈ AL := AL_t2 (List.mem_of_getElem? (i := 191) rfl) rfl
set_option maxRecDepth 20000 in
theorem wd_6 : Cond.initialized RX2 ∈ AL := AL_t1 (List.mem_of_getElem? (i := 6) rfl) rfl
set_option maxRecDepth 20000 in
theorem wd_432 : Cond.code yX2_read cX2_read 5 (some .boolean) ∈ AL := AL_t2 (List.mem_of_getElem? (i := 192) rfl) rfl
theorem ml_X9_106 : MLv RX9 106 RX2 yX2_read cX2_read 5 (some .boolean) 1 := ⟨by decide +kernel, wd_429, wd_430, wd_431, wd_6, wd_432⟩
set_option maxRecDepth 20000 in
theorem wd_433 : Cond.methodLink RX2 30 yX5_clear ∈ AL := AL_t2 (List.mem_of_getElem? (i := 193) rfl) rfl
set_option maxRecDepth 20000 in
theorem wd_434 : Cond.instanceMethod yX5_clear ∈ AL := AL_t2 (List.mem_of_getElem? (i := 194) rfl) rfl
set_option maxRecDepth 20000 in
theorem wd_435 : Cond.selects RX5 yX5_clear yX5_clear ∈ AL := AL_t2 (List.mem_of_getElem? (i := 195) rfl) rfl
set_option maxRecDepth 20000 in
theorem wd_10 : Cond.initialized RX5 ∈ AL := AL_t1 (List.mem_of_getElem? (i := 10) rfl) rfl
set_option maxRecDepth 20000 in
theorem wd_436 : Cond.code yX5_clear cX5_clear 1 none ∈ AL := AL_t2 (List.mem_of_getElem? (i := 196) rfl) rfl
theorem ml_X2_30 : MLv RX2 30 RX5 yX5_clear cX5_clear 1 none 0 := ⟨by decide +kernel, wd_433, wd_434, wd_435, wd_10, wd_436⟩
set_option maxRecDepth 20000 in
theorem wd_437 : Cond.methodLink RX2 35 yX7_begin ∈ AL := AL_t2 (List.mem_of_getElem? (i := 197) rfl) rfl
set_option maxRecDepth 20000 in
theorem wd_438 : Cond.instanceMethod yX7_begin ∈ AL := AL_t2 (List.mem_of_getElem? (i := 198) rfl) rfl
set_option maxRecDepth 20000 in
theorem wd_439 : Cond.selects RX7 yX7_begin yX7_begin ∈ AL := AL_t2 (List.mem_of_getElem? (i := 199) rfl) rfl
set_option maxRecDepth 20000 in
theorem wd_440 : Cond.code yX7_begin cX7_begin 1 none ∈ AL := AL_t2 (List.mem_of_getElem? (i := 200) rfl) rfl
theorem ml_X2_35 : MLv RX2 35 RX7 yX7_begin cX7_begin 1 none 0 := ⟨by decide +kernel, wd_437, wd_438, wd_439, wd_5, wd_440⟩
set_option maxRecDepth 20000 in
theorem wd_441 : Cond.methodLink RX7 22 yX7_advance ∈ AL := AL_t2 (List.mem_of_getElem? (i := 201) rfl) rfl
set_option maxRecDepth 20000 in
theorem wd_442 : Cond.instanceMethod yX7_advance ∈ AL := AL_t2 (List.mem_of_getElem? (i := 202) rfl) rfl
set_option maxRecDepth 20000 in
theorem wd_443 : Cond.selects RX7 yX7_advance yX7_advance ∈ AL := AL_t2 (List.mem_of_getElem? (i := 203) rfl) rfl
set_option maxRecDepth 20000 in
theorem wd_444 : Cond.code yX7_advance cX7_advance 1 none ∈ AL := AL_t2 (List.mem_of_getElem? (i := 204) rfl) rfl
theorem ml_X7_22 : MLv RX7 22 RX7 yX7_advance cX7_advance 1 none 0 := ⟨by decide +kernel, wd_441, wd_442, wd_443, wd_5, wd_444⟩
set_option maxRecDepth 20000 in
theorem wd_445 : Cond.methodLink RX7 31 yX7_isLetter ∈ AL := AL_t2 (List.mem_of_getElem? (i := 205) rfl) rfl
set_option maxRecDepth 20000 in
theorem wd_446 : Cond.static yX7_isLetter ∈ AL := AL_t2 (List.mem_of_getElem? (i := 206) rfl) rfl
set_option maxRecDepth 20000 in
theorem wd_447 : Cond.code yX7_isLetter cX7_isLetter 1 (some .boolean) ∈ AL := AL_t2 (List.mem_of_getElem? (i := 207) rfl) rfl
theorem ml_X7_31 : MLs RX7 31 yX7_isLetter cX7_isLetter 1 (some .boolean) 1 := ⟨by decide +kernel, wd_445, wd_446, wd_5, wd_447⟩
set_option maxRecDepth 20000 in
theorem wd_448 : Cond.methodLink RX7 35 yX7_wordToken ∈ AL := AL_t2 (List.mem_of_getElem? (i := 208) rfl) rfl
set_option maxRecDepth 20000 in
theorem wd_450 : Cond.instanceMethod yX7_wordToken ∈ AL := AL_t2 (List.mem_of_getElem? (i := 210) rfl) rfl
theorem ws_0 : Cond.selects RX7 yX7_wordToken yX7_wordToken ∈ AL := AL_ofs 0 (by decide +kernel) (by decide +kernel)
set_option maxRecDepth 20000 in
theorem wd_451 : Cond.code yX7_wordToken cX7_wordToken 1 (some .int) ∈ AL := AL_t2 (List.mem_of_getElem? (i := 211) rfl) rfl
theorem ml_X7_35 : MLv RX7 35 RX7 yX7_wordToken cX7_wordToken 1 (some .int) 0 := ⟨by decide +kernel, wd_448, wd_450, ws_0, wd_5, wd_451⟩
set_option maxRecDepth 20000 in
theorem wd_453 : Cond.methodLink RX7 60 yX7_reads ∈ AL := AL_t2 (List.mem_of_getElem? (i := 213) rfl) rfl
set_option maxRecDepth 20000 in
theorem wd_455 : Cond.instanceMethod yX7_reads ∈ AL := AL_t2 (List.mem_of_getElem? (i := 215) rfl) rfl
theorem ws_1 : Cond.selects RX7 yX7_reads yX7_reads ∈ AL := AL_ofs 1 (by decide +kernel) (by decide +kernel)
set_option maxRecDepth 20000 in
theorem wd_456 : Cond.code yX7_reads cX7_reads 3 (some .boolean) ∈ AL := AL_t2 (List.mem_of_getElem? (i := 216) rfl) rfl
theorem ml_X7_60 : MLv RX7 60 RX7 yX7_reads cX7_reads 3 (some .boolean) 1 := ⟨by decide +kernel, wd_453, wd_455, ws_1, wd_5, wd_456⟩
set_option maxRecDepth 20000 in
theorem wd_457 : Cond.methodLink RX7 102 yJ0_length_8abf5 ∈ AL := AL_t2 (List.mem_of_getElem? (i := 217) rfl) rfl
set_option maxRecDepth 20000 in
theorem wd_458 : Cond.instanceMethod yJ0_length_8abf5 ∈ AL := AL_t2 (List.mem_of_getElem? (i := 218) rfl) rfl
set_option maxRecDepth 20000 in
theorem wd_459 : Cond.selects RJ0 yJ0_length_8abf5 yJ0_length_8abf5 ∈ AL := AL_t2 (List.mem_of_getElem? (i := 219) rfl) rfl
set_option maxRecDepth 20000 in
theorem wd_12 : Cond.initialized RJ0 ∈ AL := AL_t1 (List.mem_of_getElem? (i := 12) rfl) rfl
set_option maxRecDepth 20000 in
theorem wd_460 : Cond.code yJ0_length_8abf5 cJ0_length_8abf5 1 (some .int) ∈ AL := AL_t2 (List.mem_of_getElem? (i := 220) rfl) rfl
theorem ml_X7_102 : MLv RX7 102 RJ0 yJ0_length_8abf5 cJ0_length_8abf5 1 (some .int) 0 := ⟨by decide +kernel, wd_457, wd_458, wd_459, wd_12, wd_460⟩
set_option maxRecDepth 20000 in
theorem wd_461 : Cond.methodLink RJ0 335 yJ0_coder_7d493 ∈ AL := AL_t2 (List.mem_of_getElem? (i := 221) rfl) rfl
set_option maxRecDepth 20000 in
theorem wd_462 : Cond.instanceMethod yJ0_coder_7d493 ∈ AL := AL_t2 (List.mem_of_getElem? (i := 222) rfl) rfl
set_option maxRecDepth 20000 in
theorem wd_463 : Cond.selects RJ0 yJ0_coder_7d493 yJ0_coder_7d493 ∈ AL := AL_t2 (List.mem_of_getElem? (i := 223) rfl) rfl
set_option maxRecDepth 20000 in
theorem wd_464 : Cond.code yJ0_coder_7d493 cJ0_coder_7d493 1 (some .byte) ∈ AL := AL_t2 (List.mem_of_getElem? (i := 224) rfl) rfl
theorem ml_J0_335 : MLv RJ0 335 RJ0 yJ0_coder_7d493 cJ0_coder_7d493 1 (some .byte) 0 := ⟨by decide +kernel, wd_461, wd_462, wd_463, wd_12, wd_464⟩
set_option maxRecDepth 20000 in
theorem wd_467 : Cond.methodLink RX7 106 yJ0_charAt_5068e ∈ AL := AL_t2 (List.mem_of_getElem? (i := 227) rfl) rfl
set_option maxRecDepth 20000 in
theorem wd_468 : Cond.instanceMethod yJ0_charAt_5068e ∈ AL := AL_t2 (List.mem_of_getElem? (i := 228) rfl) rfl
set_option maxRecDepth 20000 in
theorem wd_469 : Cond.selects RJ0 yJ0_charAt_5068e yJ0_charAt_5068e ∈ AL := AL_t2 (List.mem_of_getElem? (i := 229) rfl) rfl
set_option maxRecDepth 20000 in
theorem wd_470 : Cond.code yJ0_charAt_5068e cJ0_charAt_5068e 2 (some .char) ∈ AL := AL_t2 (List.mem_of_getElem? (i := 230) rfl) rfl
theorem ml_X7_106 : MLv RX7 106 RJ0 yJ0_charAt_5068e cJ0_charAt_5068e 2 (some .char) 1 := ⟨by decide +kernel, wd_467, wd_468, wd_469, wd_12, wd_470⟩
set_option maxRecDepth 20000 in
theorem wd_471 : Cond.methodLink RJ0 492 yJ0_isLatin1_aae02 ∈ AL := AL_t2 (List.mem_of_getElem? (i := 231) rfl) rfl
set_option maxRecDepth 20000 in
theorem wd_472 : Cond.instanceMethod yJ0_isLatin1_aae02 ∈ AL := AL_t2 (List.mem_of_getElem? (i := 232) rfl) rfl
set_option maxRecDepth 20000 in
theorem wd_473 : Cond.selects RJ0 yJ0_isLatin1_aae02 yJ0_isLatin1_aae02 ∈ AL := AL_t2 (List.mem_of_getElem? (i := 233) rfl) rfl
set_option maxRecDepth 20000 in
theorem wd_474 : Cond.code yJ0_isLatin1_aae02 cJ0_isLatin1_aae02 1 (some .boolean) ∈ AL := AL_t2 (List.mem_of_getElem? (i := 234) rfl) rfl
theorem ml_J0_492 : MLv RJ0 492 RJ0 yJ0_isLatin1_aae02 cJ0_isLatin1_aae02 1 (some .boolean) 0 := ⟨by decide +kernel, wd_471, wd_472, wd_473, wd_12, wd_474⟩
set_option maxRecDepth 20000 in
theorem wd_475 : Cond.methodLink RJ0 495 yJ1_charAt_3b067 ∈ AL := AL_t2 (List.mem_of_getElem? (i := 235) rfl) rfl
set_option maxRecDepth 20000 in
theorem wd_476 : Cond.static yJ1_charAt_3b067 ∈ AL := AL_t2 (List.mem_of_getElem? (i := 236) rfl) rfl
set_option maxRecDepth 20000 in
theorem wd_13 : Cond.initialized RJ1 ∈ AL := AL_t1 (List.mem_of_getElem? (i := 13) rfl) rfl
set_option maxRecDepth 20000 in
theorem wd_477 : Cond.code yJ1_charAt_3b067 cJ1_charAt_3b067 2 (some .char) ∈ AL := AL_t2 (List.mem_of_getElem? (i := 237) rfl) rfl
theorem ml_J0_495 : MLs RJ0 495 yJ1_charAt_3b067 cJ1_charAt_3b067 2 (some .char) 2 := ⟨by decide +kernel, wd_475, wd_476, wd_13, wd_477⟩
set_option maxRecDepth 20000 in
theorem wd_478 : Cond.methodLink RJ1 9 yJ0_checkIndex_df160 ∈ AL := AL_t2 (List.mem_of_getElem? (i := 238) rfl) rfl
set_option maxRecDepth 20000 in
theorem wd_479 : Cond.static yJ0_checkIndex_df160 ∈ AL := AL_t2 (List.mem_of_getElem? (i := 239) rfl) rfl
set_option maxRecDepth 20000 in
theorem wd_480 : Cond.code yJ0_checkIndex_df160 cJ0_checkIndex_df160 2 none ∈ AL := AL_t3 (List.mem_of_getElem? (i := 0) rfl) rfl
theorem ml_J1_9 : MLs RJ1 9 yJ0_checkIndex_df160 cJ0_checkIndex_df160 2 none 2 := ⟨by decide +kernel, wd_478, wd_479, wd_12, wd_480⟩
set_option maxRecDepth 20000 in
theorem wd_483 : Cond.methodLink RJ0 1059 yJ3_checkIndex_8e157 ∈ AL := AL_t3 (List.mem_of_getElem? (i := 3) rfl) rfl
set_option maxRecDepth 20000 in
theorem wd_484 : Cond.static yJ3_checkIndex_8e157 ∈ AL := AL_t3 (List.mem_of_getElem? (i := 4) rfl) rfl
set_option maxRecDepth 20000 in
theorem wd_14 : Cond.initialized RJ3 ∈ AL := AL_t1 (List.mem_of_getElem? (i := 14) rfl) rfl
set_option maxRecDepth 20000 in
theorem wd_485 : Cond.code yJ3_checkIndex_8e157 cJ3_checkIndex_8e157 3 (some .int) ∈ AL := AL_t3 (List.mem_of_getElem? (i := 5) rfl) rfl
theorem ml_J0_1059 : MLs RJ0 1059 yJ3_checkIndex_8e157 cJ3_checkIndex_8e157 3 (some .int) 3 := ⟨by decide +kernel, wd_483, wd_484, wd_14, wd_485⟩
set_option maxRecDepth 20000 in
theorem wd_486 : Cond.methodLink RJ0 498 yJ2_charAt_3b067 ∈ AL := AL_t3 (List.mem_of_getElem? (i := 6) rfl) rfl
set_option maxRecDepth 20000 in
theorem wd_487 : Cond.static yJ2_charAt_3b067 ∈ AL := AL_t3 (List.mem_of_getElem? (i := 7) rfl) rfl
set_option maxRecDepth 20000 in
theorem wd_15 : Cond.initialized RJ2 ∈ AL := AL_t1 (List.mem_of_getElem? (i := 15) rfl) rfl
set_option maxRecDepth 20000 in
theorem wd_488 : Cond.code yJ2_charAt_3b067 cJ2_charAt_3b067 2 (some .char) ∈ AL := AL_t3 (List.mem_of_getElem? (i := 8) rfl) rfl
theorem ml_J0_498 : MLs RJ0 498 yJ2_charAt_3b067 cJ2_charAt_3b067 2 (some .char) 2 := ⟨by decide +kernel, wd_486, wd_487, wd_15, wd_488⟩
set_option maxRecDepth 20000 in
theorem wd_489 : Cond.methodLink RJ2 67 yJ2_checkIndex_2214a ∈ AL := AL_t3 (List.mem_of_getElem? (i := 9) rfl) rfl
set_option maxRecDepth 20000 in
theorem wd_490 : Cond.static yJ2_checkIndex_2214a ∈ AL := AL_t3 (List.mem_of_getElem? (i := 10) rfl) rfl
set_option maxRecDepth 20000 in
theorem wd_491 : Cond.code yJ2_checkIndex_2214a cJ2_checkIndex_2214a 2 none ∈ AL := AL_t3 (List.mem_of_getElem? (i := 11) rfl) rfl
theorem ml_J2_67 : MLs RJ2 67 yJ2_checkIndex_2214a cJ2_checkIndex_2214a 2 none 2 := ⟨by decide +kernel, wd_489, wd_490, wd_15, wd_491⟩
set_option maxRecDepth 20000 in
theorem wd_492 : Cond.methodLink RJ2 48 yJ2_length_9d52b ∈ AL := AL_t3 (List.mem_of_getElem? (i := 12) rfl) rfl
set_option maxRecDepth 20000 in
theorem wd_493 : Cond.static yJ2_length_9d52b ∈ AL := AL_t3 (List.mem_of_getElem? (i := 13) rfl) rfl
set_option maxRecDepth 20000 in
theorem wd_494 : Cond.code yJ2_length_9d52b cJ2_length_9d52b 1 (some .int) ∈ AL := AL_t3 (List.mem_of_getElem? (i := 14) rfl) rfl
theorem ml_J2_48 : MLs RJ2 48 yJ2_length_9d52b cJ2_length_9d52b 1 (some .int) 1 := ⟨by decide +kernel, wd_492, wd_493, wd_15, wd_494⟩
set_option maxRecDepth 20000 in
theorem wd_495 : Cond.methodLink RJ2 414 yJ0_checkIndex_df160 ∈ AL := AL_t3 (List.mem_of_getElem? (i := 15) rfl) rfl
theorem ml_J2_414 : MLs RJ2 414 yJ0_checkIndex_df160 cJ0_checkIndex_df160 2 none 2 := ⟨by decide +kernel, wd_495, wd_479, wd_12, wd_480⟩
set_option maxRecDepth 20000 in
theorem wd_496 : Cond.methodLink RJ2 71 yJ2_getChar_3b067 ∈ AL := AL_t3 (List.mem_of_getElem? (i := 16) rfl) rfl
set_option maxRecDepth 20000 in
theorem wd_497 : Cond.static yJ2_getChar_3b067 ∈ AL := AL_t3 (List.mem_of_getElem? (i := 17) rfl) rfl
set_option maxRecDepth 20000 in
theorem wd_498 : Cond.code yJ2_getChar_3b067 cJ2_getChar_3b067 2 (some .char) ∈ AL := AL_t3 (List.mem_of_getElem? (i := 18) rfl) rfl
theorem ml_J2_71 : MLs RJ2 71 yJ2_getChar_3b067 cJ2_getChar_3b067 2 (some .char) 2 := ⟨by decide +kernel, wd_496, wd_497, wd_15, wd_498⟩
set_option maxRecDepth 20000 in
theorem wd_524 : Cond.methodLink RX7 39 yX7_isDigit ∈ AL := AL_t3 (List.mem_of_getElem? (i := 44) rfl) rfl
set_option maxRecDepth 20000 in
theorem wd_525 : Cond.static yX7_isDigit ∈ AL := AL_t3 (List.mem_of_getElem? (i := 45) rfl) rfl
set_option maxRecDepth 20000 in
theorem wd_526 : Cond.code yX7_isDigit cX7_isDigit 1 (some .boolean) ∈ AL := AL_t3 (List.mem_of_getElem? (i := 46) rfl) rfl
theorem ml_X7_39 : MLs RX7 39 yX7_isDigit cX7_isDigit 1 (some .boolean) 1 := ⟨by decide +kernel, wd_524, wd_525, wd_5, wd_526⟩
set_option maxRecDepth 20000 in
theorem wd_527 : Cond.methodLink RX7 42 yX7_readNumber ∈ AL := AL_t3 (List.mem_of_getElem? (i := 47) rfl) rfl
set_option maxRecDepth 20000 in
theorem wd_529 : Cond.instanceMethod yX7_readNumber ∈ AL := AL_t3 (List.mem_of_getElem? (i := 49) rfl) rfl
theorem ws_2 : Cond.selects RX7 yX7_readNumber yX7_readNumber ∈ AL := AL_ofs 2 (by decide +kernel) (by decide +kernel)
set_option maxRecDepth 20000 in
theorem wd_530 : Cond.code yX7_readNumber cX7_readNumber 1 none ∈ AL := AL_t3 (List.mem_of_getElem? (i := 50) rfl) rfl
theorem ml_X7_42 : MLv RX7 42 RX7 yX7_readNumber cX7_readNumber 1 none 0 := ⟨by decide +kernel, wd_527, wd_529, ws_2, wd_5, wd_530⟩
set_option maxRecDepth 20000 in
theorem wd_531 : Cond.methodLink RX7 52 yJ9_min_7cf53 ∈ AL := AL_t3 (List.mem_of_getElem? (i := 51) rfl) rfl
set_option maxRecDepth 20000 in
theorem wd_532 : Cond.static yJ9_min_7cf53 ∈ AL := AL_t3 (List.mem_of_getElem? (i := 52) rfl) rfl
set_option maxRecDepth 20000 in
theorem wd_16 : Cond.initialized RJ9 ∈ AL := AL_t1 (List.mem_of_getElem? (i := 16) rfl) rfl
set_option maxRecDepth 20000 in
theorem wd_533 : Cond.code yJ9_min_7cf53 cJ9_min_7cf53 2 (some .int) ∈ AL := AL_t3 (List.mem_of_getElem? (i := 53) rfl) rfl
theorem ml_X7_52 : MLs RX7 52 yJ9_min_7cf53 cJ9_min_7cf53 2 (some .int) 2 := ⟨by decide +kernel, wd_531, wd_532, wd_16, wd_533⟩
set_option maxRecDepth 20000 in
theorem wd_534 : Cond.methodLink RX7 45 yX7_signToken ∈ AL := AL_t3 (List.mem_of_getElem? (i := 54) rfl) rfl
set_option maxRecDepth 20000 in
theorem wd_535 : Cond.static yX7_signToken ∈ AL := AL_t3 (List.mem_of_getElem? (i := 55) rfl) rfl
set_option maxRecDepth 20000 in
theorem wd_536 : Cond.code yX7_signToken cX7_signToken 2 (some .int) ∈ AL := AL_t3 (List.mem_of_getElem? (i := 56) rfl) rfl
theorem ml_X7_45 : MLs RX7 45 yX7_signToken cX7_signToken 2 (some .int) 2 := ⟨by decide +kernel, wd_534, wd_535, wd_5, wd_536⟩
set_option maxRecDepth 20000 in
theorem wd_537 : Cond.methodLink RX2 43 yX2_headFault ∈ AL := AL_t3 (List.mem_of_getElem? (i := 57) rfl) rfl
set_option maxRecDepth 20000 in
theorem wd_539 : Cond.instanceMethod yX2_headFault ∈ AL := AL_t3 (List.mem_of_getElem? (i := 59) rfl) rfl
theorem ws_3 : Cond.selects RX2 yX2_headFault yX2_headFault ∈ AL := AL_ofs 3 (by decide +kernel) (by decide +kernel)
set_option maxRecDepth 20000 in
theorem wd_540 : Cond.code yX2_headFault cX2_headFault 2 (some .int) ∈ AL := AL_t3 (List.mem_of_getElem? (i := 60) rfl) rfl
theorem ml_X2_43 : MLv RX2 43 RX2 yX2_headFault cX2_headFault 2 (some .int) 1 := ⟨by decide +kernel, wd_537, wd_539, ws_3, wd_6, wd_540⟩
set_option maxRecDepth 20000 in
theorem wd_541 : Cond.methodLink RX2 47 yX2_fail ∈ AL := AL_t3 (List.mem_of_getElem? (i := 61) rfl) rfl
set_option maxRecDepth 20000 in
theorem wd_543 : Cond.instanceMethod yX2_fail ∈ AL := AL_t3 (List.mem_of_getElem? (i := 63) rfl) rfl
theorem ws_4 : Cond.selects RX2 yX2_fail yX2_fail ∈ AL := AL_ofs 4 (by decide +kernel) (by decide +kernel)
set_option maxRecDepth 20000 in
theorem wd_544 : Cond.code yX2_fail cX2_fail 2 none ∈ AL := AL_t3 (List.mem_of_getElem? (i := 64) rfl) rfl
theorem ml_X2_47 : MLv RX2 47 RX2 yX2_fail cX2_fail 2 none 1 := ⟨by decide +kernel, wd_541, wd_543, ws_4, wd_6, wd_544⟩
set_option maxRecDepth 20000 in
theorem wd_545 : Cond.methodLink RX2 51 yX2_readLaw ∈ AL := AL_t3 (List.mem_of_getElem? (i := 65) rfl) rfl
set_option maxRecDepth 20000 in
theorem wd_547 : Cond.instanceMethod yX2_readLaw ∈ AL := AL_t3 (List.mem_of_getElem? (i := 67) rfl) rfl
theorem ws_5 : Cond.selects RX2 yX2_readLaw yX2_readLaw ∈ AL := AL_ofs 5 (by decide +kernel) (by decide +kernel)
set_option maxRecDepth 20000 in
theorem wd_548 : Cond.code yX2_readLaw cX2_readLaw 4 none ∈ AL := AL_t3 (List.mem_of_getElem? (i := 68) rfl) rfl
theorem ml_X2_51 : MLv RX2 51 RX2 yX2_readLaw cX2_readLaw 4 none 1 := ⟨by decide +kernel, wd_545, wd_547, ws_5, wd_6, wd_548⟩
set_option maxRecDepth 20000 in
theorem wd_549 : Cond.methodLink RX2 69 yX7_advance ∈ AL := AL_t3 (List.mem_of_getElem? (i := 69) rfl) rfl
theorem ml_X2_69 : MLv RX2 69 RX7 yX7_advance cX7_advance 1 none 0 := ⟨by decide +kernel, wd_549, wd_442, wd_443, wd_5, wd_444⟩
set_option maxRecDepth 20000 in
theorem wd_550 : Cond.methodLink RX2 113 yX2_readOperand ∈ AL := AL_t3 (List.mem_of_getElem? (i := 70) rfl) rfl
set_option maxRecDepth 20000 in
theorem wd_552 : Cond.instanceMethod yX2_readOperand ∈ AL := AL_t3 (List.mem_of_getElem? (i := 72) rfl) rfl
theorem ws_6 : Cond.selects RX2 yX2_readOperand yX2_readOperand ∈ AL := AL_ofs 6 (by decide +kernel) (by decide +kernel)
set_option maxRecDepth 20000 in
theorem wd_553 : Cond.code yX2_readOperand cX2_readOperand 3 none ∈ AL := AL_t3 (List.mem_of_getElem? (i := 73) rfl) rfl
theorem ml_X2_113 : MLv RX2 113 RX2 yX2_readOperand cX2_readOperand 3 none 0 := ⟨by decide +kernel, wd_550, wd_552, ws_6, wd_6, wd_553⟩
set_option maxRecDepth 20000 in
theorem wd_554 : Cond.methodLink RX2 125 yX2_openOne ∈ AL := AL_t3 (List.mem_of_getElem? (i := 74) rfl) rfl
set_option maxRecDepth 20000 in
theorem wd_556 : Cond.instanceMethod yX2_openOne ∈ AL := AL_t3 (List.mem_of_getElem? (i := 76) rfl) rfl
theorem ws_7 : Cond.selects RX2 yX2_openOne yX2_openOne ∈ AL := AL_ofs 7 (by decide +kernel) (by decide +kernel)
set_option maxRecDepth 20000 in
theorem wd_557 : Cond.code yX2_openOne cX2_openOne 2 none ∈ AL := AL_t3 (List.mem_of_getElem? (i := 77) rfl) rfl
theorem ml_X2_125 : MLv RX2 125 RX2 yX2_openOne cX2_openOne 2 none 1 := ⟨by decide +kernel, wd_554, wd_556, ws_7, wd_6, wd_557⟩
set_option maxRecDepth 20000 in
theorem wd_558 : Cond.methodLink RX2 134 yX2_keepWaiting ∈ AL := AL_t3 (List.mem_of_getElem? (i := 78) rfl) rfl
set_option maxRecDepth 20000 in
theorem wd_560 : Cond.instanceMethod yX2_keepWaiting ∈ AL := AL_t3 (List.mem_of_getElem? (i := 80) rfl) rfl
theorem ws_8 : Cond.selects RX2 yX2_keepWaiting yX2_keepWaiting ∈ AL := AL_ofs 8 (by decide +kernel) (by decide +kernel)
set_option maxRecDepth 20000 in
theorem wd_561 : Cond.code yX2_keepWaiting cX2_keepWaiting 2 none ∈ AL := AL_t3 (List.mem_of_getElem? (i := 81) rfl) rfl
theorem ml_X2_134 : MLv RX2 134 RX2 yX2_keepWaiting cX2_keepWaiting 2 none 1 := ⟨by decide +kernel, wd_558, wd_560, ws_8, wd_6, wd_561⟩
set_option maxRecDepth 20000 in
theorem wd_562 : Cond.methodLink RX2 128 yX2_operandFault ∈ AL := AL_t3 (List.mem_of_getElem? (i := 82) rfl) rfl
set_option maxRecDepth 20000 in
theorem wd_564 : Cond.instanceMethod yX2_operandFault ∈ AL := AL_t3 (List.mem_of_getElem? (i := 84) rfl) rfl
theorem ws_9 : Cond.selects RX2 yX2_operandFault yX2_operandFault ∈ AL := AL_ofs 9 (by decide +kernel) (by decide +kernel)
set_option maxRecDepth 20000 in
theorem wd_565 : Cond.code yX2_operandFault cX2_operandFault 4 (some .int) ∈ AL := AL_t3 (List.mem_of_getElem? (i := 85) rfl) rfl
theorem ml_X2_128 : MLv RX2 128 RX2 yX2_operandFault cX2_operandFault 4 (some .int) 1 := ⟨by decide +kernel, wd_562, wd_564, ws_9, wd_6, wd_565⟩
set_option maxRecDepth 20000 in
theorem wd_566 : Cond.methodLink RX2 131 yX2_takeOperand ∈ AL := AL_t3 (List.mem_of_getElem? (i := 86) rfl) rfl
set_option maxRecDepth 20000 in
theorem wd_568 : Cond.instanceMethod yX2_takeOperand ∈ AL := AL_t3 (List.mem_of_getElem? (i := 88) rfl) rfl
theorem ws_10 : Cond.selects RX2 yX2_takeOperand yX2_takeOperand ∈ AL := AL_ofs 10 (by decide +kernel) (by decide +kernel)
set_option maxRecDepth 20000 in
theorem wd_569 : Cond.code yX2_takeOperand cX2_takeOperand 2 none ∈ AL := AL_t3 (List.mem_of_getElem? (i := 89) rfl) rfl
theorem ml_X2_131 : MLv RX2 131 RX2 yX2_takeOperand cX2_takeOperand 2 none 1 := ⟨by decide +kernel, wd_566, wd_568, ws_10, wd_6, wd_569⟩
set_option maxRecDepth 20000 in
theorem wd_570 : Cond.methodLink RX2 137 yX5_emit ∈ AL := AL_t3 (List.mem_of_getElem? (i := 90) rfl) rfl
set_option maxRecDepth 20000 in
theorem wd_571 : Cond.instanceMethod yX5_emit ∈ AL := AL_t3 (List.mem_of_getElem? (i := 91) rfl) rfl
set_option maxRecDepth 20000 in
theorem wd_572 : Cond.selects RX5 yX5_emit yX5_emit ∈ AL := AL_t3 (List.mem_of_getElem? (i := 92) rfl) rfl
set_option maxRecDepth 20000 in
theorem wd_573 : Cond.code yX5_emit cX5_emit 2 none ∈ AL := AL_t3 (List.mem_of_getElem? (i := 93) rfl) rfl
theorem ml_X2_137 : MLv RX2 137 RX5 yX5_emit cX5_emit 2 none 1 := ⟨by decide +kernel, wd_570, wd_571, wd_572, wd_10, wd_573⟩
set_option maxRecDepth 20000 in
theorem wd_574 : Cond.methodLink RX2 116 yX2_readOperation ∈ AL := AL_t3 (List.mem_of_getElem? (i := 94) rfl) rfl
set_option maxRecDepth 20000 in
theorem wd_576 : Cond.instanceMethod yX2_readOperation ∈ AL := AL_t3 (List.mem_of_getElem? (i := 96) rfl) rfl
theorem ws_11 : Cond.selects RX2 yX2_readOperation yX2_readOperation ∈ AL := AL_ofs 11 (by decide +kernel) (by decide +kernel)
set_option maxRecDepth 20000 in
theorem wd_577 : Cond.code yX2_readOperation cX2_readOperation 2 none ∈ AL := AL_t3 (List.mem_of_getElem? (i := 97) rfl) rfl
theorem ml_X2_116 : MLv RX2 116 RX2 yX2_readOperation cX2_readOperation 2 none 0 := ⟨by decide +kernel, wd_574, wd_576, ws_11, wd_6, wd_577⟩
set_option maxRecDepth 20000 in
theorem wd_578 : Cond.methodLink RX2 140 yX2_joinBy ∈ AL := AL_t3 (List.mem_of_getElem? (i := 98) rfl) rfl
set_option maxRecDepth 20000 in
theorem wd_580 : Cond.instanceMethod yX2_joinBy ∈ AL := AL_t3 (List.mem_of_getElem? (i := 100) rfl) rfl
theorem ws_12 : Cond.selects RX2 yX2_joinBy yX2_joinBy ∈ AL := AL_ofs 12 (by decide +kernel) (by decide +kernel)
set_option maxRecDepth 20000 in
theorem wd_581 : Cond.code yX2_joinBy cX2_joinBy 2 none ∈ AL := AL_t3 (List.mem_of_getElem? (i := 101) rfl) rfl
theorem ml_X2_140 : MLv RX2 140 RX2 yX2_joinBy cX2_joinBy 2 none 1 := ⟨by decide +kernel, wd_578, wd_580, ws_12, wd_6, wd_581⟩
set_option maxRecDepth 20000 in
theorem wd_584 : Cond.methodLink RX2 146 yX2_settle ∈ AL := AL_t3 (List.mem_of_getElem? (i := 104) rfl) rfl
set_option maxRecDepth 20000 in
theorem wd_586 : Cond.instanceMethod yX2_settle ∈ AL := AL_t3 (List.mem_of_getElem? (i := 106) rfl) rfl
theorem ws_13 : Cond.selects RX2 yX2_settle yX2_settle ∈ AL := AL_ofs 13 (by decide +kernel) (by decide +kernel)
set_option maxRecDepth 20000 in
theorem wd_587 : Cond.code yX2_settle cX2_settle 3 none ∈ AL := AL_t3 (List.mem_of_getElem? (i := 107) rfl) rfl
theorem ml_X2_146 : MLv RX2 146 RX2 yX2_settle cX2_settle 3 none 1 := ⟨by decide +kernel, wd_584, wd_586, ws_13, wd_6, wd_587⟩
set_option maxRecDepth 20000 in
theorem wd_588 : Cond.methodLink RX2 143 yX2_closeBracket ∈ AL := AL_t3 (List.mem_of_getElem? (i := 108) rfl) rfl
set_option maxRecDepth 20000 in
theorem wd_590 : Cond.instanceMethod yX2_closeBracket ∈ AL := AL_t3 (List.mem_of_getElem? (i := 110) rfl) rfl
theorem ws_14 : Cond.selects RX2 yX2_closeBracket yX2_closeBracket ∈ AL := AL_ofs 14 (by decide +kernel) (by decide +kernel)
set_option maxRecDepth 20000 in
theorem wd_591 : Cond.code yX2_closeBracket cX2_closeBracket 1 none ∈ AL := AL_t3 (List.mem_of_getElem? (i := 111) rfl) rfl
theorem ml_X2_143 : MLv RX2 143 RX2 yX2_closeBracket cX2_closeBracket 1 none 0 := ⟨by decide +kernel, wd_588, wd_590, ws_14, wd_6, wd_591⟩
set_option maxRecDepth 20000 in
theorem wd_592 : Cond.methodLink RX2 75 yX2_takeToken ∈ AL := AL_t3 (List.mem_of_getElem? (i := 112) rfl) rfl
set_option maxRecDepth 20000 in
theorem wd_594 : Cond.instanceMethod yX2_takeToken ∈ AL := AL_t3 (List.mem_of_getElem? (i := 114) rfl) rfl
theorem ws_15 : Cond.selects RX2 yX2_takeToken yX2_takeToken ∈ AL := AL_ofs 15 (by decide +kernel) (by decide +kernel)
set_option maxRecDepth 20000 in
theorem wd_595 : Cond.code yX2_takeToken cX2_takeToken 2 none ∈ AL := AL_t3 (List.mem_of_getElem? (i := 115) rfl) rfl
theorem ml_X2_75 : MLv RX2 75 RX2 yX2_takeToken cX2_takeToken 2 none 1 := ⟨by decide +kernel, wd_592, wd_594, ws_15, wd_6, wd_595⟩
set_option maxRecDepth 20000 in
theorem wd_596 : Cond.methodLink RX2 78 yX5_addClause ∈ AL := AL_t3 (List.mem_of_getElem? (i := 116) rfl) rfl
set_option maxRecDepth 20000 in
theorem wd_597 : Cond.instanceMethod yX5_addClause ∈ AL := AL_t3 (List.mem_of_getElem? (i := 117) rfl) rfl
set_option maxRecDepth 20000 in
theorem wd_598 : Cond.selects RX5 yX5_addClause yX5_addClause ∈ AL := AL_t3 (List.mem_of_getElem? (i := 118) rfl) rfl
set_option maxRecDepth 20000 in
theorem wd_599 : Cond.code yX5_addClause cX5_addClause 4 none ∈ AL := AL_t3 (List.mem_of_getElem? (i := 119) rfl) rfl
theorem ml_X2_78 : MLv RX2 78 RX5 yX5_addClause cX5_addClause 4 none 3 := ⟨by decide +kernel, wd_596, wd_597, wd_598, wd_10, wd_599⟩
set_option maxRecDepth 20000 in
theorem wd_600 : Cond.methodLink RX2 54 yX2_readStep ∈ AL := AL_t3 (List.mem_of_getElem? (i := 120) rfl) rfl
set_option maxRecDepth 20000 in
theorem wd_602 : Cond.instanceMethod yX2_readStep ∈ AL := AL_t3 (List.mem_of_getElem? (i := 122) rfl) rfl
theorem ws_16 : Cond.selects RX2 yX2_readStep yX2_readStep ∈ AL := AL_ofs 16 (by decide +kernel) (by decide +kernel)
set_option maxRecDepth 20000 in
theorem wd_603 : Cond.code yX2_readStep cX2_readStep 4 none ∈ AL := AL_t3 (List.mem_of_getElem? (i := 123) rfl) rfl
theorem ml_X2_54 : MLv RX2 54 RX2 yX2_readStep cX2_readStep 4 none 1 := ⟨by decide +kernel, wd_600, wd_602, ws_16, wd_6, wd_603⟩
set_option maxRecDepth 20000 in
theorem wd_604 : Cond.methodLink RX2 72 yX2_takeNumber ∈ AL := AL_t3 (List.mem_of_getElem? (i := 124) rfl) rfl
set_option maxRecDepth 20000 in
theorem wd_606 : Cond.instanceMethod yX2_takeNumber ∈ AL := AL_t3 (List.mem_of_getElem? (i := 126) rfl) rfl
theorem ws_17 : Cond.selects RX2 yX2_takeNumber yX2_takeNumber ∈ AL := AL_ofs 17 (by decide +kernel) (by decide +kernel)
set_option maxRecDepth 20000 in
theorem wd_607 : Cond.code yX2_takeNumber cX2_takeNumber 3 (some .int) ∈ AL := AL_t3 (List.mem_of_getElem? (i := 127) rfl) rfl
theorem ml_X2_72 : MLv RX2 72 RX2 yX2_takeNumber cX2_takeNumber 3 (some .int) 1 := ⟨by decide +kernel, wd_604, wd_606, ws_17, wd_6, wd_607⟩
set_option maxRecDepth 20000 in
theorem wd_608 : Cond.methodLink RL 42 yX9_fault ∈ AL := AL_t3 (List.mem_of_getElem? (i := 128) rfl) rfl
set_option maxRecDepth 20000 in
theorem wd_609 : Cond.instanceMethod yX9_fault ∈ AL := AL_t3 (List.mem_of_getElem? (i := 129) rfl) rfl
set_option maxRecDepth 20000 in
theorem wd_610 : Cond.selects RX9 yX9_fault yX9_fault ∈ AL := AL_t3 (List.mem_of_getElem? (i := 130) rfl) rfl
set_option maxRecDepth 20000 in
theorem wd_611 : Cond.code yX9_fault cX9_fault 2 (some .int) ∈ AL := AL_t3 (List.mem_of_getElem? (i := 131) rfl) rfl
theorem ml_L_42 : MLv RL 42 RX9 yX9_fault cX9_fault 2 (some .int) 1 := ⟨by decide +kernel, wd_608, wd_609, wd_610, wd_1, wd_611⟩
set_option maxRecDepth 20000 in
theorem wd_612 : Cond.methodLink RL 46 yX9_by ∈ AL := AL_t3 (List.mem_of_getElem? (i := 132) rfl) rfl
set_option maxRecDepth 20000 in
theorem wd_613 : Cond.instanceMethod yX9_by ∈ AL := AL_t3 (List.mem_of_getElem? (i := 133) rfl) rfl
set_option maxRecDepth 20000 in
theorem wd_614 : Cond.selects RX9 yX9_by yX9_by ∈ AL := AL_t3 (List.mem_of_getElem? (i := 134) rfl) rfl
set_option maxRecDepth 20000 in
theorem wd_615 : Cond.code yX9_by cX9_by 2 (some .boolean) ∈ AL := AL_t3 (List.mem_of_getElem? (i := 135) rfl) rfl
theorem ml_L_46 : MLv RL 46 RX9 yX9_by cX9_by 2 (some .boolean) 1 := ⟨by decide +kernel, wd_612, wd_613, wd_614, wd_1, wd_615⟩
set_option maxRecDepth 20000 in
theorem wd_616 : Cond.methodLink RX9 116 yX9_isText ∈ AL := AL_t3 (List.mem_of_getElem? (i := 136) rfl) rfl
set_option maxRecDepth 20000 in
theorem wd_618 : Cond.instanceMethod yX9_isText ∈ AL := AL_t3 (List.mem_of_getElem? (i := 138) rfl) rfl
theorem ws_18 : Cond.selects RX9 yX9_isText yX9_isText ∈ AL := AL_ofs 18 (by decide +kernel) (by decide +kernel)
set_option maxRecDepth 20000 in
theorem wd_619 : Cond.code yX9_isText cX9_isText 2 (some .boolean) ∈ AL := AL_t3 (List.mem_of_getElem? (i := 139) rfl) rfl
theorem ml_X9_116 : MLv RX9 116 RX9 yX9_isText cX9_isText 2 (some .boolean) 1 := ⟨by decide +kernel, wd_616, wd_618, ws_18, wd_1, wd_619⟩
set_option maxRecDepth 20000 in
theorem wd_620 : Cond.methodLink RL 51 yX9_put ∈ AL := AL_t3 (List.mem_of_getElem? (i := 140) rfl) rfl
set_option maxRecDepth 20000 in
theorem wd_621 : Cond.instanceMethod yX9_put ∈ AL := AL_t3 (List.mem_of_getElem? (i := 141) rfl) rfl
set_option maxRecDepth 20000 in
theorem wd_622 : Cond.selects RX9 yX9_put yX9_put ∈ AL := AL_t3 (List.mem_of_getElem? (i := 142) rfl) rfl
set_option maxRecDepth 20000 in
theorem wd_623 : Cond.code yX9_put cX9_put 3 (some .int) ∈ AL := AL_t3 (List.mem_of_getElem? (i := 143) rfl) rfl
theorem ml_L_51 : MLv RL 51 RX9 yX9_put cX9_put 3 (some .int) 2 := ⟨by decide +kernel, wd_620, wd_621, wd_622, wd_1, wd_623⟩
set_option maxRecDepth 20000 in
theorem wd_624 : Cond.methodLink RX9 127 yX9_lay ∈ AL := AL_t3 (List.mem_of_getElem? (i := 144) rfl) rfl
set_option maxRecDepth 20000 in
theorem wd_626 : Cond.instanceMethod yX9_lay ∈ AL := AL_t3 (List.mem_of_getElem? (i := 146) rfl) rfl
theorem ws_19 : Cond.selects RX9 yX9_lay yX9_lay ∈ AL := AL_ofs 19 (by decide +kernel) (by decide +kernel)
set_option maxRecDepth 20000 in
theorem wd_627 : Cond.code yX9_lay cX9_lay 4 (some .boolean) ∈ AL := AL_t3 (List.mem_of_getElem? (i := 147) rfl) rfl
theorem ml_X9_127 : MLv RX9 127 RX9 yX9_lay cX9_lay 4 (some .boolean) 2 := ⟨by decide +kernel, wd_624, wd_626, ws_19, wd_1, wd_627⟩
set_option maxRecDepth 20000 in
theorem wd_628 : Cond.methodLink RX9 212 yX9_isPan ∈ AL := AL_t3 (List.mem_of_getElem? (i := 148) rfl) rfl
set_option maxRecDepth 20000 in
theorem wd_629 : Cond.static yX9_isPan ∈ AL := AL_t3 (List.mem_of_getElem? (i := 149) rfl) rfl
set_option maxRecDepth 20000 in
theorem wd_630 : Cond.code yX9_isPan cX9_isPan 1 (some .boolean) ∈ AL := AL_t3 (List.mem_of_getElem? (i := 150) rfl) rfl
theorem ml_X9_212 : MLs RX9 212 yX9_isPan cX9_isPan 1 (some .boolean) 1 := ⟨by decide +kernel, wd_628, wd_629, wd_1, wd_630⟩
set_option maxRecDepth 20000 in
theorem wd_631 : Cond.methodLink RX9 137 yX6_panOf ∈ AL := AL_t3 (List.mem_of_getElem? (i := 151) rfl) rfl
set_option maxRecDepth 20000 in
theorem wd_632 : Cond.instanceMethod yX6_panOf ∈ AL := AL_t3 (List.mem_of_getElem? (i := 152) rfl) rfl
set_option maxRecDepth 20000 in
theorem wd_633 : Cond.selects RX6 yX6_panOf yX6_panOf ∈ AL := AL_t3 (List.mem_of_getElem? (i := 153) rfl) rfl
set_option maxRecDepth 20000 in
theorem wd_3 : Cond.initialized RX6 ∈ AL := AL_t1 (List.mem_of_getElem? (i := 3) rfl) rfl
set_option maxRecDepth 20000 in
theorem wd_634 : Cond.code yX6_panOf cX6_panOf 2 (some .int) ∈ AL := AL_t3 (List.mem_of_getElem? (i := 154) rfl) rfl
theorem ml_X9_137 : MLv RX9 137 RX6 yX6_panOf cX6_panOf 2 (some .int) 1 := ⟨by decide +kernel, wd_631, wd_632, wd_633, wd_3, wd_634⟩
set_option maxRecDepth 20000 in
theorem wd_636 : Cond.methodLink RX9 273 yX9_rearrange ∈ AL := AL_t3 (List.mem_of_getElem? (i := 156) rfl) rfl
set_option maxRecDepth 20000 in
theorem wd_638 : Cond.instanceMethod yX9_rearrange ∈ AL := AL_t3 (List.mem_of_getElem? (i := 158) rfl) rfl
theorem ws_20 : Cond.selects RX9 yX9_rearrange yX9_rearrange ∈ AL := AL_ofs 20 (by decide +kernel) (by decide +kernel)
set_option maxRecDepth 20000 in
theorem wd_639 : Cond.code yX9_rearrange cX9_rearrange 3 (some .boolean) ∈ AL := AL_t3 (List.mem_of_getElem? (i := 159) rfl) rfl
theorem ml_X9_273 : MLv RX9 273 RX9 yX9_rearrange cX9_rearrange 3 (some .boolean) 2 := ⟨by decide +kernel, wd_636, wd_638, ws_20, wd_1, wd_639⟩
set_option maxRecDepth 20000 in
theorem wd_640 : Cond.methodLink RX9 166 yX4_setAir ∈ AL := AL_t3 (List.mem_of_getElem? (i := 160) rfl) rfl
set_option maxRecDepth 20000 in
theorem wd_641 : Cond.instanceMethod yX4_setAir ∈ AL := AL_t3 (List.mem_of_getElem? (i := 161) rfl) rfl
set_option maxRecDepth 20000 in
theorem wd_642 : Cond.selects RX4 yX4_setAir yX4_setAir ∈ AL := AL_t3 (List.mem_of_getElem? (i := 162) rfl) rfl
set_option maxRecDepth 20000 in
theorem wd_7 : Cond.initialized RX4 ∈ AL := AL_t1 (List.mem_of_getElem? (i := 7) rfl) rfl
set_option maxRecDepth 20000 in
theorem wd_643 : Cond.code yX4_setAir cX4_setAir 4 none ∈ AL := AL_t3 (List.mem_of_getElem? (i := 163) rfl) rfl
theorem ml_X9_166 : MLv RX9 166 RX4 yX4_setAir cX4_setAir 4 none 3 := ⟨by decide +kernel, wd_640, wd_641, wd_642, wd_7, wd_643⟩
set_option maxRecDepth 20000 in
theorem wd_644 : Cond.methodLink RX9 260 yX4_weigh ∈ AL := AL_t3 (List.mem_of_getElem? (i := 164) rfl) rfl
set_option maxRecDepth 20000 in
theorem wd_645 : Cond.instanceMethod yX4_weigh ∈ AL := AL_t3 (List.mem_of_getElem? (i := 165) rfl) rfl
set_option maxRecDepth 20000 in
theorem wd_646 : Cond.selects RX4 yX4_weigh yX4_weigh ∈ AL := AL_t3 (List.mem_of_getElem? (i := 166) rfl) rfl
set_option maxRecDepth 20000 in
theorem wd_647 : Cond.code yX4_weigh cX4_weigh 7 none ∈ AL := AL_t3 (List.mem_of_getElem? (i := 167) rfl) rfl
theorem ml_X9_260 : MLv RX9 260 RX4 yX4_weigh cX4_weigh 7 none 3 := ⟨by decide +kernel, wd_644, wd_645, wd_646, wd_7, wd_647⟩
set_option maxRecDepth 20000 in
theorem wd_648 : Cond.methodLink RX4 34 yX4_borne ∈ AL := AL_t3 (List.mem_of_getElem? (i := 168) rfl) rfl
set_option maxRecDepth 20000 in
theorem wd_649 : Cond.instanceMethod yX4_borne ∈ AL := AL_t3 (List.mem_of_getElem? (i := 169) rfl) rfl
set_option maxRecDepth 20000 in
theorem wd_650 : Cond.selects RX4 yX4_borne yX4_borne ∈ AL := AL_t3 (List.mem_of_getElem? (i := 170) rfl) rfl
set_option maxRecDepth 20000 in
theorem wd_651 : Cond.code yX4_borne cX4_borne 7 (some .int) ∈ AL := AL_t3 (List.mem_of_getElem? (i := 171) rfl) rfl
theorem ml_X4_34 : MLv RX4 34 RX4 yX4_borne cX4_borne 7 (some .int) 5 := ⟨by decide +kernel, wd_648, wd_649, wd_650, wd_7, wd_651⟩
set_option maxRecDepth 20000 in
theorem wd_652 : Cond.methodLink RX4 68 yX4_valueOf ∈ AL := AL_t3 (List.mem_of_getElem? (i := 172) rfl) rfl
set_option maxRecDepth 20000 in
theorem wd_654 : Cond.instanceMethod yX4_valueOf ∈ AL := AL_t3 (List.mem_of_getElem? (i := 174) rfl) rfl
theorem ws_21 : Cond.selects RX4 yX4_valueOf yX4_valueOf ∈ AL := AL_ofs 21 (by decide +kernel) (by decide +kernel)
set_option maxRecDepth 20000 in
theorem wd_655 : Cond.code yX4_valueOf cX4_valueOf 8 (some .int) ∈ AL := AL_t3 (List.mem_of_getElem? (i := 175) rfl) rfl
theorem ml_X4_68 : MLv RX4 68 RX4 yX4_valueOf cX4_valueOf 8 (some .int) 3 := ⟨by decide +kernel, wd_652, wd_654, ws_21, wd_7, wd_655⟩
set_option maxRecDepth 20000 in
theorem wd_656 : Cond.methodLink RX4 88 yX4_joined ∈ AL := AL_t3 (List.mem_of_getElem? (i := 176) rfl) rfl
set_option maxRecDepth 20000 in
theorem wd_657 : Cond.static yX4_joined ∈ AL := AL_t3 (List.mem_of_getElem? (i := 177) rfl) rfl
set_option maxRecDepth 20000 in
theorem wd_658 : Cond.code yX4_joined cX4_joined 5 (some .long) ∈ AL := AL_t3 (List.mem_of_getElem? (i := 178) rfl) rfl
theorem ml_X4_88 : MLs RX4 88 yX4_joined cX4_joined 5 (some .long) 3 := ⟨by decide +kernel, wd_656, wd_657, wd_7, wd_658⟩
set_option maxRecDepth 20000 in
theorem wd_659 : Cond.methodLink RX4 75 yX4_held ∈ AL := AL_t3 (List.mem_of_getElem? (i := 179) rfl) rfl
set_option maxRecDepth 20000 in
theorem wd_660 : Cond.static yX4_held ∈ AL := AL_t3 (List.mem_of_getElem? (i := 180) rfl) rfl
set_option maxRecDepth 20000 in
theorem wd_661 : Cond.code yX4_held cX4_held 2 (some .int) ∈ AL := AL_t3 (List.mem_of_getElem? (i := 181) rfl) rfl
theorem ml_X4_75 : MLs RX4 75 yX4_held cX4_held 2 (some .int) 1 := ⟨by decide +kernel, wd_659, wd_660, wd_7, wd_661⟩
set_option maxRecDepth 20000 in
theorem wd_666 : Cond.methodLink RX4 38 yX4_hang ∈ AL := AL_t3 (List.mem_of_getElem? (i := 186) rfl) rfl
set_option maxRecDepth 20000 in
theorem wd_667 : Cond.instanceMethod yX4_hang ∈ AL := AL_t3 (List.mem_of_getElem? (i := 187) rfl) rfl
set_option maxRecDepth 20000 in
theorem wd_668 : Cond.selects RX4 yX4_hang yX4_hang ∈ AL := AL_t3 (List.mem_of_getElem? (i := 188) rfl) rfl
set_option maxRecDepth 20000 in
theorem wd_669 : Cond.code yX4_hang cX4_hang 4 none ∈ AL := AL_t3 (List.mem_of_getElem? (i := 189) rfl) rfl
theorem ml_X4_38 : MLv RX4 38 RX4 yX4_hang cX4_hang 4 none 3 := ⟨by decide +kernel, wd_666, wd_667, wd_668, wd_7, wd_669⟩
set_option maxRecDepth 20000 in
theorem wd_670 : Cond.methodLink RX9 184 yX4_isSafe ∈ AL := AL_t3 (List.mem_of_getElem? (i := 190) rfl) rfl
set_option maxRecDepth 20000 in
theorem wd_671 : Cond.instanceMethod yX4_isSafe ∈ AL := AL_t3 (List.mem_of_getElem? (i := 191) rfl) rfl
set_option maxRecDepth 20000 in
theorem wd_672 : Cond.selects RX4 yX4_isSafe yX4_isSafe ∈ AL := AL_t3 (List.mem_of_getElem? (i := 192) rfl) rfl
set_option maxRecDepth 20000 in
theorem wd_673 : Cond.code yX4_isSafe cX4_isSafe 2 (some .boolean) ∈ AL := AL_t3 (List.mem_of_getElem? (i := 193) rfl) rfl
theorem ml_X9_184 : MLv RX9 184 RX4 yX4_isSafe cX4_isSafe 2 (some .boolean) 1 := ⟨by decide +kernel, wd_670, wd_671, wd_672, wd_7, wd_673⟩
set_option maxRecDepth 20000 in
theorem wd_674 : Cond.methodLink RX4 79 yJ9_abs_0f7a4 ∈ AL := AL_t3 (List.mem_of_getElem? (i := 194) rfl) rfl
set_option maxRecDepth 20000 in
theorem wd_675 : Cond.static yJ9_abs_0f7a4 ∈ AL := AL_t3 (List.mem_of_getElem? (i := 195) rfl) rfl
set_option maxRecDepth 20000 in
theorem wd_676 : Cond.code yJ9_abs_0f7a4 cJ9_abs_0f7a4 1 (some .int) ∈ AL := AL_t3 (List.mem_of_getElem? (i := 196) rfl) rfl
theorem ml_X4_79 : MLs RX4 79 yJ9_abs_0f7a4 cJ9_abs_0f7a4 1 (some .int) 1 := ⟨by decide +kernel, wd_674, wd_675, wd_16, wd_676⟩
set_option maxRecDepth 20000 in
theorem wd_677 : Cond.methodLink RX9 276 yX6_keepStep ∈ AL := AL_t3 (List.mem_of_getElem? (i := 197) rfl) rfl
set_option maxRecDepth 20000 in
theorem wd_678 : Cond.instanceMethod yX6_keepStep ∈ AL := AL_t3 (List.mem_of_getElem? (i := 198) rfl) rfl
set_option maxRecDepth 20000 in
theorem wd_679 : Cond.selects RX6 yX6_keepStep yX6_keepStep ∈ AL := AL_t3 (List.mem_of_getElem? (i := 199) rfl) rfl
set_option maxRecDepth 20000 in
theorem wd_680 : Cond.code yX6_keepStep cX6_keepStep 1 none ∈ AL := AL_t3 (List.mem_of_getElem? (i := 200) rfl) rfl
theorem ml_X9_276 : MLv RX9 276 RX6 yX6_keepStep cX6_keepStep 1 none 0 := ⟨by decide +kernel, wd_677, wd_678, wd_679, wd_3, wd_680⟩
set_option maxRecDepth 20000 in
theorem wd_684 : Cond.methodLink RL 55 yX9_take ∈ AL := AL_t3 (List.mem_of_getElem? (i := 204) rfl) rfl
set_option maxRecDepth 20000 in
theorem wd_685 : Cond.instanceMethod yX9_take ∈ AL := AL_t3 (List.mem_of_getElem? (i := 205) rfl) rfl
set_option maxRecDepth 20000 in
theorem wd_686 : Cond.selects RX9 yX9_take yX9_take ∈ AL := AL_t3 (List.mem_of_getElem? (i := 206) rfl) rfl
set_option maxRecDepth 20000 in
theorem wd_687 : Cond.code yX9_take cX9_take 3 (some .int) ∈ AL := AL_t3 (List.mem_of_getElem? (i := 207) rfl) rfl
theorem ml_L_55 : MLv RL 55 RX9 yX9_take cX9_take 3 (some .int) 1 := ⟨by decide +kernel, wd_684, wd_685, wd_686, wd_1, wd_687⟩
set_option maxRecDepth 20000 in
theorem wd_688 : Cond.methodLink RX9 141 yX9_lift ∈ AL := AL_t3 (List.mem_of_getElem? (i := 208) rfl) rfl
set_option maxRecDepth 20000 in
theorem wd_690 : Cond.instanceMethod yX9_lift ∈ AL := AL_t3 (List.mem_of_getElem? (i := 210) rfl) rfl
theorem ws_22 : Cond.selects RX9 yX9_lift yX9_lift ∈ AL := AL_ofs 22 (by decide +kernel) (by decide +kernel)
set_option maxRecDepth 20000 in
theorem wd_691 : Cond.code yX9_lift cX9_lift 3 (some .boolean) ∈ AL := AL_t3 (List.mem_of_getElem? (i := 211) rfl) rfl
theorem ml_X9_141 : MLv RX9 141 RX9 yX9_lift cX9_lift 3 (some .boolean) 1 := ⟨by decide +kernel, wd_688, wd_690, ws_22, wd_1, wd_691⟩
set_option maxRecDepth 20000 in
theorem wd_692 : Cond.methodLink RL 59 yX9_pass ∈ AL := AL_t3 (List.mem_of_getElem? (i := 212) rfl) rfl
set_option maxRecDepth 20000 in
theorem wd_693 : Cond.instanceMethod yX9_pass ∈ AL := AL_t3 (List.mem_of_getElem? (i := 213) rfl) rfl
set_option maxRecDepth 20000 in
theorem wd_694 : Cond.selects RX9 yX9_pass yX9_pass ∈ AL := AL_t3 (List.mem_of_getElem? (i := 214) rfl) rfl
set_option maxRecDepth 20000 in
theorem wd_695 : Cond.code yX9_pass cX9_pass 2 (some .int) ∈ AL := AL_t3 (List.mem_of_getElem? (i := 215) rfl) rfl
theorem ml_L_59 : MLv RL 59 RX9 yX9_pass cX9_pass 2 (some .int) 1 := ⟨by decide +kernel, wd_692, wd_693, wd_694, wd_1, wd_695⟩
set_option maxRecDepth 20000 in
theorem wd_696 : Cond.methodLink RX9 144 yX9_passHours ∈ AL := AL_t3 (List.mem_of_getElem? (i := 216) rfl) rfl
set_option maxRecDepth 20000 in
theorem wd_698 : Cond.instanceMethod yX9_passHours ∈ AL := AL_t3 (List.mem_of_getElem? (i := 218) rfl) rfl
theorem ws_23 : Cond.selects RX9 yX9_passHours yX9_passHours ∈ AL := AL_ofs 23 (by decide +kernel) (by decide +kernel)
set_option maxRecDepth 20000 in
theorem wd_699 : Cond.code yX9_passHours cX9_passHours 2 (some .boolean) ∈ AL := AL_t3 (List.mem_of_getElem? (i := 219) rfl) rfl
theorem ml_X9_144 : MLv RX9 144 RX9 yX9_passHours cX9_passHours 2 (some .boolean) 1 := ⟨by decide +kernel, wd_696, wd_698, ws_23, wd_1, wd_699⟩
set_option maxRecDepth 20000 in
theorem wd_700 : Cond.methodLink RL 63 yX9_played ∈ AL := AL_t3 (List.mem_of_getElem? (i := 220) rfl) rfl
set_option maxRecDepth 20000 in
theorem wd_701 : Cond.instanceMethod yX9_played ∈ AL := AL_t3 (List.mem_of_getElem? (i := 221) rfl) rfl
set_option maxRecDepth 20000 in
theorem wd_702 : Cond.selects RX9 yX9_played yX9_played ∈ AL := AL_t3 (List.mem_of_getElem? (i := 222) rfl) rfl
set_option maxRecDepth 20000 in
theorem wd_703 : Cond.code yX9_played cX9_played 5 (some .int) ∈ AL := AL_t3 (List.mem_of_getElem? (i := 223) rfl) rfl
theorem ml_L_63 : MLv RL 63 RX9 yX9_played cX9_played 5 (some .int) 1 := ⟨by decide +kernel, wd_700, wd_701, wd_702, wd_1, wd_703⟩
set_option maxRecDepth 20000 in
theorem wd_704 : Cond.methodLink RL 67 yX9_undo ∈ AL := AL_t3 (List.mem_of_getElem? (i := 224) rfl) rfl
set_option maxRecDepth 20000 in
theorem wd_705 : Cond.instanceMethod yX9_undo ∈ AL := AL_t3 (List.mem_of_getElem? (i := 225) rfl) rfl
set_option maxRecDepth 20000 in
theorem wd_706 : Cond.selects RX9 yX9_undo yX9_undo ∈ AL := AL_t3 (List.mem_of_getElem? (i := 226) rfl) rfl
set_option maxRecDepth 20000 in
theorem wd_707 : Cond.code yX9_undo cX9_undo 1 (some .int) ∈ AL := AL_t3 (List.mem_of_getElem? (i := 227) rfl) rfl
theorem ml_L_67 : MLv RL 67 RX9 yX9_undo cX9_undo 1 (some .int) 0 := ⟨by decide +kernel, wd_704, wd_705, wd_706, wd_1, wd_707⟩
set_option maxRecDepth 20000 in
theorem wd_708 : Cond.methodLink RX9 159 yX6_stepBack ∈ AL := AL_t3 (List.mem_of_getElem? (i := 228) rfl) rfl
set_option maxRecDepth 20000 in
theorem wd_709 : Cond.instanceMethod yX6_stepBack ∈ AL := AL_t3 (List.mem_of_getElem? (i := 229) rfl) rfl
set_option maxRecDepth 20000 in
theorem wd_710 : Cond.selects RX6 yX6_stepBack yX6_stepBack ∈ AL := AL_t3 (List.mem_of_getElem? (i := 230) rfl) rfl
set_option maxRecDepth 20000 in
theorem wd_711 : Cond.code yX6_stepBack cX6_stepBack 3 (some .boolean) ∈ AL := AL_t3 (List.mem_of_getElem? (i := 231) rfl) rfl
theorem ml_X9_159 : MLv RX9 159 RX6 yX6_stepBack cX6_stepBack 3 (some .boolean) 0 := ⟨by decide +kernel, wd_708, wd_709, wd_710, wd_3, wd_711⟩
set_option maxRecDepth 20000 in
theorem wd_712 : Cond.methodLink RL 71 yX9_of ∈ AL := AL_t3 (List.mem_of_getElem? (i := 232) rfl) rfl
set_option maxRecDepth 20000 in
theorem wd_713 : Cond.instanceMethod yX9_of ∈ AL := AL_t3 (List.mem_of_getElem? (i := 233) rfl) rfl
set_option maxRecDepth 20000 in
theorem wd_714 : Cond.selects RX9 yX9_of yX9_of ∈ AL := AL_t3 (List.mem_of_getElem? (i := 234) rfl) rfl
set_option maxRecDepth 20000 in
theorem wd_715 : Cond.code yX9_of cX9_of 3 (some .int) ∈ AL := AL_t3 (List.mem_of_getElem? (i := 235) rfl) rfl
theorem ml_L_71 : MLv RL 71 RX9 yX9_of cX9_of 3 (some .int) 2 := ⟨by decide +kernel, wd_712, wd_713, wd_714, wd_1, wd_715⟩
set_option maxRecDepth 20000 in
theorem wd_716 : Cond.methodLink RX9 170 yX4_borneOf ∈ AL := AL_t3 (List.mem_of_getElem? (i := 236) rfl) rfl
set_option maxRecDepth 20000 in
theorem wd_717 : Cond.instanceMethod yX4_borneOf ∈ AL := AL_t3 (List.mem_of_getElem? (i := 237) rfl) rfl
set_option maxRecDepth 20000 in
theorem wd_718 : Cond.selects RX4 yX4_borneOf yX4_borneOf ∈ AL := AL_t3 (List.mem_of_getElem? (i := 238) rfl) rfl
set_option maxRecDepth 20000 in
theorem wd_719 : Cond.code yX4_borneOf cX4_borneOf 4 (some .int) ∈ AL := AL_t3 (List.mem_of_getElem? (i := 239) rfl) rfl
theorem ml_X9_170 : MLv RX9 170 RX4 yX4_borneOf cX4_borneOf 4 (some .int) 3 := ⟨by decide +kernel, wd_716, wd_717, wd_718, wd_7, wd_719⟩
set_option maxRecDepth 20000 in
theorem wd_720 : Cond.methodLink RL 75 yX9_now ∈ AL := AL_t4 (List.mem_of_getElem? (i := 0) rfl) rfl
set_option maxRecDepth 20000 in
theorem wd_721 : Cond.instanceMethod yX9_now ∈ AL := AL_t4 (List.mem_of_getElem? (i := 1) rfl) rfl
set_option maxRecDepth 20000 in
theorem wd_722 : Cond.selects RX9 yX9_now yX9_now ∈ AL := AL_t4 (List.mem_of_getElem? (i := 2) rfl) rfl
set_option maxRecDepth 20000 in
theorem wd_723 : Cond.code yX9_now cX9_now 2 (some .int) ∈ AL := AL_t4 (List.mem_of_getElem? (i := 3) rfl) rfl
theorem ml_L_75 : MLv RL 75 RX9 yX9_now cX9_now 2 (some .int) 1 := ⟨by decide +kernel, wd_720, wd_721, wd_722, wd_1, wd_723⟩
set_option maxRecDepth 20000 in
theorem wd_724 : Cond.methodLink RX9 174 yX9_weighWhatLies ∈ AL := AL_t4 (List.mem_of_getElem? (i := 4) rfl) rfl
set_option maxRecDepth 20000 in
theorem wd_726 : Cond.instanceMethod yX9_weighWhatLies ∈ AL := AL_t4 (List.mem_of_getElem? (i := 6) rfl) rfl
theorem ws_24 : Cond.selects RX9 yX9_weighWhatLies yX9_weighWhatLies ∈ AL := AL_ofs 24 (by decide +kernel) (by decide +kernel)
set_option maxRecDepth 20000 in
theorem wd_727 : Cond.code yX9_weighWhatLies cX9_weighWhatLies 1 none ∈ AL := AL_t4 (List.mem_of_getElem? (i := 7) rfl) rfl
theorem ml_X9_174 : MLv RX9 174 RX9 yX9_weighWhatLies cX9_weighWhatLies 1 none 0 := ⟨by decide +kernel, wd_724, wd_726, ws_24, wd_1, wd_727⟩
set_option maxRecDepth 20000 in
theorem wd_728 : Cond.methodLink RX9 180 yX9_leaning ∈ AL := AL_t4 (List.mem_of_getElem? (i := 8) rfl) rfl
set_option maxRecDepth 20000 in
theorem wd_729 : Cond.static yX9_leaning ∈ AL := AL_t4 (List.mem_of_getElem? (i := 9) rfl) rfl
set_option maxRecDepth 20000 in
theorem wd_730 : Cond.code yX9_leaning cX9_leaning 2 (some .int) ∈ AL := AL_t4 (List.mem_of_getElem? (i := 10) rfl) rfl
theorem ml_X9_180 : MLs RX9 180 yX9_leaning cX9_leaning 2 (some .int) 2 := ⟨by decide +kernel, wd_728, wd_729, wd_1, wd_730⟩
set_option maxRecDepth 20000 in
theorem wd_732 : Cond.methodLink RL 79 yX9_loadings ∈ AL := AL_t4 (List.mem_of_getElem? (i := 12) rfl) rfl
set_option maxRecDepth 20000 in
theorem wd_733 : Cond.instanceMethod yX9_loadings ∈ AL := AL_t4 (List.mem_of_getElem? (i := 13) rfl) rfl
set_option maxRecDepth 20000 in
theorem wd_734 : Cond.selects RX9 yX9_loadings yX9_loadings ∈ AL := AL_t4 (List.mem_of_getElem? (i := 14) rfl) rfl
set_option maxRecDepth 20000 in
theorem wd_735 : Cond.code yX9_loadings cX9_loadings 3 (some .long) ∈ AL := AL_t4 (List.mem_of_getElem? (i := 15) rfl) rfl
theorem ml_L_79 : MLv RL 79 RX9 yX9_loadings cX9_loadings 3 (some .long) 2 := ⟨by decide +kernel, wd_732, wd_733, wd_734, wd_1, wd_735⟩
set_option maxRecDepth 20000 in
theorem wd_736 : Cond.methodLink RX9 188 yX9_isLoadable ∈ AL := AL_t4 (List.mem_of_getElem? (i := 16) rfl) rfl
set_option maxRecDepth 20000 in
theorem wd_738 : Cond.instanceMethod yX9_isLoadable ∈ AL := AL_t4 (List.mem_of_getElem? (i := 18) rfl) rfl
theorem ws_25 : Cond.selects RX9 yX9_isLoadable yX9_isLoadable ∈ AL := AL_ofs 25 (by decide +kernel) (by decide +kernel)
set_option maxRecDepth 20000 in
theorem wd_739 : Cond.code yX9_isLoadable cX9_isLoadable 5 (some .boolean) ∈ AL := AL_t4 (List.mem_of_getElem? (i := 19) rfl) rfl
theorem ml_X9_188 : MLv RX9 188 RX9 yX9_isLoadable cX9_isLoadable 5 (some .boolean) 2 := ⟨by decide +kernel, wd_736, wd_738, ws_25, wd_1, wd_739⟩
set_option maxRecDepth 20000 in
theorem wd_740 : Cond.methodLink RX9 201 yJ6_bitCount_0f7a4 ∈ AL := AL_t4 (List.mem_of_getElem? (i := 20) rfl) rfl
set_option maxRecDepth 20000 in
theorem wd_741 : Cond.static yJ6_bitCount_0f7a4 ∈ AL := AL_t4 (List.mem_of_getElem? (i := 21) rfl) rfl
set_option maxRecDepth 20000 in
theorem wd_18 : Cond.initialized RJ6 ∈ AL := AL_t1 (List.mem_of_getElem? (i := 18) rfl) rfl
set_option maxRecDepth 20000 in
theorem wd_742 : Cond.code yJ6_bitCount_0f7a4 cJ6_bitCount_0f7a4 1 (some .int) ∈ AL := AL_t4 (List.mem_of_getElem? (i := 22) rfl) rfl
theorem ml_X9_201 : MLs RX9 201 yJ6_bitCount_0f7a4 cJ6_bitCount_0f7a4 1 (some .int) 1 := ⟨by decide +kernel, wd_740, wd_741, wd_18, wd_742⟩
set_option maxRecDepth 20000 in
theorem wd_747 : Cond.methodLink RX9 193 yX1_prepare ∈ AL := AL_t4 (List.mem_of_getElem? (i := 27) rfl) rfl
set_option maxRecDepth 20000 in
theorem wd_748 : Cond.instanceMethod yX1_prepare ∈ AL := AL_t4 (List.mem_of_getElem? (i := 28) rfl) rfl
set_option maxRecDepth 20000 in
theorem wd_749 : Cond.selects RX1 yX1_prepare yX1_prepare ∈ AL := AL_t4 (List.mem_of_getElem? (i := 29) rfl) rfl
set_option maxRecDepth 20000 in
theorem wd_8 : Cond.initialized RX1 ∈ AL := AL_t1 (List.mem_of_getElem? (i := 8) rfl) rfl
set_option maxRecDepth 20000 in
theorem wd_750 : Cond.code yX1_prepare cX1_prepare 7 none ∈ AL := AL_t4 (List.mem_of_getElem? (i := 30) rfl) rfl
theorem ml_X9_193 : MLv RX9 193 RX1 yX1_prepare cX1_prepare 7 none 4 := ⟨by decide +kernel, wd_747, wd_748, wd_749, wd_8, wd_750⟩
set_option maxRecDepth 20000 in
theorem wd_751 : Cond.methodLink RX1 42 yX4_borneOf ∈ AL := AL_t4 (List.mem_of_getElem? (i := 31) rfl) rfl
theorem ml_X1_42 : MLv RX1 42 RX4 yX4_borneOf cX4_borneOf 4 (some .int) 3 := ⟨by decide +kernel, wd_751, wd_717, wd_718, wd_7, wd_719⟩
set_option maxRecDepth 20000 in
theorem wd_752 : Cond.methodLink RX1 46 yX1_addToParts ∈ AL := AL_t4 (List.mem_of_getElem? (i := 32) rfl) rfl
set_option maxRecDepth 20000 in
theorem wd_754 : Cond.instanceMethod yX1_addToParts ∈ AL := AL_t4 (List.mem_of_getElem? (i := 34) rfl) rfl
theorem ws_26 : Cond.selects RX1 yX1_addToParts yX1_addToParts ∈ AL := AL_ofs 26 (by decide +kernel) (by decide +kernel)
set_option maxRecDepth 20000 in
theorem wd_755 : Cond.code yX1_addToParts cX1_addToParts 5 none ∈ AL := AL_t4 (List.mem_of_getElem? (i := 35) rfl) rfl
theorem ml_X1_46 : MLv RX1 46 RX1 yX1_addToParts cX1_addToParts 5 none 3 := ⟨by decide +kernel, wd_752, wd_754, ws_26, wd_8, wd_755⟩
set_option maxRecDepth 20000 in
theorem wd_756 : Cond.methodLink RX1 50 yX4_hang ∈ AL := AL_t4 (List.mem_of_getElem? (i := 36) rfl) rfl
theorem ml_X1_50 : MLv RX1 50 RX4 yX4_hang cX4_hang 4 none 3 := ⟨by decide +kernel, wd_756, wd_667, wd_668, wd_7, wd_669⟩
set_option maxRecDepth 20000 in
theorem wd_757 : Cond.methodLink RX1 58 yX4_isSafe ∈ AL := AL_t4 (List.mem_of_getElem? (i := 37) rfl) rfl
theorem ml_X1_58 : MLv RX1 58 RX4 yX4_isSafe cX4_isSafe 2 (some .boolean) 1 := ⟨by decide +kernel, wd_757, wd_671, wd_672, wd_7, wd_673⟩
set_option maxRecDepth 20000 in
theorem wd_758 : Cond.methodLink RX1 65 yJ9_abs_0f7a4 ∈ AL := AL_t4 (List.mem_of_getElem? (i := 38) rfl) rfl
theorem ml_X1_65 : MLs RX1 65 yJ9_abs_0f7a4 cJ9_abs_0f7a4 1 (some .int) 1 := ⟨by decide +kernel, wd_758, wd_675, wd_16, wd_676⟩
set_option maxRecDepth 20000 in
theorem wd_760 : Cond.methodLink RX9 197 yX1_count ∈ AL := AL_t4 (List.mem_of_getElem? (i := 40) rfl) rfl
set_option maxRecDepth 20000 in
theorem wd_761 : Cond.instanceMethod yX1_count ∈ AL := AL_t4 (List.mem_of_getElem? (i := 41) rfl) rfl
set_option maxRecDepth 20000 in
theorem wd_762 : Cond.selects RX1 yX1_count yX1_count ∈ AL := AL_t4 (List.mem_of_getElem? (i := 42) rfl) rfl
set_option maxRecDepth 20000 in
theorem wd_763 : Cond.code yX1_count cX1_count 5 (some .int) ∈ AL := AL_t4 (List.mem_of_getElem? (i := 43) rfl) rfl
theorem ml_X9_197 : MLv RX9 197 RX1 yX1_count cX1_count 5 (some .int) 0 := ⟨by decide +kernel, wd_760, wd_761, wd_762, wd_8, wd_763⟩
set_option maxRecDepth 20000 in
theorem wd_764 : Cond.methodLink RL 84 yX9_gentle ∈ AL := AL_t4 (List.mem_of_getElem? (i := 44) rfl) rfl
set_option maxRecDepth 20000 in
theorem wd_765 : Cond.instanceMethod yX9_gentle ∈ AL := AL_t4 (List.mem_of_getElem? (i := 45) rfl) rfl
set_option maxRecDepth 20000 in
theorem wd_766 : Cond.selects RX9 yX9_gentle yX9_gentle ∈ AL := AL_t4 (List.mem_of_getElem? (i := 46) rfl) rfl
set_option maxRecDepth 20000 in
theorem wd_767 : Cond.code yX9_gentle cX9_gentle 5 (some .int) ∈ AL := AL_t4 (List.mem_of_getElem? (i := 47) rfl) rfl
theorem ml_L_84 : MLv RL 84 RX9 yX9_gentle cX9_gentle 5 (some .int) 3 := ⟨by decide +kernel, wd_764, wd_765, wd_766, wd_1, wd_767⟩
set_option maxRecDepth 20000 in
theorem wd_768 : Cond.methodLink RX9 206 yX1_leastTurn ∈ AL := AL_t4 (List.mem_of_getElem? (i := 48) rfl) rfl
set_option maxRecDepth 20000 in
theorem wd_769 : Cond.instanceMethod yX1_leastTurn ∈ AL := AL_t4 (List.mem_of_getElem? (i := 49) rfl) rfl
set_option maxRecDepth 20000 in
theorem wd_770 : Cond.selects RX1 yX1_leastTurn yX1_leastTurn ∈ AL := AL_t4 (List.mem_of_getElem? (i := 50) rfl) rfl
set_option maxRecDepth 20000 in
theorem wd_771 : Cond.code yX1_leastTurn cX1_leastTurn 5 (some .int) ∈ AL := AL_t4 (List.mem_of_getElem? (i := 51) rfl) rfl
theorem ml_X9_206 : MLv RX9 206 RX1 yX1_leastTurn cX1_leastTurn 5 (some .int) 0 := ⟨by decide +kernel, wd_768, wd_769, wd_770, wd_8, wd_771⟩
set_option maxRecDepth 20000 in
theorem wd_772 : Cond.methodLink RX1 72 yX1_turnFrom ∈ AL := AL_t4 (List.mem_of_getElem? (i := 52) rfl) rfl
set_option maxRecDepth 20000 in
theorem wd_774 : Cond.instanceMethod yX1_turnFrom ∈ AL := AL_t4 (List.mem_of_getElem? (i := 54) rfl) rfl
theorem ws_27 : Cond.selects RX1 yX1_turnFrom yX1_turnFrom ∈ AL := AL_ofs 27 (by decide +kernel) (by decide +kernel)
set_option maxRecDepth 20000 in
theorem wd_775 : Cond.code yX1_turnFrom cX1_turnFrom 2 (some .int) ∈ AL := AL_t4 (List.mem_of_getElem? (i := 55) rfl) rfl
theorem ml_X1_72 : MLv RX1 72 RX1 yX1_turnFrom cX1_turnFrom 2 (some .int) 1 := ⟨by decide +kernel, wd_772, wd_774, ws_27, wd_8, wd_775⟩
set_option maxRecDepth 20000 in
theorem wd_776 : Cond.methodLink RX1 79 yJ9_max_7cf53 ∈ AL := AL_t4 (List.mem_of_getElem? (i := 56) rfl) rfl
set_option maxRecDepth 20000 in
theorem wd_777 : Cond.static yJ9_max_7cf53 ∈ AL := AL_t4 (List.mem_of_getElem? (i := 57) rfl) rfl
set_option maxRecDepth 20000 in
theorem wd_778 : Cond.code yJ9_max_7cf53 cJ9_max_7cf53 2 (some .int) ∈ AL := AL_t4 (List.mem_of_getElem? (i := 58) rfl) rfl
theorem ml_X1_79 : MLs RX1 79 yJ9_max_7cf53 cJ9_max_7cf53 2 (some .int) 2 := ⟨by decide +kernel, wd_776, wd_777, wd_16, wd_778⟩
set_option maxRecDepth 20000 in
theorem wd_779 : Cond.methodLink RX1 75 yJ9_min_7cf53 ∈ AL := AL_t4 (List.mem_of_getElem? (i := 59) rfl) rfl
theorem ml_X1_75 : MLs RX1 75 yJ9_min_7cf53 cJ9_min_7cf53 2 (some .int) 2 := ⟨by decide +kernel, wd_779, wd_532, wd_16, wd_533⟩
set_option maxRecDepth 20000 in
theorem wd_780 : Cond.methodLink RX9 209 yX1_gentleThing ∈ AL := AL_t4 (List.mem_of_getElem? (i := 60) rfl) rfl
set_option maxRecDepth 20000 in
theorem wd_781 : Cond.instanceMethod yX1_gentleThing ∈ AL := AL_t4 (List.mem_of_getElem? (i := 61) rfl) rfl
set_option maxRecDepth 20000 in
theorem wd_782 : Cond.selects RX1 yX1_gentleThing yX1_gentleThing ∈ AL := AL_t4 (List.mem_of_getElem? (i := 62) rfl) rfl
set_option maxRecDepth 20000 in
theorem wd_783 : Cond.code yX1_gentleThing cX1_gentleThing 7 (some .int) ∈ AL := AL_t4 (List.mem_of_getElem? (i := 63) rfl) rfl
theorem ml_X9_209 : MLv RX9 209 RX1 yX1_gentleThing cX1_gentleThing 7 (some .int) 2 := ⟨by decide +kernel, wd_780, wd_781, wd_782, wd_8, wd_783⟩
set_option maxRecDepth 20000 in
theorem wd_784 : Cond.methodLink RX1 82 yX1_nextMember ∈ AL := AL_t4 (List.mem_of_getElem? (i := 64) rfl) rfl
set_option maxRecDepth 20000 in
theorem wd_786 : Cond.instanceMethod yX1_nextMember ∈ AL := AL_t4 (List.mem_of_getElem? (i := 66) rfl) rfl
theorem ws_28 : Cond.selects RX1 yX1_nextMember yX1_nextMember ∈ AL := AL_ofs 28 (by decide +kernel) (by decide +kernel)
set_option maxRecDepth 20000 in
theorem wd_787 : Cond.code yX1_nextMember cX1_nextMember 4 (some .int) ∈ AL := AL_t4 (List.mem_of_getElem? (i := 67) rfl) rfl
theorem ml_X1_82 : MLv RX1 82 RX1 yX1_nextMember cX1_nextMember 4 (some .int) 2 := ⟨by decide +kernel, wd_784, wd_786, ws_28, wd_8, wd_787⟩
set_option maxRecDepth 20000 in
theorem wd_788 : Cond.methodLink RL 89 yX9_reading ∈ AL := AL_t4 (List.mem_of_getElem? (i := 68) rfl) rfl
set_option maxRecDepth 20000 in
theorem wd_789 : Cond.instanceMethod yX9_reading ∈ AL := AL_t4 (List.mem_of_getElem? (i := 69) rfl) rfl
set_option maxRecDepth 20000 in
theorem wd_790 : Cond.selects RX9 yX9_reading yX9_reading ∈ AL := AL_t4 (List.mem_of_getElem? (i := 70) rfl) rfl
set_option maxRecDepth 20000 in
theorem wd_791 : Cond.code yX9_reading cX9_reading 4 (some .int) ∈ AL := AL_t4 (List.mem_of_getElem? (i := 71) rfl) rfl
theorem ml_L_89 : MLv RL 89 RX9 yX9_reading cX9_reading 4 (some .int) 2 := ⟨by decide +kernel, wd_788, wd_789, wd_790, wd_1, wd_791⟩
set_option maxRecDepth 20000 in
theorem wd_797 : Cond.code yX8_copyWorld cX8_copyWorld 2 none ∈ AL := AL_t4 (List.mem_of_getElem? (i := 77) rfl) rfl
theorem ml_X9_230 : MLu RX9 230 RX3 RX8 ⟨RX3, "copyWorld", "(LDownByAHair$World;)V"⟩ yX8_copyWorld cX8_copyWorld 2 none 1 := ⟨by decide +kernel, AL_all (by decide +kernel), wd_797⟩
set_option maxRecDepth 20000 in
theorem wd_798 : Cond.methodLink RL 93 yX9_forget ∈ AL := AL_t4 (List.mem_of_getElem? (i := 78) rfl) rfl
set_option maxRecDepth 20000 in
theorem wd_799 : Cond.instanceMethod yX9_forget ∈ AL := AL_t4 (List.mem_of_getElem? (i := 79) rfl) rfl
set_option maxRecDepth 20000 in
theorem wd_800 : Cond.selects RX9 yX9_forget yX9_forget ∈ AL := AL_t4 (List.mem_of_getElem? (i := 80) rfl) rfl
set_option maxRecDepth 20000 in
theorem wd_801 : Cond.code yX9_forget cX9_forget 2 (some .int) ∈ AL := AL_t4 (List.mem_of_getElem? (i := 81) rfl) rfl
theorem ml_L_93 : MLv RL 93 RX9 yX9_forget cX9_forget 2 (some .int) 0 := ⟨by decide +kernel, wd_798, wd_799, wd_800, wd_1, wd_801⟩
set_option maxRecDepth 20000 in
theorem wd_802 : Cond.methodLink RL 97 yX9_span ∈ AL := AL_t4 (List.mem_of_getElem? (i := 82) rfl) rfl
set_option maxRecDepth 20000 in
theorem wd_803 : Cond.instanceMethod yX9_span ∈ AL := AL_t4 (List.mem_of_getElem? (i := 83) rfl) rfl
set_option maxRecDepth 20000 in
theorem wd_804 : Cond.selects RX9 yX9_span yX9_span ∈ AL := AL_t4 (List.mem_of_getElem? (i := 84) rfl) rfl
set_option maxRecDepth 20000 in
theorem wd_805 : Cond.code yX9_span cX9_span 6 (some .int) ∈ AL := AL_t4 (List.mem_of_getElem? (i := 85) rfl) rfl
theorem ml_L_97 : MLv RL 97 RX9 yX9_span cX9_span 6 (some .int) 1 := ⟨by decide +kernel, wd_802, wd_803, wd_804, wd_1, wd_805⟩
set_option maxRecDepth 20000 in
theorem wd_806 : Cond.methodLink RX9 236 yX9_fitsReadings ∈ AL := AL_t4 (List.mem_of_getElem? (i := 86) rfl) rfl
set_option maxRecDepth 20000 in
theorem wd_808 : Cond.instanceMethod yX9_fitsReadings ∈ AL := AL_t4 (List.mem_of_getElem? (i := 88) rfl) rfl
theorem ws_29 : Cond.selects RX9 yX9_fitsReadings yX9_fitsReadings ∈ AL := AL_ofs 29 (by decide +kernel) (by decide +kernel)
set_option maxRecDepth 20000 in
theorem wd_809 : Cond.code yX9_fitsReadings cX9_fitsReadings 4 (some .boolean) ∈ AL := AL_t4 (List.mem_of_getElem? (i := 89) rfl) rfl
theorem ml_X9_236 : MLv RX9 236 RX9 yX9_fitsReadings cX9_fitsReadings 4 (some .boolean) 1 := ⟨by decide +kernel, wd_806, wd_808, ws_29, wd_1, wd_809⟩
set_option maxRecDepth 20000 in
theorem wd_810 : Cond.methodLink RX9 279 yX9_borneAt ∈ AL := AL_t4 (List.mem_of_getElem? (i := 90) rfl) rfl
set_option maxRecDepth 20000 in
theorem wd_812 : Cond.instanceMethod yX9_borneAt ∈ AL := AL_t4 (List.mem_of_getElem? (i := 92) rfl) rfl
theorem ws_30 : Cond.selects RX9 yX9_borneAt yX9_borneAt ∈ AL := AL_ofs 30 (by decide +kernel) (by decide +kernel)
set_option maxRecDepth 20000 in
theorem wd_813 : Cond.code yX9_borneAt cX9_borneAt 3 (some .int) ∈ AL := AL_t4 (List.mem_of_getElem? (i := 93) rfl) rfl
theorem ml_X9_279 : MLv RX9 279 RX9 yX9_borneAt cX9_borneAt 3 (some .int) 2 := ⟨by decide +kernel, wd_810, wd_812, ws_30, wd_1, wd_813⟩
set_option maxRecDepth 20000 in
theorem wd_814 : Cond.methodLink RX9 294 yX4_borne ∈ AL := AL_t4 (List.mem_of_getElem? (i := 94) rfl) rfl
theorem ml_X9_294 : MLv RX9 294 RX4 yX4_borne cX4_borne 7 (some .int) 5 := ⟨by decide +kernel, wd_814, wd_649, wd_650, wd_7, wd_651⟩
set_option maxRecDepth 20000 in
theorem wd_815 : Cond.methodLink RX9 288 yX3_agrees ∈ AL := AL_t4 (List.mem_of_getElem? (i := 95) rfl) rfl
set_option maxRecDepth 20000 in
theorem wd_816 : Cond.instanceMethod yX3_agrees ∈ AL := AL_t4 (List.mem_of_getElem? (i := 96) rfl) rfl
set_option maxRecDepth 20000 in
theorem wd_817 : Cond.selects RX3 yX3_agrees yX3_agrees ∈ AL := AL_t4 (List.mem_of_getElem? (i := 97) rfl) rfl
set_option maxRecDepth 20000 in
theorem wd_4 : Cond.initialized RX3 ∈ AL := AL_t1 (List.mem_of_getElem? (i := 4) rfl) rfl
set_option maxRecDepth 20000 in
theorem wd_818 : Cond.code yX3_agrees cX3_agrees 6 (some .boolean) ∈ AL := AL_t4 (List.mem_of_getElem? (i := 98) rfl) rfl
theorem ml_X9_288 : MLv RX9 288 RX3 yX3_agrees cX3_agrees 6 (some .boolean) 2 := ⟨by decide +kernel, wd_815, wd_816, wd_817, wd_4, wd_818⟩
set_option maxRecDepth 20000 in
theorem wd_820 : Cond.methodLink RL 101 yX9_bent ∈ AL := AL_t4 (List.mem_of_getElem? (i := 100) rfl) rfl
set_option maxRecDepth 20000 in
theorem wd_821 : Cond.instanceMethod yX9_bent ∈ AL := AL_t4 (List.mem_of_getElem? (i := 101) rfl) rfl
set_option maxRecDepth 20000 in
theorem wd_822 : Cond.selects RX9 yX9_bent yX9_bent ∈ AL := AL_t4 (List.mem_of_getElem? (i := 102) rfl) rfl
set_option maxRecDepth 20000 in
theorem wd_823 : Cond.code yX9_bent cX9_bent 7 (some .int) ∈ AL := AL_t4 (List.mem_of_getElem? (i := 103) rfl) rfl
theorem ml_L_101 : MLv RL 101 RX9 yX9_bent cX9_bent 7 (some .int) 2 := ⟨by decide +kernel, wd_820, wd_821, wd_822, wd_1, wd_823⟩
set_option maxRecDepth 20000 in
theorem wd_824 : Cond.methodLink RX9 239 yX9_bearUnknown ∈ AL := AL_t4 (List.mem_of_getElem? (i := 104) rfl) rfl
set_option maxRecDepth 20000 in
theorem wd_826 : Cond.instanceMethod yX9_bearUnknown ∈ AL := AL_t4 (List.mem_of_getElem? (i := 106) rfl) rfl
theorem ws_31 : Cond.selects RX9 yX9_bearUnknown yX9_bearUnknown ∈ AL := AL_ofs 31 (by decide +kernel) (by decide +kernel)
set_option maxRecDepth 20000 in
theorem wd_827 : Cond.code yX9_bearUnknown cX9_bearUnknown 4 none ∈ AL := AL_t4 (List.mem_of_getElem? (i := 107) rfl) rfl
theorem ml_X9_239 : MLv RX9 239 RX9 yX9_bearUnknown cX9_bearUnknown 4 none 1 := ⟨by decide +kernel, wd_824, wd_826, ws_31, wd_1, wd_827⟩
set_option maxRecDepth 20000 in
theorem wd_828 : Cond.methodLink RX9 242 yX9_armsFitReadings ∈ AL := AL_t4 (List.mem_of_getElem? (i := 108) rfl) rfl
set_option maxRecDepth 20000 in
theorem wd_830 : Cond.instanceMethod yX9_armsFitReadings ∈ AL := AL_t4 (List.mem_of_getElem? (i := 110) rfl) rfl
theorem ws_32 : Cond.selects RX9 yX9_armsFitReadings yX9_armsFitReadings ∈ AL := AL_ofs 32 (by decide +kernel) (by decide +kernel)
set_option maxRecDepth 20000 in
theorem wd_831 : Cond.code yX9_armsFitReadings cX9_armsFitReadings 4 (some .boolean) ∈ AL := AL_t4 (List.mem_of_getElem? (i := 111) rfl) rfl
theorem ml_X9_242 : MLv RX9 242 RX9 yX9_armsFitReadings cX9_armsFitReadings 4 (some .boolean) 2 := ⟨by decide +kernel, wd_828, wd_830, ws_32, wd_1, wd_831⟩
set_option maxRecDepth 20000 in
theorem wd_832 : Cond.methodLink RL 105 yX9_balanced ∈ AL := AL_t4 (List.mem_of_getElem? (i := 112) rfl) rfl
set_option maxRecDepth 20000 in
theorem wd_833 : Cond.instanceMethod yX9_balanced ∈ AL := AL_t4 (List.mem_of_getElem? (i := 113) rfl) rfl
set_option maxRecDepth 20000 in
theorem wd_834 : Cond.selects RX9 yX9_balanced yX9_balanced ∈ AL := AL_t4 (List.mem_of_getElem? (i := 114) rfl) rfl
set_option maxRecDepth 20000 in
theorem wd_835 : Cond.code yX9_balanced cX9_balanced 3 (some .int) ∈ AL := AL_t4 (List.mem_of_getElem? (i := 115) rfl) rfl
theorem ml_L_105 : MLv RL 105 RX9 yX9_balanced cX9_balanced 3 (some .int) 2 := ⟨by decide +kernel, wd_832, wd_833, wd_834, wd_1, wd_835⟩
set_option maxRecDepth 20000 in
theorem wd_836 : Cond.methodLink RX9 245 yX0_find ∈ AL := AL_t4 (List.mem_of_getElem? (i := 116) rfl) rfl
set_option maxRecDepth 20000 in
theorem wd_837 : Cond.instanceMethod yX0_find ∈ AL := AL_t4 (List.mem_of_getElem? (i := 117) rfl) rfl
set_option maxRecDepth 20000 in
theorem wd_838 : Cond.selects RX0 yX0_find yX0_find ∈ AL := AL_t4 (List.mem_of_getElem? (i := 118) rfl) rfl
set_option maxRecDepth 20000 in
theorem wd_9 : Cond.initialized RX0 ∈ AL := AL_t1 (List.mem_of_getElem? (i := 9) rfl) rfl
set_option maxRecDepth 20000 in
theorem wd_839 : Cond.code yX0_find cX0_find 7 (some .boolean) ∈ AL := AL_t4 (List.mem_of_getElem? (i := 119) rfl) rfl
theorem ml_X9_245 : MLv RX9 245 RX0 yX0_find cX0_find 7 (some .boolean) 2 := ⟨by decide +kernel, wd_836, wd_837, wd_838, wd_9, wd_839⟩
set_option maxRecDepth 20000 in
theorem wd_840 : Cond.methodLink RX0 15 yX0_addSums ∈ AL := AL_t4 (List.mem_of_getElem? (i := 120) rfl) rfl
set_option maxRecDepth 20000 in
theorem wd_842 : Cond.instanceMethod yX0_addSums ∈ AL := AL_t4 (List.mem_of_getElem? (i := 122) rfl) rfl
theorem ws_33 : Cond.selects RX0 yX0_addSums yX0_addSums ∈ AL := AL_ofs 33 (by decide +kernel) (by decide +kernel)
set_option maxRecDepth 20000 in
theorem wd_843 : Cond.code yX0_addSums cX0_addSums 4 none ∈ AL := AL_t4 (List.mem_of_getElem? (i := 123) rfl) rfl
theorem ml_X0_15 : MLv RX0 15 RX0 yX0_addSums cX0_addSums 4 none 1 := ⟨by decide +kernel, wd_840, wd_842, ws_33, wd_9, wd_843⟩
set_option maxRecDepth 20000 in
theorem wd_844 : Cond.methodLink RX0 25 yJ6_bitCount_0f7a4 ∈ AL := AL_t4 (List.mem_of_getElem? (i := 124) rfl) rfl
theorem ml_X0_25 : MLs RX0 25 yJ6_bitCount_0f7a4 cJ6_bitCount_0f7a4 1 (some .int) 1 := ⟨by decide +kernel, wd_844, wd_741, wd_18, wd_742⟩
set_option maxRecDepth 20000 in
theorem wd_845 : Cond.methodLink RX0 31 yX0_partBeside ∈ AL := AL_t4 (List.mem_of_getElem? (i := 125) rfl) rfl
set_option maxRecDepth 20000 in
theorem wd_847 : Cond.instanceMethod yX0_partBeside ∈ AL := AL_t4 (List.mem_of_getElem? (i := 127) rfl) rfl
theorem ws_34 : Cond.selects RX0 yX0_partBeside yX0_partBeside ∈ AL := AL_ofs 34 (by decide +kernel) (by decide +kernel)
set_option maxRecDepth 20000 in
theorem wd_848 : Cond.code yX0_partBeside cX0_partBeside 6 (some .int) ∈ AL := AL_t4 (List.mem_of_getElem? (i := 128) rfl) rfl
theorem ml_X0_31 : MLv RX0 31 RX0 yX0_partBeside cX0_partBeside 6 (some .int) 2 := ⟨by decide +kernel, wd_845, wd_847, ws_34, wd_9, wd_848⟩
set_option maxRecDepth 20000 in
theorem wd_849 : Cond.methodLink RL 109 yX9_weights ∈ AL := AL_t4 (List.mem_of_getElem? (i := 129) rfl) rfl
set_option maxRecDepth 20000 in
theorem wd_850 : Cond.instanceMethod yX9_weights ∈ AL := AL_t4 (List.mem_of_getElem? (i := 130) rfl) rfl
set_option maxRecDepth 20000 in
theorem wd_851 : Cond.selects RX9 yX9_weights yX9_weights ∈ AL := AL_t4 (List.mem_of_getElem? (i := 131) rfl) rfl
set_option maxRecDepth 20000 in
theorem wd_852 : Cond.code yX9_weights cX9_weights 6 (some .int) ∈ AL := AL_t4 (List.mem_of_getElem? (i := 132) rfl) rfl
theorem ml_L_109 : MLv RL 109 RX9 yX9_weights cX9_weights 6 (some .int) 2 := ⟨by decide +kernel, wd_849, wd_850, wd_851, wd_1, wd_852⟩
set_option maxRecDepth 20000 in
theorem wd_855 : Cond.methodLink RL 113 yX9_rest ∈ AL := AL_t4 (List.mem_of_getElem? (i := 135) rfl) rfl
set_option maxRecDepth 20000 in
theorem wd_856 : Cond.instanceMethod yX9_rest ∈ AL := AL_t4 (List.mem_of_getElem? (i := 136) rfl) rfl
set_option maxRecDepth 20000 in
theorem wd_857 : Cond.selects RX9 yX9_rest yX9_rest ∈ AL := AL_t4 (List.mem_of_getElem? (i := 137) rfl) rfl
set_option maxRecDepth 20000 in
theorem wd_858 : Cond.code yX9_rest cX9_rest 10 (some .int) ∈ AL := AL_t4 (List.mem_of_getElem? (i := 138) rfl) rfl
theorem ml_L_113 : MLv RL 113 RX9 yX9_rest cX9_rest 10 (some .int) 3 := ⟨by decide +kernel, wd_855, wd_856, wd_857, wd_1, wd_858⟩
set_option maxRecDepth 20000 in
theorem wd_859 : Cond.methodLink RX9 264 yJ9_max_7cf53 ∈ AL := AL_t4 (List.mem_of_getElem? (i := 139) rfl) rfl
theorem ml_X9_264 : MLs RX9 264 yJ9_max_7cf53 cJ9_max_7cf53 2 (some .int) 2 := ⟨by decide +kernel, wd_859, wd_777, wd_16, wd_778⟩
set_option maxRecDepth 20000 in
theorem wd_860 : Cond.methodLink RL 117 yX9_image ∈ AL := AL_t4 (List.mem_of_getElem? (i := 140) rfl) rfl
set_option maxRecDepth 20000 in
theorem wd_861 : Cond.instanceMethod yX9_image ∈ AL := AL_t4 (List.mem_of_getElem? (i := 141) rfl) rfl
set_option maxRecDepth 20000 in
theorem wd_862 : Cond.selects RX9 yX9_image yX9_image ∈ AL := AL_t4 (List.mem_of_getElem? (i := 142) rfl) rfl
set_option maxRecDepth 20000 in
theorem wd_863 : Cond.code yX9_image cX9_image 1 (some .int) ∈ AL := AL_t4 (List.mem_of_getElem? (i := 143) rfl) rfl
theorem ml_L_117 : MLv RL 117 RX9 yX9_image cX9_image 1 (some .int) 0 := ⟨by decide +kernel, wd_860, wd_861, wd_862, wd_1, wd_863⟩
set_option maxRecDepth 20000 in
theorem wd_864 : Cond.methodLink RX9 269 yX6_copyFrom ∈ AL := AL_t4 (List.mem_of_getElem? (i := 144) rfl) rfl
set_option maxRecDepth 20000 in
theorem wd_865 : Cond.instanceMethod yX6_copyFrom ∈ AL := AL_t4 (List.mem_of_getElem? (i := 145) rfl) rfl
set_option maxRecDepth 20000 in
theorem wd_866 : Cond.selects RX6 yX6_copyFrom yX6_copyFrom ∈ AL := AL_t4 (List.mem_of_getElem? (i := 146) rfl) rfl
set_option maxRecDepth 20000 in
theorem wd_867 : Cond.code yX6_copyFrom cX6_copyFrom 3 none ∈ AL := AL_t4 (List.mem_of_getElem? (i := 147) rfl) rfl
theorem ml_X9_269 : MLv RX9 269 RX6 yX6_copyFrom cX6_copyFrom 3 none 1 := ⟨by decide +kernel, wd_864, wd_865, wd_866, wd_3, wd_867⟩
theorem ml_X6_32 : MLu RX6 32 RX6 RX8 ⟨RX6, "copyWorld", "(LDownByAHair$World;)V"⟩ yX8_copyWorld cX8_copyWorld 2 none 1 := ⟨by decide +kernel, AL_all (by decide +kernel), wd_797⟩
set_option maxRecDepth 20000 in
theorem wd_871 : Cond.methodLink RX6 64 yX3_copyFrom ∈ AL := AL_t4 (List.mem_of_getElem? (i := 151) rfl) rfl
set_option maxRecDepth 20000 in
theorem wd_872 : Cond.instanceMethod yX3_copyFrom ∈ AL := AL_t4 (List.mem_of_getElem? (i := 152) rfl) rfl
set_option maxRecDepth 20000 in
theorem wd_873 : Cond.selects RX3 yX3_copyFrom yX3_copyFrom ∈ AL := AL_t4 (List.mem_of_getElem? (i := 153) rfl) rfl
set_option maxRecDepth 20000 in
theorem wd_874 : Cond.code yX3_copyFrom cX3_copyFrom 2 none ∈ AL := AL_t4 (List.mem_of_getElem? (i := 154) rfl) rfl
theorem ml_X6_64 : MLv RX6 64 RX3 yX3_copyFrom cX3_copyFrom 2 none 1 := ⟨by decide +kernel, wd_871, wd_872, wd_873, wd_4, wd_874⟩
theorem ml_X3_9 : MLu RX3 9 RX3 RX8 ⟨RX3, "copyWorld", "(LDownByAHair$World;)V"⟩ yX8_copyWorld cX8_copyWorld 2 none 1 := ⟨by decide +kernel, AL_all (by decide +kernel), wd_797⟩
set_option maxRecDepth 20000 in
theorem wd_876 : Cond.methodLink RL 121 yX9_back ∈ AL := AL_t4 (List.mem_of_getElem? (i := 156) rfl) rfl
set_option maxRecDepth 20000 in
theorem wd_877 : Cond.instanceMethod yX9_back ∈ AL := AL_t4 (List.mem_of_getElem? (i := 157) rfl) rfl
set_option maxRecDepth 20000 in
theorem wd_878 : Cond.selects RX9 yX9_back yX9_back ∈ AL := AL_t4 (List.mem_of_getElem? (i := 158) rfl) rfl
set_option maxRecDepth 20000 in
theorem wd_879 : Cond.code yX9_back cX9_back 1 (some .int) ∈ AL := AL_t4 (List.mem_of_getElem? (i := 159) rfl) rfl
theorem ml_L_121 : MLv RL 121 RX9 yX9_back cX9_back 1 (some .int) 0 := ⟨by decide +kernel, wd_876, wd_877, wd_878, wd_1, wd_879⟩
set_option maxRecDepth 20000 in
theorem wd_880 : Cond.methodLink RL 125 yX9_about ∈ AL := AL_t4 (List.mem_of_getElem? (i := 160) rfl) rfl
set_option maxRecDepth 20000 in
theorem wd_881 : Cond.instanceMethod yX9_about ∈ AL := AL_t4 (List.mem_of_getElem? (i := 161) rfl) rfl
set_option maxRecDepth 20000 in
theorem wd_882 : Cond.selects RX9 yX9_about yX9_about ∈ AL := AL_t4 (List.mem_of_getElem? (i := 162) rfl) rfl
set_option maxRecDepth 20000 in
theorem wd_883 : Cond.code yX9_about cX9_about 2 (some .int) ∈ AL := AL_t4 (List.mem_of_getElem? (i := 163) rfl) rfl
theorem ml_L_125 : MLv RL 125 RX9 yX9_about cX9_about 2 (some .int) 1 := ⟨by decide +kernel, wd_880, wd_881, wd_882, wd_1, wd_883⟩
set_option maxRecDepth 20000 in
theorem wd_890 : Cond.methodLink RX10 79 yX10_copy ∈ AL := AL_t4 (List.mem_of_getElem? (i := 170) rfl) rfl
set_option maxRecDepth 20000 in
theorem wd_891 : Cond.static yX10_copy ∈ AL := AL_t4 (List.mem_of_getElem? (i := 171) rfl) rfl
set_option maxRecDepth 20000 in
theorem wd_11 : Cond.initialized RX10 ∈ AL := AL_t1 (List.mem_of_getElem? (i := 11) rfl) rfl
set_option maxRecDepth 20000 in
theorem wd_892 : Cond.code yX10_copy cX10_copy 3 none ∈ AL := AL_t4 (List.mem_of_getElem? (i := 172) rfl) rfl
theorem ml_X10_79 : MLs RX10 79 yX10_copy cX10_copy 3 none 2 := ⟨by decide +kernel, wd_890, wd_891, wd_11, wd_892⟩
set_option maxRecDepth 20000 in
theorem wd_1008 : Cond.methodLink RL 17 yX10_beam ∈ AL := AL_t5 (List.mem_of_getElem? (i := 48) rfl) rfl
set_option maxRecDepth 20000 in
theorem wd_1009 : Cond.instanceMethod yX10_beam ∈ AL := AL_t5 (List.mem_of_getElem? (i := 49) rfl) rfl
set_option maxRecDepth 20000 in
theorem wd_1010 : Cond.selects RX10 yX10_beam yX10_beam ∈ AL := AL_t5 (List.mem_of_getElem? (i := 50) rfl) rfl
set_option maxRecDepth 20000 in
theorem wd_1011 : Cond.code yX10_beam cX10_beam 4 (some .boolean) ∈ AL := AL_t5 (List.mem_of_getElem? (i := 51) rfl) rfl
theorem ml_L_17 : MLv RL 17 RX10 yX10_beam cX10_beam 4 (some .boolean) 3 := ⟨by decide +kernel, wd_1008, wd_1009, wd_1010, wd_11, wd_1011⟩
set_option maxRecDepth 20000 in
theorem wd_1012 : Cond.methodLink RX10 83 yX10_isIn ∈ AL := AL_t5 (List.mem_of_getElem? (i := 52) rfl) rfl
set_option maxRecDepth 20000 in
theorem wd_1013 : Cond.static yX10_isIn ∈ AL := AL_t5 (List.mem_of_getElem? (i := 53) rfl) rfl
set_option maxRecDepth 20000 in
theorem wd_1014 : Cond.code yX10_isIn cX10_isIn 3 (some .boolean) ∈ AL := AL_t5 (List.mem_of_getElem? (i := 54) rfl) rfl
theorem ml_X10_83 : MLs RX10 83 yX10_isIn cX10_isIn 3 (some .boolean) 3 := ⟨by decide +kernel, wd_1012, wd_1013, wd_11, wd_1014⟩
set_option maxRecDepth 20000 in
theorem wd_1015 : Cond.methodLink RL 22 yX10_thing ∈ AL := AL_t5 (List.mem_of_getElem? (i := 55) rfl) rfl
set_option maxRecDepth 20000 in
theorem wd_1016 : Cond.instanceMethod yX10_thing ∈ AL := AL_t5 (List.mem_of_getElem? (i := 56) rfl) rfl
set_option maxRecDepth 20000 in
theorem wd_1017 : Cond.selects RX10 yX10_thing yX10_thing ∈ AL := AL_t5 (List.mem_of_getElem? (i := 57) rfl) rfl
set_option maxRecDepth 20000 in
theorem wd_1018 : Cond.code yX10_thing cX10_thing 3 (some .int) ∈ AL := AL_t5 (List.mem_of_getElem? (i := 58) rfl) rfl
theorem ml_L_22 : MLv RL 22 RX10 yX10_thing cX10_thing 3 (some .int) 2 := ⟨by decide +kernel, wd_1015, wd_1016, wd_1017, wd_11, wd_1018⟩
set_option maxRecDepth 20000 in
theorem wd_1019 : Cond.methodLink RX10 87 yX10_thingAt ∈ AL := AL_t5 (List.mem_of_getElem? (i := 59) rfl) rfl
set_option maxRecDepth 20000 in
theorem wd_1020 : Cond.static yX10_thingAt ∈ AL := AL_t5 (List.mem_of_getElem? (i := 60) rfl) rfl
set_option maxRecDepth 20000 in
theorem wd_1021 : Cond.code yX10_thingAt cX10_thingAt 1 (some .int) ∈ AL := AL_t5 (List.mem_of_getElem? (i := 61) rfl) rfl
theorem ml_X10_87 : MLs RX10 87 yX10_thingAt cX10_thingAt 1 (some .int) 1 := ⟨by decide +kernel, wd_1019, wd_1020, wd_11, wd_1021⟩
set_option maxRecDepth 20000 in
theorem wd_1022 : Cond.methodLink RL 26 yX10_weather ∈ AL := AL_t5 (List.mem_of_getElem? (i := 62) rfl) rfl
set_option maxRecDepth 20000 in
theorem wd_1023 : Cond.instanceMethod yX10_weather ∈ AL := AL_t5 (List.mem_of_getElem? (i := 63) rfl) rfl
set_option maxRecDepth 20000 in
theorem wd_1024 : Cond.selects RX10 yX10_weather yX10_weather ∈ AL := AL_t5 (List.mem_of_getElem? (i := 64) rfl) rfl
set_option maxRecDepth 20000 in
theorem wd_1025 : Cond.code yX10_weather cX10_weather 4 (some .boolean) ∈ AL := AL_t5 (List.mem_of_getElem? (i := 65) rfl) rfl
theorem ml_L_26 : MLv RL 26 RX10 yX10_weather cX10_weather 4 (some .boolean) 3 := ⟨by decide +kernel, wd_1022, wd_1023, wd_1024, wd_11, wd_1025⟩
set_option maxRecDepth 20000 in
theorem wd_1026 : Cond.methodLink RL 31 yX10_feed ∈ AL := AL_t5 (List.mem_of_getElem? (i := 66) rfl) rfl
set_option maxRecDepth 20000 in
theorem wd_1027 : Cond.instanceMethod yX10_feed ∈ AL := AL_t5 (List.mem_of_getElem? (i := 67) rfl) rfl
set_option maxRecDepth 20000 in
theorem wd_1028 : Cond.selects RX10 yX10_feed yX10_feed ∈ AL := AL_t5 (List.mem_of_getElem? (i := 68) rfl) rfl
set_option maxRecDepth 20000 in
theorem wd_1029 : Cond.code yX10_feed cX10_feed 6 (some .int) ∈ AL := AL_t5 (List.mem_of_getElem? (i := 69) rfl) rfl
theorem ml_L_31 : MLv RL 31 RX10 yX10_feed cX10_feed 6 (some .int) 5 := ⟨by decide +kernel, wd_1026, wd_1027, wd_1028, wd_11, wd_1029⟩
set_option maxRecDepth 20000 in
theorem wd_1030 : Cond.methodLink RX10 94 yX10_four ∈ AL := AL_t5 (List.mem_of_getElem? (i := 70) rfl) rfl
set_option maxRecDepth 20000 in
theorem wd_1032 : Cond.instanceMethod yX10_four ∈ AL := AL_t5 (List.mem_of_getElem? (i := 72) rfl) rfl
theorem ws_35 : Cond.selects RX10 yX10_four yX10_four ∈ AL := AL_ofs 35 (by decide +kernel) (by decide +kernel)
set_option maxRecDepth 20000 in
theorem wd_1033 : Cond.code yX10_four cX10_four 3 none ∈ AL := AL_t5 (List.mem_of_getElem? (i := 73) rfl) rfl
theorem ml_X10_94 : MLv RX10 94 RX10 yX10_four cX10_four 3 none 1 := ⟨by decide +kernel, wd_1030, wd_1032, ws_35, wd_11, wd_1033⟩
set_option maxRecDepth 20000 in
theorem wd_1034 : Cond.methodLink RL 36 yX10_end ∈ AL := AL_t5 (List.mem_of_getElem? (i := 74) rfl) rfl
set_option maxRecDepth 20000 in
theorem wd_1035 : Cond.instanceMethod yX10_end ∈ AL := AL_t5 (List.mem_of_getElem? (i := 75) rfl) rfl
set_option maxRecDepth 20000 in
theorem wd_1036 : Cond.selects RX10 yX10_end yX10_end ∈ AL := AL_t5 (List.mem_of_getElem? (i := 76) rfl) rfl
set_option maxRecDepth 20000 in
theorem wd_1037 : Cond.code yX10_end cX10_end 2 (some .int) ∈ AL := AL_t5 (List.mem_of_getElem? (i := 77) rfl) rfl
theorem ml_L_36 : MLv RL 36 RX10 yX10_end cX10_end 2 (some .int) 1 := ⟨by decide +kernel, wd_1034, wd_1035, wd_1036, wd_11, wd_1037⟩
set_option maxRecDepth 20000 in
theorem wd_1038 : Cond.methodLink RL 41 yX10_text ∈ AL := AL_t5 (List.mem_of_getElem? (i := 78) rfl) rfl
set_option maxRecDepth 20000 in
theorem wd_1039 : Cond.instanceMethod yX10_text ∈ AL := AL_t5 (List.mem_of_getElem? (i := 79) rfl) rfl
set_option maxRecDepth 20000 in
theorem wd_1040 : Cond.selects RX10 yX10_text yX10_text ∈ AL := AL_t5 (List.mem_of_getElem? (i := 80) rfl) rfl
set_option maxRecDepth 20000 in
theorem wd_1041 : Cond.code yX10_text cX10_text 1 (some .int) ∈ AL := AL_t5 (List.mem_of_getElem? (i := 81) rfl) rfl
theorem ml_L_41 : MLv RL 41 RX10 yX10_text cX10_text 1 (some .int) 0 := ⟨by decide +kernel, wd_1038, wd_1039, wd_1040, wd_11, wd_1041⟩
set_option maxRecDepth 20000 in
theorem wd_1042 : Cond.methodLink RX10 232 yX10_readText ∈ AL := AL_t5 (List.mem_of_getElem? (i := 82) rfl) rfl
set_option maxRecDepth 20000 in
theorem wd_1044 : Cond.instanceMethod yX10_readText ∈ AL := AL_t5 (List.mem_of_getElem? (i := 84) rfl) rfl
theorem ws_36 : Cond.selects RX10 yX10_readText yX10_readText ∈ AL := AL_ofs 36 (by decide +kernel) (by decide +kernel)
set_option maxRecDepth 20000 in
theorem wd_1045 : Cond.code yX10_readText cX10_readText 2 (some .int) ∈ AL := AL_t5 (List.mem_of_getElem? (i := 85) rfl) rfl
theorem ml_X10_232 : MLv RX10 232 RX10 yX10_readText cX10_readText 2 (some .int) 0 := ⟨by decide +kernel, wd_1042, wd_1044, ws_36, wd_11, wd_1045⟩
set_option maxRecDepth 20000 in
theorem wd_1046 : Cond.methodLink RX10 164 yX10_nextToken ∈ AL := AL_t5 (List.mem_of_getElem? (i := 86) rfl) rfl
set_option maxRecDepth 20000 in
theorem wd_1048 : Cond.instanceMethod yX10_nextToken ∈ AL := AL_t5 (List.mem_of_getElem? (i := 88) rfl) rfl
theorem ws_37 : Cond.selects RX10 yX10_nextToken yX10_nextToken ∈ AL := AL_ofs 37 (by decide +kernel) (by decide +kernel)
set_option maxRecDepth 20000 in
theorem wd_1049 : Cond.code yX10_nextToken cX10_nextToken 3 none ∈ AL := AL_t5 (List.mem_of_getElem? (i := 89) rfl) rfl
theorem ml_X10_164 : MLv RX10 164 RX10 yX10_nextToken cX10_nextToken 3 none 0 := ⟨by decide +kernel, wd_1046, wd_1048, ws_37, wd_11, wd_1049⟩
set_option maxRecDepth 20000 in
theorem wd_1050 : Cond.methodLink RX10 101 yX10_byteAt ∈ AL := AL_t5 (List.mem_of_getElem? (i := 90) rfl) rfl
set_option maxRecDepth 20000 in
theorem wd_1052 : Cond.instanceMethod yX10_byteAt ∈ AL := AL_t5 (List.mem_of_getElem? (i := 92) rfl) rfl
theorem ws_38 : Cond.selects RX10 yX10_byteAt yX10_byteAt ∈ AL := AL_ofs 38 (by decide +kernel) (by decide +kernel)
set_option maxRecDepth 20000 in
theorem wd_1053 : Cond.code yX10_byteAt cX10_byteAt 2 (some .int) ∈ AL := AL_t5 (List.mem_of_getElem? (i := 93) rfl) rfl
theorem ml_X10_101 : MLv RX10 101 RX10 yX10_byteAt cX10_byteAt 2 (some .int) 1 := ⟨by decide +kernel, wd_1050, wd_1052, ws_38, wd_11, wd_1053⟩
set_option maxRecDepth 20000 in
theorem wd_1054 : Cond.methodLink RX10 110 yX10_isDigit ∈ AL := AL_t5 (List.mem_of_getElem? (i := 94) rfl) rfl
set_option maxRecDepth 20000 in
theorem wd_1055 : Cond.static yX10_isDigit ∈ AL := AL_t5 (List.mem_of_getElem? (i := 95) rfl) rfl
set_option maxRecDepth 20000 in
theorem wd_1056 : Cond.code yX10_isDigit cX10_isDigit 1 (some .boolean) ∈ AL := AL_t5 (List.mem_of_getElem? (i := 96) rfl) rfl
theorem ml_X10_110 : MLs RX10 110 yX10_isDigit cX10_isDigit 1 (some .boolean) 1 := ⟨by decide +kernel, wd_1054, wd_1055, wd_11, wd_1056⟩
set_option maxRecDepth 20000 in
theorem wd_1058 : Cond.methodLink RX10 118 yX10_isLetter ∈ AL := AL_t5 (List.mem_of_getElem? (i := 98) rfl) rfl
set_option maxRecDepth 20000 in
theorem wd_1059 : Cond.static yX10_isLetter ∈ AL := AL_t5 (List.mem_of_getElem? (i := 99) rfl) rfl
set_option maxRecDepth 20000 in
theorem wd_1060 : Cond.code yX10_isLetter cX10_isLetter 1 (some .boolean) ∈ AL := AL_t5 (List.mem_of_getElem? (i := 100) rfl) rfl
theorem ml_X10_118 : MLs RX10 118 yX10_isLetter cX10_isLetter 1 (some .boolean) 1 := ⟨by decide +kernel, wd_1058, wd_1059, wd_11, wd_1060⟩
set_option maxRecDepth 20000 in
theorem wd_1061 : Cond.methodLink RX10 229 yX10_clause ∈ AL := AL_t5 (List.mem_of_getElem? (i := 101) rfl) rfl
set_option maxRecDepth 20000 in
theorem wd_1063 : Cond.instanceMethod yX10_clause ∈ AL := AL_t5 (List.mem_of_getElem? (i := 103) rfl) rfl
theorem ws_39 : Cond.selects RX10 yX10_clause yX10_clause ∈ AL := AL_ofs 39 (by decide +kernel) (by decide +kernel)
set_option maxRecDepth 20000 in
theorem wd_1064 : Cond.code yX10_clause cX10_clause 6 (some .int) ∈ AL := AL_t5 (List.mem_of_getElem? (i := 104) rfl) rfl
theorem ml_X10_229 : MLv RX10 229 RX10 yX10_clause cX10_clause 6 (some .int) 0 := ⟨by decide +kernel, wd_1061, wd_1063, ws_39, wd_11, wd_1064⟩
set_option maxRecDepth 20000 in
theorem wd_1065 : Cond.methodLink RX10 217 yX10_sortOf ∈ AL := AL_t5 (List.mem_of_getElem? (i := 105) rfl) rfl
set_option maxRecDepth 20000 in
theorem wd_1067 : Cond.instanceMethod yX10_sortOf ∈ AL := AL_t5 (List.mem_of_getElem? (i := 107) rfl) rfl
theorem ws_40 : Cond.selects RX10 yX10_sortOf yX10_sortOf ∈ AL := AL_ofs 40 (by decide +kernel) (by decide +kernel)
set_option maxRecDepth 20000 in
theorem wd_1068 : Cond.code yX10_sortOf cX10_sortOf 1 (some .int) ∈ AL := AL_t5 (List.mem_of_getElem? (i := 108) rfl) rfl
theorem ml_X10_217 : MLv RX10 217 RX10 yX10_sortOf cX10_sortOf 1 (some .int) 0 := ⟨by decide +kernel, wd_1065, wd_1067, ws_40, wd_11, wd_1068⟩
set_option maxRecDepth 20000 in
theorem wd_1069 : Cond.methodLink RX10 129 yX10_w5 ∈ AL := AL_t5 (List.mem_of_getElem? (i := 109) rfl) rfl
set_option maxRecDepth 20000 in
theorem wd_1070 : Cond.static yX10_w5 ∈ AL := AL_t5 (List.mem_of_getElem? (i := 110) rfl) rfl
set_option maxRecDepth 20000 in
theorem wd_1071 : Cond.code yX10_w5 cX10_w5 5 (some .long) ∈ AL := AL_t5 (List.mem_of_getElem? (i := 111) rfl) rfl
theorem ml_X10_129 : MLs RX10 129 yX10_w5 cX10_w5 5 (some .long) 5 := ⟨by decide +kernel, wd_1069, wd_1070, wd_11, wd_1071⟩
set_option maxRecDepth 20000 in
theorem wd_1072 : Cond.methodLink RX10 125 yX10_w3 ∈ AL := AL_t5 (List.mem_of_getElem? (i := 112) rfl) rfl
set_option maxRecDepth 20000 in
theorem wd_1073 : Cond.static yX10_w3 ∈ AL := AL_t5 (List.mem_of_getElem? (i := 113) rfl) rfl
set_option maxRecDepth 20000 in
theorem wd_1074 : Cond.code yX10_w3 cX10_w3 3 (some .long) ∈ AL := AL_t5 (List.mem_of_getElem? (i := 114) rfl) rfl
theorem ml_X10_125 : MLs RX10 125 yX10_w3 cX10_w3 3 (some .long) 3 := ⟨by decide +kernel, wd_1072, wd_1073, wd_11, wd_1074⟩
set_option maxRecDepth 20000 in
theorem wd_1075 : Cond.methodLink RX10 196 yX10_isWord ∈ AL := AL_t5 (List.mem_of_getElem? (i := 115) rfl) rfl
set_option maxRecDepth 20000 in
theorem wd_1077 : Cond.instanceMethod yX10_isWord ∈ AL := AL_t5 (List.mem_of_getElem? (i := 117) rfl) rfl
theorem ws_41 : Cond.selects RX10 yX10_isWord yX10_isWord ∈ AL := AL_ofs 41 (by decide +kernel) (by decide +kernel)
set_option maxRecDepth 20000 in
theorem wd_1078 : Cond.code yX10_isWord cX10_isWord 3 (some .boolean) ∈ AL := AL_t5 (List.mem_of_getElem? (i := 118) rfl) rfl
theorem ml_X10_196 : MLv RX10 196 RX10 yX10_isWord cX10_isWord 3 (some .boolean) 1 := ⟨by decide +kernel, wd_1075, wd_1077, ws_41, wd_11, wd_1078⟩
set_option maxRecDepth 20000 in
theorem wd_1079 : Cond.methodLink RX10 153 yX10_w4 ∈ AL := AL_t5 (List.mem_of_getElem? (i := 119) rfl) rfl
set_option maxRecDepth 20000 in
theorem wd_1080 : Cond.static yX10_w4 ∈ AL := AL_t5 (List.mem_of_getElem? (i := 120) rfl) rfl
set_option maxRecDepth 20000 in
theorem wd_1081 : Cond.code yX10_w4 cX10_w4 4 (some .long) ∈ AL := AL_t5 (List.mem_of_getElem? (i := 121) rfl) rfl
theorem ml_X10_153 : MLs RX10 153 yX10_w4 cX10_w4 4 (some .long) 4 := ⟨by decide +kernel, wd_1079, wd_1080, wd_11, wd_1081⟩
set_option maxRecDepth 20000 in
theorem wd_1082 : Cond.methodLink RX10 223 yX10_laid ∈ AL := AL_t5 (List.mem_of_getElem? (i := 122) rfl) rfl
set_option maxRecDepth 20000 in
theorem wd_1084 : Cond.instanceMethod yX10_laid ∈ AL := AL_t5 (List.mem_of_getElem? (i := 124) rfl) rfl
theorem ws_42 : Cond.selects RX10 yX10_laid yX10_laid ∈ AL := AL_ofs 42 (by decide +kernel) (by decide +kernel)
set_option maxRecDepth 20000 in
theorem wd_1085 : Cond.code yX10_laid cX10_laid 3 (some .int) ∈ AL := AL_t5 (List.mem_of_getElem? (i := 125) rfl) rfl
theorem ml_X10_223 : MLv RX10 223 RX10 yX10_laid cX10_laid 3 (some .int) 1 := ⟨by decide +kernel, wd_1082, wd_1084, ws_42, wd_11, wd_1085⟩
set_option maxRecDepth 20000 in
theorem wd_1086 : Cond.methodLink RX10 211 yX10_figure ∈ AL := AL_t5 (List.mem_of_getElem? (i := 126) rfl) rfl
set_option maxRecDepth 20000 in
theorem wd_1088 : Cond.instanceMethod yX10_figure ∈ AL := AL_t5 (List.mem_of_getElem? (i := 128) rfl) rfl
theorem ws_43 : Cond.selects RX10 yX10_figure yX10_figure ∈ AL := AL_ofs 43 (by decide +kernel) (by decide +kernel)
set_option maxRecDepth 20000 in
theorem wd_1089 : Cond.code yX10_figure cX10_figure 3 (some .int) ∈ AL := AL_t5 (List.mem_of_getElem? (i := 129) rfl) rfl
theorem ml_X10_211 : MLv RX10 211 RX10 yX10_figure cX10_figure 3 (some .int) 2 := ⟨by decide +kernel, wd_1086, wd_1088, ws_43, wd_11, wd_1089⟩
set_option maxRecDepth 20000 in
theorem wd_1091 : Cond.methodLink RX10 200 yX10_summed ∈ AL := AL_t5 (List.mem_of_getElem? (i := 131) rfl) rfl
set_option maxRecDepth 20000 in
theorem wd_1093 : Cond.instanceMethod yX10_summed ∈ AL := AL_t5 (List.mem_of_getElem? (i := 133) rfl) rfl
theorem ws_44 : Cond.selects RX10 yX10_summed yX10_summed ∈ AL := AL_ofs 44 (by decide +kernel) (by decide +kernel)
set_option maxRecDepth 20000 in
theorem wd_1094 : Cond.code yX10_summed cX10_summed 2 (some .int) ∈ AL := AL_t5 (List.mem_of_getElem? (i := 134) rfl) rfl
theorem ml_X10_200 : MLv RX10 200 RX10 yX10_summed cX10_summed 2 (some .int) 0 := ⟨by decide +kernel, wd_1091, wd_1093, ws_44, wd_11, wd_1094⟩
set_option maxRecDepth 20000 in
theorem wd_1095 : Cond.methodLink RX10 187 yX10_goesOn ∈ AL := AL_t5 (List.mem_of_getElem? (i := 135) rfl) rfl
set_option maxRecDepth 20000 in
theorem wd_1097 : Cond.instanceMethod yX10_goesOn ∈ AL := AL_t5 (List.mem_of_getElem? (i := 137) rfl) rfl
theorem ws_45 : Cond.selects RX10 yX10_goesOn yX10_goesOn ∈ AL := AL_ofs 45 (by decide +kernel) (by decide +kernel)
set_option maxRecDepth 20000 in
theorem wd_1098 : Cond.code yX10_goesOn cX10_goesOn 1 (some .boolean) ∈ AL := AL_t5 (List.mem_of_getElem? (i := 138) rfl) rfl
theorem ml_X10_187 : MLv RX10 187 RX10 yX10_goesOn cX10_goesOn 1 (some .boolean) 0 := ⟨by decide +kernel, wd_1095, wd_1097, ws_45, wd_11, wd_1098⟩
set_option maxRecDepth 20000 in
theorem wd_1099 : Cond.methodLink RX10 180 yX10_hasParen ∈ AL := AL_t5 (List.mem_of_getElem? (i := 139) rfl) rfl
set_option maxRecDepth 20000 in
theorem wd_1101 : Cond.instanceMethod yX10_hasParen ∈ AL := AL_t5 (List.mem_of_getElem? (i := 141) rfl) rfl
theorem ws_46 : Cond.selects RX10 yX10_hasParen yX10_hasParen ∈ AL := AL_ofs 46 (by decide +kernel) (by decide +kernel)
set_option maxRecDepth 20000 in
theorem wd_1102 : Cond.code yX10_hasParen cX10_hasParen 2 (some .boolean) ∈ AL := AL_t5 (List.mem_of_getElem? (i := 142) rfl) rfl
theorem ml_X10_180 : MLv RX10 180 RX10 yX10_hasParen cX10_hasParen 2 (some .boolean) 0 := ⟨by decide +kernel, wd_1099, wd_1101, ws_46, wd_11, wd_1102⟩
set_option maxRecDepth 20000 in
theorem wd_1103 : Cond.methodLink RX10 190 yX10_behindOne ∈ AL := AL_t5 (List.mem_of_getElem? (i := 143) rfl) rfl
set_option maxRecDepth 20000 in
theorem wd_1105 : Cond.instanceMethod yX10_behindOne ∈ AL := AL_t5 (List.mem_of_getElem? (i := 145) rfl) rfl
theorem ws_47 : Cond.selects RX10 yX10_behindOne yX10_behindOne ∈ AL := AL_ofs 47 (by decide +kernel) (by decide +kernel)
set_option maxRecDepth 20000 in
theorem wd_1106 : Cond.code yX10_behindOne cX10_behindOne 2 (some .int) ∈ AL := AL_t5 (List.mem_of_getElem? (i := 146) rfl) rfl
theorem ml_X10_190 : MLv RX10 190 RX10 yX10_behindOne cX10_behindOne 2 (some .int) 0 := ⟨by decide +kernel, wd_1103, wd_1105, ws_47, wd_11, wd_1106⟩
set_option maxRecDepth 20000 in
theorem wd_1107 : Cond.methodLink RX10 184 yX10_settle ∈ AL := AL_t5 (List.mem_of_getElem? (i := 147) rfl) rfl
set_option maxRecDepth 20000 in
theorem wd_1109 : Cond.instanceMethod yX10_settle ∈ AL := AL_t5 (List.mem_of_getElem? (i := 149) rfl) rfl
theorem ws_48 : Cond.selects RX10 yX10_settle yX10_settle ∈ AL := AL_ofs 48 (by decide +kernel) (by decide +kernel)
set_option maxRecDepth 20000 in
theorem wd_1110 : Cond.code yX10_settle cX10_settle 2 none ∈ AL := AL_t5 (List.mem_of_getElem? (i := 150) rfl) rfl
theorem ml_X10_184 : MLv RX10 184 RX10 yX10_settle cX10_settle 2 none 1 := ⟨by decide +kernel, wd_1107, wd_1109, ws_48, wd_11, wd_1110⟩
set_option maxRecDepth 20000 in
theorem wd_1111 : Cond.methodLink RX10 149 yX10_emit ∈ AL := AL_t5 (List.mem_of_getElem? (i := 151) rfl) rfl
set_option maxRecDepth 20000 in
theorem wd_1113 : Cond.instanceMethod yX10_emit ∈ AL := AL_t5 (List.mem_of_getElem? (i := 153) rfl) rfl
theorem ws_49 : Cond.selects RX10 yX10_emit yX10_emit ∈ AL := AL_ofs 49 (by decide +kernel) (by decide +kernel)
set_option maxRecDepth 20000 in
theorem wd_1114 : Cond.code yX10_emit cX10_emit 3 none ∈ AL := AL_t5 (List.mem_of_getElem? (i := 154) rfl) rfl
theorem ml_X10_149 : MLv RX10 149 RX10 yX10_emit cX10_emit 3 none 2 := ⟨by decide +kernel, wd_1111, wd_1113, ws_49, wd_11, wd_1114⟩
set_option maxRecDepth 20000 in
theorem wd_1115 : Cond.methodLink RX10 177 yX10_push ∈ AL := AL_t5 (List.mem_of_getElem? (i := 155) rfl) rfl
set_option maxRecDepth 20000 in
theorem wd_1117 : Cond.instanceMethod yX10_push ∈ AL := AL_t5 (List.mem_of_getElem? (i := 157) rfl) rfl
theorem ws_50 : Cond.selects RX10 yX10_push yX10_push ∈ AL := AL_ofs 50 (by decide +kernel) (by decide +kernel)
set_option maxRecDepth 20000 in
theorem wd_1118 : Cond.code yX10_push cX10_push 2 none ∈ AL := AL_t5 (List.mem_of_getElem? (i := 158) rfl) rfl
theorem ml_X10_177 : MLv RX10 177 RX10 yX10_push cX10_push 2 none 1 := ⟨by decide +kernel, wd_1115, wd_1117, ws_50, wd_11, wd_1118⟩
set_option maxRecDepth 20000 in
theorem wd_1119 : Cond.methodLink RX10 167 yX10_whole ∈ AL := AL_t5 (List.mem_of_getElem? (i := 159) rfl) rfl
set_option maxRecDepth 20000 in
theorem wd_1121 : Cond.instanceMethod yX10_whole ∈ AL := AL_t5 (List.mem_of_getElem? (i := 161) rfl) rfl
theorem ws_51 : Cond.selects RX10 yX10_whole yX10_whole ∈ AL := AL_ofs 51 (by decide +kernel) (by decide +kernel)
set_option maxRecDepth 20000 in
theorem wd_1122 : Cond.code yX10_whole cX10_whole 1 none ∈ AL := AL_t5 (List.mem_of_getElem? (i := 162) rfl) rfl
theorem ml_X10_167 : MLv RX10 167 RX10 yX10_whole cX10_whole 1 none 0 := ⟨by decide +kernel, wd_1119, wd_1121, ws_51, wd_11, wd_1122⟩
set_option maxRecDepth 20000 in
theorem wd_1123 : Cond.methodLink RX10 193 yX10_beginOne ∈ AL := AL_t5 (List.mem_of_getElem? (i := 163) rfl) rfl
set_option maxRecDepth 20000 in
theorem wd_1125 : Cond.instanceMethod yX10_beginOne ∈ AL := AL_t5 (List.mem_of_getElem? (i := 165) rfl) rfl
theorem ws_52 : Cond.selects RX10 yX10_beginOne yX10_beginOne ∈ AL := AL_ofs 52 (by decide +kernel) (by decide +kernel)
set_option maxRecDepth 20000 in
theorem wd_1126 : Cond.code yX10_beginOne cX10_beginOne 2 (some .int) ∈ AL := AL_t5 (List.mem_of_getElem? (i := 166) rfl) rfl
theorem ml_X10_193 : MLv RX10 193 RX10 yX10_beginOne cX10_beginOne 2 (some .int) 0 := ⟨by decide +kernel, wd_1123, wd_1125, ws_52, wd_11, wd_1126⟩
set_option maxRecDepth 20000 in
theorem wd_1127 : Cond.methodLink RX10 170 yX10_nameOf ∈ AL := AL_t5 (List.mem_of_getElem? (i := 167) rfl) rfl
set_option maxRecDepth 20000 in
theorem wd_1129 : Cond.instanceMethod yX10_nameOf ∈ AL := AL_t5 (List.mem_of_getElem? (i := 169) rfl) rfl
theorem ws_53 : Cond.selects RX10 yX10_nameOf yX10_nameOf ∈ AL := AL_ofs 53 (by decide +kernel) (by decide +kernel)
set_option maxRecDepth 20000 in
theorem wd_1130 : Cond.code yX10_nameOf cX10_nameOf 1 (some .int) ∈ AL := AL_t5 (List.mem_of_getElem? (i := 170) rfl) rfl
theorem ml_X10_170 : MLv RX10 170 RX10 yX10_nameOf cX10_nameOf 1 (some .int) 0 := ⟨by decide +kernel, wd_1127, wd_1129, ws_53, wd_11, wd_1130⟩
set_option maxRecDepth 20000 in
theorem wd_1131 : Cond.methodLink RX10 157 yX10_w6 ∈ AL := AL_t5 (List.mem_of_getElem? (i := 171) rfl) rfl
set_option maxRecDepth 20000 in
theorem wd_1132 : Cond.static yX10_w6 ∈ AL := AL_t5 (List.mem_of_getElem? (i := 172) rfl) rfl
set_option maxRecDepth 20000 in
theorem wd_1133 : Cond.code yX10_w6 cX10_w6 6 (some .long) ∈ AL := AL_t5 (List.mem_of_getElem? (i := 173) rfl) rfl
theorem ml_X10_157 : MLs RX10 157 yX10_w6 cX10_w6 6 (some .long) 6 := ⟨by decide +kernel, wd_1131, wd_1132, wd_11, wd_1133⟩
set_option maxRecDepth 20000 in
theorem wd_1134 : Cond.methodLink RX10 174 yX10_isBarred ∈ AL := AL_t5 (List.mem_of_getElem? (i := 174) rfl) rfl
set_option maxRecDepth 20000 in
theorem wd_1136 : Cond.instanceMethod yX10_isBarred ∈ AL := AL_t5 (List.mem_of_getElem? (i := 176) rfl) rfl
theorem ws_54 : Cond.selects RX10 yX10_isBarred yX10_isBarred ∈ AL := AL_ofs 54 (by decide +kernel) (by decide +kernel)
set_option maxRecDepth 20000 in
theorem wd_1137 : Cond.code yX10_isBarred cX10_isBarred 2 (some .boolean) ∈ AL := AL_t5 (List.mem_of_getElem? (i := 177) rfl) rfl
theorem ml_X10_174 : MLv RX10 174 RX10 yX10_isBarred cX10_isBarred 2 (some .boolean) 1 := ⟨by decide +kernel, wd_1134, wd_1136, ws_54, wd_11, wd_1137⟩
set_option maxRecDepth 20000 in
theorem wd_1138 : Cond.methodLink RX10 226 yX10_either ∈ AL := AL_t5 (List.mem_of_getElem? (i := 178) rfl) rfl
set_option maxRecDepth 20000 in
theorem wd_1140 : Cond.instanceMethod yX10_either ∈ AL := AL_t5 (List.mem_of_getElem? (i := 180) rfl) rfl
theorem ws_55 : Cond.selects RX10 yX10_either yX10_either ∈ AL := AL_ofs 55 (by decide +kernel) (by decide +kernel)
set_option maxRecDepth 20000 in
theorem wd_1141 : Cond.code yX10_either cX10_either 6 (some .int) ∈ AL := AL_t5 (List.mem_of_getElem? (i := 181) rfl) rfl
theorem ml_X10_226 : MLv RX10 226 RX10 yX10_either cX10_either 6 (some .int) 0 := ⟨by decide +kernel, wd_1138, wd_1140, ws_55, wd_11, wd_1141⟩
set_option maxRecDepth 20000 in
theorem wd_1142 : Cond.methodLink RX10 206 yX10_asks ∈ AL := AL_t5 (List.mem_of_getElem? (i := 182) rfl) rfl
set_option maxRecDepth 20000 in
theorem wd_1144 : Cond.instanceMethod yX10_asks ∈ AL := AL_t5 (List.mem_of_getElem? (i := 184) rfl) rfl
theorem ws_56 : Cond.selects RX10 yX10_asks yX10_asks ∈ AL := AL_ofs 56 (by decide +kernel) (by decide +kernel)
set_option maxRecDepth 20000 in
theorem wd_1145 : Cond.code yX10_asks cX10_asks 5 (some .int) ∈ AL := AL_t5 (List.mem_of_getElem? (i := 185) rfl) rfl
theorem ml_X10_206 : MLv RX10 206 RX10 yX10_asks cX10_asks 5 (some .int) 0 := ⟨by decide +kernel, wd_1142, wd_1144, ws_56, wd_11, wd_1145⟩
set_option maxRecDepth 20000 in
theorem wd_1146 : Cond.methodLink RX10 203 yX10_compareOf ∈ AL := AL_t5 (List.mem_of_getElem? (i := 186) rfl) rfl
set_option maxRecDepth 20000 in
theorem wd_1148 : Cond.instanceMethod yX10_compareOf ∈ AL := AL_t5 (List.mem_of_getElem? (i := 188) rfl) rfl
theorem ws_57 : Cond.selects RX10 yX10_compareOf yX10_compareOf ∈ AL := AL_ofs 57 (by decide +kernel) (by decide +kernel)
set_option maxRecDepth 20000 in
theorem wd_1149 : Cond.code yX10_compareOf cX10_compareOf 1 (some .int) ∈ AL := AL_t5 (List.mem_of_getElem? (i := 189) rfl) rfl
theorem ml_X10_203 : MLv RX10 203 RX10 yX10_compareOf cX10_compareOf 1 (some .int) 0 := ⟨by decide +kernel, wd_1146, wd_1148, ws_57, wd_11, wd_1149⟩
set_option maxRecDepth 20000 in
theorem wd_1151 : Cond.methodLink RL 45 yX10_fault ∈ AL := AL_t5 (List.mem_of_getElem? (i := 191) rfl) rfl
set_option maxRecDepth 20000 in
theorem wd_1152 : Cond.instanceMethod yX10_fault ∈ AL := AL_t5 (List.mem_of_getElem? (i := 192) rfl) rfl
set_option maxRecDepth 20000 in
theorem wd_1153 : Cond.selects RX10 yX10_fault yX10_fault ∈ AL := AL_t5 (List.mem_of_getElem? (i := 193) rfl) rfl
set_option maxRecDepth 20000 in
theorem wd_1154 : Cond.code yX10_fault cX10_fault 2 (some .int) ∈ AL := AL_t5 (List.mem_of_getElem? (i := 194) rfl) rfl
theorem ml_L_45 : MLv RL 45 RX10 yX10_fault cX10_fault 2 (some .int) 1 := ⟨by decide +kernel, wd_1151, wd_1152, wd_1153, wd_11, wd_1154⟩
set_option maxRecDepth 20000 in
theorem wd_1155 : Cond.methodLink RL 50 yX10_by ∈ AL := AL_t5 (List.mem_of_getElem? (i := 195) rfl) rfl
set_option maxRecDepth 20000 in
theorem wd_1156 : Cond.instanceMethod yX10_by ∈ AL := AL_t5 (List.mem_of_getElem? (i := 196) rfl) rfl
set_option maxRecDepth 20000 in
theorem wd_1157 : Cond.selects RX10 yX10_by yX10_by ∈ AL := AL_t5 (List.mem_of_getElem? (i := 197) rfl) rfl
set_option maxRecDepth 20000 in
theorem wd_1158 : Cond.code yX10_by cX10_by 2 (some .boolean) ∈ AL := AL_t5 (List.mem_of_getElem? (i := 198) rfl) rfl
theorem ml_L_50 : MLv RL 50 RX10 yX10_by cX10_by 2 (some .boolean) 1 := ⟨by decide +kernel, wd_1155, wd_1156, wd_1157, wd_11, wd_1158⟩
set_option maxRecDepth 20000 in
theorem wd_1159 : Cond.methodLink RL 74 yX10_of ∈ AL := AL_t5 (List.mem_of_getElem? (i := 199) rfl) rfl
set_option maxRecDepth 20000 in
theorem wd_1160 : Cond.instanceMethod yX10_of ∈ AL := AL_t5 (List.mem_of_getElem? (i := 200) rfl) rfl
set_option maxRecDepth 20000 in
theorem wd_1161 : Cond.selects RX10 yX10_of yX10_of ∈ AL := AL_t5 (List.mem_of_getElem? (i := 201) rfl) rfl
set_option maxRecDepth 20000 in
theorem wd_1162 : Cond.code yX10_of cX10_of 3 (some .int) ∈ AL := AL_t5 (List.mem_of_getElem? (i := 202) rfl) rfl
theorem ml_L_74 : MLv RL 74 RX10 yX10_of cX10_of 3 (some .int) 2 := ⟨by decide +kernel, wd_1159, wd_1160, wd_1161, wd_11, wd_1162⟩
set_option maxRecDepth 20000 in
theorem wd_1163 : Cond.methodLink RX10 290 yX10_isThing ∈ AL := AL_t5 (List.mem_of_getElem? (i := 203) rfl) rfl
set_option maxRecDepth 20000 in
theorem wd_1165 : Cond.instanceMethod yX10_isThing ∈ AL := AL_t5 (List.mem_of_getElem? (i := 205) rfl) rfl
theorem ws_58 : Cond.selects RX10 yX10_isThing yX10_isThing ∈ AL := AL_ofs 58 (by decide +kernel) (by decide +kernel)
set_option maxRecDepth 20000 in
theorem wd_1166 : Cond.code yX10_isThing cX10_isThing 2 (some .boolean) ∈ AL := AL_t5 (List.mem_of_getElem? (i := 206) rfl) rfl
theorem ml_X10_290 : MLv RX10 290 RX10 yX10_isThing cX10_isThing 2 (some .boolean) 1 := ⟨by decide +kernel, wd_1163, wd_1165, ws_58, wd_11, wd_1166⟩
set_option maxRecDepth 20000 in
theorem wd_1167 : Cond.methodLink RX10 280 yX10_nameNow ∈ AL := AL_t5 (List.mem_of_getElem? (i := 207) rfl) rfl
set_option maxRecDepth 20000 in
theorem wd_1169 : Cond.instanceMethod yX10_nameNow ∈ AL := AL_t5 (List.mem_of_getElem? (i := 209) rfl) rfl
theorem ws_59 : Cond.selects RX10 yX10_nameNow yX10_nameNow ∈ AL := AL_ofs 59 (by decide +kernel) (by decide +kernel)
set_option maxRecDepth 20000 in
theorem wd_1170 : Cond.code yX10_nameNow cX10_nameNow 1 none ∈ AL := AL_t5 (List.mem_of_getElem? (i := 210) rfl) rfl
theorem ml_X10_280 : MLv RX10 280 RX10 yX10_nameNow cX10_nameNow 1 none 0 := ⟨by decide +kernel, wd_1167, wd_1169, ws_59, wd_11, wd_1170⟩
set_option maxRecDepth 20000 in
theorem wd_1171 : Cond.methodLink RX10 264 yX10_name ∈ AL := AL_t5 (List.mem_of_getElem? (i := 211) rfl) rfl
set_option maxRecDepth 20000 in
theorem wd_1173 : Cond.instanceMethod yX10_name ∈ AL := AL_t5 (List.mem_of_getElem? (i := 213) rfl) rfl
theorem ws_60 : Cond.selects RX10 yX10_name yX10_name ∈ AL := AL_ofs 60 (by decide +kernel) (by decide +kernel)
set_option maxRecDepth 20000 in
theorem wd_1174 : Cond.code yX10_name cX10_name 4 none ∈ AL := AL_t5 (List.mem_of_getElem? (i := 214) rfl) rfl
theorem ml_X10_264 : MLv RX10 264 RX10 yX10_name cX10_name 4 none 3 := ⟨by decide +kernel, wd_1171, wd_1173, ws_60, wd_11, wd_1174⟩
set_option maxRecDepth 20000 in
theorem wd_1175 : Cond.methodLink RX10 271 yX10_bears ∈ AL := AL_t5 (List.mem_of_getElem? (i := 215) rfl) rfl
set_option maxRecDepth 20000 in
theorem wd_1177 : Cond.instanceMethod yX10_bears ∈ AL := AL_t5 (List.mem_of_getElem? (i := 217) rfl) rfl
theorem ws_61 : Cond.selects RX10 yX10_bears yX10_bears ∈ AL := AL_ofs 61 (by decide +kernel) (by decide +kernel)
set_option maxRecDepth 20000 in
theorem wd_1178 : Cond.code yX10_bears cX10_bears 3 (some .int) ∈ AL := AL_t5 (List.mem_of_getElem? (i := 218) rfl) rfl
theorem ml_X10_271 : MLv RX10 271 RX10 yX10_bears cX10_bears 3 (some .int) 2 := ⟨by decide +kernel, wd_1175, wd_1177, ws_61, wd_11, wd_1178⟩
set_option maxRecDepth 20000 in
theorem wd_1179 : Cond.methodLink RX10 261 yX10_borne ∈ AL := AL_t5 (List.mem_of_getElem? (i := 219) rfl) rfl
set_option maxRecDepth 20000 in
theorem wd_1181 : Cond.instanceMethod yX10_borne ∈ AL := AL_t5 (List.mem_of_getElem? (i := 221) rfl) rfl
theorem ws_62 : Cond.selects RX10 yX10_borne yX10_borne ∈ AL := AL_ofs 62 (by decide +kernel) (by decide +kernel)
set_option maxRecDepth 20000 in
theorem wd_1182 : Cond.code yX10_borne cX10_borne 6 (some .int) ∈ AL := AL_t5 (List.mem_of_getElem? (i := 222) rfl) rfl
theorem ml_X10_261 : MLv RX10 261 RX10 yX10_borne cX10_borne 6 (some .int) 4 := ⟨by decide +kernel, wd_1179, wd_1181, ws_62, wd_11, wd_1182⟩
set_option maxRecDepth 20000 in
theorem wd_1183 : Cond.methodLink RX10 251 yX10_clauseOf ∈ AL := AL_t5 (List.mem_of_getElem? (i := 223) rfl) rfl
set_option maxRecDepth 20000 in
theorem wd_1185 : Cond.instanceMethod yX10_clauseOf ∈ AL := AL_t5 (List.mem_of_getElem? (i := 225) rfl) rfl
theorem ws_63 : Cond.selects RX10 yX10_clauseOf yX10_clauseOf ∈ AL := AL_ofs 63 (by decide +kernel) (by decide +kernel)
set_option maxRecDepth 20000 in
theorem wd_1186 : Cond.code yX10_clauseOf cX10_clauseOf 3 (some .int) ∈ AL := AL_t5 (List.mem_of_getElem? (i := 226) rfl) rfl
theorem ml_X10_251 : MLv RX10 251 RX10 yX10_clauseOf cX10_clauseOf 3 (some .int) 1 := ⟨by decide +kernel, wd_1183, wd_1185, ws_63, wd_11, wd_1186⟩
set_option maxRecDepth 20000 in
theorem wd_1187 : Cond.methodLink RX10 254 yX10_work ∈ AL := AL_t5 (List.mem_of_getElem? (i := 227) rfl) rfl
set_option maxRecDepth 20000 in
theorem wd_1189 : Cond.instanceMethod yX10_work ∈ AL := AL_t5 (List.mem_of_getElem? (i := 229) rfl) rfl
theorem ws_64 : Cond.selects RX10 yX10_work yX10_work ∈ AL := AL_ofs 64 (by decide +kernel) (by decide +kernel)
set_option maxRecDepth 20000 in
theorem wd_1190 : Cond.code yX10_work cX10_work 9 none ∈ AL := AL_t5 (List.mem_of_getElem? (i := 230) rfl) rfl
theorem ml_X10_254 : MLv RX10 254 RX10 yX10_work cX10_work 9 none 1 := ⟨by decide +kernel, wd_1187, wd_1189, ws_64, wd_11, wd_1190⟩
set_option maxRecDepth 20000 in
theorem wd_1191 : Cond.methodLink RX10 243 yX10_two ∈ AL := AL_t5 (List.mem_of_getElem? (i := 231) rfl) rfl
set_option maxRecDepth 20000 in
theorem wd_1192 : Cond.static yX10_two ∈ AL := AL_t5 (List.mem_of_getElem? (i := 232) rfl) rfl
set_option maxRecDepth 20000 in
theorem wd_1193 : Cond.code yX10_two cX10_two 5 (some .long) ∈ AL := AL_t5 (List.mem_of_getElem? (i := 233) rfl) rfl
theorem ml_X10_243 : MLs RX10 243 yX10_two cX10_two 5 (some .long) 3 := ⟨by decide +kernel, wd_1191, wd_1192, wd_11, wd_1193⟩
set_option maxRecDepth 20000 in
theorem wd_1194 : Cond.methodLink RX10 239 yX10_clip ∈ AL := AL_t5 (List.mem_of_getElem? (i := 234) rfl) rfl
set_option maxRecDepth 20000 in
theorem wd_1195 : Cond.static yX10_clip ∈ AL := AL_t5 (List.mem_of_getElem? (i := 235) rfl) rfl
set_option maxRecDepth 20000 in
theorem wd_1196 : Cond.code yX10_clip cX10_clip 2 (some .long) ∈ AL := AL_t5 (List.mem_of_getElem? (i := 236) rfl) rfl
theorem ml_X10_239 : MLs RX10 239 yX10_clip cX10_clip 2 (some .long) 1 := ⟨by decide +kernel, wd_1194, wd_1195, wd_11, wd_1196⟩
set_option maxRecDepth 20000 in
theorem wd_1199 : Cond.methodLink RX10 247 yX10_isAsked ∈ AL := AL_t5 (List.mem_of_getElem? (i := 239) rfl) rfl
set_option maxRecDepth 20000 in
theorem wd_1200 : Cond.static yX10_isAsked ∈ AL := AL_t6 (List.mem_of_getElem? (i := 0) rfl) rfl
set_option maxRecDepth 20000 in
theorem wd_1201 : Cond.code yX10_isAsked cX10_isAsked 5 (some .boolean) ∈ AL := AL_t6 (List.mem_of_getElem? (i := 1) rfl) rfl
theorem ml_X10_247 : MLs RX10 247 yX10_isAsked cX10_isAsked 5 (some .boolean) 3 := ⟨by decide +kernel, wd_1199, wd_1200, wd_11, wd_1201⟩
set_option maxRecDepth 20000 in
theorem wd_1202 : Cond.methodLink RX10 257 yX10_held ∈ AL := AL_t6 (List.mem_of_getElem? (i := 2) rfl) rfl
set_option maxRecDepth 20000 in
theorem wd_1203 : Cond.static yX10_held ∈ AL := AL_t6 (List.mem_of_getElem? (i := 3) rfl) rfl
set_option maxRecDepth 20000 in
theorem wd_1204 : Cond.code yX10_held cX10_held 4 (some .int) ∈ AL := AL_t6 (List.mem_of_getElem? (i := 4) rfl) rfl
theorem ml_X10_257 : MLs RX10 257 yX10_held cX10_held 4 (some .int) 3 := ⟨by decide +kernel, wd_1202, wd_1203, wd_11, wd_1204⟩
set_option maxRecDepth 20000 in
theorem wd_1205 : Cond.methodLink RL 78 yX10_now ∈ AL := AL_t6 (List.mem_of_getElem? (i := 5) rfl) rfl
set_option maxRecDepth 20000 in
theorem wd_1206 : Cond.instanceMethod yX10_now ∈ AL := AL_t6 (List.mem_of_getElem? (i := 6) rfl) rfl
set_option maxRecDepth 20000 in
theorem wd_1207 : Cond.selects RX10 yX10_now yX10_now ∈ AL := AL_t6 (List.mem_of_getElem? (i := 7) rfl) rfl
set_option maxRecDepth 20000 in
theorem wd_1208 : Cond.code yX10_now cX10_now 4 (some .int) ∈ AL := AL_t6 (List.mem_of_getElem? (i := 8) rfl) rfl
theorem ml_L_78 : MLv RL 78 RX10 yX10_now cX10_now 4 (some .int) 1 := ⟨by decide +kernel, wd_1205, wd_1206, wd_1207, wd_11, wd_1208⟩
set_option maxRecDepth 20000 in
theorem wd_1209 : Cond.methodLink RX10 283 yX10_load ∈ AL := AL_t6 (List.mem_of_getElem? (i := 9) rfl) rfl
set_option maxRecDepth 20000 in
theorem wd_1211 : Cond.instanceMethod yX10_load ∈ AL := AL_t6 (List.mem_of_getElem? (i := 11) rfl) rfl
theorem ws_65 : Cond.selects RX10 yX10_load yX10_load ∈ AL := AL_ofs 65 (by decide +kernel) (by decide +kernel)
set_option maxRecDepth 20000 in
theorem wd_1212 : Cond.code yX10_load cX10_load 4 (some .int) ∈ AL := AL_t6 (List.mem_of_getElem? (i := 12) rfl) rfl
theorem ml_X10_283 : MLv RX10 283 RX10 yX10_load cX10_load 4 (some .int) 1 := ⟨by decide +kernel, wd_1209, wd_1211, ws_65, wd_11, wd_1212⟩
set_option maxRecDepth 20000 in
theorem wd_1213 : Cond.methodLink RX10 268 yX10_panOf ∈ AL := AL_t6 (List.mem_of_getElem? (i := 13) rfl) rfl
set_option maxRecDepth 20000 in
theorem wd_1215 : Cond.instanceMethod yX10_panOf ∈ AL := AL_t6 (List.mem_of_getElem? (i := 15) rfl) rfl
theorem ws_66 : Cond.selects RX10 yX10_panOf yX10_panOf ∈ AL := AL_ofs 66 (by decide +kernel) (by decide +kernel)
set_option maxRecDepth 20000 in
theorem wd_1216 : Cond.code yX10_panOf cX10_panOf 2 (some .int) ∈ AL := AL_t6 (List.mem_of_getElem? (i := 16) rfl) rfl
theorem ml_X10_268 : MLv RX10 268 RX10 yX10_panOf cX10_panOf 2 (some .int) 1 := ⟨by decide +kernel, wd_1213, wd_1215, ws_66, wd_11, wd_1216⟩
set_option maxRecDepth 20000 in
theorem wd_1217 : Cond.methodLink RX10 277 yX10_moment ∈ AL := AL_t6 (List.mem_of_getElem? (i := 17) rfl) rfl
set_option maxRecDepth 20000 in
theorem wd_1219 : Cond.instanceMethod yX10_moment ∈ AL := AL_t6 (List.mem_of_getElem? (i := 19) rfl) rfl
theorem ws_67 : Cond.selects RX10 yX10_moment yX10_moment ∈ AL := AL_ofs 67 (by decide +kernel) (by decide +kernel)
set_option maxRecDepth 20000 in
theorem wd_1220 : Cond.code yX10_moment cX10_moment 3 (some .int) ∈ AL := AL_t6 (List.mem_of_getElem? (i := 20) rfl) rfl
theorem ml_X10_277 : MLv RX10 277 RX10 yX10_moment cX10_moment 3 (some .int) 2 := ⟨by decide +kernel, wd_1217, wd_1219, ws_67, wd_11, wd_1220⟩
set_option maxRecDepth 20000 in
theorem wd_1221 : Cond.methodLink RX10 293 yX10_beamBy ∈ AL := AL_t6 (List.mem_of_getElem? (i := 21) rfl) rfl
set_option maxRecDepth 20000 in
theorem wd_1222 : Cond.static yX10_beamBy ∈ AL := AL_t6 (List.mem_of_getElem? (i := 22) rfl) rfl
set_option maxRecDepth 20000 in
theorem wd_1223 : Cond.code yX10_beamBy cX10_beamBy 2 (some .int) ∈ AL := AL_t6 (List.mem_of_getElem? (i := 23) rfl) rfl
theorem ml_X10_293 : MLs RX10 293 yX10_beamBy cX10_beamBy 2 (some .int) 2 := ⟨by decide +kernel, wd_1221, wd_1222, wd_11, wd_1223⟩
set_option maxRecDepth 20000 in
theorem wd_1224 : Cond.methodLink RX10 274 yX10_without ∈ AL := AL_t6 (List.mem_of_getElem? (i := 24) rfl) rfl
set_option maxRecDepth 20000 in
theorem wd_1225 : Cond.static yX10_without ∈ AL := AL_t6 (List.mem_of_getElem? (i := 25) rfl) rfl
set_option maxRecDepth 20000 in
theorem wd_1226 : Cond.code yX10_without cX10_without 1 (some .int) ∈ AL := AL_t6 (List.mem_of_getElem? (i := 26) rfl) rfl
theorem ml_X10_274 : MLs RX10 274 yX10_without cX10_without 1 (some .int) 1 := ⟨by decide +kernel, wd_1224, wd_1225, wd_11, wd_1226⟩
set_option maxRecDepth 20000 in
theorem wd_1227 : Cond.methodLink RX10 286 yX10_isSafe ∈ AL := AL_t6 (List.mem_of_getElem? (i := 27) rfl) rfl
set_option maxRecDepth 20000 in
theorem wd_1229 : Cond.instanceMethod yX10_isSafe ∈ AL := AL_t6 (List.mem_of_getElem? (i := 29) rfl) rfl
theorem ws_68 : Cond.selects RX10 yX10_isSafe yX10_isSafe ∈ AL := AL_ofs 68 (by decide +kernel) (by decide +kernel)
set_option maxRecDepth 20000 in
theorem wd_1230 : Cond.code yX10_isSafe cX10_isSafe 4 (some .boolean) ∈ AL := AL_t6 (List.mem_of_getElem? (i := 30) rfl) rfl
theorem ml_X10_286 : MLv RX10 286 RX10 yX10_isSafe cX10_isSafe 4 (some .boolean) 2 := ⟨by decide +kernel, wd_1227, wd_1229, ws_68, wd_11, wd_1230⟩
set_option maxRecDepth 20000 in
theorem wd_1232 : Cond.methodLink RL 70 yX10_undo ∈ AL := AL_t6 (List.mem_of_getElem? (i := 32) rfl) rfl
set_option maxRecDepth 20000 in
theorem wd_1233 : Cond.instanceMethod yX10_undo ∈ AL := AL_t6 (List.mem_of_getElem? (i := 33) rfl) rfl
set_option maxRecDepth 20000 in
theorem wd_1234 : Cond.selects RX10 yX10_undo yX10_undo ∈ AL := AL_t6 (List.mem_of_getElem? (i := 34) rfl) rfl
set_option maxRecDepth 20000 in
theorem wd_1235 : Cond.code yX10_undo cX10_undo 3 (some .int) ∈ AL := AL_t6 (List.mem_of_getElem? (i := 35) rfl) rfl
theorem ml_L_70 : MLv RL 70 RX10 yX10_undo cX10_undo 3 (some .int) 0 := ⟨by decide +kernel, wd_1232, wd_1233, wd_1234, wd_11, wd_1235⟩
set_option maxRecDepth 20000 in
theorem wd_1236 : Cond.methodLink RL 54 yX10_put ∈ AL := AL_t6 (List.mem_of_getElem? (i := 36) rfl) rfl
set_option maxRecDepth 20000 in
theorem wd_1237 : Cond.instanceMethod yX10_put ∈ AL := AL_t6 (List.mem_of_getElem? (i := 37) rfl) rfl
set_option maxRecDepth 20000 in
theorem wd_1238 : Cond.selects RX10 yX10_put yX10_put ∈ AL := AL_t6 (List.mem_of_getElem? (i := 38) rfl) rfl
set_option maxRecDepth 20000 in
theorem wd_1239 : Cond.code yX10_put cX10_put 3 (some .int) ∈ AL := AL_t6 (List.mem_of_getElem? (i := 39) rfl) rfl
theorem ml_L_54 : MLv RL 54 RX10 yX10_put cX10_put 3 (some .int) 2 := ⟨by decide +kernel, wd_1236, wd_1237, wd_1238, wd_11, wd_1239⟩
set_option maxRecDepth 20000 in
theorem wd_1240 : Cond.methodLink RX10 303 yX10_lays ∈ AL := AL_t6 (List.mem_of_getElem? (i := 40) rfl) rfl
set_option maxRecDepth 20000 in
theorem wd_1242 : Cond.instanceMethod yX10_lays ∈ AL := AL_t6 (List.mem_of_getElem? (i := 42) rfl) rfl
theorem ws_69 : Cond.selects RX10 yX10_lays yX10_lays ∈ AL := AL_ofs 69 (by decide +kernel) (by decide +kernel)
set_option maxRecDepth 20000 in
theorem wd_1243 : Cond.code yX10_lays cX10_lays 5 (some .boolean) ∈ AL := AL_t6 (List.mem_of_getElem? (i := 43) rfl) rfl
theorem ml_X10_303 : MLv RX10 303 RX10 yX10_lays cX10_lays 5 (some .boolean) 2 := ⟨by decide +kernel, wd_1240, wd_1242, ws_69, wd_11, wd_1243⟩
set_option maxRecDepth 20000 in
theorem wd_1244 : Cond.methodLink RX10 297 yX10_isSafeNow ∈ AL := AL_t6 (List.mem_of_getElem? (i := 44) rfl) rfl
set_option maxRecDepth 20000 in
theorem wd_1246 : Cond.instanceMethod yX10_isSafeNow ∈ AL := AL_t6 (List.mem_of_getElem? (i := 46) rfl) rfl
theorem ws_70 : Cond.selects RX10 yX10_isSafeNow yX10_isSafeNow ∈ AL := AL_ofs 70 (by decide +kernel) (by decide +kernel)
set_option maxRecDepth 20000 in
theorem wd_1247 : Cond.code yX10_isSafeNow cX10_isSafeNow 2 (some .boolean) ∈ AL := AL_t6 (List.mem_of_getElem? (i := 47) rfl) rfl
theorem ml_X10_297 : MLv RX10 297 RX10 yX10_isSafeNow cX10_isSafeNow 2 (some .boolean) 0 := ⟨by decide +kernel, wd_1244, wd_1246, ws_70, wd_11, wd_1247⟩
set_option maxRecDepth 20000 in
theorem wd_1248 : Cond.methodLink RX10 300 yX10_keep ∈ AL := AL_t6 (List.mem_of_getElem? (i := 48) rfl) rfl
set_option maxRecDepth 20000 in
theorem wd_1250 : Cond.instanceMethod yX10_keep ∈ AL := AL_t6 (List.mem_of_getElem? (i := 50) rfl) rfl
theorem ws_71 : Cond.selects RX10 yX10_keep yX10_keep ∈ AL := AL_ofs 71 (by decide +kernel) (by decide +kernel)
set_option maxRecDepth 20000 in
theorem wd_1251 : Cond.code yX10_keep cX10_keep 3 none ∈ AL := AL_t6 (List.mem_of_getElem? (i := 51) rfl) rfl
theorem ml_X10_300 : MLv RX10 300 RX10 yX10_keep cX10_keep 3 none 0 := ⟨by decide +kernel, wd_1248, wd_1250, ws_71, wd_11, wd_1251⟩
set_option maxRecDepth 20000 in
theorem wd_1252 : Cond.methodLink RL 58 yX10_take ∈ AL := AL_t6 (List.mem_of_getElem? (i := 52) rfl) rfl
set_option maxRecDepth 20000 in
theorem wd_1253 : Cond.instanceMethod yX10_take ∈ AL := AL_t6 (List.mem_of_getElem? (i := 53) rfl) rfl
set_option maxRecDepth 20000 in
theorem wd_1254 : Cond.selects RX10 yX10_take yX10_take ∈ AL := AL_t6 (List.mem_of_getElem? (i := 54) rfl) rfl
set_option maxRecDepth 20000 in
theorem wd_1255 : Cond.code yX10_take cX10_take 3 (some .int) ∈ AL := AL_t6 (List.mem_of_getElem? (i := 55) rfl) rfl
theorem ml_L_58 : MLv RL 58 RX10 yX10_take cX10_take 3 (some .int) 1 := ⟨by decide +kernel, wd_1252, wd_1253, wd_1254, wd_11, wd_1255⟩
set_option maxRecDepth 20000 in
theorem wd_1256 : Cond.methodLink RL 62 yX10_pass ∈ AL := AL_t6 (List.mem_of_getElem? (i := 56) rfl) rfl
set_option maxRecDepth 20000 in
theorem wd_1257 : Cond.instanceMethod yX10_pass ∈ AL := AL_t6 (List.mem_of_getElem? (i := 57) rfl) rfl
set_option maxRecDepth 20000 in
theorem wd_1258 : Cond.selects RX10 yX10_pass yX10_pass ∈ AL := AL_t6 (List.mem_of_getElem? (i := 58) rfl) rfl
set_option maxRecDepth 20000 in
theorem wd_1259 : Cond.code yX10_pass cX10_pass 2 (some .int) ∈ AL := AL_t6 (List.mem_of_getElem? (i := 59) rfl) rfl
theorem ml_L_62 : MLv RL 62 RX10 yX10_pass cX10_pass 2 (some .int) 1 := ⟨by decide +kernel, wd_1256, wd_1257, wd_1258, wd_11, wd_1259⟩
set_option maxRecDepth 20000 in
theorem wd_1260 : Cond.methodLink RL 66 yX10_played ∈ AL := AL_t6 (List.mem_of_getElem? (i := 60) rfl) rfl
set_option maxRecDepth 20000 in
theorem wd_1261 : Cond.instanceMethod yX10_played ∈ AL := AL_t6 (List.mem_of_getElem? (i := 61) rfl) rfl
set_option maxRecDepth 20000 in
theorem wd_1262 : Cond.selects RX10 yX10_played yX10_played ∈ AL := AL_t6 (List.mem_of_getElem? (i := 62) rfl) rfl
set_option maxRecDepth 20000 in
theorem wd_1263 : Cond.code yX10_played cX10_played 3 (some .int) ∈ AL := AL_t6 (List.mem_of_getElem? (i := 63) rfl) rfl
theorem ml_L_66 : MLv RL 66 RX10 yX10_played cX10_played 3 (some .int) 1 := ⟨by decide +kernel, wd_1260, wd_1261, wd_1262, wd_11, wd_1263⟩
set_option maxRecDepth 20000 in
theorem wd_1264 : Cond.methodLink RX10 315 yX10_isPlayed ∈ AL := AL_t6 (List.mem_of_getElem? (i := 64) rfl) rfl
set_option maxRecDepth 20000 in
theorem wd_1266 : Cond.instanceMethod yX10_isPlayed ∈ AL := AL_t6 (List.mem_of_getElem? (i := 66) rfl) rfl
theorem ws_72 : Cond.selects RX10 yX10_isPlayed yX10_isPlayed ∈ AL := AL_ofs 72 (by decide +kernel) (by decide +kernel)
set_option maxRecDepth 20000 in
theorem wd_1267 : Cond.code yX10_isPlayed cX10_isPlayed 2 (some .boolean) ∈ AL := AL_t6 (List.mem_of_getElem? (i := 67) rfl) rfl
theorem ml_X10_315 : MLv RX10 315 RX10 yX10_isPlayed cX10_isPlayed 2 (some .boolean) 1 := ⟨by decide +kernel, wd_1264, wd_1266, ws_72, wd_11, wd_1267⟩
set_option maxRecDepth 20000 in
theorem wd_1268 : Cond.methodLink RX10 306 yX10_put ∈ AL := AL_t6 (List.mem_of_getElem? (i := 68) rfl) rfl
theorem ml_X10_306 : MLv RX10 306 RX10 yX10_put cX10_put 3 (some .int) 2 := ⟨by decide +kernel, wd_1268, wd_1237, wd_1238, wd_11, wd_1239⟩
set_option maxRecDepth 20000 in
theorem wd_1269 : Cond.methodLink RX10 309 yX10_take ∈ AL := AL_t6 (List.mem_of_getElem? (i := 69) rfl) rfl
theorem ml_X10_309 : MLv RX10 309 RX10 yX10_take cX10_take 3 (some .int) 1 := ⟨by decide +kernel, wd_1269, wd_1253, wd_1254, wd_11, wd_1255⟩
set_option maxRecDepth 20000 in
theorem wd_1270 : Cond.methodLink RX10 312 yX10_pass ∈ AL := AL_t6 (List.mem_of_getElem? (i := 70) rfl) rfl
theorem ml_X10_312 : MLv RX10 312 RX10 yX10_pass cX10_pass 2 (some .int) 1 := ⟨by decide +kernel, wd_1270, wd_1257, wd_1258, wd_11, wd_1259⟩
set_option maxRecDepth 20000 in
theorem wd_1271 : Cond.methodLink RL 83 yX10_loadings ∈ AL := AL_t6 (List.mem_of_getElem? (i := 71) rfl) rfl
set_option maxRecDepth 20000 in
theorem wd_1272 : Cond.instanceMethod yX10_loadings ∈ AL := AL_t6 (List.mem_of_getElem? (i := 72) rfl) rfl
set_option maxRecDepth 20000 in
theorem wd_1273 : Cond.selects RX10 yX10_loadings yX10_loadings ∈ AL := AL_t6 (List.mem_of_getElem? (i := 73) rfl) rfl
set_option maxRecDepth 20000 in
theorem wd_1274 : Cond.code yX10_loadings cX10_loadings 5 (some .long) ∈ AL := AL_t6 (List.mem_of_getElem? (i := 74) rfl) rfl
theorem ml_L_83 : MLv RL 83 RX10 yX10_loadings cX10_loadings 5 (some .long) 2 := ⟨by decide +kernel, wd_1271, wd_1272, wd_1273, wd_11, wd_1274⟩
set_option maxRecDepth 20000 in
theorem wd_1275 : Cond.methodLink RX10 327 yX10_areAsked ∈ AL := AL_t6 (List.mem_of_getElem? (i := 75) rfl) rfl
set_option maxRecDepth 20000 in
theorem wd_1277 : Cond.instanceMethod yX10_areAsked ∈ AL := AL_t6 (List.mem_of_getElem? (i := 77) rfl) rfl
theorem ws_73 : Cond.selects RX10 yX10_areAsked yX10_areAsked ∈ AL := AL_ofs 73 (by decide +kernel) (by decide +kernel)
set_option maxRecDepth 20000 in
theorem wd_1278 : Cond.code yX10_areAsked cX10_areAsked 4 (some .boolean) ∈ AL := AL_t6 (List.mem_of_getElem? (i := 78) rfl) rfl
theorem ml_X10_327 : MLv RX10 327 RX10 yX10_areAsked cX10_areAsked 4 (some .boolean) 2 := ⟨by decide +kernel, wd_1275, wd_1277, ws_73, wd_11, wd_1278⟩
set_option maxRecDepth 20000 in
theorem wd_1279 : Cond.methodLink RX10 318 yX10_bits ∈ AL := AL_t6 (List.mem_of_getElem? (i := 79) rfl) rfl
set_option maxRecDepth 20000 in
theorem wd_1280 : Cond.static yX10_bits ∈ AL := AL_t6 (List.mem_of_getElem? (i := 80) rfl) rfl
set_option maxRecDepth 20000 in
theorem wd_1281 : Cond.code yX10_bits cX10_bits 3 (some .int) ∈ AL := AL_t6 (List.mem_of_getElem? (i := 81) rfl) rfl
theorem ml_X10_318 : MLs RX10 318 yX10_bits cX10_bits 3 (some .int) 1 := ⟨by decide +kernel, wd_1279, wd_1280, wd_11, wd_1281⟩
set_option maxRecDepth 20000 in
theorem wd_1282 : Cond.methodLink RX10 321 yX10_has ∈ AL := AL_t6 (List.mem_of_getElem? (i := 82) rfl) rfl
set_option maxRecDepth 20000 in
theorem wd_1283 : Cond.static yX10_has ∈ AL := AL_t6 (List.mem_of_getElem? (i := 83) rfl) rfl
set_option maxRecDepth 20000 in
theorem wd_1284 : Cond.code yX10_has cX10_has 2 (some .boolean) ∈ AL := AL_t6 (List.mem_of_getElem? (i := 84) rfl) rfl
theorem ml_X10_321 : MLs RX10 321 yX10_has cX10_has 2 (some .boolean) 2 := ⟨by decide +kernel, wd_1282, wd_1283, wd_11, wd_1284⟩
set_option maxRecDepth 20000 in
theorem wd_1286 : Cond.methodLink RX10 332 yX10_findLoads ∈ AL := AL_t6 (List.mem_of_getElem? (i := 86) rfl) rfl
set_option maxRecDepth 20000 in
theorem wd_1288 : Cond.instanceMethod yX10_findLoads ∈ AL := AL_t6 (List.mem_of_getElem? (i := 88) rfl) rfl
theorem ws_74 : Cond.selects RX10 yX10_findLoads yX10_findLoads ∈ AL := AL_ofs 74 (by decide +kernel) (by decide +kernel)
set_option maxRecDepth 20000 in
theorem wd_1289 : Cond.code yX10_findLoads cX10_findLoads 9 none ∈ AL := AL_t6 (List.mem_of_getElem? (i := 89) rfl) rfl
theorem ml_X10_332 : MLv RX10 332 RX10 yX10_findLoads cX10_findLoads 9 none 2 := ⟨by decide +kernel, wd_1286, wd_1288, ws_74, wd_11, wd_1289⟩
set_option maxRecDepth 20000 in
theorem wd_1290 : Cond.methodLink RL 88 yX10_gentle ∈ AL := AL_t6 (List.mem_of_getElem? (i := 90) rfl) rfl
set_option maxRecDepth 20000 in
theorem wd_1291 : Cond.instanceMethod yX10_gentle ∈ AL := AL_t6 (List.mem_of_getElem? (i := 91) rfl) rfl
set_option maxRecDepth 20000 in
theorem wd_1292 : Cond.selects RX10 yX10_gentle yX10_gentle ∈ AL := AL_t6 (List.mem_of_getElem? (i := 92) rfl) rfl
set_option maxRecDepth 20000 in
theorem wd_1293 : Cond.code yX10_gentle cX10_gentle 7 (some .int) ∈ AL := AL_t6 (List.mem_of_getElem? (i := 93) rfl) rfl
theorem ml_L_88 : MLv RL 88 RX10 yX10_gentle cX10_gentle 7 (some .int) 3 := ⟨by decide +kernel, wd_1290, wd_1291, wd_1292, wd_11, wd_1293⟩
set_option maxRecDepth 20000 in
theorem wd_1294 : Cond.methodLink RX10 339 yX10_findLeft ∈ AL := AL_t6 (List.mem_of_getElem? (i := 94) rfl) rfl
set_option maxRecDepth 20000 in
theorem wd_1296 : Cond.instanceMethod yX10_findLeft ∈ AL := AL_t6 (List.mem_of_getElem? (i := 96) rfl) rfl
theorem ws_75 : Cond.selects RX10 yX10_findLeft yX10_findLeft ∈ AL := AL_ofs 75 (by decide +kernel) (by decide +kernel)
set_option maxRecDepth 20000 in
theorem wd_1297 : Cond.code yX10_findLeft cX10_findLeft 4 none ∈ AL := AL_t6 (List.mem_of_getElem? (i := 97) rfl) rfl
theorem ml_X10_339 : MLv RX10 339 RX10 yX10_findLeft cX10_findLeft 4 none 0 := ⟨by decide +kernel, wd_1294, wd_1296, ws_75, wd_11, wd_1297⟩
set_option maxRecDepth 20000 in
theorem wd_1299 : Cond.methodLink RX10 336 yX10_by_ ∈ AL := AL_t6 (List.mem_of_getElem? (i := 99) rfl) rfl
set_option maxRecDepth 20000 in
theorem wd_1301 : Cond.instanceMethod yX10_by_ ∈ AL := AL_t6 (List.mem_of_getElem? (i := 101) rfl) rfl
theorem ws_76 : Cond.selects RX10 yX10_by_ yX10_by_ ∈ AL := AL_ofs 76 (by decide +kernel) (by decide +kernel)
set_option maxRecDepth 20000 in
theorem wd_1302 : Cond.code yX10_by_ cX10_by_ 4 (some .int) ∈ AL := AL_t6 (List.mem_of_getElem? (i := 102) rfl) rfl
theorem ml_X10_336 : MLv RX10 336 RX10 yX10_by_ cX10_by_ 4 (some .int) 2 := ⟨by decide +kernel, wd_1299, wd_1301, ws_76, wd_11, wd_1302⟩
set_option maxRecDepth 20000 in
theorem wd_1303 : Cond.methodLink RL 92 yX10_reading ∈ AL := AL_t6 (List.mem_of_getElem? (i := 103) rfl) rfl
set_option maxRecDepth 20000 in
theorem wd_1304 : Cond.instanceMethod yX10_reading ∈ AL := AL_t6 (List.mem_of_getElem? (i := 104) rfl) rfl
set_option maxRecDepth 20000 in
theorem wd_1305 : Cond.selects RX10 yX10_reading yX10_reading ∈ AL := AL_t6 (List.mem_of_getElem? (i := 105) rfl) rfl
set_option maxRecDepth 20000 in
theorem wd_1306 : Cond.code yX10_reading cX10_reading 4 (some .int) ∈ AL := AL_t6 (List.mem_of_getElem? (i := 106) rfl) rfl
theorem ml_L_92 : MLv RL 92 RX10 yX10_reading cX10_reading 4 (some .int) 2 := ⟨by decide +kernel, wd_1303, wd_1304, wd_1305, wd_11, wd_1306⟩
set_option maxRecDepth 20000 in
theorem wd_1307 : Cond.methodLink RL 96 yX10_forget ∈ AL := AL_t6 (List.mem_of_getElem? (i := 107) rfl) rfl
set_option maxRecDepth 20000 in
theorem wd_1308 : Cond.instanceMethod yX10_forget ∈ AL := AL_t6 (List.mem_of_getElem? (i := 108) rfl) rfl
set_option maxRecDepth 20000 in
theorem wd_1309 : Cond.selects RX10 yX10_forget yX10_forget ∈ AL := AL_t6 (List.mem_of_getElem? (i := 109) rfl) rfl
set_option maxRecDepth 20000 in
theorem wd_1310 : Cond.code yX10_forget cX10_forget 2 (some .int) ∈ AL := AL_t6 (List.mem_of_getElem? (i := 110) rfl) rfl
theorem ml_L_96 : MLv RL 96 RX10 yX10_forget cX10_forget 2 (some .int) 0 := ⟨by decide +kernel, wd_1307, wd_1308, wd_1309, wd_11, wd_1310⟩
set_option maxRecDepth 20000 in
theorem wd_1311 : Cond.methodLink RL 100 yX10_span ∈ AL := AL_t6 (List.mem_of_getElem? (i := 111) rfl) rfl
set_option maxRecDepth 20000 in
theorem wd_1312 : Cond.instanceMethod yX10_span ∈ AL := AL_t6 (List.mem_of_getElem? (i := 112) rfl) rfl
set_option maxRecDepth 20000 in
theorem wd_1313 : Cond.selects RX10 yX10_span yX10_span ∈ AL := AL_t6 (List.mem_of_getElem? (i := 113) rfl) rfl
set_option maxRecDepth 20000 in
theorem wd_1314 : Cond.code yX10_span cX10_span 6 (some .int) ∈ AL := AL_t6 (List.mem_of_getElem? (i := 114) rfl) rfl
theorem ml_L_100 : MLv RL 100 RX10 yX10_span cX10_span 6 (some .int) 1 := ⟨by decide +kernel, wd_1311, wd_1312, wd_1313, wd_11, wd_1314⟩
set_option maxRecDepth 20000 in
theorem wd_1315 : Cond.methodLink RX10 349 yX10_areRead ∈ AL := AL_t6 (List.mem_of_getElem? (i := 115) rfl) rfl
set_option maxRecDepth 20000 in
theorem wd_1317 : Cond.instanceMethod yX10_areRead ∈ AL := AL_t6 (List.mem_of_getElem? (i := 117) rfl) rfl
theorem ws_77 : Cond.selects RX10 yX10_areRead yX10_areRead ∈ AL := AL_ofs 77 (by decide +kernel) (by decide +kernel)
set_option maxRecDepth 20000 in
theorem wd_1318 : Cond.code yX10_areRead cX10_areRead 3 (some .boolean) ∈ AL := AL_t6 (List.mem_of_getElem? (i := 118) rfl) rfl
theorem ml_X10_349 : MLv RX10 349 RX10 yX10_areRead cX10_areRead 3 (some .boolean) 1 := ⟨by decide +kernel, wd_1315, wd_1317, ws_77, wd_11, wd_1318⟩
set_option maxRecDepth 20000 in
theorem wd_1319 : Cond.methodLink RX10 342 yX10_borneBy ∈ AL := AL_t6 (List.mem_of_getElem? (i := 119) rfl) rfl
set_option maxRecDepth 20000 in
theorem wd_1321 : Cond.instanceMethod yX10_borneBy ∈ AL := AL_t6 (List.mem_of_getElem? (i := 121) rfl) rfl
theorem ws_78 : Cond.selects RX10 yX10_borneBy yX10_borneBy ∈ AL := AL_ofs 78 (by decide +kernel) (by decide +kernel)
set_option maxRecDepth 20000 in
theorem wd_1322 : Cond.code yX10_borneBy cX10_borneBy 4 (some .int) ∈ AL := AL_t6 (List.mem_of_getElem? (i := 122) rfl) rfl
theorem ml_X10_342 : MLv RX10 342 RX10 yX10_borneBy cX10_borneBy 4 (some .int) 2 := ⟨by decide +kernel, wd_1319, wd_1321, ws_78, wd_11, wd_1322⟩
set_option maxRecDepth 20000 in
theorem wd_1323 : Cond.methodLink RX10 345 yX10_isRead ∈ AL := AL_t6 (List.mem_of_getElem? (i := 123) rfl) rfl
set_option maxRecDepth 20000 in
theorem wd_1325 : Cond.instanceMethod yX10_isRead ∈ AL := AL_t6 (List.mem_of_getElem? (i := 125) rfl) rfl
theorem ws_79 : Cond.selects RX10 yX10_isRead yX10_isRead ∈ AL := AL_ofs 79 (by decide +kernel) (by decide +kernel)
set_option maxRecDepth 20000 in
theorem wd_1326 : Cond.code yX10_isRead cX10_isRead 8 (some .boolean) ∈ AL := AL_t6 (List.mem_of_getElem? (i := 126) rfl) rfl
theorem ml_X10_345 : MLv RX10 345 RX10 yX10_isRead cX10_isRead 8 (some .boolean) 4 := ⟨by decide +kernel, wd_1323, wd_1325, ws_79, wd_11, wd_1326⟩
set_option maxRecDepth 20000 in
theorem wd_1327 : Cond.methodLink RL 104 yX10_bent ∈ AL := AL_t6 (List.mem_of_getElem? (i := 127) rfl) rfl
set_option maxRecDepth 20000 in
theorem wd_1328 : Cond.instanceMethod yX10_bent ∈ AL := AL_t6 (List.mem_of_getElem? (i := 128) rfl) rfl
set_option maxRecDepth 20000 in
theorem wd_1329 : Cond.selects RX10 yX10_bent yX10_bent ∈ AL := AL_t6 (List.mem_of_getElem? (i := 129) rfl) rfl
set_option maxRecDepth 20000 in
theorem wd_1330 : Cond.code yX10_bent cX10_bent 9 (some .int) ∈ AL := AL_t6 (List.mem_of_getElem? (i := 130) rfl) rfl
theorem ml_L_104 : MLv RL 104 RX10 yX10_bent cX10_bent 9 (some .int) 2 := ⟨by decide +kernel, wd_1327, wd_1328, wd_1329, wd_11, wd_1330⟩
set_option maxRecDepth 20000 in
theorem wd_1331 : Cond.methodLink RL 108 yX10_balanced ∈ AL := AL_t6 (List.mem_of_getElem? (i := 131) rfl) rfl
set_option maxRecDepth 20000 in
theorem wd_1332 : Cond.instanceMethod yX10_balanced ∈ AL := AL_t6 (List.mem_of_getElem? (i := 132) rfl) rfl
set_option maxRecDepth 20000 in
theorem wd_1333 : Cond.selects RX10 yX10_balanced yX10_balanced ∈ AL := AL_t6 (List.mem_of_getElem? (i := 133) rfl) rfl
set_option maxRecDepth 20000 in
theorem wd_1334 : Cond.code yX10_balanced cX10_balanced 6 (some .int) ∈ AL := AL_t6 (List.mem_of_getElem? (i := 134) rfl) rfl
theorem ml_L_108 : MLv RL 108 RX10 yX10_balanced cX10_balanced 6 (some .int) 2 := ⟨by decide +kernel, wd_1331, wd_1332, wd_1333, wd_11, wd_1334⟩
set_option maxRecDepth 20000 in
theorem wd_1335 : Cond.methodLink RX10 352 yX10_tryBalanced ∈ AL := AL_t6 (List.mem_of_getElem? (i := 135) rfl) rfl
set_option maxRecDepth 20000 in
theorem wd_1337 : Cond.instanceMethod yX10_tryBalanced ∈ AL := AL_t6 (List.mem_of_getElem? (i := 137) rfl) rfl
theorem ws_80 : Cond.selects RX10 yX10_tryBalanced yX10_tryBalanced ∈ AL := AL_ofs 80 (by decide +kernel) (by decide +kernel)
set_option maxRecDepth 20000 in
theorem wd_1338 : Cond.code yX10_tryBalanced cX10_tryBalanced 5 none ∈ AL := AL_t6 (List.mem_of_getElem? (i := 138) rfl) rfl
theorem ml_X10_352 : MLv RX10 352 RX10 yX10_tryBalanced cX10_tryBalanced 5 none 2 := ⟨by decide +kernel, wd_1335, wd_1337, ws_80, wd_11, wd_1338⟩
set_option maxRecDepth 20000 in
theorem wd_1339 : Cond.methodLink RL 112 yX10_weights ∈ AL := AL_t6 (List.mem_of_getElem? (i := 139) rfl) rfl
set_option maxRecDepth 20000 in
theorem wd_1340 : Cond.instanceMethod yX10_weights ∈ AL := AL_t6 (List.mem_of_getElem? (i := 140) rfl) rfl
set_option maxRecDepth 20000 in
theorem wd_1341 : Cond.selects RX10 yX10_weights yX10_weights ∈ AL := AL_t6 (List.mem_of_getElem? (i := 141) rfl) rfl
set_option maxRecDepth 20000 in
theorem wd_1342 : Cond.code yX10_weights cX10_weights 4 (some .int) ∈ AL := AL_t6 (List.mem_of_getElem? (i := 142) rfl) rfl
theorem ml_L_112 : MLv RL 112 RX10 yX10_weights cX10_weights 4 (some .int) 2 := ⟨by decide +kernel, wd_1339, wd_1340, wd_1341, wd_11, wd_1342⟩
set_option maxRecDepth 20000 in
theorem wd_1343 : Cond.methodLink RX10 361 yX10_chooses ∈ AL := AL_t6 (List.mem_of_getElem? (i := 143) rfl) rfl
set_option maxRecDepth 20000 in
theorem wd_1345 : Cond.instanceMethod yX10_chooses ∈ AL := AL_t6 (List.mem_of_getElem? (i := 145) rfl) rfl
theorem ws_81 : Cond.selects RX10 yX10_chooses yX10_chooses ∈ AL := AL_ofs 81 (by decide +kernel) (by decide +kernel)
set_option maxRecDepth 20000 in
theorem wd_1346 : Cond.code yX10_chooses cX10_chooses 8 (some .boolean) ∈ AL := AL_t6 (List.mem_of_getElem? (i := 146) rfl) rfl
theorem ml_X10_361 : MLv RX10 361 RX10 yX10_chooses cX10_chooses 8 (some .boolean) 2 := ⟨by decide +kernel, wd_1343, wd_1345, ws_81, wd_11, wd_1346⟩
set_option maxRecDepth 20000 in
theorem wd_1347 : Cond.methodLink RX10 355 yX10_makes ∈ AL := AL_t6 (List.mem_of_getElem? (i := 147) rfl) rfl
set_option maxRecDepth 20000 in
theorem wd_1349 : Cond.instanceMethod yX10_makes ∈ AL := AL_t6 (List.mem_of_getElem? (i := 149) rfl) rfl
theorem ws_82 : Cond.selects RX10 yX10_makes yX10_makes ∈ AL := AL_ofs 82 (by decide +kernel) (by decide +kernel)
set_option maxRecDepth 20000 in
theorem wd_1350 : Cond.code yX10_makes cX10_makes 6 (some .int) ∈ AL := AL_t6 (List.mem_of_getElem? (i := 150) rfl) rfl
theorem ml_X10_355 : MLv RX10 355 RX10 yX10_makes cX10_makes 6 (some .int) 2 := ⟨by decide +kernel, wd_1347, wd_1349, ws_82, wd_11, wd_1350⟩
set_option maxRecDepth 20000 in
theorem wd_1351 : Cond.methodLink RX10 358 yX10_isAll ∈ AL := AL_t6 (List.mem_of_getElem? (i := 151) rfl) rfl
set_option maxRecDepth 20000 in
theorem wd_1353 : Cond.instanceMethod yX10_isAll ∈ AL := AL_t6 (List.mem_of_getElem? (i := 153) rfl) rfl
theorem ws_83 : Cond.selects RX10 yX10_isAll yX10_isAll ∈ AL := AL_ofs 83 (by decide +kernel) (by decide +kernel)
set_option maxRecDepth 20000 in
theorem wd_1354 : Cond.code yX10_isAll cX10_isAll 4 (some .boolean) ∈ AL := AL_t6 (List.mem_of_getElem? (i := 154) rfl) rfl
theorem ml_X10_358 : MLv RX10 358 RX10 yX10_isAll cX10_isAll 4 (some .boolean) 2 := ⟨by decide +kernel, wd_1351, wd_1353, ws_83, wd_11, wd_1354⟩
set_option maxRecDepth 20000 in
theorem wd_1355 : Cond.methodLink RL 116 yX10_rest ∈ AL := AL_t6 (List.mem_of_getElem? (i := 155) rfl) rfl
set_option maxRecDepth 20000 in
theorem wd_1356 : Cond.instanceMethod yX10_rest ∈ AL := AL_t6 (List.mem_of_getElem? (i := 156) rfl) rfl
set_option maxRecDepth 20000 in
theorem wd_1357 : Cond.selects RX10 yX10_rest yX10_rest ∈ AL := AL_t6 (List.mem_of_getElem? (i := 157) rfl) rfl
set_option maxRecDepth 20000 in
theorem wd_1358 : Cond.code yX10_rest cX10_rest 12 (some .int) ∈ AL := AL_t6 (List.mem_of_getElem? (i := 158) rfl) rfl
theorem ml_L_116 : MLv RL 116 RX10 yX10_rest cX10_rest 12 (some .int) 3 := ⟨by decide +kernel, wd_1355, wd_1356, wd_1357, wd_11, wd_1358⟩
set_option maxRecDepth 20000 in
theorem wd_1359 : Cond.methodLink RL 120 yX10_image ∈ AL := AL_t6 (List.mem_of_getElem? (i := 159) rfl) rfl
set_option maxRecDepth 20000 in
theorem wd_1360 : Cond.instanceMethod yX10_image ∈ AL := AL_t6 (List.mem_of_getElem? (i := 160) rfl) rfl
set_option maxRecDepth 20000 in
theorem wd_1361 : Cond.selects RX10 yX10_image yX10_image ∈ AL := AL_t6 (List.mem_of_getElem? (i := 161) rfl) rfl
set_option maxRecDepth 20000 in
theorem wd_1362 : Cond.code yX10_image cX10_image 1 (some .int) ∈ AL := AL_t6 (List.mem_of_getElem? (i := 162) rfl) rfl
theorem ml_L_120 : MLv RL 120 RX10 yX10_image cX10_image 1 (some .int) 0 := ⟨by decide +kernel, wd_1359, wd_1360, wd_1361, wd_11, wd_1362⟩
set_option maxRecDepth 20000 in
theorem wd_1363 : Cond.methodLink RL 124 yX10_back ∈ AL := AL_t6 (List.mem_of_getElem? (i := 163) rfl) rfl
set_option maxRecDepth 20000 in
theorem wd_1364 : Cond.instanceMethod yX10_back ∈ AL := AL_t6 (List.mem_of_getElem? (i := 164) rfl) rfl
set_option maxRecDepth 20000 in
theorem wd_1365 : Cond.selects RX10 yX10_back yX10_back ∈ AL := AL_t6 (List.mem_of_getElem? (i := 165) rfl) rfl
set_option maxRecDepth 20000 in
theorem wd_1366 : Cond.code yX10_back cX10_back 1 (some .int) ∈ AL := AL_t6 (List.mem_of_getElem? (i := 166) rfl) rfl
theorem ml_L_124 : MLv RL 124 RX10 yX10_back cX10_back 1 (some .int) 0 := ⟨by decide +kernel, wd_1363, wd_1364, wd_1365, wd_11, wd_1366⟩
set_option maxRecDepth 20000 in
theorem wd_1367 : Cond.methodLink RL 128 yX10_about ∈ AL := AL_t6 (List.mem_of_getElem? (i := 167) rfl) rfl
set_option maxRecDepth 20000 in
theorem wd_1368 : Cond.instanceMethod yX10_about ∈ AL := AL_t6 (List.mem_of_getElem? (i := 168) rfl) rfl
set_option maxRecDepth 20000 in
theorem wd_1369 : Cond.selects RX10 yX10_about yX10_about ∈ AL := AL_t6 (List.mem_of_getElem? (i := 169) rfl) rfl
set_option maxRecDepth 20000 in
theorem wd_1370 : Cond.code yX10_about cX10_about 2 (some .int) ∈ AL := AL_t6 (List.mem_of_getElem? (i := 170) rfl) rfl
theorem ml_L_128 : MLv RL 128 RX10 yX10_about cX10_about 2 (some .int) 1 := ⟨by decide +kernel, wd_1367, wd_1368, wd_1369, wd_11, wd_1370⟩
set_option maxRecDepth 20000 in
theorem wd_1371 : Cond.methodLink RX10 364 yX10_lying ∈ AL := AL_t6 (List.mem_of_getElem? (i := 171) rfl) rfl
set_option maxRecDepth 20000 in
theorem wd_1373 : Cond.instanceMethod yX10_lying ∈ AL := AL_t6 (List.mem_of_getElem? (i := 173) rfl) rfl
theorem ws_84 : Cond.selects RX10 yX10_lying yX10_lying ∈ AL := AL_ofs 84 (by decide +kernel) (by decide +kernel)
set_option maxRecDepth 20000 in
theorem wd_1374 : Cond.code yX10_lying cX10_lying 4 (some .int) ∈ AL := AL_t6 (List.mem_of_getElem? (i := 174) rfl) rfl
theorem ml_X10_364 : MLv RX10 364 RX10 yX10_lying cX10_lying 4 (some .int) 1 := ⟨by decide +kernel, wd_1371, wd_1373, ws_84, wd_11, wd_1374⟩
theorem ml_X6_68 : MLn RX6 68 yX9_within "DownByAHair" cX9_within 3 (some .boolean) 3 := ⟨by decide +kernel, by decide +kernel, wd_403, wd_1, wd_404⟩
theorem ml_X3_37 : MLn RX3 37 yX9_leaning "DownByAHair" cX9_leaning 2 (some .int) 2 := ⟨by decide +kernel, by decide +kernel, wd_729, wd_1, wd_730⟩
set_option maxRecDepth 20000 in
theorem wd_663 : Cond.constant RX4 94 1000000 ∈ AL := AL_t3 (List.mem_of_getElem? (i := 183) rfl) rfl
set_option maxRecDepth 20000 in
theorem wd_665 : Cond.constant RX4 97 (-1000000) ∈ AL := AL_t3 (List.mem_of_getElem? (i := 185) rfl) rfl
set_option maxRecDepth 20000 in
theorem wd_731 : Cond.constant RX9 187 (-100000000) ∈ AL := AL_t4 (List.mem_of_getElem? (i := 11) rfl) rfl
set_option maxRecDepth 20000 in
theorem wd_743 : Cond.constant RJ6 265 1431655765 ∈ AL := AL_t4 (List.mem_of_getElem? (i := 23) rfl) rfl
set_option maxRecDepth 20000 in
theorem wd_744 : Cond.constant RJ6 266 858993459 ∈ AL := AL_t4 (List.mem_of_getElem? (i := 24) rfl) rfl
set_option maxRecDepth 20000 in
theorem wd_745 : Cond.constant RJ6 267 252645135 ∈ AL := AL_t4 (List.mem_of_getElem? (i := 25) rfl) rfl
set_option maxRecDepth 20000 in
theorem wd_759 : Cond.constant RX1 71 1000000000 ∈ AL := AL_t4 (List.mem_of_getElem? (i := 39) rfl) rfl
set_option maxRecDepth 20000 in
theorem wd_1057 : Cond.constant RX10 117 100000 ∈ AL := AL_t5 (List.mem_of_getElem? (i := 97) rfl) rfl
set_option maxRecDepth 20000 in
theorem wd_1231 : Cond.constant RX10 296 (-100000000) ∈ AL := AL_t6 (List.mem_of_getElem? (i := 31) rfl) rfl
set_option maxRecDepth 20000 in
theorem wd_1298 : Cond.constant RX10 335 100000000 ∈ AL := AL_t6 (List.mem_of_getElem? (i := 98) rfl) rfl
set_option maxRecDepth 20000 in
theorem wd_662 : Cond.constantLong RX4 92 1000000 ∈ AL := AL_t3 (List.mem_of_getElem? (i := 182) rfl) rfl
set_option maxRecDepth 20000 in
theorem wd_664 : Cond.constantLong RX4 95 (-1000000) ∈ AL := AL_t3 (List.mem_of_getElem? (i := 184) rfl) rfl
set_option maxRecDepth 20000 in
theorem wd_746 : Cond.constantLong RX9 191 (-1) ∈ AL := AL_t4 (List.mem_of_getElem? (i := 26) rfl) rfl
set_option maxRecDepth 20000 in
theorem wd_1090 : Cond.constantLong RX10 215 28526 ∈ AL := AL_t5 (List.mem_of_getElem? (i := 130) rfl) rfl
set_option maxRecDepth 20000 in
theorem wd_1150 : Cond.constantLong RX10 209 28530 ∈ AL := AL_t5 (List.mem_of_getElem? (i := 190) rfl) rfl
set_option maxRecDepth 20000 in
theorem wd_1197 : Cond.constantLong RX10 235 1000000 ∈ AL := AL_t5 (List.mem_of_getElem? (i := 237) rfl) rfl
set_option maxRecDepth 20000 in
theorem wd_1198 : Cond.constantLong RX10 237 (-1000000) ∈ AL := AL_t5 (List.mem_of_getElem? (i := 238) rfl) rfl
set_option maxRecDepth 20000 in
theorem wd_1285 : Cond.constantLong RX10 330 (-1) ∈ AL := AL_t6 (List.mem_of_getElem? (i := 85) rfl) rfl
set_option maxRecDepth 20000 in
theorem wd_681 : Cond.methodLink RX6 39 arraycopyName ∈ AL := AL_t3 (List.mem_of_getElem? (i := 201) rfl) rfl
set_option maxRecDepth 20000 in
theorem cp_w : Cond.native arraycopyName ∈ AL ∧ Cond.static arraycopyName ∈ AL ∧ Cond.initialized "java/lang/System" ∈ AL := ⟨AL_t3 (List.mem_of_getElem? (i := 203) rfl) rfl, AL_t3 (List.mem_of_getElem? (i := 202) rfl) rfl, AL_t1 (List.mem_of_getElem? (i := 17) rfl) rfl⟩
