set_option maxRecDepth 20000 in
theorem n9_0 (a1 a2 a3 : Int32) {s : Sg} (h : J_ s) : wp_ (fX9_beam a1 a2 a3 s) (fun q => J_ q.2) := j9_ h (h9_g (tX9_beam a1 a2 a3 s h.1.1)) (ya_fX9_beam a1 a2 a3 s)
set_option maxRecDepth 20000 in
theorem n10_0 (a1 a2 a3 : Int32) {s : Sg} (h : J_ s) : wp_ (fX10_beam a1 a2 a3 s) (fun q => J_ q.2) := j10_ h (c10_0 a1 a2 a3 h.1) (kk_z (tkX10_beam a1 a2 a3 s h.1.2.1))
set_option maxRecDepth 20000 in
theorem n9_2 (a1 a2 a3 : Int32) {s : Sg} (h : J_ s) : wp_ (fX9_weather a1 a2 a3 s) (fun q => J_ q.2) := j9_ h (h9_g (tX9_weather a1 a2 a3 s h.1.1)) (ya_fX9_weather a1 a2 a3 s)
set_option maxRecDepth 20000 in
theorem n10_2 (a1 a2 a3 : Int32) {s : Sg} (h : J_ s) : wp_ (fX10_weather a1 a2 a3 s) (fun q => J_ q.2) := j10_ h (c10_2 a1 a2 a3 h.1) (kk_z (tkX10_weather a1 a2 a3 s h.1.2.1))
set_option maxRecDepth 20000 in
theorem n9_3 (a1 a2 a3 a4 a5 : Int32) {s : Sg} (h : J_ s) : wp_ (fX9_feed a1 a2 a3 a4 a5 s) (fun q => J_ q.2) := j9_ h (h9_g (tX9_feed a1 a2 a3 a4 a5 s h.1.1)) (ya_fX9_feed a1 a2 a3 a4 a5 s)
set_option maxRecDepth 20000 in
theorem n10_3 (a1 a2 a3 a4 a5 : Int32) {s : Sg} (h : J_ s) : wp_ (fX10_feed a1 a2 a3 a4 a5 s) (fun q => J_ q.2) := j10_ h (c10_3 a1 a2 a3 a4 a5 h.1) (wp_mono (pf_wp (tX10_feed a1 a2 a3 a4 a5 s h.1.2.1) (ym_fX10_feed a1 a2 a3 a4 a5 s)) (fun _ g => g.2.kk (fun k hk => g.1.2.1 k (Or.inl hk))))
set_option maxRecDepth 20000 in
theorem n9_4 (a1 : Int32) {s : Sg} (h : J_ s) : wp_ (fX9_end a1 s) (fun q => J_ q.2) := j9_ h (h9_g (tX9_end a1 s h.1.1)) (ya_fX9_end a1 s)
set_option maxRecDepth 20000 in
theorem n10_4 (a1 : Int32) {s : Sg} (h : J_ s) : wp_ (fX10_end a1 s) (fun q => J_ q.2) := j10_ h (c10_4 a1 h.1) (kk_z (tkX10_end a1 s h.1.2.1))
set_option maxRecDepth 20000 in
theorem n9_5 {s : Sg} (h : J_ s) : wp_ (fX9_text  s) (fun q => J_ q.2) := j9_ h (tX9_text  s h.1.1) (ya_fX9_text  s)
set_option maxRecDepth 20000 in
theorem n10_5 {s : Sg} (h : J_ s) : wp_ (fX10_text  s) (fun q => J_ q.2) := j10_ h (c10_5  h.1) (wp_mono (pf_wp (text_ok h.1.2.1 h.1.2.2) (ym_fX10_text s)) (fun _ g => g.2.kk (fun k hk => g.1.2.1 k (Or.inl hk))))
set_option maxRecDepth 20000 in
theorem n9_6 (a1 : Int32) {s : Sg} (h : J_ s) : wp_ (fX9_fault a1 s) (fun q => J_ q.2) := j9_ h (h9_e h.1.1 (tX9_fault a1 s h.1.1)) (ya_fX9_fault a1 s)
set_option maxRecDepth 20000 in
theorem n10_6 (a1 : Int32) {s : Sg} (h : J_ s) : wp_ (fX10_fault a1 s) (fun q => J_ q.2) := j10_ h (c10_6 a1 h.1) (kk_e (tX10_fault a1 s h.1.2.1))
set_option maxRecDepth 20000 in
theorem n9_7 (a1 : Int32) {s : Sg} (h : J_ s) : wp_ (fX9_by a1 s) (fun q => J_ q.2) := j9_ h (tX9_by a1 s h.1.1) (ya_fX9_by a1 s)
set_option maxRecDepth 20000 in
theorem n10_7 (a1 : Int32) {s : Sg} (h : J_ s) : wp_ (fX10_by a1 s) (fun q => J_ q.2) := j10_ h (c10_7 a1 h.1) (kk_z (tkX10_by a1 s h.1.2.1))
set_option maxRecDepth 20000 in
theorem n9_8 (a1 a2 : Int32) {s : Sg} (h : J_ s) : wp_ (fX9_put a1 a2 s) (fun q => J_ q.2) := j9_ h (h9_g (tX9_put a1 a2 s h.1.1)) (ya_fX9_put a1 a2 s)
set_option maxRecDepth 20000 in
theorem n10_8 (a1 a2 : Int32) {s : Sg} (h : J_ s) : wp_ (fX10_put a1 a2 s) (fun q => J_ q.2) := j10_ h (c10_8 a1 a2 h.1) (kk_k (putk h.1.2.1 h.1.2.2))
set_option maxRecDepth 20000 in
theorem n9_9 (a1 : Int32) {s : Sg} (h : J_ s) : wp_ (fX9_take a1 s) (fun q => J_ q.2) := j9_ h (h9_g (tX9_take a1 s h.1.1)) (ya_fX9_take a1 s)
set_option maxRecDepth 20000 in
theorem n10_9 (a1 : Int32) {s : Sg} (h : J_ s) : wp_ (fX10_take a1 s) (fun q => J_ q.2) := j10_ h (c10_9 a1 h.1) (kk_k (takek h.1.2.1 h.1.2.2))
set_option maxRecDepth 20000 in
theorem n9_10 (a1 : Int32) {s : Sg} (h : J_ s) : wp_ (fX9_pass a1 s) (fun q => J_ q.2) := j9_ h (h9_g (tX9_pass a1 s h.1.1)) (ya_fX9_pass a1 s)
set_option maxRecDepth 20000 in
theorem n10_10 (a1 : Int32) {s : Sg} (h : J_ s) : wp_ (fX10_pass a1 s) (fun q => J_ q.2) := j10_ h (c10_10 a1 h.1) (kk_z (tkX10_pass a1 s h.1.2.1))
set_option maxRecDepth 20000 in
theorem n9_11 (a1 : Int32) {s : Sg} (h : J_ s) : wp_ (fX9_played a1 s) (fun q => J_ q.2) := j9_ h (h9_g (tX9_played a1 s h.1.1)) (ya_fX9_played a1 s)
set_option maxRecDepth 20000 in
theorem n10_11 (a1 : Int32) {s : Sg} (h : J_ s) : wp_ (fX10_played a1 s) (fun q => J_ q.2) := j10_ h (c10_11 a1 h.1) (kk_k (playedk h.1.2.1 h.1.2.2))
set_option maxRecDepth 20000 in
theorem n9_12 {s : Sg} (h : J_ s) : wp_ (fX9_undo  s) (fun q => J_ q.2) := j9_ h (h9_g (tX9_undo  s h.1.1)) (ya_fX9_undo  s)
set_option maxRecDepth 20000 in
theorem n10_12 {s : Sg} (h : J_ s) : wp_ (fX10_undo  s) (fun q => J_ q.2) := j10_ h (c10_12  h.1) (kk_z (tkX10_undo  s h.1.2.1))
set_option maxRecDepth 20000 in
theorem n9_13 (a1 a2 : Int32) {s : Sg} (h : J_ s) : wp_ (fX9_of a1 a2 s) (fun q => J_ q.2) := j9_ h (h9_g (tX9_of a1 a2 s h.1.1)) (ya_fX9_of a1 a2 s)
set_option maxRecDepth 20000 in
theorem n10_13 (a1 a2 : Int32) {s : Sg} (h : J_ s) : wp_ (fX10_of a1 a2 s) (fun q => J_ q.2) := j10_ h (c10_13 a1 a2 h.1) (kk_b (of_ok h.1.2.1 h.1.2.2))
set_option maxRecDepth 20000 in
theorem n9_14 (a1 : Int32) {s : Sg} (h : J_ s) : wp_ (fX9_now a1 s) (fun q => J_ q.2) := j9_ h (h9_g (tX9_now a1 s h.1.1)) (ya_fX9_now a1 s)
set_option maxRecDepth 20000 in
theorem n10_14 (a1 : Int32) {s : Sg} (h : J_ s) : wp_ (fX10_now a1 s) (fun q => J_ q.2) := j10_ h (c10_14 a1 h.1) (kk_b (now_ok h.1.2.1 h.1.2.2))
set_option maxRecDepth 20000 in
theorem n9_15 (a1 a2 : Int32) {s : Sg} (h : J_ s) : wp_ (fX9_loadings a1 a2 s) (fun q => J_ q.2) := j9_ h (h9_g (tX9_loadings a1 a2 s h.1.1)) (ya_fX9_loadings a1 a2 s)
set_option maxRecDepth 20000 in
theorem n10_15 (a1 a2 : Int32) {s : Sg} (h : J_ s) : wp_ (fX10_loadings a1 a2 s) (fun q => J_ q.2) := j10_ h (c10_15 a1 a2 h.1) (kk_k (loadings_ok h.1.2.1 h.1.2.2))
set_option maxRecDepth 20000 in
theorem n9_16 (a1 a2 a3 : Int32) {s : Sg} (h : J_ s) : wp_ (fX9_gentle a1 a2 a3 s) (fun q => J_ q.2) := j9_ h (h9_g (tX9_gentle a1 a2 a3 s h.1.1)) (ya_fX9_gentle a1 a2 a3 s)
set_option maxRecDepth 20000 in
theorem n10_16 (a1 a2 a3 : Int32) {s : Sg} (h : J_ s) : wp_ (fX10_gentle a1 a2 a3 s) (fun q => J_ q.2) := j10_ h (c10_16 a1 a2 a3 h.1) (kk_k (gentle_ok h.1.2.1 h.1.2.2))
set_option maxRecDepth 20000 in
theorem n9_19 (a1 : Int32) {s : Sg} (h : J_ s) : wp_ (fX9_span a1 s) (fun q => J_ q.2) := j9_ h (h9_g (tX9_span a1 s h.1.1)) (ya_fX9_span a1 s)
set_option maxRecDepth 20000 in
theorem n10_19 (a1 : Int32) {s : Sg} (h : J_ s) : wp_ (fX10_span a1 s) (fun q => J_ q.2) := j10_ h (c10_19 a1 h.1) (kk_b (span_ok h.1.2.1 h.1.2.2))
set_option maxRecDepth 20000 in
theorem n9_20 (a1 a2 : Int32) {s : Sg} (h : J_ s) : wp_ (fX9_bent a1 a2 s) (fun q => J_ q.2) := j9_ h (h9_g (tX9_bent a1 a2 s h.1.1)) (ya_fX9_bent a1 a2 s)
set_option maxRecDepth 20000 in
theorem n10_20 (a1 a2 : Int32) {s : Sg} (h : J_ s) : wp_ (fX10_bent a1 a2 s) (fun q => J_ q.2) := j10_ h (c10_20 a1 a2 h.1) (kk_k (bent_ok h.1.2.1 h.1.2.2))
set_option maxRecDepth 20000 in
theorem n9_21 (a1 a2 : Int32) {s : Sg} (h : J_ s) : wp_ (fX9_balanced a1 a2 s) (fun q => J_ q.2) := j9_ h (h9_g (tX9_balanced a1 a2 s h.1.1)) (ya_fX9_balanced a1 a2 s)
set_option maxRecDepth 20000 in
theorem n10_21 (a1 a2 : Int32) {s : Sg} (h : J_ s) : wp_ (fX10_balanced a1 a2 s) (fun q => J_ q.2) := j10_ h (c10_21 a1 a2 h.1) (kk_z (tkX10_balanced a1 a2 s h.1.2.1))
set_option maxRecDepth 20000 in
theorem n9_22 (a1 a2 : Int32) {s : Sg} (h : J_ s) : wp_ (fX9_weights a1 a2 s) (fun q => J_ q.2) := j9_ h (h9_e h.1.1 (tX9_weights a1 a2 s h.1.1)) (ya_fX9_weights a1 a2 s)
set_option maxRecDepth 20000 in
theorem n10_22 (a1 a2 : Int32) {s : Sg} (h : J_ s) : wp_ (fX10_weights a1 a2 s) (fun q => J_ q.2) := j10_ h (c10_22 a1 a2 h.1) (kk_k (weights_ok h.1.2.1))
set_option maxRecDepth 20000 in
theorem n9_23 (a1 a2 a3 : Int32) {s : Sg} (h : J_ s) : wp_ (fX9_rest a1 a2 a3 s) (fun q => J_ q.2) := j9_ h (h9_g (tX9_rest a1 a2 a3 s h.1.1)) (ya_fX9_rest a1 a2 a3 s)
set_option maxRecDepth 20000 in
theorem n10_23 (a1 a2 a3 : Int32) {s : Sg} (h : J_ s) : wp_ (fX10_rest a1 a2 a3 s) (fun q => J_ q.2) := j10_ h (c10_23 a1 a2 a3 h.1) (kk_b (rest_ok h.1.2.1 h.1.2.2))
set_option maxRecDepth 20000 in
theorem n9_26 (a1 : Int32) {s : Sg} (h : J_ s) : wp_ (fX9_about a1 s) (fun q => J_ q.2) := j9_ h (h9_e h.1.1 (tX9_about a1 s h.1.1)) (ya_fX9_about a1 s)
set_option maxRecDepth 20000 in
theorem n10_26 (a1 : Int32) {s : Sg} (h : J_ s) : wp_ (fX10_about a1 s) (fun q => J_ q.2) := j10_ h (c10_26 a1 h.1) (kk_e (tX10_about a1 s h.1.2.1))
