set_option maxRecDepth 20000 in
theorem u9_0 (a1 a2 a3 : Int32) {s : Sg} (h : U_ s) : wp_ (fX9_beam a1 a2 a3 s) (fun q => U_ q.2) := u9t_ h (h9_g (tX9_beam a1 a2 a3 s h.1.1)) (yt_fX9_beam a1 a2 a3 s)
set_option maxRecDepth 20000 in
theorem u10_0 (a1 a2 a3 : Int32) {s : Sg} (h : U_ s) : wp_ (fX10_beam a1 a2 a3 s) (fun q => U_ q.2) := u10t_ h (c10_0 a1 a2 a3 h.1) (kt_k (kk_z (tkX10_beam a1 a2 a3 s h.1.2.1))) (yt_fX10_beam a1 a2 a3 s)
set_option maxRecDepth 20000 in
theorem u9_1 (a1 a2 : Int32) {s : Sg} (h : U_ s) : wp_ (fX9_thing a1 a2 s) (fun q => U_ q.2) := u9t_ h (h9_g (tX9_thing a1 a2 s h.1.1)) (yt_fX9_thing a1 a2 s)
set_option maxRecDepth 20000 in
theorem u10_1 (a1 a2 : Int32) {s : Sg} (h : U_ s) : wp_ (fX10_thing a1 a2 s) (fun q => U_ q.2) := u10t_ h (c10_1 a1 a2 h.1) (kt_thing h.1.2.1) (yt_fX10_thing a1 a2 s)
set_option maxRecDepth 20000 in
theorem u9_2 (a1 a2 a3 : Int32) {s : Sg} (h : U_ s) : wp_ (fX9_weather a1 a2 a3 s) (fun q => U_ q.2) := u9t_ h (h9_g (tX9_weather a1 a2 a3 s h.1.1)) (yt_fX9_weather a1 a2 a3 s)
set_option maxRecDepth 20000 in
theorem u10_2 (a1 a2 a3 : Int32) {s : Sg} (h : U_ s) : wp_ (fX10_weather a1 a2 a3 s) (fun q => U_ q.2) := u10t_ h (c10_2 a1 a2 a3 h.1) (kt_k (kk_z (tkX10_weather a1 a2 a3 s h.1.2.1))) (yt_fX10_weather a1 a2 a3 s)
set_option maxRecDepth 20000 in
theorem u9_6 (a1 : Int32) {s : Sg} (h : U_ s) : wp_ (fX9_fault a1 s) (fun q => U_ q.2) := u9t_ h (h9_e h.1.1 (tX9_fault a1 s h.1.1)) (yt_fX9_fault a1 s)
set_option maxRecDepth 20000 in
theorem u10_6 (a1 : Int32) {s : Sg} (h : U_ s) : wp_ (fX10_fault a1 s) (fun q => U_ q.2) := u10t_ h (c10_6 a1 h.1) (kt_k (kk_e (tX10_fault a1 s h.1.2.1))) (yt_fX10_fault a1 s)
set_option maxRecDepth 20000 in
theorem u9_7 (a1 : Int32) {s : Sg} (h : U_ s) : wp_ (fX9_by a1 s) (fun q => U_ q.2) := u9t_ h (tX9_by a1 s h.1.1) (yt_fX9_by a1 s)
set_option maxRecDepth 20000 in
theorem u10_7 (a1 : Int32) {s : Sg} (h : U_ s) : wp_ (fX10_by a1 s) (fun q => U_ q.2) := u10t_ h (c10_7 a1 h.1) (kt_k (kk_z (tkX10_by a1 s h.1.2.1))) (yt_fX10_by a1 s)
set_option maxRecDepth 20000 in
theorem u9_8 (a1 a2 : Int32) {s : Sg} (h : U_ s) : wp_ (fX9_put a1 a2 s) (fun q => U_ q.2) := u9t_ h (h9_g (tX9_put a1 a2 s h.1.1)) (yt_fX9_put a1 a2 s)
set_option maxRecDepth 20000 in
theorem u10_8 (a1 a2 : Int32) {s : Sg} (h : U_ s) : wp_ (fX10_put a1 a2 s) (fun q => U_ q.2) := u10t_ h (c10_8 a1 a2 h.1) (kt_k (kk_k (putk h.1.2.1 h.1.2.2))) (yt_fX10_put a1 a2 s)
set_option maxRecDepth 20000 in
theorem u9_9 (a1 : Int32) {s : Sg} (h : U_ s) : wp_ (fX9_take a1 s) (fun q => U_ q.2) := u9t_ h (h9_g (tX9_take a1 s h.1.1)) (yt_fX9_take a1 s)
set_option maxRecDepth 20000 in
theorem u10_9 (a1 : Int32) {s : Sg} (h : U_ s) : wp_ (fX10_take a1 s) (fun q => U_ q.2) := u10t_ h (c10_9 a1 h.1) (kt_k (kk_k (takek h.1.2.1 h.1.2.2))) (yt_fX10_take a1 s)
set_option maxRecDepth 20000 in
theorem u9_10 (a1 : Int32) {s : Sg} (h : U_ s) : wp_ (fX9_pass a1 s) (fun q => U_ q.2) := u9t_ h (h9_g (tX9_pass a1 s h.1.1)) (yt_fX9_pass a1 s)
set_option maxRecDepth 20000 in
theorem u10_10 (a1 : Int32) {s : Sg} (h : U_ s) : wp_ (fX10_pass a1 s) (fun q => U_ q.2) := u10t_ h (c10_10 a1 h.1) (kt_k (kk_z (tkX10_pass a1 s h.1.2.1))) (yt_fX10_pass a1 s)
set_option maxRecDepth 20000 in
theorem u9_11 (a1 : Int32) {s : Sg} (h : U_ s) : wp_ (fX9_played a1 s) (fun q => U_ q.2) := u9t_ h (h9_g (tX9_played a1 s h.1.1)) (yt_fX9_played a1 s)
set_option maxRecDepth 20000 in
theorem u10_11 (a1 : Int32) {s : Sg} (h : U_ s) : wp_ (fX10_played a1 s) (fun q => U_ q.2) := u10t_ h (c10_11 a1 h.1) (kt_k (kk_k (playedk h.1.2.1 h.1.2.2))) (yt_fX10_played a1 s)
set_option maxRecDepth 20000 in
theorem u9_12 {s : Sg} (h : U_ s) : wp_ (fX9_undo  s) (fun q => U_ q.2) := u9t_ h (h9_g (tX9_undo  s h.1.1)) (yt_fX9_undo  s)
set_option maxRecDepth 20000 in
theorem u10_12 {s : Sg} (h : U_ s) : wp_ (fX10_undo  s) (fun q => U_ q.2) := u10t_ h (c10_12  h.1) (kt_k (kk_z (tkX10_undo  s h.1.2.1))) (yt_fX10_undo  s)
set_option maxRecDepth 20000 in
theorem u9_13 (a1 a2 : Int32) {s : Sg} (h : U_ s) : wp_ (fX9_of a1 a2 s) (fun q => U_ q.2) := u9t_ h (h9_g (tX9_of a1 a2 s h.1.1)) (yt_fX9_of a1 a2 s)
set_option maxRecDepth 20000 in
theorem u10_13 (a1 a2 : Int32) {s : Sg} (h : U_ s) : wp_ (fX10_of a1 a2 s) (fun q => U_ q.2) := u10t_ h (c10_13 a1 a2 h.1) (kt_k (kk_b (of_ok h.1.2.1 h.1.2.2))) (yt_fX10_of a1 a2 s)
set_option maxRecDepth 20000 in
theorem u9_14 (a1 : Int32) {s : Sg} (h : U_ s) : wp_ (fX9_now a1 s) (fun q => U_ q.2) := u9t_ h (h9_g (tX9_now a1 s h.1.1)) (yt_fX9_now a1 s)
set_option maxRecDepth 20000 in
theorem u10_14 (a1 : Int32) {s : Sg} (h : U_ s) : wp_ (fX10_now a1 s) (fun q => U_ q.2) := u10t_ h (c10_14 a1 h.1) (kt_k (kk_b (now_ok h.1.2.1 h.1.2.2))) (yt_fX10_now a1 s)
set_option maxRecDepth 20000 in
theorem u9_15 (a1 a2 : Int32) {s : Sg} (h : U_ s) : wp_ (fX9_loadings a1 a2 s) (fun q => U_ q.2) := u9t_ h (h9_g (tX9_loadings a1 a2 s h.1.1)) (yt_fX9_loadings a1 a2 s)
set_option maxRecDepth 20000 in
theorem u10_15 (a1 a2 : Int32) {s : Sg} (h : U_ s) : wp_ (fX10_loadings a1 a2 s) (fun q => U_ q.2) := u10t_ h (c10_15 a1 a2 h.1) (kt_k (kk_k (loadings_ok h.1.2.1 h.1.2.2))) (yt_fX10_loadings a1 a2 s)
set_option maxRecDepth 20000 in
theorem u9_16 (a1 a2 a3 : Int32) {s : Sg} (h : U_ s) : wp_ (fX9_gentle a1 a2 a3 s) (fun q => U_ q.2) := u9t_ h (h9_g (tX9_gentle a1 a2 a3 s h.1.1)) (yt_fX9_gentle a1 a2 a3 s)
set_option maxRecDepth 20000 in
theorem u10_16 (a1 a2 a3 : Int32) {s : Sg} (h : U_ s) : wp_ (fX10_gentle a1 a2 a3 s) (fun q => U_ q.2) := u10t_ h (c10_16 a1 a2 a3 h.1) (kt_k (kk_k (gentle_ok h.1.2.1 h.1.2.2))) (yt_fX10_gentle a1 a2 a3 s)
set_option maxRecDepth 20000 in
theorem u9_17 (a1 a2 : Int32) {s : Sg} (h : U_ s) : wp_ (fX9_reading a1 a2 s) (fun q => U_ q.2) := u9t_ h (h9_g (tX9_reading a1 a2 s h.1.1)) (yt_fX9_reading a1 a2 s)
set_option maxRecDepth 20000 in
theorem u10_17 (a1 a2 : Int32) {s : Sg} (h : U_ s) : wp_ (fX10_reading a1 a2 s) (fun q => U_ q.2) := u10t_ h (c10_17 a1 a2 h.1) (kt_reading h.1.2.1 h.1.2.2) (yt_fX10_reading a1 a2 s)
set_option maxRecDepth 20000 in
theorem u9_18 {s : Sg} (h : U_ s) : wp_ (fX9_forget  s) (fun q => U_ q.2) := u9t_ h (h9_g (tX9_forget  s h.1.1)) (yt_fX9_forget  s)
set_option maxRecDepth 20000 in
theorem u10_18 {s : Sg} (h : U_ s) : wp_ (fX10_forget  s) (fun q => U_ q.2) := u10t_ h (c10_18  h.1) (kt_forget h.1.2.1) (yt_fX10_forget  s)
set_option maxRecDepth 20000 in
theorem u9_19 (a1 : Int32) {s : Sg} (h : U_ s) : wp_ (fX9_span a1 s) (fun q => U_ q.2) := u9t_ h (h9_g (tX9_span a1 s h.1.1)) (yt_fX9_span a1 s)
set_option maxRecDepth 20000 in
theorem u10_19 (a1 : Int32) {s : Sg} (h : U_ s) : wp_ (fX10_span a1 s) (fun q => U_ q.2) := u10t_ h (c10_19 a1 h.1) (kt_k (kk_b (span_ok h.1.2.1 h.1.2.2))) (yt_fX10_span a1 s)
set_option maxRecDepth 20000 in
theorem u9_20 (a1 a2 : Int32) {s : Sg} (h : U_ s) : wp_ (fX9_bent a1 a2 s) (fun q => U_ q.2) := u9t_ h (h9_g (tX9_bent a1 a2 s h.1.1)) (yt_fX9_bent a1 a2 s)
set_option maxRecDepth 20000 in
theorem u10_20 (a1 a2 : Int32) {s : Sg} (h : U_ s) : wp_ (fX10_bent a1 a2 s) (fun q => U_ q.2) := u10t_ h (c10_20 a1 a2 h.1) (kt_k (kk_k (bent_ok h.1.2.1 h.1.2.2))) (yt_fX10_bent a1 a2 s)
set_option maxRecDepth 20000 in
theorem u9_21 (a1 a2 : Int32) {s : Sg} (h : U_ s) : wp_ (fX9_balanced a1 a2 s) (fun q => U_ q.2) := u9t_ h (h9_g (tX9_balanced a1 a2 s h.1.1)) (yt_fX9_balanced a1 a2 s)
set_option maxRecDepth 20000 in
theorem u10_21 (a1 a2 : Int32) {s : Sg} (h : U_ s) : wp_ (fX10_balanced a1 a2 s) (fun q => U_ q.2) := u10t_ h (c10_21 a1 a2 h.1) (kt_k (kk_z (tkX10_balanced a1 a2 s h.1.2.1))) (yt_fX10_balanced a1 a2 s)
set_option maxRecDepth 20000 in
theorem u9_22 (a1 a2 : Int32) {s : Sg} (h : U_ s) : wp_ (fX9_weights a1 a2 s) (fun q => U_ q.2) := u9t_ h (h9_e h.1.1 (tX9_weights a1 a2 s h.1.1)) (yt_fX9_weights a1 a2 s)
set_option maxRecDepth 20000 in
theorem u10_22 (a1 a2 : Int32) {s : Sg} (h : U_ s) : wp_ (fX10_weights a1 a2 s) (fun q => U_ q.2) := u10t_ h (c10_22 a1 a2 h.1) (kt_k (kk_k (weights_ok h.1.2.1))) (yt_fX10_weights a1 a2 s)
set_option maxRecDepth 20000 in
theorem u9_23 (a1 a2 a3 : Int32) {s : Sg} (h : U_ s) : wp_ (fX9_rest a1 a2 a3 s) (fun q => U_ q.2) := u9t_ h (h9_g (tX9_rest a1 a2 a3 s h.1.1)) (yt_fX9_rest a1 a2 a3 s)
set_option maxRecDepth 20000 in
theorem u10_23 (a1 a2 a3 : Int32) {s : Sg} (h : U_ s) : wp_ (fX10_rest a1 a2 a3 s) (fun q => U_ q.2) := u10t_ h (c10_23 a1 a2 a3 h.1) (kt_k (kk_b (rest_ok h.1.2.1 h.1.2.2))) (yt_fX10_rest a1 a2 a3 s)
set_option maxRecDepth 20000 in
theorem u9_26 (a1 : Int32) {s : Sg} (h : U_ s) : wp_ (fX9_about a1 s) (fun q => U_ q.2) := u9t_ h (h9_e h.1.1 (tX9_about a1 s h.1.1)) (yt_fX9_about a1 s)
set_option maxRecDepth 20000 in
theorem u10_26 (a1 : Int32) {s : Sg} (h : U_ s) : wp_ (fX10_about a1 s) (fun q => U_ q.2) := u10t_ h (c10_26 a1 h.1) (kt_k (kk_e (tX10_about a1 s h.1.2.1))) (yt_fX10_about a1 s)
