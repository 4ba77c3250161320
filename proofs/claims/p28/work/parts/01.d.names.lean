set_option maxRecDepth 20000 in
theorem wsL_law_r16_in : ∀ w ∈ wsL_law0_r16, w ∈ lw_tbl := fun w h => (goodIn_p wsL_law0_r16 [466, 483, 492, 496] (by decide +kernel) (by decide +kernel) w h).1
set_option maxRecDepth 20000 in
theorem wsL_law_r17_in : ∀ w ∈ wsL_law0_r17, w ∈ lw_tbl := fun w h => (goodIn_p wsL_law0_r17 [501, 507, 511, 517, 531] (by decide +kernel) (by decide +kernel) w h).1
set_option maxRecDepth 20000 in
theorem wsL_law_r18_in : ∀ w ∈ wsL_law0_r18, w ∈ lw_tbl := fun w h => (goodIn_p wsL_law0_r18 [535, 541, 545, 549, 554] (by decide +kernel) (by decide +kernel) w h).1
set_option maxRecDepth 20000 in
theorem wsL_law_r19_in : ∀ w ∈ wsL_law0_r19, w ∈ lw_tbl := fun w h => (goodIn_p wsL_law0_r19 [558, 562, 574, 584, 587] (by decide +kernel) (by decide +kernel) w h).1
set_option maxRecDepth 20000 in
theorem wsL_law_r20_in : ∀ w ∈ wsL_law0_r20, w ∈ lw_tbl := fun w h => (goodIn_p wsL_law0_r20 [592, 596, 602, 606, 699] (by decide +kernel) (by decide +kernel) w h).1
set_option maxRecDepth 20000 in
theorem wsL_law_r21_in : ∀ w ∈ wsL_law0_r21, w ∈ lw_tbl := fun w h => (goodIn_p wsL_law0_r21 [702, 705, 708, 686] (by decide +kernel) (by decide +kernel) w h).1
set_option maxRecDepth 20000 in
theorem wsL_law_wsX50_in : ∀ w ∈ wsX50, w ∈ lw_tbl := by decide +kernel
set_option maxRecDepth 20000 in
theorem wsL_law_wsX00_in : ∀ w ∈ wsX00, w ∈ lw_tbl := by decide +kernel
set_option maxRecDepth 20000 in
theorem wsL_law_wsX40_in : ∀ w ∈ wsX40, w ∈ lw_tbl := by decide +kernel
set_option maxRecDepth 20000 in
theorem wsL_law_wsJx4a65c0_in : ∀ w ∈ wsJx4a65c0, w ∈ lw_tbl := by decide +kernel
set_option maxRecDepth 20000 in
theorem wsL_law_wsX30_in : ∀ w ∈ wsX30, w ∈ lw_tbl := by decide +kernel
set_option maxRecDepth 20000 in
theorem wsL_law_wsX20_in : ∀ w ∈ wsX20, w ∈ lw_tbl := by decide +kernel
theorem ws_ap {a b c : List Cond} (ha : ∀ w ∈ a, w ∈ c) (hb : ∀ w ∈ b, w ∈ c) : ∀ w ∈ a ++ b, w ∈ c := fun w h => (List.mem_append.mp h).elim (ha w) (hb w)
theorem wsL_law_in0 : ∀ w ∈ wsL_law0, w ∈ lw_tbl := (ws_ap (ws_ap (ws_ap (ws_ap (ws_ap (ws_ap (ws_ap (ws_ap wsL_law_r1_in (ws_ap wsL_law_r2_in (ws_ap wsL_law_r3_in (ws_ap wsL_law_r4_in (ws_ap wsL_law_r5_in (ws_ap wsL_law_r6_in (ws_ap wsL_law_r7_in (ws_ap wsL_law_r8_in (ws_ap wsL_law_r9_in (ws_ap wsL_law_r10_in (ws_ap wsL_law_r11_in (ws_ap wsL_law_r12_in (ws_ap wsL_law_r13_in (ws_ap wsL_law_r14_in (ws_ap wsL_law_r15_in (ws_ap wsL_law_r16_in (ws_ap wsL_law_r17_in (ws_ap wsL_law_r18_in (ws_ap wsL_law_r19_in (ws_ap wsL_law_r20_in wsL_law_r21_in)))))))))))))))))))) wsL_law_wsX50_in) wsL_law_wsX00_in) wsL_law_wsX40_in) wsL_law_wsJx4a65c0_in) wsL_law_wsX30_in) wsL_law_wsX20_in) (fun _ h => absurd h List.not_mem_nil))
