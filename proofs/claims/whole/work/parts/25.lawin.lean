set_option maxRecDepth 20000 in
theorem li_r1 : GoodIn lw_tbl wsL_law_r1 := goodIn_p _ [47, 50] rfl (by decide +kernel)
set_option maxRecDepth 20000 in
theorem li_r2 : GoodIn lw_tbl wsL_law_r2 := goodIn_p _ [55, 85] rfl (by decide +kernel)
set_option maxRecDepth 20000 in
theorem li_r3 : GoodIn lw_tbl wsL_law_r3 := goodIn_p _ [111, 116, 429] rfl (by decide +kernel)
set_option maxRecDepth 20000 in
theorem li_r4 : GoodIn lw_tbl wsL_law_r4 := goodIn_p _ [149, 153, 168] rfl (by decide +kernel)
set_option maxRecDepth 20000 in
theorem li_r5 : GoodIn lw_tbl wsL_law_r5 := goodIn_p _ [157, 161, 165, 172, 175, 181] rfl (by decide +kernel)
set_option maxRecDepth 20000 in
theorem li_r6 : GoodIn lw_tbl wsL_law_r6 := goodIn_p _ [510, 513, 517, 521, 188, 192] rfl (by decide +kernel)
set_option maxRecDepth 20000 in
theorem li_r7 : GoodIn lw_tbl wsL_law_r7 := goodIn_p _ [196, 200, 525, 205, 529] rfl (by decide +kernel)
set_option maxRecDepth 20000 in
theorem li_r8 : GoodIn lw_tbl wsL_law_r8 := goodIn_p _ [533, 210, 213, 537, 220] rfl (by decide +kernel)
set_option maxRecDepth 20000 in
theorem li_r9 : GoodIn lw_tbl wsL_law_r9 := goodIn_p _ [224, 227, 231, 541, 236, 239] rfl (by decide +kernel)
set_option maxRecDepth 20000 in
theorem li_r10 : GoodIn lw_tbl wsL_law_r10 := goodIn_p _ [243, 248, 549, 552, 252, 256, 556] rfl (by decide +kernel)
set_option maxRecDepth 20000 in
theorem li_r11 : GoodIn lw_tbl wsL_law_r11 := goodIn_p _ [260, 264, 269, 273, 277] rfl (by decide +kernel)
set_option maxRecDepth 20000 in
theorem li_r12 : GoodIn lw_tbl wsL_law_r12 := goodIn_p _ [283, 287, 291, 295, 300, 304] rfl (by decide +kernel)
set_option maxRecDepth 20000 in
theorem li_r13 : GoodIn lw_tbl wsL_law_r13 := goodIn_p _ [307, 311, 315, 319, 323, 327] rfl (by decide +kernel)
set_option maxRecDepth 20000 in
theorem li_r14 : GoodIn lw_tbl wsL_law_r14 := goodIn_p _ [331, 335, 339, 343, 347, 351] rfl (by decide +kernel)
set_option maxRecDepth 20000 in
theorem li_r15 : GoodIn lw_tbl wsL_law_r15 := goodIn_p _ [355, 359, 364, 368, 372, 560] rfl (by decide +kernel)
set_option maxRecDepth 20000 in
theorem li_r16 : GoodIn lw_tbl wsL_law_r16 := goodIn_p _ [564, 568, 572, 576, 580] rfl (by decide +kernel)
set_option maxRecDepth 20000 in
theorem li_r17 : GoodIn lw_tbl wsL_law_r17 := goodIn_p _ [584, 588, 592, 596, 600, 604] rfl (by decide +kernel)
set_option maxRecDepth 20000 in
theorem li_r18 : GoodIn lw_tbl wsL_law_r18 := goodIn_p _ [376, 380, 608, 384, 612, 388] rfl (by decide +kernel)
set_option maxRecDepth 20000 in
theorem li_r19 : GoodIn lw_tbl wsL_law_r19 := goodIn_p _ [616, 392, 396, 401, 405] rfl (by decide +kernel)
set_option maxRecDepth 20000 in
theorem li_r20 : GoodIn lw_tbl wsL_law_r20 := goodIn_p _ [409, 620, 624, 628, 414, 418] rfl (by decide +kernel)
set_option maxRecDepth 20000 in
theorem li_r21 : GoodIn lw_tbl wsL_law_r21 := goodIn_p _ [632, 424, 545] rfl (by decide +kernel)
set_option maxRecDepth 20000 in
theorem li_wsX30 : GoodIn lw_tbl wsX30 := goodIn_of _ (by decide +kernel)
set_option maxRecDepth 20000 in
theorem li_wsX40 : GoodIn lw_tbl wsX40 := goodIn_of _ (by decide +kernel)
set_option maxRecDepth 20000 in
theorem li_wsX10 : GoodIn lw_tbl wsX10 := goodIn_of _ (by decide +kernel)
set_option maxRecDepth 20000 in
theorem li_wsX20 : GoodIn lw_tbl wsX20 := goodIn_of _ (by decide +kernel)
set_option maxRecDepth 20000 in
theorem li_wsX00 : GoodIn lw_tbl wsX00 := goodIn_of _ (by decide +kernel)
set_option maxRecDepth 20000 in
theorem wsL_law_good : GoodIn lw_tbl wsL_law := (goodIn_app (goodIn_app (goodIn_app (goodIn_app (goodIn_app (goodIn_app (goodIn_app li_r1 (goodIn_app li_r2 (goodIn_app li_r3 (goodIn_app li_r4 (goodIn_app li_r5 (goodIn_app li_r6 (goodIn_app li_r7 (goodIn_app li_r8 (goodIn_app li_r9 (goodIn_app li_r10 (goodIn_app li_r11 (goodIn_app li_r12 (goodIn_app li_r13 (goodIn_app li_r14 (goodIn_app li_r15 (goodIn_app li_r16 (goodIn_app li_r17 (goodIn_app li_r18 (goodIn_app li_r19 (goodIn_app li_r20 li_r21)))))))))))))))))))) li_wsX30) li_wsX40) li_wsX10) li_wsX20) li_wsX00) (fun _ h => absurd h List.not_mem_nil))
theorem wsL_law_in : ∀ w ∈ wsL_law, w ∈ lw_tbl := fun w h => (wsL_law_good w h).1
