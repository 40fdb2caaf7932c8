set_option maxRecDepth 20000 in
theorem wsL_law_i48 : ∀ w ∈ wsL_law_r48, w ∈ lw_tbl := fun w h => (goodIn_p wsL_law_r48 [976, 1537, 981, 1545, 987] (by decide +kernel) (by decide +kernel) w h).1
set_option maxRecDepth 20000 in
theorem wsL_law_i49 : ∀ w ∈ wsL_law_r49, w ∈ lw_tbl := fun w h => (goodIn_p wsL_law_r49 [992, 1549, 996, 1541, 1000] (by decide +kernel) (by decide +kernel) w h).1
set_option maxRecDepth 20000 in
theorem wsL_law_i50 : ∀ w ∈ wsL_law_r50, w ∈ lw_tbl := fun w h => (goodIn_p wsL_law_r50 [1004, 1009, 1013, 1019, 1553] (by decide +kernel) (by decide +kernel) w h).1
set_option maxRecDepth 20000 in
theorem wsL_law_i51 : ∀ w ∈ wsL_law_r51, w ∈ lw_tbl := fun w h => (goodIn_p wsL_law_r51 [1557, 1561, 1566, 1571] (by decide +kernel) (by decide +kernel) w h).1
set_option maxRecDepth 20000 in
theorem wsL_law_i52 : ∀ w ∈ wsL_law_r52, w ∈ lw_tbl := fun w h => (goodIn_p wsL_law_r52 [1025, 1029, 1579, 1035, 1583, 1039] (by decide +kernel) (by decide +kernel) w h).1
set_option maxRecDepth 20000 in
theorem wsL_law_i53 : ∀ w ∈ wsL_law_r53, w ∈ lw_tbl := fun w h => (goodIn_p wsL_law_r53 [1587] (by decide +kernel) (by decide +kernel) w h).1
set_option maxRecDepth 20000 in
theorem wsL_law_x0 : ∀ w ∈ wsX00, w ∈ lw_tbl := by decide +kernel
set_option maxRecDepth 20000 in
theorem wsL_law_x1 : ∀ w ∈ wsX10, w ∈ lw_tbl := by decide +kernel
set_option maxRecDepth 20000 in
theorem wsL_law_x2 : ∀ w ∈ wsX20, w ∈ lw_tbl := by decide +kernel
set_option maxRecDepth 20000 in
theorem wsL_law_x3 : ∀ w ∈ wsX30, w ∈ lw_tbl := by decide +kernel
set_option maxRecDepth 20000 in
theorem wsL_law_x4 : ∀ w ∈ wsX40, w ∈ lw_tbl := by decide +kernel
set_option maxRecDepth 20000 in
theorem wsL_law_x5 : ∀ w ∈ wsX50, w ∈ lw_tbl := by decide +kernel
set_option maxRecDepth 20000 in
theorem wsL_law_x6 : ∀ w ∈ wsX60, w ∈ lw_tbl := by decide +kernel
set_option maxRecDepth 20000 in
theorem wsL_law_x7 : ∀ w ∈ wsX70, w ∈ lw_tbl := by decide +kernel
set_option maxRecDepth 20000 in
theorem wsL_law_x8 : ∀ w ∈ wsX80, w ∈ lw_tbl := by decide +kernel
theorem wsL_law_in : ∀ w ∈ wsL_law, w ∈ lw_tbl := lw_inapp (lw_inapp (lw_inapp (lw_inapp (lw_inapp (lw_inapp (lw_inapp (lw_inapp (lw_inapp (lw_inapp (lw_inapp wsL_law_i1 (lw_inapp wsL_law_i2 (lw_inapp wsL_law_i3 (lw_inapp wsL_law_i4 (lw_inapp wsL_law_i5 (lw_inapp wsL_law_i6 (lw_inapp wsL_law_i7 (lw_inapp wsL_law_i8 (lw_inapp wsL_law_i9 (lw_inapp wsL_law_i10 (lw_inapp wsL_law_i11 (lw_inapp wsL_law_i12 (lw_inapp wsL_law_i13 (lw_inapp wsL_law_i14 (lw_inapp wsL_law_i15 (lw_inapp wsL_law_i16 (lw_inapp wsL_law_i17 (lw_inapp wsL_law_i18 (lw_inapp wsL_law_i19 (lw_inapp wsL_law_i20 (lw_inapp wsL_law_i21 (lw_inapp wsL_law_i22 (lw_inapp wsL_law_i23 (lw_inapp wsL_law_i24 (lw_inapp wsL_law_i25 (lw_inapp wsL_law_i26 (lw_inapp wsL_law_i27 (lw_inapp wsL_law_i28 (lw_inapp wsL_law_i29 (lw_inapp wsL_law_i30 (lw_inapp wsL_law_i31 (lw_inapp wsL_law_i32 (lw_inapp wsL_law_i33 (lw_inapp wsL_law_i34 (lw_inapp wsL_law_i35 (lw_inapp wsL_law_i36 (lw_inapp wsL_law_i37 (lw_inapp wsL_law_i38 (lw_inapp wsL_law_i39 (lw_inapp wsL_law_i40 (lw_inapp wsL_law_i41 (lw_inapp wsL_law_i42 (lw_inapp wsL_law_i43 (lw_inapp wsL_law_i44 (lw_inapp wsL_law_i45 (lw_inapp wsL_law_i46 (lw_inapp wsL_law_i47 (lw_inapp wsL_law_i48 (lw_inapp wsL_law_i49 (lw_inapp wsL_law_i50 (lw_inapp wsL_law_i51 (lw_inapp wsL_law_i52 wsL_law_i53)))))))))))))))))))))))))))))))))))))))))))))))))))) wsL_law_x7) wsL_law_x8) wsL_law_x5) wsL_law_x0) wsL_law_x2) wsL_law_x6) wsL_law_x1) wsL_law_x4) wsL_law_x3) (fun _ h => absurd h List.not_mem_nil)
