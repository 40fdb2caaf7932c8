set_option maxRecDepth 20000 in
theorem wsL_law_i16 : ∀ w ∈ wsL_law_r16, w ∈ lw_tbl := fun w h => (goodIn_p wsL_law_r16 [1237, 1241, 1245, 1248, 1252, 1256, 1260] (by decide +kernel) (by decide +kernel) w h).1
set_option maxRecDepth 20000 in
theorem wsL_law_i17 : ∀ w ∈ wsL_law_r17, w ∈ lw_tbl := fun w h => (goodIn_p wsL_law_r17 [1264, 1268, 1272, 1276, 1279, 1283] (by decide +kernel) (by decide +kernel) w h).1
set_option maxRecDepth 20000 in
theorem wsL_law_i18 : ∀ w ∈ wsL_law_r18, w ∈ lw_tbl := fun w h => (goodIn_p wsL_law_r18 [1287, 1291, 1295, 1299, 1303, 509] (by decide +kernel) (by decide +kernel) w h).1
set_option maxRecDepth 20000 in
theorem wsL_law_i19 : ∀ w ∈ wsL_law_r19, w ∈ lw_tbl := fun w h => (goodIn_p wsL_law_r19 [513, 517, 521, 525, 529] (by decide +kernel) (by decide +kernel) w h).1
set_option maxRecDepth 20000 in
theorem wsL_law_i20 : ∀ w ∈ wsL_law_r20, w ∈ lw_tbl := fun w h => (goodIn_p wsL_law_r20 [533, 537, 546, 552] (by decide +kernel) (by decide +kernel) w h).1
set_option maxRecDepth 20000 in
theorem wsL_law_i21 : ∀ w ∈ wsL_law_r21, w ∈ lw_tbl := fun w h => (goodIn_p wsL_law_r21 [556, 561, 565, 1307] (by decide +kernel) (by decide +kernel) w h).1
set_option maxRecDepth 20000 in
theorem wsL_law_i22 : ∀ w ∈ wsL_law_r22, w ∈ lw_tbl := fun w h => (goodIn_p wsL_law_r22 [1311, 1315, 1319, 1323, 1327, 1331] (by decide +kernel) (by decide +kernel) w h).1
set_option maxRecDepth 20000 in
theorem wsL_law_i23 : ∀ w ∈ wsL_law_r23, w ∈ lw_tbl := fun w h => (goodIn_p wsL_law_r23 [1335, 1339, 1343, 1347, 569, 573] (by decide +kernel) (by decide +kernel) w h).1
set_option maxRecDepth 20000 in
theorem wsL_law_i24 : ∀ w ∈ wsL_law_r24, w ∈ lw_tbl := fun w h => (goodIn_p wsL_law_r24 [577, 581, 585, 589, 1359, 1363] (by decide +kernel) (by decide +kernel) w h).1
set_option maxRecDepth 20000 in
theorem wsL_law_i25 : ∀ w ∈ wsL_law_r25, w ∈ lw_tbl := fun w h => (goodIn_p wsL_law_r25 [1367, 1371, 1375, 1379, 593, 1383] (by decide +kernel) (by decide +kernel) w h).1
set_option maxRecDepth 20000 in
theorem wsL_law_i26 : ∀ w ∈ wsL_law_r26, w ∈ lw_tbl := fun w h => (goodIn_p wsL_law_r26 [597, 601, 605, 609, 613, 1387] (by decide +kernel) (by decide +kernel) w h).1
set_option maxRecDepth 20000 in
theorem wsL_law_i27 : ∀ w ∈ wsL_law_r27, w ∈ lw_tbl := fun w h => (goodIn_p wsL_law_r27 [1391, 1395, 617, 1399, 621, 625] (by decide +kernel) (by decide +kernel) w h).1
set_option maxRecDepth 20000 in
theorem wsL_law_i28 : ∀ w ∈ wsL_law_r28, w ∈ lw_tbl := fun w h => (goodIn_p wsL_law_r28 [629, 633, 636, 1403, 1407, 1410] (by decide +kernel) (by decide +kernel) w h).1
set_option maxRecDepth 20000 in
theorem wsL_law_i29 : ∀ w ∈ wsL_law_r29, w ∈ lw_tbl := fun w h => (goodIn_p wsL_law_r29 [640, 644, 1414, 648, 652, 1418] (by decide +kernel) (by decide +kernel) w h).1
set_option maxRecDepth 20000 in
theorem wsL_law_i30 : ∀ w ∈ wsL_law_r30, w ∈ lw_tbl := fun w h => (goodIn_p wsL_law_r30 [656, 660, 1422, 664, 668, 1430] (by decide +kernel) (by decide +kernel) w h).1
set_option maxRecDepth 20000 in
theorem wsL_law_i31 : ∀ w ∈ wsL_law_r31, w ∈ lw_tbl := fun w h => (goodIn_p wsL_law_r31 [672, 1434, 676, 1438, 1442] (by decide +kernel) (by decide +kernel) w h).1
