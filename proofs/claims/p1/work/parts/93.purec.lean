theorem in03 (a : Int32) : (pfX8_isIn_r a 0 3 = 0) ↔ (a < 0 ∨ 4 ≤ a) := by
  unfold pfX8_isIn_r
  by_cases c : a < 0
  · rw [if_pos c]; exact ⟨fun _ => Or.inl c, fun _ => rfl⟩
  · rw [if_neg c]
    by_cases c2 : 3 < a
    · rw [if_pos c2]
      refine ⟨fun _ => Or.inr ?_, fun _ => rfl⟩
      rw [i32_lt, ti_3] at c2
      rw [i32_le, ti_4]
      omega
    · rw [if_neg c2]
      refine ⟨fun z => absurd z (by decide), fun z => ?_⟩
      rcases z with z | z
      · exact absurd z c
      · rw [i32_lt, ti_3] at c2
        rw [i32_le, ti_4] at z
        omega
theorem and1 (x : Int32) : x &&& 1 = 0 ∨ x &&& 1 = 1 := by
  rw [pk_and (m := 1) x 1 (by decide)]
  rcases (show x.toBitVec.toNat % 2 ^ 1 = 0 ∨ x.toBitVec.toNat % 2 ^ 1 = 1 by omega) with h | h
  · left; rw [h]; rfl
  · right; rw [h]; rfl
theorem bitA (x k : Int32) : (((x >>> (k &&& 31)) &&& 1) = 0) ↔ (pfX8_bitOf_r x k = 0) := by
  unfold pfX8_bitOf_r
  rcases and1 (x >>> (k &&& 31)) with h | h
  · rw [h, if_neg (by decide)]
  · rw [h, if_pos rfl]
theorem cell_eq {fc gr : Nat → Int32} (hc : ∀ k, k < 12 → fc k = gr (24 + k)) {a : Int32} (h0 : ¬ a < 0) (h4 : ¬ 4 ≤ a) {w : Int32} {k : Nat} (hw : w = nI k) (hk : k < 3) : pfX2_cell_r 4 fc 0 a w = rcell gr a k := by
  obtain ⟨h, hh, rfl⟩ := zof (n := 4) h0 h4 (by decide)
  subst hw
  unfold pfX2_cell_r rcell
  have hw2 : ¬ (2 : Int32) < nI k := by rw [i32_lt, nI_toInt (by omega), ti_2]; omega
  have h8 : ¬ (8 : Int32) ≤ nI h := nI_geL (n := 8) (by decide) (by decide) (by omega)
  rw [if_neg (by decide), if_neg (by decide), if_neg h0, if_neg h8, if_neg (nI_pos (by omega)), if_neg hw2]
  rw [show (gl [(4 : Int32), 0, 0, 0, 0]) (Int32.toNatClampNeg 0) = 4 from rfl, if_neg h4]
  rw [show ((0 : Int32) * 8 + nI h) * 3 + nI k = nI (h * 3 + k) by
    rw [show (0 : Int32) * 8 = nI 0 by decide, nI_add, show (3 : Int32) = nI 3 by decide, pk_mul, nI_add, Nat.zero_add]]
  rw [nI_clamp (by omega), nI_clamp (by omega), hc _ (by omega)]
  congr 1
  omega
theorem wk_0 {fc gr : Nat → Int32} (hc : ∀ k, k < 12 → fc k = gr (24 + k)) (cur had pa wp wy c d pl ll wt wo : Int32) (hen : cnt4 had < 0) :
    LSX6_goOuter_5_ret fc cur had pa c d pl ll wo = FLX8_walksIn_ret gr 0 cur had wp wy c d wt wo ∧ LSX6_goOuter_5_cp fc cur had pa c d pl ll wo = FLX8_walksIn_wc gr 0 cur had wp wy c d wt wo ∧ LSX6_goOuter_5_ld fc cur had pa c d pl ll wo = FLX8_walksIn_wl gr 0 cur had wp wy c d wt wo := by
  exact absurd hen (Nat.not_lt_zero _)
theorem wk_1 {fc gr : Nat → Int32} (hc : ∀ k, k < 12 → fc k = gr (24 + k)) (cur had pa wp wy c d pl ll wt wo : Int32) (hen : cnt4 had < 1) :
    LSX6_goOuter_4_ret fc cur had pa c d pl ll wo = FLX8_walksIn_ret gr 1 cur had wp wy c d wt wo ∧ LSX6_goOuter_4_cp fc cur had pa c d pl ll wo = FLX8_walksIn_wc gr 1 cur had wp wy c d wt wo ∧ LSX6_goOuter_4_ld fc cur had pa c d pl ll wo = FLX8_walksIn_wl gr 1 cur had wp wy c d wt wo := by
  rw [FLX8_walksIn_ret, FLX8_walksIn_wc, FLX8_walksIn_wl]
  unfold LSX6_goOuter_4_ret LSX6_goOuter_4_cp LSX6_goOuter_4_ld
  by_cases c0 : cur < 0
  · have ci := (in03 cur).mpr (Or.inl c0)
    simp only [if_pos c0, if_pos ci, and_self]
  by_cases c4 : 4 ≤ cur
  · have ci := (in03 cur).mpr (Or.inr c4)
    simp only [if_neg c0, if_pos c4, if_pos ci, and_self]
  have ci : ¬ pfX8_isIn_r cur 0 3 = 0 := fun z => by
    rcases (in03 cur).mp z with z | z
    · exact c0 z
    · exact c4 z
  simp only [if_neg c0, if_neg c4, if_neg ci, bitA]
  by_cases cb : ¬ pfX8_bitOf_r had cur = 0
  · simp only [if_neg cb, and_self]
  have cb := Classical.not_not.mp cb
  simp only [if_pos cb, cell_eq hc c0 c4 (w := 0) (k := 0) (by decide) (by decide), cell_eq hc c0 c4 (w := 1) (k := 1) (by decide) (by decide), cell_eq hc c0 c4 (w := 2) (k := 2) (by decide) (by decide)]
  generalize rcell gr cur 1 = f
  generalize rcell gr cur 0 = len
  generalize rcell gr cur 2 = nx
  by_cases cf : ¬ f &&& 4 = 0
  · simp only [if_neg cf, and_self]
  have cf := Classical.not_not.mp cf
  simp only [if_pos cf]
  have e1 : pfX6_isPartTaken_g_r wo f = pfX8_counts_g_r wo f := rfl
  have e2 : pfX6_isPartTaken_g_xl_4 c wo len f = pfX8_counts_g_y_17 c f len := by
    unfold pfX6_isPartTaken_g_xl_4 pfX8_counts_g_y_17
    by_cases z : f &&& 2 = 0
    · rw [if_pos z, if_pos z, Int32.add_zero]; split <;> rfl
    · rw [if_neg z, if_neg z]
  have e3 : pfX6_isPartTaken_g_xl_5 d wo len f = pfX8_counts_g_y_18 d wo f len := by
    unfold pfX6_isPartTaken_g_xl_5 pfX8_counts_g_y_18
    rw [Int32.add_zero]
  have e4 : pfX6_isPartTaken_g_xl_10 wo f = pfX8_counts_g_y_20 wo f := rfl
  rw [e1, e2, e3, e4]
  by_cases ct : pfX8_counts_g_r wo f = 0
  · simp only [if_pos ct, and_self]
  simp only [if_neg ct]
  by_cases cn : f &&& 1 = 0
  · simp only [if_pos cn, and_self]
  simp only [if_neg cn]
  exact wk_0 hc _ _ _ _ _ _ _ _ _ _ _ (cnt4_dec ci cb hen)
theorem wk_2 {fc gr : Nat → Int32} (hc : ∀ k, k < 12 → fc k = gr (24 + k)) (cur had pa wp wy c d pl ll wt wo : Int32) (hen : cnt4 had < 2) :
    LSX6_goOuter_3_ret fc cur had pa c d pl ll wo = FLX8_walksIn_ret gr 2 cur had wp wy c d wt wo ∧ LSX6_goOuter_3_cp fc cur had pa c d pl ll wo = FLX8_walksIn_wc gr 2 cur had wp wy c d wt wo ∧ LSX6_goOuter_3_ld fc cur had pa c d pl ll wo = FLX8_walksIn_wl gr 2 cur had wp wy c d wt wo := by
  rw [FLX8_walksIn_ret, FLX8_walksIn_wc, FLX8_walksIn_wl]
  unfold LSX6_goOuter_3_ret LSX6_goOuter_3_cp LSX6_goOuter_3_ld
  by_cases c0 : cur < 0
  · have ci := (in03 cur).mpr (Or.inl c0)
    simp only [if_pos c0, if_pos ci, and_self]
  by_cases c4 : 4 ≤ cur
  · have ci := (in03 cur).mpr (Or.inr c4)
    simp only [if_neg c0, if_pos c4, if_pos ci, and_self]
  have ci : ¬ pfX8_isIn_r cur 0 3 = 0 := fun z => by
    rcases (in03 cur).mp z with z | z
    · exact c0 z
    · exact c4 z
  simp only [if_neg c0, if_neg c4, if_neg ci, bitA]
  by_cases cb : ¬ pfX8_bitOf_r had cur = 0
  · simp only [if_neg cb, and_self]
  have cb := Classical.not_not.mp cb
  simp only [if_pos cb, cell_eq hc c0 c4 (w := 0) (k := 0) (by decide) (by decide), cell_eq hc c0 c4 (w := 1) (k := 1) (by decide) (by decide), cell_eq hc c0 c4 (w := 2) (k := 2) (by decide) (by decide)]
  generalize rcell gr cur 1 = f
  generalize rcell gr cur 0 = len
  generalize rcell gr cur 2 = nx
  by_cases cf : ¬ f &&& 4 = 0
  · simp only [if_neg cf, and_self]
  have cf := Classical.not_not.mp cf
  simp only [if_pos cf]
  have e1 : pfX6_isPartTaken_g_r wo f = pfX8_counts_g_r wo f := rfl
  have e2 : pfX6_isPartTaken_g_xl_4 c wo len f = pfX8_counts_g_y_17 c f len := by
    unfold pfX6_isPartTaken_g_xl_4 pfX8_counts_g_y_17
    by_cases z : f &&& 2 = 0
    · rw [if_pos z, if_pos z, Int32.add_zero]; split <;> rfl
    · rw [if_neg z, if_neg z]
  have e3 : pfX6_isPartTaken_g_xl_5 d wo len f = pfX8_counts_g_y_18 d wo f len := by
    unfold pfX6_isPartTaken_g_xl_5 pfX8_counts_g_y_18
    rw [Int32.add_zero]
  have e4 : pfX6_isPartTaken_g_xl_10 wo f = pfX8_counts_g_y_20 wo f := rfl
  rw [e1, e2, e3, e4]
  by_cases ct : pfX8_counts_g_r wo f = 0
  · simp only [if_pos ct, and_self]
  simp only [if_neg ct]
  by_cases cn : f &&& 1 = 0
  · simp only [if_pos cn, and_self]
  simp only [if_neg cn]
  exact wk_1 hc _ _ _ _ _ _ _ _ _ _ _ (cnt4_dec ci cb hen)
theorem wk_3 {fc gr : Nat → Int32} (hc : ∀ k, k < 12 → fc k = gr (24 + k)) (cur had pa wp wy c d pl ll wt wo : Int32) (hen : cnt4 had < 3) :
    LSX6_goOuter_2_ret fc cur had pa c d pl ll wo = FLX8_walksIn_ret gr 3 cur had wp wy c d wt wo ∧ LSX6_goOuter_2_cp fc cur had pa c d pl ll wo = FLX8_walksIn_wc gr 3 cur had wp wy c d wt wo ∧ LSX6_goOuter_2_ld fc cur had pa c d pl ll wo = FLX8_walksIn_wl gr 3 cur had wp wy c d wt wo := by
  rw [FLX8_walksIn_ret, FLX8_walksIn_wc, FLX8_walksIn_wl]
  unfold LSX6_goOuter_2_ret LSX6_goOuter_2_cp LSX6_goOuter_2_ld
  by_cases c0 : cur < 0
  · have ci := (in03 cur).mpr (Or.inl c0)
    simp only [if_pos c0, if_pos ci, and_self]
  by_cases c4 : 4 ≤ cur
  · have ci := (in03 cur).mpr (Or.inr c4)
    simp only [if_neg c0, if_pos c4, if_pos ci, and_self]
  have ci : ¬ pfX8_isIn_r cur 0 3 = 0 := fun z => by
    rcases (in03 cur).mp z with z | z
    · exact c0 z
    · exact c4 z
  simp only [if_neg c0, if_neg c4, if_neg ci, bitA]
  by_cases cb : ¬ pfX8_bitOf_r had cur = 0
  · simp only [if_neg cb, and_self]
  have cb := Classical.not_not.mp cb
  simp only [if_pos cb, cell_eq hc c0 c4 (w := 0) (k := 0) (by decide) (by decide), cell_eq hc c0 c4 (w := 1) (k := 1) (by decide) (by decide), cell_eq hc c0 c4 (w := 2) (k := 2) (by decide) (by decide)]
  generalize rcell gr cur 1 = f
  generalize rcell gr cur 0 = len
  generalize rcell gr cur 2 = nx
  by_cases cf : ¬ f &&& 4 = 0
  · simp only [if_neg cf, and_self]
  have cf := Classical.not_not.mp cf
  simp only [if_pos cf]
  have e1 : pfX6_isPartTaken_g_r wo f = pfX8_counts_g_r wo f := rfl
  have e2 : pfX6_isPartTaken_g_xl_4 c wo len f = pfX8_counts_g_y_17 c f len := by
    unfold pfX6_isPartTaken_g_xl_4 pfX8_counts_g_y_17
    by_cases z : f &&& 2 = 0
    · rw [if_pos z, if_pos z, Int32.add_zero]; split <;> rfl
    · rw [if_neg z, if_neg z]
  have e3 : pfX6_isPartTaken_g_xl_5 d wo len f = pfX8_counts_g_y_18 d wo f len := by
    unfold pfX6_isPartTaken_g_xl_5 pfX8_counts_g_y_18
    rw [Int32.add_zero]
  have e4 : pfX6_isPartTaken_g_xl_10 wo f = pfX8_counts_g_y_20 wo f := rfl
  rw [e1, e2, e3, e4]
  by_cases ct : pfX8_counts_g_r wo f = 0
  · simp only [if_pos ct, and_self]
  simp only [if_neg ct]
  by_cases cn : f &&& 1 = 0
  · simp only [if_pos cn, and_self]
  simp only [if_neg cn]
  exact wk_2 hc _ _ _ _ _ _ _ _ _ _ _ (cnt4_dec ci cb hen)
theorem wk_4 {fc gr : Nat → Int32} (hc : ∀ k, k < 12 → fc k = gr (24 + k)) (cur had pa wp wy c d pl ll wt wo : Int32) (hen : cnt4 had < 4) :
    LSX6_goOuter_1_ret fc cur had pa c d pl ll wo = FLX8_walksIn_ret gr 4 cur had wp wy c d wt wo ∧ LSX6_goOuter_1_cp fc cur had pa c d pl ll wo = FLX8_walksIn_wc gr 4 cur had wp wy c d wt wo ∧ LSX6_goOuter_1_ld fc cur had pa c d pl ll wo = FLX8_walksIn_wl gr 4 cur had wp wy c d wt wo := by
  rw [FLX8_walksIn_ret, FLX8_walksIn_wc, FLX8_walksIn_wl]
  unfold LSX6_goOuter_1_ret LSX6_goOuter_1_cp LSX6_goOuter_1_ld
  by_cases c0 : cur < 0
  · have ci := (in03 cur).mpr (Or.inl c0)
    simp only [if_pos c0, if_pos ci, and_self]
  by_cases c4 : 4 ≤ cur
  · have ci := (in03 cur).mpr (Or.inr c4)
    simp only [if_neg c0, if_pos c4, if_pos ci, and_self]
  have ci : ¬ pfX8_isIn_r cur 0 3 = 0 := fun z => by
    rcases (in03 cur).mp z with z | z
    · exact c0 z
    · exact c4 z
  simp only [if_neg c0, if_neg c4, if_neg ci, bitA]
  by_cases cb : ¬ pfX8_bitOf_r had cur = 0
  · simp only [if_neg cb, and_self]
  have cb := Classical.not_not.mp cb
  simp only [if_pos cb, cell_eq hc c0 c4 (w := 0) (k := 0) (by decide) (by decide), cell_eq hc c0 c4 (w := 1) (k := 1) (by decide) (by decide), cell_eq hc c0 c4 (w := 2) (k := 2) (by decide) (by decide)]
  generalize rcell gr cur 1 = f
  generalize rcell gr cur 0 = len
  generalize rcell gr cur 2 = nx
  by_cases cf : ¬ f &&& 4 = 0
  · simp only [if_neg cf, and_self]
  have cf := Classical.not_not.mp cf
  simp only [if_pos cf]
  have e1 : pfX6_isPartTaken_g_r wo f = pfX8_counts_g_r wo f := rfl
  have e2 : pfX6_isPartTaken_g_xl_4 c wo len f = pfX8_counts_g_y_17 c f len := by
    unfold pfX6_isPartTaken_g_xl_4 pfX8_counts_g_y_17
    by_cases z : f &&& 2 = 0
    · rw [if_pos z, if_pos z, Int32.add_zero]; split <;> rfl
    · rw [if_neg z, if_neg z]
  have e3 : pfX6_isPartTaken_g_xl_5 d wo len f = pfX8_counts_g_y_18 d wo f len := by
    unfold pfX6_isPartTaken_g_xl_5 pfX8_counts_g_y_18
    rw [Int32.add_zero]
  have e4 : pfX6_isPartTaken_g_xl_10 wo f = pfX8_counts_g_y_20 wo f := rfl
  rw [e1, e2, e3, e4]
  by_cases ct : pfX8_counts_g_r wo f = 0
  · simp only [if_pos ct, and_self]
  simp only [if_neg ct]
  by_cases cn : f &&& 1 = 0
  · simp only [if_pos cn, and_self]
  simp only [if_neg cn]
  exact wk_3 hc _ _ _ _ _ _ _ _ _ _ _ (cnt4_dec ci cb hen)
theorem wk_5 {fc gr : Nat → Int32} (hc : ∀ k, k < 12 → fc k = gr (24 + k)) (cur had pa wp wy c d pl ll wt wo : Int32) (hen : cnt4 had < 5) :
    LSX6_goOuter_0_ret fc cur had pa c d pl ll wo = FLX8_walksIn_ret gr 5 cur had wp wy c d wt wo ∧ LSX6_goOuter_0_cp fc cur had pa c d pl ll wo = FLX8_walksIn_wc gr 5 cur had wp wy c d wt wo ∧ LSX6_goOuter_0_ld fc cur had pa c d pl ll wo = FLX8_walksIn_wl gr 5 cur had wp wy c d wt wo := by
  rw [FLX8_walksIn_ret, FLX8_walksIn_wc, FLX8_walksIn_wl]
  unfold LSX6_goOuter_0_ret LSX6_goOuter_0_cp LSX6_goOuter_0_ld
  by_cases c0 : cur < 0
  · have ci := (in03 cur).mpr (Or.inl c0)
    simp only [if_pos c0, if_pos ci, and_self]
  by_cases c4 : 4 ≤ cur
  · have ci := (in03 cur).mpr (Or.inr c4)
    simp only [if_neg c0, if_pos c4, if_pos ci, and_self]
  have ci : ¬ pfX8_isIn_r cur 0 3 = 0 := fun z => by
    rcases (in03 cur).mp z with z | z
    · exact c0 z
    · exact c4 z
  simp only [if_neg c0, if_neg c4, if_neg ci, bitA]
  by_cases cb : ¬ pfX8_bitOf_r had cur = 0
  · simp only [if_neg cb, and_self]
  have cb := Classical.not_not.mp cb
  simp only [if_pos cb, cell_eq hc c0 c4 (w := 0) (k := 0) (by decide) (by decide), cell_eq hc c0 c4 (w := 1) (k := 1) (by decide) (by decide), cell_eq hc c0 c4 (w := 2) (k := 2) (by decide) (by decide)]
  generalize rcell gr cur 1 = f
  generalize rcell gr cur 0 = len
  generalize rcell gr cur 2 = nx
  by_cases cf : ¬ f &&& 4 = 0
  · simp only [if_neg cf, and_self]
  have cf := Classical.not_not.mp cf
  simp only [if_pos cf]
  have e1 : pfX6_isPartTaken_g_r wo f = pfX8_counts_g_r wo f := rfl
  have e2 : pfX6_isPartTaken_g_xl_4 c wo len f = pfX8_counts_g_y_17 c f len := by
    unfold pfX6_isPartTaken_g_xl_4 pfX8_counts_g_y_17
    by_cases z : f &&& 2 = 0
    · rw [if_pos z, if_pos z, Int32.add_zero]; split <;> rfl
    · rw [if_neg z, if_neg z]
  have e3 : pfX6_isPartTaken_g_xl_5 d wo len f = pfX8_counts_g_y_18 d wo f len := by
    unfold pfX6_isPartTaken_g_xl_5 pfX8_counts_g_y_18
    rw [Int32.add_zero]
  have e4 : pfX6_isPartTaken_g_xl_10 wo f = pfX8_counts_g_y_20 wo f := rfl
  rw [e1, e2, e3, e4]
  by_cases ct : pfX8_counts_g_r wo f = 0
  · simp only [if_pos ct, and_self]
  simp only [if_neg ct]
  by_cases cn : f &&& 1 = 0
  · simp only [if_pos cn, and_self]
  simp only [if_neg cn]
  exact wk_4 hc _ _ _ _ _ _ _ _ _ _ _ (cnt4_dec ci cb hen)
theorem wk_ret {gr : Nat → Int32} : ∀ (n : Nat) (cur had wp wy c d wt wo : Int32), FLX8_walksIn_ret gr n cur had wp wy c d wt wo = 0 ∨ ¬ FLX8_walksIn_ret gr n cur had wp wy c d wt wo ≤ 0 := by
  intro n
  induction n with
  | zero => intros; left; rw [FLX8_walksIn_ret]
  | succ n ih =>
    intros
    rw [FLX8_walksIn_ret]
    repeat' split
    all_goals first | exact ih _ _ _ _ _ _ _ _ | exact Or.inl rfl | exact Or.inr (by decide)
