theorem ti_0 : (0 : Int32).toInt = 0 := by decide
theorem ti_1 : (1 : Int32).toInt = 1 := by decide
theorem ti_2 : (2 : Int32).toInt = 2 := by decide
theorem ti_3 : (3 : Int32).toInt = 3 := by decide
theorem ti_4 : (4 : Int32).toInt = 4 := by decide
theorem ti_5 : (5 : Int32).toInt = 5 := by decide
theorem ti_6 : (6 : Int32).toInt = 6 := by decide
theorem ti_7 : (7 : Int32).toInt = 7 := by decide
theorem ti_8 : (8 : Int32).toInt = 8 := by decide
theorem ti_9 : (9 : Int32).toInt = 9 := by decide
theorem ti_10 : (10 : Int32).toInt = 10 := by decide
theorem ti_11 : (11 : Int32).toInt = 11 := by decide
theorem ti_12 : (12 : Int32).toInt = 12 := by decide
theorem ti_15 : (15 : Int32).toInt = 15 := by decide
theorem ti_16 : (16 : Int32).toInt = 16 := by decide
theorem ti_31 : (31 : Int32).toInt = 31 := by decide
theorem ti_99 : (99 : Int32).toInt = 99 := by decide
theorem ti_999 : (999 : Int32).toInt = 999 := by decide
theorem ti_m1 : (-1 : Int32).toInt = -1 := by decide
theorem isIn0 (a b c : Int32) : (pfX8_isIn_r a b c = 0) = (a < b ∨ c < a) := by
  apply propext
  unfold pfX8_isIn_r
  by_cases h1 : a < b
  · rw [if_pos h1]; exact ⟨fun _ => Or.inl h1, fun _ => rfl⟩
  · rw [if_neg h1]
    by_cases h2 : c < a
    · rw [if_pos h2]; exact ⟨fun _ => Or.inr h2, fun _ => rfl⟩
    · rw [if_neg h2]
      exact ⟨fun h => absurd h (by decide), fun h => by rcases h with h | h <;> contradiction⟩
set_option maxHeartbeats 4000000 in
theorem eq_setup (p1 p2 p3 : Int32) : pfX7_setup_r p1 p2 p3 = pfX8_setup_r p1 p2 p3 := by
  unfold pfX7_setup_r pfX8_setup_r
  simp only [isIn0]
  repeat' split
  all_goals first | rfl | (exfalso; simp only [Int32.lt_iff_toInt_lt, Int32.le_iff_toInt_le, ← Int32.toInt_inj, ti_0, ti_1, ti_2, ti_3, ti_4, ti_5, ti_6, ti_7, ti_8, ti_9, ti_10, ti_11, ti_12, ti_15, ti_16, ti_31, ti_99, ti_999, ti_m1] at *; omega)
set_option maxHeartbeats 4000000 in
theorem eq_offer (p1 : Int32) : pfX7_offer_r p1 = pfX8_offer_r p1 := by
  unfold pfX7_offer_r pfX8_offer_r
  simp only [isIn0]
  repeat' split
  all_goals first | rfl | (exfalso; simp only [Int32.lt_iff_toInt_lt, Int32.le_iff_toInt_le, ← Int32.toInt_inj, ti_0, ti_1, ti_2, ti_3, ti_4, ti_5, ti_6, ti_7, ti_8, ti_9, ti_10, ti_11, ti_12, ti_15, ti_16, ti_31, ti_99, ti_999, ti_m1] at *; omega)
set_option maxHeartbeats 4000000 in
theorem eq_steps (p1 : Int32) : pfX7_steps_r p1 = pfX8_steps_r p1 := by
  unfold pfX7_steps_r pfX8_steps_r
  simp only [isIn0]
  repeat' split
  all_goals first | rfl | (exfalso; simp only [Int32.lt_iff_toInt_lt, Int32.le_iff_toInt_le, ← Int32.toInt_inj, ti_0, ti_1, ti_2, ti_3, ti_4, ti_5, ti_6, ti_7, ti_8, ti_9, ti_10, ti_11, ti_12, ti_15, ti_16, ti_31, ti_99, ti_999, ti_m1] at *; omega)
set_option maxHeartbeats 4000000 in
theorem eq_hush (p1 p2 : Int32) : pfX2_tellHush_0_r p1 p2 = pfX8_hush_r p1 p2 := by
  unfold pfX2_tellHush_0_r pfX8_hush_r
  simp only [isIn0]
  repeat' split
  all_goals first | rfl | (exfalso; simp only [Int32.lt_iff_toInt_lt, Int32.le_iff_toInt_le, ← Int32.toInt_inj, ti_0, ti_1, ti_2, ti_3, ti_4, ti_5, ti_6, ti_7, ti_8, ti_9, ti_10, ti_11, ti_12, ti_15, ti_16, ti_31, ti_99, ti_999, ti_m1] at *; omega)
theorem eq_chain (p1 : Int32) : pfX7_chain_r p1 = pfX8_chain_r p1 := by
  unfold pfX7_chain_r pfX8_chain_r pfX6_goOuter_0_r pfX6_goOuter_0_xw_3 pfX8_walksIn_0_r pfX8_walksIn_0_y_16
  by_cases h1 : p1 < 0
  · have h : pfX8_isIn_r p1 0 3 = 0 := by rw [isIn0]; exact Or.inl h1
    simp only [h1, h, if_true] <;> decide
  · by_cases h2 : 4 ≤ p1
    · have h : pfX8_isIn_r p1 0 3 = 0 := by
        rw [isIn0]
        refine Or.inr ?_
        simp only [Int32.lt_iff_toInt_lt, Int32.le_iff_toInt_le, ti_3, ti_4] at *
        omega
      simp only [h1, h2, h, if_true, if_false] <;> decide
    · have h : ¬ pfX8_isIn_r p1 0 3 = 0 := by
        rw [isIn0]
        intro z
        simp only [Int32.lt_iff_toInt_lt, Int32.le_iff_toInt_le, ti_3, ti_4, ti_0] at *
        omega
      simp only [h1, h2, h, if_false] <;> decide
set_option maxHeartbeats 4000000 in
theorem eq_played (p1 : Int32) : pfX7_played_r p1 = pfX8_played_r p1 := by
  unfold pfX7_played_r pfX8_played_r pfX4_number_0_r
  repeat' split
  all_goals first | rfl | (exfalso; simp only [Int32.lt_iff_toInt_lt, Int32.le_iff_toInt_le, ← Int32.toInt_inj, ti_0, ti_1, ti_2, ti_3, ti_4, ti_5, ti_6, ti_7, ti_8, ti_9, ti_10, ti_11, ti_12, ti_15, ti_16, ti_31, ti_99, ti_999, ti_m1] at *; omega)
theorem ev16 : ∀ j, j < 16 → ((0 + nI j) &&& 15) = ((0 + nI j) - (0 + nI j) / 16 * 16) := by decide
theorem eq_event (p1 p2 : Int32) : pfX2_tellEvent_0_r p1 p2 = pfX8_event_r p1 p2 := by
  have hv : ¬ p2 < 0 → p2 < 16 → ((0 + p2) &&& 15) = ((0 + p2) - (0 + p2) / 16 * 16) := by
    intro h1 h2
    obtain ⟨j, hj, rfl⟩ := zof (n := 16) h1 (znl2 h2) (by decide)
    exact ev16 j hj
  unfold pfX2_tellEvent_0_r pfX8_event_r
  simp only [isIn0]
  repeat' split
  all_goals first | rfl | (exact hv (by assumption) (by assumption)) | (exfalso; simp only [Int32.lt_iff_toInt_lt, Int32.le_iff_toInt_le, ← Int32.toInt_inj, ti_0, ti_1, ti_2, ti_3, ti_4, ti_5, ti_6, ti_7, ti_8, ti_9, ti_10, ti_11, ti_12, ti_15, ti_16, ti_31, ti_99, ti_999, ti_m1] at *; omega)
theorem due16 : ∀ a, a < 16 → ∀ b, b < 16 → ∀ c, c < 16 → (if (pfX2_isPassed_r (nI a) (nI b) (nI c)) = 0 then (0 : Int32) else 1) = pfX8_isDue_r (nI a) (nI b) (nI c) := by decide +kernel
theorem eq_due (p1 p2 p3 : Int32) : pfX7_due_r p1 p2 p3 = pfX8_due_r p1 p2 p3 := by
  have hv : ¬ p1 < 0 → ¬ 16 ≤ p1 → ¬ p2 < 0 → ¬ 16 ≤ p2 → ¬ p3 < 0 → ¬ 16 ≤ p3 → (if (pfX2_isPassed_r p1 p2 p3) = 0 then (0 : Int32) else 1) = pfX8_isDue_r p1 p2 p3 := by
    intro a1 a2 b1 b2 c1 c2
    obtain ⟨a, ha, rfl⟩ := zof (n := 16) a1 a2 (by decide)
    obtain ⟨b, hb, rfl⟩ := zof (n := 16) b1 b2 (by decide)
    obtain ⟨c, hc, rfl⟩ := zof (n := 16) c1 c2 (by decide)
    exact due16 a ha b hb c hc
  unfold pfX7_due_r pfX8_due_r
  simp only [isIn0]
  generalize (if (pfX2_isPassed_r p1 p2 p3) = 0 then (0 : Int32) else 1) = u at hv ⊢
  generalize pfX8_isDue_r p1 p2 p3 = v at hv ⊢
  repeat' split
  all_goals first | rfl | (exact hv (by assumption) (by assumption) (by assumption) (by assumption) (by assumption) (by assumption)) | (exfalso; clear hv; simp only [Int32.lt_iff_toInt_lt, Int32.le_iff_toInt_le, ← Int32.toInt_inj, ti_0, ti_1, ti_2, ti_3, ti_4, ti_5, ti_6, ti_7, ti_8, ti_9, ti_10, ti_11, ti_12, ti_15, ti_16, ti_31, ti_99, ti_999, ti_m1] at *; omega)
theorem now13 : ∀ j, j ≤ 12 → gl [0, 0, 0, 0, 4, 0, 0, 0, 0, 0, 0, 0, (-1), (-1), 0, 0, 0, 0, 0, 4, 0, 16] (Int32.toNatClampNeg (nI j)) = pfX8_now_r (nI j) := by decide +kernel
theorem eq_now (p1 : Int32) : pfX7_now_r p1 = pfX8_now_r p1 := by
  unfold pfX7_now_r
  by_cases h1 : p1 < 0
  · rw [if_pos h1]
    unfold pfX8_now_r
    repeat' split
    all_goals first | rfl | (exfalso; simp only [Int32.lt_iff_toInt_lt, Int32.le_iff_toInt_le, ← Int32.toInt_inj, ti_0, ti_1, ti_2, ti_3, ti_4, ti_5, ti_6, ti_7, ti_8, ti_9, ti_10, ti_11, ti_12, ti_15, ti_16, ti_31, ti_99, ti_999, ti_m1] at *; omega)
  · rw [if_neg h1]
    by_cases h2 : 12 < p1
    · rw [if_pos h2]
      unfold pfX8_now_r
      repeat' split
      all_goals first | rfl | (exfalso; simp only [Int32.lt_iff_toInt_lt, Int32.le_iff_toInt_le, ← Int32.toInt_inj, ti_0, ti_1, ti_2, ti_3, ti_4, ti_5, ti_6, ti_7, ti_8, ti_9, ti_10, ti_11, ti_12, ti_15, ti_16, ti_31, ti_99, ti_999, ti_m1] at *; omega)
    · rw [if_neg h2]
      obtain ⟨j, hj, rfl⟩ := zofT (n := 12) h1 h2 (by decide)
      exact now13 j hj
theorem tab5 : ∀ j, j < 5 → gl [4, 0, 0, 0, 0] (Int32.toNatClampNeg (nI j)) = pfX8_table_r (nI j) := by decide +kernel
theorem eq_table (p1 : Int32) : pfX2_sizeOf_r p1 = pfX8_table_r p1 := by
  unfold pfX2_sizeOf_r
  by_cases h1 : p1 < 0
  · rw [if_pos h1]; unfold pfX8_table_r; rw [if_pos (by rw [isIn0]; exact Or.inl h1)]
  · rw [if_neg h1]
    by_cases h2 : 5 ≤ p1
    · rw [if_pos h2]; unfold pfX8_table_r
      rw [if_pos]
      rw [isIn0]
      refine Or.inr ?_
      simp only [Int32.lt_iff_toInt_lt, Int32.le_iff_toInt_le, ti_4, ti_5] at *; omega
    · rw [if_neg h2]
      obtain ⟨j, hj, rfl⟩ := zof (n := 5) h1 h2 (by decide)
      exact tab5 j hj
theorem row12 : ∀ a, a < 8 → ∀ c, c ≤ 2 → gl [(-1), (-1), (-1), (-1), (-1), (-1), (-1), (-1), (-1), (-1), (-1), (-1), (-1), (-1), (-1), (-1), (-1), (-1), (-1), (-1), (-1), (-1), (-1), (-1)] (Int32.toNatClampNeg ((nI a * 3) + nI c)) = -1 := by decide +kernel
theorem eq_row (p1 p2 : Int32) : pfX2_rowAt_r (gl [(-1), (-1), (-1), (-1), (-1), (-1), (-1), (-1), (-1), (-1), (-1), (-1), (-1), (-1), (-1), (-1), (-1), (-1), (-1), (-1), (-1), (-1), (-1), (-1)]) p1 p2 = -1 := by
  unfold pfX2_rowAt_r
  by_cases h1 : p1 < 0
  · rw [if_pos h1]
  rw [if_neg h1]
  by_cases h2 : 4 ≤ p1
  · rw [if_pos h2]
  rw [if_neg h2]
  by_cases h3 : 8 ≤ p1
  · rw [if_pos h3]
  rw [if_neg h3]
  by_cases h4 : p2 < 0
  · rw [if_pos h4]
  rw [if_neg h4]
  by_cases h5 : 2 < p2
  · rw [if_pos h5]
  rw [if_neg h5]
  obtain ⟨a, ha, rfl⟩ := zof (n := 8) h1 h3 (by decide)
  obtain ⟨c, hc, rfl⟩ := zofT (n := 2) h4 h5 (by decide)
  exact row12 a ha c hc
theorem desc120 : ∀ a, a < 5 → ∀ b, b < 8 → ∀ c, c ≤ 2 → ¬ gl [4, 0, 0, 0, 0] (Int32.toNatClampNeg (nI a)) ≤ nI b → ¬ pfX8_isDescriptor_r (nI a) (nI b) (nI c) = 0 := by decide +kernel
theorem cellD (p1 p2 p3 : Int32) : pfX2_cell_r 4 (fun _ => 0) p1 p2 p3 = if pfX8_isDescriptor_r p1 p2 p3 = 0 then -1 else 0 := by
  by_cases h : pfX8_isDescriptor_r p1 p2 p3 = 0
  · rw [if_pos h]
    unfold pfX2_cell_r
    by_cases h1 : p1 < 0
    · rw [if_pos h1]
    rw [if_neg h1]
    by_cases h2 : 5 ≤ p1
    · rw [if_pos h2]
    rw [if_neg h2]
    by_cases h3 : p2 < 0
    · rw [if_pos h3]
    rw [if_neg h3]
    by_cases h4 : 8 ≤ p2
    · rw [if_pos h4]
    rw [if_neg h4]
    by_cases h5 : p3 < 0
    · rw [if_pos h5]
    rw [if_neg h5]
    by_cases h6 : 2 < p3
    · rw [if_pos h6]
    rw [if_neg h6]
    by_cases h7 : gl [4, 0, 0, 0, 0] (Int32.toNatClampNeg p1) ≤ p2
    · rw [if_pos h7]
    obtain ⟨a, ha, rfl⟩ := zof (n := 5) h1 h2 (by decide)
    obtain ⟨b, hb, rfl⟩ := zof (n := 8) h3 h4 (by decide)
    obtain ⟨c, hc, rfl⟩ := zofT (n := 2) h5 h6 (by decide)
    exact absurd h (desc120 a ha b hb c hc h7)
  · rw [if_neg h]
    obtain ⟨rfl, i, w, hi, hw, rfl, rfl⟩ := desc0 h
    exact cell0 rfl hi rfl hw
theorem eq_descriptor (p1 p2 p3 : Int32) : pfX2_cell_r 4 (fun _ => 0) p1 p2 p3 = pfX8_descriptor_r p1 p2 p3 := by
  rw [cellD]; rfl
theorem eq_spoil (p1 p2 p3 p4 : Int32) : pfX7_spoil_r p1 p2 p3 p4 = pfX8_spoil_r p1 p2 p3 p4 := by
  unfold pfX7_spoil_r pfX8_spoil_r
  rw [cellD]
  by_cases h : pfX8_isDescriptor_r p1 p2 p3 = 0
  · simp only [h, if_true]
    repeat' split
    all_goals first | rfl | contradiction
  · simp only [h, if_false, isIn0]
    repeat' split
    all_goals first | rfl | (exfalso; clear h; simp only [Int32.lt_iff_toInt_lt, Int32.le_iff_toInt_le, ← Int32.toInt_inj, ti_0, ti_1, ti_2, ti_3, ti_4, ti_5, ti_6, ti_7, ti_8, ti_9, ti_10, ti_11, ti_12, ti_15, ti_16, ti_31, ti_99, ti_999, ti_m1] at *; omega)
