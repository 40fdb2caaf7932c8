section
variable {nb : Nat} {o0 o1 o2 o3 m0 m1 m2 m3 m4 m5 m7 m14 m15 : Int32} {fc fr fb : Nat → Int32} {oo sn us tk bb : Nat} {e7 e8 e13 : Int32} {gr : Nat → Int32}
theorem lift01 {a b : Int32} (h : a < 0 ↔ b < 0) : ((if a < 0 then 0 else 1) = (0 : Int32) ↔ (if b < 0 then 0 else 1) = (0 : Int32)) := by
  by_cases c : a < 0
  · rw [if_pos c, if_pos (h.mp c)]
  · rw [if_neg c, if_neg (fun z => c (h.mpr z))]
theorem lift01l {a b : Int32} (h : a ≤ 0 ↔ b ≤ 0) : ((if a ≤ 0 then 0 else 1) = (0 : Int32) ↔ (if b ≤ 0 then 0 else 1) = (0 : Int32)) := by
  by_cases c : a ≤ 0
  · rw [if_pos c, if_pos (h.mp c)]
  · rw [if_neg c, if_neg (fun z => c (h.mpr z))]
theorem INV.offs (I : INV nb o0 o1 o2 o3 m0 m1 m2 m3 m4 m5 m7 m14 m15 fc fr fb oo sn us tk bb e7 e8 e13 gr) (hn : nb ≤ 60) (sd : Int32) : ((pfX7_isDrawnChainLaid_r sd m4 m5 m7 o0 o1 o2 o3) = 0 ↔ (pfX8_drawsOffer_r sd bb e13 gr) = 0) ∧ INV (nb + 1) (pfX7_isDrawnChainLaid_a4_0 sd m4 m5 m7 o0 o1 o2 o3) (pfX7_isDrawnChainLaid_a4_1 sd m4 m5 m7 o0 o1 o2 o3) (pfX7_isDrawnChainLaid_a4_2 sd m4 m5 m7 o0 o1 o2 o3) (pfX7_isDrawnChainLaid_a4_3 sd m4 m5 m7 o0 o1 o2 o3) (pfX7_isDrawnChainLaid_a0_0 sd m0 m4 m5 m7 o0 o1 o2 o3) m1 m2 m3 (pfX7_isDrawnChainLaid_a0_4 sd m4 m5 m7 o0 o1 o2 o3) (pfX7_isDrawnChainLaid_a0_5 sd m4 m5 m7 o0 o1 o2 o3) m7 m14 m15 (pfX7_isDrawnChainLaid_a1_f sd m4 m5 m7 o0 o1 o2 o3 fc) (pfX7_isDrawnChainLaid_a3_f sd m0 m4 m5 m7 o0 o1 o2 o3 fr fb) (pfX7_isDrawnChainLaid_a6_f sd m4 m5 m7 o0 o1 o2 o3 fb) (pfX8_drawsOffer_yr_3 sd oo bb e13 gr) sn us tk (pfX8_drawsOffer_yr_16 sd bb e13 gr) e7 e8 e13 (pfX8_drawsOffer_yr_f sd oo bb e13 gr) := by
  unfold pfX7_isDrawnChainLaid_r pfX7_isDrawnChainLaid_a4_0 pfX7_isDrawnChainLaid_a4_1 pfX7_isDrawnChainLaid_a4_2 pfX7_isDrawnChainLaid_a4_3 pfX7_isDrawnChainLaid_a0_0 pfX7_isDrawnChainLaid_a0_4 pfX7_isDrawnChainLaid_a0_5 pfX7_isDrawnChainLaid_a1_f pfX7_isDrawnChainLaid_a3_f pfX7_isDrawnChainLaid_a6_f pfX8_drawsOffer_r pfX8_drawsOffer_yr_3 pfX8_drawsOffer_yr_16 pfX8_drawsOffer_yr_f
  have x3 : pfX8_draw_3_r sd = pfX7_draw_3_r sd := rfl
  have x2 : pfX8_draw_2_r (pfX8_draw_3_y_42 sd) = pfX7_draw_2_r (pfX7_draw_3_x_11 sd) := rfl
  rw [x3, x2]
  generalize pfX7_draw_3_r sd = r
  generalize pfX7_draw_2_r (pfX7_draw_3_x_11 sd) = w
  by_cases c0 : r = 0
  · by_cases c2 : w = 0
    · simp only [if_pos c0, if_pos c2]; exact ⟨lift01 (I.off_10 hn).1, (I.off_10 hn).2⟩
    · simp only [if_pos c0, if_neg c2]; exact ⟨lift01 (I.off_11 hn).1, (I.off_11 hn).2⟩
  · by_cases c1 : r = 1
    · by_cases c2 : w = 0
      · simp only [if_neg c0, if_pos c1, if_pos c2]; exact ⟨lift01 (I.off_20 hn).1, (I.off_20 hn).2⟩
      · simp only [if_neg c0, if_pos c1, if_neg c2]; exact ⟨lift01 (I.off_21 hn).1, (I.off_21 hn).2⟩
    · by_cases c2 : w = 0
      · simp only [if_neg c0, if_neg c1, if_pos c2]; exact ⟨lift01 (I.off_30 hn).1, (I.off_30 hn).2⟩
      · simp only [if_neg c0, if_neg c1, if_neg c2]; exact ⟨lift01 (I.off_31 hn).1, (I.off_31 hn).2⟩
theorem INV.deed (I : INV nb o0 o1 o2 o3 m0 m1 m2 m3 m4 m5 m7 m14 m15 fc fr fb oo sn us tk bb e7 e8 e13 gr) (hn : nb ≤ 60) (sd wt : Int32) : ((pfX7_isDeedDone_r (pfX7_draw_8_x_11 sd) m0 m1 m2 m3 m4 m5 m7 m14 m15 o0 o1 o2 o3 fc fr fb (pfX7_draw_8_r sd)) = 0 ↔ (pfX8_drawDeed_r wt sd oo sn us tk bb e7 e8 e13 gr) = 0) ∧ (pfX7_isDeedDone_x_11 (pfX7_draw_8_x_11 sd) m5 o0 o1 o2 o3 fb (pfX7_draw_8_r sd)) = (pfX8_drawDeed_y_42 sd bb gr) ∧ INV (nb + 1) (pfX7_isDeedDone_a4_0 (pfX7_draw_8_x_11 sd) m2 m3 m4 m5 m7 o0 o1 o2 o3 fr fb (pfX7_draw_8_r sd)) (pfX7_isDeedDone_a4_1 (pfX7_draw_8_x_11 sd) m2 m3 m4 m5 m7 o0 o1 o2 o3 fr fb (pfX7_draw_8_r sd)) (pfX7_isDeedDone_a4_2 (pfX7_draw_8_x_11 sd) m2 m3 m4 m5 m7 o0 o1 o2 o3 fr fb (pfX7_draw_8_r sd)) (pfX7_isDeedDone_a4_3 (pfX7_draw_8_x_11 sd) m2 m3 m4 m5 m7 o0 o1 o2 o3 fr fb (pfX7_draw_8_r sd)) (pfX7_isDeedDone_a0_0 (pfX7_draw_8_x_11 sd) m0 m4 m5 m7 o0 o1 o2 o3 (pfX7_draw_8_r sd)) (pfX7_isDeedDone_a0_1 m0 m1 m5 m7 o0 o1 o2 o3 fc fr fb (pfX7_draw_8_r sd)) (pfX7_isDeedDone_a0_2 (pfX7_draw_8_x_11 sd) m2 m5 m7 o0 o1 o2 o3 fb (pfX7_draw_8_r sd)) (pfX7_isDeedDone_a0_3 m2 m3 m5 o0 o1 o2 o3 fr fb (pfX7_draw_8_r sd)) (pfX7_isDeedDone_a0_4 (pfX7_draw_8_x_11 sd) m2 m3 m4 m5 m7 o0 o1 o2 o3 fr fb (pfX7_draw_8_r sd)) (pfX7_isDeedDone_a0_5 (pfX7_draw_8_x_11 sd) m4 m5 m7 o0 o1 o2 o3 (pfX7_draw_8_r sd)) (pfX7_isDeedDone_a0_7 m0 m1 m5 m7 o0 o1 o2 o3 fc fr fb (pfX7_draw_8_r sd)) (pfX7_isDeedDone_a0_14 m0 m14 (pfX7_draw_8_r sd)) (pfX7_isDeedDone_a0_15 m2 m15 (pfX7_draw_8_r sd)) (pfX7_isDeedDone_a1_f (pfX7_draw_8_x_11 sd) m4 m5 m7 o0 o1 o2 o3 fc (pfX7_draw_8_r sd)) (pfX7_isDeedDone_a3_f (pfX7_draw_8_x_11 sd) m0 m2 m4 m5 m7 o0 o1 o2 o3 fr fb (pfX7_draw_8_r sd)) (pfX7_isDeedDone_a6_f (pfX7_draw_8_x_11 sd) m0 m1 m2 m3 m4 m5 m7 o0 o1 o2 o3 fc fr fb (pfX7_draw_8_r sd)) (pfX8_drawDeed_yr_3 sd oo bb e13 gr) (pfX8_drawDeed_yr_4 wt sd oo sn bb e13 gr) (pfX8_drawDeed_yr_5 sd us bb e13 gr) (pfX8_drawDeed_yr_6 sd us tk bb gr) (pfX8_drawDeed_yr_16 sd bb e13 gr) (pfX8_drawDeed_yr_7 sd oo e7) (pfX8_drawDeed_yr_8 sd us e8) (pfX8_drawDeed_yr_13 wt sd oo sn bb e13 gr) (pfX8_drawDeed_yr_f wt sd oo sn us tk bb e13 gr) := by
  unfold pfX7_isDeedDone_r pfX7_isDeedDone_x_11 pfX7_isDeedDone_a4_0 pfX7_isDeedDone_a4_1 pfX7_isDeedDone_a4_2 pfX7_isDeedDone_a4_3 pfX7_isDeedDone_a0_0 pfX7_isDeedDone_a0_1 pfX7_isDeedDone_a0_2 pfX7_isDeedDone_a0_3 pfX7_isDeedDone_a0_4 pfX7_isDeedDone_a0_5 pfX7_isDeedDone_a0_7 pfX7_isDeedDone_a0_14 pfX7_isDeedDone_a0_15 pfX7_isDeedDone_a1_f pfX7_isDeedDone_a3_f pfX7_isDeedDone_a6_f pfX8_drawDeed_r pfX8_drawDeed_y_42 pfX8_drawDeed_yr_3 pfX8_drawDeed_yr_4 pfX8_drawDeed_yr_5 pfX8_drawDeed_yr_6 pfX8_drawDeed_yr_16 pfX8_drawDeed_yr_7 pfX8_drawDeed_yr_8 pfX8_drawDeed_yr_13 pfX8_drawDeed_yr_f
  have x8 : pfX8_draw_8_r sd = pfX7_draw_8_r sd := rfl
  have y8 : pfX8_draw_8_y_42 sd = pfX7_draw_8_x_11 sd := rfl
  rw [x8, y8]
  obtain ⟨j, hj, ej⟩ : ∃ j : Nat, j < 8 ∧ pfX7_draw_8_r sd = nI j := drN ((sd * 1103515245) + 12345) 8 8 (by decide) (by decide) (by decide)
  generalize pfX7_draw_8_r sd = d at ej ⊢
  generalize pfX7_draw_8_x_11 sd = sd
  subst ej
  rcases (show j = 0 ∨ j = 1 ∨ j = 2 ∨ j = 3 ∨ j = 4 ∨ j = 5 ∨ j = 6 ∨ j = 7 by omega) with rfl | rfl | rfl | rfl | rfl | rfl | rfl | rfl
  · simp only [if_pos (show (nI 0 = 0) by decide), if_neg (show ¬ (nI 0 = 1) by decide), if_neg (show ¬ (nI 0 = 2) by decide), if_neg (show ¬ (nI 0 = 3) by decide), if_neg (show ¬ (nI 0 = 4) by decide), if_neg (show ¬ (nI 0 = 5) by decide), if_neg (show ¬ (nI 0 = 6) by decide), if_neg (show ¬ (2 ≤ nI 0) by decide), if_neg (show ¬ (4 ≤ nI 0) by decide), if_neg (show ¬ (6 ≤ nI 0) by decide)]
    exact ⟨(I.offs hn sd).1, rfl, (I.offs hn sd).2⟩
  · simp only [if_neg (show ¬ (nI 1 = 0) by decide), if_pos (show (nI 1 = 1) by decide), if_neg (show ¬ (nI 1 = 2) by decide), if_neg (show ¬ (nI 1 = 3) by decide), if_neg (show ¬ (nI 1 = 4) by decide), if_neg (show ¬ (nI 1 = 5) by decide), if_neg (show ¬ (nI 1 = 6) by decide), if_neg (show ¬ (2 ≤ nI 1) by decide), if_neg (show ¬ (4 ≤ nI 1) by decide), if_neg (show ¬ (6 ≤ nI 1) by decide)]
    exact ⟨(I.offs hn sd).1, rfl, (I.offs hn sd).2⟩
  · simp only [if_neg (show ¬ (nI 2 = 0) by decide), if_neg (show ¬ (nI 2 = 1) by decide), if_pos (show (nI 2 = 2) by decide), if_neg (show ¬ (nI 2 = 3) by decide), if_neg (show ¬ (nI 2 = 4) by decide), if_neg (show ¬ (nI 2 = 5) by decide), if_neg (show ¬ (nI 2 = 6) by decide), if_pos (show (2 ≤ nI 2) by decide), if_neg (show ¬ (4 ≤ nI 2) by decide), if_neg (show ¬ (6 ≤ nI 2) by decide)]
    exact ⟨lift01 (I.fetch hn wt).1, by first | trivial | rfl, (I.fetch hn wt).2⟩
  · simp only [if_neg (show ¬ (nI 3 = 0) by decide), if_neg (show ¬ (nI 3 = 1) by decide), if_neg (show ¬ (nI 3 = 2) by decide), if_pos (show (nI 3 = 3) by decide), if_neg (show ¬ (nI 3 = 4) by decide), if_neg (show ¬ (nI 3 = 5) by decide), if_neg (show ¬ (nI 3 = 6) by decide), if_pos (show (2 ≤ nI 3) by decide), if_neg (show ¬ (4 ≤ nI 3) by decide), if_neg (show ¬ (6 ≤ nI 3) by decide)]
    exact ⟨lift01 (I.fetch hn wt).1, by first | trivial | rfl, (I.fetch hn wt).2⟩
  · simp only [if_neg (show ¬ (nI 4 = 0) by decide), if_neg (show ¬ (nI 4 = 1) by decide), if_neg (show ¬ (nI 4 = 2) by decide), if_neg (show ¬ (nI 4 = 3) by decide), if_pos (show (nI 4 = 4) by decide), if_neg (show ¬ (nI 4 = 5) by decide), if_neg (show ¬ (nI 4 = 6) by decide), if_pos (show (2 ≤ nI 4) by decide), if_pos (show (4 ≤ nI 4) by decide), if_neg (show ¬ (6 ≤ nI 4) by decide)]
    exact ⟨by rw [(I.fin hn sd).1], (I.fin hn sd).2.1, (I.fin hn sd).2.2⟩
  · simp only [if_neg (show ¬ (nI 5 = 0) by decide), if_neg (show ¬ (nI 5 = 1) by decide), if_neg (show ¬ (nI 5 = 2) by decide), if_neg (show ¬ (nI 5 = 3) by decide), if_neg (show ¬ (nI 5 = 4) by decide), if_pos (show (nI 5 = 5) by decide), if_neg (show ¬ (nI 5 = 6) by decide), if_pos (show (2 ≤ nI 5) by decide), if_pos (show (4 ≤ nI 5) by decide), if_neg (show ¬ (6 ≤ nI 5) by decide)]
    exact ⟨by rw [(I.fin hn sd).1], (I.fin hn sd).2.1, (I.fin hn sd).2.2⟩
  · simp only [if_neg (show ¬ (nI 6 = 0) by decide), if_neg (show ¬ (nI 6 = 1) by decide), if_neg (show ¬ (nI 6 = 2) by decide), if_neg (show ¬ (nI 6 = 3) by decide), if_neg (show ¬ (nI 6 = 4) by decide), if_neg (show ¬ (nI 6 = 5) by decide), if_pos (show (nI 6 = 6) by decide), if_pos (show (2 ≤ nI 6) by decide), if_pos (show (4 ≤ nI 6) by decide), if_pos (show (6 ≤ nI 6) by decide)]
    exact ⟨lift01 (I.reap hn).1, by first | trivial | rfl, (I.reap hn).2⟩
  · simp only [if_neg (show ¬ (nI 7 = 0) by decide), if_neg (show ¬ (nI 7 = 1) by decide), if_neg (show ¬ (nI 7 = 2) by decide), if_neg (show ¬ (nI 7 = 3) by decide), if_neg (show ¬ (nI 7 = 4) by decide), if_neg (show ¬ (nI 7 = 5) by decide), if_neg (show ¬ (nI 7 = 6) by decide), if_pos (show (2 ≤ nI 7) by decide), if_pos (show (4 ≤ nI 7) by decide), if_pos (show (6 ≤ nI 7) by decide)]
    exact ⟨lift01l I.note.1, by first | trivial | rfl, I.note.2⟩
end
/-- the class's state and the reference's, after as many deeds -/
def SIM (nb : Nat) (C : DSt) (R : DSr) : Prop := INV nb (C.1 15) (C.1 16) (C.1 17) (C.1 18) (C.1 2) (C.1 3) (C.1 4) (C.1 5) (C.1 6) (C.1 7) (C.1 9) (C.1 13) (C.1 14) C.2.1 C.2.2.1 C.2.2.2 (R.2.1 0) (R.2.1 1) (R.2.1 2) (R.2.1 3) (R.2.1 4) (R.1 12) (R.1 13) (R.1 14) R.2.2 ∧ C.1 1 = R.1 11 ∧ C.1 49 = R.1 42
theorem SIM.step {nb : Nat} {C : DSt} {R : DSr} (h : SIM nb C R) (hn : nb ≤ 60) : SIM (nb + 1) (cstep C) (rstep R) := by
  obtain ⟨I, es, ed⟩ := h
  obtain ⟨a, b, c⟩ := I.deed hn (R.1 11) (R.1 8)
  unfold SIM
  rw [cs_15, cs_16, cs_17, cs_18, cs_2, cs_3, cs_4, cs_5, cs_6, cs_7, cs_9, cs_13, cs_14, csf_0, csf_1, csf_2, rsn_0, rsn_1, rsn_2, rsn_3, rsn_4, rs_12, rs_13, rs_14, rsg, cs_1, rs_11, cs_49, rs_42, es, ed]
  refine ⟨c, b, ?_⟩
  by_cases z : pfX8_drawDeed_r (R.1 8) (R.1 11) (R.2.1 0) (R.2.1 1) (R.2.1 2) (R.2.1 3) (R.2.1 4) (R.1 12) (R.1 13) (R.1 14) (R.2.2) = 0
  · rw [if_pos z, if_pos (a.mpr z), Int32.add_zero]
  · rw [if_neg z, if_neg (fun w => z (a.mp w))]
theorem SIM.init (p2 : Int32) : SIM 0 (c0S p2) (r0S p2) := by
  refine ⟨?_, rfl, rfl⟩
  show INV 0 (-1) (-1) (-1) (-1) 0 0 0 0 4 0 0 0 0 (fun _ => 0) (gl [(-1), (-1), (-1), (-1), (-1), (-1), (-1), (-1), (-1), (-1), (-1), (-1), (-1), (-1), (-1), (-1), (-1), (-1), (-1), (-1), (-1), (-1), (-1), (-1)]) (fun _ => 0) 0 0 0 0 0 0 0 0 R0
  refine INV.mk (by decide) (by decide) (by decide) (by decide) (by decide) (by decide) (by decide) (by decide) (by decide) (by decide) rfl (Or.inl rfl) rfl rfl ?_ (fun k hk => ?_) (fun k hk => ?_) (fun b hb => absurd hb (Nat.not_lt_zero _)) (fun d hd => Or.inl ?_) (fun b hb => absurd hb (Nat.not_lt_zero _)) (fun b hb => absurd hb (Nat.not_lt_zero _)) (fun b hb => absurd hb (Nat.not_lt_zero _)) ?_
  · rw [freeP]
  · rw [R0_lo (by omega)]
  · rw [R0_mid (by omega) (by omega), R0_mid (by omega) (by omega)]
    rcases (show k = 0 ∨ k = 1 ∨ k = 2 ∨ k = 3 by omega) with rfl | rfl | rfl | rfl <;> exact ⟨rfl, rfl⟩
  · rcases (show d = 0 ∨ d = 1 ∨ d = 2 ∨ d = 3 by omega) with rfl | rfl | rfl | rfl <;> rfl
  · rw [freeP]; decide
theorem sim_all (p2 : Int32) : ∀ i, i ≤ 61 → SIM i (cit (c0S p2) i) (rit (r0S p2) i) := by
  intro i
  induction i with
  | zero => intro _; exact SIM.init p2
  | succ i ih => intro h; rw [cit_succ, rit_succ]; exact (ih (by omega)).step (by omega)
theorem drawn_c (p2 : Int32) : ∀ i, i ≤ 60 → ¬ ((cit (c0S p2) i).1 7) < 0 := by
  intro i hi
  obtain ⟨I, -, -⟩ := sim_all p2 i (by omega)
  have := I.l5
  rw [I.h5]
  exact nI_pos (by omega)
theorem drawn_r (p2 : Int32) : ∀ i, i ≤ 60 → RI (rit (r0S p2) i) := by
  intro i hi
  obtain ⟨I, -, -⟩ := sim_all p2 i (by omega)
  have := I.l5
  exact ⟨I.l0, I.l1, I.l2, I.l3, by omega, I.ri hi (k := 1) (by decide) (by decide), I.ri hi (k := 2) (by decide) (by decide), I.ri hi (k := 3) (by decide) (by decide), I.ri hi (k := 4) (by decide) (by decide)⟩
theorem drawn_eq (p2 : Int32) (nn : Nat) (h : nn ≤ 60) : (cit (c0S p2) nn).1 49 = (rit (r0S p2) nn).1 42 := (sim_all p2 nn (by omega)).2.2
