theorem hne_0 {fbx : Nat → Int32} {j h bb : Nat} (hj : j < bb) (hb : bb < 500) (hh : h < 4) (e : fbx (8 * j + 2) = nI h) (hd : h ≠ 0) (o : Int32) : ¬ pfX2_holderOf_0_1_r (nI bb) o fbx = nI j := by
  intro z
  unfold pfX2_holderOf_0_1_r at z
  by_cases c1 : pfX2_ofBuffer_g_r (nI bb) fbx o 2 = 0
  · rw [if_pos c1] at z
    by_cases c2 : pfX2_ofBuffer_g_r (nI bb) fbx o 0 = 1
    · rw [if_pos c2] at z
      rw [z, ofB (k := 2) hj (by omega) (by decide) (by decide) (by omega), e] at c1
      exact hd (nI_inj (by omega) (by decide) (c1.trans (show (0 : Int32) = nI 0 by decide)))
    · rw [if_neg c2] at z; exact nI_m1 (by omega) z.symm
  · rw [if_neg c1] at z; exact nI_m1 (by omega) z.symm
theorem hps_0 {fbx : Nat → Int32} {j bb : Nat} (hj : j < bb) (hb : bb < 500) (e : fbx (8 * j + 2) = nI 0) (e0 : fbx (8 * j + 0) = 1) : pfX2_holderOf_0_1_r (nI bb) (nI j) fbx = nI j := by
  unfold pfX2_holderOf_0_1_r
  rw [ofB (k := 2) hj (by omega) (by decide) (by decide) (by omega), e, ofB (k := 0) hj (by omega) (by decide) (by decide) (by omega), e0, if_pos (by decide), if_pos rfl]
theorem msk_0 {m5 o0 o1 o2 o3 p1 m2 fi : Int32} {fb : Nat → Int32} (h : ¬ pfX2_holderOf_0_1_r m5 o0 fb = p1) : LSX2_moveUsed_0_m2 m5 o0 o1 o2 o3 p1 m2 fb fi = LSX2_moveUsed_1_m2 m5 o0 o1 o2 o3 p1 m2 fb fi ∧ LSX2_moveUsed_0_fb m5 o0 o1 o2 o3 p1 m2 fb fi = LSX2_moveUsed_1_fb m5 o0 o1 o2 o3 p1 m2 fb fi := by
  unfold LSX2_moveUsed_0_m2 LSX2_moveUsed_0_fb
  by_cases c : pfX2_holderOf_0_1_r m5 o0 fb = (-1)
  · simp only [if_pos c, and_self]
  · simp only [if_neg c, if_neg h, and_self]
theorem mhit_0 {m5 o0 o1 o2 o3 p1 m2 fi : Int32} {fb : Nat → Int32} (h : pfX2_holderOf_0_1_r m5 o0 fb = p1) (hp : ¬ p1 = -1) : (∃ fi', LSX2_moveUsed_0_m2 m5 o0 o1 o2 o3 p1 m2 fb fi = LSX2_moveUsed_1_m2 m5 o0 o1 o2 o3 p1 ((m2 + 1) &&& 15) (pfX2_putBuffer_g_a6_f fb p1 0 2) fi' ∧ LSX2_moveUsed_0_fb m5 o0 o1 o2 o3 p1 m2 fb fi = LSX2_moveUsed_1_fb m5 o0 o1 o2 o3 p1 ((m2 + 1) &&& 15) (pfX2_putBuffer_g_a6_f fb p1 0 2) fi') := by
  unfold LSX2_moveUsed_0_m2 LSX2_moveUsed_0_fb
  have c : ¬ pfX2_holderOf_0_1_r m5 o0 fb = (-1) := by rw [h]; exact hp
  simp only [if_neg c, if_pos h]
  rw [h]
  exact ⟨_, rfl, rfl⟩
theorem hne_1 {fbx : Nat → Int32} {j h bb : Nat} (hj : j < bb) (hb : bb < 500) (hh : h < 4) (e : fbx (8 * j + 2) = nI h) (hd : h ≠ 1) (o : Int32) : ¬ pfX2_holderOf_1_1_r (nI bb) o fbx = nI j := by
  intro z
  unfold pfX2_holderOf_1_1_r at z
  by_cases c1 : pfX2_ofBuffer_g_r (nI bb) fbx o 2 = 1
  · rw [if_pos c1] at z
    by_cases c2 : pfX2_ofBuffer_g_r (nI bb) fbx o 0 = 1
    · rw [if_pos c2] at z
      rw [z, ofB (k := 2) hj (by omega) (by decide) (by decide) (by omega), e] at c1
      exact hd (nI_inj (by omega) (by decide) (c1.trans (show (1 : Int32) = nI 1 by decide)))
    · rw [if_neg c2] at z; exact nI_m1 (by omega) z.symm
  · rw [if_neg c1] at z; exact nI_m1 (by omega) z.symm
theorem hps_1 {fbx : Nat → Int32} {j bb : Nat} (hj : j < bb) (hb : bb < 500) (e : fbx (8 * j + 2) = nI 1) (e0 : fbx (8 * j + 0) = 1) : pfX2_holderOf_1_1_r (nI bb) (nI j) fbx = nI j := by
  unfold pfX2_holderOf_1_1_r
  rw [ofB (k := 2) hj (by omega) (by decide) (by decide) (by omega), e, ofB (k := 0) hj (by omega) (by decide) (by decide) (by omega), e0, if_pos (by decide), if_pos rfl]
theorem msk_1 {m5 o0 o1 o2 o3 p1 m2 fi : Int32} {fb : Nat → Int32} (h : ¬ pfX2_holderOf_1_1_r m5 o1 fb = p1) : LSX2_moveUsed_1_m2 m5 o0 o1 o2 o3 p1 m2 fb fi = LSX2_moveUsed_2_m2 m5 o0 o1 o2 o3 p1 m2 fb fi ∧ LSX2_moveUsed_1_fb m5 o0 o1 o2 o3 p1 m2 fb fi = LSX2_moveUsed_2_fb m5 o0 o1 o2 o3 p1 m2 fb fi := by
  unfold LSX2_moveUsed_1_m2 LSX2_moveUsed_1_fb
  by_cases c : pfX2_holderOf_1_1_r m5 o1 fb = (-1)
  · simp only [if_pos c, and_self]
  · simp only [if_neg c, if_neg h, and_self]
theorem mhit_1 {m5 o0 o1 o2 o3 p1 m2 fi : Int32} {fb : Nat → Int32} (h : pfX2_holderOf_1_1_r m5 o1 fb = p1) (hp : ¬ p1 = -1) : (∃ fi', LSX2_moveUsed_1_m2 m5 o0 o1 o2 o3 p1 m2 fb fi = LSX2_moveUsed_2_m2 m5 o0 o1 o2 o3 p1 ((m2 + 1) &&& 15) (pfX2_putBuffer_g_a6_f fb p1 0 2) fi' ∧ LSX2_moveUsed_1_fb m5 o0 o1 o2 o3 p1 m2 fb fi = LSX2_moveUsed_2_fb m5 o0 o1 o2 o3 p1 ((m2 + 1) &&& 15) (pfX2_putBuffer_g_a6_f fb p1 0 2) fi') := by
  unfold LSX2_moveUsed_1_m2 LSX2_moveUsed_1_fb
  have c : ¬ pfX2_holderOf_1_1_r m5 o1 fb = (-1) := by rw [h]; exact hp
  simp only [if_neg c, if_pos h]
  rw [h]
  exact ⟨_, rfl, rfl⟩
theorem hne_2 {fbx : Nat → Int32} {j h bb : Nat} (hj : j < bb) (hb : bb < 500) (hh : h < 4) (e : fbx (8 * j + 2) = nI h) (hd : h ≠ 2) (o : Int32) : ¬ pfX2_holderOf_2_1_r (nI bb) o fbx = nI j := by
  intro z
  unfold pfX2_holderOf_2_1_r at z
  by_cases c1 : pfX2_ofBuffer_g_r (nI bb) fbx o 2 = 2
  · rw [if_pos c1] at z
    by_cases c2 : pfX2_ofBuffer_g_r (nI bb) fbx o 0 = 1
    · rw [if_pos c2] at z
      rw [z, ofB (k := 2) hj (by omega) (by decide) (by decide) (by omega), e] at c1
      exact hd (nI_inj (by omega) (by decide) (c1.trans (show (2 : Int32) = nI 2 by decide)))
    · rw [if_neg c2] at z; exact nI_m1 (by omega) z.symm
  · rw [if_neg c1] at z; exact nI_m1 (by omega) z.symm
theorem hps_2 {fbx : Nat → Int32} {j bb : Nat} (hj : j < bb) (hb : bb < 500) (e : fbx (8 * j + 2) = nI 2) (e0 : fbx (8 * j + 0) = 1) : pfX2_holderOf_2_1_r (nI bb) (nI j) fbx = nI j := by
  unfold pfX2_holderOf_2_1_r
  rw [ofB (k := 2) hj (by omega) (by decide) (by decide) (by omega), e, ofB (k := 0) hj (by omega) (by decide) (by decide) (by omega), e0, if_pos (by decide), if_pos rfl]
theorem msk_2 {m5 o0 o1 o2 o3 p1 m2 fi : Int32} {fb : Nat → Int32} (h : ¬ pfX2_holderOf_2_1_r m5 o2 fb = p1) : LSX2_moveUsed_2_m2 m5 o0 o1 o2 o3 p1 m2 fb fi = LSX2_moveUsed_3_m2 m5 o0 o1 o2 o3 p1 m2 fb fi ∧ LSX2_moveUsed_2_fb m5 o0 o1 o2 o3 p1 m2 fb fi = LSX2_moveUsed_3_fb m5 o0 o1 o2 o3 p1 m2 fb fi := by
  unfold LSX2_moveUsed_2_m2 LSX2_moveUsed_2_fb
  by_cases c : pfX2_holderOf_2_1_r m5 o2 fb = (-1)
  · simp only [if_pos c, and_self]
  · simp only [if_neg c, if_neg h, and_self]
theorem mhit_2 {m5 o0 o1 o2 o3 p1 m2 fi : Int32} {fb : Nat → Int32} (h : pfX2_holderOf_2_1_r m5 o2 fb = p1) (hp : ¬ p1 = -1) : (∃ fi', LSX2_moveUsed_2_m2 m5 o0 o1 o2 o3 p1 m2 fb fi = LSX2_moveUsed_3_m2 m5 o0 o1 o2 o3 p1 ((m2 + 1) &&& 15) (pfX2_putBuffer_g_a6_f fb p1 0 2) fi' ∧ LSX2_moveUsed_2_fb m5 o0 o1 o2 o3 p1 m2 fb fi = LSX2_moveUsed_3_fb m5 o0 o1 o2 o3 p1 ((m2 + 1) &&& 15) (pfX2_putBuffer_g_a6_f fb p1 0 2) fi') := by
  unfold LSX2_moveUsed_2_m2 LSX2_moveUsed_2_fb
  have c : ¬ pfX2_holderOf_2_1_r m5 o2 fb = (-1) := by rw [h]; exact hp
  simp only [if_neg c, if_pos h]
  rw [h]
  exact ⟨_, rfl, rfl⟩
theorem hne_3 {fbx : Nat → Int32} {j h bb : Nat} (hj : j < bb) (hb : bb < 500) (hh : h < 4) (e : fbx (8 * j + 2) = nI h) (hd : h ≠ 3) (o : Int32) : ¬ pfX2_holderOf_3_1_r (nI bb) o fbx = nI j := by
  intro z
  unfold pfX2_holderOf_3_1_r at z
  by_cases c1 : pfX2_ofBuffer_g_r (nI bb) fbx o 2 = 3
  · rw [if_pos c1] at z
    by_cases c2 : pfX2_ofBuffer_g_r (nI bb) fbx o 0 = 1
    · rw [if_pos c2] at z
      rw [z, ofB (k := 2) hj (by omega) (by decide) (by decide) (by omega), e] at c1
      exact hd (nI_inj (by omega) (by decide) (c1.trans (show (3 : Int32) = nI 3 by decide)))
    · rw [if_neg c2] at z; exact nI_m1 (by omega) z.symm
  · rw [if_neg c1] at z; exact nI_m1 (by omega) z.symm
theorem hps_3 {fbx : Nat → Int32} {j bb : Nat} (hj : j < bb) (hb : bb < 500) (e : fbx (8 * j + 2) = nI 3) (e0 : fbx (8 * j + 0) = 1) : pfX2_holderOf_3_1_r (nI bb) (nI j) fbx = nI j := by
  unfold pfX2_holderOf_3_1_r
  rw [ofB (k := 2) hj (by omega) (by decide) (by decide) (by omega), e, ofB (k := 0) hj (by omega) (by decide) (by decide) (by omega), e0, if_pos (by decide), if_pos rfl]
theorem msk_3 {m5 o0 o1 o2 o3 p1 m2 fi : Int32} {fb : Nat → Int32} (h : ¬ pfX2_holderOf_3_1_r m5 o3 fb = p1) : LSX2_moveUsed_3_m2 m5 o0 o1 o2 o3 p1 m2 fb fi = LSX2_moveUsed_4_m2 m5 o0 o1 o2 o3 p1 m2 fb fi ∧ LSX2_moveUsed_3_fb m5 o0 o1 o2 o3 p1 m2 fb fi = LSX2_moveUsed_4_fb m5 o0 o1 o2 o3 p1 m2 fb fi := by
  unfold LSX2_moveUsed_3_m2 LSX2_moveUsed_3_fb
  by_cases c : pfX2_holderOf_3_1_r m5 o3 fb = (-1)
  · simp only [if_pos c, and_self]
  · simp only [if_neg c, if_neg h, and_self]
theorem mhit_3 {m5 o0 o1 o2 o3 p1 m2 fi : Int32} {fb : Nat → Int32} (h : pfX2_holderOf_3_1_r m5 o3 fb = p1) (hp : ¬ p1 = -1) : (∃ fi', LSX2_moveUsed_3_m2 m5 o0 o1 o2 o3 p1 m2 fb fi = LSX2_moveUsed_4_m2 m5 o0 o1 o2 o3 p1 ((m2 + 1) &&& 15) (pfX2_putBuffer_g_a6_f fb p1 0 2) fi' ∧ LSX2_moveUsed_3_fb m5 o0 o1 o2 o3 p1 m2 fb fi = LSX2_moveUsed_4_fb m5 o0 o1 o2 o3 p1 ((m2 + 1) &&& 15) (pfX2_putBuffer_g_a6_f fb p1 0 2) fi') := by
  unfold LSX2_moveUsed_3_m2 LSX2_moveUsed_3_fb
  have c : ¬ pfX2_holderOf_3_1_r m5 o3 fb = (-1) := by rw [h]; exact hp
  simp only [if_neg c, if_pos h]
  rw [h]
  exact ⟨_, rfl, rfl⟩
theorem mu_eq {o0 o1 o2 o3 m2 fi : Int32} {fb : Nat → Int32} {j h bb : Nat} (hj : j < bb) (hb : bb < 500) (hh : h < 4) (ho : OW o0 o1 o2 o3 h = nI j) (e : fb (8 * j + 2) = nI h) (e0 : fb (8 * j + 0) = 1) : LSX2_moveUsed_0_m2 (nI bb) o0 o1 o2 o3 (nI j) m2 fb fi = (m2 + 1) &&& 15 ∧ LSX2_moveUsed_0_fb (nI bb) o0 o1 o2 o3 (nI j) m2 fb fi = upd fb (8 * j + 0) 2 := by
  have np : ¬ nI j = -1 := nI_m1 (by omega)
  have ep : pfX2_putBuffer_g_a6_f fb (nI j) 0 2 = upd fb (8 * j + 0) 2 := putB (by omega) (by decide) (by decide)
  have e' : upd fb (8 * j + 0) 2 (8 * j + 2) = nI h := by rw [upd_ne (by omega)]; exact e
  rcases (show h = 0 ∨ h = 1 ∨ h = 2 ∨ h = 3 by omega) with rfl | rfl | rfl | rfl
  · have ho : o0 = nI j := ho
    subst ho
    obtain ⟨fi', q1, q2⟩ := mhit_0 (m5 := nI bb) (o0 := nI j) (o1 := o1) (o2 := o2) (o3 := o3) (p1 := nI j) (m2 := m2) (fi := fi) (fb := fb) (hps_0 hj hb e e0) np
    rw [q1, q2, ep]
    rw [(msk_1 (hne_1 hj hb hh e' (by decide) _)).1, (msk_1 (hne_1 hj hb hh e' (by decide) _)).2]
    rw [(msk_2 (hne_2 hj hb hh e' (by decide) _)).1, (msk_2 (hne_2 hj hb hh e' (by decide) _)).2]
    rw [(msk_3 (hne_3 hj hb hh e' (by decide) _)).1, (msk_3 (hne_3 hj hb hh e' (by decide) _)).2]
    exact ⟨rfl, rfl⟩
  · have ho : o1 = nI j := ho
    subst ho
    rw [(msk_0 (hne_0 hj hb hh e (by decide) _)).1, (msk_0 (hne_0 hj hb hh e (by decide) _)).2]
    obtain ⟨fi', q1, q2⟩ := mhit_1 (m5 := nI bb) (o0 := o0) (o1 := nI j) (o2 := o2) (o3 := o3) (p1 := nI j) (m2 := m2) (fi := fi) (fb := fb) (hps_1 hj hb e e0) np
    rw [q1, q2, ep]
    rw [(msk_2 (hne_2 hj hb hh e' (by decide) _)).1, (msk_2 (hne_2 hj hb hh e' (by decide) _)).2]
    rw [(msk_3 (hne_3 hj hb hh e' (by decide) _)).1, (msk_3 (hne_3 hj hb hh e' (by decide) _)).2]
    exact ⟨rfl, rfl⟩
  · have ho : o2 = nI j := ho
    subst ho
    rw [(msk_0 (hne_0 hj hb hh e (by decide) _)).1, (msk_0 (hne_0 hj hb hh e (by decide) _)).2]
    rw [(msk_1 (hne_1 hj hb hh e (by decide) _)).1, (msk_1 (hne_1 hj hb hh e (by decide) _)).2]
    obtain ⟨fi', q1, q2⟩ := mhit_2 (m5 := nI bb) (o0 := o0) (o1 := o1) (o2 := nI j) (o3 := o3) (p1 := nI j) (m2 := m2) (fi := fi) (fb := fb) (hps_2 hj hb e e0) np
    rw [q1, q2, ep]
    rw [(msk_3 (hne_3 hj hb hh e' (by decide) _)).1, (msk_3 (hne_3 hj hb hh e' (by decide) _)).2]
    exact ⟨rfl, rfl⟩
  · have ho : o3 = nI j := ho
    subst ho
    rw [(msk_0 (hne_0 hj hb hh e (by decide) _)).1, (msk_0 (hne_0 hj hb hh e (by decide) _)).2]
    rw [(msk_1 (hne_1 hj hb hh e (by decide) _)).1, (msk_1 (hne_1 hj hb hh e (by decide) _)).2]
    rw [(msk_2 (hne_2 hj hb hh e (by decide) _)).1, (msk_2 (hne_2 hj hb hh e (by decide) _)).2]
    obtain ⟨fi', q1, q2⟩ := mhit_3 (m5 := nI bb) (o0 := o0) (o1 := o1) (o2 := o2) (o3 := nI j) (p1 := nI j) (m2 := m2) (fi := fi) (fb := fb) (hps_3 hj hb e e0) np
    rw [q1, q2, ep]
    exact ⟨rfl, rfl⟩
theorem nI_sub1 {n : Nat} (h : 0 < n) : nI n - 1 = nI (n - 1) := by
  obtain ⟨k, rfl⟩ : ∃ k, n = k + 1 := ⟨n - 1, by omega⟩
  rw [nI_pred]; simp
section
variable {nb : Nat} {o0 o1 o2 o3 m0 m1 m2 m3 m4 m5 m7 m14 m15 : Int32} {fc fr fb : Nat → Int32} {oo sn us tk bb : Nat} {e7 e8 e13 : Int32} {gr : Nat → Int32}
theorem INV.fin (I : INV nb o0 o1 o2 o3 m0 m1 m2 m3 m4 m5 m7 m14 m15 fc fr fb oo sn us tk bb e7 e8 e13 gr) (hn : nb ≤ 60) (sd : Int32) : pfX7_isFirstFetchedFinished_r sd m5 m7 o0 o1 o2 o3 fb = pfX8_drawsFinish_r sd bb e13 gr ∧ pfX7_isFirstFetchedFinished_x_11 sd m5 o0 o1 o2 o3 fb = pfX8_drawsFinish_y_42 sd bb gr ∧ INV (nb + 1) o0 o1 o2 o3 m0 m1 (pfX7_isFirstFetchedFinished_a0_2 sd m2 m5 m7 o0 o1 o2 o3 fb) m3 m4 m5 m7 m14 m15 fc (pfX7_isFirstFetchedFinished_a3_f sd m2 m5 m7 o0 o1 o2 o3 fr fb) (pfX7_isFirstFetchedFinished_a6_f sd m2 m5 m7 o0 o1 o2 o3 fb) oo sn (pfX8_drawsFinish_yr_5 sd us bb e13 gr) tk bb e7 e8 e13 (pfX8_drawsFinish_yr_f sd us bb e13 gr) := by
  have hl := I.l5
  unfold pfX7_isFirstFetchedFinished_r pfX7_isFirstFetchedFinished_x_11 pfX7_isFirstFetchedFinished_a0_2 pfX7_isFirstFetchedFinished_a3_f pfX7_isFirstFetchedFinished_a6_f pfX8_drawsFinish_r pfX8_drawsFinish_y_42 pfX8_drawsFinish_yr_5 pfX8_drawsFinish_yr_f
  rw [I.first hn]
  rcases foF_spec (gr := gr) (v := 1) bb 0 with ⟨j, -, hj, z1, -, z3⟩ | ⟨z, -⟩
  · have n1 : ¬ foF gr 1 bb 0 = -1 := by rw [z3]; exact nI_m1 (by omega)
    have n2 : ¬ foF gr 1 bb 0 < 0 := by rw [z3]; exact nI_pos (by omega)
    simp only [if_neg n1, if_neg n2]
    rw [z3, show pfX7_draw_10_r sd = pfX8_draw_10_r sd from rfl, show pfX7_draw_10_x_11 sd = pfX8_draw_10_y_42 sd from rfl]
    generalize pfX8_draw_10_r sd = q
    have hjb : j < bb := by omega
    obtain ⟨y0, y2, y4, y7⟩ := I.hb j hjb
    obtain ⟨h, hh, w1, w2⟩ := I.hh j hjb (by rw [z1]; decide)
    unfold pfX2_use_g_r pfX2_use_g_a0_2 pfX2_use_g_a3_f pfX2_use_g_a6_f pfX8_finish_g_r pfX8_finish_g_yr_5 pfX8_finish_g_yr_f
    have u0 : pfX2_ofBuffer_g_r m5 fb (nI j) 0 = 1 := by rw [I.h5, ofB (k := 0) hjb (by omega) (by decide) (by decide) (by omega), y0, z1]
    have u4 : pfX2_ofBuffer_g_r m5 fb (nI j) 4 = gr (2168 + j) := by rw [I.h5, ofB (k := 4) hjb (by omega) (by decide) (by decide) (by omega), y4]
    have u2 : pfX2_ofBuffer_g_r m5 fb (nI j) 2 = gr (1168 + j) := by rw [I.h5, ofB (k := 2) hjb (by omega) (by decide) (by decide) (by omega), y2]
    have hin : pfX8_isIn_r (nI j) 0 (nI bb - 1) = 1 := by
      unfold pfX8_isIn_r
      rw [nI_sub1 (by omega), if_neg (nI_pos (by omega)), if_neg (show ¬ nI (bb - 1) < nI j by rw [i32_lt, nI_toInt (by omega), nI_toInt (by omega)]; omega)]
    have f0 : ¬ pfX8_isFetched_g_r bb gr (nI j) = 0 := by
      unfold pfX8_isFetched_g_r
      rw [hin, if_neg (show ¬ (1 : Int32) = 0 by decide), nI_clamp (by omega), z1, if_pos rfl]
      decide
    simp only [if_pos u0, if_neg f0, u4, u2, nI_clamp (show j < 2 ^ 31 by omega)]
    generalize hcap : gr (2168 + j) = cap
    by_cases q0 : q < 0
    · have ri : pfX8_isIn_r q 0 cap = 0 := by unfold pfX8_isIn_r; rw [if_pos q0]
      simp only [if_pos q0, if_pos ri]
      exact ⟨by first | trivial | rfl, by first | trivial | rfl, I.mono⟩
    · by_cases q1 : q ≤ cap
      · have ri : ¬ pfX8_isIn_r q 0 cap = 0 := by unfold pfX8_isIn_r; rw [if_neg q0, if_neg (Int32.not_lt.mpr q1)]; decide
        simp only [if_neg q0, if_pos q1, if_neg ri]
        rcases I.p7 with z7 | z7
        · have c7 : m7 = 0 := by rw [I.h7, z7]
          have d7 : e13 ≤ 0 := by rw [z7]; decide
          simp only [if_pos c7, if_pos d7]
          refine ⟨by first | trivial | rfl, by first | trivial | rfl, ?_⟩
          rw [putB (k := 6) (by omega) (by decide) (by decide), I.h5]
          obtain ⟨q2, q3⟩ := mu_eq (o0 := o0) (o1 := o1) (o2 := o2) (o3 := o3) (m2 := m2) (fi := 0) (fb := upd fb (8 * j + 6) q) hjb (by omega) hh w2 (by rw [upd_ne (by omega), y2, w1]) (by rw [upd_ne (by omega), y0, z1])
          rw [q2, q3, I.h2, and3 I.l2, and15 I.l2]
          have hu : us % 4 < 4 := Nat.mod_lt _ (by decide)
          generalize us % 4 = u at hu ⊢
          rw [putR (c := 2) hu (by decide) (by decide), putR (c := 1) hu (by decide) (by decide)]
          have R : ∀ k, k ≠ 152 + u → k ≠ 160 + u → k ≠ 3168 + j → k ≠ 168 + j → upd (upd (upd (upd gr (152 + u) (gr (1168 + j))) (160 + u) q) (3168 + j) q) (168 + j) 2 k = gr k := fun k a b c d => by rw [upd_ne d, upd_ne c, upd_ne b, upd_ne a]
          have R1 : upd (upd (upd (upd gr (152 + u) (gr (1168 + j))) (160 + u) q) (3168 + j) q) (168 + j) 2 (168 + j) = 2 := upd_eq
          have R2 : upd (upd (upd (upd gr (152 + u) (gr (1168 + j))) (160 + u) q) (3168 + j) q) (168 + j) 2 (152 + u) = gr (1168 + j) := by rw [upd_ne (by omega), upd_ne (by omega), upd_ne (by omega), upd_eq]
          generalize upd (upd (upd (upd gr (152 + u) (gr (1168 + j))) (160 + u) q) (3168 + j) q) (168 + j) 2 = gr' at R R1 R2 ⊢
          obtain ⟨k0, k1, k2, k3, k4⟩ := I.keep (gr' := gr') (fun b hb => by
            by_cases e : b = j
            · rw [e, R1, z1]; decide
            · rw [R _ (by omega) (by omega) (by omega) (by omega)]) (fun b hb => R _ (by omega) (by omega) (by omega) (by omega)) (fun b hb => R _ (by omega) (by omega) (by omega) (by omega)) (fun b hb => R _ (by omega) (by omega) (by omega) (by omega))
          refine (INV.mk (I.mono.h0) (I.mono.h1) (rfl) (I.mono.h3) (rfl) (I.mono.l0) (I.mono.l1) (Nat.mod_lt _ (by decide)) (I.mono.l3) (I.mono.l5) (I.mono.h7) (I.mono.p7) (I.mono.h14) (I.mono.h15) (by rw [k0]; exact I.h4) (fun k hk => by rw [R _ (by omega) (by omega) (by omega) (by omega)]; exact I.hc k hk) (fun k hk => ?_) (fun b hb => ?_) (k1) (k2) (k3) (k4) (by rw [k0]; exact I.hf))
          · obtain ⟨r0, r1⟩ := I.hr k hk
            refine ⟨?_, ?_⟩
            · rw [R _ (by omega) (by omega) (by omega) (by omega), upd_ne (by omega), upd_ne (by omega)]; exact r0
            · by_cases e : k = u
              · subst e
                rw [R2, upd_ne (by omega), upd_eq]
              · rw [R _ (by omega) (by omega) (by omega) (by omega), upd_ne (by omega), upd_ne (by omega)]; exact r1
          · obtain ⟨y0', y2', y4', y7'⟩ := I.hb b hb
            by_cases e : b = j
            · subst e
              rw [R1, R _ (by omega) (by omega) (by omega) (by omega), R _ (by omega) (by omega) (by omega) (by omega), R _ (by omega) (by omega) (by omega) (by omega)]
              refine ⟨upd_eq, ?_, ?_, ?_⟩
              · rw [upd_ne (by omega), upd_ne (by omega)]; exact y2'
              · rw [upd_ne (by omega), upd_ne (by omega)]; exact y4'
              · rw [upd_ne (by omega), upd_ne (by omega)]; exact y7'
            · rw [R _ (by omega) (by omega) (by omega) (by omega), R _ (by omega) (by omega) (by omega) (by omega), R _ (by omega) (by omega) (by omega) (by omega), R _ (by omega) (by omega) (by omega) (by omega)]
              refine ⟨?_, ?_, ?_, ?_⟩
              · rw [upd_ne (by omega), upd_ne (by omega)]; exact y0'
              · rw [upd_ne (by omega), upd_ne (by omega)]; exact y2'
              · rw [upd_ne (by omega), upd_ne (by omega)]; exact y4'
              · rw [upd_ne (by omega), upd_ne (by omega)]; exact y7'
        · have c7 : ¬ m7 = 0 := by rw [I.h7]; exact fun e => z7 (by rw [e]; decide)
          simp only [if_neg c7, if_neg z7]
          exact ⟨by first | trivial | rfl, by first | trivial | rfl, I.mono⟩
      · have ri : pfX8_isIn_r q 0 cap = 0 := by unfold pfX8_isIn_r; rw [if_neg q0, if_pos (Int32.not_le.mp q1)]
        simp only [if_neg q0, if_neg q1, if_pos ri]
        exact ⟨by first | trivial | rfl, by first | trivial | rfl, I.mono⟩
  · have n2 : foF gr 1 bb 0 < 0 := by rw [z]; decide
    simp only [if_pos z, if_pos n2]
    exact ⟨by first | trivial | rfl, by first | trivial | rfl, I.mono⟩
end
