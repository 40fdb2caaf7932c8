theorem rel1 {o : Int32} {j b : Nat} (hj : j < 500) (hb : b < 500) (hne : b ≠ j) : (if (if o = nI j then (-1) else o) = nI b then 1 else 0) = (if o = nI b then 1 else 0 : Nat) := by
  by_cases c : o = nI j
  · rw [if_pos c, if_neg (fun z => nI_m1 (by omega) z.symm), if_neg (fun z => hne (nI_inj (by omega) (by omega) (z.symm.trans c)))]
  · rw [if_neg c]
theorem rel2 {o : Int32} {j : Nat} (hj : j < 500) : (if (if o = nI j then (-1) else o) = (-1) then 1 else 0) = ((if o = (-1) then 1 else 0) + (if o = nI j then 1 else 0) : Nat) := by
  by_cases c : o = nI j
  · rw [if_pos c, if_pos rfl, if_pos c, if_neg (fun z => nI_m1 (by omega) (c.symm.trans z))]
  · rw [if_neg c, if_neg c, Nat.add_zero]
theorem relOW {o0 o1 o2 o3 : Int32} {j d : Nat} : OW (pfX2_release_a4_0 o0 (nI j)) (pfX2_release_a4_1 o1 (nI j)) (pfX2_release_a4_2 o2 (nI j)) (pfX2_release_a4_3 o3 (nI j)) d = if OW o0 o1 o2 o3 d = nI j then -1 else OW o0 o1 o2 o3 d := by
  match d with
  | 0 => rfl
  | 1 => rfl
  | 2 => rfl
  | d + 3 => rfl
section
variable {nb : Nat} {o0 o1 o2 o3 m0 m1 m2 m3 m4 m5 m7 m14 m15 : Int32} {fc fr fb : Nat → Int32} {oo sn us tk bb : Nat} {e7 e8 e13 : Int32} {gr : Nat → Int32}
theorem INV.reap (I : INV nb o0 o1 o2 o3 m0 m1 m2 m3 m4 m5 m7 m14 m15 fc fr fb oo sn us tk bb e7 e8 e13 gr) (hn : nb ≤ 60) : (pfX2_gather_g_r m2 m3 m5 o0 o1 o2 o3 fr fb < 0 ↔ pfX8_looks_g_r us tk bb gr < 0) ∧ INV (nb + 1) (pfX2_gather_g_a4_0 m2 m3 m5 o0 o1 o2 o3 fr fb) (pfX2_gather_g_a4_1 m2 m3 m5 o0 o1 o2 o3 fr fb) (pfX2_gather_g_a4_2 m2 m3 m5 o0 o1 o2 o3 fr fb) (pfX2_gather_g_a4_3 m2 m3 m5 o0 o1 o2 o3 fr fb) m0 m1 m2 (pfX2_gather_g_a0_3 m2 m3 m5 o0 o1 o2 o3 fr fb) (pfX2_gather_g_a0_4 m2 m3 m4 m5 o0 o1 o2 o3 fr fb) m5 m7 m14 m15 fc fr (pfX2_gather_g_a6_f m2 m3 m5 o0 o1 o2 o3 fr fb) oo sn us (pfX8_reap_g_yr_6 us tk bb gr) bb e7 e8 e13 (pfX8_reap_g_yr_f us tk bb gr) := by
  have hl := I.l5
  unfold pfX2_gather_g_r pfX2_gather_g_a4_0 pfX2_gather_g_a4_1 pfX2_gather_g_a4_2 pfX2_gather_g_a4_3 pfX2_gather_g_a0_3 pfX2_gather_g_a0_4 pfX2_gather_g_a6_f pfX8_reap_g_yr_6 pfX8_reap_g_yr_f
  by_cases cs : nI tk = nI us
  · have cm : m3 = m2 := by rw [I.h3, I.h2, cs]
    have ck : pfX8_looks_g_r us tk bb gr = -1 := by unfold pfX8_looks_g_r; rw [if_pos cs]
    have cl : ¬ (0 : Int32) ≤ pfX8_looks_g_r us tk bb gr := by rw [ck]; decide
    simp only [if_pos cm, if_neg cl]
    rw [ck]
    exact ⟨by first | trivial | exact Iff.rfl, I.mono⟩
  · have cm : ¬ m3 = m2 := by rw [I.h3, I.h2]; exact cs
    have ep : pfX2_rowAt_r fr (m3 &&& 3) 1 = gr (152 + tk % 4) := by
      rw [I.h3, and3 I.l3, rowA (c := 1) (Nat.mod_lt _ (by decide)) (by decide) (by decide)]
      exact (I.hr _ (Nat.mod_lt _ (by decide))).2
    have ck : pfX8_looks_g_r us tk bb gr = if 0 ≤ whF gr 2 (gr (152 + tk % 4)) bb 0 then whF gr 2 (gr (152 + tk % 4)) bb 0 else -2 := by
      unfold pfX8_looks_g_r; rw [if_neg cs]
    simp only [if_neg cm]
    rw [ep, ck, I.hol2 hn]
    generalize gr (152 + tk % 4) = p
    rcases wh_cases gr 2 p bb with zw | ⟨j, hj, s1, s2, zw⟩
    · have nw : ¬ (0 : Int32) ≤ whF gr 2 p bb 0 := by rw [zw]; decide
      have nw2 : ¬ (0 : Int32) ≤ -2 := by decide
      simp only [if_pos zw, if_neg nw, if_neg nw2]
      exact ⟨by first | trivial | exact Iff.rfl, I.mono⟩
    · have nz : ¬ whF gr 2 p bb 0 = -1 := by rw [zw]; exact nI_m1 (by omega)
      have le : (0 : Int32) ≤ whF gr 2 p bb 0 := by rw [zw, i32_le, nI_toInt (by omega), ti_0]; omega
      simp only [if_neg nz, if_pos le]
      rw [zw, nI_clamp (by omega)]
      refine ⟨by first | trivial | exact Iff.rfl, ?_⟩
      obtain ⟨y0, y2, y4, y7⟩ := I.hb j hj
      rw [putB (k := 0) (by omega) (by decide) (by decide), I.h5, ofB (k := 7) hj (by omega) (by decide) (by decide) (by omega), upd_ne (by omega), y7, I.h3, and15 I.l3]
      have ho : gr (168 + j) < 3 := by rw [s1]; decide
      have R : ∀ k, k ≠ 168 + j → upd gr (168 + j) 3 k = gr k := fun k a => upd_ne a
      have R1 : ¬ upd gr (168 + j) 3 (168 + j) < 3 := by rw [upd_eq]; decide
      have F := freeP_reap (gr := gr) (gr' := upd gr (168 + j) 3) ho R1 bb hj (fun b hb hne => R _ (by omega)) (fun b hb => R _ (by omega))
      have R3 : upd gr (168 + j) 3 (168 + j) = 3 := upd_eq
      generalize upd gr (168 + j) 3 = gr' at R R1 R3 F ⊢
      have J : ∀ b, gr' (168 + b) < 3 → b ≠ j := fun b h e => R1 (by rw [← e]; exact h)
      refine (INV.mk (I.mono.h0) (I.mono.h1) (I.mono.h2) (rfl) (rfl) (I.mono.l0) (I.mono.l1) (I.mono.l2) (Nat.mod_lt _ (by decide)) (I.mono.l5) (I.mono.h7) (I.mono.p7) (I.mono.h14) (I.mono.h15) (by rw [F, I.h4]) (fun k hk => by rw [R _ (by omega)]; exact I.hc k hk) (fun k hk => by rw [R _ (by omega), R _ (by omega)]; exact I.hr k hk) (fun b hb => ?_) (fun d hd => ?_) (fun b hb hob d hd => ?_) (fun b hb hob => ?_) (fun b hb hob => ?_) ?_)
      · obtain ⟨y0', y2', y4', y7'⟩ := I.hb b hb
        by_cases e : b = j
        · subst e
          rw [R3, R _ (by omega), R _ (by omega), R _ (by omega)]
          refine ⟨upd_eq, ?_, ?_, ?_⟩
          · rw [upd_ne (by omega)]; exact y2'
          · rw [upd_ne (by omega)]; exact y4'
          · rw [upd_ne (by omega)]; exact y7'
        · rw [R _ (by omega), R _ (by omega), R _ (by omega), R _ (by omega)]
          refine ⟨?_, ?_, ?_, ?_⟩
          · rw [upd_ne (by omega)]; exact y0'
          · rw [upd_ne (by omega)]; exact y2'
          · rw [upd_ne (by omega)]; exact y4'
          · rw [upd_ne (by omega)]; exact y7'
      · rw [relOW]
        rcases I.hG d hd with z | ⟨b, hb, z, hob⟩
        · left; rw [z]; split <;> rfl
        · by_cases e : b = j
          · left; rw [z, e, if_pos rfl]
          · right
            refine ⟨b, hb, ?_, by rw [R _ (by omega)]; exact hob⟩
            rw [z, if_neg (fun w => e (nI_inj (by omega) (by omega) w))]
      · have hne := J b hob
        rw [R _ (by omega)] at hob
        rw [R _ (by omega), relOW, I.hH b hb hob d hd]
        by_cases c : OW o0 o1 o2 o3 d = nI j
        · rw [if_pos c, c]
          exact ⟨fun _ z => nI_m1 (by omega) z.symm, fun _ z => hne (nI_inj (by omega) (by omega) z.symm)⟩
        · rw [if_neg c]
      · have hne := J b hob
        rw [R _ (by omega)] at hob
        obtain ⟨h, hh, w1, w2⟩ := I.hh b hb hob
        refine ⟨h, hh, by rw [R _ (by omega)]; exact w1, ?_⟩
        rw [relOW, w2, if_neg (fun z => hne (nI_inj (by omega) (by omega) z))]
      · have hne := J b hob
        rw [R _ (by omega)] at hob
        rw [R _ (by omega), I.hm b hb hob]
        unfold cO pfX2_release_a4_0 pfX2_release_a4_1 pfX2_release_a4_2 pfX2_release_a4_3
        rw [rel1 (by omega) (by omega) hne, rel1 (by omega) (by omega) hne, rel1 (by omega) (by omega) hne, rel1 (by omega) (by omega) hne]
      · rw [F, I.hf, I.hm j hj ho, nI_add]
        congr 1
        unfold cO pfX2_release_a4_0 pfX2_release_a4_1 pfX2_release_a4_2 pfX2_release_a4_3
        rw [rel2 (by omega), rel2 (by omega), rel2 (by omega), rel2 (by omega)]
        omega
end
