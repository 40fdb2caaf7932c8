theorem upd_ne {f : Nat → Int32} {k j : Nat} {x : Int32} (h : j ≠ k) : upd f k x j = f j := by unfold upd; rw [if_neg h]
theorem upd_eq {f : Nat → Int32} {k : Nat} {x : Int32} : upd f k x k = x := by unfold upd; rw [if_pos rfl]
theorem rowA {fr : Nat → Int32} {k c : Nat} {w : Int32} (hk : k < 4) (hw : w = nI c) (hc : c < 3) : pfX2_rowAt_r fr (nI k) w = fr (3 * k + c) := by
  subst hw
  unfold pfX2_rowAt_r
  have h2 : ¬ (2 : Int32) < nI c := by rw [i32_lt, nI_toInt (by omega), ti_2]; omega
  rw [if_neg (nI_pos (by omega)), if_neg (nI_geL (n := 4) (by decide) (by decide) hk), if_neg (nI_geL (n := 8) (by decide) (by decide) (by omega)), if_neg (nI_pos (by omega)), if_neg h2]
  rw [show (3 : Int32) = nI 3 by decide, pk_mul, nI_add, nI_clamp (by omega), Nat.mul_comm]
theorem putR {fr : Nat → Int32} {k c : Nat} {w v : Int32} (hk : k < 4) (hw : w = nI c) (hc : c < 3) : pfX2_putRow_a3_f fr (nI k) w v = upd fr (3 * k + c) v := by
  subst hw
  unfold pfX2_putRow_a3_f
  have h2 : ¬ (2 : Int32) < nI c := by rw [i32_lt, nI_toInt (by omega), ti_2]; omega
  rw [if_neg (nI_pos (by omega)), if_neg (nI_geL (n := 8) (by decide) (by decide) (by omega)), if_neg (nI_pos (by omega)), if_neg h2]
  rw [show (3 : Int32) = nI 3 by decide, pk_mul, nI_add, nI_clamp (by omega), Nat.mul_comm]
section
variable {nb : Nat} {o0 o1 o2 o3 m0 m1 m2 m3 m4 m5 m7 m14 m15 : Int32} {fc fr fb : Nat → Int32} {oo sn us tk bb : Nat} {e7 e8 e13 : Int32} {gr : Nat → Int32}
theorem INV.mono (I : INV nb o0 o1 o2 o3 m0 m1 m2 m3 m4 m5 m7 m14 m15 fc fr fb oo sn us tk bb e7 e8 e13 gr) : INV (nb + 1) o0 o1 o2 o3 m0 m1 m2 m3 m4 m5 m7 m14 m15 fc fr fb oo sn us tk bb e7 e8 e13 gr :=
  (INV.mk (I.h0) (I.h1) (I.h2) (I.h3) (I.h5) (I.l0) (I.l1) (I.l2) (I.l3) (by have := I.l5; omega) (I.h7) (I.p7) (I.h14) (I.h15) (I.h4) (I.hc) (I.hr) (I.hb) (I.hG) (I.hH) (I.hh) (I.hm) (I.hf))
/-- other words, but none that tells who has what -/
theorem INV.keep (I : INV nb o0 o1 o2 o3 m0 m1 m2 m3 m4 m5 m7 m14 m15 fc fr fb oo sn us tk bb e7 e8 e13 gr) {gr' : Nat → Int32} (C : ∀ b, b < bb → (gr' (168 + b) < 3 ↔ gr (168 + b) < 3)) (D1 : ∀ b, b < bb → gr' (1168 + b) = gr (1168 + b)) (D2 : ∀ b, b < bb → gr' (3668 + b) = gr (3668 + b)) (D3 : ∀ b, b < bb → gr' (4168 + b) = gr (4168 + b)) :
    freeP gr' bb = freeP gr bb ∧ (∀ d, d < 4 → OW o0 o1 o2 o3 d = -1 ∨ ∃ b, b < bb ∧ OW o0 o1 o2 o3 d = nI b ∧ gr' (168 + b) < 3) ∧ (∀ b, b < bb → gr' (168 + b) < 3 → ∀ d, d < 4 → (pfX8_bitOf_r (gr' (4168 + b)) (nI d) = 0 ↔ ¬ OW o0 o1 o2 o3 d = nI b)) ∧ (∀ b, b < bb → gr' (168 + b) < 3 → ∃ h, h < 4 ∧ gr' (1168 + b) = nI h ∧ OW o0 o1 o2 o3 h = nI b) ∧ (∀ b, b < bb → gr' (168 + b) < 3 → gr' (3668 + b) = nI (cO o0 o1 o2 o3 (nI b))) := by
  refine ⟨freeP_st bb (fun b hb => ⟨C b hb, D2 b hb⟩), fun d hd => ?_, fun b hb ho => ?_, fun b hb ho => ?_, fun b hb ho => ?_⟩
  · rcases I.hG d hd with z | ⟨b, hb, z, ho⟩
    · exact Or.inl z
    · exact Or.inr ⟨b, hb, z, (C b hb).mpr ho⟩
  · rw [D3 b hb]; exact I.hH b hb ((C b hb).mp ho)
  · rw [D1 b hb]; exact I.hh b hb ((C b hb).mp ho)
  · rw [D2 b hb]; exact I.hm b hb ((C b hb).mp ho)
theorem INV.note (I : INV nb o0 o1 o2 o3 m0 m1 m2 m3 m4 m5 m7 m14 m15 fc fr fb oo sn us tk bb e7 e8 e13 gr) : (((pfX2_notifyDevice_g_r m0 m14) + (pfX2_notifyDriver_g_r m2 m15)) ≤ 0 ↔ ((pfX8_notice_k_r oo e7) + (pfX8_notice_s_r us e8)) ≤ 0) ∧ INV (nb + 1) o0 o1 o2 o3 m0 m1 m2 m3 m4 m5 m7 m0 m2 fc fr fb oo sn us tk bb (nI oo) (nI us) e13 gr := by
  refine ⟨?_, (INV.mk (I.mono.h0) (I.mono.h1) (I.mono.h2) (I.mono.h3) (I.mono.h5) (I.mono.l0) (I.mono.l1) (I.mono.l2) (I.mono.l3) (I.mono.l5) (I.mono.h7) (I.mono.p7) (I.h0) (I.h2) (I.mono.h4) (I.mono.hc) (I.mono.hr) (I.mono.hb) (I.mono.hG) (I.mono.hH) (I.mono.hh) (I.mono.hm) (I.mono.hf))⟩
  have a : pfX2_notifyDevice_g_r m0 m14 = pfX8_notice_k_r oo e7 := by
    unfold pfX2_notifyDevice_g_r pfX2_isNoticeDue_g_r pfX8_notice_k_r
    rw [I.h0, I.h14]
    by_cases c : e7 = nI oo
    · rw [if_pos c, if_pos c.symm, if_pos rfl]
    · rw [if_neg c, if_neg (show ¬ (1 : Int32) = 0 by decide), if_neg (fun z => c z.symm)]
  have b : pfX2_notifyDriver_g_r m2 m15 = pfX8_notice_s_r us e8 := by
    unfold pfX2_notifyDriver_g_r pfX2_isNoticeDue_g_r pfX8_notice_s_r
    rw [I.h2, I.h15]
    by_cases c : e8 = nI us
    · rw [if_pos c, if_pos c.symm, if_pos rfl]
    · rw [if_neg c, if_neg (show ¬ (1 : Int32) = 0 by decide), if_neg (fun z => c z.symm)]
  rw [a, b]
theorem INV.fetch (I : INV nb o0 o1 o2 o3 m0 m1 m2 m3 m4 m5 m7 m14 m15 fc fr fb oo sn us tk bb e7 e8 e13 gr) (hn : nb ≤ 60) (wt : Int32) : (pfX2_take_g_r m0 m1 m5 m7 o0 o1 o2 o3 fc fr fb < 0 ↔ pfX8_fetch_g_r wt oo sn bb e13 gr < 0) ∧ INV (nb + 1) o0 o1 o2 o3 m0 (pfX2_take_g_a0_1 m0 m1 m5 m7 o0 o1 o2 o3 fc fr fb) m2 m3 m4 m5 (pfX2_take_g_a0_7 m0 m1 m5 m7 o0 o1 o2 o3 fc fr fb) m14 m15 fc fr (pfX2_take_g_a6_f m0 m1 m5 m7 o0 o1 o2 o3 fc fr fb) oo (pfX8_fetch_g_yr_4 wt oo sn bb e13 gr) us tk bb e7 e8 (pfX8_fetch_g_yr_13 wt oo sn bb e13 gr) (pfX8_fetch_g_yr_f wt oo sn bb e13 gr) := by
  have hl := I.l5
  unfold pfX2_take_g_r pfX2_take_g_a0_1 pfX2_take_g_a0_7 pfX2_take_g_a6_f pfX8_fetch_g_r pfX8_fetch_g_yr_4 pfX8_fetch_g_yr_13 pfX8_fetch_g_yr_f
  rcases I.p7 with z7 | z7
  · have c7 : m7 = 0 := by rw [I.h7, z7]
    have d7 : e13 ≤ 0 := by rw [z7]; decide
    simp only [if_pos c7, if_pos d7]
    by_cases cs : nI sn = nI oo
    · have cm : m1 = m0 := by rw [I.h1, I.h0, cs]
      have ct : pfX8_isThere_g_r oo sn = 0 := by unfold pfX8_isThere_g_r; rw [if_pos cs]
      simp only [if_pos cm, if_pos ct]
      exact ⟨by first | trivial | exact Iff.rfl, I.mono⟩
    · have cm : ¬ m1 = m0 := by rw [I.h1, I.h0]; exact cs
      have ct : ¬ pfX8_isThere_g_r oo sn = 0 := by unfold pfX8_isThere_g_r; rw [if_neg cs]; decide
      simp only [if_neg cm, if_neg ct]
      have ep : pfX2_rowAt_r fr (m1 &&& 3) 0 = gr (144 + sn % 4) := by
        rw [I.h1, and3 I.l1, rowA (c := 0) (Nat.mod_lt _ (by decide)) (by decide) (by decide)]
        exact (I.hr _ (Nat.mod_lt _ (by decide))).1
      rw [ep]
      generalize gr (144 + sn % 4) = p
      obtain ⟨w1, w2, w3⟩ := wk_5 I.hc p 0 0 0 0 0 0 0 (-1) wt 0 (by decide)
      rw [w1, w2, w3, I.hol0 hn p]
      rcases wk_ret (gr := gr) 5 p 0 0 0 0 0 wt 0 with zr | zr
      · have zr' : FLX8_walksIn_ret gr 5 p 0 0 0 0 0 wt 0 ≤ 0 := by rw [zr]; decide
        rcases wh_cases gr 0 p bb with zw | ⟨j, hj, s1, s2, zw⟩
        · have nw : ¬ (0 : Int32) ≤ whF gr 0 p bb 0 := by rw [zw]; decide
          simp only [if_pos zr, if_pos zr', if_pos zw, if_neg nw]
          exact ⟨by decide, (INV.mk (I.mono.h0) (I.mono.h1) (I.mono.h2) (I.mono.h3) (I.mono.h5) (I.mono.l0) (I.mono.l1) (I.mono.l2) (I.mono.l3) (I.mono.l5) (rfl) (Or.inr (by decide)) (I.mono.h14) (I.mono.h15) (I.mono.h4) (I.mono.hc) (I.mono.hr) (I.mono.hb) (I.mono.hG) (I.mono.hH) (I.mono.hh) (I.mono.hm) (I.mono.hf))⟩
        · have nz : ¬ whF gr 0 p bb 0 = -1 := by rw [zw]; exact nI_m1 (by omega)
          have le : (0 : Int32) ≤ whF gr 0 p bb 0 := by rw [zw, i32_le, nI_toInt (by omega), ti_0]; omega
          simp only [if_pos zr, if_pos zr', if_neg nz, if_pos le]
          rw [zw, nI_clamp (by omega)]
          refine ⟨by first | trivial | exact Iff.rfl, ?_⟩
          rw [putB (k := 5) (by omega) (by decide) (by decide), putB (k := 4) (by omega) (by decide) (by decide), putB (k := 0) (by omega) (by decide) (by decide)]
          generalize FLX8_walksIn_wc gr 5 p 0 0 0 0 0 wt 0 = cw
          generalize FLX8_walksIn_wl gr 5 p 0 0 0 0 0 wt 0 = lw
          have R : ∀ k, k ≠ 168 + j → k ≠ 2168 + j → k ≠ 2668 + j → upd (upd (upd gr (168 + j) 1) (2168 + j) cw) (2668 + j) lw k = gr k := fun k a b c => by rw [upd_ne c, upd_ne b, upd_ne a]
          have R1 : upd (upd (upd gr (168 + j) 1) (2168 + j) cw) (2668 + j) lw (168 + j) = 1 := by rw [upd_ne (by omega), upd_ne (by omega), upd_eq]
          have R2 : upd (upd (upd gr (168 + j) 1) (2168 + j) cw) (2668 + j) lw (2168 + j) = cw := by rw [upd_ne (by omega), upd_eq]
          generalize upd (upd (upd gr (168 + j) 1) (2168 + j) cw) (2668 + j) lw = gr' at R R1 R2 ⊢
          obtain ⟨k0, k1, k2, k3, k4⟩ := I.keep (gr' := gr') (fun b hb => by
            by_cases e : b = j
            · rw [e, R1, s1]; decide
            · rw [R _ (by omega) (by omega) (by omega)]) (fun b hb => R _ (by omega) (by omega) (by omega)) (fun b hb => R _ (by omega) (by omega) (by omega)) (fun b hb => R _ (by omega) (by omega) (by omega))
          refine (INV.mk (I.mono.h0) (by rw [I.h1, and15 I.l1]) (I.mono.h2) (I.mono.h3) (I.mono.h5) (I.mono.l0) (Nat.mod_lt _ (by decide)) (I.mono.l2) (I.mono.l3) (I.mono.l5) (I.mono.h7) (I.mono.p7) (I.mono.h14) (I.mono.h15) (by rw [k0]; exact I.h4) (fun k hk => by rw [R _ (by omega) (by omega) (by omega)]; exact I.hc k hk) (fun k hk => by rw [R _ (by omega) (by omega) (by omega), R _ (by omega) (by omega) (by omega)]; exact I.hr k hk) (fun b hb => ?_) (k1) (k2) (k3) (k4) (by rw [k0]; exact I.hf))
          obtain ⟨y0, y2, y4, y7⟩ := I.hb b hb
          by_cases e : b = j
          · subst e
            rw [R1, R2, R _ (by omega) (by omega) (by omega), R _ (by omega) (by omega) (by omega)]
            refine ⟨?_, ?_, ?_, ?_⟩
            · rw [upd_ne (by omega), upd_ne (by omega), upd_eq]
            · rw [upd_ne (by omega), upd_ne (by omega), upd_ne (by omega)]; exact y2
            · rw [upd_ne (by omega), upd_eq]
            · rw [upd_ne (by omega), upd_ne (by omega), upd_ne (by omega)]; exact y7
          · rw [R _ (by omega) (by omega) (by omega), R _ (by omega) (by omega) (by omega), R _ (by omega) (by omega) (by omega), R _ (by omega) (by omega) (by omega)]
            refine ⟨?_, ?_, ?_, ?_⟩
            · rw [upd_ne (by omega), upd_ne (by omega), upd_ne (by omega)]; exact y0
            · rw [upd_ne (by omega), upd_ne (by omega), upd_ne (by omega)]; exact y2
            · rw [upd_ne (by omega), upd_ne (by omega), upd_ne (by omega)]; exact y4
            · rw [upd_ne (by omega), upd_ne (by omega), upd_ne (by omega)]; exact y7
      · have nr : ¬ FLX8_walksIn_ret gr 5 p 0 0 0 0 0 wt 0 = 0 := fun e => zr (by rw [e]; decide)
        simp only [if_neg nr, if_neg zr]
        exact ⟨by first | trivial | exact Iff.rfl, (INV.mk (I.mono.h0) (I.mono.h1) (I.mono.h2) (I.mono.h3) (I.mono.h5) (I.mono.l0) (I.mono.l1) (I.mono.l2) (I.mono.l3) (I.mono.l5) (rfl) (Or.inr zr) (I.mono.h14) (I.mono.h15) (I.mono.h4) (I.mono.hc) (I.mono.hr) (I.mono.hb) (I.mono.hG) (I.mono.hH) (I.mono.hh) (I.mono.hm) (I.mono.hf))⟩
  · have c7 : ¬ m7 = 0 := by rw [I.h7]; exact fun e => z7 (by rw [e]; decide)
    simp only [if_neg c7, if_neg z7]
    exact ⟨by first | trivial | exact Iff.rfl, I.mono⟩
end
