def CG (fc G : Nat → Int32) : Prop := ∀ k, k < 12 → fc k = G (24 + k)
theorem CG.u {fc G : Nat → Int32} {i j : Nat} {x : Int32} (h : CG fc G) (e : j = 24 + i) : CG (upd fc i x) (upd G j x) := by
  intro k hk
  subst e
  by_cases c : k = i
  · subst c; rw [upd_eq, upd_eq]
  · rw [upd_ne c, upd_ne (by omega)]; exact h k hk
def GK (gr G : Nat → Int32) : Prop := ∀ k, k < 24 ∨ 36 ≤ k → G k = gr k
theorem GK.u {gr G : Nat → Int32} {j : Nat} {x : Int32} (h : GK gr G) (h1 : 24 ≤ j) (h2 : j < 36) : GK gr (upd G j x) := by
  intro k hk
  rw [upd_ne (by omega)]; exact h k hk
theorem lf_ne {o0 o1 o2 o3 : Int32} (h : 1 ≤ cO o0 o1 o2 o3 (-1)) : ¬ pfX2_leastFreeId_r o0 o1 o2 o3 = -1 := by
  unfold pfX2_leastFreeId_r
  unfold cO at h
  by_cases c0 : o0 = -1
  · rw [if_pos c0]; decide
  · by_cases c1 : o1 = -1
    · rw [if_neg c0, if_pos c1]; decide
    · by_cases c2 : o2 = -1
      · rw [if_neg c0, if_neg c1, if_pos c2]; decide
      · by_cases c3 : o3 = -1
        · rw [if_neg c0, if_neg c1, if_neg c2, if_pos c3]; decide
        · rw [if_neg c0, if_neg c1, if_neg c2, if_neg c3] at h
          omega
theorem nb_hd {fb : Nat → Int32} {bb : Nat} {q p3 : Int32} (hb : bb < 400) : pfX2_ofBuffer_g_r (nI bb + 1) (upd (upd (upd (upd (upd (upd (upd (upd fb (8 * bb + 0) 0) (8 * bb + 1) q) (8 * bb + 2) p3) (8 * bb + 3) (-1)) (8 * bb + 4) (-1)) (8 * bb + 5) (-1)) (8 * bb + 6) (-1)) (8 * bb + 7) q) (nI bb) 2 = p3 := by
  rw [nI_1, ofB (k := 2) (by omega) (by omega) (by decide) (by decide) (by omega), upd_ne (by omega), upd_ne (by omega), upd_ne (by omega), upd_ne (by omega), upd_ne (by omega), upd_eq]
section
variable {nb : Nat} {o0 o1 o2 o3 m0 m1 m2 m3 m4 m5 m7 m14 m15 : Int32} {fc fr fb : Nat → Int32} {oo sn us tk bb : Nat} {e7 e8 e13 : Int32} {gr : Nat → Int32}
theorem INV.nbb (I : INV nb o0 o1 o2 o3 m0 m1 m2 m3 m4 m5 m7 m14 m15 fc fr fb oo sn us tk bb e7 e8 e13 gr) (hn : nb ≤ 60) (d : Nat) (hd : d < 4) : ¬ OW o0 o1 o2 o3 d = nI bb := by
  have hl := I.l5
  intro z
  rcases I.hG d hd with h | ⟨b, hb, h, -⟩
  · exact nI_m1 (by omega) (z.symm.trans h)
  · have := nI_inj (by omega) (by omega) (z.symm.trans h)
    omega
theorem cO_keep {o n : Int32} {b bb : Nat} (hb : b < bb) (hbb : bb < 400) (h : n = o ∨ (o = -1 ∧ n = nI bb)) : (if n = nI b then 1 else 0) = (if o = nI b then 1 else 0 : Nat) := by
  rcases h with h | ⟨h1, h2⟩
  · rw [h]
  · rw [h1, h2, if_neg (fun z => by have := nI_inj (by omega) (by omega) z; omega), if_neg (fun z => nI_m1 (by omega) z.symm)]
theorem INV.offer (I : INV nb o0 o1 o2 o3 m0 m1 m2 m3 m4 m5 m7 m14 m15 fc fr fb oo sn us tk bb e7 e8 e13 gr) (hn : nb ≤ 60) {fc' G : Nat → Int32} {n0 n1 n2 n3 has hd qi : Int32} {h q : Nat} (hh : h < 4) (ehd : hd = nI h) (eqi : qi = nI q)
    (gk : GK gr G) (ck : CG fc' G)
    (ow : ∀ d, d < 4 → (OW n0 n1 n2 n3 d = OW o0 o1 o2 o3 d ∧ pfX8_bitOf_r has (nI d) = 0) ∨ (OW o0 o1 o2 o3 d = -1 ∧ OW n0 n1 n2 n3 d = nI bb ∧ ¬ pfX8_bitOf_r has (nI d) = 0))
    (hw : OW n0 n1 n2 n3 h = nI bb) (c1 : cO n0 n1 n2 n3 (nI bb) = q) (c2 : cO o0 o1 o2 o3 (-1) = cO n0 n1 n2 n3 (-1) + q) :
    INV (nb + 1) n0 n1 n2 n3 ((nI oo + 1) &&& 15) m1 m2 m3 (m4 - qi) (nI bb + 1) m7 m14 m15 fc' (pfX2_putRow_a3_f fr (nI oo &&& 3) 0 hd) (upd (upd (upd (upd (upd (upd (upd (upd fb (8 * bb + 0) 0) (8 * bb + 1) qi) (8 * bb + 2) hd) (8 * bb + 3) (-1)) (8 * bb + 4) (-1)) (8 * bb + 5) (-1)) (8 * bb + 6) (-1)) (8 * bb + 7) qi) ((oo + 1) % 16) sn us tk (bb + 1) e7 e8 e13 (upd (upd (upd (upd (upd (upd (upd (upd (upd (upd G (144 + (oo % 4)) hd) (168 + bb) 0) (668 + bb) qi) (1168 + bb) hd) (1668 + bb) (-1)) (2168 + bb) (-1)) (2668 + bb) (-1)) (3168 + bb) (-1)) (3668 + bb) qi) (4168 + bb) has) := by
  have hl := I.l5
  have hu : oo % 4 < 4 := Nat.mod_lt _ (by decide)
  rw [and15 I.l0, and3 I.l0, nI_1]
  generalize oo % 4 = u at hu ⊢
  rw [putR (c := 0) hu (by decide) (by decide)]
  have R : ∀ k, k ≠ 144 + u → k ≠ 168 + bb → k ≠ 668 + bb → k ≠ 1168 + bb → k ≠ 1668 + bb → k ≠ 2168 + bb → k ≠ 2668 + bb → k ≠ 3168 + bb → k ≠ 3668 + bb → k ≠ 4168 + bb → (upd (upd (upd (upd (upd (upd (upd (upd (upd (upd G (144 + u) hd) (168 + bb) 0) (668 + bb) qi) (1168 + bb) hd) (1668 + bb) (-1)) (2168 + bb) (-1)) (2668 + bb) (-1)) (3168 + bb) (-1)) (3668 + bb) qi) (4168 + bb) has) k = G k := fun k a0 a1 a2 a3 a4 a5 a6 a7 a8 a9 => by rw [upd_ne a9, upd_ne a8, upd_ne a7, upd_ne a6, upd_ne a5, upd_ne a4, upd_ne a3, upd_ne a2, upd_ne a1, upd_ne a0]
  have T0 : (upd (upd (upd (upd (upd (upd (upd (upd (upd (upd G (144 + u) hd) (168 + bb) 0) (668 + bb) qi) (1168 + bb) hd) (1668 + bb) (-1)) (2168 + bb) (-1)) (2668 + bb) (-1)) (3168 + bb) (-1)) (3668 + bb) qi) (4168 + bb) has) (168 + bb) = 0 := by rw [upd_ne (by omega), upd_ne (by omega), upd_ne (by omega), upd_ne (by omega), upd_ne (by omega), upd_ne (by omega), upd_ne (by omega), upd_ne (by omega), upd_eq]
  have T2 : (upd (upd (upd (upd (upd (upd (upd (upd (upd (upd G (144 + u) hd) (168 + bb) 0) (668 + bb) qi) (1168 + bb) hd) (1668 + bb) (-1)) (2168 + bb) (-1)) (2668 + bb) (-1)) (3168 + bb) (-1)) (3668 + bb) qi) (4168 + bb) has) (1168 + bb) = hd := by rw [upd_ne (by omega), upd_ne (by omega), upd_ne (by omega), upd_ne (by omega), upd_ne (by omega), upd_ne (by omega), upd_eq]
  have T4 : (upd (upd (upd (upd (upd (upd (upd (upd (upd (upd G (144 + u) hd) (168 + bb) 0) (668 + bb) qi) (1168 + bb) hd) (1668 + bb) (-1)) (2168 + bb) (-1)) (2668 + bb) (-1)) (3168 + bb) (-1)) (3668 + bb) qi) (4168 + bb) has) (2168 + bb) = -1 := by rw [upd_ne (by omega), upd_ne (by omega), upd_ne (by omega), upd_ne (by omega), upd_eq]
  have T7 : (upd (upd (upd (upd (upd (upd (upd (upd (upd (upd G (144 + u) hd) (168 + bb) 0) (668 + bb) qi) (1168 + bb) hd) (1668 + bb) (-1)) (2168 + bb) (-1)) (2668 + bb) (-1)) (3168 + bb) (-1)) (3668 + bb) qi) (4168 + bb) has) (3668 + bb) = qi := by rw [upd_ne (by omega), upd_eq]
  have T8 : (upd (upd (upd (upd (upd (upd (upd (upd (upd (upd G (144 + u) hd) (168 + bb) 0) (668 + bb) qi) (1168 + bb) hd) (1668 + bb) (-1)) (2168 + bb) (-1)) (2668 + bb) (-1)) (3168 + bb) (-1)) (3668 + bb) qi) (4168 + bb) has) (4168 + bb) = has := by rw [upd_eq]
  have Tu : (upd (upd (upd (upd (upd (upd (upd (upd (upd (upd G (144 + u) hd) (168 + bb) 0) (668 + bb) qi) (1168 + bb) hd) (1668 + bb) (-1)) (2168 + bb) (-1)) (2668 + bb) (-1)) (3168 + bb) (-1)) (3668 + bb) qi) (4168 + bb) has) (144 + u) = hd := by rw [upd_ne (by omega), upd_ne (by omega), upd_ne (by omega), upd_ne (by omega), upd_ne (by omega), upd_ne (by omega), upd_ne (by omega), upd_ne (by omega), upd_ne (by omega), upd_eq]
  generalize (upd (upd (upd (upd (upd (upd (upd (upd (upd (upd G (144 + u) hd) (168 + bb) 0) (668 + bb) qi) (1168 + bb) hd) (1668 + bb) (-1)) (2168 + bb) (-1)) (2668 + bb) (-1)) (3168 + bb) (-1)) (3668 + bb) qi) (4168 + bb) has) = gr' at R T0 T2 T4 T7 T8 Tu ⊢
  have K : ∀ k, (k < 24 ∨ 36 ≤ k) → k ≠ 144 + u → k ≠ 168 + bb → k ≠ 668 + bb → k ≠ 1168 + bb → k ≠ 1668 + bb → k ≠ 2168 + bb → k ≠ 2668 + bb → k ≠ 3168 + bb → k ≠ 3668 + bb → k ≠ 4168 + bb → gr' k = gr k := fun k a a0 a1 a2 a3 a4 a5 a6 a7 a8 a9 => by rw [R k a0 a1 a2 a3 a4 a5 a6 a7 a8 a9, gk k a]
  have S0 : ∀ b, b < bb → gr' (168 + b) = gr (168 + b) := fun b hb => K _ (by omega) (by omega) (by omega) (by omega) (by omega) (by omega) (by omega) (by omega) (by omega) (by omega) (by omega)
  have S2 : ∀ b, b < bb → gr' (1168 + b) = gr (1168 + b) := fun b hb => K _ (by omega) (by omega) (by omega) (by omega) (by omega) (by omega) (by omega) (by omega) (by omega) (by omega) (by omega)
  have S4 : ∀ b, b < bb → gr' (2168 + b) = gr (2168 + b) := fun b hb => K _ (by omega) (by omega) (by omega) (by omega) (by omega) (by omega) (by omega) (by omega) (by omega) (by omega) (by omega)
  have S7 : ∀ b, b < bb → gr' (3668 + b) = gr (3668 + b) := fun b hb => K _ (by omega) (by omega) (by omega) (by omega) (by omega) (by omega) (by omega) (by omega) (by omega) (by omega) (by omega)
  have S8 : ∀ b, b < bb → gr' (4168 + b) = gr (4168 + b) := fun b hb => K _ (by omega) (by omega) (by omega) (by omega) (by omega) (by omega) (by omega) (by omega) (by omega) (by omega) (by omega)
  have F : freeP gr' (bb + 1) = freeP gr bb - qi := by
    rw [freeP, freeP_congr bb (fun b hb => ⟨S0 b hb, S7 b hb⟩), if_neg (by rw [out0, T0]; exact fun z => z (by decide)), T7]
  have W1 : ∀ d, d < 4 → ∀ b, b < bb → (OW n0 n1 n2 n3 d = nI b ↔ OW o0 o1 o2 o3 d = nI b) := fun d hd b hb => by
    rcases ow d hd with ⟨z, -⟩ | ⟨z1, z2, -⟩
    · rw [z]
    · rw [z1, z2]
      exact ⟨fun z => by have := nI_inj (by omega) (by omega) z; omega, fun z => absurd z.symm (nI_m1 (by omega))⟩
  have W2 : ∀ d, d < 4 → OW n0 n1 n2 n3 d = OW o0 o1 o2 o3 d ∨ (OW o0 o1 o2 o3 d = -1 ∧ OW n0 n1 n2 n3 d = nI bb) := fun d hd => by
    rcases ow d hd with ⟨z, -⟩ | ⟨z1, z2, -⟩
    · exact Or.inl z
    · exact Or.inr ⟨z1, z2⟩
  refine (INV.mk (rfl) (I.mono.h1) (I.mono.h2) (I.mono.h3) (rfl) (Nat.mod_lt _ (by decide)) (I.mono.l1) (I.mono.l2) (I.mono.l3) (by omega) (I.mono.h7) (I.mono.p7) (I.mono.h14) (I.mono.h15) (by rw [F, I.h4]) (fun k hk => ?_) (fun k hk => ?_) (fun b hb => ?_) (fun d hd => ?_) (fun b hb hob d hd => ?_) (fun b hb hob => ?_) (fun b hb hob => ?_) ?_)
  · rw [ck k hk, R _ (by omega) (by omega) (by omega) (by omega) (by omega) (by omega) (by omega) (by omega) (by omega) (by omega)]
  · obtain ⟨r0, r1⟩ := I.hr k hk
    refine ⟨?_, ?_⟩
    · by_cases e : k = u
      · subst e; rw [Tu]; exact upd_eq
      · rw [K _ (by omega) (by omega) (by omega) (by omega) (by omega) (by omega) (by omega) (by omega) (by omega) (by omega) (by omega), upd_ne (by omega)]; exact r0
    · rw [K _ (by omega) (by omega) (by omega) (by omega) (by omega) (by omega) (by omega) (by omega) (by omega) (by omega) (by omega), upd_ne (by omega)]; exact r1
  · by_cases e : b = bb
    · subst e
      rw [T0, T2, T4, T7]
      refine ⟨?_, ?_, ?_, ?_⟩
      · rw [upd_ne (by omega), upd_ne (by omega), upd_ne (by omega), upd_ne (by omega), upd_ne (by omega), upd_ne (by omega), upd_ne (by omega), upd_eq]
      · rw [upd_ne (by omega), upd_ne (by omega), upd_ne (by omega), upd_ne (by omega), upd_ne (by omega), upd_eq]
      · rw [upd_ne (by omega), upd_ne (by omega), upd_ne (by omega), upd_eq]
      · exact upd_eq
    · have hb' : b < bb := by omega
      obtain ⟨y0, y2, y4, y7⟩ := I.hb b hb'
      rw [S0 b hb', S2 b hb', S4 b hb', S7 b hb']
      refine ⟨?_, ?_, ?_, ?_⟩
      · rw [upd_ne (by omega), upd_ne (by omega), upd_ne (by omega), upd_ne (by omega), upd_ne (by omega), upd_ne (by omega), upd_ne (by omega), upd_ne (by omega)]; exact y0
      · rw [upd_ne (by omega), upd_ne (by omega), upd_ne (by omega), upd_ne (by omega), upd_ne (by omega), upd_ne (by omega), upd_ne (by omega), upd_ne (by omega)]; exact y2
      · rw [upd_ne (by omega), upd_ne (by omega), upd_ne (by omega), upd_ne (by omega), upd_ne (by omega), upd_ne (by omega), upd_ne (by omega), upd_ne (by omega)]; exact y4
      · rw [upd_ne (by omega), upd_ne (by omega), upd_ne (by omega), upd_ne (by omega), upd_ne (by omega), upd_ne (by omega), upd_ne (by omega), upd_ne (by omega)]; exact y7
  · rcases ow d hd with ⟨z, -⟩ | ⟨-, z2, -⟩
    · rcases I.hG d hd with h | ⟨b, hb, h, hob⟩
      · left; rw [z, h]
      · right; exact ⟨b, by omega, by rw [z, h], by rw [S0 b hb]; exact hob⟩
    · right; exact ⟨bb, by omega, z2, by rw [T0]; decide⟩
  · by_cases e : b = bb
    · subst e
      rw [T8]
      rcases ow d hd with ⟨z1, z2⟩ | ⟨-, z2, z3⟩
      · rw [z1]; exact ⟨fun _ => I.nbb hn d hd, fun _ => z2⟩
      · exact ⟨fun z => absurd z z3, fun z => absurd z2 z⟩
    · have hb' : b < bb := by omega
      rw [S0 b hb'] at hob
      rw [S8 b hb', I.hH b hb' hob d hd, W1 d hd b hb']
  · by_cases e : b = bb
    · subst e
      exact ⟨h, hh, by rw [T2, ehd], hw⟩
    · have hb' : b < bb := by omega
      rw [S0 b hb'] at hob
      obtain ⟨h', hh', w1, w2⟩ := I.hh b hb' hob
      exact ⟨h', hh', by rw [S2 b hb']; exact w1, (W1 h' hh' b hb').mpr w2⟩
  · by_cases e : b = bb
    · subst e
      rw [T7, eqi, c1]
    · have hb' : b < bb := by omega
      rw [S0 b hb'] at hob
      rw [S7 b hb', I.hm b hb' hob]
      unfold cO
      rw [cO_keep (n := n0) hb' (by omega) (W2 0 (by decide)), cO_keep (n := n1) hb' (by omega) (W2 1 (by decide)), cO_keep (n := n2) hb' (by omega) (W2 2 (by decide)), cO_keep (n := n3) hb' (by omega) (W2 3 (by decide))]
      rfl
  · rw [F, I.hf, c2, eqi, ← nI_add, Int32.add_sub_cancel]

theorem INV.off_10 (I : INV nb o0 o1 o2 o3 m0 m1 m2 m3 m4 m5 m7 m14 m15 fc fr fb oo sn us tk bb e7 e8 e13 gr) (hn : nb ≤ 60) : (pfX2_lay_10_r m4 m5 m7 o0 o1 o2 o3 < 0 ↔ pfX8_tryOffer_10_r bb e13 gr < 0) ∧ INV (nb + 1) (pfX2_lay_10_a4_0 m4 m5 m7 o0 o1 o2 o3) (pfX2_lay_10_a4_1 m4 m5 m7 o0 o1 o2 o3) (pfX2_lay_10_a4_2 m4 m5 m7 o0 o1 o2 o3) (pfX2_lay_10_a4_3 m4 m5 m7 o0 o1 o2 o3) (pfX2_lay_10_a0_0 m0 m4 m5 m7 o0 o1 o2 o3) m1 m2 m3 (pfX2_lay_10_a0_4 m4 m5 m7 o0 o1 o2 o3) (pfX2_lay_10_a0_5 m4 m5 m7 o0 o1 o2 o3) m7 m14 m15 (pfX2_lay_10_a1_f m4 m5 m7 o0 o1 o2 o3 fc) (pfX2_lay_10_a3_f m0 m4 m5 m7 o0 o1 o2 o3 fr fb) (pfX2_lay_10_a6_f m4 m5 m7 o0 o1 o2 o3 fb) (pfX8_tryOffer_10_yr_3 oo bb e13 gr) sn us tk (pfX8_tryOffer_10_yr_16 bb e13 gr) e7 e8 e13 (pfX8_tryOffer_10_yr_f oo bb e13 gr) := by
  have hl := I.l5
  unfold pfX2_lay_10_r pfX2_lay_10_a4_0 pfX2_lay_10_a4_1 pfX2_lay_10_a4_2 pfX2_lay_10_a4_3 pfX2_lay_10_a0_0 pfX2_lay_10_a0_4 pfX2_lay_10_a0_5 pfX2_lay_10_a1_f pfX2_lay_10_a3_f pfX2_lay_10_a6_f pfX8_tryOffer_10_r pfX8_tryOffer_10_yr_3 pfX8_tryOffer_10_yr_16 pfX8_tryOffer_10_yr_f
  rcases I.p7 with z7 | z7
  · have c7 : m7 = 0 := by rw [I.h7, z7]
    have d7 : e13 ≤ 0 := by rw [z7]; decide
    simp only [if_pos c7, if_pos d7]
    by_cases cq : (1 : Int32) ≤ freeP gr bb
    · have cm : ¬ m4 < 1 := by rw [I.h4]; exact Int32.not_lt.mpr cq
      have c5 : m5 < 500 := by rw [I.h5, i32_lt, nI_toInt (by omega), show (500 : Int32).toInt = 500 by decide]; omega
      have cn : 1 ≤ cO o0 o1 o2 o3 (-1) := by rw [← I.cnt hn]; exact I.ri hn (k := 1) (by decide) (by decide) cq
      have cl : ¬ pfX2_leastFreeId_r o0 o1 o2 o3 = -1 := lf_ne (by omega)
      simp only [if_neg cm, if_neg cl, if_pos c5, if_pos cq]
      refine ⟨by rw [I.h5], ?_⟩
      rw [I.h5, I.h0, nb_u1 (by omega), nb_hd (by omega)]
      have b0 : pfX8_bitOf_r (hbits gr bb) 0 = 0 ↔ o0 = -1 := I.bit hn 0 (by decide)
      have b1 : pfX8_bitOf_r (hbits gr bb) 1 = 0 ↔ o1 = -1 := I.bit hn 1 (by decide)
      have b2 : pfX8_bitOf_r (hbits gr bb) 2 = 0 ↔ o2 = -1 := I.bit hn 2 (by decide)
      have b3 : pfX8_bitOf_r (hbits gr bb) 3 = 0 ↔ o3 = -1 := I.bit hn 3 (by decide)
      have g0 : ¬ o0 = nI bb := I.nbb hn 0 (by decide)
      have g1 : ¬ o1 = nI bb := I.nbb hn 1 (by decide)
      have g2 : ¬ o2 = nI bb := I.nbb hn 2 (by decide)
      have g3 : ¬ o3 = nI bb := I.nbb hn 3 (by decide)
      have gm : ¬ nI bb = -1 := nI_m1 (by omega)
      unfold pfX2_laySplit_10_a1_f pfX2_laySplit_10_a4_0 pfX2_laySplit_10_a4_1 pfX2_laySplit_10_a4_2 pfX2_laySplit_10_a4_3 pfX8_offers_10_yr_f
      unfold cO at cn
      by_cases k0 : o0 = -1
      · by_cases k1 : o1 = -1
        · by_cases k2 : o2 = -1
          · by_cases k3 : o3 = -1
            · have hlf : pfX2_leastFreeId_r o0 o1 o2 o3 = 0 := by unfold pfX2_leastFreeId_r; rw [if_pos k0]
              have B0 := b0.mpr k0
              have B1 := b1.mpr k1
              have B2 := b2.mpr k2
              have B3 := b3.mpr k3
              simp only [if_pos k0, if_pos B0, if_pos k1, if_pos B1, if_pos k2, if_pos B2, if_pos k3, if_pos B3]
              rw [hlf]
              exact I.offer hn (h := 0) (q := 1) (by decide) (by decide) (by decide) (GK.u (GK.u (GK.u (show GK gr gr from fun _ _ => rfl) (by decide) (by decide)) (by decide) (by decide)) (by decide) (by decide)) (CG.u (CG.u (CG.u (show CG fc gr from I.hc) rfl) rfl) rfl) (fun d hd => match d, hd with | 0, _ => Or.inr ⟨k0, rfl, by decide⟩ | 1, _ => Or.inl ⟨rfl, by decide⟩ | 2, _ => Or.inl ⟨rfl, by decide⟩ | 3, _ => Or.inl ⟨rfl, by decide⟩ | d + 4, h => absurd h (by omega)) rfl (by simp only [cO, if_pos (rfl : nI bb = nI bb), if_neg g1, if_neg g2, if_neg g3] <;> rfl) (by simp only [cO, if_neg gm, if_pos k0, if_pos k1, if_pos k2, if_pos k3] <;> rfl)
            · have hlf : pfX2_leastFreeId_r o0 o1 o2 o3 = 0 := by unfold pfX2_leastFreeId_r; rw [if_pos k0]
              have B0 := b0.mpr k0
              have B1 := b1.mpr k1
              have B2 := b2.mpr k2
              have B3 : ¬ pfX8_bitOf_r (hbits gr bb) 3 = 0 := fun z => k3 (b3.mp z)
              simp only [if_pos k0, if_pos B0, if_pos k1, if_pos B1, if_pos k2, if_pos B2, if_neg k3, if_neg B3]
              rw [hlf]
              exact I.offer hn (h := 0) (q := 1) (by decide) (by decide) (by decide) (GK.u (GK.u (GK.u (show GK gr gr from fun _ _ => rfl) (by decide) (by decide)) (by decide) (by decide)) (by decide) (by decide)) (CG.u (CG.u (CG.u (show CG fc gr from I.hc) rfl) rfl) rfl) (fun d hd => match d, hd with | 0, _ => Or.inr ⟨k0, rfl, by decide⟩ | 1, _ => Or.inl ⟨rfl, by decide⟩ | 2, _ => Or.inl ⟨rfl, by decide⟩ | 3, _ => Or.inl ⟨rfl, by decide⟩ | d + 4, h => absurd h (by omega)) rfl (by simp only [cO, if_pos (rfl : nI bb = nI bb), if_neg g1, if_neg g2, if_neg g3] <;> rfl) (by simp only [cO, if_neg gm, if_pos k0, if_pos k1, if_pos k2, if_neg k3] <;> rfl)
          · by_cases k3 : o3 = -1
            · have hlf : pfX2_leastFreeId_r o0 o1 o2 o3 = 0 := by unfold pfX2_leastFreeId_r; rw [if_pos k0]
              have B0 := b0.mpr k0
              have B1 := b1.mpr k1
              have B2 : ¬ pfX8_bitOf_r (hbits gr bb) 2 = 0 := fun z => k2 (b2.mp z)
              have B3 := b3.mpr k3
              simp only [if_pos k0, if_pos B0, if_pos k1, if_pos B1, if_neg k2, if_neg B2, if_pos k3, if_pos B3]
              rw [hlf]
              exact I.offer hn (h := 0) (q := 1) (by decide) (by decide) (by decide) (GK.u (GK.u (GK.u (show GK gr gr from fun _ _ => rfl) (by decide) (by decide)) (by decide) (by decide)) (by decide) (by decide)) (CG.u (CG.u (CG.u (show CG fc gr from I.hc) rfl) rfl) rfl) (fun d hd => match d, hd with | 0, _ => Or.inr ⟨k0, rfl, by decide⟩ | 1, _ => Or.inl ⟨rfl, by decide⟩ | 2, _ => Or.inl ⟨rfl, by decide⟩ | 3, _ => Or.inl ⟨rfl, by decide⟩ | d + 4, h => absurd h (by omega)) rfl (by simp only [cO, if_pos (rfl : nI bb = nI bb), if_neg g1, if_neg g2, if_neg g3] <;> rfl) (by simp only [cO, if_neg gm, if_pos k0, if_pos k1, if_neg k2, if_pos k3] <;> rfl)
            · have hlf : pfX2_leastFreeId_r o0 o1 o2 o3 = 0 := by unfold pfX2_leastFreeId_r; rw [if_pos k0]
              have B0 := b0.mpr k0
              have B1 := b1.mpr k1
              have B2 : ¬ pfX8_bitOf_r (hbits gr bb) 2 = 0 := fun z => k2 (b2.mp z)
              have B3 : ¬ pfX8_bitOf_r (hbits gr bb) 3 = 0 := fun z => k3 (b3.mp z)
              simp only [if_pos k0, if_pos B0, if_pos k1, if_pos B1, if_neg k2, if_neg B2, if_neg k3, if_neg B3]
              rw [hlf]
              exact I.offer hn (h := 0) (q := 1) (by decide) (by decide) (by decide) (GK.u (GK.u (GK.u (show GK gr gr from fun _ _ => rfl) (by decide) (by decide)) (by decide) (by decide)) (by decide) (by decide)) (CG.u (CG.u (CG.u (show CG fc gr from I.hc) rfl) rfl) rfl) (fun d hd => match d, hd with | 0, _ => Or.inr ⟨k0, rfl, by decide⟩ | 1, _ => Or.inl ⟨rfl, by decide⟩ | 2, _ => Or.inl ⟨rfl, by decide⟩ | 3, _ => Or.inl ⟨rfl, by decide⟩ | d + 4, h => absurd h (by omega)) rfl (by simp only [cO, if_pos (rfl : nI bb = nI bb), if_neg g1, if_neg g2, if_neg g3] <;> rfl) (by simp only [cO, if_neg gm, if_pos k0, if_pos k1, if_neg k2, if_neg k3] <;> rfl)
        · by_cases k2 : o2 = -1
          · by_cases k3 : o3 = -1
            · have hlf : pfX2_leastFreeId_r o0 o1 o2 o3 = 0 := by unfold pfX2_leastFreeId_r; rw [if_pos k0]
              have B0 := b0.mpr k0
              have B1 : ¬ pfX8_bitOf_r (hbits gr bb) 1 = 0 := fun z => k1 (b1.mp z)
              have B2 := b2.mpr k2
              have B3 := b3.mpr k3
              simp only [if_pos k0, if_pos B0, if_neg k1, if_neg B1, if_pos k2, if_pos B2, if_pos k3, if_pos B3]
              rw [hlf]
              exact I.offer hn (h := 0) (q := 1) (by decide) (by decide) (by decide) (GK.u (GK.u (GK.u (show GK gr gr from fun _ _ => rfl) (by decide) (by decide)) (by decide) (by decide)) (by decide) (by decide)) (CG.u (CG.u (CG.u (show CG fc gr from I.hc) rfl) rfl) rfl) (fun d hd => match d, hd with | 0, _ => Or.inr ⟨k0, rfl, by decide⟩ | 1, _ => Or.inl ⟨rfl, by decide⟩ | 2, _ => Or.inl ⟨rfl, by decide⟩ | 3, _ => Or.inl ⟨rfl, by decide⟩ | d + 4, h => absurd h (by omega)) rfl (by simp only [cO, if_pos (rfl : nI bb = nI bb), if_neg g1, if_neg g2, if_neg g3] <;> rfl) (by simp only [cO, if_neg gm, if_pos k0, if_neg k1, if_pos k2, if_pos k3] <;> rfl)
            · have hlf : pfX2_leastFreeId_r o0 o1 o2 o3 = 0 := by unfold pfX2_leastFreeId_r; rw [if_pos k0]
              have B0 := b0.mpr k0
              have B1 : ¬ pfX8_bitOf_r (hbits gr bb) 1 = 0 := fun z => k1 (b1.mp z)
              have B2 := b2.mpr k2
              have B3 : ¬ pfX8_bitOf_r (hbits gr bb) 3 = 0 := fun z => k3 (b3.mp z)
              simp only [if_pos k0, if_pos B0, if_neg k1, if_neg B1, if_pos k2, if_pos B2, if_neg k3, if_neg B3]
              rw [hlf]
              exact I.offer hn (h := 0) (q := 1) (by decide) (by decide) (by decide) (GK.u (GK.u (GK.u (show GK gr gr from fun _ _ => rfl) (by decide) (by decide)) (by decide) (by decide)) (by decide) (by decide)) (CG.u (CG.u (CG.u (show CG fc gr from I.hc) rfl) rfl) rfl) (fun d hd => match d, hd with | 0, _ => Or.inr ⟨k0, rfl, by decide⟩ | 1, _ => Or.inl ⟨rfl, by decide⟩ | 2, _ => Or.inl ⟨rfl, by decide⟩ | 3, _ => Or.inl ⟨rfl, by decide⟩ | d + 4, h => absurd h (by omega)) rfl (by simp only [cO, if_pos (rfl : nI bb = nI bb), if_neg g1, if_neg g2, if_neg g3] <;> rfl) (by simp only [cO, if_neg gm, if_pos k0, if_neg k1, if_pos k2, if_neg k3] <;> rfl)
          · by_cases k3 : o3 = -1
            · have hlf : pfX2_leastFreeId_r o0 o1 o2 o3 = 0 := by unfold pfX2_leastFreeId_r; rw [if_pos k0]
              have B0 := b0.mpr k0
              have B1 : ¬ pfX8_bitOf_r (hbits gr bb) 1 = 0 := fun z => k1 (b1.mp z)
              have B2 : ¬ pfX8_bitOf_r (hbits gr bb) 2 = 0 := fun z => k2 (b2.mp z)
              have B3 := b3.mpr k3
              simp only [if_pos k0, if_pos B0, if_neg k1, if_neg B1, if_neg k2, if_neg B2, if_pos k3, if_pos B3]
              rw [hlf]
              exact I.offer hn (h := 0) (q := 1) (by decide) (by decide) (by decide) (GK.u (GK.u (GK.u (show GK gr gr from fun _ _ => rfl) (by decide) (by decide)) (by decide) (by decide)) (by decide) (by decide)) (CG.u (CG.u (CG.u (show CG fc gr from I.hc) rfl) rfl) rfl) (fun d hd => match d, hd with | 0, _ => Or.inr ⟨k0, rfl, by decide⟩ | 1, _ => Or.inl ⟨rfl, by decide⟩ | 2, _ => Or.inl ⟨rfl, by decide⟩ | 3, _ => Or.inl ⟨rfl, by decide⟩ | d + 4, h => absurd h (by omega)) rfl (by simp only [cO, if_pos (rfl : nI bb = nI bb), if_neg g1, if_neg g2, if_neg g3] <;> rfl) (by simp only [cO, if_neg gm, if_pos k0, if_neg k1, if_neg k2, if_pos k3] <;> rfl)
            · have hlf : pfX2_leastFreeId_r o0 o1 o2 o3 = 0 := by unfold pfX2_leastFreeId_r; rw [if_pos k0]
              have B0 := b0.mpr k0
              have B1 : ¬ pfX8_bitOf_r (hbits gr bb) 1 = 0 := fun z => k1 (b1.mp z)
              have B2 : ¬ pfX8_bitOf_r (hbits gr bb) 2 = 0 := fun z => k2 (b2.mp z)
              have B3 : ¬ pfX8_bitOf_r (hbits gr bb) 3 = 0 := fun z => k3 (b3.mp z)
              simp only [if_pos k0, if_pos B0, if_neg k1, if_neg B1, if_neg k2, if_neg B2, if_neg k3, if_neg B3]
              rw [hlf]
              exact I.offer hn (h := 0) (q := 1) (by decide) (by decide) (by decide) (GK.u (GK.u (GK.u (show GK gr gr from fun _ _ => rfl) (by decide) (by decide)) (by decide) (by decide)) (by decide) (by decide)) (CG.u (CG.u (CG.u (show CG fc gr from I.hc) rfl) rfl) rfl) (fun d hd => match d, hd with | 0, _ => Or.inr ⟨k0, rfl, by decide⟩ | 1, _ => Or.inl ⟨rfl, by decide⟩ | 2, _ => Or.inl ⟨rfl, by decide⟩ | 3, _ => Or.inl ⟨rfl, by decide⟩ | d + 4, h => absurd h (by omega)) rfl (by simp only [cO, if_pos (rfl : nI bb = nI bb), if_neg g1, if_neg g2, if_neg g3] <;> rfl) (by simp only [cO, if_neg gm, if_pos k0, if_neg k1, if_neg k2, if_neg k3] <;> rfl)
      · by_cases k1 : o1 = -1
        · by_cases k2 : o2 = -1
          · by_cases k3 : o3 = -1
            · have hlf : pfX2_leastFreeId_r o0 o1 o2 o3 = 1 := by unfold pfX2_leastFreeId_r; rw [if_neg k0, if_pos k1]
              have B0 : ¬ pfX8_bitOf_r (hbits gr bb) 0 = 0 := fun z => k0 (b0.mp z)
              have B1 := b1.mpr k1
              have B2 := b2.mpr k2
              have B3 := b3.mpr k3
              simp only [if_neg k0, if_neg B0, if_pos k1, if_pos B1, if_pos k2, if_pos B2, if_pos k3, if_pos B3]
              rw [hlf]
              exact I.offer hn (h := 1) (q := 1) (by decide) (by decide) (by decide) (GK.u (GK.u (GK.u (show GK gr gr from fun _ _ => rfl) (by decide) (by decide)) (by decide) (by decide)) (by decide) (by decide)) (CG.u (CG.u (CG.u (show CG fc gr from I.hc) rfl) rfl) rfl) (fun d hd => match d, hd with | 0, _ => Or.inl ⟨rfl, by decide⟩ | 1, _ => Or.inr ⟨k1, rfl, by decide⟩ | 2, _ => Or.inl ⟨rfl, by decide⟩ | 3, _ => Or.inl ⟨rfl, by decide⟩ | d + 4, h => absurd h (by omega)) rfl (by simp only [cO, if_pos (rfl : nI bb = nI bb), if_neg g0, if_neg g2, if_neg g3] <;> rfl) (by simp only [cO, if_neg gm, if_neg k0, if_pos k1, if_pos k2, if_pos k3] <;> rfl)
            · have hlf : pfX2_leastFreeId_r o0 o1 o2 o3 = 1 := by unfold pfX2_leastFreeId_r; rw [if_neg k0, if_pos k1]
              have B0 : ¬ pfX8_bitOf_r (hbits gr bb) 0 = 0 := fun z => k0 (b0.mp z)
              have B1 := b1.mpr k1
              have B2 := b2.mpr k2
              have B3 : ¬ pfX8_bitOf_r (hbits gr bb) 3 = 0 := fun z => k3 (b3.mp z)
              simp only [if_neg k0, if_neg B0, if_pos k1, if_pos B1, if_pos k2, if_pos B2, if_neg k3, if_neg B3]
              rw [hlf]
              exact I.offer hn (h := 1) (q := 1) (by decide) (by decide) (by decide) (GK.u (GK.u (GK.u (show GK gr gr from fun _ _ => rfl) (by decide) (by decide)) (by decide) (by decide)) (by decide) (by decide)) (CG.u (CG.u (CG.u (show CG fc gr from I.hc) rfl) rfl) rfl) (fun d hd => match d, hd with | 0, _ => Or.inl ⟨rfl, by decide⟩ | 1, _ => Or.inr ⟨k1, rfl, by decide⟩ | 2, _ => Or.inl ⟨rfl, by decide⟩ | 3, _ => Or.inl ⟨rfl, by decide⟩ | d + 4, h => absurd h (by omega)) rfl (by simp only [cO, if_pos (rfl : nI bb = nI bb), if_neg g0, if_neg g2, if_neg g3] <;> rfl) (by simp only [cO, if_neg gm, if_neg k0, if_pos k1, if_pos k2, if_neg k3] <;> rfl)
          · by_cases k3 : o3 = -1
            · have hlf : pfX2_leastFreeId_r o0 o1 o2 o3 = 1 := by unfold pfX2_leastFreeId_r; rw [if_neg k0, if_pos k1]
              have B0 : ¬ pfX8_bitOf_r (hbits gr bb) 0 = 0 := fun z => k0 (b0.mp z)
              have B1 := b1.mpr k1
              have B2 : ¬ pfX8_bitOf_r (hbits gr bb) 2 = 0 := fun z => k2 (b2.mp z)
              have B3 := b3.mpr k3
              simp only [if_neg k0, if_neg B0, if_pos k1, if_pos B1, if_neg k2, if_neg B2, if_pos k3, if_pos B3]
              rw [hlf]
              exact I.offer hn (h := 1) (q := 1) (by decide) (by decide) (by decide) (GK.u (GK.u (GK.u (show GK gr gr from fun _ _ => rfl) (by decide) (by decide)) (by decide) (by decide)) (by decide) (by decide)) (CG.u (CG.u (CG.u (show CG fc gr from I.hc) rfl) rfl) rfl) (fun d hd => match d, hd with | 0, _ => Or.inl ⟨rfl, by decide⟩ | 1, _ => Or.inr ⟨k1, rfl, by decide⟩ | 2, _ => Or.inl ⟨rfl, by decide⟩ | 3, _ => Or.inl ⟨rfl, by decide⟩ | d + 4, h => absurd h (by omega)) rfl (by simp only [cO, if_pos (rfl : nI bb = nI bb), if_neg g0, if_neg g2, if_neg g3] <;> rfl) (by simp only [cO, if_neg gm, if_neg k0, if_pos k1, if_neg k2, if_pos k3] <;> rfl)
            · have hlf : pfX2_leastFreeId_r o0 o1 o2 o3 = 1 := by unfold pfX2_leastFreeId_r; rw [if_neg k0, if_pos k1]
              have B0 : ¬ pfX8_bitOf_r (hbits gr bb) 0 = 0 := fun z => k0 (b0.mp z)
              have B1 := b1.mpr k1
              have B2 : ¬ pfX8_bitOf_r (hbits gr bb) 2 = 0 := fun z => k2 (b2.mp z)
              have B3 : ¬ pfX8_bitOf_r (hbits gr bb) 3 = 0 := fun z => k3 (b3.mp z)
              simp only [if_neg k0, if_neg B0, if_pos k1, if_pos B1, if_neg k2, if_neg B2, if_neg k3, if_neg B3]
              rw [hlf]
              exact I.offer hn (h := 1) (q := 1) (by decide) (by decide) (by decide) (GK.u (GK.u (GK.u (show GK gr gr from fun _ _ => rfl) (by decide) (by decide)) (by decide) (by decide)) (by decide) (by decide)) (CG.u (CG.u (CG.u (show CG fc gr from I.hc) rfl) rfl) rfl) (fun d hd => match d, hd with | 0, _ => Or.inl ⟨rfl, by decide⟩ | 1, _ => Or.inr ⟨k1, rfl, by decide⟩ | 2, _ => Or.inl ⟨rfl, by decide⟩ | 3, _ => Or.inl ⟨rfl, by decide⟩ | d + 4, h => absurd h (by omega)) rfl (by simp only [cO, if_pos (rfl : nI bb = nI bb), if_neg g0, if_neg g2, if_neg g3] <;> rfl) (by simp only [cO, if_neg gm, if_neg k0, if_pos k1, if_neg k2, if_neg k3] <;> rfl)
        · by_cases k2 : o2 = -1
          · by_cases k3 : o3 = -1
            · have hlf : pfX2_leastFreeId_r o0 o1 o2 o3 = 2 := by unfold pfX2_leastFreeId_r; rw [if_neg k0, if_neg k1, if_pos k2]
              have B0 : ¬ pfX8_bitOf_r (hbits gr bb) 0 = 0 := fun z => k0 (b0.mp z)
              have B1 : ¬ pfX8_bitOf_r (hbits gr bb) 1 = 0 := fun z => k1 (b1.mp z)
              have B2 := b2.mpr k2
              have B3 := b3.mpr k3
              simp only [if_neg k0, if_neg B0, if_neg k1, if_neg B1, if_pos k2, if_pos B2, if_pos k3, if_pos B3]
              rw [hlf]
              exact I.offer hn (h := 2) (q := 1) (by decide) (by decide) (by decide) (GK.u (GK.u (GK.u (show GK gr gr from fun _ _ => rfl) (by decide) (by decide)) (by decide) (by decide)) (by decide) (by decide)) (CG.u (CG.u (CG.u (show CG fc gr from I.hc) rfl) rfl) rfl) (fun d hd => match d, hd with | 0, _ => Or.inl ⟨rfl, by decide⟩ | 1, _ => Or.inl ⟨rfl, by decide⟩ | 2, _ => Or.inr ⟨k2, rfl, by decide⟩ | 3, _ => Or.inl ⟨rfl, by decide⟩ | d + 4, h => absurd h (by omega)) rfl (by simp only [cO, if_pos (rfl : nI bb = nI bb), if_neg g0, if_neg g1, if_neg g3] <;> rfl) (by simp only [cO, if_neg gm, if_neg k0, if_neg k1, if_pos k2, if_pos k3] <;> rfl)
            · have hlf : pfX2_leastFreeId_r o0 o1 o2 o3 = 2 := by unfold pfX2_leastFreeId_r; rw [if_neg k0, if_neg k1, if_pos k2]
              have B0 : ¬ pfX8_bitOf_r (hbits gr bb) 0 = 0 := fun z => k0 (b0.mp z)
              have B1 : ¬ pfX8_bitOf_r (hbits gr bb) 1 = 0 := fun z => k1 (b1.mp z)
              have B2 := b2.mpr k2
              have B3 : ¬ pfX8_bitOf_r (hbits gr bb) 3 = 0 := fun z => k3 (b3.mp z)
              simp only [if_neg k0, if_neg B0, if_neg k1, if_neg B1, if_pos k2, if_pos B2, if_neg k3, if_neg B3]
              rw [hlf]
              exact I.offer hn (h := 2) (q := 1) (by decide) (by decide) (by decide) (GK.u (GK.u (GK.u (show GK gr gr from fun _ _ => rfl) (by decide) (by decide)) (by decide) (by decide)) (by decide) (by decide)) (CG.u (CG.u (CG.u (show CG fc gr from I.hc) rfl) rfl) rfl) (fun d hd => match d, hd with | 0, _ => Or.inl ⟨rfl, by decide⟩ | 1, _ => Or.inl ⟨rfl, by decide⟩ | 2, _ => Or.inr ⟨k2, rfl, by decide⟩ | 3, _ => Or.inl ⟨rfl, by decide⟩ | d + 4, h => absurd h (by omega)) rfl (by simp only [cO, if_pos (rfl : nI bb = nI bb), if_neg g0, if_neg g1, if_neg g3] <;> rfl) (by simp only [cO, if_neg gm, if_neg k0, if_neg k1, if_pos k2, if_neg k3] <;> rfl)
          · by_cases k3 : o3 = -1
            · have hlf : pfX2_leastFreeId_r o0 o1 o2 o3 = 3 := by unfold pfX2_leastFreeId_r; rw [if_neg k0, if_neg k1, if_neg k2, if_pos k3]
              have B0 : ¬ pfX8_bitOf_r (hbits gr bb) 0 = 0 := fun z => k0 (b0.mp z)
              have B1 : ¬ pfX8_bitOf_r (hbits gr bb) 1 = 0 := fun z => k1 (b1.mp z)
              have B2 : ¬ pfX8_bitOf_r (hbits gr bb) 2 = 0 := fun z => k2 (b2.mp z)
              have B3 := b3.mpr k3
              simp only [if_neg k0, if_neg B0, if_neg k1, if_neg B1, if_neg k2, if_neg B2, if_pos k3, if_pos B3]
              rw [hlf]
              exact I.offer hn (h := 3) (q := 1) (by decide) (by decide) (by decide) (GK.u (GK.u (GK.u (show GK gr gr from fun _ _ => rfl) (by decide) (by decide)) (by decide) (by decide)) (by decide) (by decide)) (CG.u (CG.u (CG.u (show CG fc gr from I.hc) rfl) rfl) rfl) (fun d hd => match d, hd with | 0, _ => Or.inl ⟨rfl, by decide⟩ | 1, _ => Or.inl ⟨rfl, by decide⟩ | 2, _ => Or.inl ⟨rfl, by decide⟩ | 3, _ => Or.inr ⟨k3, rfl, by decide⟩ | d + 4, h => absurd h (by omega)) rfl (by simp only [cO, if_pos (rfl : nI bb = nI bb), if_neg g0, if_neg g1, if_neg g2] <;> rfl) (by simp only [cO, if_neg gm, if_neg k0, if_neg k1, if_neg k2, if_pos k3] <;> rfl)
            · rw [if_neg k0, if_neg k1, if_neg k2, if_neg k3] at cn
              omega
    · have cm : m4 < 1 := by rw [I.h4]; exact Int32.not_le.mp cq
      simp only [if_pos cm, if_neg cq]
      exact ⟨by first | trivial | exact Iff.rfl, I.mono⟩
  · have c7 : ¬ m7 = 0 := by rw [I.h7]; exact fun e => z7 (by rw [e]; decide)
    simp only [if_neg c7, if_neg z7]
    exact ⟨by first | trivial | exact Iff.rfl, I.mono⟩
theorem INV.off_11 (I : INV nb o0 o1 o2 o3 m0 m1 m2 m3 m4 m5 m7 m14 m15 fc fr fb oo sn us tk bb e7 e8 e13 gr) (hn : nb ≤ 60) : (pfX2_lay_11_r m4 m5 m7 o0 o1 o2 o3 < 0 ↔ pfX8_tryOffer_11_r bb e13 gr < 0) ∧ INV (nb + 1) (pfX2_lay_11_a4_0 m4 m5 m7 o0 o1 o2 o3) (pfX2_lay_11_a4_1 m4 m5 m7 o0 o1 o2 o3) (pfX2_lay_11_a4_2 m4 m5 m7 o0 o1 o2 o3) (pfX2_lay_11_a4_3 m4 m5 m7 o0 o1 o2 o3) (pfX2_lay_11_a0_0 m0 m4 m5 m7 o0 o1 o2 o3) m1 m2 m3 (pfX2_lay_11_a0_4 m4 m5 m7 o0 o1 o2 o3) (pfX2_lay_11_a0_5 m4 m5 m7 o0 o1 o2 o3) m7 m14 m15 (pfX2_lay_11_a1_f m4 m5 m7 o0 o1 o2 o3 fc) (pfX2_lay_11_a3_f m0 m4 m5 m7 o0 o1 o2 o3 fr fb) (pfX2_lay_11_a6_f m4 m5 m7 o0 o1 o2 o3 fb) (pfX8_tryOffer_11_yr_3 oo bb e13 gr) sn us tk (pfX8_tryOffer_11_yr_16 bb e13 gr) e7 e8 e13 (pfX8_tryOffer_11_yr_f oo bb e13 gr) := by
  have hl := I.l5
  unfold pfX2_lay_11_r pfX2_lay_11_a4_0 pfX2_lay_11_a4_1 pfX2_lay_11_a4_2 pfX2_lay_11_a4_3 pfX2_lay_11_a0_0 pfX2_lay_11_a0_4 pfX2_lay_11_a0_5 pfX2_lay_11_a1_f pfX2_lay_11_a3_f pfX2_lay_11_a6_f pfX8_tryOffer_11_r pfX8_tryOffer_11_yr_3 pfX8_tryOffer_11_yr_16 pfX8_tryOffer_11_yr_f
  rcases I.p7 with z7 | z7
  · have c7 : m7 = 0 := by rw [I.h7, z7]
    have d7 : e13 ≤ 0 := by rw [z7]; decide
    simp only [if_pos c7, if_pos d7]
    by_cases cq : (2 : Int32) ≤ freeP gr bb
    · have cm : ¬ m4 < 2 := by rw [I.h4]; exact Int32.not_lt.mpr cq
      have c5 : m5 < 500 := by rw [I.h5, i32_lt, nI_toInt (by omega), show (500 : Int32).toInt = 500 by decide]; omega
      have cn : 2 ≤ cO o0 o1 o2 o3 (-1) := by rw [← I.cnt hn]; exact I.ri hn (k := 2) (by decide) (by decide) cq
      have cl : ¬ pfX2_leastFreeId_r o0 o1 o2 o3 = -1 := lf_ne (by omega)
      simp only [if_neg cm, if_neg cl, if_pos c5, if_pos cq]
      refine ⟨by rw [I.h5], ?_⟩
      rw [I.h5, I.h0, nb_u2 (by omega), nb_hd (by omega)]
      have b0 : pfX8_bitOf_r (hbits gr bb) 0 = 0 ↔ o0 = -1 := I.bit hn 0 (by decide)
      have b1 : pfX8_bitOf_r (hbits gr bb) 1 = 0 ↔ o1 = -1 := I.bit hn 1 (by decide)
      have b2 : pfX8_bitOf_r (hbits gr bb) 2 = 0 ↔ o2 = -1 := I.bit hn 2 (by decide)
      have b3 : pfX8_bitOf_r (hbits gr bb) 3 = 0 ↔ o3 = -1 := I.bit hn 3 (by decide)
      have g0 : ¬ o0 = nI bb := I.nbb hn 0 (by decide)
      have g1 : ¬ o1 = nI bb := I.nbb hn 1 (by decide)
      have g2 : ¬ o2 = nI bb := I.nbb hn 2 (by decide)
      have g3 : ¬ o3 = nI bb := I.nbb hn 3 (by decide)
      have gm : ¬ nI bb = -1 := nI_m1 (by omega)
      unfold pfX2_laySplit_11_a1_f pfX2_laySplit_11_a4_0 pfX2_laySplit_11_a4_1 pfX2_laySplit_11_a4_2 pfX2_laySplit_11_a4_3 pfX8_offers_11_yr_f
      unfold cO at cn
      by_cases k0 : o0 = -1
      · by_cases k1 : o1 = -1
        · by_cases k2 : o2 = -1
          · by_cases k3 : o3 = -1
            · have hlf : pfX2_leastFreeId_r o0 o1 o2 o3 = 0 := by unfold pfX2_leastFreeId_r; rw [if_pos k0]
              have B0 := b0.mpr k0
              have B1 := b1.mpr k1
              have B2 := b2.mpr k2
              have B3 := b3.mpr k3
              simp only [if_pos k0, if_pos B0, if_pos k1, if_pos B1, if_pos k2, if_pos B2, if_pos k3, if_pos B3]
              rw [hlf]
              exact I.offer hn (h := 0) (q := 2) (by decide) (by decide) (by decide) (GK.u (GK.u (GK.u (GK.u (GK.u (GK.u (GK.u (show GK gr gr from fun _ _ => rfl) (by decide) (by decide)) (by decide) (by decide)) (by decide) (by decide)) (by decide) (by decide)) (by decide) (by decide)) (by decide) (by decide)) (by decide) (by decide)) (CG.u (CG.u (CG.u (CG.u (CG.u (CG.u (CG.u (show CG fc gr from I.hc) rfl) rfl) rfl) rfl) rfl) rfl) rfl) (fun d hd => match d, hd with | 0, _ => Or.inr ⟨k0, rfl, by decide⟩ | 1, _ => Or.inr ⟨k1, rfl, by decide⟩ | 2, _ => Or.inl ⟨rfl, by decide⟩ | 3, _ => Or.inl ⟨rfl, by decide⟩ | d + 4, h => absurd h (by omega)) rfl (by simp only [cO, if_pos (rfl : nI bb = nI bb), if_neg g2, if_neg g3] <;> rfl) (by simp only [cO, if_neg gm, if_pos k0, if_pos k1, if_pos k2, if_pos k3] <;> rfl)
            · have hlf : pfX2_leastFreeId_r o0 o1 o2 o3 = 0 := by unfold pfX2_leastFreeId_r; rw [if_pos k0]
              have B0 := b0.mpr k0
              have B1 := b1.mpr k1
              have B2 := b2.mpr k2
              have B3 : ¬ pfX8_bitOf_r (hbits gr bb) 3 = 0 := fun z => k3 (b3.mp z)
              simp only [if_pos k0, if_pos B0, if_pos k1, if_pos B1, if_pos k2, if_pos B2, if_neg k3, if_neg B3]
              rw [hlf]
              exact I.offer hn (h := 0) (q := 2) (by decide) (by decide) (by decide) (GK.u (GK.u (GK.u (GK.u (GK.u (GK.u (GK.u (show GK gr gr from fun _ _ => rfl) (by decide) (by decide)) (by decide) (by decide)) (by decide) (by decide)) (by decide) (by decide)) (by decide) (by decide)) (by decide) (by decide)) (by decide) (by decide)) (CG.u (CG.u (CG.u (CG.u (CG.u (CG.u (CG.u (show CG fc gr from I.hc) rfl) rfl) rfl) rfl) rfl) rfl) rfl) (fun d hd => match d, hd with | 0, _ => Or.inr ⟨k0, rfl, by decide⟩ | 1, _ => Or.inr ⟨k1, rfl, by decide⟩ | 2, _ => Or.inl ⟨rfl, by decide⟩ | 3, _ => Or.inl ⟨rfl, by decide⟩ | d + 4, h => absurd h (by omega)) rfl (by simp only [cO, if_pos (rfl : nI bb = nI bb), if_neg g2, if_neg g3] <;> rfl) (by simp only [cO, if_neg gm, if_pos k0, if_pos k1, if_pos k2, if_neg k3] <;> rfl)
          · by_cases k3 : o3 = -1
            · have hlf : pfX2_leastFreeId_r o0 o1 o2 o3 = 0 := by unfold pfX2_leastFreeId_r; rw [if_pos k0]
              have B0 := b0.mpr k0
              have B1 := b1.mpr k1
              have B2 : ¬ pfX8_bitOf_r (hbits gr bb) 2 = 0 := fun z => k2 (b2.mp z)
              have B3 := b3.mpr k3
              simp only [if_pos k0, if_pos B0, if_pos k1, if_pos B1, if_neg k2, if_neg B2, if_pos k3, if_pos B3]
              rw [hlf]
              exact I.offer hn (h := 0) (q := 2) (by decide) (by decide) (by decide) (GK.u (GK.u (GK.u (GK.u (GK.u (GK.u (GK.u (show GK gr gr from fun _ _ => rfl) (by decide) (by decide)) (by decide) (by decide)) (by decide) (by decide)) (by decide) (by decide)) (by decide) (by decide)) (by decide) (by decide)) (by decide) (by decide)) (CG.u (CG.u (CG.u (CG.u (CG.u (CG.u (CG.u (show CG fc gr from I.hc) rfl) rfl) rfl) rfl) rfl) rfl) rfl) (fun d hd => match d, hd with | 0, _ => Or.inr ⟨k0, rfl, by decide⟩ | 1, _ => Or.inr ⟨k1, rfl, by decide⟩ | 2, _ => Or.inl ⟨rfl, by decide⟩ | 3, _ => Or.inl ⟨rfl, by decide⟩ | d + 4, h => absurd h (by omega)) rfl (by simp only [cO, if_pos (rfl : nI bb = nI bb), if_neg g2, if_neg g3] <;> rfl) (by simp only [cO, if_neg gm, if_pos k0, if_pos k1, if_neg k2, if_pos k3] <;> rfl)
            · have hlf : pfX2_leastFreeId_r o0 o1 o2 o3 = 0 := by unfold pfX2_leastFreeId_r; rw [if_pos k0]
              have B0 := b0.mpr k0
              have B1 := b1.mpr k1
              have B2 : ¬ pfX8_bitOf_r (hbits gr bb) 2 = 0 := fun z => k2 (b2.mp z)
              have B3 : ¬ pfX8_bitOf_r (hbits gr bb) 3 = 0 := fun z => k3 (b3.mp z)
              simp only [if_pos k0, if_pos B0, if_pos k1, if_pos B1, if_neg k2, if_neg B2, if_neg k3, if_neg B3]
              rw [hlf]
              exact I.offer hn (h := 0) (q := 2) (by decide) (by decide) (by decide) (GK.u (GK.u (GK.u (GK.u (GK.u (GK.u (GK.u (show GK gr gr from fun _ _ => rfl) (by decide) (by decide)) (by decide) (by decide)) (by decide) (by decide)) (by decide) (by decide)) (by decide) (by decide)) (by decide) (by decide)) (by decide) (by decide)) (CG.u (CG.u (CG.u (CG.u (CG.u (CG.u (CG.u (show CG fc gr from I.hc) rfl) rfl) rfl) rfl) rfl) rfl) rfl) (fun d hd => match d, hd with | 0, _ => Or.inr ⟨k0, rfl, by decide⟩ | 1, _ => Or.inr ⟨k1, rfl, by decide⟩ | 2, _ => Or.inl ⟨rfl, by decide⟩ | 3, _ => Or.inl ⟨rfl, by decide⟩ | d + 4, h => absurd h (by omega)) rfl (by simp only [cO, if_pos (rfl : nI bb = nI bb), if_neg g2, if_neg g3] <;> rfl) (by simp only [cO, if_neg gm, if_pos k0, if_pos k1, if_neg k2, if_neg k3] <;> rfl)
        · by_cases k2 : o2 = -1
          · by_cases k3 : o3 = -1
            · have hlf : pfX2_leastFreeId_r o0 o1 o2 o3 = 0 := by unfold pfX2_leastFreeId_r; rw [if_pos k0]
              have B0 := b0.mpr k0
              have B1 : ¬ pfX8_bitOf_r (hbits gr bb) 1 = 0 := fun z => k1 (b1.mp z)
              have B2 := b2.mpr k2
              have B3 := b3.mpr k3
              simp only [if_pos k0, if_pos B0, if_neg k1, if_neg B1, if_pos k2, if_pos B2, if_pos k3, if_pos B3]
              rw [hlf]
              exact I.offer hn (h := 0) (q := 2) (by decide) (by decide) (by decide) (GK.u (GK.u (GK.u (GK.u (GK.u (GK.u (GK.u (show GK gr gr from fun _ _ => rfl) (by decide) (by decide)) (by decide) (by decide)) (by decide) (by decide)) (by decide) (by decide)) (by decide) (by decide)) (by decide) (by decide)) (by decide) (by decide)) (CG.u (CG.u (CG.u (CG.u (CG.u (CG.u (CG.u (show CG fc gr from I.hc) rfl) rfl) rfl) rfl) rfl) rfl) rfl) (fun d hd => match d, hd with | 0, _ => Or.inr ⟨k0, rfl, by decide⟩ | 1, _ => Or.inl ⟨rfl, by decide⟩ | 2, _ => Or.inr ⟨k2, rfl, by decide⟩ | 3, _ => Or.inl ⟨rfl, by decide⟩ | d + 4, h => absurd h (by omega)) rfl (by simp only [cO, if_pos (rfl : nI bb = nI bb), if_neg g1, if_neg g3] <;> rfl) (by simp only [cO, if_neg gm, if_pos k0, if_neg k1, if_pos k2, if_pos k3] <;> rfl)
            · have hlf : pfX2_leastFreeId_r o0 o1 o2 o3 = 0 := by unfold pfX2_leastFreeId_r; rw [if_pos k0]
              have B0 := b0.mpr k0
              have B1 : ¬ pfX8_bitOf_r (hbits gr bb) 1 = 0 := fun z => k1 (b1.mp z)
              have B2 := b2.mpr k2
              have B3 : ¬ pfX8_bitOf_r (hbits gr bb) 3 = 0 := fun z => k3 (b3.mp z)
              simp only [if_pos k0, if_pos B0, if_neg k1, if_neg B1, if_pos k2, if_pos B2, if_neg k3, if_neg B3]
              rw [hlf]
              exact I.offer hn (h := 0) (q := 2) (by decide) (by decide) (by decide) (GK.u (GK.u (GK.u (GK.u (GK.u (GK.u (GK.u (show GK gr gr from fun _ _ => rfl) (by decide) (by decide)) (by decide) (by decide)) (by decide) (by decide)) (by decide) (by decide)) (by decide) (by decide)) (by decide) (by decide)) (by decide) (by decide)) (CG.u (CG.u (CG.u (CG.u (CG.u (CG.u (CG.u (show CG fc gr from I.hc) rfl) rfl) rfl) rfl) rfl) rfl) rfl) (fun d hd => match d, hd with | 0, _ => Or.inr ⟨k0, rfl, by decide⟩ | 1, _ => Or.inl ⟨rfl, by decide⟩ | 2, _ => Or.inr ⟨k2, rfl, by decide⟩ | 3, _ => Or.inl ⟨rfl, by decide⟩ | d + 4, h => absurd h (by omega)) rfl (by simp only [cO, if_pos (rfl : nI bb = nI bb), if_neg g1, if_neg g3] <;> rfl) (by simp only [cO, if_neg gm, if_pos k0, if_neg k1, if_pos k2, if_neg k3] <;> rfl)
          · by_cases k3 : o3 = -1
            · have hlf : pfX2_leastFreeId_r o0 o1 o2 o3 = 0 := by unfold pfX2_leastFreeId_r; rw [if_pos k0]
              have B0 := b0.mpr k0
              have B1 : ¬ pfX8_bitOf_r (hbits gr bb) 1 = 0 := fun z => k1 (b1.mp z)
              have B2 : ¬ pfX8_bitOf_r (hbits gr bb) 2 = 0 := fun z => k2 (b2.mp z)
              have B3 := b3.mpr k3
              simp only [if_pos k0, if_pos B0, if_neg k1, if_neg B1, if_neg k2, if_neg B2, if_pos k3, if_pos B3]
              rw [hlf]
              exact I.offer hn (h := 0) (q := 2) (by decide) (by decide) (by decide) (GK.u (GK.u (GK.u (GK.u (GK.u (GK.u (GK.u (show GK gr gr from fun _ _ => rfl) (by decide) (by decide)) (by decide) (by decide)) (by decide) (by decide)) (by decide) (by decide)) (by decide) (by decide)) (by decide) (by decide)) (by decide) (by decide)) (CG.u (CG.u (CG.u (CG.u (CG.u (CG.u (CG.u (show CG fc gr from I.hc) rfl) rfl) rfl) rfl) rfl) rfl) rfl) (fun d hd => match d, hd with | 0, _ => Or.inr ⟨k0, rfl, by decide⟩ | 1, _ => Or.inl ⟨rfl, by decide⟩ | 2, _ => Or.inl ⟨rfl, by decide⟩ | 3, _ => Or.inr ⟨k3, rfl, by decide⟩ | d + 4, h => absurd h (by omega)) rfl (by simp only [cO, if_pos (rfl : nI bb = nI bb), if_neg g1, if_neg g2] <;> rfl) (by simp only [cO, if_neg gm, if_pos k0, if_neg k1, if_neg k2, if_pos k3] <;> rfl)
            · rw [if_pos k0, if_neg k1, if_neg k2, if_neg k3] at cn
              omega
      · by_cases k1 : o1 = -1
        · by_cases k2 : o2 = -1
          · by_cases k3 : o3 = -1
            · have hlf : pfX2_leastFreeId_r o0 o1 o2 o3 = 1 := by unfold pfX2_leastFreeId_r; rw [if_neg k0, if_pos k1]
              have B0 : ¬ pfX8_bitOf_r (hbits gr bb) 0 = 0 := fun z => k0 (b0.mp z)
              have B1 := b1.mpr k1
              have B2 := b2.mpr k2
              have B3 := b3.mpr k3
              simp only [if_neg k0, if_neg B0, if_pos k1, if_pos B1, if_pos k2, if_pos B2, if_pos k3, if_pos B3]
              rw [hlf]
              exact I.offer hn (h := 1) (q := 2) (by decide) (by decide) (by decide) (GK.u (GK.u (GK.u (GK.u (GK.u (GK.u (GK.u (show GK gr gr from fun _ _ => rfl) (by decide) (by decide)) (by decide) (by decide)) (by decide) (by decide)) (by decide) (by decide)) (by decide) (by decide)) (by decide) (by decide)) (by decide) (by decide)) (CG.u (CG.u (CG.u (CG.u (CG.u (CG.u (CG.u (show CG fc gr from I.hc) rfl) rfl) rfl) rfl) rfl) rfl) rfl) (fun d hd => match d, hd with | 0, _ => Or.inl ⟨rfl, by decide⟩ | 1, _ => Or.inr ⟨k1, rfl, by decide⟩ | 2, _ => Or.inr ⟨k2, rfl, by decide⟩ | 3, _ => Or.inl ⟨rfl, by decide⟩ | d + 4, h => absurd h (by omega)) rfl (by simp only [cO, if_pos (rfl : nI bb = nI bb), if_neg g0, if_neg g3] <;> rfl) (by simp only [cO, if_neg gm, if_neg k0, if_pos k1, if_pos k2, if_pos k3] <;> rfl)
            · have hlf : pfX2_leastFreeId_r o0 o1 o2 o3 = 1 := by unfold pfX2_leastFreeId_r; rw [if_neg k0, if_pos k1]
              have B0 : ¬ pfX8_bitOf_r (hbits gr bb) 0 = 0 := fun z => k0 (b0.mp z)
              have B1 := b1.mpr k1
              have B2 := b2.mpr k2
              have B3 : ¬ pfX8_bitOf_r (hbits gr bb) 3 = 0 := fun z => k3 (b3.mp z)
              simp only [if_neg k0, if_neg B0, if_pos k1, if_pos B1, if_pos k2, if_pos B2, if_neg k3, if_neg B3]
              rw [hlf]
              exact I.offer hn (h := 1) (q := 2) (by decide) (by decide) (by decide) (GK.u (GK.u (GK.u (GK.u (GK.u (GK.u (GK.u (show GK gr gr from fun _ _ => rfl) (by decide) (by decide)) (by decide) (by decide)) (by decide) (by decide)) (by decide) (by decide)) (by decide) (by decide)) (by decide) (by decide)) (by decide) (by decide)) (CG.u (CG.u (CG.u (CG.u (CG.u (CG.u (CG.u (show CG fc gr from I.hc) rfl) rfl) rfl) rfl) rfl) rfl) rfl) (fun d hd => match d, hd with | 0, _ => Or.inl ⟨rfl, by decide⟩ | 1, _ => Or.inr ⟨k1, rfl, by decide⟩ | 2, _ => Or.inr ⟨k2, rfl, by decide⟩ | 3, _ => Or.inl ⟨rfl, by decide⟩ | d + 4, h => absurd h (by omega)) rfl (by simp only [cO, if_pos (rfl : nI bb = nI bb), if_neg g0, if_neg g3] <;> rfl) (by simp only [cO, if_neg gm, if_neg k0, if_pos k1, if_pos k2, if_neg k3] <;> rfl)
          · by_cases k3 : o3 = -1
            · have hlf : pfX2_leastFreeId_r o0 o1 o2 o3 = 1 := by unfold pfX2_leastFreeId_r; rw [if_neg k0, if_pos k1]
              have B0 : ¬ pfX8_bitOf_r (hbits gr bb) 0 = 0 := fun z => k0 (b0.mp z)
              have B1 := b1.mpr k1
              have B2 : ¬ pfX8_bitOf_r (hbits gr bb) 2 = 0 := fun z => k2 (b2.mp z)
              have B3 := b3.mpr k3
              simp only [if_neg k0, if_neg B0, if_pos k1, if_pos B1, if_neg k2, if_neg B2, if_pos k3, if_pos B3]
              rw [hlf]
              exact I.offer hn (h := 1) (q := 2) (by decide) (by decide) (by decide) (GK.u (GK.u (GK.u (GK.u (GK.u (GK.u (GK.u (show GK gr gr from fun _ _ => rfl) (by decide) (by decide)) (by decide) (by decide)) (by decide) (by decide)) (by decide) (by decide)) (by decide) (by decide)) (by decide) (by decide)) (by decide) (by decide)) (CG.u (CG.u (CG.u (CG.u (CG.u (CG.u (CG.u (show CG fc gr from I.hc) rfl) rfl) rfl) rfl) rfl) rfl) rfl) (fun d hd => match d, hd with | 0, _ => Or.inl ⟨rfl, by decide⟩ | 1, _ => Or.inr ⟨k1, rfl, by decide⟩ | 2, _ => Or.inl ⟨rfl, by decide⟩ | 3, _ => Or.inr ⟨k3, rfl, by decide⟩ | d + 4, h => absurd h (by omega)) rfl (by simp only [cO, if_pos (rfl : nI bb = nI bb), if_neg g0, if_neg g2] <;> rfl) (by simp only [cO, if_neg gm, if_neg k0, if_pos k1, if_neg k2, if_pos k3] <;> rfl)
            · rw [if_neg k0, if_pos k1, if_neg k2, if_neg k3] at cn
              omega
        · by_cases k2 : o2 = -1
          · by_cases k3 : o3 = -1
            · have hlf : pfX2_leastFreeId_r o0 o1 o2 o3 = 2 := by unfold pfX2_leastFreeId_r; rw [if_neg k0, if_neg k1, if_pos k2]
              have B0 : ¬ pfX8_bitOf_r (hbits gr bb) 0 = 0 := fun z => k0 (b0.mp z)
              have B1 : ¬ pfX8_bitOf_r (hbits gr bb) 1 = 0 := fun z => k1 (b1.mp z)
              have B2 := b2.mpr k2
              have B3 := b3.mpr k3
              simp only [if_neg k0, if_neg B0, if_neg k1, if_neg B1, if_pos k2, if_pos B2, if_pos k3, if_pos B3]
              rw [hlf]
              exact I.offer hn (h := 2) (q := 2) (by decide) (by decide) (by decide) (GK.u (GK.u (GK.u (GK.u (GK.u (GK.u (GK.u (show GK gr gr from fun _ _ => rfl) (by decide) (by decide)) (by decide) (by decide)) (by decide) (by decide)) (by decide) (by decide)) (by decide) (by decide)) (by decide) (by decide)) (by decide) (by decide)) (CG.u (CG.u (CG.u (CG.u (CG.u (CG.u (CG.u (show CG fc gr from I.hc) rfl) rfl) rfl) rfl) rfl) rfl) rfl) (fun d hd => match d, hd with | 0, _ => Or.inl ⟨rfl, by decide⟩ | 1, _ => Or.inl ⟨rfl, by decide⟩ | 2, _ => Or.inr ⟨k2, rfl, by decide⟩ | 3, _ => Or.inr ⟨k3, rfl, by decide⟩ | d + 4, h => absurd h (by omega)) rfl (by simp only [cO, if_pos (rfl : nI bb = nI bb), if_neg g0, if_neg g1] <;> rfl) (by simp only [cO, if_neg gm, if_neg k0, if_neg k1, if_pos k2, if_pos k3] <;> rfl)
            · rw [if_neg k0, if_neg k1, if_pos k2, if_neg k3] at cn
              omega
          · by_cases k3 : o3 = -1
            · rw [if_neg k0, if_neg k1, if_neg k2, if_pos k3] at cn
              omega
            · rw [if_neg k0, if_neg k1, if_neg k2, if_neg k3] at cn
              omega
    · have cm : m4 < 2 := by rw [I.h4]; exact Int32.not_le.mp cq
      simp only [if_pos cm, if_neg cq]
      exact ⟨by first | trivial | exact Iff.rfl, I.mono⟩
  · have c7 : ¬ m7 = 0 := by rw [I.h7]; exact fun e => z7 (by rw [e]; decide)
    simp only [if_neg c7, if_neg z7]
    exact ⟨by first | trivial | exact Iff.rfl, I.mono⟩
theorem INV.off_20 (I : INV nb o0 o1 o2 o3 m0 m1 m2 m3 m4 m5 m7 m14 m15 fc fr fb oo sn us tk bb e7 e8 e13 gr) (hn : nb ≤ 60) : (pfX2_lay_20_r m4 m5 m7 o0 o1 o2 o3 < 0 ↔ pfX8_tryOffer_20_r bb e13 gr < 0) ∧ INV (nb + 1) (pfX2_lay_20_a4_0 m4 m5 m7 o0 o1 o2 o3) (pfX2_lay_20_a4_1 m4 m5 m7 o0 o1 o2 o3) (pfX2_lay_20_a4_2 m4 m5 m7 o0 o1 o2 o3) (pfX2_lay_20_a4_3 m4 m5 m7 o0 o1 o2 o3) (pfX2_lay_20_a0_0 m0 m4 m5 m7 o0 o1 o2 o3) m1 m2 m3 (pfX2_lay_20_a0_4 m4 m5 m7 o0 o1 o2 o3) (pfX2_lay_20_a0_5 m4 m5 m7 o0 o1 o2 o3) m7 m14 m15 (pfX2_lay_20_a1_f m4 m5 m7 o0 o1 o2 o3 fc) (pfX2_lay_20_a3_f m0 m4 m5 m7 o0 o1 o2 o3 fr fb) (pfX2_lay_20_a6_f m4 m5 m7 o0 o1 o2 o3 fb) (pfX8_tryOffer_20_yr_3 oo bb e13 gr) sn us tk (pfX8_tryOffer_20_yr_16 bb e13 gr) e7 e8 e13 (pfX8_tryOffer_20_yr_f oo bb e13 gr) := by
  have hl := I.l5
  unfold pfX2_lay_20_r pfX2_lay_20_a4_0 pfX2_lay_20_a4_1 pfX2_lay_20_a4_2 pfX2_lay_20_a4_3 pfX2_lay_20_a0_0 pfX2_lay_20_a0_4 pfX2_lay_20_a0_5 pfX2_lay_20_a1_f pfX2_lay_20_a3_f pfX2_lay_20_a6_f pfX8_tryOffer_20_r pfX8_tryOffer_20_yr_3 pfX8_tryOffer_20_yr_16 pfX8_tryOffer_20_yr_f
  rcases I.p7 with z7 | z7
  · have c7 : m7 = 0 := by rw [I.h7, z7]
    have d7 : e13 ≤ 0 := by rw [z7]; decide
    simp only [if_pos c7, if_pos d7]
    by_cases cq : (2 : Int32) ≤ freeP gr bb
    · have cm : ¬ m4 < 2 := by rw [I.h4]; exact Int32.not_lt.mpr cq
      have c5 : m5 < 500 := by rw [I.h5, i32_lt, nI_toInt (by omega), show (500 : Int32).toInt = 500 by decide]; omega
      have cn : 2 ≤ cO o0 o1 o2 o3 (-1) := by rw [← I.cnt hn]; exact I.ri hn (k := 2) (by decide) (by decide) cq
      have cl : ¬ pfX2_leastFreeId_r o0 o1 o2 o3 = -1 := lf_ne (by omega)
      simp only [if_neg cm, if_neg cl, if_pos c5, if_pos cq]
      refine ⟨by rw [I.h5], ?_⟩
      rw [I.h5, I.h0, nb_u2 (by omega), nb_hd (by omega)]
      have b0 : pfX8_bitOf_r (hbits gr bb) 0 = 0 ↔ o0 = -1 := I.bit hn 0 (by decide)
      have b1 : pfX8_bitOf_r (hbits gr bb) 1 = 0 ↔ o1 = -1 := I.bit hn 1 (by decide)
      have b2 : pfX8_bitOf_r (hbits gr bb) 2 = 0 ↔ o2 = -1 := I.bit hn 2 (by decide)
      have b3 : pfX8_bitOf_r (hbits gr bb) 3 = 0 ↔ o3 = -1 := I.bit hn 3 (by decide)
      have g0 : ¬ o0 = nI bb := I.nbb hn 0 (by decide)
      have g1 : ¬ o1 = nI bb := I.nbb hn 1 (by decide)
      have g2 : ¬ o2 = nI bb := I.nbb hn 2 (by decide)
      have g3 : ¬ o3 = nI bb := I.nbb hn 3 (by decide)
      have gm : ¬ nI bb = -1 := nI_m1 (by omega)
      unfold pfX2_laySplit_20_a1_f pfX2_laySplit_20_a4_0 pfX2_laySplit_20_a4_1 pfX2_laySplit_20_a4_2 pfX2_laySplit_20_a4_3 pfX8_offers_20_yr_f
      unfold cO at cn
      by_cases k0 : o0 = -1
      · by_cases k1 : o1 = -1
        · by_cases k2 : o2 = -1
          · by_cases k3 : o3 = -1
            · have hlf : pfX2_leastFreeId_r o0 o1 o2 o3 = 0 := by unfold pfX2_leastFreeId_r; rw [if_pos k0]
              have B0 := b0.mpr k0
              have B1 := b1.mpr k1
              have B2 := b2.mpr k2
              have B3 := b3.mpr k3
              simp only [if_pos k0, if_pos B0, if_pos k1, if_pos B1, if_pos k2, if_pos B2, if_pos k3, if_pos B3]
              rw [hlf]
              exact I.offer hn (h := 0) (q := 2) (by decide) (by decide) (by decide) (GK.u (GK.u (GK.u (GK.u (GK.u (GK.u (GK.u (show GK gr gr from fun _ _ => rfl) (by decide) (by decide)) (by decide) (by decide)) (by decide) (by decide)) (by decide) (by decide)) (by decide) (by decide)) (by decide) (by decide)) (by decide) (by decide)) (CG.u (CG.u (CG.u (CG.u (CG.u (CG.u (CG.u (show CG fc gr from I.hc) rfl) rfl) rfl) rfl) rfl) rfl) rfl) (fun d hd => match d, hd with | 0, _ => Or.inr ⟨k0, rfl, by decide⟩ | 1, _ => Or.inr ⟨k1, rfl, by decide⟩ | 2, _ => Or.inl ⟨rfl, by decide⟩ | 3, _ => Or.inl ⟨rfl, by decide⟩ | d + 4, h => absurd h (by omega)) rfl (by simp only [cO, if_pos (rfl : nI bb = nI bb), if_neg g2, if_neg g3] <;> rfl) (by simp only [cO, if_neg gm, if_pos k0, if_pos k1, if_pos k2, if_pos k3] <;> rfl)
            · have hlf : pfX2_leastFreeId_r o0 o1 o2 o3 = 0 := by unfold pfX2_leastFreeId_r; rw [if_pos k0]
              have B0 := b0.mpr k0
              have B1 := b1.mpr k1
              have B2 := b2.mpr k2
              have B3 : ¬ pfX8_bitOf_r (hbits gr bb) 3 = 0 := fun z => k3 (b3.mp z)
              simp only [if_pos k0, if_pos B0, if_pos k1, if_pos B1, if_pos k2, if_pos B2, if_neg k3, if_neg B3]
              rw [hlf]
              exact I.offer hn (h := 0) (q := 2) (by decide) (by decide) (by decide) (GK.u (GK.u (GK.u (GK.u (GK.u (GK.u (GK.u (show GK gr gr from fun _ _ => rfl) (by decide) (by decide)) (by decide) (by decide)) (by decide) (by decide)) (by decide) (by decide)) (by decide) (by decide)) (by decide) (by decide)) (by decide) (by decide)) (CG.u (CG.u (CG.u (CG.u (CG.u (CG.u (CG.u (show CG fc gr from I.hc) rfl) rfl) rfl) rfl) rfl) rfl) rfl) (fun d hd => match d, hd with | 0, _ => Or.inr ⟨k0, rfl, by decide⟩ | 1, _ => Or.inr ⟨k1, rfl, by decide⟩ | 2, _ => Or.inl ⟨rfl, by decide⟩ | 3, _ => Or.inl ⟨rfl, by decide⟩ | d + 4, h => absurd h (by omega)) rfl (by simp only [cO, if_pos (rfl : nI bb = nI bb), if_neg g2, if_neg g3] <;> rfl) (by simp only [cO, if_neg gm, if_pos k0, if_pos k1, if_pos k2, if_neg k3] <;> rfl)
          · by_cases k3 : o3 = -1
            · have hlf : pfX2_leastFreeId_r o0 o1 o2 o3 = 0 := by unfold pfX2_leastFreeId_r; rw [if_pos k0]
              have B0 := b0.mpr k0
              have B1 := b1.mpr k1
              have B2 : ¬ pfX8_bitOf_r (hbits gr bb) 2 = 0 := fun z => k2 (b2.mp z)
              have B3 := b3.mpr k3
              simp only [if_pos k0, if_pos B0, if_pos k1, if_pos B1, if_neg k2, if_neg B2, if_pos k3, if_pos B3]
              rw [hlf]
              exact I.offer hn (h := 0) (q := 2) (by decide) (by decide) (by decide) (GK.u (GK.u (GK.u (GK.u (GK.u (GK.u (GK.u (show GK gr gr from fun _ _ => rfl) (by decide) (by decide)) (by decide) (by decide)) (by decide) (by decide)) (by decide) (by decide)) (by decide) (by decide)) (by decide) (by decide)) (by decide) (by decide)) (CG.u (CG.u (CG.u (CG.u (CG.u (CG.u (CG.u (show CG fc gr from I.hc) rfl) rfl) rfl) rfl) rfl) rfl) rfl) (fun d hd => match d, hd with | 0, _ => Or.inr ⟨k0, rfl, by decide⟩ | 1, _ => Or.inr ⟨k1, rfl, by decide⟩ | 2, _ => Or.inl ⟨rfl, by decide⟩ | 3, _ => Or.inl ⟨rfl, by decide⟩ | d + 4, h => absurd h (by omega)) rfl (by simp only [cO, if_pos (rfl : nI bb = nI bb), if_neg g2, if_neg g3] <;> rfl) (by simp only [cO, if_neg gm, if_pos k0, if_pos k1, if_neg k2, if_pos k3] <;> rfl)
            · have hlf : pfX2_leastFreeId_r o0 o1 o2 o3 = 0 := by unfold pfX2_leastFreeId_r; rw [if_pos k0]
              have B0 := b0.mpr k0
              have B1 := b1.mpr k1
              have B2 : ¬ pfX8_bitOf_r (hbits gr bb) 2 = 0 := fun z => k2 (b2.mp z)
              have B3 : ¬ pfX8_bitOf_r (hbits gr bb) 3 = 0 := fun z => k3 (b3.mp z)
              simp only [if_pos k0, if_pos B0, if_pos k1, if_pos B1, if_neg k2, if_neg B2, if_neg k3, if_neg B3]
              rw [hlf]
              exact I.offer hn (h := 0) (q := 2) (by decide) (by decide) (by decide) (GK.u (GK.u (GK.u (GK.u (GK.u (GK.u (GK.u (show GK gr gr from fun _ _ => rfl) (by decide) (by decide)) (by decide) (by decide)) (by decide) (by decide)) (by decide) (by decide)) (by decide) (by decide)) (by decide) (by decide)) (by decide) (by decide)) (CG.u (CG.u (CG.u (CG.u (CG.u (CG.u (CG.u (show CG fc gr from I.hc) rfl) rfl) rfl) rfl) rfl) rfl) rfl) (fun d hd => match d, hd with | 0, _ => Or.inr ⟨k0, rfl, by decide⟩ | 1, _ => Or.inr ⟨k1, rfl, by decide⟩ | 2, _ => Or.inl ⟨rfl, by decide⟩ | 3, _ => Or.inl ⟨rfl, by decide⟩ | d + 4, h => absurd h (by omega)) rfl (by simp only [cO, if_pos (rfl : nI bb = nI bb), if_neg g2, if_neg g3] <;> rfl) (by simp only [cO, if_neg gm, if_pos k0, if_pos k1, if_neg k2, if_neg k3] <;> rfl)
        · by_cases k2 : o2 = -1
          · by_cases k3 : o3 = -1
            · have hlf : pfX2_leastFreeId_r o0 o1 o2 o3 = 0 := by unfold pfX2_leastFreeId_r; rw [if_pos k0]
              have B0 := b0.mpr k0
              have B1 : ¬ pfX8_bitOf_r (hbits gr bb) 1 = 0 := fun z => k1 (b1.mp z)
              have B2 := b2.mpr k2
              have B3 := b3.mpr k3
              simp only [if_pos k0, if_pos B0, if_neg k1, if_neg B1, if_pos k2, if_pos B2, if_pos k3, if_pos B3]
              rw [hlf]
              exact I.offer hn (h := 0) (q := 2) (by decide) (by decide) (by decide) (GK.u (GK.u (GK.u (GK.u (GK.u (GK.u (GK.u (show GK gr gr from fun _ _ => rfl) (by decide) (by decide)) (by decide) (by decide)) (by decide) (by decide)) (by decide) (by decide)) (by decide) (by decide)) (by decide) (by decide)) (by decide) (by decide)) (CG.u (CG.u (CG.u (CG.u (CG.u (CG.u (CG.u (show CG fc gr from I.hc) rfl) rfl) rfl) rfl) rfl) rfl) rfl) (fun d hd => match d, hd with | 0, _ => Or.inr ⟨k0, rfl, by decide⟩ | 1, _ => Or.inl ⟨rfl, by decide⟩ | 2, _ => Or.inr ⟨k2, rfl, by decide⟩ | 3, _ => Or.inl ⟨rfl, by decide⟩ | d + 4, h => absurd h (by omega)) rfl (by simp only [cO, if_pos (rfl : nI bb = nI bb), if_neg g1, if_neg g3] <;> rfl) (by simp only [cO, if_neg gm, if_pos k0, if_neg k1, if_pos k2, if_pos k3] <;> rfl)
            · have hlf : pfX2_leastFreeId_r o0 o1 o2 o3 = 0 := by unfold pfX2_leastFreeId_r; rw [if_pos k0]
              have B0 := b0.mpr k0
              have B1 : ¬ pfX8_bitOf_r (hbits gr bb) 1 = 0 := fun z => k1 (b1.mp z)
              have B2 := b2.mpr k2
              have B3 : ¬ pfX8_bitOf_r (hbits gr bb) 3 = 0 := fun z => k3 (b3.mp z)
              simp only [if_pos k0, if_pos B0, if_neg k1, if_neg B1, if_pos k2, if_pos B2, if_neg k3, if_neg B3]
              rw [hlf]
              exact I.offer hn (h := 0) (q := 2) (by decide) (by decide) (by decide) (GK.u (GK.u (GK.u (GK.u (GK.u (GK.u (GK.u (show GK gr gr from fun _ _ => rfl) (by decide) (by decide)) (by decide) (by decide)) (by decide) (by decide)) (by decide) (by decide)) (by decide) (by decide)) (by decide) (by decide)) (by decide) (by decide)) (CG.u (CG.u (CG.u (CG.u (CG.u (CG.u (CG.u (show CG fc gr from I.hc) rfl) rfl) rfl) rfl) rfl) rfl) rfl) (fun d hd => match d, hd with | 0, _ => Or.inr ⟨k0, rfl, by decide⟩ | 1, _ => Or.inl ⟨rfl, by decide⟩ | 2, _ => Or.inr ⟨k2, rfl, by decide⟩ | 3, _ => Or.inl ⟨rfl, by decide⟩ | d + 4, h => absurd h (by omega)) rfl (by simp only [cO, if_pos (rfl : nI bb = nI bb), if_neg g1, if_neg g3] <;> rfl) (by simp only [cO, if_neg gm, if_pos k0, if_neg k1, if_pos k2, if_neg k3] <;> rfl)
          · by_cases k3 : o3 = -1
            · have hlf : pfX2_leastFreeId_r o0 o1 o2 o3 = 0 := by unfold pfX2_leastFreeId_r; rw [if_pos k0]
              have B0 := b0.mpr k0
              have B1 : ¬ pfX8_bitOf_r (hbits gr bb) 1 = 0 := fun z => k1 (b1.mp z)
              have B2 : ¬ pfX8_bitOf_r (hbits gr bb) 2 = 0 := fun z => k2 (b2.mp z)
              have B3 := b3.mpr k3
              simp only [if_pos k0, if_pos B0, if_neg k1, if_neg B1, if_neg k2, if_neg B2, if_pos k3, if_pos B3]
              rw [hlf]
              exact I.offer hn (h := 0) (q := 2) (by decide) (by decide) (by decide) (GK.u (GK.u (GK.u (GK.u (GK.u (GK.u (GK.u (show GK gr gr from fun _ _ => rfl) (by decide) (by decide)) (by decide) (by decide)) (by decide) (by decide)) (by decide) (by decide)) (by decide) (by decide)) (by decide) (by decide)) (by decide) (by decide)) (CG.u (CG.u (CG.u (CG.u (CG.u (CG.u (CG.u (show CG fc gr from I.hc) rfl) rfl) rfl) rfl) rfl) rfl) rfl) (fun d hd => match d, hd with | 0, _ => Or.inr ⟨k0, rfl, by decide⟩ | 1, _ => Or.inl ⟨rfl, by decide⟩ | 2, _ => Or.inl ⟨rfl, by decide⟩ | 3, _ => Or.inr ⟨k3, rfl, by decide⟩ | d + 4, h => absurd h (by omega)) rfl (by simp only [cO, if_pos (rfl : nI bb = nI bb), if_neg g1, if_neg g2] <;> rfl) (by simp only [cO, if_neg gm, if_pos k0, if_neg k1, if_neg k2, if_pos k3] <;> rfl)
            · rw [if_pos k0, if_neg k1, if_neg k2, if_neg k3] at cn
              omega
      · by_cases k1 : o1 = -1
        · by_cases k2 : o2 = -1
          · by_cases k3 : o3 = -1
            · have hlf : pfX2_leastFreeId_r o0 o1 o2 o3 = 1 := by unfold pfX2_leastFreeId_r; rw [if_neg k0, if_pos k1]
              have B0 : ¬ pfX8_bitOf_r (hbits gr bb) 0 = 0 := fun z => k0 (b0.mp z)
              have B1 := b1.mpr k1
              have B2 := b2.mpr k2
              have B3 := b3.mpr k3
              simp only [if_neg k0, if_neg B0, if_pos k1, if_pos B1, if_pos k2, if_pos B2, if_pos k3, if_pos B3]
              rw [hlf]
              exact I.offer hn (h := 1) (q := 2) (by decide) (by decide) (by decide) (GK.u (GK.u (GK.u (GK.u (GK.u (GK.u (GK.u (show GK gr gr from fun _ _ => rfl) (by decide) (by decide)) (by decide) (by decide)) (by decide) (by decide)) (by decide) (by decide)) (by decide) (by decide)) (by decide) (by decide)) (by decide) (by decide)) (CG.u (CG.u (CG.u (CG.u (CG.u (CG.u (CG.u (show CG fc gr from I.hc) rfl) rfl) rfl) rfl) rfl) rfl) rfl) (fun d hd => match d, hd with | 0, _ => Or.inl ⟨rfl, by decide⟩ | 1, _ => Or.inr ⟨k1, rfl, by decide⟩ | 2, _ => Or.inr ⟨k2, rfl, by decide⟩ | 3, _ => Or.inl ⟨rfl, by decide⟩ | d + 4, h => absurd h (by omega)) rfl (by simp only [cO, if_pos (rfl : nI bb = nI bb), if_neg g0, if_neg g3] <;> rfl) (by simp only [cO, if_neg gm, if_neg k0, if_pos k1, if_pos k2, if_pos k3] <;> rfl)
            · have hlf : pfX2_leastFreeId_r o0 o1 o2 o3 = 1 := by unfold pfX2_leastFreeId_r; rw [if_neg k0, if_pos k1]
              have B0 : ¬ pfX8_bitOf_r (hbits gr bb) 0 = 0 := fun z => k0 (b0.mp z)
              have B1 := b1.mpr k1
              have B2 := b2.mpr k2
              have B3 : ¬ pfX8_bitOf_r (hbits gr bb) 3 = 0 := fun z => k3 (b3.mp z)
              simp only [if_neg k0, if_neg B0, if_pos k1, if_pos B1, if_pos k2, if_pos B2, if_neg k3, if_neg B3]
              rw [hlf]
              exact I.offer hn (h := 1) (q := 2) (by decide) (by decide) (by decide) (GK.u (GK.u (GK.u (GK.u (GK.u (GK.u (GK.u (show GK gr gr from fun _ _ => rfl) (by decide) (by decide)) (by decide) (by decide)) (by decide) (by decide)) (by decide) (by decide)) (by decide) (by decide)) (by decide) (by decide)) (by decide) (by decide)) (CG.u (CG.u (CG.u (CG.u (CG.u (CG.u (CG.u (show CG fc gr from I.hc) rfl) rfl) rfl) rfl) rfl) rfl) rfl) (fun d hd => match d, hd with | 0, _ => Or.inl ⟨rfl, by decide⟩ | 1, _ => Or.inr ⟨k1, rfl, by decide⟩ | 2, _ => Or.inr ⟨k2, rfl, by decide⟩ | 3, _ => Or.inl ⟨rfl, by decide⟩ | d + 4, h => absurd h (by omega)) rfl (by simp only [cO, if_pos (rfl : nI bb = nI bb), if_neg g0, if_neg g3] <;> rfl) (by simp only [cO, if_neg gm, if_neg k0, if_pos k1, if_pos k2, if_neg k3] <;> rfl)
          · by_cases k3 : o3 = -1
            · have hlf : pfX2_leastFreeId_r o0 o1 o2 o3 = 1 := by unfold pfX2_leastFreeId_r; rw [if_neg k0, if_pos k1]
              have B0 : ¬ pfX8_bitOf_r (hbits gr bb) 0 = 0 := fun z => k0 (b0.mp z)
              have B1 := b1.mpr k1
              have B2 : ¬ pfX8_bitOf_r (hbits gr bb) 2 = 0 := fun z => k2 (b2.mp z)
              have B3 := b3.mpr k3
              simp only [if_neg k0, if_neg B0, if_pos k1, if_pos B1, if_neg k2, if_neg B2, if_pos k3, if_pos B3]
              rw [hlf]
              exact I.offer hn (h := 1) (q := 2) (by decide) (by decide) (by decide) (GK.u (GK.u (GK.u (GK.u (GK.u (GK.u (GK.u (show GK gr gr from fun _ _ => rfl) (by decide) (by decide)) (by decide) (by decide)) (by decide) (by decide)) (by decide) (by decide)) (by decide) (by decide)) (by decide) (by decide)) (by decide) (by decide)) (CG.u (CG.u (CG.u (CG.u (CG.u (CG.u (CG.u (show CG fc gr from I.hc) rfl) rfl) rfl) rfl) rfl) rfl) rfl) (fun d hd => match d, hd with | 0, _ => Or.inl ⟨rfl, by decide⟩ | 1, _ => Or.inr ⟨k1, rfl, by decide⟩ | 2, _ => Or.inl ⟨rfl, by decide⟩ | 3, _ => Or.inr ⟨k3, rfl, by decide⟩ | d + 4, h => absurd h (by omega)) rfl (by simp only [cO, if_pos (rfl : nI bb = nI bb), if_neg g0, if_neg g2] <;> rfl) (by simp only [cO, if_neg gm, if_neg k0, if_pos k1, if_neg k2, if_pos k3] <;> rfl)
            · rw [if_neg k0, if_pos k1, if_neg k2, if_neg k3] at cn
              omega
        · by_cases k2 : o2 = -1
          · by_cases k3 : o3 = -1
            · have hlf : pfX2_leastFreeId_r o0 o1 o2 o3 = 2 := by unfold pfX2_leastFreeId_r; rw [if_neg k0, if_neg k1, if_pos k2]
              have B0 : ¬ pfX8_bitOf_r (hbits gr bb) 0 = 0 := fun z => k0 (b0.mp z)
              have B1 : ¬ pfX8_bitOf_r (hbits gr bb) 1 = 0 := fun z => k1 (b1.mp z)
              have B2 := b2.mpr k2
              have B3 := b3.mpr k3
              simp only [if_neg k0, if_neg B0, if_neg k1, if_neg B1, if_pos k2, if_pos B2, if_pos k3, if_pos B3]
              rw [hlf]
              exact I.offer hn (h := 2) (q := 2) (by decide) (by decide) (by decide) (GK.u (GK.u (GK.u (GK.u (GK.u (GK.u (GK.u (show GK gr gr from fun _ _ => rfl) (by decide) (by decide)) (by decide) (by decide)) (by decide) (by decide)) (by decide) (by decide)) (by decide) (by decide)) (by decide) (by decide)) (by decide) (by decide)) (CG.u (CG.u (CG.u (CG.u (CG.u (CG.u (CG.u (show CG fc gr from I.hc) rfl) rfl) rfl) rfl) rfl) rfl) rfl) (fun d hd => match d, hd with | 0, _ => Or.inl ⟨rfl, by decide⟩ | 1, _ => Or.inl ⟨rfl, by decide⟩ | 2, _ => Or.inr ⟨k2, rfl, by decide⟩ | 3, _ => Or.inr ⟨k3, rfl, by decide⟩ | d + 4, h => absurd h (by omega)) rfl (by simp only [cO, if_pos (rfl : nI bb = nI bb), if_neg g0, if_neg g1] <;> rfl) (by simp only [cO, if_neg gm, if_neg k0, if_neg k1, if_pos k2, if_pos k3] <;> rfl)
            · rw [if_neg k0, if_neg k1, if_pos k2, if_neg k3] at cn
              omega
          · by_cases k3 : o3 = -1
            · rw [if_neg k0, if_neg k1, if_neg k2, if_pos k3] at cn
              omega
            · rw [if_neg k0, if_neg k1, if_neg k2, if_neg k3] at cn
              omega
    · have cm : m4 < 2 := by rw [I.h4]; exact Int32.not_le.mp cq
      simp only [if_pos cm, if_neg cq]
      exact ⟨by first | trivial | exact Iff.rfl, I.mono⟩
  · have c7 : ¬ m7 = 0 := by rw [I.h7]; exact fun e => z7 (by rw [e]; decide)
    simp only [if_neg c7, if_neg z7]
    exact ⟨by first | trivial | exact Iff.rfl, I.mono⟩
theorem INV.off_21 (I : INV nb o0 o1 o2 o3 m0 m1 m2 m3 m4 m5 m7 m14 m15 fc fr fb oo sn us tk bb e7 e8 e13 gr) (hn : nb ≤ 60) : (pfX2_lay_21_r m4 m5 m7 o0 o1 o2 o3 < 0 ↔ pfX8_tryOffer_21_r bb e13 gr < 0) ∧ INV (nb + 1) (pfX2_lay_21_a4_0 m4 m5 m7 o0 o1 o2 o3) (pfX2_lay_21_a4_1 m4 m5 m7 o0 o1 o2 o3) (pfX2_lay_21_a4_2 m4 m5 m7 o0 o1 o2 o3) (pfX2_lay_21_a4_3 m4 m5 m7 o0 o1 o2 o3) (pfX2_lay_21_a0_0 m0 m4 m5 m7 o0 o1 o2 o3) m1 m2 m3 (pfX2_lay_21_a0_4 m4 m5 m7 o0 o1 o2 o3) (pfX2_lay_21_a0_5 m4 m5 m7 o0 o1 o2 o3) m7 m14 m15 (pfX2_lay_21_a1_f m4 m5 m7 o0 o1 o2 o3 fc) (pfX2_lay_21_a3_f m0 m4 m5 m7 o0 o1 o2 o3 fr fb) (pfX2_lay_21_a6_f m4 m5 m7 o0 o1 o2 o3 fb) (pfX8_tryOffer_21_yr_3 oo bb e13 gr) sn us tk (pfX8_tryOffer_21_yr_16 bb e13 gr) e7 e8 e13 (pfX8_tryOffer_21_yr_f oo bb e13 gr) := by
  have hl := I.l5
  unfold pfX2_lay_21_r pfX2_lay_21_a4_0 pfX2_lay_21_a4_1 pfX2_lay_21_a4_2 pfX2_lay_21_a4_3 pfX2_lay_21_a0_0 pfX2_lay_21_a0_4 pfX2_lay_21_a0_5 pfX2_lay_21_a1_f pfX2_lay_21_a3_f pfX2_lay_21_a6_f pfX8_tryOffer_21_r pfX8_tryOffer_21_yr_3 pfX8_tryOffer_21_yr_16 pfX8_tryOffer_21_yr_f
  rcases I.p7 with z7 | z7
  · have c7 : m7 = 0 := by rw [I.h7, z7]
    have d7 : e13 ≤ 0 := by rw [z7]; decide
    simp only [if_pos c7, if_pos d7]
    by_cases cq : (3 : Int32) ≤ freeP gr bb
    · have cm : ¬ m4 < 3 := by rw [I.h4]; exact Int32.not_lt.mpr cq
      have c5 : m5 < 500 := by rw [I.h5, i32_lt, nI_toInt (by omega), show (500 : Int32).toInt = 500 by decide]; omega
      have cn : 3 ≤ cO o0 o1 o2 o3 (-1) := by rw [← I.cnt hn]; exact I.ri hn (k := 3) (by decide) (by decide) cq
      have cl : ¬ pfX2_leastFreeId_r o0 o1 o2 o3 = -1 := lf_ne (by omega)
      simp only [if_neg cm, if_neg cl, if_pos c5, if_pos cq]
      refine ⟨by rw [I.h5], ?_⟩
      rw [I.h5, I.h0, nb_u3 (by omega), nb_hd (by omega)]
      have b0 : pfX8_bitOf_r (hbits gr bb) 0 = 0 ↔ o0 = -1 := I.bit hn 0 (by decide)
      have b1 : pfX8_bitOf_r (hbits gr bb) 1 = 0 ↔ o1 = -1 := I.bit hn 1 (by decide)
      have b2 : pfX8_bitOf_r (hbits gr bb) 2 = 0 ↔ o2 = -1 := I.bit hn 2 (by decide)
      have b3 : pfX8_bitOf_r (hbits gr bb) 3 = 0 ↔ o3 = -1 := I.bit hn 3 (by decide)
      have g0 : ¬ o0 = nI bb := I.nbb hn 0 (by decide)
      have g1 : ¬ o1 = nI bb := I.nbb hn 1 (by decide)
      have g2 : ¬ o2 = nI bb := I.nbb hn 2 (by decide)
      have g3 : ¬ o3 = nI bb := I.nbb hn 3 (by decide)
      have gm : ¬ nI bb = -1 := nI_m1 (by omega)
      unfold pfX2_laySplit_21_a1_f pfX2_laySplit_21_a4_0 pfX2_laySplit_21_a4_1 pfX2_laySplit_21_a4_2 pfX2_laySplit_21_a4_3 pfX8_offers_21_yr_f
      unfold cO at cn
      by_cases k0 : o0 = -1
      · by_cases k1 : o1 = -1
        · by_cases k2 : o2 = -1
          · by_cases k3 : o3 = -1
            · have hlf : pfX2_leastFreeId_r o0 o1 o2 o3 = 0 := by unfold pfX2_leastFreeId_r; rw [if_pos k0]
              have B0 := b0.mpr k0
              have B1 := b1.mpr k1
              have B2 := b2.mpr k2
              have B3 := b3.mpr k3
              simp only [if_pos k0, if_pos B0, if_pos k1, if_pos B1, if_pos k2, if_pos B2, if_pos k3, if_pos B3]
              rw [hlf]
              exact I.offer hn (h := 0) (q := 3) (by decide) (by decide) (by decide) (GK.u (GK.u (GK.u (GK.u (GK.u (GK.u (GK.u (GK.u (GK.u (GK.u (GK.u (show GK gr gr from fun _ _ => rfl) (by decide) (by decide)) (by decide) (by decide)) (by decide) (by decide)) (by decide) (by decide)) (by decide) (by decide)) (by decide) (by decide)) (by decide) (by decide)) (by decide) (by decide)) (by decide) (by decide)) (by decide) (by decide)) (by decide) (by decide)) (CG.u (CG.u (CG.u (CG.u (CG.u (CG.u (CG.u (CG.u (CG.u (CG.u (CG.u (show CG fc gr from I.hc) rfl) rfl) rfl) rfl) rfl) rfl) rfl) rfl) rfl) rfl) rfl) (fun d hd => match d, hd with | 0, _ => Or.inr ⟨k0, rfl, by decide⟩ | 1, _ => Or.inr ⟨k1, rfl, by decide⟩ | 2, _ => Or.inr ⟨k2, rfl, by decide⟩ | 3, _ => Or.inl ⟨rfl, by decide⟩ | d + 4, h => absurd h (by omega)) rfl (by simp only [cO, if_pos (rfl : nI bb = nI bb), if_neg g3] <;> rfl) (by simp only [cO, if_neg gm, if_pos k0, if_pos k1, if_pos k2, if_pos k3] <;> rfl)
            · have hlf : pfX2_leastFreeId_r o0 o1 o2 o3 = 0 := by unfold pfX2_leastFreeId_r; rw [if_pos k0]
              have B0 := b0.mpr k0
              have B1 := b1.mpr k1
              have B2 := b2.mpr k2
              have B3 : ¬ pfX8_bitOf_r (hbits gr bb) 3 = 0 := fun z => k3 (b3.mp z)
              simp only [if_pos k0, if_pos B0, if_pos k1, if_pos B1, if_pos k2, if_pos B2, if_neg k3, if_neg B3]
              rw [hlf]
              exact I.offer hn (h := 0) (q := 3) (by decide) (by decide) (by decide) (GK.u (GK.u (GK.u (GK.u (GK.u (GK.u (GK.u (GK.u (GK.u (GK.u (GK.u (show GK gr gr from fun _ _ => rfl) (by decide) (by decide)) (by decide) (by decide)) (by decide) (by decide)) (by decide) (by decide)) (by decide) (by decide)) (by decide) (by decide)) (by decide) (by decide)) (by decide) (by decide)) (by decide) (by decide)) (by decide) (by decide)) (by decide) (by decide)) (CG.u (CG.u (CG.u (CG.u (CG.u (CG.u (CG.u (CG.u (CG.u (CG.u (CG.u (show CG fc gr from I.hc) rfl) rfl) rfl) rfl) rfl) rfl) rfl) rfl) rfl) rfl) rfl) (fun d hd => match d, hd with | 0, _ => Or.inr ⟨k0, rfl, by decide⟩ | 1, _ => Or.inr ⟨k1, rfl, by decide⟩ | 2, _ => Or.inr ⟨k2, rfl, by decide⟩ | 3, _ => Or.inl ⟨rfl, by decide⟩ | d + 4, h => absurd h (by omega)) rfl (by simp only [cO, if_pos (rfl : nI bb = nI bb), if_neg g3] <;> rfl) (by simp only [cO, if_neg gm, if_pos k0, if_pos k1, if_pos k2, if_neg k3] <;> rfl)
          · by_cases k3 : o3 = -1
            · have hlf : pfX2_leastFreeId_r o0 o1 o2 o3 = 0 := by unfold pfX2_leastFreeId_r; rw [if_pos k0]
              have B0 := b0.mpr k0
              have B1 := b1.mpr k1
              have B2 : ¬ pfX8_bitOf_r (hbits gr bb) 2 = 0 := fun z => k2 (b2.mp z)
              have B3 := b3.mpr k3
              simp only [if_pos k0, if_pos B0, if_pos k1, if_pos B1, if_neg k2, if_neg B2, if_pos k3, if_pos B3]
              rw [hlf]
              exact I.offer hn (h := 0) (q := 3) (by decide) (by decide) (by decide) (GK.u (GK.u (GK.u (GK.u (GK.u (GK.u (GK.u (GK.u (GK.u (GK.u (GK.u (show GK gr gr from fun _ _ => rfl) (by decide) (by decide)) (by decide) (by decide)) (by decide) (by decide)) (by decide) (by decide)) (by decide) (by decide)) (by decide) (by decide)) (by decide) (by decide)) (by decide) (by decide)) (by decide) (by decide)) (by decide) (by decide)) (by decide) (by decide)) (CG.u (CG.u (CG.u (CG.u (CG.u (CG.u (CG.u (CG.u (CG.u (CG.u (CG.u (show CG fc gr from I.hc) rfl) rfl) rfl) rfl) rfl) rfl) rfl) rfl) rfl) rfl) rfl) (fun d hd => match d, hd with | 0, _ => Or.inr ⟨k0, rfl, by decide⟩ | 1, _ => Or.inr ⟨k1, rfl, by decide⟩ | 2, _ => Or.inl ⟨rfl, by decide⟩ | 3, _ => Or.inr ⟨k3, rfl, by decide⟩ | d + 4, h => absurd h (by omega)) rfl (by simp only [cO, if_pos (rfl : nI bb = nI bb), if_neg g2] <;> rfl) (by simp only [cO, if_neg gm, if_pos k0, if_pos k1, if_neg k2, if_pos k3] <;> rfl)
            · rw [if_pos k0, if_pos k1, if_neg k2, if_neg k3] at cn
              omega
        · by_cases k2 : o2 = -1
          · by_cases k3 : o3 = -1
            · have hlf : pfX2_leastFreeId_r o0 o1 o2 o3 = 0 := by unfold pfX2_leastFreeId_r; rw [if_pos k0]
              have B0 := b0.mpr k0
              have B1 : ¬ pfX8_bitOf_r (hbits gr bb) 1 = 0 := fun z => k1 (b1.mp z)
              have B2 := b2.mpr k2
              have B3 := b3.mpr k3
              simp only [if_pos k0, if_pos B0, if_neg k1, if_neg B1, if_pos k2, if_pos B2, if_pos k3, if_pos B3]
              rw [hlf]
              exact I.offer hn (h := 0) (q := 3) (by decide) (by decide) (by decide) (GK.u (GK.u (GK.u (GK.u (GK.u (GK.u (GK.u (GK.u (GK.u (GK.u (GK.u (show GK gr gr from fun _ _ => rfl) (by decide) (by decide)) (by decide) (by decide)) (by decide) (by decide)) (by decide) (by decide)) (by decide) (by decide)) (by decide) (by decide)) (by decide) (by decide)) (by decide) (by decide)) (by decide) (by decide)) (by decide) (by decide)) (by decide) (by decide)) (CG.u (CG.u (CG.u (CG.u (CG.u (CG.u (CG.u (CG.u (CG.u (CG.u (CG.u (show CG fc gr from I.hc) rfl) rfl) rfl) rfl) rfl) rfl) rfl) rfl) rfl) rfl) rfl) (fun d hd => match d, hd with | 0, _ => Or.inr ⟨k0, rfl, by decide⟩ | 1, _ => Or.inl ⟨rfl, by decide⟩ | 2, _ => Or.inr ⟨k2, rfl, by decide⟩ | 3, _ => Or.inr ⟨k3, rfl, by decide⟩ | d + 4, h => absurd h (by omega)) rfl (by simp only [cO, if_pos (rfl : nI bb = nI bb), if_neg g1] <;> rfl) (by simp only [cO, if_neg gm, if_pos k0, if_neg k1, if_pos k2, if_pos k3] <;> rfl)
            · rw [if_pos k0, if_neg k1, if_pos k2, if_neg k3] at cn
              omega
          · by_cases k3 : o3 = -1
            · rw [if_pos k0, if_neg k1, if_neg k2, if_pos k3] at cn
              omega
            · rw [if_pos k0, if_neg k1, if_neg k2, if_neg k3] at cn
              omega
      · by_cases k1 : o1 = -1
        · by_cases k2 : o2 = -1
          · by_cases k3 : o3 = -1
            · have hlf : pfX2_leastFreeId_r o0 o1 o2 o3 = 1 := by unfold pfX2_leastFreeId_r; rw [if_neg k0, if_pos k1]
              have B0 : ¬ pfX8_bitOf_r (hbits gr bb) 0 = 0 := fun z => k0 (b0.mp z)
              have B1 := b1.mpr k1
              have B2 := b2.mpr k2
              have B3 := b3.mpr k3
              simp only [if_neg k0, if_neg B0, if_pos k1, if_pos B1, if_pos k2, if_pos B2, if_pos k3, if_pos B3]
              rw [hlf]
              exact I.offer hn (h := 1) (q := 3) (by decide) (by decide) (by decide) (GK.u (GK.u (GK.u (GK.u (GK.u (GK.u (GK.u (GK.u (GK.u (GK.u (GK.u (show GK gr gr from fun _ _ => rfl) (by decide) (by decide)) (by decide) (by decide)) (by decide) (by decide)) (by decide) (by decide)) (by decide) (by decide)) (by decide) (by decide)) (by decide) (by decide)) (by decide) (by decide)) (by decide) (by decide)) (by decide) (by decide)) (by decide) (by decide)) (CG.u (CG.u (CG.u (CG.u (CG.u (CG.u (CG.u (CG.u (CG.u (CG.u (CG.u (show CG fc gr from I.hc) rfl) rfl) rfl) rfl) rfl) rfl) rfl) rfl) rfl) rfl) rfl) (fun d hd => match d, hd with | 0, _ => Or.inl ⟨rfl, by decide⟩ | 1, _ => Or.inr ⟨k1, rfl, by decide⟩ | 2, _ => Or.inr ⟨k2, rfl, by decide⟩ | 3, _ => Or.inr ⟨k3, rfl, by decide⟩ | d + 4, h => absurd h (by omega)) rfl (by simp only [cO, if_pos (rfl : nI bb = nI bb), if_neg g0] <;> rfl) (by simp only [cO, if_neg gm, if_neg k0, if_pos k1, if_pos k2, if_pos k3] <;> rfl)
            · rw [if_neg k0, if_pos k1, if_pos k2, if_neg k3] at cn
              omega
          · by_cases k3 : o3 = -1
            · rw [if_neg k0, if_pos k1, if_neg k2, if_pos k3] at cn
              omega
            · rw [if_neg k0, if_pos k1, if_neg k2, if_neg k3] at cn
              omega
        · by_cases k2 : o2 = -1
          · by_cases k3 : o3 = -1
            · rw [if_neg k0, if_neg k1, if_pos k2, if_pos k3] at cn
              omega
            · rw [if_neg k0, if_neg k1, if_pos k2, if_neg k3] at cn
              omega
          · by_cases k3 : o3 = -1
            · rw [if_neg k0, if_neg k1, if_neg k2, if_pos k3] at cn
              omega
            · rw [if_neg k0, if_neg k1, if_neg k2, if_neg k3] at cn
              omega
    · have cm : m4 < 3 := by rw [I.h4]; exact Int32.not_le.mp cq
      simp only [if_pos cm, if_neg cq]
      exact ⟨by first | trivial | exact Iff.rfl, I.mono⟩
  · have c7 : ¬ m7 = 0 := by rw [I.h7]; exact fun e => z7 (by rw [e]; decide)
    simp only [if_neg c7, if_neg z7]
    exact ⟨by first | trivial | exact Iff.rfl, I.mono⟩
theorem INV.off_30 (I : INV nb o0 o1 o2 o3 m0 m1 m2 m3 m4 m5 m7 m14 m15 fc fr fb oo sn us tk bb e7 e8 e13 gr) (hn : nb ≤ 60) : (pfX2_lay_30_r m4 m5 m7 o0 o1 o2 o3 < 0 ↔ pfX8_tryOffer_30_r bb e13 gr < 0) ∧ INV (nb + 1) (pfX2_lay_30_a4_0 m4 m5 m7 o0 o1 o2 o3) (pfX2_lay_30_a4_1 m4 m5 m7 o0 o1 o2 o3) (pfX2_lay_30_a4_2 m4 m5 m7 o0 o1 o2 o3) (pfX2_lay_30_a4_3 m4 m5 m7 o0 o1 o2 o3) (pfX2_lay_30_a0_0 m0 m4 m5 m7 o0 o1 o2 o3) m1 m2 m3 (pfX2_lay_30_a0_4 m4 m5 m7 o0 o1 o2 o3) (pfX2_lay_30_a0_5 m4 m5 m7 o0 o1 o2 o3) m7 m14 m15 (pfX2_lay_30_a1_f m4 m5 m7 o0 o1 o2 o3 fc) (pfX2_lay_30_a3_f m0 m4 m5 m7 o0 o1 o2 o3 fr fb) (pfX2_lay_30_a6_f m4 m5 m7 o0 o1 o2 o3 fb) (pfX8_tryOffer_30_yr_3 oo bb e13 gr) sn us tk (pfX8_tryOffer_30_yr_16 bb e13 gr) e7 e8 e13 (pfX8_tryOffer_30_yr_f oo bb e13 gr) := by
  have hl := I.l5
  unfold pfX2_lay_30_r pfX2_lay_30_a4_0 pfX2_lay_30_a4_1 pfX2_lay_30_a4_2 pfX2_lay_30_a4_3 pfX2_lay_30_a0_0 pfX2_lay_30_a0_4 pfX2_lay_30_a0_5 pfX2_lay_30_a1_f pfX2_lay_30_a3_f pfX2_lay_30_a6_f pfX8_tryOffer_30_r pfX8_tryOffer_30_yr_3 pfX8_tryOffer_30_yr_16 pfX8_tryOffer_30_yr_f
  rcases I.p7 with z7 | z7
  · have c7 : m7 = 0 := by rw [I.h7, z7]
    have d7 : e13 ≤ 0 := by rw [z7]; decide
    simp only [if_pos c7, if_pos d7]
    by_cases cq : (3 : Int32) ≤ freeP gr bb
    · have cm : ¬ m4 < 3 := by rw [I.h4]; exact Int32.not_lt.mpr cq
      have c5 : m5 < 500 := by rw [I.h5, i32_lt, nI_toInt (by omega), show (500 : Int32).toInt = 500 by decide]; omega
      have cn : 3 ≤ cO o0 o1 o2 o3 (-1) := by rw [← I.cnt hn]; exact I.ri hn (k := 3) (by decide) (by decide) cq
      have cl : ¬ pfX2_leastFreeId_r o0 o1 o2 o3 = -1 := lf_ne (by omega)
      simp only [if_neg cm, if_neg cl, if_pos c5, if_pos cq]
      refine ⟨by rw [I.h5], ?_⟩
      rw [I.h5, I.h0, nb_u3 (by omega), nb_hd (by omega)]
      have b0 : pfX8_bitOf_r (hbits gr bb) 0 = 0 ↔ o0 = -1 := I.bit hn 0 (by decide)
      have b1 : pfX8_bitOf_r (hbits gr bb) 1 = 0 ↔ o1 = -1 := I.bit hn 1 (by decide)
      have b2 : pfX8_bitOf_r (hbits gr bb) 2 = 0 ↔ o2 = -1 := I.bit hn 2 (by decide)
      have b3 : pfX8_bitOf_r (hbits gr bb) 3 = 0 ↔ o3 = -1 := I.bit hn 3 (by decide)
      have g0 : ¬ o0 = nI bb := I.nbb hn 0 (by decide)
      have g1 : ¬ o1 = nI bb := I.nbb hn 1 (by decide)
      have g2 : ¬ o2 = nI bb := I.nbb hn 2 (by decide)
      have g3 : ¬ o3 = nI bb := I.nbb hn 3 (by decide)
      have gm : ¬ nI bb = -1 := nI_m1 (by omega)
      unfold pfX2_laySplit_30_a1_f pfX2_laySplit_30_a4_0 pfX2_laySplit_30_a4_1 pfX2_laySplit_30_a4_2 pfX2_laySplit_30_a4_3 pfX8_offers_30_yr_f
      unfold cO at cn
      by_cases k0 : o0 = -1
      · by_cases k1 : o1 = -1
        · by_cases k2 : o2 = -1
          · by_cases k3 : o3 = -1
            · have hlf : pfX2_leastFreeId_r o0 o1 o2 o3 = 0 := by unfold pfX2_leastFreeId_r; rw [if_pos k0]
              have B0 := b0.mpr k0
              have B1 := b1.mpr k1
              have B2 := b2.mpr k2
              have B3 := b3.mpr k3
              simp only [if_pos k0, if_pos B0, if_pos k1, if_pos B1, if_pos k2, if_pos B2, if_pos k3, if_pos B3]
              rw [hlf]
              exact I.offer hn (h := 0) (q := 3) (by decide) (by decide) (by decide) (GK.u (GK.u (GK.u (GK.u (GK.u (GK.u (GK.u (GK.u (GK.u (GK.u (GK.u (show GK gr gr from fun _ _ => rfl) (by decide) (by decide)) (by decide) (by decide)) (by decide) (by decide)) (by decide) (by decide)) (by decide) (by decide)) (by decide) (by decide)) (by decide) (by decide)) (by decide) (by decide)) (by decide) (by decide)) (by decide) (by decide)) (by decide) (by decide)) (CG.u (CG.u (CG.u (CG.u (CG.u (CG.u (CG.u (CG.u (CG.u (CG.u (CG.u (show CG fc gr from I.hc) rfl) rfl) rfl) rfl) rfl) rfl) rfl) rfl) rfl) rfl) rfl) (fun d hd => match d, hd with | 0, _ => Or.inr ⟨k0, rfl, by decide⟩ | 1, _ => Or.inr ⟨k1, rfl, by decide⟩ | 2, _ => Or.inr ⟨k2, rfl, by decide⟩ | 3, _ => Or.inl ⟨rfl, by decide⟩ | d + 4, h => absurd h (by omega)) rfl (by simp only [cO, if_pos (rfl : nI bb = nI bb), if_neg g3] <;> rfl) (by simp only [cO, if_neg gm, if_pos k0, if_pos k1, if_pos k2, if_pos k3] <;> rfl)
            · have hlf : pfX2_leastFreeId_r o0 o1 o2 o3 = 0 := by unfold pfX2_leastFreeId_r; rw [if_pos k0]
              have B0 := b0.mpr k0
              have B1 := b1.mpr k1
              have B2 := b2.mpr k2
              have B3 : ¬ pfX8_bitOf_r (hbits gr bb) 3 = 0 := fun z => k3 (b3.mp z)
              simp only [if_pos k0, if_pos B0, if_pos k1, if_pos B1, if_pos k2, if_pos B2, if_neg k3, if_neg B3]
              rw [hlf]
              exact I.offer hn (h := 0) (q := 3) (by decide) (by decide) (by decide) (GK.u (GK.u (GK.u (GK.u (GK.u (GK.u (GK.u (GK.u (GK.u (GK.u (GK.u (show GK gr gr from fun _ _ => rfl) (by decide) (by decide)) (by decide) (by decide)) (by decide) (by decide)) (by decide) (by decide)) (by decide) (by decide)) (by decide) (by decide)) (by decide) (by decide)) (by decide) (by decide)) (by decide) (by decide)) (by decide) (by decide)) (by decide) (by decide)) (CG.u (CG.u (CG.u (CG.u (CG.u (CG.u (CG.u (CG.u (CG.u (CG.u (CG.u (show CG fc gr from I.hc) rfl) rfl) rfl) rfl) rfl) rfl) rfl) rfl) rfl) rfl) rfl) (fun d hd => match d, hd with | 0, _ => Or.inr ⟨k0, rfl, by decide⟩ | 1, _ => Or.inr ⟨k1, rfl, by decide⟩ | 2, _ => Or.inr ⟨k2, rfl, by decide⟩ | 3, _ => Or.inl ⟨rfl, by decide⟩ | d + 4, h => absurd h (by omega)) rfl (by simp only [cO, if_pos (rfl : nI bb = nI bb), if_neg g3] <;> rfl) (by simp only [cO, if_neg gm, if_pos k0, if_pos k1, if_pos k2, if_neg k3] <;> rfl)
          · by_cases k3 : o3 = -1
            · have hlf : pfX2_leastFreeId_r o0 o1 o2 o3 = 0 := by unfold pfX2_leastFreeId_r; rw [if_pos k0]
              have B0 := b0.mpr k0
              have B1 := b1.mpr k1
              have B2 : ¬ pfX8_bitOf_r (hbits gr bb) 2 = 0 := fun z => k2 (b2.mp z)
              have B3 := b3.mpr k3
              simp only [if_pos k0, if_pos B0, if_pos k1, if_pos B1, if_neg k2, if_neg B2, if_pos k3, if_pos B3]
              rw [hlf]
              exact I.offer hn (h := 0) (q := 3) (by decide) (by decide) (by decide) (GK.u (GK.u (GK.u (GK.u (GK.u (GK.u (GK.u (GK.u (GK.u (GK.u (GK.u (show GK gr gr from fun _ _ => rfl) (by decide) (by decide)) (by decide) (by decide)) (by decide) (by decide)) (by decide) (by decide)) (by decide) (by decide)) (by decide) (by decide)) (by decide) (by decide)) (by decide) (by decide)) (by decide) (by decide)) (by decide) (by decide)) (by decide) (by decide)) (CG.u (CG.u (CG.u (CG.u (CG.u (CG.u (CG.u (CG.u (CG.u (CG.u (CG.u (show CG fc gr from I.hc) rfl) rfl) rfl) rfl) rfl) rfl) rfl) rfl) rfl) rfl) rfl) (fun d hd => match d, hd with | 0, _ => Or.inr ⟨k0, rfl, by decide⟩ | 1, _ => Or.inr ⟨k1, rfl, by decide⟩ | 2, _ => Or.inl ⟨rfl, by decide⟩ | 3, _ => Or.inr ⟨k3, rfl, by decide⟩ | d + 4, h => absurd h (by omega)) rfl (by simp only [cO, if_pos (rfl : nI bb = nI bb), if_neg g2] <;> rfl) (by simp only [cO, if_neg gm, if_pos k0, if_pos k1, if_neg k2, if_pos k3] <;> rfl)
            · rw [if_pos k0, if_pos k1, if_neg k2, if_neg k3] at cn
              omega
        · by_cases k2 : o2 = -1
          · by_cases k3 : o3 = -1
            · have hlf : pfX2_leastFreeId_r o0 o1 o2 o3 = 0 := by unfold pfX2_leastFreeId_r; rw [if_pos k0]
              have B0 := b0.mpr k0
              have B1 : ¬ pfX8_bitOf_r (hbits gr bb) 1 = 0 := fun z => k1 (b1.mp z)
              have B2 := b2.mpr k2
              have B3 := b3.mpr k3
              simp only [if_pos k0, if_pos B0, if_neg k1, if_neg B1, if_pos k2, if_pos B2, if_pos k3, if_pos B3]
              rw [hlf]
              exact I.offer hn (h := 0) (q := 3) (by decide) (by decide) (by decide) (GK.u (GK.u (GK.u (GK.u (GK.u (GK.u (GK.u (GK.u (GK.u (GK.u (GK.u (show GK gr gr from fun _ _ => rfl) (by decide) (by decide)) (by decide) (by decide)) (by decide) (by decide)) (by decide) (by decide)) (by decide) (by decide)) (by decide) (by decide)) (by decide) (by decide)) (by decide) (by decide)) (by decide) (by decide)) (by decide) (by decide)) (by decide) (by decide)) (CG.u (CG.u (CG.u (CG.u (CG.u (CG.u (CG.u (CG.u (CG.u (CG.u (CG.u (show CG fc gr from I.hc) rfl) rfl) rfl) rfl) rfl) rfl) rfl) rfl) rfl) rfl) rfl) (fun d hd => match d, hd with | 0, _ => Or.inr ⟨k0, rfl, by decide⟩ | 1, _ => Or.inl ⟨rfl, by decide⟩ | 2, _ => Or.inr ⟨k2, rfl, by decide⟩ | 3, _ => Or.inr ⟨k3, rfl, by decide⟩ | d + 4, h => absurd h (by omega)) rfl (by simp only [cO, if_pos (rfl : nI bb = nI bb), if_neg g1] <;> rfl) (by simp only [cO, if_neg gm, if_pos k0, if_neg k1, if_pos k2, if_pos k3] <;> rfl)
            · rw [if_pos k0, if_neg k1, if_pos k2, if_neg k3] at cn
              omega
          · by_cases k3 : o3 = -1
            · rw [if_pos k0, if_neg k1, if_neg k2, if_pos k3] at cn
              omega
            · rw [if_pos k0, if_neg k1, if_neg k2, if_neg k3] at cn
              omega
      · by_cases k1 : o1 = -1
        · by_cases k2 : o2 = -1
          · by_cases k3 : o3 = -1
            · have hlf : pfX2_leastFreeId_r o0 o1 o2 o3 = 1 := by unfold pfX2_leastFreeId_r; rw [if_neg k0, if_pos k1]
              have B0 : ¬ pfX8_bitOf_r (hbits gr bb) 0 = 0 := fun z => k0 (b0.mp z)
              have B1 := b1.mpr k1
              have B2 := b2.mpr k2
              have B3 := b3.mpr k3
              simp only [if_neg k0, if_neg B0, if_pos k1, if_pos B1, if_pos k2, if_pos B2, if_pos k3, if_pos B3]
              rw [hlf]
              exact I.offer hn (h := 1) (q := 3) (by decide) (by decide) (by decide) (GK.u (GK.u (GK.u (GK.u (GK.u (GK.u (GK.u (GK.u (GK.u (GK.u (GK.u (show GK gr gr from fun _ _ => rfl) (by decide) (by decide)) (by decide) (by decide)) (by decide) (by decide)) (by decide) (by decide)) (by decide) (by decide)) (by decide) (by decide)) (by decide) (by decide)) (by decide) (by decide)) (by decide) (by decide)) (by decide) (by decide)) (by decide) (by decide)) (CG.u (CG.u (CG.u (CG.u (CG.u (CG.u (CG.u (CG.u (CG.u (CG.u (CG.u (show CG fc gr from I.hc) rfl) rfl) rfl) rfl) rfl) rfl) rfl) rfl) rfl) rfl) rfl) (fun d hd => match d, hd with | 0, _ => Or.inl ⟨rfl, by decide⟩ | 1, _ => Or.inr ⟨k1, rfl, by decide⟩ | 2, _ => Or.inr ⟨k2, rfl, by decide⟩ | 3, _ => Or.inr ⟨k3, rfl, by decide⟩ | d + 4, h => absurd h (by omega)) rfl (by simp only [cO, if_pos (rfl : nI bb = nI bb), if_neg g0] <;> rfl) (by simp only [cO, if_neg gm, if_neg k0, if_pos k1, if_pos k2, if_pos k3] <;> rfl)
            · rw [if_neg k0, if_pos k1, if_pos k2, if_neg k3] at cn
              omega
          · by_cases k3 : o3 = -1
            · rw [if_neg k0, if_pos k1, if_neg k2, if_pos k3] at cn
              omega
            · rw [if_neg k0, if_pos k1, if_neg k2, if_neg k3] at cn
              omega
        · by_cases k2 : o2 = -1
          · by_cases k3 : o3 = -1
            · rw [if_neg k0, if_neg k1, if_pos k2, if_pos k3] at cn
              omega
            · rw [if_neg k0, if_neg k1, if_pos k2, if_neg k3] at cn
              omega
          · by_cases k3 : o3 = -1
            · rw [if_neg k0, if_neg k1, if_neg k2, if_pos k3] at cn
              omega
            · rw [if_neg k0, if_neg k1, if_neg k2, if_neg k3] at cn
              omega
    · have cm : m4 < 3 := by rw [I.h4]; exact Int32.not_le.mp cq
      simp only [if_pos cm, if_neg cq]
      exact ⟨by first | trivial | exact Iff.rfl, I.mono⟩
  · have c7 : ¬ m7 = 0 := by rw [I.h7]; exact fun e => z7 (by rw [e]; decide)
    simp only [if_neg c7, if_neg z7]
    exact ⟨by first | trivial | exact Iff.rfl, I.mono⟩
theorem INV.off_31 (I : INV nb o0 o1 o2 o3 m0 m1 m2 m3 m4 m5 m7 m14 m15 fc fr fb oo sn us tk bb e7 e8 e13 gr) (hn : nb ≤ 60) : (pfX2_lay_31_r m4 m5 m7 o0 o1 o2 o3 < 0 ↔ pfX8_tryOffer_31_r bb e13 gr < 0) ∧ INV (nb + 1) (pfX2_lay_31_a4_0 m4 m5 m7 o0 o1 o2 o3) (pfX2_lay_31_a4_1 m4 m5 m7 o0 o1 o2 o3) (pfX2_lay_31_a4_2 m4 m5 m7 o0 o1 o2 o3) (pfX2_lay_31_a4_3 m4 m5 m7 o0 o1 o2 o3) (pfX2_lay_31_a0_0 m0 m4 m5 m7 o0 o1 o2 o3) m1 m2 m3 (pfX2_lay_31_a0_4 m4 m5 m7 o0 o1 o2 o3) (pfX2_lay_31_a0_5 m4 m5 m7 o0 o1 o2 o3) m7 m14 m15 (pfX2_lay_31_a1_f m4 m5 m7 o0 o1 o2 o3 fc) (pfX2_lay_31_a3_f m0 m4 m5 m7 o0 o1 o2 o3 fr fb) (pfX2_lay_31_a6_f m4 m5 m7 o0 o1 o2 o3 fb) (pfX8_tryOffer_31_yr_3 oo bb e13 gr) sn us tk (pfX8_tryOffer_31_yr_16 bb e13 gr) e7 e8 e13 (pfX8_tryOffer_31_yr_f oo bb e13 gr) := by
  have hl := I.l5
  unfold pfX2_lay_31_r pfX2_lay_31_a4_0 pfX2_lay_31_a4_1 pfX2_lay_31_a4_2 pfX2_lay_31_a4_3 pfX2_lay_31_a0_0 pfX2_lay_31_a0_4 pfX2_lay_31_a0_5 pfX2_lay_31_a1_f pfX2_lay_31_a3_f pfX2_lay_31_a6_f pfX8_tryOffer_31_r pfX8_tryOffer_31_yr_3 pfX8_tryOffer_31_yr_16 pfX8_tryOffer_31_yr_f
  rcases I.p7 with z7 | z7
  · have c7 : m7 = 0 := by rw [I.h7, z7]
    have d7 : e13 ≤ 0 := by rw [z7]; decide
    simp only [if_pos c7, if_pos d7]
    by_cases cq : (4 : Int32) ≤ freeP gr bb
    · have cm : ¬ m4 < 4 := by rw [I.h4]; exact Int32.not_lt.mpr cq
      have c5 : m5 < 500 := by rw [I.h5, i32_lt, nI_toInt (by omega), show (500 : Int32).toInt = 500 by decide]; omega
      have cn : 4 ≤ cO o0 o1 o2 o3 (-1) := by rw [← I.cnt hn]; exact I.ri hn (k := 4) (by decide) (by decide) cq
      have cl : ¬ pfX2_leastFreeId_r o0 o1 o2 o3 = -1 := lf_ne (by omega)
      simp only [if_neg cm, if_neg cl, if_pos c5, if_pos cq]
      refine ⟨by rw [I.h5], ?_⟩
      rw [I.h5, I.h0, nb_u4 (by omega), nb_hd (by omega)]
      have b0 : pfX8_bitOf_r (hbits gr bb) 0 = 0 ↔ o0 = -1 := I.bit hn 0 (by decide)
      have b1 : pfX8_bitOf_r (hbits gr bb) 1 = 0 ↔ o1 = -1 := I.bit hn 1 (by decide)
      have b2 : pfX8_bitOf_r (hbits gr bb) 2 = 0 ↔ o2 = -1 := I.bit hn 2 (by decide)
      have b3 : pfX8_bitOf_r (hbits gr bb) 3 = 0 ↔ o3 = -1 := I.bit hn 3 (by decide)
      have g0 : ¬ o0 = nI bb := I.nbb hn 0 (by decide)
      have g1 : ¬ o1 = nI bb := I.nbb hn 1 (by decide)
      have g2 : ¬ o2 = nI bb := I.nbb hn 2 (by decide)
      have g3 : ¬ o3 = nI bb := I.nbb hn 3 (by decide)
      have gm : ¬ nI bb = -1 := nI_m1 (by omega)
      unfold pfX2_laySplit_31_a1_f pfX2_laySplit_31_a4_0 pfX2_laySplit_31_a4_1 pfX2_laySplit_31_a4_2 pfX2_laySplit_31_a4_3
      unfold cO at cn
      by_cases k0 : o0 = -1
      · by_cases k1 : o1 = -1
        · by_cases k2 : o2 = -1
          · by_cases k3 : o3 = -1
            · have hlf : pfX2_leastFreeId_r o0 o1 o2 o3 = 0 := by unfold pfX2_leastFreeId_r; rw [if_pos k0]
              have B0 := b0.mpr k0
              have B1 := b1.mpr k1
              have B2 := b2.mpr k2
              have B3 := b3.mpr k3
              simp only [if_pos k0, if_pos B0, if_pos k1, if_pos B1, if_pos k2, if_pos B2, if_pos k3, if_pos B3]
              rw [hlf]
              exact I.offer hn (h := 0) (q := 4) (by decide) (by decide) (by decide) (GK.u (GK.u (GK.u (GK.u (GK.u (GK.u (GK.u (GK.u (GK.u (GK.u (GK.u (GK.u (GK.u (GK.u (GK.u (show GK gr gr from fun _ _ => rfl) (by decide) (by decide)) (by decide) (by decide)) (by decide) (by decide)) (by decide) (by decide)) (by decide) (by decide)) (by decide) (by decide)) (by decide) (by decide)) (by decide) (by decide)) (by decide) (by decide)) (by decide) (by decide)) (by decide) (by decide)) (by decide) (by decide)) (by decide) (by decide)) (by decide) (by decide)) (by decide) (by decide)) (CG.u (CG.u (CG.u (CG.u (CG.u (CG.u (CG.u (CG.u (CG.u (CG.u (CG.u (CG.u (CG.u (CG.u (CG.u (show CG fc gr from I.hc) rfl) rfl) rfl) rfl) rfl) rfl) rfl) rfl) rfl) rfl) rfl) rfl) rfl) rfl) rfl) (fun d hd => match d, hd with | 0, _ => Or.inr ⟨k0, rfl, by decide⟩ | 1, _ => Or.inr ⟨k1, rfl, by decide⟩ | 2, _ => Or.inr ⟨k2, rfl, by decide⟩ | 3, _ => Or.inr ⟨k3, rfl, by decide⟩ | d + 4, h => absurd h (by omega)) rfl (by simp only [cO, if_pos (rfl : nI bb = nI bb)] <;> rfl) (by simp only [cO, if_neg gm, if_pos k0, if_pos k1, if_pos k2, if_pos k3] <;> rfl)
            · rw [if_pos k0, if_pos k1, if_pos k2, if_neg k3] at cn
              omega
          · by_cases k3 : o3 = -1
            · rw [if_pos k0, if_pos k1, if_neg k2, if_pos k3] at cn
              omega
            · rw [if_pos k0, if_pos k1, if_neg k2, if_neg k3] at cn
              omega
        · by_cases k2 : o2 = -1
          · by_cases k3 : o3 = -1
            · rw [if_pos k0, if_neg k1, if_pos k2, if_pos k3] at cn
              omega
            · rw [if_pos k0, if_neg k1, if_pos k2, if_neg k3] at cn
              omega
          · by_cases k3 : o3 = -1
            · rw [if_pos k0, if_neg k1, if_neg k2, if_pos k3] at cn
              omega
            · rw [if_pos k0, if_neg k1, if_neg k2, if_neg k3] at cn
              omega
      · by_cases k1 : o1 = -1
        · by_cases k2 : o2 = -1
          · by_cases k3 : o3 = -1
            · rw [if_neg k0, if_pos k1, if_pos k2, if_pos k3] at cn
              omega
            · rw [if_neg k0, if_pos k1, if_pos k2, if_neg k3] at cn
              omega
          · by_cases k3 : o3 = -1
            · rw [if_neg k0, if_pos k1, if_neg k2, if_pos k3] at cn
              omega
            · rw [if_neg k0, if_pos k1, if_neg k2, if_neg k3] at cn
              omega
        · by_cases k2 : o2 = -1
          · by_cases k3 : o3 = -1
            · rw [if_neg k0, if_neg k1, if_pos k2, if_pos k3] at cn
              omega
            · rw [if_neg k0, if_neg k1, if_pos k2, if_neg k3] at cn
              omega
          · by_cases k3 : o3 = -1
            · rw [if_neg k0, if_neg k1, if_neg k2, if_pos k3] at cn
              omega
            · rw [if_neg k0, if_neg k1, if_neg k2, if_neg k3] at cn
              omega
    · have cm : m4 < 4 := by rw [I.h4]; exact Int32.not_le.mp cq
      simp only [if_pos cm, if_neg cq]
      exact ⟨by first | trivial | exact Iff.rfl, I.mono⟩
  · have c7 : ¬ m7 = 0 := by rw [I.h7]; exact fun e => z7 (by rw [e]; decide)
    simp only [if_neg c7, if_neg z7]
    exact ⟨by first | trivial | exact Iff.rfl, I.mono⟩
end
