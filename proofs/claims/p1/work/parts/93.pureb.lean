section
variable {nb : Nat} {o0 o1 o2 o3 m0 m1 m2 m3 m4 m5 m7 m14 m15 : Int32} {fc fr fb : Nat → Int32} {oo sn us tk bb : Nat} {e7 e8 e13 : Int32} {gr : Nat → Int32}
theorem INV.bit (I : INV nb o0 o1 o2 o3 m0 m1 m2 m3 m4 m5 m7 m14 m15 fc fr fb oo sn us tk bb e7 e8 e13 gr) (hn : nb ≤ 60) (d : Nat) (hd : d < 4) : pfX8_bitOf_r (hbits gr bb) (nI d) = 0 ↔ OW o0 o1 o2 o3 d = -1 := by
  have := I.l5
  rw [hbits_bit gr d hd]
  constructor
  · intro h
    rcases I.hG d hd with z | ⟨b, hb, z, ho⟩
    · exact z
    · exact absurd z ((I.hH b hb ho d hd).mp (h b hb ho))
  · intro h b hb ho
    rw [I.hH b hb ho d hd, h]
    exact fun z => nI_m1 (by omega) z.symm
theorem INV.cnt (I : INV nb o0 o1 o2 o3 m0 m1 m2 m3 m4 m5 m7 m14 m15 fc fr fb oo sn us tk bb e7 e8 e13 gr) (hn : nb ≤ 60) : cnt4 (hbits gr bb) = cO o0 o1 o2 o3 (-1) := by
  unfold cnt4 cO
  have b0 : pfX8_bitOf_r (hbits gr bb) 0 = 0 ↔ o0 = -1 := I.bit hn 0 (by decide)
  have b1 : pfX8_bitOf_r (hbits gr bb) 1 = 0 ↔ o1 = -1 := I.bit hn 1 (by decide)
  have b2 : pfX8_bitOf_r (hbits gr bb) 2 = 0 ↔ o2 = -1 := I.bit hn 2 (by decide)
  have b3 : pfX8_bitOf_r (hbits gr bb) 3 = 0 ↔ o3 = -1 := I.bit hn 3 (by decide)
  simp only [b0, b1, b2, b3]
theorem cO_le (v : Int32) : cO o0 o1 o2 o3 v ≤ 4 := by
  unfold cO
  repeat' split
  all_goals omega
theorem leN {q : Int32} {k c : Nat} (hq : q = nI k) (hk : k < 100) (hc : c < 100) : q ≤ nI c ↔ k ≤ c := by
  rw [hq, i32_le, nI_toInt (by omega), nI_toInt (by omega)]
  omega
theorem INV.ri (I : INV nb o0 o1 o2 o3 m0 m1 m2 m3 m4 m5 m7 m14 m15 fc fr fb oo sn us tk bb e7 e8 e13 gr) (hn : nb ≤ 60) {q : Int32} {k : Nat} (hq : q = nI k) (hk : k < 100) : q ≤ freeP gr bb → k ≤ cnt4 (hbits gr bb) := by
  have := cO_le (o0 := o0) (o1 := o1) (o2 := o2) (o3 := o3) (-1)
  rw [I.hf, leN hq hk (by omega), I.cnt hn]
  exact id
theorem INV.whPos (I : INV nb o0 o1 o2 o3 m0 m1 m2 m3 m4 m5 m7 m14 m15 fc fr fb oo sn us tk bb e7 e8 e13 gr) (hn : nb ≤ 60) {v p : Int32} (hv : v < 3) {b : Nat} (hb : b < bb) (h1 : gr (168 + b) = v) (h2 : gr (1168 + b) = p) : whF gr v p bb 0 = nI b := by
  have hl := I.l5
  rcases whF_spec (gr := gr) (v := v) (hd := p) bb 0 with ⟨j, -, hj, z1, z2, z3⟩ | ⟨-, z⟩
  · rw [z3]
    obtain ⟨h, hh, w1, w2⟩ := I.hh b hb (by rw [h1]; exact hv)
    obtain ⟨h', hh', w1', w2'⟩ := I.hh j (by omega) (by rw [z1]; exact hv)
    have : h = h' := nI_inj (by omega) (by omega) (by rw [← w1, ← w1', h2, z2])
    rw [← w2', ← w2, this]
  · exact absurd h2 (z b (Nat.zero_le _) (by omega) h1)
theorem INV.whNeg (I : INV nb o0 o1 o2 o3 m0 m1 m2 m3 m4 m5 m7 m14 m15 fc fr fb oo sn us tk bb e7 e8 e13 gr) {v p : Int32} (hv : v < 3) (hz : ∀ h, h < 4 → p = nI h → ∀ b, b < bb → OW o0 o1 o2 o3 h = nI b → gr (168 + b) = v → ¬ gr (1168 + b) = p) : whF gr v p bb 0 = -1 := by
  rcases whF_spec (gr := gr) (v := v) (hd := p) bb 0 with ⟨j, -, hj, z1, z2, z3⟩ | ⟨z, -⟩
  · obtain ⟨h, hh, w1, w2⟩ := I.hh j (by omega) (by rw [z1]; exact hv)
    exact absurd z2 (hz h hh (by rw [← z2, w1]) j (by omega) w2 z1)
  · exact z
theorem glO {d : Nat} (h : d < 4) : gl [o0, o1, o2, o3, (-1), (-1), (-1), (-1)] d = OW o0 o1 o2 o3 d := by
  rcases (show d = 0 ∨ d = 1 ∨ d = 2 ∨ d = 3 by omega) with rfl | rfl | rfl | rfl <;> rfl
/-- what the owner of a descriptor says of itself: no buffer, or one that has this head and that state -/
theorem INV.own (I : INV nb o0 o1 o2 o3 m0 m1 m2 m3 m4 m5 m7 m14 m15 fc fr fb oo sn us tk bb e7 e8 e13 gr) (hn : nb ≤ 60) {v : Int32} (hv : v < 3) {h : Nat} (hh : h < 4) : (if pfX2_ofBuffer_g_r m5 fb (OW o0 o1 o2 o3 h) 2 = nI h then (if pfX2_ofBuffer_g_r m5 fb (OW o0 o1 o2 o3 h) 0 = v then OW o0 o1 o2 o3 h else (-1)) else (-1)) = whF gr v (nI h) bb 0 := by
  have hl := I.l5
  rw [I.h5]
  rcases I.hG h hh with z | ⟨b, hb, z, ho⟩
  · rw [z, ofBm, if_neg (fun e => nI_m1 (by omega) e.symm)]
    refine (I.whNeg hv (fun h' hh' e b hb w => ?_)).symm
    have : h = h' := nI_inj (by omega) (by omega) e
    rw [← this, z] at w
    exact absurd w.symm (nI_m1 (by omega))
  · obtain ⟨y0, y2, -, -⟩ := I.hb b hb
    rw [z, ofB (k := 2) hb (by omega) (by decide) (by decide) (by omega), ofB (k := 0) hb (by omega) (by decide) (by decide) (by omega), y0, y2]
    by_cases c1 : gr (1168 + b) = nI h
    · rw [if_pos c1]
      by_cases c2 : gr (168 + b) = v
      · rw [if_pos c2]; exact (I.whPos hn hv hb c2 c1).symm
      · rw [if_neg c2]
        refine (I.whNeg hv (fun h' hh' e b' hb' w z1 => ?_)).symm
        have : h = h' := nI_inj (by omega) (by omega) e
        rw [← this, z] at w
        have : b = b' := nI_inj (by omega) (by omega) w
        rw [← this] at z1
        exact absurd z1 c2
    · rw [if_neg c1]
      refine (I.whNeg hv (fun h' hh' e b' hb' w z1 z2 => ?_)).symm
      have : h = h' := nI_inj (by omega) (by omega) e
      rw [← this, z] at w
      have : b = b' := nI_inj (by omega) (by omega) w
      rw [← this] at z2
      exact c1 z2
theorem INV.hol0 (I : INV nb o0 o1 o2 o3 m0 m1 m2 m3 m4 m5 m7 m14 m15 fc fr fb oo sn us tk bb e7 e8 e13 gr) (hn : nb ≤ 60) (p : Int32) : pfX2_holderOf_g_0_r m5 o0 o1 o2 o3 fb p = whF gr 0 p bb 0 := by
  unfold pfX2_holderOf_g_0_r
  by_cases c1 : p < 0
  · rw [if_pos c1]
    refine (I.whNeg (by decide) (fun h hh e => ?_)).symm
    rw [e] at c1
    exact absurd c1 (nI_pos (by omega))
  · rw [if_neg c1]
    by_cases c2 : 4 ≤ p
    · rw [if_pos c2]
      refine (I.whNeg (by decide) (fun h hh e => ?_)).symm
      rw [e] at c2
      exact absurd c2 (nI_geL (n := 4) (by decide) (by decide) hh)
    · obtain ⟨h, hh, rfl⟩ := zof (n := 4) c1 c2 (by decide)
      rw [if_neg c2, if_pos (by rw [i32_lt, nI_toInt (by omega), ti_8]; omega), nI_clamp (by omega), glO hh]
      exact I.own hn (by decide) hh
theorem INV.hol2 (I : INV nb o0 o1 o2 o3 m0 m1 m2 m3 m4 m5 m7 m14 m15 fc fr fb oo sn us tk bb e7 e8 e13 gr) (hn : nb ≤ 60) (p : Int32) : pfX2_holderOf_g_2_r m5 o0 o1 o2 o3 fb p = whF gr 2 p bb 0 := by
  unfold pfX2_holderOf_g_2_r
  by_cases c1 : p < 0
  · rw [if_pos c1]
    refine (I.whNeg (by decide) (fun h hh e => ?_)).symm
    rw [e] at c1
    exact absurd c1 (nI_pos (by omega))
  · rw [if_neg c1]
    by_cases c2 : 4 ≤ p
    · rw [if_pos c2]
      refine (I.whNeg (by decide) (fun h hh e => ?_)).symm
      rw [e] at c2
      exact absurd c2 (nI_geL (n := 4) (by decide) (by decide) hh)
    · obtain ⟨h, hh, rfl⟩ := zof (n := 4) c1 c2 (by decide)
      rw [if_neg c2, if_pos (by rw [i32_lt, nI_toInt (by omega), ti_8]; omega), nI_clamp (by omega), glO hh]
      exact I.own hn (by decide) hh
/-- the answer of a search in the buffers: a number, or -1 -/
theorem wh_cases (gr : Nat → Int32) (v p : Int32) (bb : Nat) : (whF gr v p bb 0 = -1) ∨ ∃ j, j < bb ∧ gr (168 + j) = v ∧ gr (1168 + j) = p ∧ whF gr v p bb 0 = nI j := by
  rcases whF_spec (gr := gr) (v := v) (hd := p) bb 0 with ⟨j, -, hj, z1, z2, z3⟩ | ⟨z, -⟩
  · right; exact ⟨j, by omega, z1, z2, z3⟩
  · left; exact z
/-- the least of what was seen, and one more -/
def ffs (ff x : Int32) : Int32 := if x = -1 then ff else (if ff = -1 then x else (if ff ≤ x then ff else x))
theorem ffs_good {j : Nat} {ff x : Int32} (hf : ff = -1 ∨ ∃ b, ff = nI b ∧ j ≤ b ∧ b < 500) (hx : x = -1 ∨ ∃ b, x = nI b ∧ j ≤ b ∧ b < 500) : ffs ff x = -1 ∨ ∃ b, ffs ff x = nI b ∧ j ≤ b ∧ b < 500 := by
  unfold ffs
  repeat' split
  all_goals assumption
theorem ffs_hit1 {j : Nat} {x : Int32} (hj : j < 500) (hx : x = -1 ∨ ∃ b, x = nI b ∧ j ≤ b ∧ b < 500) : ffs (nI j) x = nI j := by
  unfold ffs
  rcases hx with h | ⟨b, h, hb, h5⟩
  · rw [if_pos h]
  · rw [h, if_neg (nI_m1 (by omega)), if_neg (nI_m1 (by omega)), if_pos (nI_le hb (by omega))]
theorem ffs_hit2 {j : Nat} {ff : Int32} (hj : j < 500) (hf : ff = -1 ∨ ∃ b, ff = nI b ∧ j ≤ b ∧ b < 500) : ffs ff (nI j) = nI j := by
  unfold ffs
  rw [if_neg (nI_m1 (by omega))]
  rcases hf with h | ⟨b, h, hb, h5⟩
  · rw [if_pos h]
  · rw [h, if_neg (nI_m1 (by omega))]
    by_cases c : nI b ≤ nI j
    · rw [if_pos c]
      rw [i32_le, nI_toInt (by omega), nI_toInt (by omega)] at c
      rw [show b = j by omega]
    · rw [if_neg c]
theorem ffs_app (F : Int32 → Int32) (ff x : Int32) : (if x = (-1) then F ff else (if ff = (-1) then F x else (if ff ≤ x then F ff else F x))) = F (ffs ff x) := by
  unfold ffs
  by_cases c1 : x = -1
  · rw [if_pos c1, if_pos c1]
  · rw [if_neg c1, if_neg c1]
    by_cases c2 : ff = -1
    · rw [if_pos c2, if_pos c2]
    · rw [if_neg c2, if_neg c2]
      by_cases c3 : ff ≤ x
      · rw [if_pos c3, if_pos c3]
      · rw [if_neg c3, if_neg c3]
theorem ff_eq3 (ff : Int32) : LSX2_firstFetched_3_ff m5 o0 o1 o2 o3 fb ff = ffs ff (pfX2_holderOf_3_1_r m5 o3 fb) := by
  unfold LSX2_firstFetched_3_ff LSX2_firstFetched_4_ff
  exact ffs_app (fun z => z) ff _
theorem ff_eq2 (ff : Int32) : LSX2_firstFetched_2_ff m5 o0 o1 o2 o3 fb ff = ffs (ffs ff (pfX2_holderOf_2_1_r m5 o2 fb)) (pfX2_holderOf_3_1_r m5 o3 fb) := by
  unfold LSX2_firstFetched_2_ff
  simp only [ff_eq3]
  exact ffs_app (fun z => ffs z (pfX2_holderOf_3_1_r m5 o3 fb)) ff _
theorem ff_eq1 (ff : Int32) : LSX2_firstFetched_1_ff m5 o0 o1 o2 o3 fb ff = ffs (ffs (ffs ff (pfX2_holderOf_1_1_r m5 o1 fb)) (pfX2_holderOf_2_1_r m5 o2 fb)) (pfX2_holderOf_3_1_r m5 o3 fb) := by
  unfold LSX2_firstFetched_1_ff
  simp only [ff_eq2]
  exact ffs_app (fun z => ffs (ffs z (pfX2_holderOf_2_1_r m5 o2 fb)) (pfX2_holderOf_3_1_r m5 o3 fb)) ff _
theorem ff_eq (ff : Int32) : LSX2_firstFetched_0_ff m5 o0 o1 o2 o3 fb ff = ffs (ffs (ffs (ffs ff (pfX2_holderOf_0_1_r m5 o0 fb)) (pfX2_holderOf_1_1_r m5 o1 fb)) (pfX2_holderOf_2_1_r m5 o2 fb)) (pfX2_holderOf_3_1_r m5 o3 fb) := by
  unfold LSX2_firstFetched_0_ff
  simp only [ff_eq1]
  exact ffs_app (fun z => ffs (ffs (ffs z (pfX2_holderOf_1_1_r m5 o1 fb)) (pfX2_holderOf_2_1_r m5 o2 fb)) (pfX2_holderOf_3_1_r m5 o3 fb)) ff _
theorem INV.hd (I : INV nb o0 o1 o2 o3 m0 m1 m2 m3 m4 m5 m7 m14 m15 fc fr fb oo sn us tk bb e7 e8 e13 gr) (hn : nb ≤ 60) : pfX2_holderOf_0_1_r m5 o0 fb = whF gr 1 (nI 0) bb 0 ∧ pfX2_holderOf_1_1_r m5 o1 fb = whF gr 1 (nI 1) bb 0 ∧ pfX2_holderOf_2_1_r m5 o2 fb = whF gr 1 (nI 2) bb 0 ∧ pfX2_holderOf_3_1_r m5 o3 fb = whF gr 1 (nI 3) bb 0 :=
  ⟨I.own hn (v := 1) (by decide) (h := 0) (by decide), I.own hn (v := 1) (by decide) (h := 1) (by decide), I.own hn (v := 1) (by decide) (h := 2) (by decide), I.own hn (v := 1) (by decide) (h := 3) (by decide)⟩
theorem INV.first (I : INV nb o0 o1 o2 o3 m0 m1 m2 m3 m4 m5 m7 m14 m15 fc fr fb oo sn us tk bb e7 e8 e13 gr) (hn : nb ≤ 60) : LSX2_firstFetched_0_ff m5 o0 o1 o2 o3 fb (-1) = foF gr 1 bb 0 := by
  have hl := I.l5
  obtain ⟨a0, a1, a2, a3⟩ := I.hd hn
  rw [ff_eq, a0, a1, a2, a3]
  rcases foF_spec (gr := gr) (v := 1) bb 0 with ⟨j, -, hj, z1, z2, z3⟩ | ⟨z, y⟩
  · rw [z3]
    have G : ∀ p, whF gr 1 p bb 0 = -1 ∨ ∃ b, whF gr 1 p bb 0 = nI b ∧ j ≤ b ∧ b < 500 := by
      intro p
      rcases wh_cases gr 1 p bb with h | ⟨b, hb, w1, w2, w3⟩
      · left; exact h
      · right
        refine ⟨b, w3, ?_, by omega⟩
        rcases Nat.lt_or_ge b j with hlt | hge
        · exact absurd w1 (z2 b (Nat.zero_le _) hlt)
        · exact hge
    have G0 : (-1 : Int32) = -1 ∨ ∃ b, (-1 : Int32) = nI b ∧ j ≤ b ∧ b < 500 := Or.inl rfl
    have hj5 : j < 500 := by omega
    obtain ⟨h, hh, w1, w2⟩ := I.hh j (by omega) (by rw [z1]; decide)
    have P := I.whPos hn (v := 1) (by decide) (by omega : j < bb) z1 w1
    rcases (show h = 0 ∨ h = 1 ∨ h = 2 ∨ h = 3 by omega) with rfl | rfl | rfl | rfl
    · rw [P, ffs_hit2 hj5 G0, ffs_hit1 hj5 (G _), ffs_hit1 hj5 (G _), ffs_hit1 hj5 (G _)]
    · rw [P, ffs_hit2 hj5 (ffs_good G0 (G _)), ffs_hit1 hj5 (G _), ffs_hit1 hj5 (G _)]
    · rw [P, ffs_hit2 hj5 (ffs_good (ffs_good G0 (G _)) (G _)), ffs_hit1 hj5 (G _)]
    · rw [P, ffs_hit2 hj5 (ffs_good (ffs_good (ffs_good G0 (G _)) (G _)) (G _))]
  · have N : ∀ p, whF gr 1 p bb 0 = -1 := by
      intro p
      rcases wh_cases gr 1 p bb with h | ⟨b, hb, w1, w2, w3⟩
      · exact h
      · exact absurd w1 (y b (Nat.zero_le _) (by omega))
    rw [N, N, N, N, z]
    decide
end
