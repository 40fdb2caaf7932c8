theorem i32_lt {a b : Int32} : a < b ↔ a.toInt < b.toInt := Int32.lt_iff_toInt_lt
theorem i32_le {a b : Int32} : a ≤ b ↔ a.toInt ≤ b.toInt := Int32.le_iff_toInt_le
theorem nI_m1 {b : Nat} (h : b < 2 ^ 31) : ¬ nI b = -1 := by
  intro e
  have := congrArg Int32.toInt e
  rw [nI_toInt h, ti_m1] at this
  omega
theorem nI_inj {a b : Nat} (ha : a < 2 ^ 31) (hb : b < 2 ^ 31) (h : nI a = nI b) : a = b := (nI_eq ha hb).mp h
theorem and15 {a : Nat} (h : a < 16) : (nI a + 1) &&& 15 = nI ((a + 1) % 16) := by
  rw [nI_1, pk_and (m := 15) _ 4 (by decide), pk_tn (by omega)]
theorem and3 {a : Nat} (h : a < 16) : (nI a) &&& 3 = nI (a % 4) := by
  rw [pk_and (m := 3) _ 2 (by decide), pk_tn (by omega)]
/-- the buffer that has descriptor d -/
def OW (o0 o1 o2 o3 : Int32) : Nat → Int32
  | 0 => o0
  | 1 => o1
  | 2 => o2
  | _ => o3
/-- how many of the four are held by v -/
def cO (o0 o1 o2 o3 v : Int32) : Nat := (if o0 = v then 1 else 0) + (if o1 = v then 1 else 0) + (if o2 = v then 1 else 0) + (if o3 = v then 1 else 0)
/-- what holds between the two states, after at most nb offers -/
def INV (nb : Nat) (o0 o1 o2 o3 m0 m1 m2 m3 m4 m5 m7 m14 m15 : Int32) (fc fr fb : Nat → Int32) (oo sn us tk bb : Nat) (e7 e8 e13 : Int32) (gr : Nat → Int32) : Prop :=
  (m0 = nI oo) ∧
  (m1 = nI sn) ∧
  (m2 = nI us) ∧
  (m3 = nI tk) ∧
  (m5 = nI bb) ∧
  (oo < 16) ∧
  (sn < 16) ∧
  (us < 16) ∧
  (tk < 16) ∧
  (bb ≤ nb) ∧
  (m7 = e13) ∧
  (e13 = 0 ∨ ¬ e13 ≤ 0) ∧
  (m14 = e7) ∧
  (m15 = e8) ∧
  (m4 = freeP gr bb) ∧
  (∀ k, k < 12 → fc k = gr (24 + k)) ∧
  (∀ k, k < 4 → fr (3 * k) = gr (144 + k) ∧ fr (3 * k + 1) = gr (152 + k)) ∧
  (∀ b, b < bb → fb (8 * b + 0) = gr (168 + b) ∧ fb (8 * b + 2) = gr (1168 + b) ∧ fb (8 * b + 4) = gr (2168 + b) ∧ fb (8 * b + 7) = gr (3668 + b)) ∧
  (∀ d, d < 4 → OW o0 o1 o2 o3 d = -1 ∨ ∃ b, b < bb ∧ OW o0 o1 o2 o3 d = nI b ∧ gr (168 + b) < 3) ∧
  (∀ b, b < bb → gr (168 + b) < 3 → ∀ d, d < 4 → (pfX8_bitOf_r (gr (4168 + b)) (nI d) = 0 ↔ ¬ OW o0 o1 o2 o3 d = nI b)) ∧
  (∀ b, b < bb → gr (168 + b) < 3 → ∃ h, h < 4 ∧ gr (1168 + b) = nI h ∧ OW o0 o1 o2 o3 h = nI b) ∧
  (∀ b, b < bb → gr (168 + b) < 3 → gr (3668 + b) = nI (cO o0 o1 o2 o3 (nI b))) ∧
  (freeP gr bb = nI (cO o0 o1 o2 o3 (-1)))
theorem INV.mk {nb : Nat} {o0 o1 o2 o3 m0 m1 m2 m3 m4 m5 m7 m14 m15 : Int32} {fc fr fb : Nat → Int32} {oo sn us tk bb : Nat} {e7 e8 e13 : Int32} {gr : Nat → Int32} (h0 : m0 = nI oo) (h1 : m1 = nI sn) (h2 : m2 = nI us) (h3 : m3 = nI tk) (h5 : m5 = nI bb) (l0 : oo < 16) (l1 : sn < 16) (l2 : us < 16) (l3 : tk < 16) (l5 : bb ≤ nb) (h7 : m7 = e13) (p7 : e13 = 0 ∨ ¬ e13 ≤ 0) (h14 : m14 = e7) (h15 : m15 = e8) (h4 : m4 = freeP gr bb) (hc : ∀ k, k < 12 → fc k = gr (24 + k)) (hr : ∀ k, k < 4 → fr (3 * k) = gr (144 + k) ∧ fr (3 * k + 1) = gr (152 + k)) (hb : ∀ b, b < bb → fb (8 * b + 0) = gr (168 + b) ∧ fb (8 * b + 2) = gr (1168 + b) ∧ fb (8 * b + 4) = gr (2168 + b) ∧ fb (8 * b + 7) = gr (3668 + b)) (hG : ∀ d, d < 4 → OW o0 o1 o2 o3 d = -1 ∨ ∃ b, b < bb ∧ OW o0 o1 o2 o3 d = nI b ∧ gr (168 + b) < 3) (hH : ∀ b, b < bb → gr (168 + b) < 3 → ∀ d, d < 4 → (pfX8_bitOf_r (gr (4168 + b)) (nI d) = 0 ↔ ¬ OW o0 o1 o2 o3 d = nI b)) (hh : ∀ b, b < bb → gr (168 + b) < 3 → ∃ h, h < 4 ∧ gr (1168 + b) = nI h ∧ OW o0 o1 o2 o3 h = nI b) (hm : ∀ b, b < bb → gr (168 + b) < 3 → gr (3668 + b) = nI (cO o0 o1 o2 o3 (nI b))) (hf : freeP gr bb = nI (cO o0 o1 o2 o3 (-1))) : INV nb o0 o1 o2 o3 m0 m1 m2 m3 m4 m5 m7 m14 m15 fc fr fb oo sn us tk bb e7 e8 e13 gr := ⟨h0, h1, h2, h3, h5, l0, l1, l2, l3, l5, h7, p7, h14, h15, h4, hc, hr, hb, hG, hH, hh, hm, hf⟩
theorem INV.h0 {nb : Nat} {o0 o1 o2 o3 m0 m1 m2 m3 m4 m5 m7 m14 m15 : Int32} {fc fr fb : Nat → Int32} {oo sn us tk bb : Nat} {e7 e8 e13 : Int32} {gr : Nat → Int32} (I : INV nb o0 o1 o2 o3 m0 m1 m2 m3 m4 m5 m7 m14 m15 fc fr fb oo sn us tk bb e7 e8 e13 gr) : m0 = nI oo := I.1
theorem INV.h1 {nb : Nat} {o0 o1 o2 o3 m0 m1 m2 m3 m4 m5 m7 m14 m15 : Int32} {fc fr fb : Nat → Int32} {oo sn us tk bb : Nat} {e7 e8 e13 : Int32} {gr : Nat → Int32} (I : INV nb o0 o1 o2 o3 m0 m1 m2 m3 m4 m5 m7 m14 m15 fc fr fb oo sn us tk bb e7 e8 e13 gr) : m1 = nI sn := I.2.1
theorem INV.h2 {nb : Nat} {o0 o1 o2 o3 m0 m1 m2 m3 m4 m5 m7 m14 m15 : Int32} {fc fr fb : Nat → Int32} {oo sn us tk bb : Nat} {e7 e8 e13 : Int32} {gr : Nat → Int32} (I : INV nb o0 o1 o2 o3 m0 m1 m2 m3 m4 m5 m7 m14 m15 fc fr fb oo sn us tk bb e7 e8 e13 gr) : m2 = nI us := I.2.2.1
theorem INV.h3 {nb : Nat} {o0 o1 o2 o3 m0 m1 m2 m3 m4 m5 m7 m14 m15 : Int32} {fc fr fb : Nat → Int32} {oo sn us tk bb : Nat} {e7 e8 e13 : Int32} {gr : Nat → Int32} (I : INV nb o0 o1 o2 o3 m0 m1 m2 m3 m4 m5 m7 m14 m15 fc fr fb oo sn us tk bb e7 e8 e13 gr) : m3 = nI tk := I.2.2.2.1
theorem INV.h5 {nb : Nat} {o0 o1 o2 o3 m0 m1 m2 m3 m4 m5 m7 m14 m15 : Int32} {fc fr fb : Nat → Int32} {oo sn us tk bb : Nat} {e7 e8 e13 : Int32} {gr : Nat → Int32} (I : INV nb o0 o1 o2 o3 m0 m1 m2 m3 m4 m5 m7 m14 m15 fc fr fb oo sn us tk bb e7 e8 e13 gr) : m5 = nI bb := I.2.2.2.2.1
theorem INV.l0 {nb : Nat} {o0 o1 o2 o3 m0 m1 m2 m3 m4 m5 m7 m14 m15 : Int32} {fc fr fb : Nat → Int32} {oo sn us tk bb : Nat} {e7 e8 e13 : Int32} {gr : Nat → Int32} (I : INV nb o0 o1 o2 o3 m0 m1 m2 m3 m4 m5 m7 m14 m15 fc fr fb oo sn us tk bb e7 e8 e13 gr) : oo < 16 := I.2.2.2.2.2.1
theorem INV.l1 {nb : Nat} {o0 o1 o2 o3 m0 m1 m2 m3 m4 m5 m7 m14 m15 : Int32} {fc fr fb : Nat → Int32} {oo sn us tk bb : Nat} {e7 e8 e13 : Int32} {gr : Nat → Int32} (I : INV nb o0 o1 o2 o3 m0 m1 m2 m3 m4 m5 m7 m14 m15 fc fr fb oo sn us tk bb e7 e8 e13 gr) : sn < 16 := I.2.2.2.2.2.2.1
theorem INV.l2 {nb : Nat} {o0 o1 o2 o3 m0 m1 m2 m3 m4 m5 m7 m14 m15 : Int32} {fc fr fb : Nat → Int32} {oo sn us tk bb : Nat} {e7 e8 e13 : Int32} {gr : Nat → Int32} (I : INV nb o0 o1 o2 o3 m0 m1 m2 m3 m4 m5 m7 m14 m15 fc fr fb oo sn us tk bb e7 e8 e13 gr) : us < 16 := I.2.2.2.2.2.2.2.1
theorem INV.l3 {nb : Nat} {o0 o1 o2 o3 m0 m1 m2 m3 m4 m5 m7 m14 m15 : Int32} {fc fr fb : Nat → Int32} {oo sn us tk bb : Nat} {e7 e8 e13 : Int32} {gr : Nat → Int32} (I : INV nb o0 o1 o2 o3 m0 m1 m2 m3 m4 m5 m7 m14 m15 fc fr fb oo sn us tk bb e7 e8 e13 gr) : tk < 16 := I.2.2.2.2.2.2.2.2.1
theorem INV.l5 {nb : Nat} {o0 o1 o2 o3 m0 m1 m2 m3 m4 m5 m7 m14 m15 : Int32} {fc fr fb : Nat → Int32} {oo sn us tk bb : Nat} {e7 e8 e13 : Int32} {gr : Nat → Int32} (I : INV nb o0 o1 o2 o3 m0 m1 m2 m3 m4 m5 m7 m14 m15 fc fr fb oo sn us tk bb e7 e8 e13 gr) : bb ≤ nb := I.2.2.2.2.2.2.2.2.2.1
theorem INV.h7 {nb : Nat} {o0 o1 o2 o3 m0 m1 m2 m3 m4 m5 m7 m14 m15 : Int32} {fc fr fb : Nat → Int32} {oo sn us tk bb : Nat} {e7 e8 e13 : Int32} {gr : Nat → Int32} (I : INV nb o0 o1 o2 o3 m0 m1 m2 m3 m4 m5 m7 m14 m15 fc fr fb oo sn us tk bb e7 e8 e13 gr) : m7 = e13 := I.2.2.2.2.2.2.2.2.2.2.1
theorem INV.p7 {nb : Nat} {o0 o1 o2 o3 m0 m1 m2 m3 m4 m5 m7 m14 m15 : Int32} {fc fr fb : Nat → Int32} {oo sn us tk bb : Nat} {e7 e8 e13 : Int32} {gr : Nat → Int32} (I : INV nb o0 o1 o2 o3 m0 m1 m2 m3 m4 m5 m7 m14 m15 fc fr fb oo sn us tk bb e7 e8 e13 gr) : e13 = 0 ∨ ¬ e13 ≤ 0 := I.2.2.2.2.2.2.2.2.2.2.2.1
theorem INV.h14 {nb : Nat} {o0 o1 o2 o3 m0 m1 m2 m3 m4 m5 m7 m14 m15 : Int32} {fc fr fb : Nat → Int32} {oo sn us tk bb : Nat} {e7 e8 e13 : Int32} {gr : Nat → Int32} (I : INV nb o0 o1 o2 o3 m0 m1 m2 m3 m4 m5 m7 m14 m15 fc fr fb oo sn us tk bb e7 e8 e13 gr) : m14 = e7 := I.2.2.2.2.2.2.2.2.2.2.2.2.1
theorem INV.h15 {nb : Nat} {o0 o1 o2 o3 m0 m1 m2 m3 m4 m5 m7 m14 m15 : Int32} {fc fr fb : Nat → Int32} {oo sn us tk bb : Nat} {e7 e8 e13 : Int32} {gr : Nat → Int32} (I : INV nb o0 o1 o2 o3 m0 m1 m2 m3 m4 m5 m7 m14 m15 fc fr fb oo sn us tk bb e7 e8 e13 gr) : m15 = e8 := I.2.2.2.2.2.2.2.2.2.2.2.2.2.1
theorem INV.h4 {nb : Nat} {o0 o1 o2 o3 m0 m1 m2 m3 m4 m5 m7 m14 m15 : Int32} {fc fr fb : Nat → Int32} {oo sn us tk bb : Nat} {e7 e8 e13 : Int32} {gr : Nat → Int32} (I : INV nb o0 o1 o2 o3 m0 m1 m2 m3 m4 m5 m7 m14 m15 fc fr fb oo sn us tk bb e7 e8 e13 gr) : m4 = freeP gr bb := I.2.2.2.2.2.2.2.2.2.2.2.2.2.2.1
theorem INV.hc {nb : Nat} {o0 o1 o2 o3 m0 m1 m2 m3 m4 m5 m7 m14 m15 : Int32} {fc fr fb : Nat → Int32} {oo sn us tk bb : Nat} {e7 e8 e13 : Int32} {gr : Nat → Int32} (I : INV nb o0 o1 o2 o3 m0 m1 m2 m3 m4 m5 m7 m14 m15 fc fr fb oo sn us tk bb e7 e8 e13 gr) : ∀ k, k < 12 → fc k = gr (24 + k) := I.2.2.2.2.2.2.2.2.2.2.2.2.2.2.2.1
theorem INV.hr {nb : Nat} {o0 o1 o2 o3 m0 m1 m2 m3 m4 m5 m7 m14 m15 : Int32} {fc fr fb : Nat → Int32} {oo sn us tk bb : Nat} {e7 e8 e13 : Int32} {gr : Nat → Int32} (I : INV nb o0 o1 o2 o3 m0 m1 m2 m3 m4 m5 m7 m14 m15 fc fr fb oo sn us tk bb e7 e8 e13 gr) : ∀ k, k < 4 → fr (3 * k) = gr (144 + k) ∧ fr (3 * k + 1) = gr (152 + k) := I.2.2.2.2.2.2.2.2.2.2.2.2.2.2.2.2.1
theorem INV.hb {nb : Nat} {o0 o1 o2 o3 m0 m1 m2 m3 m4 m5 m7 m14 m15 : Int32} {fc fr fb : Nat → Int32} {oo sn us tk bb : Nat} {e7 e8 e13 : Int32} {gr : Nat → Int32} (I : INV nb o0 o1 o2 o3 m0 m1 m2 m3 m4 m5 m7 m14 m15 fc fr fb oo sn us tk bb e7 e8 e13 gr) : ∀ b, b < bb → fb (8 * b + 0) = gr (168 + b) ∧ fb (8 * b + 2) = gr (1168 + b) ∧ fb (8 * b + 4) = gr (2168 + b) ∧ fb (8 * b + 7) = gr (3668 + b) := I.2.2.2.2.2.2.2.2.2.2.2.2.2.2.2.2.2.1
theorem INV.hG {nb : Nat} {o0 o1 o2 o3 m0 m1 m2 m3 m4 m5 m7 m14 m15 : Int32} {fc fr fb : Nat → Int32} {oo sn us tk bb : Nat} {e7 e8 e13 : Int32} {gr : Nat → Int32} (I : INV nb o0 o1 o2 o3 m0 m1 m2 m3 m4 m5 m7 m14 m15 fc fr fb oo sn us tk bb e7 e8 e13 gr) : ∀ d, d < 4 → OW o0 o1 o2 o3 d = -1 ∨ ∃ b, b < bb ∧ OW o0 o1 o2 o3 d = nI b ∧ gr (168 + b) < 3 := I.2.2.2.2.2.2.2.2.2.2.2.2.2.2.2.2.2.2.1
theorem INV.hH {nb : Nat} {o0 o1 o2 o3 m0 m1 m2 m3 m4 m5 m7 m14 m15 : Int32} {fc fr fb : Nat → Int32} {oo sn us tk bb : Nat} {e7 e8 e13 : Int32} {gr : Nat → Int32} (I : INV nb o0 o1 o2 o3 m0 m1 m2 m3 m4 m5 m7 m14 m15 fc fr fb oo sn us tk bb e7 e8 e13 gr) : ∀ b, b < bb → gr (168 + b) < 3 → ∀ d, d < 4 → (pfX8_bitOf_r (gr (4168 + b)) (nI d) = 0 ↔ ¬ OW o0 o1 o2 o3 d = nI b) := I.2.2.2.2.2.2.2.2.2.2.2.2.2.2.2.2.2.2.2.1
theorem INV.hh {nb : Nat} {o0 o1 o2 o3 m0 m1 m2 m3 m4 m5 m7 m14 m15 : Int32} {fc fr fb : Nat → Int32} {oo sn us tk bb : Nat} {e7 e8 e13 : Int32} {gr : Nat → Int32} (I : INV nb o0 o1 o2 o3 m0 m1 m2 m3 m4 m5 m7 m14 m15 fc fr fb oo sn us tk bb e7 e8 e13 gr) : ∀ b, b < bb → gr (168 + b) < 3 → ∃ h, h < 4 ∧ gr (1168 + b) = nI h ∧ OW o0 o1 o2 o3 h = nI b := I.2.2.2.2.2.2.2.2.2.2.2.2.2.2.2.2.2.2.2.2.1
theorem INV.hm {nb : Nat} {o0 o1 o2 o3 m0 m1 m2 m3 m4 m5 m7 m14 m15 : Int32} {fc fr fb : Nat → Int32} {oo sn us tk bb : Nat} {e7 e8 e13 : Int32} {gr : Nat → Int32} (I : INV nb o0 o1 o2 o3 m0 m1 m2 m3 m4 m5 m7 m14 m15 fc fr fb oo sn us tk bb e7 e8 e13 gr) : ∀ b, b < bb → gr (168 + b) < 3 → gr (3668 + b) = nI (cO o0 o1 o2 o3 (nI b)) := I.2.2.2.2.2.2.2.2.2.2.2.2.2.2.2.2.2.2.2.2.2.1
theorem INV.hf {nb : Nat} {o0 o1 o2 o3 m0 m1 m2 m3 m4 m5 m7 m14 m15 : Int32} {fc fr fb : Nat → Int32} {oo sn us tk bb : Nat} {e7 e8 e13 : Int32} {gr : Nat → Int32} (I : INV nb o0 o1 o2 o3 m0 m1 m2 m3 m4 m5 m7 m14 m15 fc fr fb oo sn us tk bb e7 e8 e13 gr) : freeP gr bb = nI (cO o0 o1 o2 o3 (-1)) := I.2.2.2.2.2.2.2.2.2.2.2.2.2.2.2.2.2.2.2.2.2.2
theorem out0 {gr : Nat → Int32} {b : Nat} : pfX8_isOut_r gr b = 0 ↔ ¬ gr (168 + b) < 3 := by
  unfold pfX8_isOut_r
  by_cases h : (3 : Int32) ≤ gr (168 + b)
  · rw [if_pos h]; exact ⟨fun _ => Int32.not_lt.mpr h, fun _ => rfl⟩
  · rw [if_neg h]; exact ⟨fun z => absurd z (by decide), fun z => absurd (Int32.not_lt.mp z) h⟩
theorem hbits_bit (gr : Nat → Int32) (d : Nat) (hd : d < 4) : ∀ n, pfX8_bitOf_r (hbits gr n) (nI d) = 0 ↔ ∀ b, b < n → gr (168 + b) < 3 → pfX8_bitOf_r (gr (4168 + b)) (nI d) = 0 := by
  intro n
  induction n with
  | zero =>
    rw [hbits]
    refine ⟨fun _ b hb => absurd hb (Nat.not_lt_zero _), fun _ => ?_⟩
    rcases (show d = 0 ∨ d = 1 ∨ d = 2 ∨ d = 3 by omega) with rfl | rfl | rfl | rfl <;> decide
  | succ n ih =>
    rw [hbits]
    by_cases c : pfX8_isOut_r gr n = 0
    · rw [if_pos c, ih]
      rw [out0] at c
      refine ⟨fun z b hb ho => ?_, fun z b hb => z b (by omega)⟩
      rcases (show b < n ∨ b = n by omega) with h | rfl
      · exact z b h ho
      · exact absurd ho c
    · rw [if_neg c, bit_or _ _ _ hd, ih]
      rw [out0, Classical.not_not] at c
      refine ⟨fun z b hb ho => ?_, fun z => ⟨fun b hb => z b (by omega), z n (by omega) c⟩⟩
      rcases (show b < n ∨ b = n by omega) with h | rfl
      · exact z.1 b h ho
      · exact z.2
theorem whF_spec {gr : Nat → Int32} {v hd : Int32} : ∀ (n i : Nat), (∃ j, i ≤ j ∧ j < i + n ∧ gr (168 + j) = v ∧ gr (1168 + j) = hd ∧ whF gr v hd n i = nI j) ∨ (whF gr v hd n i = -1 ∧ ∀ j, i ≤ j → j < i + n → gr (168 + j) = v → ¬ gr (1168 + j) = hd) := by
  intro n
  induction n with
  | zero => intro i; right; exact ⟨by rw [whF], fun j h1 h2 => by omega⟩
  | succ n ih =>
    intro i
    rw [whF]
    have hrec : ¬ (gr (168 + i) = v ∧ gr (1168 + i) = hd) → (∃ j, i ≤ j ∧ j < i + (n + 1) ∧ gr (168 + j) = v ∧ gr (1168 + j) = hd ∧ whF gr v hd n (i + 1) = nI j) ∨ (whF gr v hd n (i + 1) = -1 ∧ ∀ j, i ≤ j → j < i + (n + 1) → gr (168 + j) = v → ¬ gr (1168 + j) = hd) := by
      intro hn
      rcases ih (i + 1) with ⟨j, h1, h2, h3, h4, h5⟩ | ⟨h1, h2⟩
      · left; exact ⟨j, by omega, by omega, h3, h4, h5⟩
      · right
        refine ⟨h1, fun j z1 z2 z3 z4 => ?_⟩
        rcases (show i = j ∨ i + 1 ≤ j by omega) with rfl | h
        · exact hn ⟨z3, z4⟩
        · exact h2 j h (by omega) z3 z4
    by_cases c1 : gr (168 + i) = v
    · rw [if_pos c1]
      by_cases c2 : gr (1168 + i) = hd
      · rw [if_pos c2]; left; exact ⟨i, Nat.le_refl _, by omega, c1, c2, rfl⟩
      · rw [if_neg c2]; exact hrec (fun z => c2 z.2)
    · rw [if_neg c1]; exact hrec (fun z => c1 z.1)
theorem foF_spec {gr : Nat → Int32} {v : Int32} : ∀ (n i : Nat), (∃ j, i ≤ j ∧ j < i + n ∧ gr (168 + j) = v ∧ (∀ k, i ≤ k → k < j → ¬ gr (168 + k) = v) ∧ foF gr v n i = nI j) ∨ (foF gr v n i = -1 ∧ ∀ j, i ≤ j → j < i + n → ¬ gr (168 + j) = v) := by
  intro n
  induction n with
  | zero => intro i; right; exact ⟨by rw [foF], fun j h1 h2 => by omega⟩
  | succ n ih =>
    intro i
    rw [foF]
    by_cases c1 : gr (168 + i) = v
    · rw [if_pos c1]; left; exact ⟨i, Nat.le_refl _, by omega, c1, fun k h1 h2 => by omega, rfl⟩
    · rw [if_neg c1]
      rcases ih (i + 1) with ⟨j, h1, h2, h3, h4, h5⟩ | ⟨h1, h2⟩
      · left
        refine ⟨j, by omega, by omega, h3, fun k z1 z2 => ?_, h5⟩
        rcases (show i = k ∨ i + 1 ≤ k by omega) with rfl | h
        · exact c1
        · exact h4 k h z2
      · right
        refine ⟨h1, fun j z1 z2 => ?_⟩
        rcases (show i = j ∨ i + 1 ≤ j by omega) with rfl | h
        · exact c1
        · exact h2 j h (by omega)
/-- free places do not change where the words they are counted from don't -/
theorem freeP_congr {gr gr' : Nat → Int32} : ∀ n, (∀ b, b < n → gr' (168 + b) = gr (168 + b) ∧ gr' (3668 + b) = gr (3668 + b)) → freeP gr' n = freeP gr n := by
  intro n
  induction n with
  | zero => intro _; rw [freeP, freeP]
  | succ n ih =>
    intro h
    rw [freeP, freeP, ih (fun b hb => h b (by omega)), (h n (by omega)).2]
    unfold pfX8_isOut_r
    rw [(h n (by omega)).1]
theorem freeP_st {gr gr' : Nat → Int32} : ∀ n, (∀ b, b < n → (gr' (168 + b) < 3 ↔ gr (168 + b) < 3) ∧ gr' (3668 + b) = gr (3668 + b)) → freeP gr' n = freeP gr n := by
  intro n
  induction n with
  | zero => intro _; rw [freeP, freeP]
  | succ n ih =>
    intro h
    rw [freeP, freeP, ih (fun b hb => h b (by omega)), (h n (by omega)).2]
    by_cases c : gr (168 + n) < 3
    · rw [if_neg (by rw [out0]; exact fun z => z ((h n (by omega)).1.mpr c)), if_neg (by rw [out0]; exact fun z => z c)]
    · rw [if_pos (by rw [out0]; exact fun z => c ((h n (by omega)).1.mp z)), if_pos (by rw [out0]; exact c)]
/-- one that was out is reaped -/
theorem freeP_reap {gr gr' : Nat → Int32} {j : Nat} (hj : gr (168 + j) < 3) (hj' : ¬ gr' (168 + j) < 3) : ∀ n, j < n → (∀ b, b < n → b ≠ j → gr' (168 + b) = gr (168 + b)) → (∀ b, b < n → gr' (3668 + b) = gr (3668 + b)) → freeP gr' n = freeP gr n + gr (3668 + j) := by
  intro n
  induction n with
  | zero => intro h; omega
  | succ n ih =>
    intro hn h1 h2
    rw [freeP, freeP]
    rcases (show j = n ∨ j < n by omega) with rfl | h
    · rw [if_pos (by rw [out0]; exact hj'), if_neg (by rw [out0]; exact fun z => z hj)]
      rw [freeP_congr j (fun b hb => ⟨h1 b (by omega) (by omega), h2 b (by omega)⟩)]
      rw [Int32.sub_add_cancel]
    · rw [ih h (fun b hb => h1 b (by omega)) (fun b hb => h2 b (by omega)), h2 n (by omega)]
      have : pfX8_isOut_r gr' n = pfX8_isOut_r gr n := by unfold pfX8_isOut_r; rw [h1 n (by omega) (by omega)]
      rw [this]
      by_cases c : pfX8_isOut_r gr n = 0
      · rw [if_pos c, if_pos c]
      · rw [if_neg c, if_neg c, Int32.sub_eq_add_neg, Int32.sub_eq_add_neg, Int32.add_assoc, Int32.add_assoc, Int32.add_comm (gr (3668 + j))]
