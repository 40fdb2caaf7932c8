theorem znl {a b : Int32} (h : ¬ a < b) : b ≤ a := by
  rw [Int32.le_iff_toInt_le]; rw [Int32.lt_iff_toInt_lt] at h; omega
theorem zge {a b : Int32} (h : b ≤ a) : ¬ a < b := by
  rw [Int32.le_iff_toInt_le] at h; rw [Int32.lt_iff_toInt_lt]; omega
theorem znl2 {a b : Int32} (h : a < b) : ¬ b ≤ a := by
  rw [Int32.le_iff_toInt_le]; rw [Int32.lt_iff_toInt_lt] at h; omega
theorem zge2 {a b : Int32} (h : ¬ b ≤ a) : a < b := by
  rw [Int32.le_iff_toInt_le] at h; rw [Int32.lt_iff_toInt_lt]; omega
theorem zinS {i N : Int32} {n : Nat} (h0 : ¬ i < 0) (h1 : ¬ N ≤ i) (hN : N.toInt ≤ n) : vp_in i n := by
  rw [Int32.lt_iff_toInt_lt, Int32.toInt_zero] at h0
  rw [Int32.le_iff_toInt_le] at h1
  exact vp_in_iff.mpr ⟨by omega, by omega⟩
theorem zinT {i N : Int32} {n : Nat} (h0 : ¬ i < 0) (h1 : ¬ N < i) (hN : N.toInt < n) : vp_in i n := by
  rw [Int32.lt_iff_toInt_lt, Int32.toInt_zero] at h0
  rw [Int32.lt_iff_toInt_lt] at h1
  exact vp_in_iff.mpr ⟨by omega, by omega⟩
theorem zof {i N : Int32} {n : Nat} (h0 : ¬ i < 0) (h1 : ¬ N ≤ i) (hN : N.toInt = n) : ∃ j : Nat, j < n ∧ i = nI j := by
  obtain ⟨j, hj, rfl⟩ := nI_of h0
  refine ⟨j, ?_, rfl⟩
  rw [Int32.le_iff_toInt_le, nI_toInt hj] at h1
  omega
theorem zofT {i N : Int32} {n : Nat} (h0 : ¬ i < 0) (h1 : ¬ N < i) (hN : N.toInt = n) : ∃ j : Nat, j ≤ n ∧ i = nI j := by
  obtain ⟨j, hj, rfl⟩ := nI_of h0
  refine ⟨j, ?_, rfl⟩
  rw [Int32.lt_iff_toInt_lt, nI_toInt hj] at h1
  omega
theorem zinC {t i w : Int32} (t0 : ¬ t < 0) (t1 : ¬ 5 ≤ t) (i0 : ¬ i < 0) (i1 : ¬ 8 ≤ i) (w0 : ¬ w < 0) (w1 : ¬ 2 < w) : vp_in ((((t * 8) + i) * 3) + w) 120 := by
  obtain ⟨a, ha, rfl⟩ := zof (n := 5) t0 t1 (by decide)
  obtain ⟨b, hb, rfl⟩ := zof (n := 8) i0 i1 (by decide)
  obtain ⟨c, hc, rfl⟩ := zofT (n := 2) w0 w1 (by decide)
  rw [show (8 : Int32) = nI 8 by decide, show (3 : Int32) = nI 3 by decide, pk_mul, nI_add, pk_mul, nI_add]
  exact vp_in_nI (by omega) (by decide)
theorem zinR {i w : Int32} (i0 : ¬ i < 0) (i1 : ¬ 8 ≤ i) (w0 : ¬ w < 0) (w1 : ¬ 2 < w) : vp_in ((i * 3) + w) 24 := by
  obtain ⟨b, hb, rfl⟩ := zof (n := 8) i0 i1 (by decide)
  obtain ⟨c, hc, rfl⟩ := zofT (n := 2) w0 w1 (by decide)
  rw [show (3 : Int32) = nI 3 by decide, pk_mul, nI_add]
  exact vp_in_nI (by omega) (by decide)
theorem zinB {i w : Int32} (i0 : ¬ i < 0) (i1 : ¬ 500 ≤ i) (w0 : ¬ w < 0) (w1 : ¬ 8 ≤ w) : vp_in ((i * 8) + w) 4000 := by
  obtain ⟨b, hb, rfl⟩ := zof (n := 500) i0 i1 (by decide)
  obtain ⟨c, hc, rfl⟩ := zof (n := 8) w0 w1 (by decide)
  rw [show (8 : Int32) = nI 8 by decide, pk_mul, nI_add]
  exact vp_in_nI (by omega) (by decide)
/-- a row filled up to i -/
def fz (F : Nat → Int32) (v : Int32) (i : Nat) : Nat → Int32 := fun k => if k < i then v else F k
theorem fz_0 (F : Nat → Int32) (v : Int32) : F = fz F v 0 := by funext k; simp [fz]
theorem fz_step (F : Nat → Int32) (v : Int32) {i : Nat} (h : i < 2 ^ 31) : upd (fz F v i) (nI i).toNatClampNeg v = fz F v (i + 1) := by
  rw [nI_clamp h]
  funext k
  unfold upd fz
  by_cases h1 : k = i
  · subst h1; simp
  · rw [if_neg h1]
    by_cases h2 : k < i
    · rw [if_pos h2, if_pos (by omega)]
    · rw [if_neg h2, if_neg (by omega)]
theorem nI_geL {N : Int32} {n i : Nat} (hN : N = nI n) (hn : n < 2 ^ 31) (h : i < n) : ¬ N ≤ nI i := by rw [hN]; exact nI_ge h hn
theorem gl_out {L : List Int32} {k : Nat} (h : L.length ≤ k) : gl L k = 0 := by unfold gl; simp [List.getD, h]
theorem fz_gl {F : Nat → Int32} {v : Int32} {n : Nat} {L : List Int32} (hF : ∀ k, n ≤ k → F k = 0) (hL : List.replicate n v = L) : fz F v n = gl L := by
  subst hL
  funext k
  unfold fz
  by_cases h : k < n
  · rw [if_pos h]; simp [gl, List.getD, h]
  · rw [if_neg h, hF k (by omega), gl_out (by simp; omega)]
theorem upd_z {k : Nat} : upd (fun _ => (0 : Int32)) k 0 = (fun _ => 0) := by
  funext j; unfold upd; split <;> rfl
theorem gl_zero {n : Nat} {L : List Int32} (hL : List.replicate n 0 = L) : (fun _ : Nat => (0 : Int32)) = gl L := by
  subst hL
  funext k
  unfold gl
  by_cases h : k < n
  · simp [List.getD, h]
  · simp [List.getD, h]
/-- the reference's rows from 144 on, set to -1 up to i -/
def fy (G : Nat → Int32) (i : Nat) : Nat → Int32 := fun k => if 144 ≤ k ∧ k < i then -1 else G k
theorem fy_0 (G : Nat → Int32) : G = fy G 144 := by
  funext k; unfold fy; rw [if_neg (by omega)]
theorem fy_step {L : List Int32} (G : Nat → Int32) {i : Nat} (h : i < 2 ^ 31) (h2 : 144 ≤ i) : upd (jn L (fy G i)) (nI i).toNatClampNeg (-1) = jn L (fy G (i + 1)) := by
  rw [nI_clamp h]
  funext k
  unfold upd jn fy
  by_cases h1 : k = i
  · subst h1; rw [if_pos rfl, if_neg (by omega), if_pos (by omega)]
  · rw [if_neg h1]
    by_cases h3 : k < 24
    · rw [if_pos h3, if_pos h3]
    · rw [if_neg h3, if_neg h3]
      by_cases h4 : 144 ≤ k ∧ k < i
      · rw [if_pos h4, if_pos (by omega)]
      · rw [if_neg h4, if_neg (by omega)]
/-- the rest of the reference's row as it is at first -/
def R0 : Nat → Int32 := fun k => if 144 ≤ k ∧ k < 168 then -1 else 0
theorem R0_eq : fy (fz (fun _ => 0) 0 4668) 168 = R0 := by
  funext k; unfold fy fz R0; simp
theorem jn_self {F : Nat → Int32} {L : List Int32} (h : ∀ k, k < 24 → F k = L.getD k 0) : F = jn L F := by
  funext k; unfold jn; split
  · exact h k (by assumption)
  · rfl
theorem fz_j (F : Nat → Int32) : fz F 0 4668 = jn [0, 0, 0, 0, 0, 0, 0, 0, 0, 0, 0, 0, 0, 0, 0, 0, 0, 0, 0, 0, 0, 0, 0, 0] (fz F 0 4668) := by
  refine jn_self (fun k hk => ?_)
  unfold fz
  rw [if_pos (by omega)]
  match k, hk with
  | 0, _ => rfl
  | 1, _ => rfl
  | 2, _ => rfl
  | 3, _ => rfl
  | 4, _ => rfl
  | 5, _ => rfl
  | 6, _ => rfl
  | 7, _ => rfl
  | 8, _ => rfl
  | 9, _ => rfl
  | 10, _ => rfl
  | 11, _ => rfl
  | 12, _ => rfl
  | 13, _ => rfl
  | 14, _ => rfl
  | 15, _ => rfl
  | 16, _ => rfl
  | 17, _ => rfl
  | 18, _ => rfl
  | 19, _ => rfl
  | 20, _ => rfl
  | 21, _ => rfl
  | 22, _ => rfl
  | 23, _ => rfl
  | k + 24, hk => omega
