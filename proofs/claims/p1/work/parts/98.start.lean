set_option maxHeartbeats 8000000 in
set_option maxRecDepth 100000 in
/-- THE LAW, from its entry -/
theorem whole_start {p : Program} {e : Env} {s : State} {m : MethodId} {below : List Frame} {meth : Method} {c : Code} (l : Launch) (hflags : l.flags = flags0) {b L : Nat} {xs : Nat → Int32} (hL : L ≤ 6) (C0 : lw_At p s m meth c b L xs) : W p l e room_1 s m #[Value.ref b] below meth c s.heap [] 0 0 (lw_Z below #[Value.ref b] s) (entryFrame m ([Value.ref b] : List Value).toArray 4) := by
  obtain ⟨hx, hb, hr, hml, hown, hts, hX, hbl, hlocks, hgv⟩ := id C0
  have hA : ∀ q : Nat, s.heap.size ≤ q → (lwA s) q := fun _ h => h
  have hbA : ¬ (lwA s) b := Nat.not_le.mpr hbl
  obtain ⟨c0, iS0, hKn0⟩ := u_known (C := RX0) (T := TX0) (N := 3) (n := 3) hts wsL_law_x0 (hts (.instantiable RX0 3) (wsL_law_in _ wm_17))
  obtain ⟨c1, iS1, hKn1⟩ := u_known (C := RX1) (T := TX1) (N := 5) (n := 5) hts wsL_law_x1 (hts (.instantiable RX1 5) (wsL_law_in _ wm_31))
  obtain ⟨c2, iS2, hKn2⟩ := u_known (C := RX2) (T := TX2) (N := 7) (n := 7) hts wsL_law_x2 (hts (.instantiable RX2 7) (wsL_law_in _ wm_21))
  obtain ⟨c3, iS3, hKn3⟩ := u_known (C := RX3) (T := TX3) (N := 12) (n := 12) hts wsL_law_x3 (hts (.instantiable RX3 12) (wsL_law_in _ wm_961))
  obtain ⟨c4, iS4, hKn4⟩ := u_known (C := RX4) (T := TX4) (N := 9) (n := 9) hts wsL_law_x4 (hts (.instantiable RX4 9) (wsL_law_in _ wm_35))
  obtain ⟨c5, iS5, hKn5⟩ := u_known (C := RX5) (T := TX5) (N := 3) (n := 3) hts wsL_law_x5 (hts (.instantiable RX5 3) (wsL_law_in _ wm_13))
  obtain ⟨c6, iS6, hKn6⟩ := u_known (C := RX6) (T := TX6) (N := 11) (n := 11) hts wsL_law_x6 (hts (.instantiable RX6 11) (wsL_law_in _ wm_26))
  obtain ⟨c7, iS7, hKn7⟩ := u_known (C := RX7) (T := TX7) (N := 13) (n := 13) hts wsL_law_x7 (hts (.instantiable RX7 13) (wsL_law_in _ wm_1))
  obtain ⟨c8, iS8, hKn8⟩ := u_known (C := RX8) (T := TX8) (N := 43) (n := 43) hts wsL_law_x8 (hts (.instantiable RX8 43) (wsL_law_in _ wm_4))
  obtain ⟨dC, dI, hKc⟩ : ∃ (dC : Nat → ClassId) (dI : Nat → Nat → Nat), ∀ (k : Nat) (q : vw_C), vwCl[k]? = some q → u_Kn s q.1 q.2.1 q.2.2 (dC k) (dI k) := by
    refine ⟨fun k => match k with | 0 => c0 | 1 => c1 | 2 => c2 | 3 => c3 | 4 => c4 | 5 => c5 | 6 => c6 | 7 => c7 | _ => c8, fun k => match k with | 0 => iS0 | 1 => iS1 | 2 => iS2 | 3 => iS3 | 4 => iS4 | 5 => iS5 | 6 => iS6 | 7 => iS7 | _ => iS8, ?_⟩
    intro k q hq
    match k, hq with
    | 0, hq => cases hq; exact hKn0
    | 1, hq => cases hq; exact hKn1
    | 2, hq => cases hq; exact hKn2
    | 3, hq => cases hq; exact hKn3
    | 4, hq => cases hq; exact hKn4
    | 5, hq => cases hq; exact hKn5
    | 6, hq => cases hq; exact hKn6
    | 7, hq => cases hq; exact hKn7
    | 8, hq => cases hq; exact hKn8
    | k + 9, hq => simp [vwCl] at hq
  obtain ⟨cI, kI, pI, fI, gI, eI⟩ := Cond.arrayClass_spec (hts (.arrayClass .int) (wsL_law_in _ wm_38))
  obtain ⟨cB, kB, pB, fB, gB, eB⟩ := Cond.arrayClass_spec (hts (.arrayClass .byte) (wsL_law_in _ wm_126))
  obtain ⟨cZ, kZ, pZ, fZ, gZ, eZ⟩ := Cond.arrayClass_spec (hts (.arrayClass .boolean) (wsL_law_in _ wm_54))
  obtain ⟨pR, cR, kR, hR1, -, hR3, hR4, hR5⟩ := Cond.arrayOver_spec (n := RX2) (hts (.arrayOver (.object RX2)) (by decide +kernel))
  have hK : va_K (dC, dI) vwCl (zT cI cB cZ cR) s := by
    refine ⟨hKc, fun k q h => ?_⟩
    match k, h with
    | 0, h => cases h; exact ⟨fun n z => ⟨fun k h => (by cases h), kI, gI, pI, eI⟩, fI⟩
    | 1, h => cases h; exact ⟨fun n z => ⟨fun k h => (by cases h), kB, gB, pB, eB⟩, fB⟩
    | 2, h => cases h; exact ⟨fun n z => ⟨fun k h => (by cases h), kZ, gZ, pZ, eZ⟩, fZ⟩
    | 3, h => cases h; exact ⟨fun n z => ⟨fun k h => (by cases h), kR, hR3, pR, hR4⟩, kR, pR, hR3, hR4, hR1, hR5⟩
    | k + 4, h => simp [zT] at h
  have hN : zN s := ⟨va_Nw.of rfl (hts (.methodLinkNest RX7 9 yX5_init RX7) (by decide +kernel)), va_Nw.of rfl (hts (.methodLinkNest RX7 18 yX0_init RX7) (by decide +kernel)), va_Nw.of rfl (hts (.methodLinkNest RX7 36 yX6_init RX7) (by decide +kernel)), va_Nw.of rfl (hts (.methodLinkNest RX7 46 yX1_init RX7) (by decide +kernel)), va_Nw.of rfl (hts (.methodLinkNest RX7 53 yX4_init RX7) (by decide +kernel)), va_Nw.of rfl (hts (.methodLinkNest RX7 242 yX3_init RX7) (by decide +kernel)), va_Nw.of rfl (hts (.methodLinkNest RX3 23 yX4_init RX7) (by decide +kernel)), va_AO.of (hts (.arrayOver (.object RX2)) (by decide +kernel))⟩
  have hS : va_S (lwA s) s.heap s.heap [] := va_S.rf
  have hP : va_P (dC, dI) vwCl [] s.heap := fun k q h => by simp at h
  have hD : va_D (lwA s) [] := ⟨fun i j p q h => by simp at h, fun k q h => by simp at h⟩
  have hl := lv_entry ([.ref b]) (n := 4) (Nat.le_of_ble_eq_true rfl)
  rw [lg_entry_eq]
  generalize (lg_sl ([.ref b]) ++ List.replicate (4 - (lg_sl ([.ref b])).length) Slot.unset).toArray = ls at hl ⊢
  have hl : lv_has ls 4 [(0, .ref b)] := hl
  obtain ⟨H, hH⟩ : ∃ H, H = s.heap := ⟨_, rfl⟩
  have hP : va_P (dC, dI) vwCl [] H := by rw [hH]; exact hP
  have hS : va_S (lwA s) s.heap H [] := by rw [hH]; exact va_S.rf
  have hW0 : W p l e room_1 s m #[Value.ref b] below meth c H [] 0 0 (lw_Z below #[Value.ref b] s) (F0 m 0 ls []) := by
    refine va_new (ci := 7) (fs := [.null, .null, .null, .null, .null, .null, .null, .null, .null, .int 0, .int 0, .int 0, .null]) (C := RX7) (T := TX7) (N := 13) hx hb hts wsL_law_x7 tyX7 tyX7_ok hown (hts _ (wsL_law_in _ wm_0)) (hts _ (wsL_law_in _ wm_1)) (hts _ (wsL_law_in _ wm_2)) hK hP hD hS hA rfl (fun j hj => by match j, hj with
        | 0, _ => rfl
        | 1, _ => rfl
        | 2, _ => rfl
        | 3, _ => rfl
        | 4, _ => rfl
        | 5, _ => rfl
        | 6, _ => rfl
        | 7, _ => rfl
        | 8, _ => rfl
        | 9, _ => rfl
        | 10, _ => rfl
        | 11, _ => rfl
        | 12, _ => rfl
        | j + 13, hj => omega) (Nat.le_of_ble_eq_true rfl) (Nat.le_of_ble_eq_true rfl) dL_law_0 (fun x H hP hD hS => ?_)
    have hP : va_P (dC, dI) vwCl [(x, .inr (7, [.null, .null, .null, .null, .null, .null, .null, .null, .null, .int 0, .int 0, .int 0, .null]))] H := hP
    have hD : va_D (lwA s) [(x, .inr (7, [.null, .null, .null, .null, .null, .null, .null, .null, .null, .int 0, .int 0, .int 0, .null]))] := hD
    refine lv_dup hx hb dL_law_3 rfl ?_
    refine zcIv (As := []) (rest := [.ref x]) (wr := []) ⟨hx, hb, hml, hown, hts⟩ (kkX7_init l dC dI cI cB cZ cR H.size x) (cwI 0 hts (zgIL wm_8) rfl rfl rfl (hts _ (wsL_law_in _ wm_2)) (hts _ (wsL_law_in _ wm_6)) (hts _ (wsL_law_in _ wm_7)) rfl (by decide +kernel) ⟨Nat.le_of_ble_eq_true rfl, Nat.le_of_ble_eq_true rfl⟩) hN hK hP hD hS hA [0] [] rfl rfl ⟨rfl, rfl⟩ (by decide) rfl hl.1 rfl (Nat.le_of_ble_eq_true rfl) dL_law_4 ⟨Nat.le_of_ble_eq_true rfl, Nat.le_of_ble_eq_true rfl⟩ (fun u hu H locs hP hD hS => ?_)
    obtain ⟨xa0, xa1, xa2, xa3, xa4, xa5, xa6, xa7, xa8, xa9, xa10, xa11, xa12, xa13, xa14, xa15, xa16, xa17, xa18, xa19, xa20, xa21, xa22, xa23⟩ := u
    have hP : va_P (dC, dI) vwCl [(x, .inr (7, [.ref xa0, .ref xa2, .ref xa5, .ref xa13, .ref xa14, .ref xa16, .ref xa18, .ref xa22, .ref xa23, .int 0, .int (-1), .int 0, .null])), (xa0, .inr (5, [.ref xa1, .int 0, .int 0])), (xa1, .inl (cI, 100, .inl (fun _ => 0))), (xa2, .inr (0, [.ref xa3, .ref xa4, .int 0])), (xa3, .inl (cI, 8, .inl (gl [0, 0, 0, 0, 0, 0, 0, 0]))), (xa4, .inl (cZ, 8, .inl (fun _ => 0))), (xa5, .inr (2, [.ref xa7, .ref xa8, .ref xa9, .ref xa10, .ref xa11, .ref xa12, .ref xa6])), (xa6, .inl (cI, 4000, .inl (fun _ => 0))), (xa7, .inl (cI, 22, .inl (gl [0, 0, 0, 0, 4, 0, 0, 0, 0, 0, 0, 0, (-1), (-1), 0, 0, 0, 0, 0, 4, 0, 16]))), (xa8, .inl (cI, 120, .inl (fun _ => 0))), (xa9, .inl (cI, 5, .inl (gl [4, 0, 0, 0, 0]))), (xa10, .inl (cI, 24, .inl (gl [(-1), (-1), (-1), (-1), (-1), (-1), (-1), (-1), (-1), (-1), (-1), (-1), (-1), (-1), (-1), (-1), (-1), (-1), (-1), (-1), (-1), (-1), (-1), (-1)]))), (xa11, .inl (cI, 8, .inl (gl [(-1), (-1), (-1), (-1), (-1), (-1), (-1), (-1)]))), (xa12, .inl (cI, 5, .inl (gl [(-1), (-1), (-1), (-1), (-1)]))), (xa13, .inl (cR, 2, .inr (.inr (.inr (.inr (fun _ => none)))))), (xa14, .inr (6, [.ref xa15, .int 0, .int 0, .int 0, .int 0, .int 0, .int 0, .int (-1), .int (-1), .int 0, .int 0])), (xa15, .inl (cI, 4, .inl (gl [0, 0, 0, 0]))), (xa16, .inr (6, [.ref xa17, .int 0, .int 0, .int 0, .int 0, .int 0, .int 0, .int (-1), .int (-1), .int 0, .int 0])), (xa17, .inl (cI, 4, .inl (gl [0, 0, 0, 0]))), (xa18, .inr (1, [.ref xa19, .ref xa20, .ref xa21, .int 0, .int 0])), (xa19, .inl (cI, 8, .inl (gl [0, 0, 0, 0, 0, 0, 0, 0]))), (xa20, .inl (cI, 5, .inl (gl [0, 0, 0, 0, 0]))), (xa21, .inl (cI, 8, .inl (gl [0, 0, 0, 0, 0, 0, 0, 0]))), (xa22, .inr (4, [.int 0, .int 0, .int 0, .int 0, .int 0, .int 0, .int 0, .int 0, .int 0])), (xa23, .inl (cI, 8, .inl (gl [0, 0, 0, 0, 0, 0, 0, 0])))] H := hP
    have hD : va_D (lwA s) [(x, .inr (7, [.ref xa0, .ref xa2, .ref xa5, .ref xa13, .ref xa14, .ref xa16, .ref xa18, .ref xa22, .ref xa23, .int 0, .int (-1), .int 0, .null])), (xa0, .inr (5, [.ref xa1, .int 0, .int 0])), (xa1, .inl (cI, 100, .inl (fun _ => 0))), (xa2, .inr (0, [.ref xa3, .ref xa4, .int 0])), (xa3, .inl (cI, 8, .inl (gl [0, 0, 0, 0, 0, 0, 0, 0]))), (xa4, .inl (cZ, 8, .inl (fun _ => 0))), (xa5, .inr (2, [.ref xa7, .ref xa8, .ref xa9, .ref xa10, .ref xa11, .ref xa12, .ref xa6])), (xa6, .inl (cI, 4000, .inl (fun _ => 0))), (xa7, .inl (cI, 22, .inl (gl [0, 0, 0, 0, 4, 0, 0, 0, 0, 0, 0, 0, (-1), (-1), 0, 0, 0, 0, 0, 4, 0, 16]))), (xa8, .inl (cI, 120, .inl (fun _ => 0))), (xa9, .inl (cI, 5, .inl (gl [4, 0, 0, 0, 0]))), (xa10, .inl (cI, 24, .inl (gl [(-1), (-1), (-1), (-1), (-1), (-1), (-1), (-1), (-1), (-1), (-1), (-1), (-1), (-1), (-1), (-1), (-1), (-1), (-1), (-1), (-1), (-1), (-1), (-1)]))), (xa11, .inl (cI, 8, .inl (gl [(-1), (-1), (-1), (-1), (-1), (-1), (-1), (-1)]))), (xa12, .inl (cI, 5, .inl (gl [(-1), (-1), (-1), (-1), (-1)]))), (xa13, .inl (cR, 2, .inr (.inr (.inr (.inr (fun _ => none)))))), (xa14, .inr (6, [.ref xa15, .int 0, .int 0, .int 0, .int 0, .int 0, .int 0, .int (-1), .int (-1), .int 0, .int 0])), (xa15, .inl (cI, 4, .inl (gl [0, 0, 0, 0]))), (xa16, .inr (6, [.ref xa17, .int 0, .int 0, .int 0, .int 0, .int 0, .int 0, .int (-1), .int (-1), .int 0, .int 0])), (xa17, .inl (cI, 4, .inl (gl [0, 0, 0, 0]))), (xa18, .inr (1, [.ref xa19, .ref xa20, .ref xa21, .int 0, .int 0])), (xa19, .inl (cI, 8, .inl (gl [0, 0, 0, 0, 0, 0, 0, 0]))), (xa20, .inl (cI, 5, .inl (gl [0, 0, 0, 0, 0]))), (xa21, .inl (cI, 8, .inl (gl [0, 0, 0, 0, 0, 0, 0, 0]))), (xa22, .inr (4, [.int 0, .int 0, .int 0, .int 0, .int 0, .int 0, .int 0, .int 0, .int 0])), (xa23, .inl (cI, 8, .inl (gl [0, 0, 0, 0, 0, 0, 0, 0])))] := hD
    refine lv_astore_n (lv' := [(1, .ref x), (0, .ref b)]) hx hb dL_law_7 rfl hl (by decide) rfl (fun ls hl => ?_)
    refine va_new (ci := 8) (fs := [.null, .int 0, .int 0, .null, .null, .null, .null, .int 0, .int 0, .int 0, .int 0, .null, .null, .int 0, .int 0, .int 0, .int 0, .int 0, .int 0, .int 0, .int 0, .int 0, .null, .int 0, .null, .null, .null, .int 0, .null, .null, .null, .null, .int 0, .int 0, .int 0, .int 0, .int 0, .int 0, .int 0, .null, .int 0, .int 0, .int 0]) (C := RX8) (T := TX8) (N := 43) hx hb hts wsL_law_x8 tyX8 tyX8_ok hown (hts _ (wsL_law_in _ wm_3)) (hts _ (wsL_law_in _ wm_4)) (hts _ (wsL_law_in _ wm_5)) hK hP hD hS hA rfl (fun j hj => by match j, hj with
        | 0, _ => rfl
        | 1, _ => rfl
        | 2, _ => rfl
        | 3, _ => rfl
        | 4, _ => rfl
        | 5, _ => rfl
        | 6, _ => rfl
        | 7, _ => rfl
        | 8, _ => rfl
        | 9, _ => rfl
        | 10, _ => rfl
        | 11, _ => rfl
        | 12, _ => rfl
        | 13, _ => rfl
        | 14, _ => rfl
        | 15, _ => rfl
        | 16, _ => rfl
        | 17, _ => rfl
        | 18, _ => rfl
        | 19, _ => rfl
        | 20, _ => rfl
        | 21, _ => rfl
        | 22, _ => rfl
        | 23, _ => rfl
        | 24, _ => rfl
        | 25, _ => rfl
        | 26, _ => rfl
        | 27, _ => rfl
        | 28, _ => rfl
        | 29, _ => rfl
        | 30, _ => rfl
        | 31, _ => rfl
        | 32, _ => rfl
        | 33, _ => rfl
        | 34, _ => rfl
        | 35, _ => rfl
        | 36, _ => rfl
        | 37, _ => rfl
        | 38, _ => rfl
        | 39, _ => rfl
        | 40, _ => rfl
        | 41, _ => rfl
        | 42, _ => rfl
        | j + 43, hj => omega) (Nat.le_of_ble_eq_true rfl) (Nat.le_of_ble_eq_true rfl) dL_law_8 (fun y H hP hD hS => ?_)
    have hP : va_P (dC, dI) vwCl [(x, .inr (7, [.ref xa0, .ref xa2, .ref xa5, .ref xa13, .ref xa14, .ref xa16, .ref xa18, .ref xa22, .ref xa23, .int 0, .int (-1), .int 0, .null])), (xa0, .inr (5, [.ref xa1, .int 0, .int 0])), (xa1, .inl (cI, 100, .inl (fun _ => 0))), (xa2, .inr (0, [.ref xa3, .ref xa4, .int 0])), (xa3, .inl (cI, 8, .inl (gl [0, 0, 0, 0, 0, 0, 0, 0]))), (xa4, .inl (cZ, 8, .inl (fun _ => 0))), (xa5, .inr (2, [.ref xa7, .ref xa8, .ref xa9, .ref xa10, .ref xa11, .ref xa12, .ref xa6])), (xa6, .inl (cI, 4000, .inl (fun _ => 0))), (xa7, .inl (cI, 22, .inl (gl [0, 0, 0, 0, 4, 0, 0, 0, 0, 0, 0, 0, (-1), (-1), 0, 0, 0, 0, 0, 4, 0, 16]))), (xa8, .inl (cI, 120, .inl (fun _ => 0))), (xa9, .inl (cI, 5, .inl (gl [4, 0, 0, 0, 0]))), (xa10, .inl (cI, 24, .inl (gl [(-1), (-1), (-1), (-1), (-1), (-1), (-1), (-1), (-1), (-1), (-1), (-1), (-1), (-1), (-1), (-1), (-1), (-1), (-1), (-1), (-1), (-1), (-1), (-1)]))), (xa11, .inl (cI, 8, .inl (gl [(-1), (-1), (-1), (-1), (-1), (-1), (-1), (-1)]))), (xa12, .inl (cI, 5, .inl (gl [(-1), (-1), (-1), (-1), (-1)]))), (xa13, .inl (cR, 2, .inr (.inr (.inr (.inr (fun _ => none)))))), (xa14, .inr (6, [.ref xa15, .int 0, .int 0, .int 0, .int 0, .int 0, .int 0, .int (-1), .int (-1), .int 0, .int 0])), (xa15, .inl (cI, 4, .inl (gl [0, 0, 0, 0]))), (xa16, .inr (6, [.ref xa17, .int 0, .int 0, .int 0, .int 0, .int 0, .int 0, .int (-1), .int (-1), .int 0, .int 0])), (xa17, .inl (cI, 4, .inl (gl [0, 0, 0, 0]))), (xa18, .inr (1, [.ref xa19, .ref xa20, .ref xa21, .int 0, .int 0])), (xa19, .inl (cI, 8, .inl (gl [0, 0, 0, 0, 0, 0, 0, 0]))), (xa20, .inl (cI, 5, .inl (gl [0, 0, 0, 0, 0]))), (xa21, .inl (cI, 8, .inl (gl [0, 0, 0, 0, 0, 0, 0, 0]))), (xa22, .inr (4, [.int 0, .int 0, .int 0, .int 0, .int 0, .int 0, .int 0, .int 0, .int 0])), (xa23, .inl (cI, 8, .inl (gl [0, 0, 0, 0, 0, 0, 0, 0]))), (y, .inr (8, [.null, .int 0, .int 0, .null, .null, .null, .null, .int 0, .int 0, .int 0, .int 0, .null, .null, .int 0, .int 0, .int 0, .int 0, .int 0, .int 0, .int 0, .int 0, .int 0, .null, .int 0, .null, .null, .null, .int 0, .null, .null, .null, .null, .int 0, .int 0, .int 0, .int 0, .int 0, .int 0, .int 0, .null, .int 0, .int 0, .int 0]))] H := hP
    have hD : va_D (lwA s) [(x, .inr (7, [.ref xa0, .ref xa2, .ref xa5, .ref xa13, .ref xa14, .ref xa16, .ref xa18, .ref xa22, .ref xa23, .int 0, .int (-1), .int 0, .null])), (xa0, .inr (5, [.ref xa1, .int 0, .int 0])), (xa1, .inl (cI, 100, .inl (fun _ => 0))), (xa2, .inr (0, [.ref xa3, .ref xa4, .int 0])), (xa3, .inl (cI, 8, .inl (gl [0, 0, 0, 0, 0, 0, 0, 0]))), (xa4, .inl (cZ, 8, .inl (fun _ => 0))), (xa5, .inr (2, [.ref xa7, .ref xa8, .ref xa9, .ref xa10, .ref xa11, .ref xa12, .ref xa6])), (xa6, .inl (cI, 4000, .inl (fun _ => 0))), (xa7, .inl (cI, 22, .inl (gl [0, 0, 0, 0, 4, 0, 0, 0, 0, 0, 0, 0, (-1), (-1), 0, 0, 0, 0, 0, 4, 0, 16]))), (xa8, .inl (cI, 120, .inl (fun _ => 0))), (xa9, .inl (cI, 5, .inl (gl [4, 0, 0, 0, 0]))), (xa10, .inl (cI, 24, .inl (gl [(-1), (-1), (-1), (-1), (-1), (-1), (-1), (-1), (-1), (-1), (-1), (-1), (-1), (-1), (-1), (-1), (-1), (-1), (-1), (-1), (-1), (-1), (-1), (-1)]))), (xa11, .inl (cI, 8, .inl (gl [(-1), (-1), (-1), (-1), (-1), (-1), (-1), (-1)]))), (xa12, .inl (cI, 5, .inl (gl [(-1), (-1), (-1), (-1), (-1)]))), (xa13, .inl (cR, 2, .inr (.inr (.inr (.inr (fun _ => none)))))), (xa14, .inr (6, [.ref xa15, .int 0, .int 0, .int 0, .int 0, .int 0, .int 0, .int (-1), .int (-1), .int 0, .int 0])), (xa15, .inl (cI, 4, .inl (gl [0, 0, 0, 0]))), (xa16, .inr (6, [.ref xa17, .int 0, .int 0, .int 0, .int 0, .int 0, .int 0, .int (-1), .int (-1), .int 0, .int 0])), (xa17, .inl (cI, 4, .inl (gl [0, 0, 0, 0]))), (xa18, .inr (1, [.ref xa19, .ref xa20, .ref xa21, .int 0, .int 0])), (xa19, .inl (cI, 8, .inl (gl [0, 0, 0, 0, 0, 0, 0, 0]))), (xa20, .inl (cI, 5, .inl (gl [0, 0, 0, 0, 0]))), (xa21, .inl (cI, 8, .inl (gl [0, 0, 0, 0, 0, 0, 0, 0]))), (xa22, .inr (4, [.int 0, .int 0, .int 0, .int 0, .int 0, .int 0, .int 0, .int 0, .int 0])), (xa23, .inl (cI, 8, .inl (gl [0, 0, 0, 0, 0, 0, 0, 0]))), (y, .inr (8, [.null, .int 0, .int 0, .null, .null, .null, .null, .int 0, .int 0, .int 0, .int 0, .null, .null, .int 0, .int 0, .int 0, .int 0, .int 0, .int 0, .int 0, .int 0, .int 0, .null, .int 0, .null, .null, .null, .int 0, .null, .null, .null, .null, .int 0, .int 0, .int 0, .int 0, .int 0, .int 0, .int 0, .null, .int 0, .int 0, .int 0]))] := hD
    refine lv_dup hx hb dL_law_11 rfl ?_
    refine zcIv (As := []) (rest := [.ref y]) (wr := [(x, .inr (7, [.ref xa0, .ref xa2, .ref xa5, .ref xa13, .ref xa14, .ref xa16, .ref xa18, .ref xa22, .ref xa23, .int 0, .int (-1), .int 0, .null])), (xa0, .inr (5, [.ref xa1, .int 0, .int 0])), (xa1, .inl (cI, 100, .inl (fun _ => 0))), (xa2, .inr (0, [.ref xa3, .ref xa4, .int 0])), (xa3, .inl (cI, 8, .inl (gl [0, 0, 0, 0, 0, 0, 0, 0]))), (xa4, .inl (cZ, 8, .inl (fun _ => 0))), (xa5, .inr (2, [.ref xa7, .ref xa8, .ref xa9, .ref xa10, .ref xa11, .ref xa12, .ref xa6])), (xa6, .inl (cI, 4000, .inl (fun _ => 0))), (xa7, .inl (cI, 22, .inl (gl [0, 0, 0, 0, 4, 0, 0, 0, 0, 0, 0, 0, (-1), (-1), 0, 0, 0, 0, 0, 4, 0, 16]))), (xa8, .inl (cI, 120, .inl (fun _ => 0))), (xa9, .inl (cI, 5, .inl (gl [4, 0, 0, 0, 0]))), (xa10, .inl (cI, 24, .inl (gl [(-1), (-1), (-1), (-1), (-1), (-1), (-1), (-1), (-1), (-1), (-1), (-1), (-1), (-1), (-1), (-1), (-1), (-1), (-1), (-1), (-1), (-1), (-1), (-1)]))), (xa11, .inl (cI, 8, .inl (gl [(-1), (-1), (-1), (-1), (-1), (-1), (-1), (-1)]))), (xa12, .inl (cI, 5, .inl (gl [(-1), (-1), (-1), (-1), (-1)]))), (xa13, .inl (cR, 2, .inr (.inr (.inr (.inr (fun _ => none)))))), (xa14, .inr (6, [.ref xa15, .int 0, .int 0, .int 0, .int 0, .int 0, .int 0, .int (-1), .int (-1), .int 0, .int 0])), (xa15, .inl (cI, 4, .inl (gl [0, 0, 0, 0]))), (xa16, .inr (6, [.ref xa17, .int 0, .int 0, .int 0, .int 0, .int 0, .int 0, .int (-1), .int (-1), .int 0, .int 0])), (xa17, .inl (cI, 4, .inl (gl [0, 0, 0, 0]))), (xa18, .inr (1, [.ref xa19, .ref xa20, .ref xa21, .int 0, .int 0])), (xa19, .inl (cI, 8, .inl (gl [0, 0, 0, 0, 0, 0, 0, 0]))), (xa20, .inl (cI, 5, .inl (gl [0, 0, 0, 0, 0]))), (xa21, .inl (cI, 8, .inl (gl [0, 0, 0, 0, 0, 0, 0, 0]))), (xa22, .inr (4, [.int 0, .int 0, .int 0, .int 0, .int 0, .int 0, .int 0, .int 0, .int 0])), (xa23, .inl (cI, 8, .inl (gl [0, 0, 0, 0, 0, 0, 0, 0])))]) ⟨hx, hb, hml, hown, hts⟩ (kkX8_init l dC dI cI cB cZ cR H.size y) (cwI 0 hts (zgIL wm_124) rfl rfl rfl (hts _ (wsL_law_in _ wm_5)) (hts _ (wsL_law_in _ wm_122)) (hts _ (wsL_law_in _ wm_123)) rfl (by decide +kernel) ⟨Nat.le_of_ble_eq_true rfl, Nat.le_of_ble_eq_true rfl⟩) hN hK hP hD hS hA [25] [0, 1, 2, 3, 4, 5, 6, 7, 8, 9, 10, 11, 12, 13, 14, 15, 16, 17, 18, 19, 20, 21, 22, 23, 24] rfl rfl ⟨rfl, rfl⟩ (by decide) rfl hl.1 rfl (Nat.le_of_ble_eq_true rfl) dL_law_12 ⟨Nat.le_of_ble_eq_true rfl, Nat.le_of_ble_eq_true rfl⟩ (fun u hu H locs hP hD hS => ?_)
    obtain ⟨ya0, ya1, ya2, ya3, ya4, ya5, ya6, ya7, ya8, ya9, ya10, ya11, ya12, ya13, ya14, ya15⟩ := u
    have hP : va_P (dC, dI) vwCl [(x, .inr (7, [.ref xa0, .ref xa2, .ref xa5, .ref xa13, .ref xa14, .ref xa16, .ref xa18, .ref xa22, .ref xa23, .int 0, .int (-1), .int 0, .null])), (xa0, .inr (5, [.ref xa1, .int 0, .int 0])), (xa1, .inl (cI, 100, .inl (fun _ => 0))), (xa2, .inr (0, [.ref xa3, .ref xa4, .int 0])), (xa3, .inl (cI, 8, .inl (gl [0, 0, 0, 0, 0, 0, 0, 0]))), (xa4, .inl (cZ, 8, .inl (fun _ => 0))), (xa5, .inr (2, [.ref xa7, .ref xa8, .ref xa9, .ref xa10, .ref xa11, .ref xa12, .ref xa6])), (xa6, .inl (cI, 4000, .inl (fun _ => 0))), (xa7, .inl (cI, 22, .inl (gl [0, 0, 0, 0, 4, 0, 0, 0, 0, 0, 0, 0, (-1), (-1), 0, 0, 0, 0, 0, 4, 0, 16]))), (xa8, .inl (cI, 120, .inl (fun _ => 0))), (xa9, .inl (cI, 5, .inl (gl [4, 0, 0, 0, 0]))), (xa10, .inl (cI, 24, .inl (gl [(-1), (-1), (-1), (-1), (-1), (-1), (-1), (-1), (-1), (-1), (-1), (-1), (-1), (-1), (-1), (-1), (-1), (-1), (-1), (-1), (-1), (-1), (-1), (-1)]))), (xa11, .inl (cI, 8, .inl (gl [(-1), (-1), (-1), (-1), (-1), (-1), (-1), (-1)]))), (xa12, .inl (cI, 5, .inl (gl [(-1), (-1), (-1), (-1), (-1)]))), (xa13, .inl (cR, 2, .inr (.inr (.inr (.inr (fun _ => none)))))), (xa14, .inr (6, [.ref xa15, .int 0, .int 0, .int 0, .int 0, .int 0, .int 0, .int (-1), .int (-1), .int 0, .int 0])), (xa15, .inl (cI, 4, .inl (gl [0, 0, 0, 0]))), (xa16, .inr (6, [.ref xa17, .int 0, .int 0, .int 0, .int 0, .int 0, .int 0, .int (-1), .int (-1), .int 0, .int 0])), (xa17, .inl (cI, 4, .inl (gl [0, 0, 0, 0]))), (xa18, .inr (1, [.ref xa19, .ref xa20, .ref xa21, .int 0, .int 0])), (xa19, .inl (cI, 8, .inl (gl [0, 0, 0, 0, 0, 0, 0, 0]))), (xa20, .inl (cI, 5, .inl (gl [0, 0, 0, 0, 0]))), (xa21, .inl (cI, 8, .inl (gl [0, 0, 0, 0, 0, 0, 0, 0]))), (xa22, .inr (4, [.int 0, .int 0, .int 0, .int 0, .int 0, .int 0, .int 0, .int 0, .int 0])), (xa23, .inl (cI, 8, .inl (gl [0, 0, 0, 0, 0, 0, 0, 0]))), (y, .inr (8, [.ref ya0, .int 0, .int 0, .ref ya15, .ref ya1, .ref ya2, .ref ya3, .int 0, .int 0, .int 0, .int 0, .ref ya4, .ref ya5, .int 0, .int 0, .int 0, .int 0, .int 0, .int 0, .int 0, .int 0, .int (-1), .ref ya6, .int 0, .ref ya7, .ref ya8, .ref ya9, .int 0, .ref ya10, .ref ya11, .ref ya12, .ref ya13, .int 0, .int 0, .int 0, .int 0, .int 0, .int 0, .int 0, .ref ya14, .int 0, .int 0, .int 0])), (ya0, .inl (cB, 100, .inl (fun _ => 0))), (ya1, .inl (cI, 9336, .inl (fun _ => 0))), (ya2, .inl (cZ, 2, .inl (fun _ => 0))), (ya3, .inl (cI, 8, .inl (gl [0, 0, 0, 0, 0, 0, 0, 0]))), (ya4, .inl (cI, 8, .inl (gl [0, 0, 0, 0, 0, 0, 0, 0]))), (ya5, .inl (cI, 8, .inl (gl [0, 0, 0, 0, 0, 0, 0, 0]))), (ya6, .inl (cI, 8, .inl (gl [0, 0, 0, 0, 0, 0, 0, 0]))), (ya7, .inl (cI, 16, .inl (gl [0, 0, 0, 0, 0, 0, 0, 0, 0, 0, 0, 0, 0, 0, 0, 0]))), (ya8, .inl (cI, 8, .inl (gl [0, 0, 0, 0, 0, 0, 0, 0]))), (ya9, .inl (cI, 2, .inl (gl [0, 0]))), (ya10, .inl (cI, 4001, .inl (fun _ => 0))), (ya11, .inl (cI, 4001, .inl (fun _ => 0))), (ya12, .inl (cI, 16384, .inl (fun _ => 0))), (ya13, .inl (cB, 4001, .inl (fun _ => 0))), (ya14, .inl (cB, 4001, .inl (fun _ => 0))), (ya15, .inl (cI, 4668, .inl (jn [0, 4, 0, 0, 0, 0, 0, 0, 0, 0, 0, 0, 0, 0, 0, 0, 0, (-1), 0, 0, 0, 0, 0, 0] R0)))] H := hP
    have hD : va_D (lwA s) [(x, .inr (7, [.ref xa0, .ref xa2, .ref xa5, .ref xa13, .ref xa14, .ref xa16, .ref xa18, .ref xa22, .ref xa23, .int 0, .int (-1), .int 0, .null])), (xa0, .inr (5, [.ref xa1, .int 0, .int 0])), (xa1, .inl (cI, 100, .inl (fun _ => 0))), (xa2, .inr (0, [.ref xa3, .ref xa4, .int 0])), (xa3, .inl (cI, 8, .inl (gl [0, 0, 0, 0, 0, 0, 0, 0]))), (xa4, .inl (cZ, 8, .inl (fun _ => 0))), (xa5, .inr (2, [.ref xa7, .ref xa8, .ref xa9, .ref xa10, .ref xa11, .ref xa12, .ref xa6])), (xa6, .inl (cI, 4000, .inl (fun _ => 0))), (xa7, .inl (cI, 22, .inl (gl [0, 0, 0, 0, 4, 0, 0, 0, 0, 0, 0, 0, (-1), (-1), 0, 0, 0, 0, 0, 4, 0, 16]))), (xa8, .inl (cI, 120, .inl (fun _ => 0))), (xa9, .inl (cI, 5, .inl (gl [4, 0, 0, 0, 0]))), (xa10, .inl (cI, 24, .inl (gl [(-1), (-1), (-1), (-1), (-1), (-1), (-1), (-1), (-1), (-1), (-1), (-1), (-1), (-1), (-1), (-1), (-1), (-1), (-1), (-1), (-1), (-1), (-1), (-1)]))), (xa11, .inl (cI, 8, .inl (gl [(-1), (-1), (-1), (-1), (-1), (-1), (-1), (-1)]))), (xa12, .inl (cI, 5, .inl (gl [(-1), (-1), (-1), (-1), (-1)]))), (xa13, .inl (cR, 2, .inr (.inr (.inr (.inr (fun _ => none)))))), (xa14, .inr (6, [.ref xa15, .int 0, .int 0, .int 0, .int 0, .int 0, .int 0, .int (-1), .int (-1), .int 0, .int 0])), (xa15, .inl (cI, 4, .inl (gl [0, 0, 0, 0]))), (xa16, .inr (6, [.ref xa17, .int 0, .int 0, .int 0, .int 0, .int 0, .int 0, .int (-1), .int (-1), .int 0, .int 0])), (xa17, .inl (cI, 4, .inl (gl [0, 0, 0, 0]))), (xa18, .inr (1, [.ref xa19, .ref xa20, .ref xa21, .int 0, .int 0])), (xa19, .inl (cI, 8, .inl (gl [0, 0, 0, 0, 0, 0, 0, 0]))), (xa20, .inl (cI, 5, .inl (gl [0, 0, 0, 0, 0]))), (xa21, .inl (cI, 8, .inl (gl [0, 0, 0, 0, 0, 0, 0, 0]))), (xa22, .inr (4, [.int 0, .int 0, .int 0, .int 0, .int 0, .int 0, .int 0, .int 0, .int 0])), (xa23, .inl (cI, 8, .inl (gl [0, 0, 0, 0, 0, 0, 0, 0]))), (y, .inr (8, [.ref ya0, .int 0, .int 0, .ref ya15, .ref ya1, .ref ya2, .ref ya3, .int 0, .int 0, .int 0, .int 0, .ref ya4, .ref ya5, .int 0, .int 0, .int 0, .int 0, .int 0, .int 0, .int 0, .int 0, .int (-1), .ref ya6, .int 0, .ref ya7, .ref ya8, .ref ya9, .int 0, .ref ya10, .ref ya11, .ref ya12, .ref ya13, .int 0, .int 0, .int 0, .int 0, .int 0, .int 0, .int 0, .ref ya14, .int 0, .int 0, .int 0])), (ya0, .inl (cB, 100, .inl (fun _ => 0))), (ya1, .inl (cI, 9336, .inl (fun _ => 0))), (ya2, .inl (cZ, 2, .inl (fun _ => 0))), (ya3, .inl (cI, 8, .inl (gl [0, 0, 0, 0, 0, 0, 0, 0]))), (ya4, .inl (cI, 8, .inl (gl [0, 0, 0, 0, 0, 0, 0, 0]))), (ya5, .inl (cI, 8, .inl (gl [0, 0, 0, 0, 0, 0, 0, 0]))), (ya6, .inl (cI, 8, .inl (gl [0, 0, 0, 0, 0, 0, 0, 0]))), (ya7, .inl (cI, 16, .inl (gl [0, 0, 0, 0, 0, 0, 0, 0, 0, 0, 0, 0, 0, 0, 0, 0]))), (ya8, .inl (cI, 8, .inl (gl [0, 0, 0, 0, 0, 0, 0, 0]))), (ya9, .inl (cI, 2, .inl (gl [0, 0]))), (ya10, .inl (cI, 4001, .inl (fun _ => 0))), (ya11, .inl (cI, 4001, .inl (fun _ => 0))), (ya12, .inl (cI, 16384, .inl (fun _ => 0))), (ya13, .inl (cB, 4001, .inl (fun _ => 0))), (ya14, .inl (cB, 4001, .inl (fun _ => 0))), (ya15, .inl (cI, 4668, .inl (jn [0, 4, 0, 0, 0, 0, 0, 0, 0, 0, 0, 0, 0, 0, 0, 0, 0, (-1), 0, 0, 0, 0, 0, 0] R0)))] := hD
    refine lv_astore_n (lv' := [(2, .ref y), (1, .ref x), (0, .ref b)]) hx hb dL_law_15 rfl hl (by decide) rfl (fun ls hl => ?_)
    refine lv_iconst (v := 0) hx hb dL_law_16 (by decide) ?_
    refine lv_istore_n (lv' := [(3, .int 0), (2, .ref y), (1, .ref x), (0, .ref b)]) hx hb dL_law_17 rfl hl (by decide) rfl (fun ls hl => ?_)
    refine W.widen (k := 42) (n := 50996) (Nat.le_of_ble_eq_true rfl) (Nat.le_of_ble_eq_true rfl) ?_
    refine lv_iload_n hx hb dL_law_18 rfl (lv_at hl 0 rfl) ?_
    refine lv_aload_n hx hb dL_law_19 rfl (lv_at hl 3 rfl) ?_
    refine va_slen hx hb hX hbl hbA hS dL_law_20 ?_
    refine lv_bipush (v := 6) hx hb dL_law_21 (by decide) ?_
    refine lv_isub hx hb dL_law_23 ?_
    rcases Nat.lt_or_ge L 6 with hL6 | hL6
    · refine lv_icmp_gt (tgt := 1126) hx hb dL_law_24 (by decide) (fun _ => ?_) (fun c => absurd (show nI L - nI 6 < 0 from pk_sneg (by decide) hL6) c)
      refine lv_iconst (v := 1) hx hb dL_law_1126 (by decide) ?_
      refine va_forget (fun q hq => hS.2.2 q hq) ?_
      refine W.widen (k := 600000) (n := 7302250) (Nat.le_of_ble_eq_true rfl) (Nat.le_of_ble_eq_true rfl) ?_
      exact lw_ret hx hb hr hlocks dL_law_1127
    obtain rfl : L = 6 := by omega
    refine lv_icmp_gt (tgt := 1126) hx hb dL_law_24 (by decide) (fun c => absurd c (by decide)) (fun _ => ?_)
    obtain ⟨x0, hx0⟩ : ∃ z, xs 0 = z := ⟨_, rfl⟩
    obtain ⟨x1, hx1⟩ : ∃ z, xs 1 = z := ⟨_, rfl⟩
    obtain ⟨x2, hx2⟩ : ∃ z, xs 2 = z := ⟨_, rfl⟩
    obtain ⟨x3, hx3⟩ : ∃ z, xs 3 = z := ⟨_, rfl⟩
    obtain ⟨x4, hx4⟩ : ∃ z, xs 4 = z := ⟨_, rfl⟩
    obtain ⟨x5, hx5⟩ : ∃ z, xs 5 = z := ⟨_, rfl⟩
    refine lv_aload_n hx hb dL_law_27 rfl (lv_at hl 3 rfl) ?_
    refine lv_iload_n hx hb dL_law_28 rfl (lv_at hl 0 rfl) ?_
    refine va_sld hx hb hX hbl hbA hS (zin tn_0 (Nat.le_of_ble_eq_true rfl)) dL_law_29 ?_
    refine tp (y := x0) (zrd xs tn_0 hx0) ?_
    refine lv_bipush (v := 63) hx hb dL_law_30 (by decide) ?_
    refine lv_iand hx hb dL_law_32 ?_
    by_cases c_0 : (x0 &&& 63) = 0
    · refine lv_tableIn (off := 159) (tgt := 192) hx hb dL_law_33 (by rw [c_0]; decide) (by rw [c_0]; decide) (by rw [c_0]; decide) (by decide) ?_
      exact law_c0 C0 hN hx1 hx2 hx3 hx4 hx5 hK hP hD hS hl
    by_cases c_1 : (x0 &&& 63) = 1
    · refine lv_tableIn (off := 222) (tgt := 255) hx hb dL_law_33 (by rw [c_1]; decide) (by rw [c_1]; decide) (by rw [c_1]; decide) (by decide) ?_
      exact law_c1 C0 hN hx1 hK hP hD hS hl
    by_cases c_2 : (x0 &&& 63) = 2
    · refine lv_tableIn (off := 245) (tgt := 278) hx hb dL_law_33 (by rw [c_2]; decide) (by rw [c_2]; decide) (by rw [c_2]; decide) (by decide) ?_
      exact law_c2 C0 hN hx1 hx2 hx3 hK hP hD hS hl
    by_cases c_3 : (x0 &&& 63) = 3
    · refine lv_tableIn (off := 288) (tgt := 321) hx hb dL_law_33 (by rw [c_3]; decide) (by rw [c_3]; decide) (by rw [c_3]; decide) (by decide) ?_
      exact law_c3 C0 hN hx1 hK hP hD hS hl
    by_cases c_4 : (x0 &&& 63) = 4
    · refine lv_tableIn (off := 311) (tgt := 344) hx hb dL_law_33 (by rw [c_4]; decide) (by rw [c_4]; decide) (by rw [c_4]; decide) (by decide) ?_
      exact law_c4 C0 hN  hK hP hD hS hl
    by_cases c_5 : (x0 &&& 63) = 5
    · refine lv_tableIn (off := 324) (tgt := 357) hx hb dL_law_33 (by rw [c_5]; decide) (by rw [c_5]; decide) (by rw [c_5]; decide) (by decide) ?_
      exact law_c5 C0 hN hx1 hx2 hK hP hD hS hl
    by_cases c_6 : (x0 &&& 63) = 6
    · refine lv_tableIn (off := 357) (tgt := 390) hx hb dL_law_33 (by rw [c_6]; decide) (by rw [c_6]; decide) (by rw [c_6]; decide) (by decide) ?_
      exact law_c6 C0 hN hx1 hx2 hK hP hD hS hl
    by_cases c_7 : (x0 &&& 63) = 7
    · refine lv_tableIn (off := 390) (tgt := 423) hx hb dL_law_33 (by rw [c_7]; decide) (by rw [c_7]; decide) (by rw [c_7]; decide) (by decide) ?_
      exact law_c7 C0 hN  hK hP hD hS hl
    by_cases c_8 : (x0 &&& 63) = 8
    · refine lv_tableIn (off := 403) (tgt := 436) hx hb dL_law_33 (by rw [c_8]; decide) (by rw [c_8]; decide) (by rw [c_8]; decide) (by decide) ?_
      exact law_c8 C0 hN  hK hP hD hS hl
    by_cases c_9 : (x0 &&& 63) = 9
    · refine lv_tableIn (off := 416) (tgt := 449) hx hb dL_law_33 (by rw [c_9]; decide) (by rw [c_9]; decide) (by rw [c_9]; decide) (by decide) ?_
      exact law_c9 C0 hN  hK hP hD hS hl
    by_cases c_10 : (x0 &&& 63) = 10
    · refine lv_tableIn (off := 429) (tgt := 462) hx hb dL_law_33 (by rw [c_10]; decide) (by rw [c_10]; decide) (by rw [c_10]; decide) (by decide) ?_
      exact law_c10 C0 hN  hK hP hD hS hl
    by_cases c_11 : (x0 &&& 63) = 11
    · refine lv_tableIn (off := 442) (tgt := 475) hx hb dL_law_33 (by rw [c_11]; decide) (by rw [c_11]; decide) (by rw [c_11]; decide) (by decide) ?_
      exact law_c11 C0 hN hx1 hx2 hK hP hD hS hl
    by_cases c_12 : (x0 &&& 63) = 12
    · refine lv_tableIn (off := 475) (tgt := 508) hx hb dL_law_33 (by rw [c_12]; decide) (by rw [c_12]; decide) (by rw [c_12]; decide) (by decide) ?_
      exact law_c12 C0 hN hx1 hx2 hK hP hD hS hl
    by_cases c_13 : (x0 &&& 63) = 13
    · refine lv_tableIn (off := 508) (tgt := 541) hx hb dL_law_33 (by rw [c_13]; decide) (by rw [c_13]; decide) (by rw [c_13]; decide) (by decide) ?_
      exact law_c13 C0 hN  hK hP hD hS hl
    by_cases c_14 : (x0 &&& 63) = 14
    · refine lv_tableIn (off := 521) (tgt := 554) hx hb dL_law_33 (by rw [c_14]; decide) (by rw [c_14]; decide) (by rw [c_14]; decide) (by decide) ?_
      exact law_c14 C0 hN hx1 hK hP hD hS hl
    by_cases c_15 : (x0 &&& 63) = 15
    · refine lv_tableIn (off := 544) (tgt := 577) hx hb dL_law_33 (by rw [c_15]; decide) (by rw [c_15]; decide) (by rw [c_15]; decide) (by decide) ?_
      exact law_c15 C0 hN hx1 hx2 hx3 hx4 hK hP hD hS hl
    by_cases c_16 : (x0 &&& 63) = 16
    · refine lv_tableIn (off := 597) (tgt := 630) hx hb dL_law_33 (by rw [c_16]; decide) (by rw [c_16]; decide) (by rw [c_16]; decide) (by decide) ?_
      exact law_c16 C0 hN hx1 hx2 hx3 hK hP hD hS hl
    by_cases c_17 : (x0 &&& 63) = 17
    · refine lv_tableIn (off := 640) (tgt := 673) hx hb dL_law_33 (by rw [c_17]; decide) (by rw [c_17]; decide) (by rw [c_17]; decide) (by decide) ?_
      exact law_c17 C0 hN hx1 hK hP hD hS hl
    by_cases c_18 : (x0 &&& 63) = 18
    · refine lv_tableIn (off := 663) (tgt := 696) hx hb dL_law_33 (by rw [c_18]; decide) (by rw [c_18]; decide) (by rw [c_18]; decide) (by decide) ?_
      exact law_c18 C0 hN hx1 hx2 hK hP hD hS hl
    by_cases c_19 : (x0 &&& 63) = 19
    · refine lv_tableIn (off := 696) (tgt := 729) hx hb dL_law_33 (by rw [c_19]; decide) (by rw [c_19]; decide) (by rw [c_19]; decide) (by decide) ?_
      exact law_c19 C0 hN hx1 hx2 hK hP hD hS hl
    by_cases c_20 : (x0 &&& 63) = 20
    · refine lv_tableIn (off := 729) (tgt := 762) hx hb dL_law_33 (by rw [c_20]; decide) (by rw [c_20]; decide) (by rw [c_20]; decide) (by decide) ?_
      exact law_c20 C0 hN hx1 hK hP hD hS hl
    by_cases c_21 : (x0 &&& 63) = 21
    · refine lv_tableIn (off := 752) (tgt := 785) hx hb dL_law_33 (by rw [c_21]; decide) (by rw [c_21]; decide) (by rw [c_21]; decide) (by decide) ?_
      exact law_c21 C0 hN hx1 hK hP hD hS hl
    by_cases c_22 : (x0 &&& 63) = 22
    · refine lv_tableIn (off := 775) (tgt := 808) hx hb dL_law_33 (by rw [c_22]; decide) (by rw [c_22]; decide) (by rw [c_22]; decide) (by decide) ?_
      exact law_c22 C0 hN hx1 hK hP hD hS hl
    by_cases c_23 : (x0 &&& 63) = 23
    · refine lv_tableIn (off := 798) (tgt := 831) hx hb dL_law_33 (by rw [c_23]; decide) (by rw [c_23]; decide) (by rw [c_23]; decide) (by decide) ?_
      exact law_c23 C0 hN hx1 hx2 hx3 hK hP hD hS hl
    by_cases c_24 : (x0 &&& 63) = 24
    · refine lv_tableIn (off := 841) (tgt := 874) hx hb dL_law_33 (by rw [c_24]; decide) (by rw [c_24]; decide) (by rw [c_24]; decide) (by decide) ?_
      exact law_c24 C0 hN hx1 hK hP hD hS hl
    by_cases c_25 : (x0 &&& 63) = 25
    · refine lv_tableIn (off := 864) (tgt := 897) hx hb dL_law_33 (by rw [c_25]; decide) (by rw [c_25]; decide) (by rw [c_25]; decide) (by decide) ?_
      exact law_c25 C0 hN  hK hP hD hS hl
    by_cases c_26 : (x0 &&& 63) = 26
    · refine lv_tableIn (off := 877) (tgt := 910) hx hb dL_law_33 (by rw [c_26]; decide) (by rw [c_26]; decide) (by rw [c_26]; decide) (by decide) ?_
      exact law_c26 C0 hN  hK hP hD hS hl
    by_cases c_27 : (x0 &&& 63) = 27
    · refine lv_tableIn (off := 890) (tgt := 923) hx hb dL_law_33 (by rw [c_27]; decide) (by rw [c_27]; decide) (by rw [c_27]; decide) (by decide) ?_
      exact law_c27 C0 hN hx1 hK hP hD hS hl
    by_cases c_28 : (x0 &&& 63) = 28
    · refine lv_tableIn (off := 913) (tgt := 946) hx hb dL_law_33 (by rw [c_28]; decide) (by rw [c_28]; decide) (by rw [c_28]; decide) (by decide) ?_
      exact law_c28 C0 hN  hK hP hD hS hl
    by_cases c_29 : (x0 &&& 63) = 29
    · refine lv_tableIn (off := 926) (tgt := 959) hx hb dL_law_33 (by rw [c_29]; decide) (by rw [c_29]; decide) (by rw [c_29]; decide) (by decide) ?_
      exact law_c29 C0 hN  hK hP hD hS hl
    by_cases c_30 : (x0 &&& 63) = 30
    · refine lv_tableIn (off := 939) (tgt := 972) hx hb dL_law_33 (by rw [c_30]; decide) (by rw [c_30]; decide) (by rw [c_30]; decide) (by decide) ?_
      exact law_c30 C0 hN hx1 hK hP hD hS hl
    by_cases c_31 : (x0 &&& 63) = 31
    · refine lv_tableIn (off := 962) (tgt := 995) hx hb dL_law_33 (by rw [c_31]; decide) (by rw [c_31]; decide) (by rw [c_31]; decide) (by decide) ?_
      by_cases h0 : x1 = 0
      · exact law_c31_0 C0 hN (hx1.trans h0) hK hP hD hS hl
      by_cases h1 : x1 = 1
      · exact law_c31_1 C0 hN (hx1.trans h1) hK hP hD hS hl
      exact law_c31_n C0 hN hx1 h0 h1 hK hP hD hS hl
    by_cases c_32 : (x0 &&& 63) = 32
    · refine lv_tableIn (off := 985) (tgt := 1018) hx hb dL_law_33 (by rw [c_32]; decide) (by rw [c_32]; decide) (by rw [c_32]; decide) (by decide) ?_
      by_cases h0 : x1 < 1
      · exact law_c32_lo C0 hN hx1 hx2 h0 hK hP hD hS hl
      by_cases h1 : x1 ≤ 60
      · obtain ⟨nn, en, hnn, hn1⟩ := dn_of h0 h1
        exact law_c32_m C0 hN (hx1.trans en) hx2 hnn hn1 hK hP hD hS hl
      exact law_c32_hi C0 hN hx1 hx2 h0 h1 hK hP hD hS hl
    by_cases c_33 : (x0 &&& 63) = 33
    · refine lv_tableIn (off := 1018) (tgt := 1051) hx hb dL_law_33 (by rw [c_33]; decide) (by rw [c_33]; decide) (by rw [c_33]; decide) (by decide) ?_
      by_cases h0 : x1 = 0
      · exact law_c33_0 C0 hN (hx1.trans h0) hK hP hD hS hl
      by_cases h1 : x1 = 1
      · exact law_c33_1 C0 hN (hx1.trans h1) hK hP hD hS hl
      by_cases h2 : x1 < 0
      · exact law_c33_neg C0 hN hx1 h2 hK hP hD hS hl
      have h3 : ¬ x1 < 2 := by
        simp only [Int32.lt_iff_toInt_lt, ← Int32.toInt_inj, ti_0, ti_1, ti_2] at *; omega
      have h4 : 1 < x1 := by
        simp only [Int32.lt_iff_toInt_lt, ← Int32.toInt_inj, ti_0, ti_1, ti_2] at *; omega
      exact law_c33_big C0 hN hx1 h2 h3 h4 hK hP hD hS hl
    by_cases c_34 : (x0 &&& 63) = 34
    · refine lv_tableIn (off := 1041) (tgt := 1074) hx hb dL_law_33 (by rw [c_34]; decide) (by rw [c_34]; decide) (by rw [c_34]; decide) (by decide) ?_
      exact law_c34 C0 hN hx1 hK hP hD hS hl
    by_cases c_35 : (x0 &&& 63) = 35
    · refine lv_tableIn (off := 1064) (tgt := 1097) hx hb dL_law_33 (by rw [c_35]; decide) (by rw [c_35]; decide) (by rw [c_35]; decide) (by decide) ?_
      exact law_c35 C0 hN hx1 hK hP hD hS hl
    have hout : (x0 &&& 63).toInt < 0 ∨ 35 < (x0 &&& 63).toInt := by
      have z0 := lv_neT (a := 0) c_0 (by decide)
      have z1 := lv_neT (a := 1) c_1 (by decide)
      have z2 := lv_neT (a := 2) c_2 (by decide)
      have z3 := lv_neT (a := 3) c_3 (by decide)
      have z4 := lv_neT (a := 4) c_4 (by decide)
      have z5 := lv_neT (a := 5) c_5 (by decide)
      have z6 := lv_neT (a := 6) c_6 (by decide)
      have z7 := lv_neT (a := 7) c_7 (by decide)
      have z8 := lv_neT (a := 8) c_8 (by decide)
      have z9 := lv_neT (a := 9) c_9 (by decide)
      have z10 := lv_neT (a := 10) c_10 (by decide)
      have z11 := lv_neT (a := 11) c_11 (by decide)
      have z12 := lv_neT (a := 12) c_12 (by decide)
      have z13 := lv_neT (a := 13) c_13 (by decide)
      have z14 := lv_neT (a := 14) c_14 (by decide)
      have z15 := lv_neT (a := 15) c_15 (by decide)
      have z16 := lv_neT (a := 16) c_16 (by decide)
      have z17 := lv_neT (a := 17) c_17 (by decide)
      have z18 := lv_neT (a := 18) c_18 (by decide)
      have z19 := lv_neT (a := 19) c_19 (by decide)
      have z20 := lv_neT (a := 20) c_20 (by decide)
      have z21 := lv_neT (a := 21) c_21 (by decide)
      have z22 := lv_neT (a := 22) c_22 (by decide)
      have z23 := lv_neT (a := 23) c_23 (by decide)
      have z24 := lv_neT (a := 24) c_24 (by decide)
      have z25 := lv_neT (a := 25) c_25 (by decide)
      have z26 := lv_neT (a := 26) c_26 (by decide)
      have z27 := lv_neT (a := 27) c_27 (by decide)
      have z28 := lv_neT (a := 28) c_28 (by decide)
      have z29 := lv_neT (a := 29) c_29 (by decide)
      have z30 := lv_neT (a := 30) c_30 (by decide)
      have z31 := lv_neT (a := 31) c_31 (by decide)
      have z32 := lv_neT (a := 32) c_32 (by decide)
      have z33 := lv_neT (a := 33) c_33 (by decide)
      have z34 := lv_neT (a := 34) c_34 (by decide)
      have z35 := lv_neT (a := 35) c_35 (by decide)
      omega
    refine lv_tableOut (tgt := 1120) hx hb dL_law_33 hout (by decide) ?_
    exact law_end C0 hS (Nat.le_of_ble_eq_true rfl) (Nat.le_of_ble_eq_true rfl) (lv_sub hl [3, 0] rfl)
  rw [hH] at hW0
  exact hW0
