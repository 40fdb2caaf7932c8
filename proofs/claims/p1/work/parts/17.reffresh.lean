theorem zup_R0 {L : List Int32} {i : Int32} {k : Nat} {q : Prop} (hi : i.toNatClampNeg = k ∧ q) (h24 : ¬ k < 24) (h : k < 144) : upd (jn L R0) i.toNatClampNeg 0 = jn L R0 := by
  rw [hi.1]
  funext j
  unfold upd jn R0
  by_cases e : j = k
  · subst e; rw [if_pos rfl, if_neg h24, if_neg (by omega)]
  · rw [if_neg e]
theorem R0_lo {k : Nat} (h : k < 144) : R0 k = 0 := by unfold R0; rw [if_neg (by omega)]
theorem R0_mid {k : Nat} (h : 144 ≤ k) (h2 : k < 168) : R0 k = -1 := by unfold R0; rw [if_pos ⟨h, h2⟩]
theorem ts_in {a : Int32} (h : ¬ pfX8_isIn_r a 0 4 = 0) : vp_in (19 + a) 4668 := by
  obtain ⟨j, hj, rfl⟩ := isIn_lt (by decide) h
  have e : (4 : Int32).toInt = 4 := by decide
  rw [show (19 : Int32) = nI 19 by decide, nI_add]
  exact vp_in_nI (by omega) (by decide)
theorem ts_rd {a : Int32} (h : ¬ pfX8_isIn_r a 0 4 = 0) : jn [0, 4, 0, 0, 0, 0, 0, 0, 0, 0, 0, 0, 0, 0, 0, 0, 0, (-1), 0, 0, 0, 0, 0, 0] R0 (19 + a).toNatClampNeg = 0 := by
  obtain ⟨j, hj, rfl⟩ := isIn_lt (by decide) h
  have e : (4 : Int32).toInt = 4 := by decide
  rw [e] at hj
  rcases (show j = 0 ∨ j = 1 ∨ j = 2 ∨ j = 3 ∨ j = 4 by omega) with rfl | rfl | rfl | rfl | rfl <;> decide

set_option maxHeartbeats 4000000 in
set_option maxRecDepth 100000 in
theorem kkX8_reset (l : Launch) (dC : Nat → ClassId) (dI : Nat → Nat → Nat) (cI cB cZ cR : ClassId) (sz : Nat) (y : Nat) (yt : Nat) (yr : Nat) (yk : Nat) (yz : Nat) (yp : Nat) (yl : Nat) (yw : Nat) (yd : Nat) (ys : Nat) (yn : Nat) (ym : Nat) (yf : Nat) (yo : Nat) (yh : Nat) (yb : Nat) (yx : Nat) : Met l yX8_reset (.code yX8_reset cX8_reset 2 (some .int) :: wsL_law) ({ frames := 1, cells := 0, slots := 0, locals := 21 }) (zPc dC dI (zT cI cB cZ cR) [.ref y] sz [(y, .inr (8, [.ref yt, .int 0, .int 0, .ref yr, .ref yk, .ref yz, .ref yp, .int 0, .int 0, .int 0, .int 0, .ref yl, .ref yw, .int 0, .int 0, .int 0, .int 0, .int 0, .int 0, .int 0, .int 0, .int (-1), .ref yd, .int 0, .ref ys, .ref yn, .ref ym, .int 0, .ref yf, .ref yo, .ref yh, .ref yb, .int 0, .int 0, .int 0, .int 0, .int 0, .int 0, .int 0, .ref yx, .int 0, .int 0, .int 0])), (yr, .inl (cI, 4668, .inl (jn [0, 4, 0, 0, 0, 0, 0, 0, 0, 0, 0, 0, 0, 0, 0, 0, 0, (-1), 0, 0, 0, 0, 0, 0] R0)))]) (va_Qi (fun (r : Int32) (_ : Unit) => r = 0) (fun _ : Unit => zB dC dI (zT cI cB cZ cR) (va_A [(y, .inr (8, [.ref yt, .int 0, .int 0, .ref yr, .ref yk, .ref yz, .ref yp, .int 0, .int 0, .int 0, .int 0, .ref yl, .ref yw, .int 0, .int 0, .int 0, .int 0, .int 0, .int 0, .int 0, .int 0, .int (-1), .ref yd, .int 0, .ref ys, .ref yn, .ref ym, .int 0, .ref yf, .ref yo, .ref yh, .ref yb, .int 0, .int 0, .int 0, .int 0, .int 0, .int 0, .int 0, .ref yx, .int 0, .int 0, .int 0])), (yr, .inl (cI, 4668, .inl (jn [0, 4, 0, 0, 0, 0, 0, 0, 0, 0, 0, 0, 0, 0, 0, 0, 0, (-1), 0, 0, 0, 0, 0, 0] R0)))] sz) [(y, .inr (8, [.ref yt, .int 0, .int 0, .ref yr, .ref yk, .ref yz, .ref yp, .int 0, .int 0, .int 0, .int 0, .ref yl, .ref yw, .int 0, .int 0, .int 0, .int 0, .int 0, .int 0, .int 0, .int 0, .int (-1), .ref yd, .int 0, .ref ys, .ref yn, .ref ym, .int 0, .ref yf, .ref yo, .ref yh, .ref yb, .int 0, .int 0, .int 0, .int 0, .int 0, .int 0, .int 0, .ref yx, .int 0, .int 0, .int 0])), (yr, .inl (cI, 4668, .inl (jn [0, 4, 0, 0, 0, 0, 0, 0, 0, 0, 0, 0, 0, 0, 0, 0, 0, (-1), 0, 0, 0, 0, 0, 0] (fy R0 168))))]) (va_A [(y, .inr (8, [.ref yt, .int 0, .int 0, .ref yr, .ref yk, .ref yz, .ref yp, .int 0, .int 0, .int 0, .int 0, .ref yl, .ref yw, .int 0, .int 0, .int 0, .int 0, .int 0, .int 0, .int 0, .int 0, .int (-1), .ref yd, .int 0, .ref ys, .ref yn, .ref ym, .int 0, .ref yf, .ref yo, .ref yh, .ref yb, .int 0, .int 0, .int 0, .int 0, .int 0, .int 0, .int 0, .ref yx, .int 0, .int 0, .int 0])), (yr, .inl (cI, 4668, .inl (jn [0, 4, 0, 0, 0, 0, 0, 0, 0, 0, 0, 0, 0, 0, 0, 0, 0, (-1), 0, 0, 0, 0, 0, 0] R0)))] sz)) 0 0 (va_A [(y, .inr (8, [.ref yt, .int 0, .int 0, .ref yr, .ref yk, .ref yz, .ref yp, .int 0, .int 0, .int 0, .int 0, .ref yl, .ref yw, .int 0, .int 0, .int 0, .int 0, .int 0, .int 0, .int 0, .int 0, .int (-1), .ref yd, .int 0, .ref ys, .ref yn, .ref ym, .int 0, .ref yf, .ref yo, .ref yh, .ref yb, .int 0, .int 0, .int 0, .int 0, .int 0, .int 0, .int 0, .ref yx, .int 0, .int 0, .int 0])), (yr, .inl (cI, 4668, .inl (jn [0, 4, 0, 0, 0, 0, 0, 0, 0, 0, 0, 0, 0, 0, 0, 0, 0, (-1), 0, 0, 0, 0, 0, 0] R0)))] sz) := by
  refine Met.ofW (cc := cX8_reset) (maxL := 2) (ret := (some .int)) (by decide) rfl ?_
  intro p e s m args below meth c s₁ B hml hv
  obtain ⟨rfl, hsz, hP, hK, hD0, hN⟩ := hv
  have hx := B.exec
  have hb := B.bytes
  have hr := B.returns
  have hts := atoms_spec (ws := (.code yX8_reset cX8_reset 2 (some .int) :: wsL_law)) B.pre
  have hown : s.vm.findClass RX8 = some m.cls := findClass_of_methodNamed B.named
  have hlocks := B.notSynchronized
  have hinX8 : ∀ w ∈ u_ws RX8 TX8 43, w ∈ (.code yX8_reset cX8_reset 2 (some .int) :: wsL_law) := fun w h => List.mem_cons_of_mem _ (inlX8 w h)
  have k_0 := hts (.fieldLink RX8 267 "RingMarksModel" "drainedMany" "I") (List.mem_cons_of_mem _ wm_718)
  have k_1 := hts (.fieldLink RX8 13 "RingMarksModel" "\x72" "[I") (List.mem_cons_of_mem _ wm_128)
  subst hsz
  have hD := hD0.self (sz := s.heap.size)
  generalize hAe : va_A [(y, .inr (8, [.ref yt, .int 0, .int 0, .ref yr, .ref yk, .ref yz, .ref yp, .int 0, .int 0, .int 0, .int 0, .ref yl, .ref yw, .int 0, .int 0, .int 0, .int 0, .int 0, .int 0, .int 0, .int 0, .int (-1), .ref yd, .int 0, .ref ys, .ref yn, .ref ym, .int 0, .ref yf, .ref yo, .ref yh, .ref yb, .int 0, .int 0, .int 0, .int 0, .int 0, .int 0, .int 0, .ref yx, .int 0, .int 0, .int 0])), (yr, .inl (cI, 4668, .inl (jn [0, 4, 0, 0, 0, 0, 0, 0, 0, 0, 0, 0, 0, 0, 0, 0, 0, (-1), 0, 0, 0, 0, 0, 0] R0)))] s.heap.size = A at hD ⊢
  have hA : ∀ q : Nat, s.heap.size ≤ q → A q := fun q h => by rw [← hAe]; exact Or.inr h
  have hP : va_P (dC, dI) vwCl [(y, .inr (8, [.ref yt, .int 0, .int 0, .ref yr, .ref yk, .ref yz, .ref yp, .int 0, .int 0, .int 0, .int 0, .ref yl, .ref yw, .int 0, .int 0, .int 0, .int 0, .int 0, .int 0, .int 0, .int 0, .int (-1), .ref yd, .int 0, .ref ys, .ref yn, .ref ym, .int 0, .ref yf, .ref yo, .ref yh, .ref yb, .int 0, .int 0, .int 0, .int 0, .int 0, .int 0, .int 0, .ref yx, .int 0, .int 0, .int 0])), (yr, .inl (cI, 4668, .inl (jn [0, 4, 0, 0, 0, 0, 0, 0, 0, 0, 0, 0, 0, 0, 0, 0, 0, (-1), 0, 0, 0, 0, 0, 0] R0)))] s.heap := hP
  have hl := lv_entry ([.ref y]) (n := 2) (Nat.le_of_ble_eq_true rfl)
  rw [lg_entry_eq]
  generalize (lg_sl ([.ref y]) ++ List.replicate (2 - (lg_sl ([.ref y])).length) Slot.unset).toArray = ls at hl ⊢
  have hl : lv_has ls 2 [(0, .ref y)] := hl
  obtain ⟨H, hH⟩ : ∃ H, H = s.heap := ⟨_, rfl⟩
  rw [← hH] at hP ⊢
  have hS : va_S A s.heap H [] := by rw [hH]; exact va_S.rf
  refine lv_aload_n hx hb dX8_reset_0 rfl (lv_at hl 0 rfl) ?_
  refine lv_iconst (v := 0) hx hb dX8_reset_1 (by decide) ?_
  refine va_put (D := (dC, dI)) (ci := 8) (v := .int 0) (ty := tyX8 23) (C := RX8) (T := TX8) (N := 43) hx hb hts hinX8 tyX8 tyX8_ok nmX8 hown hK hP hD hS 0 rfl rfl 23 (by decide) k_0 (fun _ h9 => h9) rfl (by decide +kernel) rfl rfl (Nat.le_of_ble_eq_true rfl) dX8_reset_2 (fun H locs hP hD hS => ?_)
  have hP : va_P (dC, dI) vwCl [(y, .inr (8, [.ref yt, .int 0, .int 0, .ref yr, .ref yk, .ref yz, .ref yp, .int 0, .int 0, .int 0, .int 0, .ref yl, .ref yw, .int 0, .int 0, .int 0, .int 0, .int 0, .int 0, .int 0, .int 0, .int (-1), .ref yd, .int 0, .ref ys, .ref yn, .ref ym, .int 0, .ref yf, .ref yo, .ref yh, .ref yb, .int 0, .int 0, .int 0, .int 0, .int 0, .int 0, .int 0, .ref yx, .int 0, .int 0, .int 0])), (yr, .inl (cI, 4668, .inl (jn [0, 4, 0, 0, 0, 0, 0, 0, 0, 0, 0, 0, 0, 0, 0, 0, 0, (-1), 0, 0, 0, 0, 0, 0] R0)))] H := hP
  have hD : va_D A [(y, .inr (8, [.ref yt, .int 0, .int 0, .ref yr, .ref yk, .ref yz, .ref yp, .int 0, .int 0, .int 0, .int 0, .ref yl, .ref yw, .int 0, .int 0, .int 0, .int 0, .int 0, .int 0, .int 0, .int 0, .int (-1), .ref yd, .int 0, .ref ys, .ref yn, .ref ym, .int 0, .ref yf, .ref yo, .ref yh, .ref yb, .int 0, .int 0, .int 0, .int 0, .int 0, .int 0, .int 0, .ref yx, .int 0, .int 0, .int 0])), (yr, .inl (cI, 4668, .inl (jn [0, 4, 0, 0, 0, 0, 0, 0, 0, 0, 0, 0, 0, 0, 0, 0, 0, (-1), 0, 0, 0, 0, 0, 0] R0)))] := hD
  refine lv_iconst (v := 0) hx hb dX8_reset_5 (by decide) ?_
  refine lv_istore_n (lv' := [(1, .int 0), (0, .ref y)]) hx hb dX8_reset_6 rfl hl (by decide) rfl (fun ls hl => ?_)
  refine lv_iload_n hx hb dX8_reset_7 rfl (lv_at hl 0 rfl) ?_
  refine lv_aload_n hx hb dX8_reset_8 rfl (lv_at hl 1 rfl) ?_
  refine va_get (D := (dC, dI)) (ci := 8) (v := .ref yr) (C := RX8) (T := TX8) (N := 43) hx hb hts hinX8 hown hK hP 0 rfl rfl 3 (by decide) k_1 (fun _ h9 => h9) rfl dX8_reset_9 ?_
  refine lv_bipush (v := 16) hx hb dX8_reset_12 (by decide) ?_
  refine za_iald (v := 0) hx hb hK hP 1 0 rfl rfl (zin tn_16 (Nat.le_of_ble_eq_true rfl)) (zrd _ tn_16 rfl) dX8_reset_14 ?_
  refine lv_icmp_ge (tgt := 66) hx hb dX8_reset_15 (by decide) (fun _ => ?_) (fun c => absurd (by decide) c)
  refine lv_iconst (v := 3) hx hb dX8_reset_66 (by decide) ?_
  refine lv_istore_n (lv' := [(1, .int 3), (0, .ref y)]) hx hb dX8_reset_67 rfl hl (by decide) rfl (fun ls hl => ?_)
  refine lv_iload_n hx hb dX8_reset_68 rfl (lv_at hl 0 rfl) ?_
  refine lv_bipush (v := 14) hx hb dX8_reset_69 (by decide) ?_
  refine lv_icmp_ge (tgt := 87) hx hb dX8_reset_71 (by decide) (fun c => absurd c (by decide)) (fun _ => ?_)
  refine lv_aload_n hx hb dX8_reset_74 rfl (lv_at hl 1 rfl) ?_
  refine va_get (D := (dC, dI)) (ci := 8) (v := .ref yr) (C := RX8) (T := TX8) (N := 43) hx hb hts hinX8 hown hK hP 0 rfl rfl 3 (by decide) k_1 (fun _ h9 => h9) rfl dX8_reset_75 ?_
  refine lv_iload_n hx hb dX8_reset_78 rfl (lv_at hl 0 rfl) ?_
  refine lv_iconst (v := 0) hx hb dX8_reset_79 (by decide) ?_
  refine za_iast (f' := (jn [0, 4, 0, 0, 0, 0, 0, 0, 0, 0, 0, 0, 0, 0, 0, 0, 0, (-1), 0, 0, 0, 0, 0, 0] R0)) hx hb hK hP hD hS 1 0 rfl rfl (zin tn_3 (Nat.le_of_ble_eq_true rfl)) (zup_jl tn_3 (Nat.le_of_ble_eq_true rfl) (Nat.le_of_ble_eq_true rfl) rfl) dX8_reset_80 (fun H locs hP hD hS => ?_)
  have hP : va_P (dC, dI) vwCl [(y, .inr (8, [.ref yt, .int 0, .int 0, .ref yr, .ref yk, .ref yz, .ref yp, .int 0, .int 0, .int 0, .int 0, .ref yl, .ref yw, .int 0, .int 0, .int 0, .int 0, .int 0, .int 0, .int 0, .int 0, .int (-1), .ref yd, .int 0, .ref ys, .ref yn, .ref ym, .int 0, .ref yf, .ref yo, .ref yh, .ref yb, .int 0, .int 0, .int 0, .int 0, .int 0, .int 0, .int 0, .ref yx, .int 0, .int 0, .int 0])), (yr, .inl (cI, 4668, .inl (jn [0, 4, 0, 0, 0, 0, 0, 0, 0, 0, 0, 0, 0, 0, 0, 0, 0, (-1), 0, 0, 0, 0, 0, 0] R0)))] H := hP
  have hD : va_D A [(y, .inr (8, [.ref yt, .int 0, .int 0, .ref yr, .ref yk, .ref yz, .ref yp, .int 0, .int 0, .int 0, .int 0, .ref yl, .ref yw, .int 0, .int 0, .int 0, .int 0, .int 0, .int 0, .int 0, .int 0, .int (-1), .ref yd, .int 0, .ref ys, .ref yn, .ref ym, .int 0, .ref yf, .ref yo, .ref yh, .ref yb, .int 0, .int 0, .int 0, .int 0, .int 0, .int 0, .int 0, .ref yx, .int 0, .int 0, .int 0])), (yr, .inl (cI, 4668, .inl (jn [0, 4, 0, 0, 0, 0, 0, 0, 0, 0, 0, 0, 0, 0, 0, 0, 0, (-1), 0, 0, 0, 0, 0, 0] R0)))] := hD
  refine lv_iinc (v := 4) (lv' := [(1, .int 4), (0, .ref y)]) hx hb dX8_reset_81 hl (k := 0) rfl (by decide) (by decide) rfl (fun ls hl => ?_)
  refine lv_goto (tgt := 68) hx hb dX8_reset_84 (by decide) ?_
  refine lv_iload_n hx hb dX8_reset_68 rfl (lv_at hl 0 rfl) ?_
  refine lv_bipush (v := 14) hx hb dX8_reset_69 (by decide) ?_
  refine lv_icmp_ge (tgt := 87) hx hb dX8_reset_71 (by decide) (fun c => absurd c (by decide)) (fun _ => ?_)
  refine lv_aload_n hx hb dX8_reset_74 rfl (lv_at hl 1 rfl) ?_
  refine va_get (D := (dC, dI)) (ci := 8) (v := .ref yr) (C := RX8) (T := TX8) (N := 43) hx hb hts hinX8 hown hK hP 0 rfl rfl 3 (by decide) k_1 (fun _ h9 => h9) rfl dX8_reset_75 ?_
  refine lv_iload_n hx hb dX8_reset_78 rfl (lv_at hl 0 rfl) ?_
  refine lv_iconst (v := 0) hx hb dX8_reset_79 (by decide) ?_
  refine za_iast (f' := (jn [0, 4, 0, 0, 0, 0, 0, 0, 0, 0, 0, 0, 0, 0, 0, 0, 0, (-1), 0, 0, 0, 0, 0, 0] R0)) hx hb hK hP hD hS 1 0 rfl rfl (zin tn_4 (Nat.le_of_ble_eq_true rfl)) (zup_jl tn_4 (Nat.le_of_ble_eq_true rfl) (Nat.le_of_ble_eq_true rfl) rfl) dX8_reset_80 (fun H locs hP hD hS => ?_)
  have hP : va_P (dC, dI) vwCl [(y, .inr (8, [.ref yt, .int 0, .int 0, .ref yr, .ref yk, .ref yz, .ref yp, .int 0, .int 0, .int 0, .int 0, .ref yl, .ref yw, .int 0, .int 0, .int 0, .int 0, .int 0, .int 0, .int 0, .int 0, .int (-1), .ref yd, .int 0, .ref ys, .ref yn, .ref ym, .int 0, .ref yf, .ref yo, .ref yh, .ref yb, .int 0, .int 0, .int 0, .int 0, .int 0, .int 0, .int 0, .ref yx, .int 0, .int 0, .int 0])), (yr, .inl (cI, 4668, .inl (jn [0, 4, 0, 0, 0, 0, 0, 0, 0, 0, 0, 0, 0, 0, 0, 0, 0, (-1), 0, 0, 0, 0, 0, 0] R0)))] H := hP
  have hD : va_D A [(y, .inr (8, [.ref yt, .int 0, .int 0, .ref yr, .ref yk, .ref yz, .ref yp, .int 0, .int 0, .int 0, .int 0, .ref yl, .ref yw, .int 0, .int 0, .int 0, .int 0, .int 0, .int 0, .int 0, .int 0, .int (-1), .ref yd, .int 0, .ref ys, .ref yn, .ref ym, .int 0, .ref yf, .ref yo, .ref yh, .ref yb, .int 0, .int 0, .int 0, .int 0, .int 0, .int 0, .int 0, .ref yx, .int 0, .int 0, .int 0])), (yr, .inl (cI, 4668, .inl (jn [0, 4, 0, 0, 0, 0, 0, 0, 0, 0, 0, 0, 0, 0, 0, 0, 0, (-1), 0, 0, 0, 0, 0, 0] R0)))] := hD
  refine lv_iinc (v := 5) (lv' := [(1, .int 5), (0, .ref y)]) hx hb dX8_reset_81 hl (k := 0) rfl (by decide) (by decide) rfl (fun ls hl => ?_)
  refine lv_goto (tgt := 68) hx hb dX8_reset_84 (by decide) ?_
  refine lv_iload_n hx hb dX8_reset_68 rfl (lv_at hl 0 rfl) ?_
  refine lv_bipush (v := 14) hx hb dX8_reset_69 (by decide) ?_
  refine lv_icmp_ge (tgt := 87) hx hb dX8_reset_71 (by decide) (fun c => absurd c (by decide)) (fun _ => ?_)
  refine lv_aload_n hx hb dX8_reset_74 rfl (lv_at hl 1 rfl) ?_
  refine va_get (D := (dC, dI)) (ci := 8) (v := .ref yr) (C := RX8) (T := TX8) (N := 43) hx hb hts hinX8 hown hK hP 0 rfl rfl 3 (by decide) k_1 (fun _ h9 => h9) rfl dX8_reset_75 ?_
  refine lv_iload_n hx hb dX8_reset_78 rfl (lv_at hl 0 rfl) ?_
  refine lv_iconst (v := 0) hx hb dX8_reset_79 (by decide) ?_
  refine za_iast (f' := (jn [0, 4, 0, 0, 0, 0, 0, 0, 0, 0, 0, 0, 0, 0, 0, 0, 0, (-1), 0, 0, 0, 0, 0, 0] R0)) hx hb hK hP hD hS 1 0 rfl rfl (zin tn_5 (Nat.le_of_ble_eq_true rfl)) (zup_jl tn_5 (Nat.le_of_ble_eq_true rfl) (Nat.le_of_ble_eq_true rfl) rfl) dX8_reset_80 (fun H locs hP hD hS => ?_)
  have hP : va_P (dC, dI) vwCl [(y, .inr (8, [.ref yt, .int 0, .int 0, .ref yr, .ref yk, .ref yz, .ref yp, .int 0, .int 0, .int 0, .int 0, .ref yl, .ref yw, .int 0, .int 0, .int 0, .int 0, .int 0, .int 0, .int 0, .int 0, .int (-1), .ref yd, .int 0, .ref ys, .ref yn, .ref ym, .int 0, .ref yf, .ref yo, .ref yh, .ref yb, .int 0, .int 0, .int 0, .int 0, .int 0, .int 0, .int 0, .ref yx, .int 0, .int 0, .int 0])), (yr, .inl (cI, 4668, .inl (jn [0, 4, 0, 0, 0, 0, 0, 0, 0, 0, 0, 0, 0, 0, 0, 0, 0, (-1), 0, 0, 0, 0, 0, 0] R0)))] H := hP
  have hD : va_D A [(y, .inr (8, [.ref yt, .int 0, .int 0, .ref yr, .ref yk, .ref yz, .ref yp, .int 0, .int 0, .int 0, .int 0, .ref yl, .ref yw, .int 0, .int 0, .int 0, .int 0, .int 0, .int 0, .int 0, .int 0, .int (-1), .ref yd, .int 0, .ref ys, .ref yn, .ref ym, .int 0, .ref yf, .ref yo, .ref yh, .ref yb, .int 0, .int 0, .int 0, .int 0, .int 0, .int 0, .int 0, .ref yx, .int 0, .int 0, .int 0])), (yr, .inl (cI, 4668, .inl (jn [0, 4, 0, 0, 0, 0, 0, 0, 0, 0, 0, 0, 0, 0, 0, 0, 0, (-1), 0, 0, 0, 0, 0, 0] R0)))] := hD
  refine lv_iinc (v := 6) (lv' := [(1, .int 6), (0, .ref y)]) hx hb dX8_reset_81 hl (k := 0) rfl (by decide) (by decide) rfl (fun ls hl => ?_)
  refine lv_goto (tgt := 68) hx hb dX8_reset_84 (by decide) ?_
  refine lv_iload_n hx hb dX8_reset_68 rfl (lv_at hl 0 rfl) ?_
  refine lv_bipush (v := 14) hx hb dX8_reset_69 (by decide) ?_
  refine lv_icmp_ge (tgt := 87) hx hb dX8_reset_71 (by decide) (fun c => absurd c (by decide)) (fun _ => ?_)
  refine lv_aload_n hx hb dX8_reset_74 rfl (lv_at hl 1 rfl) ?_
  refine va_get (D := (dC, dI)) (ci := 8) (v := .ref yr) (C := RX8) (T := TX8) (N := 43) hx hb hts hinX8 hown hK hP 0 rfl rfl 3 (by decide) k_1 (fun _ h9 => h9) rfl dX8_reset_75 ?_
  refine lv_iload_n hx hb dX8_reset_78 rfl (lv_at hl 0 rfl) ?_
  refine lv_iconst (v := 0) hx hb dX8_reset_79 (by decide) ?_
  refine za_iast (f' := (jn [0, 4, 0, 0, 0, 0, 0, 0, 0, 0, 0, 0, 0, 0, 0, 0, 0, (-1), 0, 0, 0, 0, 0, 0] R0)) hx hb hK hP hD hS 1 0 rfl rfl (zin tn_6 (Nat.le_of_ble_eq_true rfl)) (zup_jl tn_6 (Nat.le_of_ble_eq_true rfl) (Nat.le_of_ble_eq_true rfl) rfl) dX8_reset_80 (fun H locs hP hD hS => ?_)
  have hP : va_P (dC, dI) vwCl [(y, .inr (8, [.ref yt, .int 0, .int 0, .ref yr, .ref yk, .ref yz, .ref yp, .int 0, .int 0, .int 0, .int 0, .ref yl, .ref yw, .int 0, .int 0, .int 0, .int 0, .int 0, .int 0, .int 0, .int 0, .int (-1), .ref yd, .int 0, .ref ys, .ref yn, .ref ym, .int 0, .ref yf, .ref yo, .ref yh, .ref yb, .int 0, .int 0, .int 0, .int 0, .int 0, .int 0, .int 0, .ref yx, .int 0, .int 0, .int 0])), (yr, .inl (cI, 4668, .inl (jn [0, 4, 0, 0, 0, 0, 0, 0, 0, 0, 0, 0, 0, 0, 0, 0, 0, (-1), 0, 0, 0, 0, 0, 0] R0)))] H := hP
  have hD : va_D A [(y, .inr (8, [.ref yt, .int 0, .int 0, .ref yr, .ref yk, .ref yz, .ref yp, .int 0, .int 0, .int 0, .int 0, .ref yl, .ref yw, .int 0, .int 0, .int 0, .int 0, .int 0, .int 0, .int 0, .int 0, .int (-1), .ref yd, .int 0, .ref ys, .ref yn, .ref ym, .int 0, .ref yf, .ref yo, .ref yh, .ref yb, .int 0, .int 0, .int 0, .int 0, .int 0, .int 0, .int 0, .ref yx, .int 0, .int 0, .int 0])), (yr, .inl (cI, 4668, .inl (jn [0, 4, 0, 0, 0, 0, 0, 0, 0, 0, 0, 0, 0, 0, 0, 0, 0, (-1), 0, 0, 0, 0, 0, 0] R0)))] := hD
  refine lv_iinc (v := 7) (lv' := [(1, .int 7), (0, .ref y)]) hx hb dX8_reset_81 hl (k := 0) rfl (by decide) (by decide) rfl (fun ls hl => ?_)
  refine lv_goto (tgt := 68) hx hb dX8_reset_84 (by decide) ?_
  refine lv_iload_n hx hb dX8_reset_68 rfl (lv_at hl 0 rfl) ?_
  refine lv_bipush (v := 14) hx hb dX8_reset_69 (by decide) ?_
  refine lv_icmp_ge (tgt := 87) hx hb dX8_reset_71 (by decide) (fun c => absurd c (by decide)) (fun _ => ?_)
  refine lv_aload_n hx hb dX8_reset_74 rfl (lv_at hl 1 rfl) ?_
  refine va_get (D := (dC, dI)) (ci := 8) (v := .ref yr) (C := RX8) (T := TX8) (N := 43) hx hb hts hinX8 hown hK hP 0 rfl rfl 3 (by decide) k_1 (fun _ h9 => h9) rfl dX8_reset_75 ?_
  refine lv_iload_n hx hb dX8_reset_78 rfl (lv_at hl 0 rfl) ?_
  refine lv_iconst (v := 0) hx hb dX8_reset_79 (by decide) ?_
  refine za_iast (f' := (jn [0, 4, 0, 0, 0, 0, 0, 0, 0, 0, 0, 0, 0, 0, 0, 0, 0, (-1), 0, 0, 0, 0, 0, 0] R0)) hx hb hK hP hD hS 1 0 rfl rfl (zin tn_7 (Nat.le_of_ble_eq_true rfl)) (zup_jl tn_7 (Nat.le_of_ble_eq_true rfl) (Nat.le_of_ble_eq_true rfl) rfl) dX8_reset_80 (fun H locs hP hD hS => ?_)
  have hP : va_P (dC, dI) vwCl [(y, .inr (8, [.ref yt, .int 0, .int 0, .ref yr, .ref yk, .ref yz, .ref yp, .int 0, .int 0, .int 0, .int 0, .ref yl, .ref yw, .int 0, .int 0, .int 0, .int 0, .int 0, .int 0, .int 0, .int 0, .int (-1), .ref yd, .int 0, .ref ys, .ref yn, .ref ym, .int 0, .ref yf, .ref yo, .ref yh, .ref yb, .int 0, .int 0, .int 0, .int 0, .int 0, .int 0, .int 0, .ref yx, .int 0, .int 0, .int 0])), (yr, .inl (cI, 4668, .inl (jn [0, 4, 0, 0, 0, 0, 0, 0, 0, 0, 0, 0, 0, 0, 0, 0, 0, (-1), 0, 0, 0, 0, 0, 0] R0)))] H := hP
  have hD : va_D A [(y, .inr (8, [.ref yt, .int 0, .int 0, .ref yr, .ref yk, .ref yz, .ref yp, .int 0, .int 0, .int 0, .int 0, .ref yl, .ref yw, .int 0, .int 0, .int 0, .int 0, .int 0, .int 0, .int 0, .int 0, .int (-1), .ref yd, .int 0, .ref ys, .ref yn, .ref ym, .int 0, .ref yf, .ref yo, .ref yh, .ref yb, .int 0, .int 0, .int 0, .int 0, .int 0, .int 0, .int 0, .ref yx, .int 0, .int 0, .int 0])), (yr, .inl (cI, 4668, .inl (jn [0, 4, 0, 0, 0, 0, 0, 0, 0, 0, 0, 0, 0, 0, 0, 0, 0, (-1), 0, 0, 0, 0, 0, 0] R0)))] := hD
  refine lv_iinc (v := 8) (lv' := [(1, .int 8), (0, .ref y)]) hx hb dX8_reset_81 hl (k := 0) rfl (by decide) (by decide) rfl (fun ls hl => ?_)
  refine lv_goto (tgt := 68) hx hb dX8_reset_84 (by decide) ?_
  refine lv_iload_n hx hb dX8_reset_68 rfl (lv_at hl 0 rfl) ?_
  refine lv_bipush (v := 14) hx hb dX8_reset_69 (by decide) ?_
  refine lv_icmp_ge (tgt := 87) hx hb dX8_reset_71 (by decide) (fun c => absurd c (by decide)) (fun _ => ?_)
  refine lv_aload_n hx hb dX8_reset_74 rfl (lv_at hl 1 rfl) ?_
  refine va_get (D := (dC, dI)) (ci := 8) (v := .ref yr) (C := RX8) (T := TX8) (N := 43) hx hb hts hinX8 hown hK hP 0 rfl rfl 3 (by decide) k_1 (fun _ h9 => h9) rfl dX8_reset_75 ?_
  refine lv_iload_n hx hb dX8_reset_78 rfl (lv_at hl 0 rfl) ?_
  refine lv_iconst (v := 0) hx hb dX8_reset_79 (by decide) ?_
  refine za_iast (f' := (jn [0, 4, 0, 0, 0, 0, 0, 0, 0, 0, 0, 0, 0, 0, 0, 0, 0, (-1), 0, 0, 0, 0, 0, 0] R0)) hx hb hK hP hD hS 1 0 rfl rfl (zin tn_8 (Nat.le_of_ble_eq_true rfl)) (zup_jl tn_8 (Nat.le_of_ble_eq_true rfl) (Nat.le_of_ble_eq_true rfl) rfl) dX8_reset_80 (fun H locs hP hD hS => ?_)
  have hP : va_P (dC, dI) vwCl [(y, .inr (8, [.ref yt, .int 0, .int 0, .ref yr, .ref yk, .ref yz, .ref yp, .int 0, .int 0, .int 0, .int 0, .ref yl, .ref yw, .int 0, .int 0, .int 0, .int 0, .int 0, .int 0, .int 0, .int 0, .int (-1), .ref yd, .int 0, .ref ys, .ref yn, .ref ym, .int 0, .ref yf, .ref yo, .ref yh, .ref yb, .int 0, .int 0, .int 0, .int 0, .int 0, .int 0, .int 0, .ref yx, .int 0, .int 0, .int 0])), (yr, .inl (cI, 4668, .inl (jn [0, 4, 0, 0, 0, 0, 0, 0, 0, 0, 0, 0, 0, 0, 0, 0, 0, (-1), 0, 0, 0, 0, 0, 0] R0)))] H := hP
  have hD : va_D A [(y, .inr (8, [.ref yt, .int 0, .int 0, .ref yr, .ref yk, .ref yz, .ref yp, .int 0, .int 0, .int 0, .int 0, .ref yl, .ref yw, .int 0, .int 0, .int 0, .int 0, .int 0, .int 0, .int 0, .int 0, .int (-1), .ref yd, .int 0, .ref ys, .ref yn, .ref ym, .int 0, .ref yf, .ref yo, .ref yh, .ref yb, .int 0, .int 0, .int 0, .int 0, .int 0, .int 0, .int 0, .ref yx, .int 0, .int 0, .int 0])), (yr, .inl (cI, 4668, .inl (jn [0, 4, 0, 0, 0, 0, 0, 0, 0, 0, 0, 0, 0, 0, 0, 0, 0, (-1), 0, 0, 0, 0, 0, 0] R0)))] := hD
  refine lv_iinc (v := 9) (lv' := [(1, .int 9), (0, .ref y)]) hx hb dX8_reset_81 hl (k := 0) rfl (by decide) (by decide) rfl (fun ls hl => ?_)
  refine lv_goto (tgt := 68) hx hb dX8_reset_84 (by decide) ?_
  refine lv_iload_n hx hb dX8_reset_68 rfl (lv_at hl 0 rfl) ?_
  refine lv_bipush (v := 14) hx hb dX8_reset_69 (by decide) ?_
  refine lv_icmp_ge (tgt := 87) hx hb dX8_reset_71 (by decide) (fun c => absurd c (by decide)) (fun _ => ?_)
  refine lv_aload_n hx hb dX8_reset_74 rfl (lv_at hl 1 rfl) ?_
  refine va_get (D := (dC, dI)) (ci := 8) (v := .ref yr) (C := RX8) (T := TX8) (N := 43) hx hb hts hinX8 hown hK hP 0 rfl rfl 3 (by decide) k_1 (fun _ h9 => h9) rfl dX8_reset_75 ?_
  refine lv_iload_n hx hb dX8_reset_78 rfl (lv_at hl 0 rfl) ?_
  refine lv_iconst (v := 0) hx hb dX8_reset_79 (by decide) ?_
  refine za_iast (f' := (jn [0, 4, 0, 0, 0, 0, 0, 0, 0, 0, 0, 0, 0, 0, 0, 0, 0, (-1), 0, 0, 0, 0, 0, 0] R0)) hx hb hK hP hD hS 1 0 rfl rfl (zin tn_9 (Nat.le_of_ble_eq_true rfl)) (zup_jl tn_9 (Nat.le_of_ble_eq_true rfl) (Nat.le_of_ble_eq_true rfl) rfl) dX8_reset_80 (fun H locs hP hD hS => ?_)
  have hP : va_P (dC, dI) vwCl [(y, .inr (8, [.ref yt, .int 0, .int 0, .ref yr, .ref yk, .ref yz, .ref yp, .int 0, .int 0, .int 0, .int 0, .ref yl, .ref yw, .int 0, .int 0, .int 0, .int 0, .int 0, .int 0, .int 0, .int 0, .int (-1), .ref yd, .int 0, .ref ys, .ref yn, .ref ym, .int 0, .ref yf, .ref yo, .ref yh, .ref yb, .int 0, .int 0, .int 0, .int 0, .int 0, .int 0, .int 0, .ref yx, .int 0, .int 0, .int 0])), (yr, .inl (cI, 4668, .inl (jn [0, 4, 0, 0, 0, 0, 0, 0, 0, 0, 0, 0, 0, 0, 0, 0, 0, (-1), 0, 0, 0, 0, 0, 0] R0)))] H := hP
  have hD : va_D A [(y, .inr (8, [.ref yt, .int 0, .int 0, .ref yr, .ref yk, .ref yz, .ref yp, .int 0, .int 0, .int 0, .int 0, .ref yl, .ref yw, .int 0, .int 0, .int 0, .int 0, .int 0, .int 0, .int 0, .int 0, .int (-1), .ref yd, .int 0, .ref ys, .ref yn, .ref ym, .int 0, .ref yf, .ref yo, .ref yh, .ref yb, .int 0, .int 0, .int 0, .int 0, .int 0, .int 0, .int 0, .ref yx, .int 0, .int 0, .int 0])), (yr, .inl (cI, 4668, .inl (jn [0, 4, 0, 0, 0, 0, 0, 0, 0, 0, 0, 0, 0, 0, 0, 0, 0, (-1), 0, 0, 0, 0, 0, 0] R0)))] := hD
  refine lv_iinc (v := 10) (lv' := [(1, .int 10), (0, .ref y)]) hx hb dX8_reset_81 hl (k := 0) rfl (by decide) (by decide) rfl (fun ls hl => ?_)
  refine lv_goto (tgt := 68) hx hb dX8_reset_84 (by decide) ?_
  refine lv_iload_n hx hb dX8_reset_68 rfl (lv_at hl 0 rfl) ?_
  refine lv_bipush (v := 14) hx hb dX8_reset_69 (by decide) ?_
  refine lv_icmp_ge (tgt := 87) hx hb dX8_reset_71 (by decide) (fun c => absurd c (by decide)) (fun _ => ?_)
  refine lv_aload_n hx hb dX8_reset_74 rfl (lv_at hl 1 rfl) ?_
  refine va_get (D := (dC, dI)) (ci := 8) (v := .ref yr) (C := RX8) (T := TX8) (N := 43) hx hb hts hinX8 hown hK hP 0 rfl rfl 3 (by decide) k_1 (fun _ h9 => h9) rfl dX8_reset_75 ?_
  refine lv_iload_n hx hb dX8_reset_78 rfl (lv_at hl 0 rfl) ?_
  refine lv_iconst (v := 0) hx hb dX8_reset_79 (by decide) ?_
  refine za_iast (f' := (jn [0, 4, 0, 0, 0, 0, 0, 0, 0, 0, 0, 0, 0, 0, 0, 0, 0, (-1), 0, 0, 0, 0, 0, 0] R0)) hx hb hK hP hD hS 1 0 rfl rfl (zin tn_10 (Nat.le_of_ble_eq_true rfl)) (zup_jl tn_10 (Nat.le_of_ble_eq_true rfl) (Nat.le_of_ble_eq_true rfl) rfl) dX8_reset_80 (fun H locs hP hD hS => ?_)
  have hP : va_P (dC, dI) vwCl [(y, .inr (8, [.ref yt, .int 0, .int 0, .ref yr, .ref yk, .ref yz, .ref yp, .int 0, .int 0, .int 0, .int 0, .ref yl, .ref yw, .int 0, .int 0, .int 0, .int 0, .int 0, .int 0, .int 0, .int 0, .int (-1), .ref yd, .int 0, .ref ys, .ref yn, .ref ym, .int 0, .ref yf, .ref yo, .ref yh, .ref yb, .int 0, .int 0, .int 0, .int 0, .int 0, .int 0, .int 0, .ref yx, .int 0, .int 0, .int 0])), (yr, .inl (cI, 4668, .inl (jn [0, 4, 0, 0, 0, 0, 0, 0, 0, 0, 0, 0, 0, 0, 0, 0, 0, (-1), 0, 0, 0, 0, 0, 0] R0)))] H := hP
  have hD : va_D A [(y, .inr (8, [.ref yt, .int 0, .int 0, .ref yr, .ref yk, .ref yz, .ref yp, .int 0, .int 0, .int 0, .int 0, .ref yl, .ref yw, .int 0, .int 0, .int 0, .int 0, .int 0, .int 0, .int 0, .int 0, .int (-1), .ref yd, .int 0, .ref ys, .ref yn, .ref ym, .int 0, .ref yf, .ref yo, .ref yh, .ref yb, .int 0, .int 0, .int 0, .int 0, .int 0, .int 0, .int 0, .ref yx, .int 0, .int 0, .int 0])), (yr, .inl (cI, 4668, .inl (jn [0, 4, 0, 0, 0, 0, 0, 0, 0, 0, 0, 0, 0, 0, 0, 0, 0, (-1), 0, 0, 0, 0, 0, 0] R0)))] := hD
  refine lv_iinc (v := 11) (lv' := [(1, .int 11), (0, .ref y)]) hx hb dX8_reset_81 hl (k := 0) rfl (by decide) (by decide) rfl (fun ls hl => ?_)
  refine lv_goto (tgt := 68) hx hb dX8_reset_84 (by decide) ?_
  refine lv_iload_n hx hb dX8_reset_68 rfl (lv_at hl 0 rfl) ?_
  refine lv_bipush (v := 14) hx hb dX8_reset_69 (by decide) ?_
  refine lv_icmp_ge (tgt := 87) hx hb dX8_reset_71 (by decide) (fun c => absurd c (by decide)) (fun _ => ?_)
  refine lv_aload_n hx hb dX8_reset_74 rfl (lv_at hl 1 rfl) ?_
  refine va_get (D := (dC, dI)) (ci := 8) (v := .ref yr) (C := RX8) (T := TX8) (N := 43) hx hb hts hinX8 hown hK hP 0 rfl rfl 3 (by decide) k_1 (fun _ h9 => h9) rfl dX8_reset_75 ?_
  refine lv_iload_n hx hb dX8_reset_78 rfl (lv_at hl 0 rfl) ?_
  refine lv_iconst (v := 0) hx hb dX8_reset_79 (by decide) ?_
  refine za_iast (f' := (jn [0, 4, 0, 0, 0, 0, 0, 0, 0, 0, 0, 0, 0, 0, 0, 0, 0, (-1), 0, 0, 0, 0, 0, 0] R0)) hx hb hK hP hD hS 1 0 rfl rfl (zin tn_11 (Nat.le_of_ble_eq_true rfl)) (zup_jl tn_11 (Nat.le_of_ble_eq_true rfl) (Nat.le_of_ble_eq_true rfl) rfl) dX8_reset_80 (fun H locs hP hD hS => ?_)
  have hP : va_P (dC, dI) vwCl [(y, .inr (8, [.ref yt, .int 0, .int 0, .ref yr, .ref yk, .ref yz, .ref yp, .int 0, .int 0, .int 0, .int 0, .ref yl, .ref yw, .int 0, .int 0, .int 0, .int 0, .int 0, .int 0, .int 0, .int 0, .int (-1), .ref yd, .int 0, .ref ys, .ref yn, .ref ym, .int 0, .ref yf, .ref yo, .ref yh, .ref yb, .int 0, .int 0, .int 0, .int 0, .int 0, .int 0, .int 0, .ref yx, .int 0, .int 0, .int 0])), (yr, .inl (cI, 4668, .inl (jn [0, 4, 0, 0, 0, 0, 0, 0, 0, 0, 0, 0, 0, 0, 0, 0, 0, (-1), 0, 0, 0, 0, 0, 0] R0)))] H := hP
  have hD : va_D A [(y, .inr (8, [.ref yt, .int 0, .int 0, .ref yr, .ref yk, .ref yz, .ref yp, .int 0, .int 0, .int 0, .int 0, .ref yl, .ref yw, .int 0, .int 0, .int 0, .int 0, .int 0, .int 0, .int 0, .int 0, .int (-1), .ref yd, .int 0, .ref ys, .ref yn, .ref ym, .int 0, .ref yf, .ref yo, .ref yh, .ref yb, .int 0, .int 0, .int 0, .int 0, .int 0, .int 0, .int 0, .ref yx, .int 0, .int 0, .int 0])), (yr, .inl (cI, 4668, .inl (jn [0, 4, 0, 0, 0, 0, 0, 0, 0, 0, 0, 0, 0, 0, 0, 0, 0, (-1), 0, 0, 0, 0, 0, 0] R0)))] := hD
  refine lv_iinc (v := 12) (lv' := [(1, .int 12), (0, .ref y)]) hx hb dX8_reset_81 hl (k := 0) rfl (by decide) (by decide) rfl (fun ls hl => ?_)
  refine lv_goto (tgt := 68) hx hb dX8_reset_84 (by decide) ?_
  refine lv_iload_n hx hb dX8_reset_68 rfl (lv_at hl 0 rfl) ?_
  refine lv_bipush (v := 14) hx hb dX8_reset_69 (by decide) ?_
  refine lv_icmp_ge (tgt := 87) hx hb dX8_reset_71 (by decide) (fun c => absurd c (by decide)) (fun _ => ?_)
  refine lv_aload_n hx hb dX8_reset_74 rfl (lv_at hl 1 rfl) ?_
  refine va_get (D := (dC, dI)) (ci := 8) (v := .ref yr) (C := RX8) (T := TX8) (N := 43) hx hb hts hinX8 hown hK hP 0 rfl rfl 3 (by decide) k_1 (fun _ h9 => h9) rfl dX8_reset_75 ?_
  refine lv_iload_n hx hb dX8_reset_78 rfl (lv_at hl 0 rfl) ?_
  refine lv_iconst (v := 0) hx hb dX8_reset_79 (by decide) ?_
  refine za_iast (f' := (jn [0, 4, 0, 0, 0, 0, 0, 0, 0, 0, 0, 0, 0, 0, 0, 0, 0, (-1), 0, 0, 0, 0, 0, 0] R0)) hx hb hK hP hD hS 1 0 rfl rfl (zin tn_12 (Nat.le_of_ble_eq_true rfl)) (zup_jl tn_12 (Nat.le_of_ble_eq_true rfl) (Nat.le_of_ble_eq_true rfl) rfl) dX8_reset_80 (fun H locs hP hD hS => ?_)
  have hP : va_P (dC, dI) vwCl [(y, .inr (8, [.ref yt, .int 0, .int 0, .ref yr, .ref yk, .ref yz, .ref yp, .int 0, .int 0, .int 0, .int 0, .ref yl, .ref yw, .int 0, .int 0, .int 0, .int 0, .int 0, .int 0, .int 0, .int 0, .int (-1), .ref yd, .int 0, .ref ys, .ref yn, .ref ym, .int 0, .ref yf, .ref yo, .ref yh, .ref yb, .int 0, .int 0, .int 0, .int 0, .int 0, .int 0, .int 0, .ref yx, .int 0, .int 0, .int 0])), (yr, .inl (cI, 4668, .inl (jn [0, 4, 0, 0, 0, 0, 0, 0, 0, 0, 0, 0, 0, 0, 0, 0, 0, (-1), 0, 0, 0, 0, 0, 0] R0)))] H := hP
  have hD : va_D A [(y, .inr (8, [.ref yt, .int 0, .int 0, .ref yr, .ref yk, .ref yz, .ref yp, .int 0, .int 0, .int 0, .int 0, .ref yl, .ref yw, .int 0, .int 0, .int 0, .int 0, .int 0, .int 0, .int 0, .int 0, .int (-1), .ref yd, .int 0, .ref ys, .ref yn, .ref ym, .int 0, .ref yf, .ref yo, .ref yh, .ref yb, .int 0, .int 0, .int 0, .int 0, .int 0, .int 0, .int 0, .ref yx, .int 0, .int 0, .int 0])), (yr, .inl (cI, 4668, .inl (jn [0, 4, 0, 0, 0, 0, 0, 0, 0, 0, 0, 0, 0, 0, 0, 0, 0, (-1), 0, 0, 0, 0, 0, 0] R0)))] := hD
  refine lv_iinc (v := 13) (lv' := [(1, .int 13), (0, .ref y)]) hx hb dX8_reset_81 hl (k := 0) rfl (by decide) (by decide) rfl (fun ls hl => ?_)
  refine lv_goto (tgt := 68) hx hb dX8_reset_84 (by decide) ?_
  refine lv_iload_n hx hb dX8_reset_68 rfl (lv_at hl 0 rfl) ?_
  refine lv_bipush (v := 14) hx hb dX8_reset_69 (by decide) ?_
  refine lv_icmp_ge (tgt := 87) hx hb dX8_reset_71 (by decide) (fun c => absurd c (by decide)) (fun _ => ?_)
  refine lv_aload_n hx hb dX8_reset_74 rfl (lv_at hl 1 rfl) ?_
  refine va_get (D := (dC, dI)) (ci := 8) (v := .ref yr) (C := RX8) (T := TX8) (N := 43) hx hb hts hinX8 hown hK hP 0 rfl rfl 3 (by decide) k_1 (fun _ h9 => h9) rfl dX8_reset_75 ?_
  refine lv_iload_n hx hb dX8_reset_78 rfl (lv_at hl 0 rfl) ?_
  refine lv_iconst (v := 0) hx hb dX8_reset_79 (by decide) ?_
  refine za_iast (f' := (jn [0, 4, 0, 0, 0, 0, 0, 0, 0, 0, 0, 0, 0, 0, 0, 0, 0, (-1), 0, 0, 0, 0, 0, 0] R0)) hx hb hK hP hD hS 1 0 rfl rfl (zin tn_13 (Nat.le_of_ble_eq_true rfl)) (zup_jl tn_13 (Nat.le_of_ble_eq_true rfl) (Nat.le_of_ble_eq_true rfl) rfl) dX8_reset_80 (fun H locs hP hD hS => ?_)
  have hP : va_P (dC, dI) vwCl [(y, .inr (8, [.ref yt, .int 0, .int 0, .ref yr, .ref yk, .ref yz, .ref yp, .int 0, .int 0, .int 0, .int 0, .ref yl, .ref yw, .int 0, .int 0, .int 0, .int 0, .int 0, .int 0, .int 0, .int 0, .int (-1), .ref yd, .int 0, .ref ys, .ref yn, .ref ym, .int 0, .ref yf, .ref yo, .ref yh, .ref yb, .int 0, .int 0, .int 0, .int 0, .int 0, .int 0, .int 0, .ref yx, .int 0, .int 0, .int 0])), (yr, .inl (cI, 4668, .inl (jn [0, 4, 0, 0, 0, 0, 0, 0, 0, 0, 0, 0, 0, 0, 0, 0, 0, (-1), 0, 0, 0, 0, 0, 0] R0)))] H := hP
  have hD : va_D A [(y, .inr (8, [.ref yt, .int 0, .int 0, .ref yr, .ref yk, .ref yz, .ref yp, .int 0, .int 0, .int 0, .int 0, .ref yl, .ref yw, .int 0, .int 0, .int 0, .int 0, .int 0, .int 0, .int 0, .int 0, .int (-1), .ref yd, .int 0, .ref ys, .ref yn, .ref ym, .int 0, .ref yf, .ref yo, .ref yh, .ref yb, .int 0, .int 0, .int 0, .int 0, .int 0, .int 0, .int 0, .ref yx, .int 0, .int 0, .int 0])), (yr, .inl (cI, 4668, .inl (jn [0, 4, 0, 0, 0, 0, 0, 0, 0, 0, 0, 0, 0, 0, 0, 0, 0, (-1), 0, 0, 0, 0, 0, 0] R0)))] := hD
  refine lv_iinc (v := 14) (lv' := [(1, .int 14), (0, .ref y)]) hx hb dX8_reset_81 hl (k := 0) rfl (by decide) (by decide) rfl (fun ls hl => ?_)
  refine lv_goto (tgt := 68) hx hb dX8_reset_84 (by decide) ?_
  refine lv_iload_n hx hb dX8_reset_68 rfl (lv_at hl 0 rfl) ?_
  refine lv_bipush (v := 14) hx hb dX8_reset_69 (by decide) ?_
  refine lv_icmp_ge (tgt := 87) hx hb dX8_reset_71 (by decide) (fun _ => ?_) (fun c => absurd (by decide) c)
  refine lv_bipush (v := 24) hx hb dX8_reset_87 (by decide) ?_
  refine lv_istore_n (lv' := [(1, .int 24), (0, .ref y)]) hx hb dX8_reset_89 rfl hl (by decide) rfl (fun ls hl => ?_)
  refine lv_iload_n hx hb dX8_reset_90 rfl (lv_at hl 0 rfl) ?_
  refine lv_bipush (v := 48) hx hb dX8_reset_91 (by decide) ?_
  refine lv_icmp_ge (tgt := 109) hx hb dX8_reset_93 (by decide) (fun c => absurd c (by decide)) (fun _ => ?_)
  refine lv_aload_n hx hb dX8_reset_96 rfl (lv_at hl 1 rfl) ?_
  refine va_get (D := (dC, dI)) (ci := 8) (v := .ref yr) (C := RX8) (T := TX8) (N := 43) hx hb hts hinX8 hown hK hP 0 rfl rfl 3 (by decide) k_1 (fun _ h9 => h9) rfl dX8_reset_97 ?_
  refine lv_iload_n hx hb dX8_reset_100 rfl (lv_at hl 0 rfl) ?_
  refine lv_iconst (v := 0) hx hb dX8_reset_101 (by decide) ?_
  refine za_iast (f' := (jn [0, 4, 0, 0, 0, 0, 0, 0, 0, 0, 0, 0, 0, 0, 0, 0, 0, (-1), 0, 0, 0, 0, 0, 0] R0)) hx hb hK hP hD hS 1 0 rfl rfl (zin tn_24 (Nat.le_of_ble_eq_true rfl)) (zup_R0 tn_24 (by decide) (by decide)) dX8_reset_102 (fun H locs hP hD hS => ?_)
  have hP : va_P (dC, dI) vwCl [(y, .inr (8, [.ref yt, .int 0, .int 0, .ref yr, .ref yk, .ref yz, .ref yp, .int 0, .int 0, .int 0, .int 0, .ref yl, .ref yw, .int 0, .int 0, .int 0, .int 0, .int 0, .int 0, .int 0, .int 0, .int (-1), .ref yd, .int 0, .ref ys, .ref yn, .ref ym, .int 0, .ref yf, .ref yo, .ref yh, .ref yb, .int 0, .int 0, .int 0, .int 0, .int 0, .int 0, .int 0, .ref yx, .int 0, .int 0, .int 0])), (yr, .inl (cI, 4668, .inl (jn [0, 4, 0, 0, 0, 0, 0, 0, 0, 0, 0, 0, 0, 0, 0, 0, 0, (-1), 0, 0, 0, 0, 0, 0] R0)))] H := hP
  have hD : va_D A [(y, .inr (8, [.ref yt, .int 0, .int 0, .ref yr, .ref yk, .ref yz, .ref yp, .int 0, .int 0, .int 0, .int 0, .ref yl, .ref yw, .int 0, .int 0, .int 0, .int 0, .int 0, .int 0, .int 0, .int 0, .int (-1), .ref yd, .int 0, .ref ys, .ref yn, .ref ym, .int 0, .ref yf, .ref yo, .ref yh, .ref yb, .int 0, .int 0, .int 0, .int 0, .int 0, .int 0, .int 0, .ref yx, .int 0, .int 0, .int 0])), (yr, .inl (cI, 4668, .inl (jn [0, 4, 0, 0, 0, 0, 0, 0, 0, 0, 0, 0, 0, 0, 0, 0, 0, (-1), 0, 0, 0, 0, 0, 0] R0)))] := hD
  refine lv_iinc (v := 25) (lv' := [(1, .int 25), (0, .ref y)]) hx hb dX8_reset_103 hl (k := 0) rfl (by decide) (by decide) rfl (fun ls hl => ?_)
  refine lv_goto (tgt := 90) hx hb dX8_reset_106 (by decide) ?_
  refine lv_iload_n hx hb dX8_reset_90 rfl (lv_at hl 0 rfl) ?_
  refine lv_bipush (v := 48) hx hb dX8_reset_91 (by decide) ?_
  refine lv_icmp_ge (tgt := 109) hx hb dX8_reset_93 (by decide) (fun c => absurd c (by decide)) (fun _ => ?_)
  refine lv_aload_n hx hb dX8_reset_96 rfl (lv_at hl 1 rfl) ?_
  refine va_get (D := (dC, dI)) (ci := 8) (v := .ref yr) (C := RX8) (T := TX8) (N := 43) hx hb hts hinX8 hown hK hP 0 rfl rfl 3 (by decide) k_1 (fun _ h9 => h9) rfl dX8_reset_97 ?_
  refine lv_iload_n hx hb dX8_reset_100 rfl (lv_at hl 0 rfl) ?_
  refine lv_iconst (v := 0) hx hb dX8_reset_101 (by decide) ?_
  refine za_iast (f' := (jn [0, 4, 0, 0, 0, 0, 0, 0, 0, 0, 0, 0, 0, 0, 0, 0, 0, (-1), 0, 0, 0, 0, 0, 0] R0)) hx hb hK hP hD hS 1 0 rfl rfl (zin tn_25 (Nat.le_of_ble_eq_true rfl)) (zup_R0 tn_25 (by decide) (by decide)) dX8_reset_102 (fun H locs hP hD hS => ?_)
  have hP : va_P (dC, dI) vwCl [(y, .inr (8, [.ref yt, .int 0, .int 0, .ref yr, .ref yk, .ref yz, .ref yp, .int 0, .int 0, .int 0, .int 0, .ref yl, .ref yw, .int 0, .int 0, .int 0, .int 0, .int 0, .int 0, .int 0, .int 0, .int (-1), .ref yd, .int 0, .ref ys, .ref yn, .ref ym, .int 0, .ref yf, .ref yo, .ref yh, .ref yb, .int 0, .int 0, .int 0, .int 0, .int 0, .int 0, .int 0, .ref yx, .int 0, .int 0, .int 0])), (yr, .inl (cI, 4668, .inl (jn [0, 4, 0, 0, 0, 0, 0, 0, 0, 0, 0, 0, 0, 0, 0, 0, 0, (-1), 0, 0, 0, 0, 0, 0] R0)))] H := hP
  have hD : va_D A [(y, .inr (8, [.ref yt, .int 0, .int 0, .ref yr, .ref yk, .ref yz, .ref yp, .int 0, .int 0, .int 0, .int 0, .ref yl, .ref yw, .int 0, .int 0, .int 0, .int 0, .int 0, .int 0, .int 0, .int 0, .int (-1), .ref yd, .int 0, .ref ys, .ref yn, .ref ym, .int 0, .ref yf, .ref yo, .ref yh, .ref yb, .int 0, .int 0, .int 0, .int 0, .int 0, .int 0, .int 0, .ref yx, .int 0, .int 0, .int 0])), (yr, .inl (cI, 4668, .inl (jn [0, 4, 0, 0, 0, 0, 0, 0, 0, 0, 0, 0, 0, 0, 0, 0, 0, (-1), 0, 0, 0, 0, 0, 0] R0)))] := hD
  refine lv_iinc (v := 26) (lv' := [(1, .int 26), (0, .ref y)]) hx hb dX8_reset_103 hl (k := 0) rfl (by decide) (by decide) rfl (fun ls hl => ?_)
  refine lv_goto (tgt := 90) hx hb dX8_reset_106 (by decide) ?_
  refine lv_iload_n hx hb dX8_reset_90 rfl (lv_at hl 0 rfl) ?_
  refine lv_bipush (v := 48) hx hb dX8_reset_91 (by decide) ?_
  refine lv_icmp_ge (tgt := 109) hx hb dX8_reset_93 (by decide) (fun c => absurd c (by decide)) (fun _ => ?_)
  refine lv_aload_n hx hb dX8_reset_96 rfl (lv_at hl 1 rfl) ?_
  refine va_get (D := (dC, dI)) (ci := 8) (v := .ref yr) (C := RX8) (T := TX8) (N := 43) hx hb hts hinX8 hown hK hP 0 rfl rfl 3 (by decide) k_1 (fun _ h9 => h9) rfl dX8_reset_97 ?_
  refine lv_iload_n hx hb dX8_reset_100 rfl (lv_at hl 0 rfl) ?_
  refine lv_iconst (v := 0) hx hb dX8_reset_101 (by decide) ?_
  refine za_iast (f' := (jn [0, 4, 0, 0, 0, 0, 0, 0, 0, 0, 0, 0, 0, 0, 0, 0, 0, (-1), 0, 0, 0, 0, 0, 0] R0)) hx hb hK hP hD hS 1 0 rfl rfl (zin tn_26 (Nat.le_of_ble_eq_true rfl)) (zup_R0 tn_26 (by decide) (by decide)) dX8_reset_102 (fun H locs hP hD hS => ?_)
  have hP : va_P (dC, dI) vwCl [(y, .inr (8, [.ref yt, .int 0, .int 0, .ref yr, .ref yk, .ref yz, .ref yp, .int 0, .int 0, .int 0, .int 0, .ref yl, .ref yw, .int 0, .int 0, .int 0, .int 0, .int 0, .int 0, .int 0, .int 0, .int (-1), .ref yd, .int 0, .ref ys, .ref yn, .ref ym, .int 0, .ref yf, .ref yo, .ref yh, .ref yb, .int 0, .int 0, .int 0, .int 0, .int 0, .int 0, .int 0, .ref yx, .int 0, .int 0, .int 0])), (yr, .inl (cI, 4668, .inl (jn [0, 4, 0, 0, 0, 0, 0, 0, 0, 0, 0, 0, 0, 0, 0, 0, 0, (-1), 0, 0, 0, 0, 0, 0] R0)))] H := hP
  have hD : va_D A [(y, .inr (8, [.ref yt, .int 0, .int 0, .ref yr, .ref yk, .ref yz, .ref yp, .int 0, .int 0, .int 0, .int 0, .ref yl, .ref yw, .int 0, .int 0, .int 0, .int 0, .int 0, .int 0, .int 0, .int 0, .int (-1), .ref yd, .int 0, .ref ys, .ref yn, .ref ym, .int 0, .ref yf, .ref yo, .ref yh, .ref yb, .int 0, .int 0, .int 0, .int 0, .int 0, .int 0, .int 0, .ref yx, .int 0, .int 0, .int 0])), (yr, .inl (cI, 4668, .inl (jn [0, 4, 0, 0, 0, 0, 0, 0, 0, 0, 0, 0, 0, 0, 0, 0, 0, (-1), 0, 0, 0, 0, 0, 0] R0)))] := hD
  refine lv_iinc (v := 27) (lv' := [(1, .int 27), (0, .ref y)]) hx hb dX8_reset_103 hl (k := 0) rfl (by decide) (by decide) rfl (fun ls hl => ?_)
  refine lv_goto (tgt := 90) hx hb dX8_reset_106 (by decide) ?_
  refine lv_iload_n hx hb dX8_reset_90 rfl (lv_at hl 0 rfl) ?_
  refine lv_bipush (v := 48) hx hb dX8_reset_91 (by decide) ?_
  refine lv_icmp_ge (tgt := 109) hx hb dX8_reset_93 (by decide) (fun c => absurd c (by decide)) (fun _ => ?_)
  refine lv_aload_n hx hb dX8_reset_96 rfl (lv_at hl 1 rfl) ?_
  refine va_get (D := (dC, dI)) (ci := 8) (v := .ref yr) (C := RX8) (T := TX8) (N := 43) hx hb hts hinX8 hown hK hP 0 rfl rfl 3 (by decide) k_1 (fun _ h9 => h9) rfl dX8_reset_97 ?_
  refine lv_iload_n hx hb dX8_reset_100 rfl (lv_at hl 0 rfl) ?_
  refine lv_iconst (v := 0) hx hb dX8_reset_101 (by decide) ?_
  refine za_iast (f' := (jn [0, 4, 0, 0, 0, 0, 0, 0, 0, 0, 0, 0, 0, 0, 0, 0, 0, (-1), 0, 0, 0, 0, 0, 0] R0)) hx hb hK hP hD hS 1 0 rfl rfl (zin tn_27 (Nat.le_of_ble_eq_true rfl)) (zup_R0 tn_27 (by decide) (by decide)) dX8_reset_102 (fun H locs hP hD hS => ?_)
  have hP : va_P (dC, dI) vwCl [(y, .inr (8, [.ref yt, .int 0, .int 0, .ref yr, .ref yk, .ref yz, .ref yp, .int 0, .int 0, .int 0, .int 0, .ref yl, .ref yw, .int 0, .int 0, .int 0, .int 0, .int 0, .int 0, .int 0, .int 0, .int (-1), .ref yd, .int 0, .ref ys, .ref yn, .ref ym, .int 0, .ref yf, .ref yo, .ref yh, .ref yb, .int 0, .int 0, .int 0, .int 0, .int 0, .int 0, .int 0, .ref yx, .int 0, .int 0, .int 0])), (yr, .inl (cI, 4668, .inl (jn [0, 4, 0, 0, 0, 0, 0, 0, 0, 0, 0, 0, 0, 0, 0, 0, 0, (-1), 0, 0, 0, 0, 0, 0] R0)))] H := hP
  have hD : va_D A [(y, .inr (8, [.ref yt, .int 0, .int 0, .ref yr, .ref yk, .ref yz, .ref yp, .int 0, .int 0, .int 0, .int 0, .ref yl, .ref yw, .int 0, .int 0, .int 0, .int 0, .int 0, .int 0, .int 0, .int 0, .int (-1), .ref yd, .int 0, .ref ys, .ref yn, .ref ym, .int 0, .ref yf, .ref yo, .ref yh, .ref yb, .int 0, .int 0, .int 0, .int 0, .int 0, .int 0, .int 0, .ref yx, .int 0, .int 0, .int 0])), (yr, .inl (cI, 4668, .inl (jn [0, 4, 0, 0, 0, 0, 0, 0, 0, 0, 0, 0, 0, 0, 0, 0, 0, (-1), 0, 0, 0, 0, 0, 0] R0)))] := hD
  refine lv_iinc (v := 28) (lv' := [(1, .int 28), (0, .ref y)]) hx hb dX8_reset_103 hl (k := 0) rfl (by decide) (by decide) rfl (fun ls hl => ?_)
  refine lv_goto (tgt := 90) hx hb dX8_reset_106 (by decide) ?_
  refine lv_iload_n hx hb dX8_reset_90 rfl (lv_at hl 0 rfl) ?_
  refine lv_bipush (v := 48) hx hb dX8_reset_91 (by decide) ?_
  refine lv_icmp_ge (tgt := 109) hx hb dX8_reset_93 (by decide) (fun c => absurd c (by decide)) (fun _ => ?_)
  refine lv_aload_n hx hb dX8_reset_96 rfl (lv_at hl 1 rfl) ?_
  refine va_get (D := (dC, dI)) (ci := 8) (v := .ref yr) (C := RX8) (T := TX8) (N := 43) hx hb hts hinX8 hown hK hP 0 rfl rfl 3 (by decide) k_1 (fun _ h9 => h9) rfl dX8_reset_97 ?_
  refine lv_iload_n hx hb dX8_reset_100 rfl (lv_at hl 0 rfl) ?_
  refine lv_iconst (v := 0) hx hb dX8_reset_101 (by decide) ?_
  refine za_iast (f' := (jn [0, 4, 0, 0, 0, 0, 0, 0, 0, 0, 0, 0, 0, 0, 0, 0, 0, (-1), 0, 0, 0, 0, 0, 0] R0)) hx hb hK hP hD hS 1 0 rfl rfl (zin tn_28 (Nat.le_of_ble_eq_true rfl)) (zup_R0 tn_28 (by decide) (by decide)) dX8_reset_102 (fun H locs hP hD hS => ?_)
  have hP : va_P (dC, dI) vwCl [(y, .inr (8, [.ref yt, .int 0, .int 0, .ref yr, .ref yk, .ref yz, .ref yp, .int 0, .int 0, .int 0, .int 0, .ref yl, .ref yw, .int 0, .int 0, .int 0, .int 0, .int 0, .int 0, .int 0, .int 0, .int (-1), .ref yd, .int 0, .ref ys, .ref yn, .ref ym, .int 0, .ref yf, .ref yo, .ref yh, .ref yb, .int 0, .int 0, .int 0, .int 0, .int 0, .int 0, .int 0, .ref yx, .int 0, .int 0, .int 0])), (yr, .inl (cI, 4668, .inl (jn [0, 4, 0, 0, 0, 0, 0, 0, 0, 0, 0, 0, 0, 0, 0, 0, 0, (-1), 0, 0, 0, 0, 0, 0] R0)))] H := hP
  have hD : va_D A [(y, .inr (8, [.ref yt, .int 0, .int 0, .ref yr, .ref yk, .ref yz, .ref yp, .int 0, .int 0, .int 0, .int 0, .ref yl, .ref yw, .int 0, .int 0, .int 0, .int 0, .int 0, .int 0, .int 0, .int 0, .int (-1), .ref yd, .int 0, .ref ys, .ref yn, .ref ym, .int 0, .ref yf, .ref yo, .ref yh, .ref yb, .int 0, .int 0, .int 0, .int 0, .int 0, .int 0, .int 0, .ref yx, .int 0, .int 0, .int 0])), (yr, .inl (cI, 4668, .inl (jn [0, 4, 0, 0, 0, 0, 0, 0, 0, 0, 0, 0, 0, 0, 0, 0, 0, (-1), 0, 0, 0, 0, 0, 0] R0)))] := hD
  refine lv_iinc (v := 29) (lv' := [(1, .int 29), (0, .ref y)]) hx hb dX8_reset_103 hl (k := 0) rfl (by decide) (by decide) rfl (fun ls hl => ?_)
  refine lv_goto (tgt := 90) hx hb dX8_reset_106 (by decide) ?_
  refine lv_iload_n hx hb dX8_reset_90 rfl (lv_at hl 0 rfl) ?_
  refine lv_bipush (v := 48) hx hb dX8_reset_91 (by decide) ?_
  refine lv_icmp_ge (tgt := 109) hx hb dX8_reset_93 (by decide) (fun c => absurd c (by decide)) (fun _ => ?_)
  refine lv_aload_n hx hb dX8_reset_96 rfl (lv_at hl 1 rfl) ?_
  refine va_get (D := (dC, dI)) (ci := 8) (v := .ref yr) (C := RX8) (T := TX8) (N := 43) hx hb hts hinX8 hown hK hP 0 rfl rfl 3 (by decide) k_1 (fun _ h9 => h9) rfl dX8_reset_97 ?_
  refine lv_iload_n hx hb dX8_reset_100 rfl (lv_at hl 0 rfl) ?_
  refine lv_iconst (v := 0) hx hb dX8_reset_101 (by decide) ?_
  refine za_iast (f' := (jn [0, 4, 0, 0, 0, 0, 0, 0, 0, 0, 0, 0, 0, 0, 0, 0, 0, (-1), 0, 0, 0, 0, 0, 0] R0)) hx hb hK hP hD hS 1 0 rfl rfl (zin tn_29 (Nat.le_of_ble_eq_true rfl)) (zup_R0 tn_29 (by decide) (by decide)) dX8_reset_102 (fun H locs hP hD hS => ?_)
  have hP : va_P (dC, dI) vwCl [(y, .inr (8, [.ref yt, .int 0, .int 0, .ref yr, .ref yk, .ref yz, .ref yp, .int 0, .int 0, .int 0, .int 0, .ref yl, .ref yw, .int 0, .int 0, .int 0, .int 0, .int 0, .int 0, .int 0, .int 0, .int (-1), .ref yd, .int 0, .ref ys, .ref yn, .ref ym, .int 0, .ref yf, .ref yo, .ref yh, .ref yb, .int 0, .int 0, .int 0, .int 0, .int 0, .int 0, .int 0, .ref yx, .int 0, .int 0, .int 0])), (yr, .inl (cI, 4668, .inl (jn [0, 4, 0, 0, 0, 0, 0, 0, 0, 0, 0, 0, 0, 0, 0, 0, 0, (-1), 0, 0, 0, 0, 0, 0] R0)))] H := hP
  have hD : va_D A [(y, .inr (8, [.ref yt, .int 0, .int 0, .ref yr, .ref yk, .ref yz, .ref yp, .int 0, .int 0, .int 0, .int 0, .ref yl, .ref yw, .int 0, .int 0, .int 0, .int 0, .int 0, .int 0, .int 0, .int 0, .int (-1), .ref yd, .int 0, .ref ys, .ref yn, .ref ym, .int 0, .ref yf, .ref yo, .ref yh, .ref yb, .int 0, .int 0, .int 0, .int 0, .int 0, .int 0, .int 0, .ref yx, .int 0, .int 0, .int 0])), (yr, .inl (cI, 4668, .inl (jn [0, 4, 0, 0, 0, 0, 0, 0, 0, 0, 0, 0, 0, 0, 0, 0, 0, (-1), 0, 0, 0, 0, 0, 0] R0)))] := hD
  refine lv_iinc (v := 30) (lv' := [(1, .int 30), (0, .ref y)]) hx hb dX8_reset_103 hl (k := 0) rfl (by decide) (by decide) rfl (fun ls hl => ?_)
  refine lv_goto (tgt := 90) hx hb dX8_reset_106 (by decide) ?_
  refine lv_iload_n hx hb dX8_reset_90 rfl (lv_at hl 0 rfl) ?_
  refine lv_bipush (v := 48) hx hb dX8_reset_91 (by decide) ?_
  refine lv_icmp_ge (tgt := 109) hx hb dX8_reset_93 (by decide) (fun c => absurd c (by decide)) (fun _ => ?_)
  refine lv_aload_n hx hb dX8_reset_96 rfl (lv_at hl 1 rfl) ?_
  refine va_get (D := (dC, dI)) (ci := 8) (v := .ref yr) (C := RX8) (T := TX8) (N := 43) hx hb hts hinX8 hown hK hP 0 rfl rfl 3 (by decide) k_1 (fun _ h9 => h9) rfl dX8_reset_97 ?_
  refine lv_iload_n hx hb dX8_reset_100 rfl (lv_at hl 0 rfl) ?_
  refine lv_iconst (v := 0) hx hb dX8_reset_101 (by decide) ?_
  refine za_iast (f' := (jn [0, 4, 0, 0, 0, 0, 0, 0, 0, 0, 0, 0, 0, 0, 0, 0, 0, (-1), 0, 0, 0, 0, 0, 0] R0)) hx hb hK hP hD hS 1 0 rfl rfl (zin tn_30 (Nat.le_of_ble_eq_true rfl)) (zup_R0 tn_30 (by decide) (by decide)) dX8_reset_102 (fun H locs hP hD hS => ?_)
  have hP : va_P (dC, dI) vwCl [(y, .inr (8, [.ref yt, .int 0, .int 0, .ref yr, .ref yk, .ref yz, .ref yp, .int 0, .int 0, .int 0, .int 0, .ref yl, .ref yw, .int 0, .int 0, .int 0, .int 0, .int 0, .int 0, .int 0, .int 0, .int (-1), .ref yd, .int 0, .ref ys, .ref yn, .ref ym, .int 0, .ref yf, .ref yo, .ref yh, .ref yb, .int 0, .int 0, .int 0, .int 0, .int 0, .int 0, .int 0, .ref yx, .int 0, .int 0, .int 0])), (yr, .inl (cI, 4668, .inl (jn [0, 4, 0, 0, 0, 0, 0, 0, 0, 0, 0, 0, 0, 0, 0, 0, 0, (-1), 0, 0, 0, 0, 0, 0] R0)))] H := hP
  have hD : va_D A [(y, .inr (8, [.ref yt, .int 0, .int 0, .ref yr, .ref yk, .ref yz, .ref yp, .int 0, .int 0, .int 0, .int 0, .ref yl, .ref yw, .int 0, .int 0, .int 0, .int 0, .int 0, .int 0, .int 0, .int 0, .int (-1), .ref yd, .int 0, .ref ys, .ref yn, .ref ym, .int 0, .ref yf, .ref yo, .ref yh, .ref yb, .int 0, .int 0, .int 0, .int 0, .int 0, .int 0, .int 0, .ref yx, .int 0, .int 0, .int 0])), (yr, .inl (cI, 4668, .inl (jn [0, 4, 0, 0, 0, 0, 0, 0, 0, 0, 0, 0, 0, 0, 0, 0, 0, (-1), 0, 0, 0, 0, 0, 0] R0)))] := hD
  refine lv_iinc (v := 31) (lv' := [(1, .int 31), (0, .ref y)]) hx hb dX8_reset_103 hl (k := 0) rfl (by decide) (by decide) rfl (fun ls hl => ?_)
  refine lv_goto (tgt := 90) hx hb dX8_reset_106 (by decide) ?_
  refine lv_iload_n hx hb dX8_reset_90 rfl (lv_at hl 0 rfl) ?_
  refine lv_bipush (v := 48) hx hb dX8_reset_91 (by decide) ?_
  refine lv_icmp_ge (tgt := 109) hx hb dX8_reset_93 (by decide) (fun c => absurd c (by decide)) (fun _ => ?_)
  refine lv_aload_n hx hb dX8_reset_96 rfl (lv_at hl 1 rfl) ?_
  refine va_get (D := (dC, dI)) (ci := 8) (v := .ref yr) (C := RX8) (T := TX8) (N := 43) hx hb hts hinX8 hown hK hP 0 rfl rfl 3 (by decide) k_1 (fun _ h9 => h9) rfl dX8_reset_97 ?_
  refine lv_iload_n hx hb dX8_reset_100 rfl (lv_at hl 0 rfl) ?_
  refine lv_iconst (v := 0) hx hb dX8_reset_101 (by decide) ?_
  refine za_iast (f' := (jn [0, 4, 0, 0, 0, 0, 0, 0, 0, 0, 0, 0, 0, 0, 0, 0, 0, (-1), 0, 0, 0, 0, 0, 0] R0)) hx hb hK hP hD hS 1 0 rfl rfl (zin tn_31 (Nat.le_of_ble_eq_true rfl)) (zup_R0 tn_31 (by decide) (by decide)) dX8_reset_102 (fun H locs hP hD hS => ?_)
  have hP : va_P (dC, dI) vwCl [(y, .inr (8, [.ref yt, .int 0, .int 0, .ref yr, .ref yk, .ref yz, .ref yp, .int 0, .int 0, .int 0, .int 0, .ref yl, .ref yw, .int 0, .int 0, .int 0, .int 0, .int 0, .int 0, .int 0, .int 0, .int (-1), .ref yd, .int 0, .ref ys, .ref yn, .ref ym, .int 0, .ref yf, .ref yo, .ref yh, .ref yb, .int 0, .int 0, .int 0, .int 0, .int 0, .int 0, .int 0, .ref yx, .int 0, .int 0, .int 0])), (yr, .inl (cI, 4668, .inl (jn [0, 4, 0, 0, 0, 0, 0, 0, 0, 0, 0, 0, 0, 0, 0, 0, 0, (-1), 0, 0, 0, 0, 0, 0] R0)))] H := hP
  have hD : va_D A [(y, .inr (8, [.ref yt, .int 0, .int 0, .ref yr, .ref yk, .ref yz, .ref yp, .int 0, .int 0, .int 0, .int 0, .ref yl, .ref yw, .int 0, .int 0, .int 0, .int 0, .int 0, .int 0, .int 0, .int 0, .int (-1), .ref yd, .int 0, .ref ys, .ref yn, .ref ym, .int 0, .ref yf, .ref yo, .ref yh, .ref yb, .int 0, .int 0, .int 0, .int 0, .int 0, .int 0, .int 0, .ref yx, .int 0, .int 0, .int 0])), (yr, .inl (cI, 4668, .inl (jn [0, 4, 0, 0, 0, 0, 0, 0, 0, 0, 0, 0, 0, 0, 0, 0, 0, (-1), 0, 0, 0, 0, 0, 0] R0)))] := hD
  refine lv_iinc (v := 32) (lv' := [(1, .int 32), (0, .ref y)]) hx hb dX8_reset_103 hl (k := 0) rfl (by decide) (by decide) rfl (fun ls hl => ?_)
  refine lv_goto (tgt := 90) hx hb dX8_reset_106 (by decide) ?_
  refine lv_iload_n hx hb dX8_reset_90 rfl (lv_at hl 0 rfl) ?_
  refine lv_bipush (v := 48) hx hb dX8_reset_91 (by decide) ?_
  refine lv_icmp_ge (tgt := 109) hx hb dX8_reset_93 (by decide) (fun c => absurd c (by decide)) (fun _ => ?_)
  refine lv_aload_n hx hb dX8_reset_96 rfl (lv_at hl 1 rfl) ?_
  refine va_get (D := (dC, dI)) (ci := 8) (v := .ref yr) (C := RX8) (T := TX8) (N := 43) hx hb hts hinX8 hown hK hP 0 rfl rfl 3 (by decide) k_1 (fun _ h9 => h9) rfl dX8_reset_97 ?_
  refine lv_iload_n hx hb dX8_reset_100 rfl (lv_at hl 0 rfl) ?_
  refine lv_iconst (v := 0) hx hb dX8_reset_101 (by decide) ?_
  refine za_iast (f' := (jn [0, 4, 0, 0, 0, 0, 0, 0, 0, 0, 0, 0, 0, 0, 0, 0, 0, (-1), 0, 0, 0, 0, 0, 0] R0)) hx hb hK hP hD hS 1 0 rfl rfl (zin tn_32 (Nat.le_of_ble_eq_true rfl)) (zup_R0 tn_32 (by decide) (by decide)) dX8_reset_102 (fun H locs hP hD hS => ?_)
  have hP : va_P (dC, dI) vwCl [(y, .inr (8, [.ref yt, .int 0, .int 0, .ref yr, .ref yk, .ref yz, .ref yp, .int 0, .int 0, .int 0, .int 0, .ref yl, .ref yw, .int 0, .int 0, .int 0, .int 0, .int 0, .int 0, .int 0, .int 0, .int (-1), .ref yd, .int 0, .ref ys, .ref yn, .ref ym, .int 0, .ref yf, .ref yo, .ref yh, .ref yb, .int 0, .int 0, .int 0, .int 0, .int 0, .int 0, .int 0, .ref yx, .int 0, .int 0, .int 0])), (yr, .inl (cI, 4668, .inl (jn [0, 4, 0, 0, 0, 0, 0, 0, 0, 0, 0, 0, 0, 0, 0, 0, 0, (-1), 0, 0, 0, 0, 0, 0] R0)))] H := hP
  have hD : va_D A [(y, .inr (8, [.ref yt, .int 0, .int 0, .ref yr, .ref yk, .ref yz, .ref yp, .int 0, .int 0, .int 0, .int 0, .ref yl, .ref yw, .int 0, .int 0, .int 0, .int 0, .int 0, .int 0, .int 0, .int 0, .int (-1), .ref yd, .int 0, .ref ys, .ref yn, .ref ym, .int 0, .ref yf, .ref yo, .ref yh, .ref yb, .int 0, .int 0, .int 0, .int 0, .int 0, .int 0, .int 0, .ref yx, .int 0, .int 0, .int 0])), (yr, .inl (cI, 4668, .inl (jn [0, 4, 0, 0, 0, 0, 0, 0, 0, 0, 0, 0, 0, 0, 0, 0, 0, (-1), 0, 0, 0, 0, 0, 0] R0)))] := hD
  refine lv_iinc (v := 33) (lv' := [(1, .int 33), (0, .ref y)]) hx hb dX8_reset_103 hl (k := 0) rfl (by decide) (by decide) rfl (fun ls hl => ?_)
  refine lv_goto (tgt := 90) hx hb dX8_reset_106 (by decide) ?_
  refine lv_iload_n hx hb dX8_reset_90 rfl (lv_at hl 0 rfl) ?_
  refine lv_bipush (v := 48) hx hb dX8_reset_91 (by decide) ?_
  refine lv_icmp_ge (tgt := 109) hx hb dX8_reset_93 (by decide) (fun c => absurd c (by decide)) (fun _ => ?_)
  refine lv_aload_n hx hb dX8_reset_96 rfl (lv_at hl 1 rfl) ?_
  refine va_get (D := (dC, dI)) (ci := 8) (v := .ref yr) (C := RX8) (T := TX8) (N := 43) hx hb hts hinX8 hown hK hP 0 rfl rfl 3 (by decide) k_1 (fun _ h9 => h9) rfl dX8_reset_97 ?_
  refine lv_iload_n hx hb dX8_reset_100 rfl (lv_at hl 0 rfl) ?_
  refine lv_iconst (v := 0) hx hb dX8_reset_101 (by decide) ?_
  refine za_iast (f' := (jn [0, 4, 0, 0, 0, 0, 0, 0, 0, 0, 0, 0, 0, 0, 0, 0, 0, (-1), 0, 0, 0, 0, 0, 0] R0)) hx hb hK hP hD hS 1 0 rfl rfl (zin tn_33 (Nat.le_of_ble_eq_true rfl)) (zup_R0 tn_33 (by decide) (by decide)) dX8_reset_102 (fun H locs hP hD hS => ?_)
  have hP : va_P (dC, dI) vwCl [(y, .inr (8, [.ref yt, .int 0, .int 0, .ref yr, .ref yk, .ref yz, .ref yp, .int 0, .int 0, .int 0, .int 0, .ref yl, .ref yw, .int 0, .int 0, .int 0, .int 0, .int 0, .int 0, .int 0, .int 0, .int (-1), .ref yd, .int 0, .ref ys, .ref yn, .ref ym, .int 0, .ref yf, .ref yo, .ref yh, .ref yb, .int 0, .int 0, .int 0, .int 0, .int 0, .int 0, .int 0, .ref yx, .int 0, .int 0, .int 0])), (yr, .inl (cI, 4668, .inl (jn [0, 4, 0, 0, 0, 0, 0, 0, 0, 0, 0, 0, 0, 0, 0, 0, 0, (-1), 0, 0, 0, 0, 0, 0] R0)))] H := hP
  have hD : va_D A [(y, .inr (8, [.ref yt, .int 0, .int 0, .ref yr, .ref yk, .ref yz, .ref yp, .int 0, .int 0, .int 0, .int 0, .ref yl, .ref yw, .int 0, .int 0, .int 0, .int 0, .int 0, .int 0, .int 0, .int 0, .int (-1), .ref yd, .int 0, .ref ys, .ref yn, .ref ym, .int 0, .ref yf, .ref yo, .ref yh, .ref yb, .int 0, .int 0, .int 0, .int 0, .int 0, .int 0, .int 0, .ref yx, .int 0, .int 0, .int 0])), (yr, .inl (cI, 4668, .inl (jn [0, 4, 0, 0, 0, 0, 0, 0, 0, 0, 0, 0, 0, 0, 0, 0, 0, (-1), 0, 0, 0, 0, 0, 0] R0)))] := hD
  refine lv_iinc (v := 34) (lv' := [(1, .int 34), (0, .ref y)]) hx hb dX8_reset_103 hl (k := 0) rfl (by decide) (by decide) rfl (fun ls hl => ?_)
  refine lv_goto (tgt := 90) hx hb dX8_reset_106 (by decide) ?_
  refine lv_iload_n hx hb dX8_reset_90 rfl (lv_at hl 0 rfl) ?_
  refine lv_bipush (v := 48) hx hb dX8_reset_91 (by decide) ?_
  refine lv_icmp_ge (tgt := 109) hx hb dX8_reset_93 (by decide) (fun c => absurd c (by decide)) (fun _ => ?_)
  refine lv_aload_n hx hb dX8_reset_96 rfl (lv_at hl 1 rfl) ?_
  refine va_get (D := (dC, dI)) (ci := 8) (v := .ref yr) (C := RX8) (T := TX8) (N := 43) hx hb hts hinX8 hown hK hP 0 rfl rfl 3 (by decide) k_1 (fun _ h9 => h9) rfl dX8_reset_97 ?_
  refine lv_iload_n hx hb dX8_reset_100 rfl (lv_at hl 0 rfl) ?_
  refine lv_iconst (v := 0) hx hb dX8_reset_101 (by decide) ?_
  refine za_iast (f' := (jn [0, 4, 0, 0, 0, 0, 0, 0, 0, 0, 0, 0, 0, 0, 0, 0, 0, (-1), 0, 0, 0, 0, 0, 0] R0)) hx hb hK hP hD hS 1 0 rfl rfl (zin tn_34 (Nat.le_of_ble_eq_true rfl)) (zup_R0 tn_34 (by decide) (by decide)) dX8_reset_102 (fun H locs hP hD hS => ?_)
  have hP : va_P (dC, dI) vwCl [(y, .inr (8, [.ref yt, .int 0, .int 0, .ref yr, .ref yk, .ref yz, .ref yp, .int 0, .int 0, .int 0, .int 0, .ref yl, .ref yw, .int 0, .int 0, .int 0, .int 0, .int 0, .int 0, .int 0, .int 0, .int (-1), .ref yd, .int 0, .ref ys, .ref yn, .ref ym, .int 0, .ref yf, .ref yo, .ref yh, .ref yb, .int 0, .int 0, .int 0, .int 0, .int 0, .int 0, .int 0, .ref yx, .int 0, .int 0, .int 0])), (yr, .inl (cI, 4668, .inl (jn [0, 4, 0, 0, 0, 0, 0, 0, 0, 0, 0, 0, 0, 0, 0, 0, 0, (-1), 0, 0, 0, 0, 0, 0] R0)))] H := hP
  have hD : va_D A [(y, .inr (8, [.ref yt, .int 0, .int 0, .ref yr, .ref yk, .ref yz, .ref yp, .int 0, .int 0, .int 0, .int 0, .ref yl, .ref yw, .int 0, .int 0, .int 0, .int 0, .int 0, .int 0, .int 0, .int 0, .int (-1), .ref yd, .int 0, .ref ys, .ref yn, .ref ym, .int 0, .ref yf, .ref yo, .ref yh, .ref yb, .int 0, .int 0, .int 0, .int 0, .int 0, .int 0, .int 0, .ref yx, .int 0, .int 0, .int 0])), (yr, .inl (cI, 4668, .inl (jn [0, 4, 0, 0, 0, 0, 0, 0, 0, 0, 0, 0, 0, 0, 0, 0, 0, (-1), 0, 0, 0, 0, 0, 0] R0)))] := hD
  refine lv_iinc (v := 35) (lv' := [(1, .int 35), (0, .ref y)]) hx hb dX8_reset_103 hl (k := 0) rfl (by decide) (by decide) rfl (fun ls hl => ?_)
  refine lv_goto (tgt := 90) hx hb dX8_reset_106 (by decide) ?_
  refine lv_iload_n hx hb dX8_reset_90 rfl (lv_at hl 0 rfl) ?_
  refine lv_bipush (v := 48) hx hb dX8_reset_91 (by decide) ?_
  refine lv_icmp_ge (tgt := 109) hx hb dX8_reset_93 (by decide) (fun c => absurd c (by decide)) (fun _ => ?_)
  refine lv_aload_n hx hb dX8_reset_96 rfl (lv_at hl 1 rfl) ?_
  refine va_get (D := (dC, dI)) (ci := 8) (v := .ref yr) (C := RX8) (T := TX8) (N := 43) hx hb hts hinX8 hown hK hP 0 rfl rfl 3 (by decide) k_1 (fun _ h9 => h9) rfl dX8_reset_97 ?_
  refine lv_iload_n hx hb dX8_reset_100 rfl (lv_at hl 0 rfl) ?_
  refine lv_iconst (v := 0) hx hb dX8_reset_101 (by decide) ?_
  refine za_iast (f' := (jn [0, 4, 0, 0, 0, 0, 0, 0, 0, 0, 0, 0, 0, 0, 0, 0, 0, (-1), 0, 0, 0, 0, 0, 0] R0)) hx hb hK hP hD hS 1 0 rfl rfl (zin tn_35 (Nat.le_of_ble_eq_true rfl)) (zup_R0 tn_35 (by decide) (by decide)) dX8_reset_102 (fun H locs hP hD hS => ?_)
  have hP : va_P (dC, dI) vwCl [(y, .inr (8, [.ref yt, .int 0, .int 0, .ref yr, .ref yk, .ref yz, .ref yp, .int 0, .int 0, .int 0, .int 0, .ref yl, .ref yw, .int 0, .int 0, .int 0, .int 0, .int 0, .int 0, .int 0, .int 0, .int (-1), .ref yd, .int 0, .ref ys, .ref yn, .ref ym, .int 0, .ref yf, .ref yo, .ref yh, .ref yb, .int 0, .int 0, .int 0, .int 0, .int 0, .int 0, .int 0, .ref yx, .int 0, .int 0, .int 0])), (yr, .inl (cI, 4668, .inl (jn [0, 4, 0, 0, 0, 0, 0, 0, 0, 0, 0, 0, 0, 0, 0, 0, 0, (-1), 0, 0, 0, 0, 0, 0] R0)))] H := hP
  have hD : va_D A [(y, .inr (8, [.ref yt, .int 0, .int 0, .ref yr, .ref yk, .ref yz, .ref yp, .int 0, .int 0, .int 0, .int 0, .ref yl, .ref yw, .int 0, .int 0, .int 0, .int 0, .int 0, .int 0, .int 0, .int 0, .int (-1), .ref yd, .int 0, .ref ys, .ref yn, .ref ym, .int 0, .ref yf, .ref yo, .ref yh, .ref yb, .int 0, .int 0, .int 0, .int 0, .int 0, .int 0, .int 0, .ref yx, .int 0, .int 0, .int 0])), (yr, .inl (cI, 4668, .inl (jn [0, 4, 0, 0, 0, 0, 0, 0, 0, 0, 0, 0, 0, 0, 0, 0, 0, (-1), 0, 0, 0, 0, 0, 0] R0)))] := hD
  refine lv_iinc (v := 36) (lv' := [(1, .int 36), (0, .ref y)]) hx hb dX8_reset_103 hl (k := 0) rfl (by decide) (by decide) rfl (fun ls hl => ?_)
  refine lv_goto (tgt := 90) hx hb dX8_reset_106 (by decide) ?_
  refine lv_iload_n hx hb dX8_reset_90 rfl (lv_at hl 0 rfl) ?_
  refine lv_bipush (v := 48) hx hb dX8_reset_91 (by decide) ?_
  refine lv_icmp_ge (tgt := 109) hx hb dX8_reset_93 (by decide) (fun c => absurd c (by decide)) (fun _ => ?_)
  refine lv_aload_n hx hb dX8_reset_96 rfl (lv_at hl 1 rfl) ?_
  refine va_get (D := (dC, dI)) (ci := 8) (v := .ref yr) (C := RX8) (T := TX8) (N := 43) hx hb hts hinX8 hown hK hP 0 rfl rfl 3 (by decide) k_1 (fun _ h9 => h9) rfl dX8_reset_97 ?_
  refine lv_iload_n hx hb dX8_reset_100 rfl (lv_at hl 0 rfl) ?_
  refine lv_iconst (v := 0) hx hb dX8_reset_101 (by decide) ?_
  refine za_iast (f' := (jn [0, 4, 0, 0, 0, 0, 0, 0, 0, 0, 0, 0, 0, 0, 0, 0, 0, (-1), 0, 0, 0, 0, 0, 0] R0)) hx hb hK hP hD hS 1 0 rfl rfl (zin tn_36 (Nat.le_of_ble_eq_true rfl)) (zup_R0 tn_36 (by decide) (by decide)) dX8_reset_102 (fun H locs hP hD hS => ?_)
  have hP : va_P (dC, dI) vwCl [(y, .inr (8, [.ref yt, .int 0, .int 0, .ref yr, .ref yk, .ref yz, .ref yp, .int 0, .int 0, .int 0, .int 0, .ref yl, .ref yw, .int 0, .int 0, .int 0, .int 0, .int 0, .int 0, .int 0, .int 0, .int (-1), .ref yd, .int 0, .ref ys, .ref yn, .ref ym, .int 0, .ref yf, .ref yo, .ref yh, .ref yb, .int 0, .int 0, .int 0, .int 0, .int 0, .int 0, .int 0, .ref yx, .int 0, .int 0, .int 0])), (yr, .inl (cI, 4668, .inl (jn [0, 4, 0, 0, 0, 0, 0, 0, 0, 0, 0, 0, 0, 0, 0, 0, 0, (-1), 0, 0, 0, 0, 0, 0] R0)))] H := hP
  have hD : va_D A [(y, .inr (8, [.ref yt, .int 0, .int 0, .ref yr, .ref yk, .ref yz, .ref yp, .int 0, .int 0, .int 0, .int 0, .ref yl, .ref yw, .int 0, .int 0, .int 0, .int 0, .int 0, .int 0, .int 0, .int 0, .int (-1), .ref yd, .int 0, .ref ys, .ref yn, .ref ym, .int 0, .ref yf, .ref yo, .ref yh, .ref yb, .int 0, .int 0, .int 0, .int 0, .int 0, .int 0, .int 0, .ref yx, .int 0, .int 0, .int 0])), (yr, .inl (cI, 4668, .inl (jn [0, 4, 0, 0, 0, 0, 0, 0, 0, 0, 0, 0, 0, 0, 0, 0, 0, (-1), 0, 0, 0, 0, 0, 0] R0)))] := hD
  refine lv_iinc (v := 37) (lv' := [(1, .int 37), (0, .ref y)]) hx hb dX8_reset_103 hl (k := 0) rfl (by decide) (by decide) rfl (fun ls hl => ?_)
  refine lv_goto (tgt := 90) hx hb dX8_reset_106 (by decide) ?_
  refine lv_iload_n hx hb dX8_reset_90 rfl (lv_at hl 0 rfl) ?_
  refine lv_bipush (v := 48) hx hb dX8_reset_91 (by decide) ?_
  refine lv_icmp_ge (tgt := 109) hx hb dX8_reset_93 (by decide) (fun c => absurd c (by decide)) (fun _ => ?_)
  refine lv_aload_n hx hb dX8_reset_96 rfl (lv_at hl 1 rfl) ?_
  refine va_get (D := (dC, dI)) (ci := 8) (v := .ref yr) (C := RX8) (T := TX8) (N := 43) hx hb hts hinX8 hown hK hP 0 rfl rfl 3 (by decide) k_1 (fun _ h9 => h9) rfl dX8_reset_97 ?_
  refine lv_iload_n hx hb dX8_reset_100 rfl (lv_at hl 0 rfl) ?_
  refine lv_iconst (v := 0) hx hb dX8_reset_101 (by decide) ?_
  refine za_iast (f' := (jn [0, 4, 0, 0, 0, 0, 0, 0, 0, 0, 0, 0, 0, 0, 0, 0, 0, (-1), 0, 0, 0, 0, 0, 0] R0)) hx hb hK hP hD hS 1 0 rfl rfl (zin tn_37 (Nat.le_of_ble_eq_true rfl)) (zup_R0 tn_37 (by decide) (by decide)) dX8_reset_102 (fun H locs hP hD hS => ?_)
  have hP : va_P (dC, dI) vwCl [(y, .inr (8, [.ref yt, .int 0, .int 0, .ref yr, .ref yk, .ref yz, .ref yp, .int 0, .int 0, .int 0, .int 0, .ref yl, .ref yw, .int 0, .int 0, .int 0, .int 0, .int 0, .int 0, .int 0, .int 0, .int (-1), .ref yd, .int 0, .ref ys, .ref yn, .ref ym, .int 0, .ref yf, .ref yo, .ref yh, .ref yb, .int 0, .int 0, .int 0, .int 0, .int 0, .int 0, .int 0, .ref yx, .int 0, .int 0, .int 0])), (yr, .inl (cI, 4668, .inl (jn [0, 4, 0, 0, 0, 0, 0, 0, 0, 0, 0, 0, 0, 0, 0, 0, 0, (-1), 0, 0, 0, 0, 0, 0] R0)))] H := hP
  have hD : va_D A [(y, .inr (8, [.ref yt, .int 0, .int 0, .ref yr, .ref yk, .ref yz, .ref yp, .int 0, .int 0, .int 0, .int 0, .ref yl, .ref yw, .int 0, .int 0, .int 0, .int 0, .int 0, .int 0, .int 0, .int 0, .int (-1), .ref yd, .int 0, .ref ys, .ref yn, .ref ym, .int 0, .ref yf, .ref yo, .ref yh, .ref yb, .int 0, .int 0, .int 0, .int 0, .int 0, .int 0, .int 0, .ref yx, .int 0, .int 0, .int 0])), (yr, .inl (cI, 4668, .inl (jn [0, 4, 0, 0, 0, 0, 0, 0, 0, 0, 0, 0, 0, 0, 0, 0, 0, (-1), 0, 0, 0, 0, 0, 0] R0)))] := hD
  refine lv_iinc (v := 38) (lv' := [(1, .int 38), (0, .ref y)]) hx hb dX8_reset_103 hl (k := 0) rfl (by decide) (by decide) rfl (fun ls hl => ?_)
  refine lv_goto (tgt := 90) hx hb dX8_reset_106 (by decide) ?_
  refine lv_iload_n hx hb dX8_reset_90 rfl (lv_at hl 0 rfl) ?_
  refine lv_bipush (v := 48) hx hb dX8_reset_91 (by decide) ?_
  refine lv_icmp_ge (tgt := 109) hx hb dX8_reset_93 (by decide) (fun c => absurd c (by decide)) (fun _ => ?_)
  refine lv_aload_n hx hb dX8_reset_96 rfl (lv_at hl 1 rfl) ?_
  refine va_get (D := (dC, dI)) (ci := 8) (v := .ref yr) (C := RX8) (T := TX8) (N := 43) hx hb hts hinX8 hown hK hP 0 rfl rfl 3 (by decide) k_1 (fun _ h9 => h9) rfl dX8_reset_97 ?_
  refine lv_iload_n hx hb dX8_reset_100 rfl (lv_at hl 0 rfl) ?_
  refine lv_iconst (v := 0) hx hb dX8_reset_101 (by decide) ?_
  refine za_iast (f' := (jn [0, 4, 0, 0, 0, 0, 0, 0, 0, 0, 0, 0, 0, 0, 0, 0, 0, (-1), 0, 0, 0, 0, 0, 0] R0)) hx hb hK hP hD hS 1 0 rfl rfl (zin tn_38 (Nat.le_of_ble_eq_true rfl)) (zup_R0 tn_38 (by decide) (by decide)) dX8_reset_102 (fun H locs hP hD hS => ?_)
  have hP : va_P (dC, dI) vwCl [(y, .inr (8, [.ref yt, .int 0, .int 0, .ref yr, .ref yk, .ref yz, .ref yp, .int 0, .int 0, .int 0, .int 0, .ref yl, .ref yw, .int 0, .int 0, .int 0, .int 0, .int 0, .int 0, .int 0, .int 0, .int (-1), .ref yd, .int 0, .ref ys, .ref yn, .ref ym, .int 0, .ref yf, .ref yo, .ref yh, .ref yb, .int 0, .int 0, .int 0, .int 0, .int 0, .int 0, .int 0, .ref yx, .int 0, .int 0, .int 0])), (yr, .inl (cI, 4668, .inl (jn [0, 4, 0, 0, 0, 0, 0, 0, 0, 0, 0, 0, 0, 0, 0, 0, 0, (-1), 0, 0, 0, 0, 0, 0] R0)))] H := hP
  have hD : va_D A [(y, .inr (8, [.ref yt, .int 0, .int 0, .ref yr, .ref yk, .ref yz, .ref yp, .int 0, .int 0, .int 0, .int 0, .ref yl, .ref yw, .int 0, .int 0, .int 0, .int 0, .int 0, .int 0, .int 0, .int 0, .int (-1), .ref yd, .int 0, .ref ys, .ref yn, .ref ym, .int 0, .ref yf, .ref yo, .ref yh, .ref yb, .int 0, .int 0, .int 0, .int 0, .int 0, .int 0, .int 0, .ref yx, .int 0, .int 0, .int 0])), (yr, .inl (cI, 4668, .inl (jn [0, 4, 0, 0, 0, 0, 0, 0, 0, 0, 0, 0, 0, 0, 0, 0, 0, (-1), 0, 0, 0, 0, 0, 0] R0)))] := hD
  refine lv_iinc (v := 39) (lv' := [(1, .int 39), (0, .ref y)]) hx hb dX8_reset_103 hl (k := 0) rfl (by decide) (by decide) rfl (fun ls hl => ?_)
  refine lv_goto (tgt := 90) hx hb dX8_reset_106 (by decide) ?_
  refine lv_iload_n hx hb dX8_reset_90 rfl (lv_at hl 0 rfl) ?_
  refine lv_bipush (v := 48) hx hb dX8_reset_91 (by decide) ?_
  refine lv_icmp_ge (tgt := 109) hx hb dX8_reset_93 (by decide) (fun c => absurd c (by decide)) (fun _ => ?_)
  refine lv_aload_n hx hb dX8_reset_96 rfl (lv_at hl 1 rfl) ?_
  refine va_get (D := (dC, dI)) (ci := 8) (v := .ref yr) (C := RX8) (T := TX8) (N := 43) hx hb hts hinX8 hown hK hP 0 rfl rfl 3 (by decide) k_1 (fun _ h9 => h9) rfl dX8_reset_97 ?_
  refine lv_iload_n hx hb dX8_reset_100 rfl (lv_at hl 0 rfl) ?_
  refine lv_iconst (v := 0) hx hb dX8_reset_101 (by decide) ?_
  refine za_iast (f' := (jn [0, 4, 0, 0, 0, 0, 0, 0, 0, 0, 0, 0, 0, 0, 0, 0, 0, (-1), 0, 0, 0, 0, 0, 0] R0)) hx hb hK hP hD hS 1 0 rfl rfl (zin tn_39 (Nat.le_of_ble_eq_true rfl)) (zup_R0 tn_39 (by decide) (by decide)) dX8_reset_102 (fun H locs hP hD hS => ?_)
  have hP : va_P (dC, dI) vwCl [(y, .inr (8, [.ref yt, .int 0, .int 0, .ref yr, .ref yk, .ref yz, .ref yp, .int 0, .int 0, .int 0, .int 0, .ref yl, .ref yw, .int 0, .int 0, .int 0, .int 0, .int 0, .int 0, .int 0, .int 0, .int (-1), .ref yd, .int 0, .ref ys, .ref yn, .ref ym, .int 0, .ref yf, .ref yo, .ref yh, .ref yb, .int 0, .int 0, .int 0, .int 0, .int 0, .int 0, .int 0, .ref yx, .int 0, .int 0, .int 0])), (yr, .inl (cI, 4668, .inl (jn [0, 4, 0, 0, 0, 0, 0, 0, 0, 0, 0, 0, 0, 0, 0, 0, 0, (-1), 0, 0, 0, 0, 0, 0] R0)))] H := hP
  have hD : va_D A [(y, .inr (8, [.ref yt, .int 0, .int 0, .ref yr, .ref yk, .ref yz, .ref yp, .int 0, .int 0, .int 0, .int 0, .ref yl, .ref yw, .int 0, .int 0, .int 0, .int 0, .int 0, .int 0, .int 0, .int 0, .int (-1), .ref yd, .int 0, .ref ys, .ref yn, .ref ym, .int 0, .ref yf, .ref yo, .ref yh, .ref yb, .int 0, .int 0, .int 0, .int 0, .int 0, .int 0, .int 0, .ref yx, .int 0, .int 0, .int 0])), (yr, .inl (cI, 4668, .inl (jn [0, 4, 0, 0, 0, 0, 0, 0, 0, 0, 0, 0, 0, 0, 0, 0, 0, (-1), 0, 0, 0, 0, 0, 0] R0)))] := hD
  refine lv_iinc (v := 40) (lv' := [(1, .int 40), (0, .ref y)]) hx hb dX8_reset_103 hl (k := 0) rfl (by decide) (by decide) rfl (fun ls hl => ?_)
  refine lv_goto (tgt := 90) hx hb dX8_reset_106 (by decide) ?_
  refine lv_iload_n hx hb dX8_reset_90 rfl (lv_at hl 0 rfl) ?_
  refine lv_bipush (v := 48) hx hb dX8_reset_91 (by decide) ?_
  refine lv_icmp_ge (tgt := 109) hx hb dX8_reset_93 (by decide) (fun c => absurd c (by decide)) (fun _ => ?_)
  refine lv_aload_n hx hb dX8_reset_96 rfl (lv_at hl 1 rfl) ?_
  refine va_get (D := (dC, dI)) (ci := 8) (v := .ref yr) (C := RX8) (T := TX8) (N := 43) hx hb hts hinX8 hown hK hP 0 rfl rfl 3 (by decide) k_1 (fun _ h9 => h9) rfl dX8_reset_97 ?_
  refine lv_iload_n hx hb dX8_reset_100 rfl (lv_at hl 0 rfl) ?_
  refine lv_iconst (v := 0) hx hb dX8_reset_101 (by decide) ?_
  refine za_iast (f' := (jn [0, 4, 0, 0, 0, 0, 0, 0, 0, 0, 0, 0, 0, 0, 0, 0, 0, (-1), 0, 0, 0, 0, 0, 0] R0)) hx hb hK hP hD hS 1 0 rfl rfl (zin tn_40 (Nat.le_of_ble_eq_true rfl)) (zup_R0 tn_40 (by decide) (by decide)) dX8_reset_102 (fun H locs hP hD hS => ?_)
  have hP : va_P (dC, dI) vwCl [(y, .inr (8, [.ref yt, .int 0, .int 0, .ref yr, .ref yk, .ref yz, .ref yp, .int 0, .int 0, .int 0, .int 0, .ref yl, .ref yw, .int 0, .int 0, .int 0, .int 0, .int 0, .int 0, .int 0, .int 0, .int (-1), .ref yd, .int 0, .ref ys, .ref yn, .ref ym, .int 0, .ref yf, .ref yo, .ref yh, .ref yb, .int 0, .int 0, .int 0, .int 0, .int 0, .int 0, .int 0, .ref yx, .int 0, .int 0, .int 0])), (yr, .inl (cI, 4668, .inl (jn [0, 4, 0, 0, 0, 0, 0, 0, 0, 0, 0, 0, 0, 0, 0, 0, 0, (-1), 0, 0, 0, 0, 0, 0] R0)))] H := hP
  have hD : va_D A [(y, .inr (8, [.ref yt, .int 0, .int 0, .ref yr, .ref yk, .ref yz, .ref yp, .int 0, .int 0, .int 0, .int 0, .ref yl, .ref yw, .int 0, .int 0, .int 0, .int 0, .int 0, .int 0, .int 0, .int 0, .int (-1), .ref yd, .int 0, .ref ys, .ref yn, .ref ym, .int 0, .ref yf, .ref yo, .ref yh, .ref yb, .int 0, .int 0, .int 0, .int 0, .int 0, .int 0, .int 0, .ref yx, .int 0, .int 0, .int 0])), (yr, .inl (cI, 4668, .inl (jn [0, 4, 0, 0, 0, 0, 0, 0, 0, 0, 0, 0, 0, 0, 0, 0, 0, (-1), 0, 0, 0, 0, 0, 0] R0)))] := hD
  refine lv_iinc (v := 41) (lv' := [(1, .int 41), (0, .ref y)]) hx hb dX8_reset_103 hl (k := 0) rfl (by decide) (by decide) rfl (fun ls hl => ?_)
  refine lv_goto (tgt := 90) hx hb dX8_reset_106 (by decide) ?_
  refine lv_iload_n hx hb dX8_reset_90 rfl (lv_at hl 0 rfl) ?_
  refine lv_bipush (v := 48) hx hb dX8_reset_91 (by decide) ?_
  refine lv_icmp_ge (tgt := 109) hx hb dX8_reset_93 (by decide) (fun c => absurd c (by decide)) (fun _ => ?_)
  refine lv_aload_n hx hb dX8_reset_96 rfl (lv_at hl 1 rfl) ?_
  refine va_get (D := (dC, dI)) (ci := 8) (v := .ref yr) (C := RX8) (T := TX8) (N := 43) hx hb hts hinX8 hown hK hP 0 rfl rfl 3 (by decide) k_1 (fun _ h9 => h9) rfl dX8_reset_97 ?_
  refine lv_iload_n hx hb dX8_reset_100 rfl (lv_at hl 0 rfl) ?_
  refine lv_iconst (v := 0) hx hb dX8_reset_101 (by decide) ?_
  refine za_iast (f' := (jn [0, 4, 0, 0, 0, 0, 0, 0, 0, 0, 0, 0, 0, 0, 0, 0, 0, (-1), 0, 0, 0, 0, 0, 0] R0)) hx hb hK hP hD hS 1 0 rfl rfl (zin tn_41 (Nat.le_of_ble_eq_true rfl)) (zup_R0 tn_41 (by decide) (by decide)) dX8_reset_102 (fun H locs hP hD hS => ?_)
  have hP : va_P (dC, dI) vwCl [(y, .inr (8, [.ref yt, .int 0, .int 0, .ref yr, .ref yk, .ref yz, .ref yp, .int 0, .int 0, .int 0, .int 0, .ref yl, .ref yw, .int 0, .int 0, .int 0, .int 0, .int 0, .int 0, .int 0, .int 0, .int (-1), .ref yd, .int 0, .ref ys, .ref yn, .ref ym, .int 0, .ref yf, .ref yo, .ref yh, .ref yb, .int 0, .int 0, .int 0, .int 0, .int 0, .int 0, .int 0, .ref yx, .int 0, .int 0, .int 0])), (yr, .inl (cI, 4668, .inl (jn [0, 4, 0, 0, 0, 0, 0, 0, 0, 0, 0, 0, 0, 0, 0, 0, 0, (-1), 0, 0, 0, 0, 0, 0] R0)))] H := hP
  have hD : va_D A [(y, .inr (8, [.ref yt, .int 0, .int 0, .ref yr, .ref yk, .ref yz, .ref yp, .int 0, .int 0, .int 0, .int 0, .ref yl, .ref yw, .int 0, .int 0, .int 0, .int 0, .int 0, .int 0, .int 0, .int 0, .int (-1), .ref yd, .int 0, .ref ys, .ref yn, .ref ym, .int 0, .ref yf, .ref yo, .ref yh, .ref yb, .int 0, .int 0, .int 0, .int 0, .int 0, .int 0, .int 0, .ref yx, .int 0, .int 0, .int 0])), (yr, .inl (cI, 4668, .inl (jn [0, 4, 0, 0, 0, 0, 0, 0, 0, 0, 0, 0, 0, 0, 0, 0, 0, (-1), 0, 0, 0, 0, 0, 0] R0)))] := hD
  refine lv_iinc (v := 42) (lv' := [(1, .int 42), (0, .ref y)]) hx hb dX8_reset_103 hl (k := 0) rfl (by decide) (by decide) rfl (fun ls hl => ?_)
  refine lv_goto (tgt := 90) hx hb dX8_reset_106 (by decide) ?_
  refine lv_iload_n hx hb dX8_reset_90 rfl (lv_at hl 0 rfl) ?_
  refine lv_bipush (v := 48) hx hb dX8_reset_91 (by decide) ?_
  refine lv_icmp_ge (tgt := 109) hx hb dX8_reset_93 (by decide) (fun c => absurd c (by decide)) (fun _ => ?_)
  refine lv_aload_n hx hb dX8_reset_96 rfl (lv_at hl 1 rfl) ?_
  refine va_get (D := (dC, dI)) (ci := 8) (v := .ref yr) (C := RX8) (T := TX8) (N := 43) hx hb hts hinX8 hown hK hP 0 rfl rfl 3 (by decide) k_1 (fun _ h9 => h9) rfl dX8_reset_97 ?_
  refine lv_iload_n hx hb dX8_reset_100 rfl (lv_at hl 0 rfl) ?_
  refine lv_iconst (v := 0) hx hb dX8_reset_101 (by decide) ?_
  refine za_iast (f' := (jn [0, 4, 0, 0, 0, 0, 0, 0, 0, 0, 0, 0, 0, 0, 0, 0, 0, (-1), 0, 0, 0, 0, 0, 0] R0)) hx hb hK hP hD hS 1 0 rfl rfl (zin tn_42 (Nat.le_of_ble_eq_true rfl)) (zup_R0 tn_42 (by decide) (by decide)) dX8_reset_102 (fun H locs hP hD hS => ?_)
  have hP : va_P (dC, dI) vwCl [(y, .inr (8, [.ref yt, .int 0, .int 0, .ref yr, .ref yk, .ref yz, .ref yp, .int 0, .int 0, .int 0, .int 0, .ref yl, .ref yw, .int 0, .int 0, .int 0, .int 0, .int 0, .int 0, .int 0, .int 0, .int (-1), .ref yd, .int 0, .ref ys, .ref yn, .ref ym, .int 0, .ref yf, .ref yo, .ref yh, .ref yb, .int 0, .int 0, .int 0, .int 0, .int 0, .int 0, .int 0, .ref yx, .int 0, .int 0, .int 0])), (yr, .inl (cI, 4668, .inl (jn [0, 4, 0, 0, 0, 0, 0, 0, 0, 0, 0, 0, 0, 0, 0, 0, 0, (-1), 0, 0, 0, 0, 0, 0] R0)))] H := hP
  have hD : va_D A [(y, .inr (8, [.ref yt, .int 0, .int 0, .ref yr, .ref yk, .ref yz, .ref yp, .int 0, .int 0, .int 0, .int 0, .ref yl, .ref yw, .int 0, .int 0, .int 0, .int 0, .int 0, .int 0, .int 0, .int 0, .int (-1), .ref yd, .int 0, .ref ys, .ref yn, .ref ym, .int 0, .ref yf, .ref yo, .ref yh, .ref yb, .int 0, .int 0, .int 0, .int 0, .int 0, .int 0, .int 0, .ref yx, .int 0, .int 0, .int 0])), (yr, .inl (cI, 4668, .inl (jn [0, 4, 0, 0, 0, 0, 0, 0, 0, 0, 0, 0, 0, 0, 0, 0, 0, (-1), 0, 0, 0, 0, 0, 0] R0)))] := hD
  refine lv_iinc (v := 43) (lv' := [(1, .int 43), (0, .ref y)]) hx hb dX8_reset_103 hl (k := 0) rfl (by decide) (by decide) rfl (fun ls hl => ?_)
  refine lv_goto (tgt := 90) hx hb dX8_reset_106 (by decide) ?_
  refine lv_iload_n hx hb dX8_reset_90 rfl (lv_at hl 0 rfl) ?_
  refine lv_bipush (v := 48) hx hb dX8_reset_91 (by decide) ?_
  refine lv_icmp_ge (tgt := 109) hx hb dX8_reset_93 (by decide) (fun c => absurd c (by decide)) (fun _ => ?_)
  refine lv_aload_n hx hb dX8_reset_96 rfl (lv_at hl 1 rfl) ?_
  refine va_get (D := (dC, dI)) (ci := 8) (v := .ref yr) (C := RX8) (T := TX8) (N := 43) hx hb hts hinX8 hown hK hP 0 rfl rfl 3 (by decide) k_1 (fun _ h9 => h9) rfl dX8_reset_97 ?_
  refine lv_iload_n hx hb dX8_reset_100 rfl (lv_at hl 0 rfl) ?_
  refine lv_iconst (v := 0) hx hb dX8_reset_101 (by decide) ?_
  refine za_iast (f' := (jn [0, 4, 0, 0, 0, 0, 0, 0, 0, 0, 0, 0, 0, 0, 0, 0, 0, (-1), 0, 0, 0, 0, 0, 0] R0)) hx hb hK hP hD hS 1 0 rfl rfl (zin tn_43 (Nat.le_of_ble_eq_true rfl)) (zup_R0 tn_43 (by decide) (by decide)) dX8_reset_102 (fun H locs hP hD hS => ?_)
  have hP : va_P (dC, dI) vwCl [(y, .inr (8, [.ref yt, .int 0, .int 0, .ref yr, .ref yk, .ref yz, .ref yp, .int 0, .int 0, .int 0, .int 0, .ref yl, .ref yw, .int 0, .int 0, .int 0, .int 0, .int 0, .int 0, .int 0, .int 0, .int (-1), .ref yd, .int 0, .ref ys, .ref yn, .ref ym, .int 0, .ref yf, .ref yo, .ref yh, .ref yb, .int 0, .int 0, .int 0, .int 0, .int 0, .int 0, .int 0, .ref yx, .int 0, .int 0, .int 0])), (yr, .inl (cI, 4668, .inl (jn [0, 4, 0, 0, 0, 0, 0, 0, 0, 0, 0, 0, 0, 0, 0, 0, 0, (-1), 0, 0, 0, 0, 0, 0] R0)))] H := hP
  have hD : va_D A [(y, .inr (8, [.ref yt, .int 0, .int 0, .ref yr, .ref yk, .ref yz, .ref yp, .int 0, .int 0, .int 0, .int 0, .ref yl, .ref yw, .int 0, .int 0, .int 0, .int 0, .int 0, .int 0, .int 0, .int 0, .int (-1), .ref yd, .int 0, .ref ys, .ref yn, .ref ym, .int 0, .ref yf, .ref yo, .ref yh, .ref yb, .int 0, .int 0, .int 0, .int 0, .int 0, .int 0, .int 0, .ref yx, .int 0, .int 0, .int 0])), (yr, .inl (cI, 4668, .inl (jn [0, 4, 0, 0, 0, 0, 0, 0, 0, 0, 0, 0, 0, 0, 0, 0, 0, (-1), 0, 0, 0, 0, 0, 0] R0)))] := hD
  refine lv_iinc (v := 44) (lv' := [(1, .int 44), (0, .ref y)]) hx hb dX8_reset_103 hl (k := 0) rfl (by decide) (by decide) rfl (fun ls hl => ?_)
  refine lv_goto (tgt := 90) hx hb dX8_reset_106 (by decide) ?_
  refine lv_iload_n hx hb dX8_reset_90 rfl (lv_at hl 0 rfl) ?_
  refine lv_bipush (v := 48) hx hb dX8_reset_91 (by decide) ?_
  refine lv_icmp_ge (tgt := 109) hx hb dX8_reset_93 (by decide) (fun c => absurd c (by decide)) (fun _ => ?_)
  refine lv_aload_n hx hb dX8_reset_96 rfl (lv_at hl 1 rfl) ?_
  refine va_get (D := (dC, dI)) (ci := 8) (v := .ref yr) (C := RX8) (T := TX8) (N := 43) hx hb hts hinX8 hown hK hP 0 rfl rfl 3 (by decide) k_1 (fun _ h9 => h9) rfl dX8_reset_97 ?_
  refine lv_iload_n hx hb dX8_reset_100 rfl (lv_at hl 0 rfl) ?_
  refine lv_iconst (v := 0) hx hb dX8_reset_101 (by decide) ?_
  refine za_iast (f' := (jn [0, 4, 0, 0, 0, 0, 0, 0, 0, 0, 0, 0, 0, 0, 0, 0, 0, (-1), 0, 0, 0, 0, 0, 0] R0)) hx hb hK hP hD hS 1 0 rfl rfl (zin tn_44 (Nat.le_of_ble_eq_true rfl)) (zup_R0 tn_44 (by decide) (by decide)) dX8_reset_102 (fun H locs hP hD hS => ?_)
  have hP : va_P (dC, dI) vwCl [(y, .inr (8, [.ref yt, .int 0, .int 0, .ref yr, .ref yk, .ref yz, .ref yp, .int 0, .int 0, .int 0, .int 0, .ref yl, .ref yw, .int 0, .int 0, .int 0, .int 0, .int 0, .int 0, .int 0, .int 0, .int (-1), .ref yd, .int 0, .ref ys, .ref yn, .ref ym, .int 0, .ref yf, .ref yo, .ref yh, .ref yb, .int 0, .int 0, .int 0, .int 0, .int 0, .int 0, .int 0, .ref yx, .int 0, .int 0, .int 0])), (yr, .inl (cI, 4668, .inl (jn [0, 4, 0, 0, 0, 0, 0, 0, 0, 0, 0, 0, 0, 0, 0, 0, 0, (-1), 0, 0, 0, 0, 0, 0] R0)))] H := hP
  have hD : va_D A [(y, .inr (8, [.ref yt, .int 0, .int 0, .ref yr, .ref yk, .ref yz, .ref yp, .int 0, .int 0, .int 0, .int 0, .ref yl, .ref yw, .int 0, .int 0, .int 0, .int 0, .int 0, .int 0, .int 0, .int 0, .int (-1), .ref yd, .int 0, .ref ys, .ref yn, .ref ym, .int 0, .ref yf, .ref yo, .ref yh, .ref yb, .int 0, .int 0, .int 0, .int 0, .int 0, .int 0, .int 0, .ref yx, .int 0, .int 0, .int 0])), (yr, .inl (cI, 4668, .inl (jn [0, 4, 0, 0, 0, 0, 0, 0, 0, 0, 0, 0, 0, 0, 0, 0, 0, (-1), 0, 0, 0, 0, 0, 0] R0)))] := hD
  refine lv_iinc (v := 45) (lv' := [(1, .int 45), (0, .ref y)]) hx hb dX8_reset_103 hl (k := 0) rfl (by decide) (by decide) rfl (fun ls hl => ?_)
  refine lv_goto (tgt := 90) hx hb dX8_reset_106 (by decide) ?_
  refine lv_iload_n hx hb dX8_reset_90 rfl (lv_at hl 0 rfl) ?_
  refine lv_bipush (v := 48) hx hb dX8_reset_91 (by decide) ?_
  refine lv_icmp_ge (tgt := 109) hx hb dX8_reset_93 (by decide) (fun c => absurd c (by decide)) (fun _ => ?_)
  refine lv_aload_n hx hb dX8_reset_96 rfl (lv_at hl 1 rfl) ?_
  refine va_get (D := (dC, dI)) (ci := 8) (v := .ref yr) (C := RX8) (T := TX8) (N := 43) hx hb hts hinX8 hown hK hP 0 rfl rfl 3 (by decide) k_1 (fun _ h9 => h9) rfl dX8_reset_97 ?_
  refine lv_iload_n hx hb dX8_reset_100 rfl (lv_at hl 0 rfl) ?_
  refine lv_iconst (v := 0) hx hb dX8_reset_101 (by decide) ?_
  refine za_iast (f' := (jn [0, 4, 0, 0, 0, 0, 0, 0, 0, 0, 0, 0, 0, 0, 0, 0, 0, (-1), 0, 0, 0, 0, 0, 0] R0)) hx hb hK hP hD hS 1 0 rfl rfl (zin tn_45 (Nat.le_of_ble_eq_true rfl)) (zup_R0 tn_45 (by decide) (by decide)) dX8_reset_102 (fun H locs hP hD hS => ?_)
  have hP : va_P (dC, dI) vwCl [(y, .inr (8, [.ref yt, .int 0, .int 0, .ref yr, .ref yk, .ref yz, .ref yp, .int 0, .int 0, .int 0, .int 0, .ref yl, .ref yw, .int 0, .int 0, .int 0, .int 0, .int 0, .int 0, .int 0, .int 0, .int (-1), .ref yd, .int 0, .ref ys, .ref yn, .ref ym, .int 0, .ref yf, .ref yo, .ref yh, .ref yb, .int 0, .int 0, .int 0, .int 0, .int 0, .int 0, .int 0, .ref yx, .int 0, .int 0, .int 0])), (yr, .inl (cI, 4668, .inl (jn [0, 4, 0, 0, 0, 0, 0, 0, 0, 0, 0, 0, 0, 0, 0, 0, 0, (-1), 0, 0, 0, 0, 0, 0] R0)))] H := hP
  have hD : va_D A [(y, .inr (8, [.ref yt, .int 0, .int 0, .ref yr, .ref yk, .ref yz, .ref yp, .int 0, .int 0, .int 0, .int 0, .ref yl, .ref yw, .int 0, .int 0, .int 0, .int 0, .int 0, .int 0, .int 0, .int 0, .int (-1), .ref yd, .int 0, .ref ys, .ref yn, .ref ym, .int 0, .ref yf, .ref yo, .ref yh, .ref yb, .int 0, .int 0, .int 0, .int 0, .int 0, .int 0, .int 0, .ref yx, .int 0, .int 0, .int 0])), (yr, .inl (cI, 4668, .inl (jn [0, 4, 0, 0, 0, 0, 0, 0, 0, 0, 0, 0, 0, 0, 0, 0, 0, (-1), 0, 0, 0, 0, 0, 0] R0)))] := hD
  refine lv_iinc (v := 46) (lv' := [(1, .int 46), (0, .ref y)]) hx hb dX8_reset_103 hl (k := 0) rfl (by decide) (by decide) rfl (fun ls hl => ?_)
  refine lv_goto (tgt := 90) hx hb dX8_reset_106 (by decide) ?_
  refine lv_iload_n hx hb dX8_reset_90 rfl (lv_at hl 0 rfl) ?_
  refine lv_bipush (v := 48) hx hb dX8_reset_91 (by decide) ?_
  refine lv_icmp_ge (tgt := 109) hx hb dX8_reset_93 (by decide) (fun c => absurd c (by decide)) (fun _ => ?_)
  refine lv_aload_n hx hb dX8_reset_96 rfl (lv_at hl 1 rfl) ?_
  refine va_get (D := (dC, dI)) (ci := 8) (v := .ref yr) (C := RX8) (T := TX8) (N := 43) hx hb hts hinX8 hown hK hP 0 rfl rfl 3 (by decide) k_1 (fun _ h9 => h9) rfl dX8_reset_97 ?_
  refine lv_iload_n hx hb dX8_reset_100 rfl (lv_at hl 0 rfl) ?_
  refine lv_iconst (v := 0) hx hb dX8_reset_101 (by decide) ?_
  refine za_iast (f' := (jn [0, 4, 0, 0, 0, 0, 0, 0, 0, 0, 0, 0, 0, 0, 0, 0, 0, (-1), 0, 0, 0, 0, 0, 0] R0)) hx hb hK hP hD hS 1 0 rfl rfl (zin tn_46 (Nat.le_of_ble_eq_true rfl)) (zup_R0 tn_46 (by decide) (by decide)) dX8_reset_102 (fun H locs hP hD hS => ?_)
  have hP : va_P (dC, dI) vwCl [(y, .inr (8, [.ref yt, .int 0, .int 0, .ref yr, .ref yk, .ref yz, .ref yp, .int 0, .int 0, .int 0, .int 0, .ref yl, .ref yw, .int 0, .int 0, .int 0, .int 0, .int 0, .int 0, .int 0, .int 0, .int (-1), .ref yd, .int 0, .ref ys, .ref yn, .ref ym, .int 0, .ref yf, .ref yo, .ref yh, .ref yb, .int 0, .int 0, .int 0, .int 0, .int 0, .int 0, .int 0, .ref yx, .int 0, .int 0, .int 0])), (yr, .inl (cI, 4668, .inl (jn [0, 4, 0, 0, 0, 0, 0, 0, 0, 0, 0, 0, 0, 0, 0, 0, 0, (-1), 0, 0, 0, 0, 0, 0] R0)))] H := hP
  have hD : va_D A [(y, .inr (8, [.ref yt, .int 0, .int 0, .ref yr, .ref yk, .ref yz, .ref yp, .int 0, .int 0, .int 0, .int 0, .ref yl, .ref yw, .int 0, .int 0, .int 0, .int 0, .int 0, .int 0, .int 0, .int 0, .int (-1), .ref yd, .int 0, .ref ys, .ref yn, .ref ym, .int 0, .ref yf, .ref yo, .ref yh, .ref yb, .int 0, .int 0, .int 0, .int 0, .int 0, .int 0, .int 0, .ref yx, .int 0, .int 0, .int 0])), (yr, .inl (cI, 4668, .inl (jn [0, 4, 0, 0, 0, 0, 0, 0, 0, 0, 0, 0, 0, 0, 0, 0, 0, (-1), 0, 0, 0, 0, 0, 0] R0)))] := hD
  refine lv_iinc (v := 47) (lv' := [(1, .int 47), (0, .ref y)]) hx hb dX8_reset_103 hl (k := 0) rfl (by decide) (by decide) rfl (fun ls hl => ?_)
  refine lv_goto (tgt := 90) hx hb dX8_reset_106 (by decide) ?_
  refine lv_iload_n hx hb dX8_reset_90 rfl (lv_at hl 0 rfl) ?_
  refine lv_bipush (v := 48) hx hb dX8_reset_91 (by decide) ?_
  refine lv_icmp_ge (tgt := 109) hx hb dX8_reset_93 (by decide) (fun c => absurd c (by decide)) (fun _ => ?_)
  refine lv_aload_n hx hb dX8_reset_96 rfl (lv_at hl 1 rfl) ?_
  refine va_get (D := (dC, dI)) (ci := 8) (v := .ref yr) (C := RX8) (T := TX8) (N := 43) hx hb hts hinX8 hown hK hP 0 rfl rfl 3 (by decide) k_1 (fun _ h9 => h9) rfl dX8_reset_97 ?_
  refine lv_iload_n hx hb dX8_reset_100 rfl (lv_at hl 0 rfl) ?_
  refine lv_iconst (v := 0) hx hb dX8_reset_101 (by decide) ?_
  refine za_iast (f' := (jn [0, 4, 0, 0, 0, 0, 0, 0, 0, 0, 0, 0, 0, 0, 0, 0, 0, (-1), 0, 0, 0, 0, 0, 0] R0)) hx hb hK hP hD hS 1 0 rfl rfl (zin tn_47 (Nat.le_of_ble_eq_true rfl)) (zup_R0 tn_47 (by decide) (by decide)) dX8_reset_102 (fun H locs hP hD hS => ?_)
  have hP : va_P (dC, dI) vwCl [(y, .inr (8, [.ref yt, .int 0, .int 0, .ref yr, .ref yk, .ref yz, .ref yp, .int 0, .int 0, .int 0, .int 0, .ref yl, .ref yw, .int 0, .int 0, .int 0, .int 0, .int 0, .int 0, .int 0, .int 0, .int (-1), .ref yd, .int 0, .ref ys, .ref yn, .ref ym, .int 0, .ref yf, .ref yo, .ref yh, .ref yb, .int 0, .int 0, .int 0, .int 0, .int 0, .int 0, .int 0, .ref yx, .int 0, .int 0, .int 0])), (yr, .inl (cI, 4668, .inl (jn [0, 4, 0, 0, 0, 0, 0, 0, 0, 0, 0, 0, 0, 0, 0, 0, 0, (-1), 0, 0, 0, 0, 0, 0] R0)))] H := hP
  have hD : va_D A [(y, .inr (8, [.ref yt, .int 0, .int 0, .ref yr, .ref yk, .ref yz, .ref yp, .int 0, .int 0, .int 0, .int 0, .ref yl, .ref yw, .int 0, .int 0, .int 0, .int 0, .int 0, .int 0, .int 0, .int 0, .int (-1), .ref yd, .int 0, .ref ys, .ref yn, .ref ym, .int 0, .ref yf, .ref yo, .ref yh, .ref yb, .int 0, .int 0, .int 0, .int 0, .int 0, .int 0, .int 0, .ref yx, .int 0, .int 0, .int 0])), (yr, .inl (cI, 4668, .inl (jn [0, 4, 0, 0, 0, 0, 0, 0, 0, 0, 0, 0, 0, 0, 0, 0, 0, (-1), 0, 0, 0, 0, 0, 0] R0)))] := hD
  refine lv_iinc (v := 48) (lv' := [(1, .int 48), (0, .ref y)]) hx hb dX8_reset_103 hl (k := 0) rfl (by decide) (by decide) rfl (fun ls hl => ?_)
  refine lv_goto (tgt := 90) hx hb dX8_reset_106 (by decide) ?_
  refine lv_iload_n hx hb dX8_reset_90 rfl (lv_at hl 0 rfl) ?_
  refine lv_bipush (v := 48) hx hb dX8_reset_91 (by decide) ?_
  refine lv_icmp_ge (tgt := 109) hx hb dX8_reset_93 (by decide) (fun _ => ?_) (fun c => absurd (by decide) c)
  refine lv_aload_n hx hb dX8_reset_109 rfl (lv_at hl 1 rfl) ?_
  refine va_get (D := (dC, dI)) (ci := 8) (v := .ref yr) (C := RX8) (T := TX8) (N := 43) hx hb hts hinX8 hown hK hP 0 rfl rfl 3 (by decide) k_1 (fun _ h9 => h9) rfl dX8_reset_110 ?_
  refine lv_bipush (v := 17) hx hb dX8_reset_113 (by decide) ?_
  refine lv_iconst (v := (-1)) hx hb dX8_reset_115 (by decide) ?_
  refine za_iast (f' := (jn [0, 4, 0, 0, 0, 0, 0, 0, 0, 0, 0, 0, 0, 0, 0, 0, 0, (-1), 0, 0, 0, 0, 0, 0] R0)) hx hb hK hP hD hS 1 0 rfl rfl (zin tn_17 (Nat.le_of_ble_eq_true rfl)) (zup_jl tn_17 (Nat.le_of_ble_eq_true rfl) (Nat.le_of_ble_eq_true rfl) rfl) dX8_reset_116 (fun H locs hP hD hS => ?_)
  have hP : va_P (dC, dI) vwCl [(y, .inr (8, [.ref yt, .int 0, .int 0, .ref yr, .ref yk, .ref yz, .ref yp, .int 0, .int 0, .int 0, .int 0, .ref yl, .ref yw, .int 0, .int 0, .int 0, .int 0, .int 0, .int 0, .int 0, .int 0, .int (-1), .ref yd, .int 0, .ref ys, .ref yn, .ref ym, .int 0, .ref yf, .ref yo, .ref yh, .ref yb, .int 0, .int 0, .int 0, .int 0, .int 0, .int 0, .int 0, .ref yx, .int 0, .int 0, .int 0])), (yr, .inl (cI, 4668, .inl (jn [0, 4, 0, 0, 0, 0, 0, 0, 0, 0, 0, 0, 0, 0, 0, 0, 0, (-1), 0, 0, 0, 0, 0, 0] R0)))] H := hP
  have hD : va_D A [(y, .inr (8, [.ref yt, .int 0, .int 0, .ref yr, .ref yk, .ref yz, .ref yp, .int 0, .int 0, .int 0, .int 0, .ref yl, .ref yw, .int 0, .int 0, .int 0, .int 0, .int 0, .int 0, .int 0, .int 0, .int (-1), .ref yd, .int 0, .ref ys, .ref yn, .ref ym, .int 0, .ref yf, .ref yo, .ref yh, .ref yb, .int 0, .int 0, .int 0, .int 0, .int 0, .int 0, .int 0, .ref yx, .int 0, .int 0, .int 0])), (yr, .inl (cI, 4668, .inl (jn [0, 4, 0, 0, 0, 0, 0, 0, 0, 0, 0, 0, 0, 0, 0, 0, 0, (-1), 0, 0, 0, 0, 0, 0] R0)))] := hD
  refine lv_aload_n hx hb dX8_reset_117 rfl (lv_at hl 1 rfl) ?_
  refine zcVv (As := []) (rest := []) (wr := []) ⟨hx, hb, hml, hown, hts⟩ (kkX8_clearsRows l dC dI cI cB cZ cR H.size y yt yr yk yz yp yl yw yd ys yn ym yf yo yh yb yx 0 0 0 0 0 0 0 0 0 0 0 0 0 0 (-1) 0 0 0 0 0 0 0 0 0 0 0 0 0 4 0 0 0 0 0 0 0 0 0 0 0 0 0 0 0 (-1) 0 0 0 0 0 0 R0 ) (cwV 0 hts (zgV wm_148 wm_149 wm_150 wm_5 wm_151) rfl rfl rfl (by decide +kernel) ⟨Nat.le_of_ble_eq_true rfl, Nat.le_of_ble_eq_true rfl⟩) hN hK hP hD hS hA [0, 1] [] rfl rfl ⟨rfl, rfl⟩ (by decide) (ci := 8) rfl rfl rfl rfl hl.1 rfl (Nat.le_of_ble_eq_true rfl) dX8_reset_118 ⟨Nat.le_of_ble_eq_true rfl, Nat.le_of_ble_eq_true rfl⟩ (fun u hu H locs hP hD hS => ?_)
  have hP : va_P (dC, dI) vwCl [(y, .inr (8, [.ref yt, .int 0, .int 0, .ref yr, .ref yk, .ref yz, .ref yp, .int 0, .int 0, .int 0, .int 0, .ref yl, .ref yw, .int 0, .int 0, .int 0, .int 0, .int 0, .int 0, .int 0, .int 0, .int (-1), .ref yd, .int 0, .ref ys, .ref yn, .ref ym, .int 0, .ref yf, .ref yo, .ref yh, .ref yb, .int 0, .int 0, .int 0, .int 0, .int 0, .int 0, .int 0, .ref yx, .int 0, .int 0, .int 0])), (yr, .inl (cI, 4668, .inl (jn [0, 4, 0, 0, 0, 0, 0, 0, 0, 0, 0, 0, 0, 0, 0, 0, 0, (-1), 0, 0, 0, 0, 0, 0] (fy R0 168))))] H := hP
  have hD : va_D A [(y, .inr (8, [.ref yt, .int 0, .int 0, .ref yr, .ref yk, .ref yz, .ref yp, .int 0, .int 0, .int 0, .int 0, .ref yl, .ref yw, .int 0, .int 0, .int 0, .int 0, .int 0, .int 0, .int 0, .int 0, .int (-1), .ref yd, .int 0, .ref ys, .ref yn, .ref ym, .int 0, .ref yf, .ref yo, .ref yh, .ref yb, .int 0, .int 0, .int 0, .int 0, .int 0, .int 0, .int 0, .ref yx, .int 0, .int 0, .int 0])), (yr, .inl (cI, 4668, .inl (jn [0, 4, 0, 0, 0, 0, 0, 0, 0, 0, 0, 0, 0, 0, 0, 0, 0, (-1), 0, 0, 0, 0, 0, 0] (fy R0 168))))] := hD
  refine lv_aload_n hx hb dX8_reset_121 rfl (lv_at hl 1 rfl) ?_
  refine va_get (D := (dC, dI)) (ci := 8) (v := .int 0) (C := RX8) (T := TX8) (N := 43) hx hb hts hinX8 hown hK hP 0 rfl rfl 23 (by decide) k_0 (fun _ h9 => h9) rfl dX8_reset_122 ?_
  have hP9 := hP.sub (ws' := [(y, .inr (8, [.ref yt, .int 0, .int 0, .ref yr, .ref yk, .ref yz, .ref yp, .int 0, .int 0, .int 0, .int 0, .ref yl, .ref yw, .int 0, .int 0, .int 0, .int 0, .int 0, .int 0, .int 0, .int 0, .int (-1), .ref yd, .int 0, .ref ys, .ref yn, .ref ym, .int 0, .ref yf, .ref yo, .ref yh, .ref yb, .int 0, .int 0, .int 0, .int 0, .int 0, .int 0, .int 0, .ref yx, .int 0, .int 0, .int 0])), (yr, .inl (cI, 4668, .inl (jn [0, 4, 0, 0, 0, 0, 0, 0, 0, 0, 0, 0, 0, 0, 0, 0, 0, (-1), 0, 0, 0, 0, 0, 0] (fy R0 168))))]) [0, 1] rfl
  have hD9 := hD.sub (ws' := [(y, .inr (8, [.ref yt, .int 0, .int 0, .ref yr, .ref yk, .ref yz, .ref yp, .int 0, .int 0, .int 0, .int 0, .ref yl, .ref yw, .int 0, .int 0, .int 0, .int 0, .int 0, .int 0, .int 0, .int 0, .int (-1), .ref yd, .int 0, .ref ys, .ref yn, .ref ym, .int 0, .ref yf, .ref yo, .ref yh, .ref yb, .int 0, .int 0, .int 0, .int 0, .int 0, .int 0, .int 0, .ref yx, .int 0, .int 0, .int 0])), (yr, .inl (cI, 4668, .inl (jn [0, 4, 0, 0, 0, 0, 0, 0, 0, 0, 0, 0, 0, 0, 0, 0, 0, (-1), 0, 0, 0, 0, 0, 0] (fy R0 168))))]) [0, 1] (by decide) rfl
  exact W.iret (v := 0) hx hb hr (fun t ht hW => ⟨⟨0, (), rfl, rfl, by rw [ht]; exact hP9, va_K.moved hW.alike hK, hD9⟩, hS.F ht⟩) hS.2.2 dX8_reset_125

def pfX8_tableSize_r (p1 : Int32) : Int32 := if p1 = 0 then 4 else 0
set_option maxHeartbeats 4000000 in
set_option maxRecDepth 100000 in
theorem kkX8_tableSize (l : Launch) (dC : Nat → ClassId) (dI : Nat → Nat → Nat) (cI cB cZ cR : ClassId) (sz : Nat) (y : Nat) (yt : Nat) (yr : Nat) (yk : Nat) (yz : Nat) (yp : Nat) (yl : Nat) (yw : Nat) (yd : Nat) (ys : Nat) (yn : Nat) (ym : Nat) (yf : Nat) (yo : Nat) (yh : Nat) (yb : Nat) (yx : Nat) (p1 : Int32) (hp1 : ¬ (pfX8_isIn_r p1 0 4) = 0) : Met l yX8_tableSize (.code yX8_tableSize cX8_tableSize 2 (some .int) :: wsL_law) ({ frames := 0, cells := 0, slots := 0, locals := 0 }) (zPc dC dI (zT cI cB cZ cR) [.ref y, .int p1] sz [(y, .inr (8, [.ref yt, .int 0, .int 0, .ref yr, .ref yk, .ref yz, .ref yp, .int 0, .int 0, .int 0, .int 0, .ref yl, .ref yw, .int 0, .int 0, .int 0, .int 0, .int 0, .int 0, .int 0, .int 0, .int (-1), .ref yd, .int 0, .ref ys, .ref yn, .ref ym, .int 0, .ref yf, .ref yo, .ref yh, .ref yb, .int 0, .int 0, .int 0, .int 0, .int 0, .int 0, .int 0, .ref yx, .int 0, .int 0, .int 0])), (yr, .inl (cI, 4668, .inl (jn [0, 4, 0, 0, 0, 0, 0, 0, 0, 0, 0, 0, 0, 0, 0, 0, 0, (-1), 0, 0, 0, 0, 0, 0] R0)))]) (va_Qi (fun (r : Int32) (_ : Unit) => r = (pfX8_tableSize_r p1)) (fun _ : Unit => zB dC dI (zT cI cB cZ cR) (va_A [(y, .inr (8, [.ref yt, .int 0, .int 0, .ref yr, .ref yk, .ref yz, .ref yp, .int 0, .int 0, .int 0, .int 0, .ref yl, .ref yw, .int 0, .int 0, .int 0, .int 0, .int 0, .int 0, .int 0, .int 0, .int (-1), .ref yd, .int 0, .ref ys, .ref yn, .ref ym, .int 0, .ref yf, .ref yo, .ref yh, .ref yb, .int 0, .int 0, .int 0, .int 0, .int 0, .int 0, .int 0, .ref yx, .int 0, .int 0, .int 0])), (yr, .inl (cI, 4668, .inl (jn [0, 4, 0, 0, 0, 0, 0, 0, 0, 0, 0, 0, 0, 0, 0, 0, 0, (-1), 0, 0, 0, 0, 0, 0] R0)))] sz) [(y, .inr (8, [.ref yt, .int 0, .int 0, .ref yr, .ref yk, .ref yz, .ref yp, .int 0, .int 0, .int 0, .int 0, .ref yl, .ref yw, .int 0, .int 0, .int 0, .int 0, .int 0, .int 0, .int 0, .int 0, .int (-1), .ref yd, .int 0, .ref ys, .ref yn, .ref ym, .int 0, .ref yf, .ref yo, .ref yh, .ref yb, .int 0, .int 0, .int 0, .int 0, .int 0, .int 0, .int 0, .ref yx, .int 0, .int 0, .int 0])), (yr, .inl (cI, 4668, .inl (jn [0, 4, 0, 0, 0, 0, 0, 0, 0, 0, 0, 0, 0, 0, 0, 0, 0, (-1), 0, 0, 0, 0, 0, 0] R0)))]) (va_A [(y, .inr (8, [.ref yt, .int 0, .int 0, .ref yr, .ref yk, .ref yz, .ref yp, .int 0, .int 0, .int 0, .int 0, .ref yl, .ref yw, .int 0, .int 0, .int 0, .int 0, .int 0, .int 0, .int 0, .int 0, .int (-1), .ref yd, .int 0, .ref ys, .ref yn, .ref ym, .int 0, .ref yf, .ref yo, .ref yh, .ref yb, .int 0, .int 0, .int 0, .int 0, .int 0, .int 0, .int 0, .ref yx, .int 0, .int 0, .int 0])), (yr, .inl (cI, 4668, .inl (jn [0, 4, 0, 0, 0, 0, 0, 0, 0, 0, 0, 0, 0, 0, 0, 0, 0, (-1), 0, 0, 0, 0, 0, 0] R0)))] sz)) 0 0 (va_A [(y, .inr (8, [.ref yt, .int 0, .int 0, .ref yr, .ref yk, .ref yz, .ref yp, .int 0, .int 0, .int 0, .int 0, .ref yl, .ref yw, .int 0, .int 0, .int 0, .int 0, .int 0, .int 0, .int 0, .int 0, .int (-1), .ref yd, .int 0, .ref ys, .ref yn, .ref ym, .int 0, .ref yf, .ref yo, .ref yh, .ref yb, .int 0, .int 0, .int 0, .int 0, .int 0, .int 0, .int 0, .ref yx, .int 0, .int 0, .int 0])), (yr, .inl (cI, 4668, .inl (jn [0, 4, 0, 0, 0, 0, 0, 0, 0, 0, 0, 0, 0, 0, 0, 0, 0, (-1), 0, 0, 0, 0, 0, 0] R0)))] sz) := by
  refine Met.ofW (cc := cX8_tableSize) (maxL := 2) (ret := (some .int)) (by decide) rfl ?_
  intro p e s m args below meth c s₁ B hml hv
  obtain ⟨rfl, hsz, hP, hK, hD0, hN⟩ := hv
  have hx := B.exec
  have hb := B.bytes
  have hr := B.returns
  have hts := atoms_spec (ws := (.code yX8_tableSize cX8_tableSize 2 (some .int) :: wsL_law)) B.pre
  have hown : s.vm.findClass RX8 = some m.cls := findClass_of_methodNamed B.named
  have hlocks := B.notSynchronized
  have hinX8 : ∀ w ∈ u_ws RX8 TX8 43, w ∈ (.code yX8_tableSize cX8_tableSize 2 (some .int) :: wsL_law) := fun w h => List.mem_cons_of_mem _ (inlX8 w h)
  have k_0 := hts (.fieldLink RX8 13 "RingMarksModel" "\x72" "[I") (List.mem_cons_of_mem _ wm_128)
  subst hsz
  have hD := hD0.self (sz := s.heap.size)
  generalize hAe : va_A [(y, .inr (8, [.ref yt, .int 0, .int 0, .ref yr, .ref yk, .ref yz, .ref yp, .int 0, .int 0, .int 0, .int 0, .ref yl, .ref yw, .int 0, .int 0, .int 0, .int 0, .int 0, .int 0, .int 0, .int 0, .int (-1), .ref yd, .int 0, .ref ys, .ref yn, .ref ym, .int 0, .ref yf, .ref yo, .ref yh, .ref yb, .int 0, .int 0, .int 0, .int 0, .int 0, .int 0, .int 0, .ref yx, .int 0, .int 0, .int 0])), (yr, .inl (cI, 4668, .inl (jn [0, 4, 0, 0, 0, 0, 0, 0, 0, 0, 0, 0, 0, 0, 0, 0, 0, (-1), 0, 0, 0, 0, 0, 0] R0)))] s.heap.size = A at hD ⊢
  have hA : ∀ q : Nat, s.heap.size ≤ q → A q := fun q h => by rw [← hAe]; exact Or.inr h
  have hP : va_P (dC, dI) vwCl [(y, .inr (8, [.ref yt, .int 0, .int 0, .ref yr, .ref yk, .ref yz, .ref yp, .int 0, .int 0, .int 0, .int 0, .ref yl, .ref yw, .int 0, .int 0, .int 0, .int 0, .int 0, .int 0, .int 0, .int 0, .int (-1), .ref yd, .int 0, .ref ys, .ref yn, .ref ym, .int 0, .ref yf, .ref yo, .ref yh, .ref yb, .int 0, .int 0, .int 0, .int 0, .int 0, .int 0, .int 0, .ref yx, .int 0, .int 0, .int 0])), (yr, .inl (cI, 4668, .inl (jn [0, 4, 0, 0, 0, 0, 0, 0, 0, 0, 0, 0, 0, 0, 0, 0, 0, (-1), 0, 0, 0, 0, 0, 0] R0)))] s.heap := hP
  have hl := lv_entry ([.ref y, .int p1]) (n := 2) (Nat.le_of_ble_eq_true rfl)
  rw [lg_entry_eq]
  generalize (lg_sl ([.ref y, .int p1]) ++ List.replicate (2 - (lg_sl ([.ref y, .int p1])).length) Slot.unset).toArray = ls at hl ⊢
  have hl : lv_has ls 2 [(0, .ref y), (1, .int p1)] := hl
  obtain ⟨H, hH⟩ : ∃ H, H = s.heap := ⟨_, rfl⟩
  rw [← hH] at hP ⊢
  have hS : va_S A s.heap H [] := by rw [hH]; exact va_S.rf
  refine lv_iload_n hx hb dX8_tableSize_0 rfl (lv_at hl 1 rfl) ?_
  refine lv_if_ne (tgt := 13) hx hb dX8_tableSize_1 (by decide) (fun c_1 => ?_) (fun c_1 => ?_)
  · refine lv_aload_n hx hb dX8_tableSize_13 rfl (lv_at hl 0 rfl) ?_
    refine va_get (D := (dC, dI)) (ci := 8) (v := .ref yr) (C := RX8) (T := TX8) (N := 43) hx hb hts hinX8 hown hK hP 0 rfl rfl 3 (by decide) k_0 (fun _ h9 => h9) rfl dX8_tableSize_14 ?_
    refine lv_bipush (v := 19) hx hb dX8_tableSize_17 (by decide) ?_
    refine lv_iload_n hx hb dX8_tableSize_19 rfl (lv_at hl 1 rfl) ?_
    refine lv_iadd hx hb dX8_tableSize_20 ?_
    refine za_iald (v := 0) hx hb hK hP 1 0 rfl rfl (ts_in hp1) (ts_rd hp1) dX8_tableSize_21 ?_
    have e_0 : (pfX8_tableSize_r p1) = 0 := by rw [pfX8_tableSize_r, if_neg c_1]
    have hP9 := hP.sub (ws' := [(y, .inr (8, [.ref yt, .int 0, .int 0, .ref yr, .ref yk, .ref yz, .ref yp, .int 0, .int 0, .int 0, .int 0, .ref yl, .ref yw, .int 0, .int 0, .int 0, .int 0, .int 0, .int 0, .int 0, .int 0, .int (-1), .ref yd, .int 0, .ref ys, .ref yn, .ref ym, .int 0, .ref yf, .ref yo, .ref yh, .ref yb, .int 0, .int 0, .int 0, .int 0, .int 0, .int 0, .int 0, .ref yx, .int 0, .int 0, .int 0])), (yr, .inl (cI, 4668, .inl (jn [0, 4, 0, 0, 0, 0, 0, 0, 0, 0, 0, 0, 0, 0, 0, 0, 0, (-1), 0, 0, 0, 0, 0, 0] R0)))]) [0, 1] rfl
    have hD9 := hD.sub (ws' := [(y, .inr (8, [.ref yt, .int 0, .int 0, .ref yr, .ref yk, .ref yz, .ref yp, .int 0, .int 0, .int 0, .int 0, .ref yl, .ref yw, .int 0, .int 0, .int 0, .int 0, .int 0, .int 0, .int 0, .int 0, .int (-1), .ref yd, .int 0, .ref ys, .ref yn, .ref ym, .int 0, .ref yf, .ref yo, .ref yh, .ref yb, .int 0, .int 0, .int 0, .int 0, .int 0, .int 0, .int 0, .ref yx, .int 0, .int 0, .int 0])), (yr, .inl (cI, 4668, .inl (jn [0, 4, 0, 0, 0, 0, 0, 0, 0, 0, 0, 0, 0, 0, 0, 0, 0, (-1), 0, 0, 0, 0, 0, 0] R0)))]) [0, 1] (by decide) rfl
    exact W.iret (v := 0) hx hb hr (fun t ht hW => ⟨⟨0, (), rfl, e_0.symm, by rw [ht]; exact hP9, va_K.moved hW.alike hK, hD9⟩, hS.F ht⟩) hS.2.2 dX8_tableSize_22
  · refine lv_aload_n hx hb dX8_tableSize_4 rfl (lv_at hl 0 rfl) ?_
    refine va_get (D := (dC, dI)) (ci := 8) (v := .ref yr) (C := RX8) (T := TX8) (N := 43) hx hb hts hinX8 hown hK hP 0 rfl rfl 3 (by decide) k_0 (fun _ h9 => h9) rfl dX8_tableSize_5 ?_
    refine lv_iconst (v := 1) hx hb dX8_tableSize_8 (by decide) ?_
    refine za_iald (v := 4) hx hb hK hP 1 0 rfl rfl (zin tn_1 (Nat.le_of_ble_eq_true rfl)) (zrd _ tn_1 rfl) dX8_tableSize_9 ?_
    refine lv_goto (tgt := 22) hx hb dX8_tableSize_10 (by decide) ?_
    have e_0 : (pfX8_tableSize_r p1) = 4 := by rw [pfX8_tableSize_r, if_pos c_1]
    have hP9 := hP.sub (ws' := [(y, .inr (8, [.ref yt, .int 0, .int 0, .ref yr, .ref yk, .ref yz, .ref yp, .int 0, .int 0, .int 0, .int 0, .ref yl, .ref yw, .int 0, .int 0, .int 0, .int 0, .int 0, .int 0, .int 0, .int 0, .int (-1), .ref yd, .int 0, .ref ys, .ref yn, .ref ym, .int 0, .ref yf, .ref yo, .ref yh, .ref yb, .int 0, .int 0, .int 0, .int 0, .int 0, .int 0, .int 0, .ref yx, .int 0, .int 0, .int 0])), (yr, .inl (cI, 4668, .inl (jn [0, 4, 0, 0, 0, 0, 0, 0, 0, 0, 0, 0, 0, 0, 0, 0, 0, (-1), 0, 0, 0, 0, 0, 0] R0)))]) [0, 1] rfl
    have hD9 := hD.sub (ws' := [(y, .inr (8, [.ref yt, .int 0, .int 0, .ref yr, .ref yk, .ref yz, .ref yp, .int 0, .int 0, .int 0, .int 0, .ref yl, .ref yw, .int 0, .int 0, .int 0, .int 0, .int 0, .int 0, .int 0, .int 0, .int (-1), .ref yd, .int 0, .ref ys, .ref yn, .ref ym, .int 0, .ref yf, .ref yo, .ref yh, .ref yb, .int 0, .int 0, .int 0, .int 0, .int 0, .int 0, .int 0, .ref yx, .int 0, .int 0, .int 0])), (yr, .inl (cI, 4668, .inl (jn [0, 4, 0, 0, 0, 0, 0, 0, 0, 0, 0, 0, 0, 0, 0, 0, 0, (-1), 0, 0, 0, 0, 0, 0] R0)))]) [0, 1] (by decide) rfl
    exact W.iret (v := 4) hx hb hr (fun t ht hW => ⟨⟨4, (), rfl, e_0.symm, by rw [ht]; exact hP9, va_K.moved hW.alike hK, hD9⟩, hS.F ht⟩) hS.2.2 dX8_tableSize_22

def pfX8_isDescriptor_r (p1 : Int32) (p2 : Int32) (p3 : Int32) : Int32 := if (pfX8_isIn_r p1 0 4) = 0 then 0 else (if (pfX8_isIn_r p2 0 ((pfX8_tableSize_r p1) - 1)) = 0 then 0 else (if (pfX8_isIn_r p3 0 2) = 0 then 0 else 1))
set_option maxHeartbeats 4000000 in
set_option maxRecDepth 100000 in
theorem kkX8_isDescriptor (l : Launch) (dC : Nat → ClassId) (dI : Nat → Nat → Nat) (cI cB cZ cR : ClassId) (sz : Nat) (y : Nat) (yt : Nat) (yr : Nat) (yk : Nat) (yz : Nat) (yp : Nat) (yl : Nat) (yw : Nat) (yd : Nat) (ys : Nat) (yn : Nat) (ym : Nat) (yf : Nat) (yo : Nat) (yh : Nat) (yb : Nat) (yx : Nat) (p1 : Int32) (p2 : Int32) (p3 : Int32) : Met l yX8_isDescriptor (.code yX8_isDescriptor cX8_isDescriptor 4 (some .boolean) :: wsL_law) ({ frames := 1, cells := 0, slots := 0, locals := 22 }) (zPc dC dI (zT cI cB cZ cR) [.ref y, .int p1, .int p2, .int p3] sz [(y, .inr (8, [.ref yt, .int 0, .int 0, .ref yr, .ref yk, .ref yz, .ref yp, .int 0, .int 0, .int 0, .int 0, .ref yl, .ref yw, .int 0, .int 0, .int 0, .int 0, .int 0, .int 0, .int 0, .int 0, .int (-1), .ref yd, .int 0, .ref ys, .ref yn, .ref ym, .int 0, .ref yf, .ref yo, .ref yh, .ref yb, .int 0, .int 0, .int 0, .int 0, .int 0, .int 0, .int 0, .ref yx, .int 0, .int 0, .int 0])), (yr, .inl (cI, 4668, .inl (jn [0, 4, 0, 0, 0, 0, 0, 0, 0, 0, 0, 0, 0, 0, 0, 0, 0, (-1), 0, 0, 0, 0, 0, 0] R0)))]) (va_Qi (fun (r : Int32) (_ : Unit) => r = (pfX8_isDescriptor_r p1 p2 p3)) (fun _ : Unit => zB dC dI (zT cI cB cZ cR) (va_A [(y, .inr (8, [.ref yt, .int 0, .int 0, .ref yr, .ref yk, .ref yz, .ref yp, .int 0, .int 0, .int 0, .int 0, .ref yl, .ref yw, .int 0, .int 0, .int 0, .int 0, .int 0, .int 0, .int 0, .int 0, .int (-1), .ref yd, .int 0, .ref ys, .ref yn, .ref ym, .int 0, .ref yf, .ref yo, .ref yh, .ref yb, .int 0, .int 0, .int 0, .int 0, .int 0, .int 0, .int 0, .ref yx, .int 0, .int 0, .int 0])), (yr, .inl (cI, 4668, .inl (jn [0, 4, 0, 0, 0, 0, 0, 0, 0, 0, 0, 0, 0, 0, 0, 0, 0, (-1), 0, 0, 0, 0, 0, 0] R0)))] sz) [(y, .inr (8, [.ref yt, .int 0, .int 0, .ref yr, .ref yk, .ref yz, .ref yp, .int 0, .int 0, .int 0, .int 0, .ref yl, .ref yw, .int 0, .int 0, .int 0, .int 0, .int 0, .int 0, .int 0, .int 0, .int (-1), .ref yd, .int 0, .ref ys, .ref yn, .ref ym, .int 0, .ref yf, .ref yo, .ref yh, .ref yb, .int 0, .int 0, .int 0, .int 0, .int 0, .int 0, .int 0, .ref yx, .int 0, .int 0, .int 0])), (yr, .inl (cI, 4668, .inl (jn [0, 4, 0, 0, 0, 0, 0, 0, 0, 0, 0, 0, 0, 0, 0, 0, 0, (-1), 0, 0, 0, 0, 0, 0] R0)))]) (va_A [(y, .inr (8, [.ref yt, .int 0, .int 0, .ref yr, .ref yk, .ref yz, .ref yp, .int 0, .int 0, .int 0, .int 0, .ref yl, .ref yw, .int 0, .int 0, .int 0, .int 0, .int 0, .int 0, .int 0, .int 0, .int (-1), .ref yd, .int 0, .ref ys, .ref yn, .ref ym, .int 0, .ref yf, .ref yo, .ref yh, .ref yb, .int 0, .int 0, .int 0, .int 0, .int 0, .int 0, .int 0, .ref yx, .int 0, .int 0, .int 0])), (yr, .inl (cI, 4668, .inl (jn [0, 4, 0, 0, 0, 0, 0, 0, 0, 0, 0, 0, 0, 0, 0, 0, 0, (-1), 0, 0, 0, 0, 0, 0] R0)))] sz)) 0 0 (va_A [(y, .inr (8, [.ref yt, .int 0, .int 0, .ref yr, .ref yk, .ref yz, .ref yp, .int 0, .int 0, .int 0, .int 0, .ref yl, .ref yw, .int 0, .int 0, .int 0, .int 0, .int 0, .int 0, .int 0, .int 0, .int (-1), .ref yd, .int 0, .ref ys, .ref yn, .ref ym, .int 0, .ref yf, .ref yo, .ref yh, .ref yb, .int 0, .int 0, .int 0, .int 0, .int 0, .int 0, .int 0, .ref yx, .int 0, .int 0, .int 0])), (yr, .inl (cI, 4668, .inl (jn [0, 4, 0, 0, 0, 0, 0, 0, 0, 0, 0, 0, 0, 0, 0, 0, 0, (-1), 0, 0, 0, 0, 0, 0] R0)))] sz) := by
  refine Met.ofW (cc := cX8_isDescriptor) (maxL := 4) (ret := (some .boolean)) (by decide) rfl ?_
  intro p e s m args below meth c s₁ B hml hv
  obtain ⟨rfl, hsz, hP, hK, hD0, hN⟩ := hv
  have hx := B.exec
  have hb := B.bytes
  have hr := B.returns
  have hts := atoms_spec (ws := (.code yX8_isDescriptor cX8_isDescriptor 4 (some .boolean) :: wsL_law)) B.pre
  have hown : s.vm.findClass RX8 = some m.cls := findClass_of_methodNamed B.named
  have hlocks := B.notSynchronized
  subst hsz
  have hD := hD0.self (sz := s.heap.size)
  generalize hAe : va_A [(y, .inr (8, [.ref yt, .int 0, .int 0, .ref yr, .ref yk, .ref yz, .ref yp, .int 0, .int 0, .int 0, .int 0, .ref yl, .ref yw, .int 0, .int 0, .int 0, .int 0, .int 0, .int 0, .int 0, .int 0, .int (-1), .ref yd, .int 0, .ref ys, .ref yn, .ref ym, .int 0, .ref yf, .ref yo, .ref yh, .ref yb, .int 0, .int 0, .int 0, .int 0, .int 0, .int 0, .int 0, .ref yx, .int 0, .int 0, .int 0])), (yr, .inl (cI, 4668, .inl (jn [0, 4, 0, 0, 0, 0, 0, 0, 0, 0, 0, 0, 0, 0, 0, 0, 0, (-1), 0, 0, 0, 0, 0, 0] R0)))] s.heap.size = A at hD ⊢
  have hA : ∀ q : Nat, s.heap.size ≤ q → A q := fun q h => by rw [← hAe]; exact Or.inr h
  have hP : va_P (dC, dI) vwCl [(y, .inr (8, [.ref yt, .int 0, .int 0, .ref yr, .ref yk, .ref yz, .ref yp, .int 0, .int 0, .int 0, .int 0, .ref yl, .ref yw, .int 0, .int 0, .int 0, .int 0, .int 0, .int 0, .int 0, .int 0, .int (-1), .ref yd, .int 0, .ref ys, .ref yn, .ref ym, .int 0, .ref yf, .ref yo, .ref yh, .ref yb, .int 0, .int 0, .int 0, .int 0, .int 0, .int 0, .int 0, .ref yx, .int 0, .int 0, .int 0])), (yr, .inl (cI, 4668, .inl (jn [0, 4, 0, 0, 0, 0, 0, 0, 0, 0, 0, 0, 0, 0, 0, 0, 0, (-1), 0, 0, 0, 0, 0, 0] R0)))] s.heap := hP
  have hl := lv_entry ([.ref y, .int p1, .int p2, .int p3]) (n := 4) (Nat.le_of_ble_eq_true rfl)
  rw [lg_entry_eq]
  generalize (lg_sl ([.ref y, .int p1, .int p2, .int p3]) ++ List.replicate (4 - (lg_sl ([.ref y, .int p1, .int p2, .int p3])).length) Slot.unset).toArray = ls at hl ⊢
  have hl : lv_has ls 4 [(0, .ref y), (1, .int p1), (2, .int p2), (3, .int p3)] := hl
  obtain ⟨H, hH⟩ : ∃ H, H = s.heap := ⟨_, rfl⟩
  rw [← hH] at hP ⊢
  have hS : va_S A s.heap H [] := by rw [hH]; exact va_S.rf
  refine lv_iload_n hx hb dX8_isDescriptor_0 rfl (lv_at hl 1 rfl) ?_
  refine lv_iconst (v := 0) hx hb dX8_isDescriptor_1 (by decide) ?_
  refine lv_iconst (v := 4) hx hb dX8_isDescriptor_2 (by decide) ?_
  refine zcSi (As := [.int p1, .int 0, .int 4]) (rest := []) (wr := [(y, .inr (8, [.ref yt, .int 0, .int 0, .ref yr, .ref yk, .ref yz, .ref yp, .int 0, .int 0, .int 0, .int 0, .ref yl, .ref yw, .int 0, .int 0, .int 0, .int 0, .int 0, .int 0, .int 0, .int 0, .int (-1), .ref yd, .int 0, .ref ys, .ref yn, .ref ym, .int 0, .ref yf, .ref yo, .ref yh, .ref yb, .int 0, .int 0, .int 0, .int 0, .int 0, .int 0, .int 0, .ref yx, .int 0, .int 0, .int 0])), (yr, .inl (cI, 4668, .inl (jn [0, 4, 0, 0, 0, 0, 0, 0, 0, 0, 0, 0, 0, 0, 0, 0, 0, (-1), 0, 0, 0, 0, 0, 0] R0)))]) ⟨hx, hb, hml, hown, hts⟩ (kkX8_isIn l dC dI cI cB cZ cR H.size p1 0 4 ) (va_cwS 3 hts (zgS wm_191 wm_192 wm_5 wm_193) rfl rfl rfl (by decide +kernel) ⟨Nat.le_of_ble_eq_true rfl, Nat.le_of_ble_eq_true rfl⟩) hN hK hP hD hS hA [] [0, 1] rfl rfl ⟨rfl, rfl⟩ (by decide) rfl hl.1 rfl (Nat.le_of_ble_eq_true rfl) dX8_isDescriptor_3 ⟨Nat.le_of_ble_eq_true rfl, Nat.le_of_ble_eq_true rfl⟩ (fun r u hu H locs hP hD hS => ?_)
  have hu : r = (pfX8_isIn_r p1 0 4) := hu
  subst hu
  have hP : va_P (dC, dI) vwCl [(y, .inr (8, [.ref yt, .int 0, .int 0, .ref yr, .ref yk, .ref yz, .ref yp, .int 0, .int 0, .int 0, .int 0, .ref yl, .ref yw, .int 0, .int 0, .int 0, .int 0, .int 0, .int 0, .int 0, .int 0, .int (-1), .ref yd, .int 0, .ref ys, .ref yn, .ref ym, .int 0, .ref yf, .ref yo, .ref yh, .ref yb, .int 0, .int 0, .int 0, .int 0, .int 0, .int 0, .int 0, .ref yx, .int 0, .int 0, .int 0])), (yr, .inl (cI, 4668, .inl (jn [0, 4, 0, 0, 0, 0, 0, 0, 0, 0, 0, 0, 0, 0, 0, 0, 0, (-1), 0, 0, 0, 0, 0, 0] R0)))] H := hP
  have hD : va_D A [(y, .inr (8, [.ref yt, .int 0, .int 0, .ref yr, .ref yk, .ref yz, .ref yp, .int 0, .int 0, .int 0, .int 0, .ref yl, .ref yw, .int 0, .int 0, .int 0, .int 0, .int 0, .int 0, .int 0, .int 0, .int (-1), .ref yd, .int 0, .ref ys, .ref yn, .ref ym, .int 0, .ref yf, .ref yo, .ref yh, .ref yb, .int 0, .int 0, .int 0, .int 0, .int 0, .int 0, .int 0, .ref yx, .int 0, .int 0, .int 0])), (yr, .inl (cI, 4668, .inl (jn [0, 4, 0, 0, 0, 0, 0, 0, 0, 0, 0, 0, 0, 0, 0, 0, 0, (-1), 0, 0, 0, 0, 0, 0] R0)))] := hD
  refine lv_if_eq (tgt := 37) hx hb dX8_isDescriptor_6 (by decide) (fun c_1 => ?_) (fun c_1 => ?_)
  · refine lv_iconst (v := 0) hx hb dX8_isDescriptor_37 (by decide) ?_
    have e_0 : (pfX8_isDescriptor_r p1 p2 p3) = 0 := by rw [pfX8_isDescriptor_r, if_pos c_1]
    have hP9 := hP.sub (ws' := [(y, .inr (8, [.ref yt, .int 0, .int 0, .ref yr, .ref yk, .ref yz, .ref yp, .int 0, .int 0, .int 0, .int 0, .ref yl, .ref yw, .int 0, .int 0, .int 0, .int 0, .int 0, .int 0, .int 0, .int 0, .int (-1), .ref yd, .int 0, .ref ys, .ref yn, .ref ym, .int 0, .ref yf, .ref yo, .ref yh, .ref yb, .int 0, .int 0, .int 0, .int 0, .int 0, .int 0, .int 0, .ref yx, .int 0, .int 0, .int 0])), (yr, .inl (cI, 4668, .inl (jn [0, 4, 0, 0, 0, 0, 0, 0, 0, 0, 0, 0, 0, 0, 0, 0, 0, (-1), 0, 0, 0, 0, 0, 0] R0)))]) [0, 1] rfl
    have hD9 := hD.sub (ws' := [(y, .inr (8, [.ref yt, .int 0, .int 0, .ref yr, .ref yk, .ref yz, .ref yp, .int 0, .int 0, .int 0, .int 0, .ref yl, .ref yw, .int 0, .int 0, .int 0, .int 0, .int 0, .int 0, .int 0, .int 0, .int (-1), .ref yd, .int 0, .ref ys, .ref yn, .ref ym, .int 0, .ref yf, .ref yo, .ref yh, .ref yb, .int 0, .int 0, .int 0, .int 0, .int 0, .int 0, .int 0, .ref yx, .int 0, .int 0, .int 0])), (yr, .inl (cI, 4668, .inl (jn [0, 4, 0, 0, 0, 0, 0, 0, 0, 0, 0, 0, 0, 0, 0, 0, 0, (-1), 0, 0, 0, 0, 0, 0] R0)))]) [0, 1] (by decide) rfl
    exact W.zret (v := 0) hx hb hr rfl (fun t ht hW => ⟨⟨0, (), rfl, e_0.symm, by rw [ht]; exact hP9, va_K.moved hW.alike hK, hD9⟩, hS.F ht⟩) hS.2.2 dX8_isDescriptor_38
  · refine lv_iload_n hx hb dX8_isDescriptor_9 rfl (lv_at hl 2 rfl) ?_
    refine lv_iconst (v := 0) hx hb dX8_isDescriptor_10 (by decide) ?_
    refine lv_aload_n hx hb dX8_isDescriptor_11 rfl (lv_at hl 0 rfl) ?_
    refine lv_iload_n hx hb dX8_isDescriptor_12 rfl (lv_at hl 1 rfl) ?_
    refine zcVi (As := [.int p1]) (rest := [.int 0, .int p2]) (wr := []) ⟨hx, hb, hml, hown, hts⟩ (kkX8_tableSize l dC dI cI cB cZ cR H.size y yt yr yk yz yp yl yw yd ys yn ym yf yo yh yb yx p1 c_1) (cwV 1 hts (zgV wm_741 wm_742 wm_743 wm_5 wm_744) rfl rfl rfl (by decide +kernel) ⟨Nat.le_of_ble_eq_true rfl, Nat.le_of_ble_eq_true rfl⟩) hN hK hP hD hS hA [0, 1] [] rfl rfl ⟨rfl, rfl⟩ (by decide) (ci := 8) rfl rfl rfl rfl hl.1 rfl (Nat.le_of_ble_eq_true rfl) dX8_isDescriptor_13 ⟨Nat.le_of_ble_eq_true rfl, Nat.le_of_ble_eq_true rfl⟩ (fun r u hu H locs hP hD hS => ?_)
    have hu : r = (pfX8_tableSize_r p1) := hu
    subst hu
    have hP : va_P (dC, dI) vwCl [(y, .inr (8, [.ref yt, .int 0, .int 0, .ref yr, .ref yk, .ref yz, .ref yp, .int 0, .int 0, .int 0, .int 0, .ref yl, .ref yw, .int 0, .int 0, .int 0, .int 0, .int 0, .int 0, .int 0, .int 0, .int (-1), .ref yd, .int 0, .ref ys, .ref yn, .ref ym, .int 0, .ref yf, .ref yo, .ref yh, .ref yb, .int 0, .int 0, .int 0, .int 0, .int 0, .int 0, .int 0, .ref yx, .int 0, .int 0, .int 0])), (yr, .inl (cI, 4668, .inl (jn [0, 4, 0, 0, 0, 0, 0, 0, 0, 0, 0, 0, 0, 0, 0, 0, 0, (-1), 0, 0, 0, 0, 0, 0] R0)))] H := hP
    have hD : va_D A [(y, .inr (8, [.ref yt, .int 0, .int 0, .ref yr, .ref yk, .ref yz, .ref yp, .int 0, .int 0, .int 0, .int 0, .ref yl, .ref yw, .int 0, .int 0, .int 0, .int 0, .int 0, .int 0, .int 0, .int 0, .int (-1), .ref yd, .int 0, .ref ys, .ref yn, .ref ym, .int 0, .ref yf, .ref yo, .ref yh, .ref yb, .int 0, .int 0, .int 0, .int 0, .int 0, .int 0, .int 0, .ref yx, .int 0, .int 0, .int 0])), (yr, .inl (cI, 4668, .inl (jn [0, 4, 0, 0, 0, 0, 0, 0, 0, 0, 0, 0, 0, 0, 0, 0, 0, (-1), 0, 0, 0, 0, 0, 0] R0)))] := hD
    refine lv_iconst (v := 1) hx hb dX8_isDescriptor_16 (by decide) ?_
    refine lv_isub hx hb dX8_isDescriptor_17 ?_
    refine zcSi (As := [.int p2, .int 0, .int ((pfX8_tableSize_r p1) - 1)]) (rest := []) (wr := [(y, .inr (8, [.ref yt, .int 0, .int 0, .ref yr, .ref yk, .ref yz, .ref yp, .int 0, .int 0, .int 0, .int 0, .ref yl, .ref yw, .int 0, .int 0, .int 0, .int 0, .int 0, .int 0, .int 0, .int 0, .int (-1), .ref yd, .int 0, .ref ys, .ref yn, .ref ym, .int 0, .ref yf, .ref yo, .ref yh, .ref yb, .int 0, .int 0, .int 0, .int 0, .int 0, .int 0, .int 0, .ref yx, .int 0, .int 0, .int 0])), (yr, .inl (cI, 4668, .inl (jn [0, 4, 0, 0, 0, 0, 0, 0, 0, 0, 0, 0, 0, 0, 0, 0, 0, (-1), 0, 0, 0, 0, 0, 0] R0)))]) ⟨hx, hb, hml, hown, hts⟩ (kkX8_isIn l dC dI cI cB cZ cR H.size p2 0 ((pfX8_tableSize_r p1) - 1) ) (va_cwS 3 hts (zgS wm_191 wm_192 wm_5 wm_193) rfl rfl rfl (by decide +kernel) ⟨Nat.le_of_ble_eq_true rfl, Nat.le_of_ble_eq_true rfl⟩) hN hK hP hD hS hA [] [0, 1] rfl rfl ⟨rfl, rfl⟩ (by decide) rfl hl.1 rfl (Nat.le_of_ble_eq_true rfl) dX8_isDescriptor_18 ⟨Nat.le_of_ble_eq_true rfl, Nat.le_of_ble_eq_true rfl⟩ (fun r u hu H locs hP hD hS => ?_)
    have hu : r = (pfX8_isIn_r p2 0 ((pfX8_tableSize_r p1) - 1)) := hu
    subst hu
    have hP : va_P (dC, dI) vwCl [(y, .inr (8, [.ref yt, .int 0, .int 0, .ref yr, .ref yk, .ref yz, .ref yp, .int 0, .int 0, .int 0, .int 0, .ref yl, .ref yw, .int 0, .int 0, .int 0, .int 0, .int 0, .int 0, .int 0, .int 0, .int (-1), .ref yd, .int 0, .ref ys, .ref yn, .ref ym, .int 0, .ref yf, .ref yo, .ref yh, .ref yb, .int 0, .int 0, .int 0, .int 0, .int 0, .int 0, .int 0, .ref yx, .int 0, .int 0, .int 0])), (yr, .inl (cI, 4668, .inl (jn [0, 4, 0, 0, 0, 0, 0, 0, 0, 0, 0, 0, 0, 0, 0, 0, 0, (-1), 0, 0, 0, 0, 0, 0] R0)))] H := hP
    have hD : va_D A [(y, .inr (8, [.ref yt, .int 0, .int 0, .ref yr, .ref yk, .ref yz, .ref yp, .int 0, .int 0, .int 0, .int 0, .ref yl, .ref yw, .int 0, .int 0, .int 0, .int 0, .int 0, .int 0, .int 0, .int 0, .int (-1), .ref yd, .int 0, .ref ys, .ref yn, .ref ym, .int 0, .ref yf, .ref yo, .ref yh, .ref yb, .int 0, .int 0, .int 0, .int 0, .int 0, .int 0, .int 0, .ref yx, .int 0, .int 0, .int 0])), (yr, .inl (cI, 4668, .inl (jn [0, 4, 0, 0, 0, 0, 0, 0, 0, 0, 0, 0, 0, 0, 0, 0, 0, (-1), 0, 0, 0, 0, 0, 0] R0)))] := hD
    refine lv_if_eq (tgt := 37) hx hb dX8_isDescriptor_21 (by decide) (fun c_2 => ?_) (fun c_2 => ?_)
    · refine lv_iconst (v := 0) hx hb dX8_isDescriptor_37 (by decide) ?_
      have e_0 : (pfX8_isDescriptor_r p1 p2 p3) = 0 := by rw [pfX8_isDescriptor_r, if_neg c_1, if_pos c_2]
      have hP9 := hP.sub (ws' := [(y, .inr (8, [.ref yt, .int 0, .int 0, .ref yr, .ref yk, .ref yz, .ref yp, .int 0, .int 0, .int 0, .int 0, .ref yl, .ref yw, .int 0, .int 0, .int 0, .int 0, .int 0, .int 0, .int 0, .int 0, .int (-1), .ref yd, .int 0, .ref ys, .ref yn, .ref ym, .int 0, .ref yf, .ref yo, .ref yh, .ref yb, .int 0, .int 0, .int 0, .int 0, .int 0, .int 0, .int 0, .ref yx, .int 0, .int 0, .int 0])), (yr, .inl (cI, 4668, .inl (jn [0, 4, 0, 0, 0, 0, 0, 0, 0, 0, 0, 0, 0, 0, 0, 0, 0, (-1), 0, 0, 0, 0, 0, 0] R0)))]) [0, 1] rfl
      have hD9 := hD.sub (ws' := [(y, .inr (8, [.ref yt, .int 0, .int 0, .ref yr, .ref yk, .ref yz, .ref yp, .int 0, .int 0, .int 0, .int 0, .ref yl, .ref yw, .int 0, .int 0, .int 0, .int 0, .int 0, .int 0, .int 0, .int 0, .int (-1), .ref yd, .int 0, .ref ys, .ref yn, .ref ym, .int 0, .ref yf, .ref yo, .ref yh, .ref yb, .int 0, .int 0, .int 0, .int 0, .int 0, .int 0, .int 0, .ref yx, .int 0, .int 0, .int 0])), (yr, .inl (cI, 4668, .inl (jn [0, 4, 0, 0, 0, 0, 0, 0, 0, 0, 0, 0, 0, 0, 0, 0, 0, (-1), 0, 0, 0, 0, 0, 0] R0)))]) [0, 1] (by decide) rfl
      exact W.zret (v := 0) hx hb hr rfl (fun t ht hW => ⟨⟨0, (), rfl, e_0.symm, by rw [ht]; exact hP9, va_K.moved hW.alike hK, hD9⟩, hS.F ht⟩) hS.2.2 dX8_isDescriptor_38
    · refine lv_iload_n hx hb dX8_isDescriptor_24 rfl (lv_at hl 3 rfl) ?_
      refine lv_iconst (v := 0) hx hb dX8_isDescriptor_25 (by decide) ?_
      refine lv_iconst (v := 2) hx hb dX8_isDescriptor_26 (by decide) ?_
      refine zcSi (As := [.int p3, .int 0, .int 2]) (rest := []) (wr := [(y, .inr (8, [.ref yt, .int 0, .int 0, .ref yr, .ref yk, .ref yz, .ref yp, .int 0, .int 0, .int 0, .int 0, .ref yl, .ref yw, .int 0, .int 0, .int 0, .int 0, .int 0, .int 0, .int 0, .int 0, .int (-1), .ref yd, .int 0, .ref ys, .ref yn, .ref ym, .int 0, .ref yf, .ref yo, .ref yh, .ref yb, .int 0, .int 0, .int 0, .int 0, .int 0, .int 0, .int 0, .ref yx, .int 0, .int 0, .int 0])), (yr, .inl (cI, 4668, .inl (jn [0, 4, 0, 0, 0, 0, 0, 0, 0, 0, 0, 0, 0, 0, 0, 0, 0, (-1), 0, 0, 0, 0, 0, 0] R0)))]) ⟨hx, hb, hml, hown, hts⟩ (kkX8_isIn l dC dI cI cB cZ cR H.size p3 0 2 ) (va_cwS 3 hts (zgS wm_191 wm_192 wm_5 wm_193) rfl rfl rfl (by decide +kernel) ⟨Nat.le_of_ble_eq_true rfl, Nat.le_of_ble_eq_true rfl⟩) hN hK hP hD hS hA [] [0, 1] rfl rfl ⟨rfl, rfl⟩ (by decide) rfl hl.1 rfl (Nat.le_of_ble_eq_true rfl) dX8_isDescriptor_27 ⟨Nat.le_of_ble_eq_true rfl, Nat.le_of_ble_eq_true rfl⟩ (fun r u hu H locs hP hD hS => ?_)
      have hu : r = (pfX8_isIn_r p3 0 2) := hu
      subst hu
      have hP : va_P (dC, dI) vwCl [(y, .inr (8, [.ref yt, .int 0, .int 0, .ref yr, .ref yk, .ref yz, .ref yp, .int 0, .int 0, .int 0, .int 0, .ref yl, .ref yw, .int 0, .int 0, .int 0, .int 0, .int 0, .int 0, .int 0, .int 0, .int (-1), .ref yd, .int 0, .ref ys, .ref yn, .ref ym, .int 0, .ref yf, .ref yo, .ref yh, .ref yb, .int 0, .int 0, .int 0, .int 0, .int 0, .int 0, .int 0, .ref yx, .int 0, .int 0, .int 0])), (yr, .inl (cI, 4668, .inl (jn [0, 4, 0, 0, 0, 0, 0, 0, 0, 0, 0, 0, 0, 0, 0, 0, 0, (-1), 0, 0, 0, 0, 0, 0] R0)))] H := hP
      have hD : va_D A [(y, .inr (8, [.ref yt, .int 0, .int 0, .ref yr, .ref yk, .ref yz, .ref yp, .int 0, .int 0, .int 0, .int 0, .ref yl, .ref yw, .int 0, .int 0, .int 0, .int 0, .int 0, .int 0, .int 0, .int 0, .int (-1), .ref yd, .int 0, .ref ys, .ref yn, .ref ym, .int 0, .ref yf, .ref yo, .ref yh, .ref yb, .int 0, .int 0, .int 0, .int 0, .int 0, .int 0, .int 0, .ref yx, .int 0, .int 0, .int 0])), (yr, .inl (cI, 4668, .inl (jn [0, 4, 0, 0, 0, 0, 0, 0, 0, 0, 0, 0, 0, 0, 0, 0, 0, (-1), 0, 0, 0, 0, 0, 0] R0)))] := hD
      refine lv_if_eq (tgt := 37) hx hb dX8_isDescriptor_30 (by decide) (fun c_3 => ?_) (fun c_3 => ?_)
      · refine lv_iconst (v := 0) hx hb dX8_isDescriptor_37 (by decide) ?_
        have e_0 : (pfX8_isDescriptor_r p1 p2 p3) = 0 := by rw [pfX8_isDescriptor_r, if_neg c_1, if_neg c_2, if_pos c_3]
        have hP9 := hP.sub (ws' := [(y, .inr (8, [.ref yt, .int 0, .int 0, .ref yr, .ref yk, .ref yz, .ref yp, .int 0, .int 0, .int 0, .int 0, .ref yl, .ref yw, .int 0, .int 0, .int 0, .int 0, .int 0, .int 0, .int 0, .int 0, .int (-1), .ref yd, .int 0, .ref ys, .ref yn, .ref ym, .int 0, .ref yf, .ref yo, .ref yh, .ref yb, .int 0, .int 0, .int 0, .int 0, .int 0, .int 0, .int 0, .ref yx, .int 0, .int 0, .int 0])), (yr, .inl (cI, 4668, .inl (jn [0, 4, 0, 0, 0, 0, 0, 0, 0, 0, 0, 0, 0, 0, 0, 0, 0, (-1), 0, 0, 0, 0, 0, 0] R0)))]) [0, 1] rfl
        have hD9 := hD.sub (ws' := [(y, .inr (8, [.ref yt, .int 0, .int 0, .ref yr, .ref yk, .ref yz, .ref yp, .int 0, .int 0, .int 0, .int 0, .ref yl, .ref yw, .int 0, .int 0, .int 0, .int 0, .int 0, .int 0, .int 0, .int 0, .int (-1), .ref yd, .int 0, .ref ys, .ref yn, .ref ym, .int 0, .ref yf, .ref yo, .ref yh, .ref yb, .int 0, .int 0, .int 0, .int 0, .int 0, .int 0, .int 0, .ref yx, .int 0, .int 0, .int 0])), (yr, .inl (cI, 4668, .inl (jn [0, 4, 0, 0, 0, 0, 0, 0, 0, 0, 0, 0, 0, 0, 0, 0, 0, (-1), 0, 0, 0, 0, 0, 0] R0)))]) [0, 1] (by decide) rfl
        exact W.zret (v := 0) hx hb hr rfl (fun t ht hW => ⟨⟨0, (), rfl, e_0.symm, by rw [ht]; exact hP9, va_K.moved hW.alike hK, hD9⟩, hS.F ht⟩) hS.2.2 dX8_isDescriptor_38
      · refine lv_iconst (v := 1) hx hb dX8_isDescriptor_33 (by decide) ?_
        refine lv_goto (tgt := 38) hx hb dX8_isDescriptor_34 (by decide) ?_
        have e_0 : (pfX8_isDescriptor_r p1 p2 p3) = 1 := by rw [pfX8_isDescriptor_r, if_neg c_1, if_neg c_2, if_neg c_3]
        have hP9 := hP.sub (ws' := [(y, .inr (8, [.ref yt, .int 0, .int 0, .ref yr, .ref yk, .ref yz, .ref yp, .int 0, .int 0, .int 0, .int 0, .ref yl, .ref yw, .int 0, .int 0, .int 0, .int 0, .int 0, .int 0, .int 0, .int 0, .int (-1), .ref yd, .int 0, .ref ys, .ref yn, .ref ym, .int 0, .ref yf, .ref yo, .ref yh, .ref yb, .int 0, .int 0, .int 0, .int 0, .int 0, .int 0, .int 0, .ref yx, .int 0, .int 0, .int 0])), (yr, .inl (cI, 4668, .inl (jn [0, 4, 0, 0, 0, 0, 0, 0, 0, 0, 0, 0, 0, 0, 0, 0, 0, (-1), 0, 0, 0, 0, 0, 0] R0)))]) [0, 1] rfl
        have hD9 := hD.sub (ws' := [(y, .inr (8, [.ref yt, .int 0, .int 0, .ref yr, .ref yk, .ref yz, .ref yp, .int 0, .int 0, .int 0, .int 0, .ref yl, .ref yw, .int 0, .int 0, .int 0, .int 0, .int 0, .int 0, .int 0, .int 0, .int (-1), .ref yd, .int 0, .ref ys, .ref yn, .ref ym, .int 0, .ref yf, .ref yo, .ref yh, .ref yb, .int 0, .int 0, .int 0, .int 0, .int 0, .int 0, .int 0, .ref yx, .int 0, .int 0, .int 0])), (yr, .inl (cI, 4668, .inl (jn [0, 4, 0, 0, 0, 0, 0, 0, 0, 0, 0, 0, 0, 0, 0, 0, 0, (-1), 0, 0, 0, 0, 0, 0] R0)))]) [0, 1] (by decide) rfl
        exact W.zret (v := 1) hx hb hr rfl (fun t ht hW => ⟨⟨1, (), rfl, e_0.symm, by rw [ht]; exact hP9, va_K.moved hW.alike hK, hD9⟩, hS.F ht⟩) hS.2.2 dX8_isDescriptor_38

set_option maxHeartbeats 4000000 in
set_option maxRecDepth 100000 in
theorem kkX8_at (l : Launch) (dC : Nat → ClassId) (dI : Nat → Nat → Nat) (cI cB cZ cR : ClassId) (sz : Nat) (p1 : Int32) (p2 : Int32) (p3 : Int32) : Met l yX8_at (.code yX8_at cX8_at 3 (some .int) :: wsL_law) ({ frames := 0, cells := 0, slots := 0, locals := 0 }) (zPc dC dI (zT cI cB cZ cR) [.int p1, .int p2, .int p3] sz []) (va_Qi (fun (r : Int32) (_ : Unit) => r = (((24 + (24 * p1)) + (3 * p2)) + p3)) (fun _ : Unit => zB dC dI (zT cI cB cZ cR) (va_A [] sz) []) (va_A [] sz)) 0 0 (va_A [] sz) := by
  refine Met.ofW (cc := cX8_at) (maxL := 3) (ret := (some .int)) (by decide) rfl ?_
  intro p e s m args below meth c s₁ B hml hv
  obtain ⟨rfl, hsz, hP, hK, hD0, hN⟩ := hv
  have hx := B.exec
  have hb := B.bytes
  have hr := B.returns
  have hts := atoms_spec (ws := (.code yX8_at cX8_at 3 (some .int) :: wsL_law)) B.pre
  have hown : s.vm.findClass RX8 = some m.cls := findClass_of_methodNamed B.named
  have hlocks := B.notSynchronized
  subst hsz
  have hD := hD0.self (sz := s.heap.size)
  generalize hAe : va_A [] s.heap.size = A at hD ⊢
  have hA : ∀ q : Nat, s.heap.size ≤ q → A q := fun q h => by rw [← hAe]; exact Or.inr h
  have hP : va_P (dC, dI) vwCl [] s.heap := hP
  have hl := lv_entry ([.int p1, .int p2, .int p3]) (n := 3) (Nat.le_of_ble_eq_true rfl)
  rw [lg_entry_eq]
  generalize (lg_sl ([.int p1, .int p2, .int p3]) ++ List.replicate (3 - (lg_sl ([.int p1, .int p2, .int p3])).length) Slot.unset).toArray = ls at hl ⊢
  have hl : lv_has ls 3 [(0, .int p1), (1, .int p2), (2, .int p3)] := hl
  obtain ⟨H, hH⟩ : ∃ H, H = s.heap := ⟨_, rfl⟩
  rw [← hH] at hP ⊢
  have hS : va_S A s.heap H [] := by rw [hH]; exact va_S.rf
  refine lv_bipush (v := 24) hx hb dX8_at_0 (by decide) ?_
  refine lv_bipush (v := 24) hx hb dX8_at_2 (by decide) ?_
  refine lv_iload_n hx hb dX8_at_4 rfl (lv_at hl 0 rfl) ?_
  refine lv_imul hx hb dX8_at_5 ?_
  refine lv_iadd hx hb dX8_at_6 ?_
  refine lv_iconst (v := 3) hx hb dX8_at_7 (by decide) ?_
  refine lv_iload_n hx hb dX8_at_8 rfl (lv_at hl 1 rfl) ?_
  refine lv_imul hx hb dX8_at_9 ?_
  refine lv_iadd hx hb dX8_at_10 ?_
  refine lv_iload_n hx hb dX8_at_11 rfl (lv_at hl 2 rfl) ?_
  refine lv_iadd hx hb dX8_at_12 ?_
  have hP9 := hP.sub (ws' := []) [] rfl
  have hD9 := hD.sub (ws' := []) [] (by decide) rfl
  exact W.iret (v := (((24 + (24 * p1)) + (3 * p2)) + p3)) hx hb hr (fun t ht hW => ⟨⟨(((24 + (24 * p1)) + (3 * p2)) + p3), (), rfl, rfl, by rw [ht]; exact hP9, va_K.moved hW.alike hK, hD9⟩, hS.F ht⟩) hS.2.2 dX8_at_13

set_option maxHeartbeats 4000000 in
set_option maxRecDepth 100000 in
theorem kkX8_at_0_0 (l : Launch) (dC : Nat → ClassId) (dI : Nat → Nat → Nat) (cI cB cZ cR : ClassId) (sz : Nat) (p2 : Int32) : Met l yX8_at (.code yX8_at cX8_at 3 (some .int) :: wsL_law) ({ frames := 0, cells := 0, slots := 0, locals := 0 }) (zPc dC dI (zT cI cB cZ cR) [.int 0, .int p2, .int 0] sz []) (va_Qi (fun (r : Int32) (_ : Unit) => r = ((24 + (3 * p2)) + 0)) (fun _ : Unit => zB dC dI (zT cI cB cZ cR) (va_A [] sz) []) (va_A [] sz)) 0 0 (va_A [] sz) := by
  refine Met.ofW (cc := cX8_at) (maxL := 3) (ret := (some .int)) (by decide) rfl ?_
  intro p e s m args below meth c s₁ B hml hv
  obtain ⟨rfl, hsz, hP, hK, hD0, hN⟩ := hv
  have hx := B.exec
  have hb := B.bytes
  have hr := B.returns
  have hts := atoms_spec (ws := (.code yX8_at cX8_at 3 (some .int) :: wsL_law)) B.pre
  have hown : s.vm.findClass RX8 = some m.cls := findClass_of_methodNamed B.named
  have hlocks := B.notSynchronized
  subst hsz
  have hD := hD0.self (sz := s.heap.size)
  generalize hAe : va_A [] s.heap.size = A at hD ⊢
  have hA : ∀ q : Nat, s.heap.size ≤ q → A q := fun q h => by rw [← hAe]; exact Or.inr h
  have hP : va_P (dC, dI) vwCl [] s.heap := hP
  have hl := lv_entry ([.int 0, .int p2, .int 0]) (n := 3) (Nat.le_of_ble_eq_true rfl)
  rw [lg_entry_eq]
  generalize (lg_sl ([.int 0, .int p2, .int 0]) ++ List.replicate (3 - (lg_sl ([.int 0, .int p2, .int 0])).length) Slot.unset).toArray = ls at hl ⊢
  have hl : lv_has ls 3 [(0, .int 0), (1, .int p2), (2, .int 0)] := hl
  obtain ⟨H, hH⟩ : ∃ H, H = s.heap := ⟨_, rfl⟩
  rw [← hH] at hP ⊢
  have hS : va_S A s.heap H [] := by rw [hH]; exact va_S.rf
  refine lv_bipush (v := 24) hx hb dX8_at_0 (by decide) ?_
  refine lv_bipush (v := 24) hx hb dX8_at_2 (by decide) ?_
  refine lv_iload_n hx hb dX8_at_4 rfl (lv_at hl 0 rfl) ?_
  refine lv_imul hx hb dX8_at_5 ?_
  refine tp (y := 0) (by decide) ?_
  refine lv_iadd hx hb dX8_at_6 ?_
  refine tp (y := 24) (by decide) ?_
  refine lv_iconst (v := 3) hx hb dX8_at_7 (by decide) ?_
  refine lv_iload_n hx hb dX8_at_8 rfl (lv_at hl 1 rfl) ?_
  refine lv_imul hx hb dX8_at_9 ?_
  refine lv_iadd hx hb dX8_at_10 ?_
  refine lv_iload_n hx hb dX8_at_11 rfl (lv_at hl 2 rfl) ?_
  refine lv_iadd hx hb dX8_at_12 ?_
  have hP9 := hP.sub (ws' := []) [] rfl
  have hD9 := hD.sub (ws' := []) [] (by decide) rfl
  exact W.iret (v := ((24 + (3 * p2)) + 0)) hx hb hr (fun t ht hW => ⟨⟨((24 + (3 * p2)) + 0), (), rfl, rfl, by rw [ht]; exact hP9, va_K.moved hW.alike hK, hD9⟩, hS.F ht⟩) hS.2.2 dX8_at_13

set_option maxHeartbeats 4000000 in
set_option maxRecDepth 100000 in
theorem kkX8_at_0_1 (l : Launch) (dC : Nat → ClassId) (dI : Nat → Nat → Nat) (cI cB cZ cR : ClassId) (sz : Nat) (p2 : Int32) : Met l yX8_at (.code yX8_at cX8_at 3 (some .int) :: wsL_law) ({ frames := 0, cells := 0, slots := 0, locals := 0 }) (zPc dC dI (zT cI cB cZ cR) [.int 0, .int p2, .int 1] sz []) (va_Qi (fun (r : Int32) (_ : Unit) => r = ((24 + (3 * p2)) + 1)) (fun _ : Unit => zB dC dI (zT cI cB cZ cR) (va_A [] sz) []) (va_A [] sz)) 0 0 (va_A [] sz) := by
  refine Met.ofW (cc := cX8_at) (maxL := 3) (ret := (some .int)) (by decide) rfl ?_
  intro p e s m args below meth c s₁ B hml hv
  obtain ⟨rfl, hsz, hP, hK, hD0, hN⟩ := hv
  have hx := B.exec
  have hb := B.bytes
  have hr := B.returns
  have hts := atoms_spec (ws := (.code yX8_at cX8_at 3 (some .int) :: wsL_law)) B.pre
  have hown : s.vm.findClass RX8 = some m.cls := findClass_of_methodNamed B.named
  have hlocks := B.notSynchronized
  subst hsz
  have hD := hD0.self (sz := s.heap.size)
  generalize hAe : va_A [] s.heap.size = A at hD ⊢
  have hA : ∀ q : Nat, s.heap.size ≤ q → A q := fun q h => by rw [← hAe]; exact Or.inr h
  have hP : va_P (dC, dI) vwCl [] s.heap := hP
  have hl := lv_entry ([.int 0, .int p2, .int 1]) (n := 3) (Nat.le_of_ble_eq_true rfl)
  rw [lg_entry_eq]
  generalize (lg_sl ([.int 0, .int p2, .int 1]) ++ List.replicate (3 - (lg_sl ([.int 0, .int p2, .int 1])).length) Slot.unset).toArray = ls at hl ⊢
  have hl : lv_has ls 3 [(0, .int 0), (1, .int p2), (2, .int 1)] := hl
  obtain ⟨H, hH⟩ : ∃ H, H = s.heap := ⟨_, rfl⟩
  rw [← hH] at hP ⊢
  have hS : va_S A s.heap H [] := by rw [hH]; exact va_S.rf
  refine lv_bipush (v := 24) hx hb dX8_at_0 (by decide) ?_
  refine lv_bipush (v := 24) hx hb dX8_at_2 (by decide) ?_
  refine lv_iload_n hx hb dX8_at_4 rfl (lv_at hl 0 rfl) ?_
  refine lv_imul hx hb dX8_at_5 ?_
  refine tp (y := 0) (by decide) ?_
  refine lv_iadd hx hb dX8_at_6 ?_
  refine tp (y := 24) (by decide) ?_
  refine lv_iconst (v := 3) hx hb dX8_at_7 (by decide) ?_
  refine lv_iload_n hx hb dX8_at_8 rfl (lv_at hl 1 rfl) ?_
  refine lv_imul hx hb dX8_at_9 ?_
  refine lv_iadd hx hb dX8_at_10 ?_
  refine lv_iload_n hx hb dX8_at_11 rfl (lv_at hl 2 rfl) ?_
  refine lv_iadd hx hb dX8_at_12 ?_
  have hP9 := hP.sub (ws' := []) [] rfl
  have hD9 := hD.sub (ws' := []) [] (by decide) rfl
  exact W.iret (v := ((24 + (3 * p2)) + 1)) hx hb hr (fun t ht hW => ⟨⟨((24 + (3 * p2)) + 1), (), rfl, rfl, by rw [ht]; exact hP9, va_K.moved hW.alike hK, hD9⟩, hS.F ht⟩) hS.2.2 dX8_at_13

set_option maxHeartbeats 4000000 in
set_option maxRecDepth 100000 in
theorem kkX8_at_0_2 (l : Launch) (dC : Nat → ClassId) (dI : Nat → Nat → Nat) (cI cB cZ cR : ClassId) (sz : Nat) (p2 : Int32) : Met l yX8_at (.code yX8_at cX8_at 3 (some .int) :: wsL_law) ({ frames := 0, cells := 0, slots := 0, locals := 0 }) (zPc dC dI (zT cI cB cZ cR) [.int 0, .int p2, .int 2] sz []) (va_Qi (fun (r : Int32) (_ : Unit) => r = ((24 + (3 * p2)) + 2)) (fun _ : Unit => zB dC dI (zT cI cB cZ cR) (va_A [] sz) []) (va_A [] sz)) 0 0 (va_A [] sz) := by
  refine Met.ofW (cc := cX8_at) (maxL := 3) (ret := (some .int)) (by decide) rfl ?_
  intro p e s m args below meth c s₁ B hml hv
  obtain ⟨rfl, hsz, hP, hK, hD0, hN⟩ := hv
  have hx := B.exec
  have hb := B.bytes
  have hr := B.returns
  have hts := atoms_spec (ws := (.code yX8_at cX8_at 3 (some .int) :: wsL_law)) B.pre
  have hown : s.vm.findClass RX8 = some m.cls := findClass_of_methodNamed B.named
  have hlocks := B.notSynchronized
  subst hsz
  have hD := hD0.self (sz := s.heap.size)
  generalize hAe : va_A [] s.heap.size = A at hD ⊢
  have hA : ∀ q : Nat, s.heap.size ≤ q → A q := fun q h => by rw [← hAe]; exact Or.inr h
  have hP : va_P (dC, dI) vwCl [] s.heap := hP
  have hl := lv_entry ([.int 0, .int p2, .int 2]) (n := 3) (Nat.le_of_ble_eq_true rfl)
  rw [lg_entry_eq]
  generalize (lg_sl ([.int 0, .int p2, .int 2]) ++ List.replicate (3 - (lg_sl ([.int 0, .int p2, .int 2])).length) Slot.unset).toArray = ls at hl ⊢
  have hl : lv_has ls 3 [(0, .int 0), (1, .int p2), (2, .int 2)] := hl
  obtain ⟨H, hH⟩ : ∃ H, H = s.heap := ⟨_, rfl⟩
  rw [← hH] at hP ⊢
  have hS : va_S A s.heap H [] := by rw [hH]; exact va_S.rf
  refine lv_bipush (v := 24) hx hb dX8_at_0 (by decide) ?_
  refine lv_bipush (v := 24) hx hb dX8_at_2 (by decide) ?_
  refine lv_iload_n hx hb dX8_at_4 rfl (lv_at hl 0 rfl) ?_
  refine lv_imul hx hb dX8_at_5 ?_
  refine tp (y := 0) (by decide) ?_
  refine lv_iadd hx hb dX8_at_6 ?_
  refine tp (y := 24) (by decide) ?_
  refine lv_iconst (v := 3) hx hb dX8_at_7 (by decide) ?_
  refine lv_iload_n hx hb dX8_at_8 rfl (lv_at hl 1 rfl) ?_
  refine lv_imul hx hb dX8_at_9 ?_
  refine lv_iadd hx hb dX8_at_10 ?_
  refine lv_iload_n hx hb dX8_at_11 rfl (lv_at hl 2 rfl) ?_
  refine lv_iadd hx hb dX8_at_12 ?_
  have hP9 := hP.sub (ws' := []) [] rfl
  have hD9 := hD.sub (ws' := []) [] (by decide) rfl
  exact W.iret (v := ((24 + (3 * p2)) + 2)) hx hb hr (fun t ht hW => ⟨⟨((24 + (3 * p2)) + 2), (), rfl, rfl, by rw [ht]; exact hP9, va_K.moved hW.alike hK, hD9⟩, hS.F ht⟩) hS.2.2 dX8_at_13

theorem desc0 {a b c : Int32} (h : ¬ pfX8_isDescriptor_r a b c = 0) : a = 0 ∧ ∃ i w : Nat, i < 4 ∧ w < 3 ∧ b = nI i ∧ c = nI w := by
  unfold pfX8_isDescriptor_r at h
  by_cases h1 : pfX8_isIn_r a 0 4 = 0
  · rw [if_pos h1] at h; exact absurd rfl h
  rw [if_neg h1] at h
  by_cases h2 : pfX8_isIn_r b 0 (pfX8_tableSize_r a - 1) = 0
  · rw [if_pos h2] at h; exact absurd rfl h
  rw [if_neg h2] at h
  by_cases h3 : pfX8_isIn_r c 0 2 = 0
  · rw [if_pos h3] at h; exact absurd rfl h
  have e2 : (2 : Int32).toInt = 2 := by decide
  have e3 : (3 : Int32).toInt = 3 := by decide
  obtain ⟨w, hw, rfl⟩ := isIn_lt (by decide) h3
  by_cases ha : a = 0
  · subst ha
    have e : pfX8_tableSize_r 0 - 1 = 3 := by decide
    rw [e] at h2
    obtain ⟨i, hi, rfl⟩ := isIn_lt (by decide) h2
    exact ⟨rfl, i, w, by omega, by omega, rfl, rfl⟩
  · have e : pfX8_tableSize_r a - 1 = -1 := by unfold pfX8_tableSize_r; rw [if_neg ha]; decide
    rw [e, isIn_m1] at h2
    exact absurd rfl h2
theorem desc_ix {a b c : Int32} (h : ¬ pfX8_isDescriptor_r a b c = 0) : ∃ k : Nat, 24 ≤ k ∧ k < 48 ∧ (((24 + (24 * a)) + (3 * b)) + c) = nI k := by
  obtain ⟨rfl, i, w, hi, hw, rfl, rfl⟩ := desc0 h
  refine ⟨24 + 3 * i + w, by omega, by omega, ?_⟩
  rw [show (24 : Int32) + 24 * 0 = nI 24 by decide, show (3 : Int32) = nI 3 by decide, pk_mul, nI_add, nI_add]
theorem desc_in {a b c : Int32} (h : ¬ pfX8_isDescriptor_r a b c = 0) : vp_in (((24 + (24 * a)) + (3 * b)) + c) 4668 := by
  obtain ⟨k, h1, h2, e⟩ := desc_ix h
  rw [e]
  exact vp_in_nI (by omega) (by decide)
theorem desc_rd {L : List Int32} {a b c : Int32} (h : ¬ pfX8_isDescriptor_r a b c = 0) : jn L R0 (((24 + (24 * a)) + (3 * b)) + c).toNatClampNeg = 0 := by
  obtain ⟨k, h1, h2, e⟩ := desc_ix h
  rw [e, nI_clamp (by omega), jn_hi (by omega), R0_lo (by omega)]
theorem isDesc_nz (a b c : Int32) : narrow .boolean (.int (pfX8_isDescriptor_r a b c)) = .int (pfX8_isDescriptor_r a b c) := by
  unfold pfX8_isDescriptor_r
  repeat' split
  all_goals rfl

def pfX8_spoil_r (p1 : Int32) (p2 : Int32) (p3 : Int32) (p4 : Int32) : Int32 := if (pfX8_isDescriptor_r p1 p2 p3) = 0 then (-1) else (if p3 = 0 then (if (pfX8_isIn_r p4 0 999) = 0 then (-1) else 0) else (if p3 = 1 then (if (pfX8_isIn_r p4 0 31) = 0 then (-1) else 0) else (if (pfX8_isIn_r p4 0 99) = 0 then (-1) else 0)))
def pfX8_spoil_yr_f (p1 : Int32) (p2 : Int32) (p3 : Int32) (p4 : Int32) : Nat → Int32 := if (pfX8_isDescriptor_r p1 p2 p3) = 0 then (jn [0, 4, 0, 0, 0, 0, 0, 0, 0, 0, 0, 0, 0, 0, 0, 0, 0, (-1), 0, 0, 0, 0, 0, 0] R0) else (if p3 = 0 then (if (pfX8_isIn_r p4 0 999) = 0 then (jn [0, 4, 0, 0, 0, 0, 0, 0, 0, 0, 0, 0, 0, 0, 0, 0, 0, (-1), 0, 0, 0, 0, 0, 0] R0) else (upd (jn [0, 4, 0, 0, 0, 0, 0, 0, 0, 0, 0, 0, 0, 0, 0, 0, 0, (-1), 0, 0, 0, 0, 0, 0] R0) (Int32.toNatClampNeg (((24 + (24 * p1)) + (3 * p2)) + p3)) p4)) else (if p3 = 1 then (if (pfX8_isIn_r p4 0 31) = 0 then (jn [0, 4, 0, 0, 0, 0, 0, 0, 0, 0, 0, 0, 0, 0, 0, 0, 0, (-1), 0, 0, 0, 0, 0, 0] R0) else (upd (jn [0, 4, 0, 0, 0, 0, 0, 0, 0, 0, 0, 0, 0, 0, 0, 0, 0, (-1), 0, 0, 0, 0, 0, 0] R0) (Int32.toNatClampNeg (((24 + (24 * p1)) + (3 * p2)) + p3)) p4)) else (if (pfX8_isIn_r p4 0 99) = 0 then (jn [0, 4, 0, 0, 0, 0, 0, 0, 0, 0, 0, 0, 0, 0, 0, 0, 0, (-1), 0, 0, 0, 0, 0, 0] R0) else (upd (jn [0, 4, 0, 0, 0, 0, 0, 0, 0, 0, 0, 0, 0, 0, 0, 0, 0, (-1), 0, 0, 0, 0, 0, 0] R0) (Int32.toNatClampNeg (((24 + (24 * p1)) + (3 * p2)) + p3)) p4))))
set_option maxHeartbeats 4000000 in
set_option maxRecDepth 100000 in
theorem kkX8_spoil (l : Launch) (dC : Nat → ClassId) (dI : Nat → Nat → Nat) (cI cB cZ cR : ClassId) (sz : Nat) (y : Nat) (yt : Nat) (yr : Nat) (yk : Nat) (yz : Nat) (yp : Nat) (yl : Nat) (yw : Nat) (yd : Nat) (ys : Nat) (yn : Nat) (ym : Nat) (yf : Nat) (yo : Nat) (yh : Nat) (yb : Nat) (yx : Nat) (p1 : Int32) (p2 : Int32) (p3 : Int32) (p4 : Int32) : Met l yX8_spoil (.code yX8_spoil cX8_spoil 6 (some .int) :: wsL_law) ({ frames := 2, cells := 0, slots := 0, locals := 45 }) (zPc dC dI (zT cI cB cZ cR) [.ref y, .int p1, .int p2, .int p3, .int p4] sz [(y, .inr (8, [.ref yt, .int 0, .int 0, .ref yr, .ref yk, .ref yz, .ref yp, .int 0, .int 0, .int 0, .int 0, .ref yl, .ref yw, .int 0, .int 0, .int 0, .int 0, .int 0, .int 0, .int 0, .int 0, .int (-1), .ref yd, .int 0, .ref ys, .ref yn, .ref ym, .int 0, .ref yf, .ref yo, .ref yh, .ref yb, .int 0, .int 0, .int 0, .int 0, .int 0, .int 0, .int 0, .ref yx, .int 0, .int 0, .int 0])), (yr, .inl (cI, 4668, .inl (jn [0, 4, 0, 0, 0, 0, 0, 0, 0, 0, 0, 0, 0, 0, 0, 0, 0, (-1), 0, 0, 0, 0, 0, 0] R0)))]) (va_Qi (fun (r : Int32) (_ : Unit) => r = (pfX8_spoil_r p1 p2 p3 p4)) (fun _ : Unit => zB dC dI (zT cI cB cZ cR) (va_A [(y, .inr (8, [.ref yt, .int 0, .int 0, .ref yr, .ref yk, .ref yz, .ref yp, .int 0, .int 0, .int 0, .int 0, .ref yl, .ref yw, .int 0, .int 0, .int 0, .int 0, .int 0, .int 0, .int 0, .int 0, .int (-1), .ref yd, .int 0, .ref ys, .ref yn, .ref ym, .int 0, .ref yf, .ref yo, .ref yh, .ref yb, .int 0, .int 0, .int 0, .int 0, .int 0, .int 0, .int 0, .ref yx, .int 0, .int 0, .int 0])), (yr, .inl (cI, 4668, .inl (jn [0, 4, 0, 0, 0, 0, 0, 0, 0, 0, 0, 0, 0, 0, 0, 0, 0, (-1), 0, 0, 0, 0, 0, 0] R0)))] sz) [(y, .inr (8, [.ref yt, .int 0, .int 0, .ref yr, .ref yk, .ref yz, .ref yp, .int 0, .int 0, .int 0, .int 0, .ref yl, .ref yw, .int 0, .int 0, .int 0, .int 0, .int 0, .int 0, .int 0, .int 0, .int (-1), .ref yd, .int 0, .ref ys, .ref yn, .ref ym, .int 0, .ref yf, .ref yo, .ref yh, .ref yb, .int 0, .int 0, .int 0, .int 0, .int 0, .int 0, .int 0, .ref yx, .int 0, .int 0, .int 0])), (yr, .inl (cI, 4668, .inl (pfX8_spoil_yr_f p1 p2 p3 p4)))]) (va_A [(y, .inr (8, [.ref yt, .int 0, .int 0, .ref yr, .ref yk, .ref yz, .ref yp, .int 0, .int 0, .int 0, .int 0, .ref yl, .ref yw, .int 0, .int 0, .int 0, .int 0, .int 0, .int 0, .int 0, .int 0, .int (-1), .ref yd, .int 0, .ref ys, .ref yn, .ref ym, .int 0, .ref yf, .ref yo, .ref yh, .ref yb, .int 0, .int 0, .int 0, .int 0, .int 0, .int 0, .int 0, .ref yx, .int 0, .int 0, .int 0])), (yr, .inl (cI, 4668, .inl (jn [0, 4, 0, 0, 0, 0, 0, 0, 0, 0, 0, 0, 0, 0, 0, 0, 0, (-1), 0, 0, 0, 0, 0, 0] R0)))] sz)) 0 0 (va_A [(y, .inr (8, [.ref yt, .int 0, .int 0, .ref yr, .ref yk, .ref yz, .ref yp, .int 0, .int 0, .int 0, .int 0, .ref yl, .ref yw, .int 0, .int 0, .int 0, .int 0, .int 0, .int 0, .int 0, .int 0, .int (-1), .ref yd, .int 0, .ref ys, .ref yn, .ref ym, .int 0, .ref yf, .ref yo, .ref yh, .ref yb, .int 0, .int 0, .int 0, .int 0, .int 0, .int 0, .int 0, .ref yx, .int 0, .int 0, .int 0])), (yr, .inl (cI, 4668, .inl (jn [0, 4, 0, 0, 0, 0, 0, 0, 0, 0, 0, 0, 0, 0, 0, 0, 0, (-1), 0, 0, 0, 0, 0, 0] R0)))] sz) := by
  refine Met.ofW (cc := cX8_spoil) (maxL := 6) (ret := (some .int)) (by decide) rfl ?_
  intro p e s m args below meth c s₁ B hml hv
  obtain ⟨rfl, hsz, hP, hK, hD0, hN⟩ := hv
  have hx := B.exec
  have hb := B.bytes
  have hr := B.returns
  have hts := atoms_spec (ws := (.code yX8_spoil cX8_spoil 6 (some .int) :: wsL_law)) B.pre
  have hown : s.vm.findClass RX8 = some m.cls := findClass_of_methodNamed B.named
  have hlocks := B.notSynchronized
  have hinX8 : ∀ w ∈ u_ws RX8 TX8 43, w ∈ (.code yX8_spoil cX8_spoil 6 (some .int) :: wsL_law) := fun w h => List.mem_cons_of_mem _ (inlX8 w h)
  have k_0 := hts (.fieldLink RX8 13 "RingMarksModel" "\x72" "[I") (List.mem_cons_of_mem _ wm_128)
  subst hsz
  have hD := hD0.self (sz := s.heap.size)
  generalize hAe : va_A [(y, .inr (8, [.ref yt, .int 0, .int 0, .ref yr, .ref yk, .ref yz, .ref yp, .int 0, .int 0, .int 0, .int 0, .ref yl, .ref yw, .int 0, .int 0, .int 0, .int 0, .int 0, .int 0, .int 0, .int 0, .int (-1), .ref yd, .int 0, .ref ys, .ref yn, .ref ym, .int 0, .ref yf, .ref yo, .ref yh, .ref yb, .int 0, .int 0, .int 0, .int 0, .int 0, .int 0, .int 0, .ref yx, .int 0, .int 0, .int 0])), (yr, .inl (cI, 4668, .inl (jn [0, 4, 0, 0, 0, 0, 0, 0, 0, 0, 0, 0, 0, 0, 0, 0, 0, (-1), 0, 0, 0, 0, 0, 0] R0)))] s.heap.size = A at hD ⊢
  have hA : ∀ q : Nat, s.heap.size ≤ q → A q := fun q h => by rw [← hAe]; exact Or.inr h
  have hP : va_P (dC, dI) vwCl [(y, .inr (8, [.ref yt, .int 0, .int 0, .ref yr, .ref yk, .ref yz, .ref yp, .int 0, .int 0, .int 0, .int 0, .ref yl, .ref yw, .int 0, .int 0, .int 0, .int 0, .int 0, .int 0, .int 0, .int 0, .int (-1), .ref yd, .int 0, .ref ys, .ref yn, .ref ym, .int 0, .ref yf, .ref yo, .ref yh, .ref yb, .int 0, .int 0, .int 0, .int 0, .int 0, .int 0, .int 0, .ref yx, .int 0, .int 0, .int 0])), (yr, .inl (cI, 4668, .inl (jn [0, 4, 0, 0, 0, 0, 0, 0, 0, 0, 0, 0, 0, 0, 0, 0, 0, (-1), 0, 0, 0, 0, 0, 0] R0)))] s.heap := hP
  have hl := lv_entry ([.ref y, .int p1, .int p2, .int p3, .int p4]) (n := 6) (Nat.le_of_ble_eq_true rfl)
  rw [lg_entry_eq]
  generalize (lg_sl ([.ref y, .int p1, .int p2, .int p3, .int p4]) ++ List.replicate (6 - (lg_sl ([.ref y, .int p1, .int p2, .int p3, .int p4])).length) Slot.unset).toArray = ls at hl ⊢
  have hl : lv_has ls 6 [(0, .ref y), (1, .int p1), (2, .int p2), (3, .int p3), (4, .int p4)] := hl
  obtain ⟨H, hH⟩ : ∃ H, H = s.heap := ⟨_, rfl⟩
  rw [← hH] at hP ⊢
  have hS : va_S A s.heap H [] := by rw [hH]; exact va_S.rf
  refine lv_aload_n hx hb dX8_spoil_0 rfl (lv_at hl 0 rfl) ?_
  refine lv_iload_n hx hb dX8_spoil_1 rfl (lv_at hl 1 rfl) ?_
  refine lv_iload_n hx hb dX8_spoil_2 rfl (lv_at hl 2 rfl) ?_
  refine lv_iload_n hx hb dX8_spoil_3 rfl (lv_at hl 3 rfl) ?_
  refine zcVi (As := [.int p1, .int p2, .int p3]) (rest := []) (wr := []) ⟨hx, hb, hml, hown, hts⟩ (kkX8_isDescriptor l dC dI cI cB cZ cR H.size y yt yr yk yz yp yl yw yd ys yn ym yf yo yh yb yx p1 p2 p3 ) (cwV 3 hts (zgV wm_737 wm_738 wm_739 wm_5 wm_740) rfl rfl rfl (by decide +kernel) ⟨Nat.le_of_ble_eq_true rfl, Nat.le_of_ble_eq_true rfl⟩) hN hK hP hD hS hA [0, 1] [] rfl rfl ⟨rfl, rfl⟩ (by decide) (ci := 8) rfl rfl rfl rfl hl.1 rfl (Nat.le_of_ble_eq_true rfl) dX8_spoil_4 ⟨Nat.le_of_ble_eq_true rfl, Nat.le_of_ble_eq_true rfl⟩ (fun r u hu H locs hP hD hS => ?_)
  have hu : r = (pfX8_isDescriptor_r p1 p2 p3) := hu
  subst hu
  have hP : va_P (dC, dI) vwCl [(y, .inr (8, [.ref yt, .int 0, .int 0, .ref yr, .ref yk, .ref yz, .ref yp, .int 0, .int 0, .int 0, .int 0, .ref yl, .ref yw, .int 0, .int 0, .int 0, .int 0, .int 0, .int 0, .int 0, .int 0, .int (-1), .ref yd, .int 0, .ref ys, .ref yn, .ref ym, .int 0, .ref yf, .ref yo, .ref yh, .ref yb, .int 0, .int 0, .int 0, .int 0, .int 0, .int 0, .int 0, .ref yx, .int 0, .int 0, .int 0])), (yr, .inl (cI, 4668, .inl (jn [0, 4, 0, 0, 0, 0, 0, 0, 0, 0, 0, 0, 0, 0, 0, 0, 0, (-1), 0, 0, 0, 0, 0, 0] R0)))] H := hP
  have hD : va_D A [(y, .inr (8, [.ref yt, .int 0, .int 0, .ref yr, .ref yk, .ref yz, .ref yp, .int 0, .int 0, .int 0, .int 0, .ref yl, .ref yw, .int 0, .int 0, .int 0, .int 0, .int 0, .int 0, .int 0, .int 0, .int (-1), .ref yd, .int 0, .ref ys, .ref yn, .ref ym, .int 0, .ref yf, .ref yo, .ref yh, .ref yb, .int 0, .int 0, .int 0, .int 0, .int 0, .int 0, .int 0, .ref yx, .int 0, .int 0, .int 0])), (yr, .inl (cI, 4668, .inl (jn [0, 4, 0, 0, 0, 0, 0, 0, 0, 0, 0, 0, 0, 0, 0, 0, 0, (-1), 0, 0, 0, 0, 0, 0] R0)))] := hD
  refine lv_if_eq (tgt := 41) hx hb dX8_spoil_7 (by decide) (fun c_1 => ?_) (fun c_1 => ?_)
  · refine lv_iconst (v := (-1)) hx hb dX8_spoil_41 (by decide) ?_
    have e_0 : (pfX8_spoil_r p1 p2 p3 p4) = (-1) := by rw [pfX8_spoil_r, if_pos c_1]
    have e_1 : (pfX8_spoil_yr_f p1 p2 p3 p4) = (jn [0, 4, 0, 0, 0, 0, 0, 0, 0, 0, 0, 0, 0, 0, 0, 0, 0, (-1), 0, 0, 0, 0, 0, 0] R0) := by rw [pfX8_spoil_yr_f, if_pos c_1]
    have hP9 := hP.sub (ws' := [(y, .inr (8, [.ref yt, .int 0, .int 0, .ref yr, .ref yk, .ref yz, .ref yp, .int 0, .int 0, .int 0, .int 0, .ref yl, .ref yw, .int 0, .int 0, .int 0, .int 0, .int 0, .int 0, .int 0, .int 0, .int (-1), .ref yd, .int 0, .ref ys, .ref yn, .ref ym, .int 0, .ref yf, .ref yo, .ref yh, .ref yb, .int 0, .int 0, .int 0, .int 0, .int 0, .int 0, .int 0, .ref yx, .int 0, .int 0, .int 0])), (yr, .inl (cI, 4668, .inl (jn [0, 4, 0, 0, 0, 0, 0, 0, 0, 0, 0, 0, 0, 0, 0, 0, 0, (-1), 0, 0, 0, 0, 0, 0] R0)))]) [0, 1] rfl
    have hD9 := hD.sub (ws' := [(y, .inr (8, [.ref yt, .int 0, .int 0, .ref yr, .ref yk, .ref yz, .ref yp, .int 0, .int 0, .int 0, .int 0, .ref yl, .ref yw, .int 0, .int 0, .int 0, .int 0, .int 0, .int 0, .int 0, .int 0, .int (-1), .ref yd, .int 0, .ref ys, .ref yn, .ref ym, .int 0, .ref yf, .ref yo, .ref yh, .ref yb, .int 0, .int 0, .int 0, .int 0, .int 0, .int 0, .int 0, .ref yx, .int 0, .int 0, .int 0])), (yr, .inl (cI, 4668, .inl (jn [0, 4, 0, 0, 0, 0, 0, 0, 0, 0, 0, 0, 0, 0, 0, 0, 0, (-1), 0, 0, 0, 0, 0, 0] R0)))]) [0, 1] (by decide) rfl
    exact W.iret (v := (-1)) hx hb hr (fun t ht hW => ⟨⟨(-1), (), rfl, e_0.symm, by rw [ht, e_1]; exact hP9, va_K.moved hW.alike hK, (by rw [e_1]; exact hD9)⟩, hS.F ht⟩) hS.2.2 dX8_spoil_42
  · refine lv_iload hx hb dX8_spoil_10 (lv_at hl 4 rfl) ?_
    refine lv_iconst (v := 0) hx hb dX8_spoil_12 (by decide) ?_
    refine lv_iload_n hx hb dX8_spoil_13 rfl (lv_at hl 3 rfl) ?_
    refine lv_if_ne (tgt := 23) hx hb dX8_spoil_14 (by decide) (fun c_2 => ?_) (fun c_2 => ?_)
    · refine lv_iload_n hx hb dX8_spoil_23 rfl (lv_at hl 3 rfl) ?_
      refine lv_iconst (v := 1) hx hb dX8_spoil_24 (by decide) ?_
      refine lv_icmp_ne (tgt := 33) hx hb dX8_spoil_25 (by decide) (fun c_3 => ?_) (fun c_3 => ?_)
      · refine lv_bipush (v := 99) hx hb dX8_spoil_33 (by decide) ?_
        refine zcSi (As := [.int p4, .int 0, .int 99]) (rest := []) (wr := [(y, .inr (8, [.ref yt, .int 0, .int 0, .ref yr, .ref yk, .ref yz, .ref yp, .int 0, .int 0, .int 0, .int 0, .ref yl, .ref yw, .int 0, .int 0, .int 0, .int 0, .int 0, .int 0, .int 0, .int 0, .int (-1), .ref yd, .int 0, .ref ys, .ref yn, .ref ym, .int 0, .ref yf, .ref yo, .ref yh, .ref yb, .int 0, .int 0, .int 0, .int 0, .int 0, .int 0, .int 0, .ref yx, .int 0, .int 0, .int 0])), (yr, .inl (cI, 4668, .inl (jn [0, 4, 0, 0, 0, 0, 0, 0, 0, 0, 0, 0, 0, 0, 0, 0, 0, (-1), 0, 0, 0, 0, 0, 0] R0)))]) ⟨hx, hb, hml, hown, hts⟩ (kkX8_isIn l dC dI cI cB cZ cR H.size p4 0 99 ) (va_cwS 3 hts (zgS wm_191 wm_192 wm_5 wm_193) rfl rfl rfl (by decide +kernel) ⟨Nat.le_of_ble_eq_true rfl, Nat.le_of_ble_eq_true rfl⟩) hN hK hP hD hS hA [] [0, 1] rfl rfl ⟨rfl, rfl⟩ (by decide) rfl hl.1 rfl (Nat.le_of_ble_eq_true rfl) dX8_spoil_35 ⟨Nat.le_of_ble_eq_true rfl, Nat.le_of_ble_eq_true rfl⟩ (fun r u hu H locs hP hD hS => ?_)
        have hu : r = (pfX8_isIn_r p4 0 99) := hu
        subst hu
        have hP : va_P (dC, dI) vwCl [(y, .inr (8, [.ref yt, .int 0, .int 0, .ref yr, .ref yk, .ref yz, .ref yp, .int 0, .int 0, .int 0, .int 0, .ref yl, .ref yw, .int 0, .int 0, .int 0, .int 0, .int 0, .int 0, .int 0, .int 0, .int (-1), .ref yd, .int 0, .ref ys, .ref yn, .ref ym, .int 0, .ref yf, .ref yo, .ref yh, .ref yb, .int 0, .int 0, .int 0, .int 0, .int 0, .int 0, .int 0, .ref yx, .int 0, .int 0, .int 0])), (yr, .inl (cI, 4668, .inl (jn [0, 4, 0, 0, 0, 0, 0, 0, 0, 0, 0, 0, 0, 0, 0, 0, 0, (-1), 0, 0, 0, 0, 0, 0] R0)))] H := hP
        have hD : va_D A [(y, .inr (8, [.ref yt, .int 0, .int 0, .ref yr, .ref yk, .ref yz, .ref yp, .int 0, .int 0, .int 0, .int 0, .ref yl, .ref yw, .int 0, .int 0, .int 0, .int 0, .int 0, .int 0, .int 0, .int 0, .int (-1), .ref yd, .int 0, .ref ys, .ref yn, .ref ym, .int 0, .ref yf, .ref yo, .ref yh, .ref yb, .int 0, .int 0, .int 0, .int 0, .int 0, .int 0, .int 0, .ref yx, .int 0, .int 0, .int 0])), (yr, .inl (cI, 4668, .inl (jn [0, 4, 0, 0, 0, 0, 0, 0, 0, 0, 0, 0, 0, 0, 0, 0, 0, (-1), 0, 0, 0, 0, 0, 0] R0)))] := hD
        refine lv_if_ne (tgt := 43) hx hb dX8_spoil_38 (by decide) (fun c_4 => ?_) (fun c_4 => ?_)
        · refine lv_aload_n hx hb dX8_spoil_43 rfl (lv_at hl 0 rfl) ?_
          refine va_get (D := (dC, dI)) (ci := 8) (v := .ref yr) (C := RX8) (T := TX8) (N := 43) hx hb hts hinX8 hown hK hP 0 rfl rfl 3 (by decide) k_0 (fun _ h9 => h9) rfl dX8_spoil_44 ?_
          refine lv_iload_n hx hb dX8_spoil_47 rfl (lv_at hl 1 rfl) ?_
          refine lv_iload_n hx hb dX8_spoil_48 rfl (lv_at hl 2 rfl) ?_
          refine lv_iload_n hx hb dX8_spoil_49 rfl (lv_at hl 3 rfl) ?_
          refine zcSi (As := [.int p1, .int p2, .int p3]) (rest := [.ref yr]) (wr := [(y, .inr (8, [.ref yt, .int 0, .int 0, .ref yr, .ref yk, .ref yz, .ref yp, .int 0, .int 0, .int 0, .int 0, .ref yl, .ref yw, .int 0, .int 0, .int 0, .int 0, .int 0, .int 0, .int 0, .int 0, .int (-1), .ref yd, .int 0, .ref ys, .ref yn, .ref ym, .int 0, .ref yf, .ref yo, .ref yh, .ref yb, .int 0, .int 0, .int 0, .int 0, .int 0, .int 0, .int 0, .ref yx, .int 0, .int 0, .int 0])), (yr, .inl (cI, 4668, .inl (jn [0, 4, 0, 0, 0, 0, 0, 0, 0, 0, 0, 0, 0, 0, 0, 0, 0, (-1), 0, 0, 0, 0, 0, 0] R0)))]) ⟨hx, hb, hml, hown, hts⟩ (kkX8_at l dC dI cI cB cZ cR H.size p1 p2 p3 ) (va_cwS 3 hts (zgS wm_400 wm_401 wm_5 wm_402) rfl rfl rfl (by decide +kernel) ⟨Nat.le_of_ble_eq_true rfl, Nat.le_of_ble_eq_true rfl⟩) hN hK hP hD hS hA [] [0, 1] rfl rfl ⟨rfl, rfl⟩ (by decide) rfl hl.1 rfl (Nat.le_of_ble_eq_true rfl) dX8_spoil_50 ⟨Nat.le_of_ble_eq_true rfl, Nat.le_of_ble_eq_true rfl⟩ (fun r u hu H locs hP hD hS => ?_)
          have hu : r = (((24 + (24 * p1)) + (3 * p2)) + p3) := hu
          subst hu
          have hP : va_P (dC, dI) vwCl [(y, .inr (8, [.ref yt, .int 0, .int 0, .ref yr, .ref yk, .ref yz, .ref yp, .int 0, .int 0, .int 0, .int 0, .ref yl, .ref yw, .int 0, .int 0, .int 0, .int 0, .int 0, .int 0, .int 0, .int 0, .int (-1), .ref yd, .int 0, .ref ys, .ref yn, .ref ym, .int 0, .ref yf, .ref yo, .ref yh, .ref yb, .int 0, .int 0, .int 0, .int 0, .int 0, .int 0, .int 0, .ref yx, .int 0, .int 0, .int 0])), (yr, .inl (cI, 4668, .inl (jn [0, 4, 0, 0, 0, 0, 0, 0, 0, 0, 0, 0, 0, 0, 0, 0, 0, (-1), 0, 0, 0, 0, 0, 0] R0)))] H := hP
          have hD : va_D A [(y, .inr (8, [.ref yt, .int 0, .int 0, .ref yr, .ref yk, .ref yz, .ref yp, .int 0, .int 0, .int 0, .int 0, .ref yl, .ref yw, .int 0, .int 0, .int 0, .int 0, .int 0, .int 0, .int 0, .int 0, .int (-1), .ref yd, .int 0, .ref ys, .ref yn, .ref ym, .int 0, .ref yf, .ref yo, .ref yh, .ref yb, .int 0, .int 0, .int 0, .int 0, .int 0, .int 0, .int 0, .ref yx, .int 0, .int 0, .int 0])), (yr, .inl (cI, 4668, .inl (jn [0, 4, 0, 0, 0, 0, 0, 0, 0, 0, 0, 0, 0, 0, 0, 0, 0, (-1), 0, 0, 0, 0, 0, 0] R0)))] := hD
          refine za_iald (v := 0) hx hb hK hP 1 0 rfl rfl (desc_in c_1) (desc_rd c_1) dX8_spoil_53 ?_
          refine lv_istore (lv' := [(5, .int 0), (0, .ref y), (1, .int p1), (2, .int p2), (3, .int p3), (4, .int p4)]) hx hb dX8_spoil_54 hl (by decide) rfl (fun ls hl => ?_)
          refine lv_aload_n hx hb dX8_spoil_56 rfl (lv_at hl 1 rfl) ?_
          refine va_get (D := (dC, dI)) (ci := 8) (v := .ref yr) (C := RX8) (T := TX8) (N := 43) hx hb hts hinX8 hown hK hP 0 rfl rfl 3 (by decide) k_0 (fun _ h9 => h9) rfl dX8_spoil_57 ?_
          refine lv_iload_n hx hb dX8_spoil_60 rfl (lv_at hl 2 rfl) ?_
          refine lv_iload_n hx hb dX8_spoil_61 rfl (lv_at hl 3 rfl) ?_
          refine lv_iload_n hx hb dX8_spoil_62 rfl (lv_at hl 4 rfl) ?_
          refine zcSi (As := [.int p1, .int p2, .int p3]) (rest := [.ref yr]) (wr := [(y, .inr (8, [.ref yt, .int 0, .int 0, .ref yr, .ref yk, .ref yz, .ref yp, .int 0, .int 0, .int 0, .int 0, .ref yl, .ref yw, .int 0, .int 0, .int 0, .int 0, .int 0, .int 0, .int 0, .int 0, .int (-1), .ref yd, .int 0, .ref ys, .ref yn, .ref ym, .int 0, .ref yf, .ref yo, .ref yh, .ref yb, .int 0, .int 0, .int 0, .int 0, .int 0, .int 0, .int 0, .ref yx, .int 0, .int 0, .int 0])), (yr, .inl (cI, 4668, .inl (jn [0, 4, 0, 0, 0, 0, 0, 0, 0, 0, 0, 0, 0, 0, 0, 0, 0, (-1), 0, 0, 0, 0, 0, 0] R0)))]) ⟨hx, hb, hml, hown, hts⟩ (kkX8_at l dC dI cI cB cZ cR H.size p1 p2 p3 ) (va_cwS 3 hts (zgS wm_400 wm_401 wm_5 wm_402) rfl rfl rfl (by decide +kernel) ⟨Nat.le_of_ble_eq_true rfl, Nat.le_of_ble_eq_true rfl⟩) hN hK hP hD hS hA [] [0, 1] rfl rfl ⟨rfl, rfl⟩ (by decide) rfl hl.1 rfl (Nat.le_of_ble_eq_true rfl) dX8_spoil_63 ⟨Nat.le_of_ble_eq_true rfl, Nat.le_of_ble_eq_true rfl⟩ (fun r u hu H locs hP hD hS => ?_)
          have hu : r = (((24 + (24 * p1)) + (3 * p2)) + p3) := hu
          subst hu
          have hP : va_P (dC, dI) vwCl [(y, .inr (8, [.ref yt, .int 0, .int 0, .ref yr, .ref yk, .ref yz, .ref yp, .int 0, .int 0, .int 0, .int 0, .ref yl, .ref yw, .int 0, .int 0, .int 0, .int 0, .int 0, .int 0, .int 0, .int 0, .int (-1), .ref yd, .int 0, .ref ys, .ref yn, .ref ym, .int 0, .ref yf, .ref yo, .ref yh, .ref yb, .int 0, .int 0, .int 0, .int 0, .int 0, .int 0, .int 0, .ref yx, .int 0, .int 0, .int 0])), (yr, .inl (cI, 4668, .inl (jn [0, 4, 0, 0, 0, 0, 0, 0, 0, 0, 0, 0, 0, 0, 0, 0, 0, (-1), 0, 0, 0, 0, 0, 0] R0)))] H := hP
          have hD : va_D A [(y, .inr (8, [.ref yt, .int 0, .int 0, .ref yr, .ref yk, .ref yz, .ref yp, .int 0, .int 0, .int 0, .int 0, .ref yl, .ref yw, .int 0, .int 0, .int 0, .int 0, .int 0, .int 0, .int 0, .int 0, .int (-1), .ref yd, .int 0, .ref ys, .ref yn, .ref ym, .int 0, .ref yf, .ref yo, .ref yh, .ref yb, .int 0, .int 0, .int 0, .int 0, .int 0, .int 0, .int 0, .ref yx, .int 0, .int 0, .int 0])), (yr, .inl (cI, 4668, .inl (jn [0, 4, 0, 0, 0, 0, 0, 0, 0, 0, 0, 0, 0, 0, 0, 0, 0, (-1), 0, 0, 0, 0, 0, 0] R0)))] := hD
          refine lv_iload hx hb dX8_spoil_66 (lv_at hl 5 rfl) ?_
          refine za_iast (f' := (upd (jn [0, 4, 0, 0, 0, 0, 0, 0, 0, 0, 0, 0, 0, 0, 0, 0, 0, (-1), 0, 0, 0, 0, 0, 0] R0) (Int32.toNatClampNeg (((24 + (24 * p1)) + (3 * p2)) + p3)) p4)) hx hb hK hP hD hS 1 0 rfl rfl (desc_in c_1) rfl dX8_spoil_68 (fun H locs hP hD hS => ?_)
          have hP : va_P (dC, dI) vwCl [(y, .inr (8, [.ref yt, .int 0, .int 0, .ref yr, .ref yk, .ref yz, .ref yp, .int 0, .int 0, .int 0, .int 0, .ref yl, .ref yw, .int 0, .int 0, .int 0, .int 0, .int 0, .int 0, .int 0, .int 0, .int (-1), .ref yd, .int 0, .ref ys, .ref yn, .ref ym, .int 0, .ref yf, .ref yo, .ref yh, .ref yb, .int 0, .int 0, .int 0, .int 0, .int 0, .int 0, .int 0, .ref yx, .int 0, .int 0, .int 0])), (yr, .inl (cI, 4668, .inl (upd (jn [0, 4, 0, 0, 0, 0, 0, 0, 0, 0, 0, 0, 0, 0, 0, 0, 0, (-1), 0, 0, 0, 0, 0, 0] R0) (Int32.toNatClampNeg (((24 + (24 * p1)) + (3 * p2)) + p3)) p4)))] H := hP
          have hD : va_D A [(y, .inr (8, [.ref yt, .int 0, .int 0, .ref yr, .ref yk, .ref yz, .ref yp, .int 0, .int 0, .int 0, .int 0, .ref yl, .ref yw, .int 0, .int 0, .int 0, .int 0, .int 0, .int 0, .int 0, .int 0, .int (-1), .ref yd, .int 0, .ref ys, .ref yn, .ref ym, .int 0, .ref yf, .ref yo, .ref yh, .ref yb, .int 0, .int 0, .int 0, .int 0, .int 0, .int 0, .int 0, .ref yx, .int 0, .int 0, .int 0])), (yr, .inl (cI, 4668, .inl (upd (jn [0, 4, 0, 0, 0, 0, 0, 0, 0, 0, 0, 0, 0, 0, 0, 0, 0, (-1), 0, 0, 0, 0, 0, 0] R0) (Int32.toNatClampNeg (((24 + (24 * p1)) + (3 * p2)) + p3)) p4)))] := hD
          refine lv_iload hx hb dX8_spoil_69 (lv_at hl 0 rfl) ?_
          have e_0 : (pfX8_spoil_r p1 p2 p3 p4) = 0 := by rw [pfX8_spoil_r, if_neg c_1, if_neg c_2, if_neg c_3, if_neg c_4]
          have e_1 : (pfX8_spoil_yr_f p1 p2 p3 p4) = (upd (jn [0, 4, 0, 0, 0, 0, 0, 0, 0, 0, 0, 0, 0, 0, 0, 0, 0, (-1), 0, 0, 0, 0, 0, 0] R0) (Int32.toNatClampNeg (((24 + (24 * p1)) + (3 * p2)) + p3)) p4) := by rw [pfX8_spoil_yr_f, if_neg c_1, if_neg c_2, if_neg c_3, if_neg c_4]
          have hP9 := hP.sub (ws' := [(y, .inr (8, [.ref yt, .int 0, .int 0, .ref yr, .ref yk, .ref yz, .ref yp, .int 0, .int 0, .int 0, .int 0, .ref yl, .ref yw, .int 0, .int 0, .int 0, .int 0, .int 0, .int 0, .int 0, .int 0, .int (-1), .ref yd, .int 0, .ref ys, .ref yn, .ref ym, .int 0, .ref yf, .ref yo, .ref yh, .ref yb, .int 0, .int 0, .int 0, .int 0, .int 0, .int 0, .int 0, .ref yx, .int 0, .int 0, .int 0])), (yr, .inl (cI, 4668, .inl (upd (jn [0, 4, 0, 0, 0, 0, 0, 0, 0, 0, 0, 0, 0, 0, 0, 0, 0, (-1), 0, 0, 0, 0, 0, 0] R0) (Int32.toNatClampNeg (((24 + (24 * p1)) + (3 * p2)) + p3)) p4)))]) [0, 1] rfl
          have hD9 := hD.sub (ws' := [(y, .inr (8, [.ref yt, .int 0, .int 0, .ref yr, .ref yk, .ref yz, .ref yp, .int 0, .int 0, .int 0, .int 0, .ref yl, .ref yw, .int 0, .int 0, .int 0, .int 0, .int 0, .int 0, .int 0, .int 0, .int (-1), .ref yd, .int 0, .ref ys, .ref yn, .ref ym, .int 0, .ref yf, .ref yo, .ref yh, .ref yb, .int 0, .int 0, .int 0, .int 0, .int 0, .int 0, .int 0, .ref yx, .int 0, .int 0, .int 0])), (yr, .inl (cI, 4668, .inl (upd (jn [0, 4, 0, 0, 0, 0, 0, 0, 0, 0, 0, 0, 0, 0, 0, 0, 0, (-1), 0, 0, 0, 0, 0, 0] R0) (Int32.toNatClampNeg (((24 + (24 * p1)) + (3 * p2)) + p3)) p4)))]) [0, 1] (by decide) rfl
          exact W.iret (v := 0) hx hb hr (fun t ht hW => ⟨⟨0, (), rfl, e_0.symm, by rw [ht, e_1]; exact hP9, va_K.moved hW.alike hK, (by rw [e_1]; exact hD9)⟩, hS.F ht⟩) hS.2.2 dX8_spoil_71
        · refine lv_iconst (v := (-1)) hx hb dX8_spoil_41 (by decide) ?_
          have e_0 : (pfX8_spoil_r p1 p2 p3 p4) = (-1) := by rw [pfX8_spoil_r, if_neg c_1, if_neg c_2, if_neg c_3, if_pos c_4]
          have e_1 : (pfX8_spoil_yr_f p1 p2 p3 p4) = (jn [0, 4, 0, 0, 0, 0, 0, 0, 0, 0, 0, 0, 0, 0, 0, 0, 0, (-1), 0, 0, 0, 0, 0, 0] R0) := by rw [pfX8_spoil_yr_f, if_neg c_1, if_neg c_2, if_neg c_3, if_pos c_4]
          have hP9 := hP.sub (ws' := [(y, .inr (8, [.ref yt, .int 0, .int 0, .ref yr, .ref yk, .ref yz, .ref yp, .int 0, .int 0, .int 0, .int 0, .ref yl, .ref yw, .int 0, .int 0, .int 0, .int 0, .int 0, .int 0, .int 0, .int 0, .int (-1), .ref yd, .int 0, .ref ys, .ref yn, .ref ym, .int 0, .ref yf, .ref yo, .ref yh, .ref yb, .int 0, .int 0, .int 0, .int 0, .int 0, .int 0, .int 0, .ref yx, .int 0, .int 0, .int 0])), (yr, .inl (cI, 4668, .inl (jn [0, 4, 0, 0, 0, 0, 0, 0, 0, 0, 0, 0, 0, 0, 0, 0, 0, (-1), 0, 0, 0, 0, 0, 0] R0)))]) [0, 1] rfl
          have hD9 := hD.sub (ws' := [(y, .inr (8, [.ref yt, .int 0, .int 0, .ref yr, .ref yk, .ref yz, .ref yp, .int 0, .int 0, .int 0, .int 0, .ref yl, .ref yw, .int 0, .int 0, .int 0, .int 0, .int 0, .int 0, .int 0, .int 0, .int (-1), .ref yd, .int 0, .ref ys, .ref yn, .ref ym, .int 0, .ref yf, .ref yo, .ref yh, .ref yb, .int 0, .int 0, .int 0, .int 0, .int 0, .int 0, .int 0, .ref yx, .int 0, .int 0, .int 0])), (yr, .inl (cI, 4668, .inl (jn [0, 4, 0, 0, 0, 0, 0, 0, 0, 0, 0, 0, 0, 0, 0, 0, 0, (-1), 0, 0, 0, 0, 0, 0] R0)))]) [0, 1] (by decide) rfl
          exact W.iret (v := (-1)) hx hb hr (fun t ht hW => ⟨⟨(-1), (), rfl, e_0.symm, by rw [ht, e_1]; exact hP9, va_K.moved hW.alike hK, (by rw [e_1]; exact hD9)⟩, hS.F ht⟩) hS.2.2 dX8_spoil_42
      · refine lv_bipush (v := 31) hx hb dX8_spoil_28 (by decide) ?_
        refine lv_goto (tgt := 35) hx hb dX8_spoil_30 (by decide) ?_
        refine zcSi (As := [.int p4, .int 0, .int 31]) (rest := []) (wr := [(y, .inr (8, [.ref yt, .int 0, .int 0, .ref yr, .ref yk, .ref yz, .ref yp, .int 0, .int 0, .int 0, .int 0, .ref yl, .ref yw, .int 0, .int 0, .int 0, .int 0, .int 0, .int 0, .int 0, .int 0, .int (-1), .ref yd, .int 0, .ref ys, .ref yn, .ref ym, .int 0, .ref yf, .ref yo, .ref yh, .ref yb, .int 0, .int 0, .int 0, .int 0, .int 0, .int 0, .int 0, .ref yx, .int 0, .int 0, .int 0])), (yr, .inl (cI, 4668, .inl (jn [0, 4, 0, 0, 0, 0, 0, 0, 0, 0, 0, 0, 0, 0, 0, 0, 0, (-1), 0, 0, 0, 0, 0, 0] R0)))]) ⟨hx, hb, hml, hown, hts⟩ (kkX8_isIn l dC dI cI cB cZ cR H.size p4 0 31 ) (va_cwS 3 hts (zgS wm_191 wm_192 wm_5 wm_193) rfl rfl rfl (by decide +kernel) ⟨Nat.le_of_ble_eq_true rfl, Nat.le_of_ble_eq_true rfl⟩) hN hK hP hD hS hA [] [0, 1] rfl rfl ⟨rfl, rfl⟩ (by decide) rfl hl.1 rfl (Nat.le_of_ble_eq_true rfl) dX8_spoil_35 ⟨Nat.le_of_ble_eq_true rfl, Nat.le_of_ble_eq_true rfl⟩ (fun r u hu H locs hP hD hS => ?_)
        have hu : r = (pfX8_isIn_r p4 0 31) := hu
        subst hu
        have hP : va_P (dC, dI) vwCl [(y, .inr (8, [.ref yt, .int 0, .int 0, .ref yr, .ref yk, .ref yz, .ref yp, .int 0, .int 0, .int 0, .int 0, .ref yl, .ref yw, .int 0, .int 0, .int 0, .int 0, .int 0, .int 0, .int 0, .int 0, .int (-1), .ref yd, .int 0, .ref ys, .ref yn, .ref ym, .int 0, .ref yf, .ref yo, .ref yh, .ref yb, .int 0, .int 0, .int 0, .int 0, .int 0, .int 0, .int 0, .ref yx, .int 0, .int 0, .int 0])), (yr, .inl (cI, 4668, .inl (jn [0, 4, 0, 0, 0, 0, 0, 0, 0, 0, 0, 0, 0, 0, 0, 0, 0, (-1), 0, 0, 0, 0, 0, 0] R0)))] H := hP
        have hD : va_D A [(y, .inr (8, [.ref yt, .int 0, .int 0, .ref yr, .ref yk, .ref yz, .ref yp, .int 0, .int 0, .int 0, .int 0, .ref yl, .ref yw, .int 0, .int 0, .int 0, .int 0, .int 0, .int 0, .int 0, .int 0, .int (-1), .ref yd, .int 0, .ref ys, .ref yn, .ref ym, .int 0, .ref yf, .ref yo, .ref yh, .ref yb, .int 0, .int 0, .int 0, .int 0, .int 0, .int 0, .int 0, .ref yx, .int 0, .int 0, .int 0])), (yr, .inl (cI, 4668, .inl (jn [0, 4, 0, 0, 0, 0, 0, 0, 0, 0, 0, 0, 0, 0, 0, 0, 0, (-1), 0, 0, 0, 0, 0, 0] R0)))] := hD
        refine lv_if_ne (tgt := 43) hx hb dX8_spoil_38 (by decide) (fun c_5 => ?_) (fun c_5 => ?_)
        · refine lv_aload_n hx hb dX8_spoil_43 rfl (lv_at hl 0 rfl) ?_
          refine va_get (D := (dC, dI)) (ci := 8) (v := .ref yr) (C := RX8) (T := TX8) (N := 43) hx hb hts hinX8 hown hK hP 0 rfl rfl 3 (by decide) k_0 (fun _ h9 => h9) rfl dX8_spoil_44 ?_
          refine lv_iload_n hx hb dX8_spoil_47 rfl (lv_at hl 1 rfl) ?_
          refine lv_iload_n hx hb dX8_spoil_48 rfl (lv_at hl 2 rfl) ?_
          refine lv_iload_n hx hb dX8_spoil_49 rfl (lv_at hl 3 rfl) ?_
          refine zcSi (As := [.int p1, .int p2, .int p3]) (rest := [.ref yr]) (wr := [(y, .inr (8, [.ref yt, .int 0, .int 0, .ref yr, .ref yk, .ref yz, .ref yp, .int 0, .int 0, .int 0, .int 0, .ref yl, .ref yw, .int 0, .int 0, .int 0, .int 0, .int 0, .int 0, .int 0, .int 0, .int (-1), .ref yd, .int 0, .ref ys, .ref yn, .ref ym, .int 0, .ref yf, .ref yo, .ref yh, .ref yb, .int 0, .int 0, .int 0, .int 0, .int 0, .int 0, .int 0, .ref yx, .int 0, .int 0, .int 0])), (yr, .inl (cI, 4668, .inl (jn [0, 4, 0, 0, 0, 0, 0, 0, 0, 0, 0, 0, 0, 0, 0, 0, 0, (-1), 0, 0, 0, 0, 0, 0] R0)))]) ⟨hx, hb, hml, hown, hts⟩ (kkX8_at l dC dI cI cB cZ cR H.size p1 p2 p3 ) (va_cwS 3 hts (zgS wm_400 wm_401 wm_5 wm_402) rfl rfl rfl (by decide +kernel) ⟨Nat.le_of_ble_eq_true rfl, Nat.le_of_ble_eq_true rfl⟩) hN hK hP hD hS hA [] [0, 1] rfl rfl ⟨rfl, rfl⟩ (by decide) rfl hl.1 rfl (Nat.le_of_ble_eq_true rfl) dX8_spoil_50 ⟨Nat.le_of_ble_eq_true rfl, Nat.le_of_ble_eq_true rfl⟩ (fun r u hu H locs hP hD hS => ?_)
          have hu : r = (((24 + (24 * p1)) + (3 * p2)) + p3) := hu
          subst hu
          have hP : va_P (dC, dI) vwCl [(y, .inr (8, [.ref yt, .int 0, .int 0, .ref yr, .ref yk, .ref yz, .ref yp, .int 0, .int 0, .int 0, .int 0, .ref yl, .ref yw, .int 0, .int 0, .int 0, .int 0, .int 0, .int 0, .int 0, .int 0, .int (-1), .ref yd, .int 0, .ref ys, .ref yn, .ref ym, .int 0, .ref yf, .ref yo, .ref yh, .ref yb, .int 0, .int 0, .int 0, .int 0, .int 0, .int 0, .int 0, .ref yx, .int 0, .int 0, .int 0])), (yr, .inl (cI, 4668, .inl (jn [0, 4, 0, 0, 0, 0, 0, 0, 0, 0, 0, 0, 0, 0, 0, 0, 0, (-1), 0, 0, 0, 0, 0, 0] R0)))] H := hP
          have hD : va_D A [(y, .inr (8, [.ref yt, .int 0, .int 0, .ref yr, .ref yk, .ref yz, .ref yp, .int 0, .int 0, .int 0, .int 0, .ref yl, .ref yw, .int 0, .int 0, .int 0, .int 0, .int 0, .int 0, .int 0, .int 0, .int (-1), .ref yd, .int 0, .ref ys, .ref yn, .ref ym, .int 0, .ref yf, .ref yo, .ref yh, .ref yb, .int 0, .int 0, .int 0, .int 0, .int 0, .int 0, .int 0, .ref yx, .int 0, .int 0, .int 0])), (yr, .inl (cI, 4668, .inl (jn [0, 4, 0, 0, 0, 0, 0, 0, 0, 0, 0, 0, 0, 0, 0, 0, 0, (-1), 0, 0, 0, 0, 0, 0] R0)))] := hD
          refine za_iald (v := 0) hx hb hK hP 1 0 rfl rfl (desc_in c_1) (desc_rd c_1) dX8_spoil_53 ?_
          refine lv_istore (lv' := [(5, .int 0), (0, .ref y), (1, .int p1), (2, .int p2), (3, .int p3), (4, .int p4)]) hx hb dX8_spoil_54 hl (by decide) rfl (fun ls hl => ?_)
          refine lv_aload_n hx hb dX8_spoil_56 rfl (lv_at hl 1 rfl) ?_
          refine va_get (D := (dC, dI)) (ci := 8) (v := .ref yr) (C := RX8) (T := TX8) (N := 43) hx hb hts hinX8 hown hK hP 0 rfl rfl 3 (by decide) k_0 (fun _ h9 => h9) rfl dX8_spoil_57 ?_
          refine lv_iload_n hx hb dX8_spoil_60 rfl (lv_at hl 2 rfl) ?_
          refine lv_iload_n hx hb dX8_spoil_61 rfl (lv_at hl 3 rfl) ?_
          refine lv_iload_n hx hb dX8_spoil_62 rfl (lv_at hl 4 rfl) ?_
          refine zcSi (As := [.int p1, .int p2, .int p3]) (rest := [.ref yr]) (wr := [(y, .inr (8, [.ref yt, .int 0, .int 0, .ref yr, .ref yk, .ref yz, .ref yp, .int 0, .int 0, .int 0, .int 0, .ref yl, .ref yw, .int 0, .int 0, .int 0, .int 0, .int 0, .int 0, .int 0, .int 0, .int (-1), .ref yd, .int 0, .ref ys, .ref yn, .ref ym, .int 0, .ref yf, .ref yo, .ref yh, .ref yb, .int 0, .int 0, .int 0, .int 0, .int 0, .int 0, .int 0, .ref yx, .int 0, .int 0, .int 0])), (yr, .inl (cI, 4668, .inl (jn [0, 4, 0, 0, 0, 0, 0, 0, 0, 0, 0, 0, 0, 0, 0, 0, 0, (-1), 0, 0, 0, 0, 0, 0] R0)))]) ⟨hx, hb, hml, hown, hts⟩ (kkX8_at l dC dI cI cB cZ cR H.size p1 p2 p3 ) (va_cwS 3 hts (zgS wm_400 wm_401 wm_5 wm_402) rfl rfl rfl (by decide +kernel) ⟨Nat.le_of_ble_eq_true rfl, Nat.le_of_ble_eq_true rfl⟩) hN hK hP hD hS hA [] [0, 1] rfl rfl ⟨rfl, rfl⟩ (by decide) rfl hl.1 rfl (Nat.le_of_ble_eq_true rfl) dX8_spoil_63 ⟨Nat.le_of_ble_eq_true rfl, Nat.le_of_ble_eq_true rfl⟩ (fun r u hu H locs hP hD hS => ?_)
          have hu : r = (((24 + (24 * p1)) + (3 * p2)) + p3) := hu
          subst hu
          have hP : va_P (dC, dI) vwCl [(y, .inr (8, [.ref yt, .int 0, .int 0, .ref yr, .ref yk, .ref yz, .ref yp, .int 0, .int 0, .int 0, .int 0, .ref yl, .ref yw, .int 0, .int 0, .int 0, .int 0, .int 0, .int 0, .int 0, .int 0, .int (-1), .ref yd, .int 0, .ref ys, .ref yn, .ref ym, .int 0, .ref yf, .ref yo, .ref yh, .ref yb, .int 0, .int 0, .int 0, .int 0, .int 0, .int 0, .int 0, .ref yx, .int 0, .int 0, .int 0])), (yr, .inl (cI, 4668, .inl (jn [0, 4, 0, 0, 0, 0, 0, 0, 0, 0, 0, 0, 0, 0, 0, 0, 0, (-1), 0, 0, 0, 0, 0, 0] R0)))] H := hP
          have hD : va_D A [(y, .inr (8, [.ref yt, .int 0, .int 0, .ref yr, .ref yk, .ref yz, .ref yp, .int 0, .int 0, .int 0, .int 0, .ref yl, .ref yw, .int 0, .int 0, .int 0, .int 0, .int 0, .int 0, .int 0, .int 0, .int (-1), .ref yd, .int 0, .ref ys, .ref yn, .ref ym, .int 0, .ref yf, .ref yo, .ref yh, .ref yb, .int 0, .int 0, .int 0, .int 0, .int 0, .int 0, .int 0, .ref yx, .int 0, .int 0, .int 0])), (yr, .inl (cI, 4668, .inl (jn [0, 4, 0, 0, 0, 0, 0, 0, 0, 0, 0, 0, 0, 0, 0, 0, 0, (-1), 0, 0, 0, 0, 0, 0] R0)))] := hD
          refine lv_iload hx hb dX8_spoil_66 (lv_at hl 5 rfl) ?_
          refine za_iast (f' := (upd (jn [0, 4, 0, 0, 0, 0, 0, 0, 0, 0, 0, 0, 0, 0, 0, 0, 0, (-1), 0, 0, 0, 0, 0, 0] R0) (Int32.toNatClampNeg (((24 + (24 * p1)) + (3 * p2)) + p3)) p4)) hx hb hK hP hD hS 1 0 rfl rfl (desc_in c_1) rfl dX8_spoil_68 (fun H locs hP hD hS => ?_)
          have hP : va_P (dC, dI) vwCl [(y, .inr (8, [.ref yt, .int 0, .int 0, .ref yr, .ref yk, .ref yz, .ref yp, .int 0, .int 0, .int 0, .int 0, .ref yl, .ref yw, .int 0, .int 0, .int 0, .int 0, .int 0, .int 0, .int 0, .int 0, .int (-1), .ref yd, .int 0, .ref ys, .ref yn, .ref ym, .int 0, .ref yf, .ref yo, .ref yh, .ref yb, .int 0, .int 0, .int 0, .int 0, .int 0, .int 0, .int 0, .ref yx, .int 0, .int 0, .int 0])), (yr, .inl (cI, 4668, .inl (upd (jn [0, 4, 0, 0, 0, 0, 0, 0, 0, 0, 0, 0, 0, 0, 0, 0, 0, (-1), 0, 0, 0, 0, 0, 0] R0) (Int32.toNatClampNeg (((24 + (24 * p1)) + (3 * p2)) + p3)) p4)))] H := hP
          have hD : va_D A [(y, .inr (8, [.ref yt, .int 0, .int 0, .ref yr, .ref yk, .ref yz, .ref yp, .int 0, .int 0, .int 0, .int 0, .ref yl, .ref yw, .int 0, .int 0, .int 0, .int 0, .int 0, .int 0, .int 0, .int 0, .int (-1), .ref yd, .int 0, .ref ys, .ref yn, .ref ym, .int 0, .ref yf, .ref yo, .ref yh, .ref yb, .int 0, .int 0, .int 0, .int 0, .int 0, .int 0, .int 0, .ref yx, .int 0, .int 0, .int 0])), (yr, .inl (cI, 4668, .inl (upd (jn [0, 4, 0, 0, 0, 0, 0, 0, 0, 0, 0, 0, 0, 0, 0, 0, 0, (-1), 0, 0, 0, 0, 0, 0] R0) (Int32.toNatClampNeg (((24 + (24 * p1)) + (3 * p2)) + p3)) p4)))] := hD
          refine lv_iload hx hb dX8_spoil_69 (lv_at hl 0 rfl) ?_
          have e_0 : (pfX8_spoil_r p1 p2 p3 p4) = 0 := by rw [pfX8_spoil_r, if_neg c_1, if_neg c_2, if_pos c_3, if_neg c_5]
          have e_1 : (pfX8_spoil_yr_f p1 p2 p3 p4) = (upd (jn [0, 4, 0, 0, 0, 0, 0, 0, 0, 0, 0, 0, 0, 0, 0, 0, 0, (-1), 0, 0, 0, 0, 0, 0] R0) (Int32.toNatClampNeg (((24 + (24 * p1)) + (3 * p2)) + p3)) p4) := by rw [pfX8_spoil_yr_f, if_neg c_1, if_neg c_2, if_pos c_3, if_neg c_5]
          have hP9 := hP.sub (ws' := [(y, .inr (8, [.ref yt, .int 0, .int 0, .ref yr, .ref yk, .ref yz, .ref yp, .int 0, .int 0, .int 0, .int 0, .ref yl, .ref yw, .int 0, .int 0, .int 0, .int 0, .int 0, .int 0, .int 0, .int 0, .int (-1), .ref yd, .int 0, .ref ys, .ref yn, .ref ym, .int 0, .ref yf, .ref yo, .ref yh, .ref yb, .int 0, .int 0, .int 0, .int 0, .int 0, .int 0, .int 0, .ref yx, .int 0, .int 0, .int 0])), (yr, .inl (cI, 4668, .inl (upd (jn [0, 4, 0, 0, 0, 0, 0, 0, 0, 0, 0, 0, 0, 0, 0, 0, 0, (-1), 0, 0, 0, 0, 0, 0] R0) (Int32.toNatClampNeg (((24 + (24 * p1)) + (3 * p2)) + p3)) p4)))]) [0, 1] rfl
          have hD9 := hD.sub (ws' := [(y, .inr (8, [.ref yt, .int 0, .int 0, .ref yr, .ref yk, .ref yz, .ref yp, .int 0, .int 0, .int 0, .int 0, .ref yl, .ref yw, .int 0, .int 0, .int 0, .int 0, .int 0, .int 0, .int 0, .int 0, .int (-1), .ref yd, .int 0, .ref ys, .ref yn, .ref ym, .int 0, .ref yf, .ref yo, .ref yh, .ref yb, .int 0, .int 0, .int 0, .int 0, .int 0, .int 0, .int 0, .ref yx, .int 0, .int 0, .int 0])), (yr, .inl (cI, 4668, .inl (upd (jn [0, 4, 0, 0, 0, 0, 0, 0, 0, 0, 0, 0, 0, 0, 0, 0, 0, (-1), 0, 0, 0, 0, 0, 0] R0) (Int32.toNatClampNeg (((24 + (24 * p1)) + (3 * p2)) + p3)) p4)))]) [0, 1] (by decide) rfl
          exact W.iret (v := 0) hx hb hr (fun t ht hW => ⟨⟨0, (), rfl, e_0.symm, by rw [ht, e_1]; exact hP9, va_K.moved hW.alike hK, (by rw [e_1]; exact hD9)⟩, hS.F ht⟩) hS.2.2 dX8_spoil_71
        · refine lv_iconst (v := (-1)) hx hb dX8_spoil_41 (by decide) ?_
          have e_0 : (pfX8_spoil_r p1 p2 p3 p4) = (-1) := by rw [pfX8_spoil_r, if_neg c_1, if_neg c_2, if_pos c_3, if_pos c_5]
          have e_1 : (pfX8_spoil_yr_f p1 p2 p3 p4) = (jn [0, 4, 0, 0, 0, 0, 0, 0, 0, 0, 0, 0, 0, 0, 0, 0, 0, (-1), 0, 0, 0, 0, 0, 0] R0) := by rw [pfX8_spoil_yr_f, if_neg c_1, if_neg c_2, if_pos c_3, if_pos c_5]
          have hP9 := hP.sub (ws' := [(y, .inr (8, [.ref yt, .int 0, .int 0, .ref yr, .ref yk, .ref yz, .ref yp, .int 0, .int 0, .int 0, .int 0, .ref yl, .ref yw, .int 0, .int 0, .int 0, .int 0, .int 0, .int 0, .int 0, .int 0, .int (-1), .ref yd, .int 0, .ref ys, .ref yn, .ref ym, .int 0, .ref yf, .ref yo, .ref yh, .ref yb, .int 0, .int 0, .int 0, .int 0, .int 0, .int 0, .int 0, .ref yx, .int 0, .int 0, .int 0])), (yr, .inl (cI, 4668, .inl (jn [0, 4, 0, 0, 0, 0, 0, 0, 0, 0, 0, 0, 0, 0, 0, 0, 0, (-1), 0, 0, 0, 0, 0, 0] R0)))]) [0, 1] rfl
          have hD9 := hD.sub (ws' := [(y, .inr (8, [.ref yt, .int 0, .int 0, .ref yr, .ref yk, .ref yz, .ref yp, .int 0, .int 0, .int 0, .int 0, .ref yl, .ref yw, .int 0, .int 0, .int 0, .int 0, .int 0, .int 0, .int 0, .int 0, .int (-1), .ref yd, .int 0, .ref ys, .ref yn, .ref ym, .int 0, .ref yf, .ref yo, .ref yh, .ref yb, .int 0, .int 0, .int 0, .int 0, .int 0, .int 0, .int 0, .ref yx, .int 0, .int 0, .int 0])), (yr, .inl (cI, 4668, .inl (jn [0, 4, 0, 0, 0, 0, 0, 0, 0, 0, 0, 0, 0, 0, 0, 0, 0, (-1), 0, 0, 0, 0, 0, 0] R0)))]) [0, 1] (by decide) rfl
          exact W.iret (v := (-1)) hx hb hr (fun t ht hW => ⟨⟨(-1), (), rfl, e_0.symm, by rw [ht, e_1]; exact hP9, va_K.moved hW.alike hK, (by rw [e_1]; exact hD9)⟩, hS.F ht⟩) hS.2.2 dX8_spoil_42
    · refine lv_sipush (v := 999) hx hb dX8_spoil_17 (by decide) ?_
      refine lv_goto (tgt := 35) hx hb dX8_spoil_20 (by decide) ?_
      refine zcSi (As := [.int p4, .int 0, .int 999]) (rest := []) (wr := [(y, .inr (8, [.ref yt, .int 0, .int 0, .ref yr, .ref yk, .ref yz, .ref yp, .int 0, .int 0, .int 0, .int 0, .ref yl, .ref yw, .int 0, .int 0, .int 0, .int 0, .int 0, .int 0, .int 0, .int 0, .int (-1), .ref yd, .int 0, .ref ys, .ref yn, .ref ym, .int 0, .ref yf, .ref yo, .ref yh, .ref yb, .int 0, .int 0, .int 0, .int 0, .int 0, .int 0, .int 0, .ref yx, .int 0, .int 0, .int 0])), (yr, .inl (cI, 4668, .inl (jn [0, 4, 0, 0, 0, 0, 0, 0, 0, 0, 0, 0, 0, 0, 0, 0, 0, (-1), 0, 0, 0, 0, 0, 0] R0)))]) ⟨hx, hb, hml, hown, hts⟩ (kkX8_isIn l dC dI cI cB cZ cR H.size p4 0 999 ) (va_cwS 3 hts (zgS wm_191 wm_192 wm_5 wm_193) rfl rfl rfl (by decide +kernel) ⟨Nat.le_of_ble_eq_true rfl, Nat.le_of_ble_eq_true rfl⟩) hN hK hP hD hS hA [] [0, 1] rfl rfl ⟨rfl, rfl⟩ (by decide) rfl hl.1 rfl (Nat.le_of_ble_eq_true rfl) dX8_spoil_35 ⟨Nat.le_of_ble_eq_true rfl, Nat.le_of_ble_eq_true rfl⟩ (fun r u hu H locs hP hD hS => ?_)
      have hu : r = (pfX8_isIn_r p4 0 999) := hu
      subst hu
      have hP : va_P (dC, dI) vwCl [(y, .inr (8, [.ref yt, .int 0, .int 0, .ref yr, .ref yk, .ref yz, .ref yp, .int 0, .int 0, .int 0, .int 0, .ref yl, .ref yw, .int 0, .int 0, .int 0, .int 0, .int 0, .int 0, .int 0, .int 0, .int (-1), .ref yd, .int 0, .ref ys, .ref yn, .ref ym, .int 0, .ref yf, .ref yo, .ref yh, .ref yb, .int 0, .int 0, .int 0, .int 0, .int 0, .int 0, .int 0, .ref yx, .int 0, .int 0, .int 0])), (yr, .inl (cI, 4668, .inl (jn [0, 4, 0, 0, 0, 0, 0, 0, 0, 0, 0, 0, 0, 0, 0, 0, 0, (-1), 0, 0, 0, 0, 0, 0] R0)))] H := hP
      have hD : va_D A [(y, .inr (8, [.ref yt, .int 0, .int 0, .ref yr, .ref yk, .ref yz, .ref yp, .int 0, .int 0, .int 0, .int 0, .ref yl, .ref yw, .int 0, .int 0, .int 0, .int 0, .int 0, .int 0, .int 0, .int 0, .int (-1), .ref yd, .int 0, .ref ys, .ref yn, .ref ym, .int 0, .ref yf, .ref yo, .ref yh, .ref yb, .int 0, .int 0, .int 0, .int 0, .int 0, .int 0, .int 0, .ref yx, .int 0, .int 0, .int 0])), (yr, .inl (cI, 4668, .inl (jn [0, 4, 0, 0, 0, 0, 0, 0, 0, 0, 0, 0, 0, 0, 0, 0, 0, (-1), 0, 0, 0, 0, 0, 0] R0)))] := hD
      refine lv_if_ne (tgt := 43) hx hb dX8_spoil_38 (by decide) (fun c_6 => ?_) (fun c_6 => ?_)
      · refine lv_aload_n hx hb dX8_spoil_43 rfl (lv_at hl 0 rfl) ?_
        refine va_get (D := (dC, dI)) (ci := 8) (v := .ref yr) (C := RX8) (T := TX8) (N := 43) hx hb hts hinX8 hown hK hP 0 rfl rfl 3 (by decide) k_0 (fun _ h9 => h9) rfl dX8_spoil_44 ?_
        refine lv_iload_n hx hb dX8_spoil_47 rfl (lv_at hl 1 rfl) ?_
        refine lv_iload_n hx hb dX8_spoil_48 rfl (lv_at hl 2 rfl) ?_
        refine lv_iload_n hx hb dX8_spoil_49 rfl (lv_at hl 3 rfl) ?_
        refine zcSi (As := [.int p1, .int p2, .int p3]) (rest := [.ref yr]) (wr := [(y, .inr (8, [.ref yt, .int 0, .int 0, .ref yr, .ref yk, .ref yz, .ref yp, .int 0, .int 0, .int 0, .int 0, .ref yl, .ref yw, .int 0, .int 0, .int 0, .int 0, .int 0, .int 0, .int 0, .int 0, .int (-1), .ref yd, .int 0, .ref ys, .ref yn, .ref ym, .int 0, .ref yf, .ref yo, .ref yh, .ref yb, .int 0, .int 0, .int 0, .int 0, .int 0, .int 0, .int 0, .ref yx, .int 0, .int 0, .int 0])), (yr, .inl (cI, 4668, .inl (jn [0, 4, 0, 0, 0, 0, 0, 0, 0, 0, 0, 0, 0, 0, 0, 0, 0, (-1), 0, 0, 0, 0, 0, 0] R0)))]) ⟨hx, hb, hml, hown, hts⟩ (kkX8_at l dC dI cI cB cZ cR H.size p1 p2 p3 ) (va_cwS 3 hts (zgS wm_400 wm_401 wm_5 wm_402) rfl rfl rfl (by decide +kernel) ⟨Nat.le_of_ble_eq_true rfl, Nat.le_of_ble_eq_true rfl⟩) hN hK hP hD hS hA [] [0, 1] rfl rfl ⟨rfl, rfl⟩ (by decide) rfl hl.1 rfl (Nat.le_of_ble_eq_true rfl) dX8_spoil_50 ⟨Nat.le_of_ble_eq_true rfl, Nat.le_of_ble_eq_true rfl⟩ (fun r u hu H locs hP hD hS => ?_)
        have hu : r = (((24 + (24 * p1)) + (3 * p2)) + p3) := hu
        subst hu
        have hP : va_P (dC, dI) vwCl [(y, .inr (8, [.ref yt, .int 0, .int 0, .ref yr, .ref yk, .ref yz, .ref yp, .int 0, .int 0, .int 0, .int 0, .ref yl, .ref yw, .int 0, .int 0, .int 0, .int 0, .int 0, .int 0, .int 0, .int 0, .int (-1), .ref yd, .int 0, .ref ys, .ref yn, .ref ym, .int 0, .ref yf, .ref yo, .ref yh, .ref yb, .int 0, .int 0, .int 0, .int 0, .int 0, .int 0, .int 0, .ref yx, .int 0, .int 0, .int 0])), (yr, .inl (cI, 4668, .inl (jn [0, 4, 0, 0, 0, 0, 0, 0, 0, 0, 0, 0, 0, 0, 0, 0, 0, (-1), 0, 0, 0, 0, 0, 0] R0)))] H := hP
        have hD : va_D A [(y, .inr (8, [.ref yt, .int 0, .int 0, .ref yr, .ref yk, .ref yz, .ref yp, .int 0, .int 0, .int 0, .int 0, .ref yl, .ref yw, .int 0, .int 0, .int 0, .int 0, .int 0, .int 0, .int 0, .int 0, .int (-1), .ref yd, .int 0, .ref ys, .ref yn, .ref ym, .int 0, .ref yf, .ref yo, .ref yh, .ref yb, .int 0, .int 0, .int 0, .int 0, .int 0, .int 0, .int 0, .ref yx, .int 0, .int 0, .int 0])), (yr, .inl (cI, 4668, .inl (jn [0, 4, 0, 0, 0, 0, 0, 0, 0, 0, 0, 0, 0, 0, 0, 0, 0, (-1), 0, 0, 0, 0, 0, 0] R0)))] := hD
        refine za_iald (v := 0) hx hb hK hP 1 0 rfl rfl (desc_in c_1) (desc_rd c_1) dX8_spoil_53 ?_
        refine lv_istore (lv' := [(5, .int 0), (0, .ref y), (1, .int p1), (2, .int p2), (3, .int p3), (4, .int p4)]) hx hb dX8_spoil_54 hl (by decide) rfl (fun ls hl => ?_)
        refine lv_aload_n hx hb dX8_spoil_56 rfl (lv_at hl 1 rfl) ?_
        refine va_get (D := (dC, dI)) (ci := 8) (v := .ref yr) (C := RX8) (T := TX8) (N := 43) hx hb hts hinX8 hown hK hP 0 rfl rfl 3 (by decide) k_0 (fun _ h9 => h9) rfl dX8_spoil_57 ?_
        refine lv_iload_n hx hb dX8_spoil_60 rfl (lv_at hl 2 rfl) ?_
        refine lv_iload_n hx hb dX8_spoil_61 rfl (lv_at hl 3 rfl) ?_
        refine lv_iload_n hx hb dX8_spoil_62 rfl (lv_at hl 4 rfl) ?_
        refine zcSi (As := [.int p1, .int p2, .int p3]) (rest := [.ref yr]) (wr := [(y, .inr (8, [.ref yt, .int 0, .int 0, .ref yr, .ref yk, .ref yz, .ref yp, .int 0, .int 0, .int 0, .int 0, .ref yl, .ref yw, .int 0, .int 0, .int 0, .int 0, .int 0, .int 0, .int 0, .int 0, .int (-1), .ref yd, .int 0, .ref ys, .ref yn, .ref ym, .int 0, .ref yf, .ref yo, .ref yh, .ref yb, .int 0, .int 0, .int 0, .int 0, .int 0, .int 0, .int 0, .ref yx, .int 0, .int 0, .int 0])), (yr, .inl (cI, 4668, .inl (jn [0, 4, 0, 0, 0, 0, 0, 0, 0, 0, 0, 0, 0, 0, 0, 0, 0, (-1), 0, 0, 0, 0, 0, 0] R0)))]) ⟨hx, hb, hml, hown, hts⟩ (kkX8_at l dC dI cI cB cZ cR H.size p1 p2 p3 ) (va_cwS 3 hts (zgS wm_400 wm_401 wm_5 wm_402) rfl rfl rfl (by decide +kernel) ⟨Nat.le_of_ble_eq_true rfl, Nat.le_of_ble_eq_true rfl⟩) hN hK hP hD hS hA [] [0, 1] rfl rfl ⟨rfl, rfl⟩ (by decide) rfl hl.1 rfl (Nat.le_of_ble_eq_true rfl) dX8_spoil_63 ⟨Nat.le_of_ble_eq_true rfl, Nat.le_of_ble_eq_true rfl⟩ (fun r u hu H locs hP hD hS => ?_)
        have hu : r = (((24 + (24 * p1)) + (3 * p2)) + p3) := hu
        subst hu
        have hP : va_P (dC, dI) vwCl [(y, .inr (8, [.ref yt, .int 0, .int 0, .ref yr, .ref yk, .ref yz, .ref yp, .int 0, .int 0, .int 0, .int 0, .ref yl, .ref yw, .int 0, .int 0, .int 0, .int 0, .int 0, .int 0, .int 0, .int 0, .int (-1), .ref yd, .int 0, .ref ys, .ref yn, .ref ym, .int 0, .ref yf, .ref yo, .ref yh, .ref yb, .int 0, .int 0, .int 0, .int 0, .int 0, .int 0, .int 0, .ref yx, .int 0, .int 0, .int 0])), (yr, .inl (cI, 4668, .inl (jn [0, 4, 0, 0, 0, 0, 0, 0, 0, 0, 0, 0, 0, 0, 0, 0, 0, (-1), 0, 0, 0, 0, 0, 0] R0)))] H := hP
        have hD : va_D A [(y, .inr (8, [.ref yt, .int 0, .int 0, .ref yr, .ref yk, .ref yz, .ref yp, .int 0, .int 0, .int 0, .int 0, .ref yl, .ref yw, .int 0, .int 0, .int 0, .int 0, .int 0, .int 0, .int 0, .int 0, .int (-1), .ref yd, .int 0, .ref ys, .ref yn, .ref ym, .int 0, .ref yf, .ref yo, .ref yh, .ref yb, .int 0, .int 0, .int 0, .int 0, .int 0, .int 0, .int 0, .ref yx, .int 0, .int 0, .int 0])), (yr, .inl (cI, 4668, .inl (jn [0, 4, 0, 0, 0, 0, 0, 0, 0, 0, 0, 0, 0, 0, 0, 0, 0, (-1), 0, 0, 0, 0, 0, 0] R0)))] := hD
        refine lv_iload hx hb dX8_spoil_66 (lv_at hl 5 rfl) ?_
        refine za_iast (f' := (upd (jn [0, 4, 0, 0, 0, 0, 0, 0, 0, 0, 0, 0, 0, 0, 0, 0, 0, (-1), 0, 0, 0, 0, 0, 0] R0) (Int32.toNatClampNeg (((24 + (24 * p1)) + (3 * p2)) + p3)) p4)) hx hb hK hP hD hS 1 0 rfl rfl (desc_in c_1) rfl dX8_spoil_68 (fun H locs hP hD hS => ?_)
        have hP : va_P (dC, dI) vwCl [(y, .inr (8, [.ref yt, .int 0, .int 0, .ref yr, .ref yk, .ref yz, .ref yp, .int 0, .int 0, .int 0, .int 0, .ref yl, .ref yw, .int 0, .int 0, .int 0, .int 0, .int 0, .int 0, .int 0, .int 0, .int (-1), .ref yd, .int 0, .ref ys, .ref yn, .ref ym, .int 0, .ref yf, .ref yo, .ref yh, .ref yb, .int 0, .int 0, .int 0, .int 0, .int 0, .int 0, .int 0, .ref yx, .int 0, .int 0, .int 0])), (yr, .inl (cI, 4668, .inl (upd (jn [0, 4, 0, 0, 0, 0, 0, 0, 0, 0, 0, 0, 0, 0, 0, 0, 0, (-1), 0, 0, 0, 0, 0, 0] R0) (Int32.toNatClampNeg (((24 + (24 * p1)) + (3 * p2)) + p3)) p4)))] H := hP
        have hD : va_D A [(y, .inr (8, [.ref yt, .int 0, .int 0, .ref yr, .ref yk, .ref yz, .ref yp, .int 0, .int 0, .int 0, .int 0, .ref yl, .ref yw, .int 0, .int 0, .int 0, .int 0, .int 0, .int 0, .int 0, .int 0, .int (-1), .ref yd, .int 0, .ref ys, .ref yn, .ref ym, .int 0, .ref yf, .ref yo, .ref yh, .ref yb, .int 0, .int 0, .int 0, .int 0, .int 0, .int 0, .int 0, .ref yx, .int 0, .int 0, .int 0])), (yr, .inl (cI, 4668, .inl (upd (jn [0, 4, 0, 0, 0, 0, 0, 0, 0, 0, 0, 0, 0, 0, 0, 0, 0, (-1), 0, 0, 0, 0, 0, 0] R0) (Int32.toNatClampNeg (((24 + (24 * p1)) + (3 * p2)) + p3)) p4)))] := hD
        refine lv_iload hx hb dX8_spoil_69 (lv_at hl 0 rfl) ?_
        have e_0 : (pfX8_spoil_r p1 p2 p3 p4) = 0 := by rw [pfX8_spoil_r, if_neg c_1, if_pos c_2, if_neg c_6]
        have e_1 : (pfX8_spoil_yr_f p1 p2 p3 p4) = (upd (jn [0, 4, 0, 0, 0, 0, 0, 0, 0, 0, 0, 0, 0, 0, 0, 0, 0, (-1), 0, 0, 0, 0, 0, 0] R0) (Int32.toNatClampNeg (((24 + (24 * p1)) + (3 * p2)) + p3)) p4) := by rw [pfX8_spoil_yr_f, if_neg c_1, if_pos c_2, if_neg c_6]
        have hP9 := hP.sub (ws' := [(y, .inr (8, [.ref yt, .int 0, .int 0, .ref yr, .ref yk, .ref yz, .ref yp, .int 0, .int 0, .int 0, .int 0, .ref yl, .ref yw, .int 0, .int 0, .int 0, .int 0, .int 0, .int 0, .int 0, .int 0, .int (-1), .ref yd, .int 0, .ref ys, .ref yn, .ref ym, .int 0, .ref yf, .ref yo, .ref yh, .ref yb, .int 0, .int 0, .int 0, .int 0, .int 0, .int 0, .int 0, .ref yx, .int 0, .int 0, .int 0])), (yr, .inl (cI, 4668, .inl (upd (jn [0, 4, 0, 0, 0, 0, 0, 0, 0, 0, 0, 0, 0, 0, 0, 0, 0, (-1), 0, 0, 0, 0, 0, 0] R0) (Int32.toNatClampNeg (((24 + (24 * p1)) + (3 * p2)) + p3)) p4)))]) [0, 1] rfl
        have hD9 := hD.sub (ws' := [(y, .inr (8, [.ref yt, .int 0, .int 0, .ref yr, .ref yk, .ref yz, .ref yp, .int 0, .int 0, .int 0, .int 0, .ref yl, .ref yw, .int 0, .int 0, .int 0, .int 0, .int 0, .int 0, .int 0, .int 0, .int (-1), .ref yd, .int 0, .ref ys, .ref yn, .ref ym, .int 0, .ref yf, .ref yo, .ref yh, .ref yb, .int 0, .int 0, .int 0, .int 0, .int 0, .int 0, .int 0, .ref yx, .int 0, .int 0, .int 0])), (yr, .inl (cI, 4668, .inl (upd (jn [0, 4, 0, 0, 0, 0, 0, 0, 0, 0, 0, 0, 0, 0, 0, 0, 0, (-1), 0, 0, 0, 0, 0, 0] R0) (Int32.toNatClampNeg (((24 + (24 * p1)) + (3 * p2)) + p3)) p4)))]) [0, 1] (by decide) rfl
        exact W.iret (v := 0) hx hb hr (fun t ht hW => ⟨⟨0, (), rfl, e_0.symm, by rw [ht, e_1]; exact hP9, va_K.moved hW.alike hK, (by rw [e_1]; exact hD9)⟩, hS.F ht⟩) hS.2.2 dX8_spoil_71
      · refine lv_iconst (v := (-1)) hx hb dX8_spoil_41 (by decide) ?_
        have e_0 : (pfX8_spoil_r p1 p2 p3 p4) = (-1) := by rw [pfX8_spoil_r, if_neg c_1, if_pos c_2, if_pos c_6]
        have e_1 : (pfX8_spoil_yr_f p1 p2 p3 p4) = (jn [0, 4, 0, 0, 0, 0, 0, 0, 0, 0, 0, 0, 0, 0, 0, 0, 0, (-1), 0, 0, 0, 0, 0, 0] R0) := by rw [pfX8_spoil_yr_f, if_neg c_1, if_pos c_2, if_pos c_6]
        have hP9 := hP.sub (ws' := [(y, .inr (8, [.ref yt, .int 0, .int 0, .ref yr, .ref yk, .ref yz, .ref yp, .int 0, .int 0, .int 0, .int 0, .ref yl, .ref yw, .int 0, .int 0, .int 0, .int 0, .int 0, .int 0, .int 0, .int 0, .int (-1), .ref yd, .int 0, .ref ys, .ref yn, .ref ym, .int 0, .ref yf, .ref yo, .ref yh, .ref yb, .int 0, .int 0, .int 0, .int 0, .int 0, .int 0, .int 0, .ref yx, .int 0, .int 0, .int 0])), (yr, .inl (cI, 4668, .inl (jn [0, 4, 0, 0, 0, 0, 0, 0, 0, 0, 0, 0, 0, 0, 0, 0, 0, (-1), 0, 0, 0, 0, 0, 0] R0)))]) [0, 1] rfl
        have hD9 := hD.sub (ws' := [(y, .inr (8, [.ref yt, .int 0, .int 0, .ref yr, .ref yk, .ref yz, .ref yp, .int 0, .int 0, .int 0, .int 0, .ref yl, .ref yw, .int 0, .int 0, .int 0, .int 0, .int 0, .int 0, .int 0, .int 0, .int (-1), .ref yd, .int 0, .ref ys, .ref yn, .ref ym, .int 0, .ref yf, .ref yo, .ref yh, .ref yb, .int 0, .int 0, .int 0, .int 0, .int 0, .int 0, .int 0, .ref yx, .int 0, .int 0, .int 0])), (yr, .inl (cI, 4668, .inl (jn [0, 4, 0, 0, 0, 0, 0, 0, 0, 0, 0, 0, 0, 0, 0, 0, 0, (-1), 0, 0, 0, 0, 0, 0] R0)))]) [0, 1] (by decide) rfl
        exact W.iret (v := (-1)) hx hb hr (fun t ht hW => ⟨⟨(-1), (), rfl, e_0.symm, by rw [ht, e_1]; exact hP9, va_K.moved hW.alike hK, (by rw [e_1]; exact hD9)⟩, hS.F ht⟩) hS.2.2 dX8_spoil_42

def pfX8_descriptor_r (p1 : Int32) (p2 : Int32) (p3 : Int32) : Int32 := if (pfX8_isDescriptor_r p1 p2 p3) = 0 then (-1) else 0
set_option maxHeartbeats 4000000 in
set_option maxRecDepth 100000 in
theorem kkX8_descriptor (l : Launch) (dC : Nat → ClassId) (dI : Nat → Nat → Nat) (cI cB cZ cR : ClassId) (sz : Nat) (y : Nat) (yt : Nat) (yr : Nat) (yk : Nat) (yz : Nat) (yp : Nat) (yl : Nat) (yw : Nat) (yd : Nat) (ys : Nat) (yn : Nat) (ym : Nat) (yf : Nat) (yo : Nat) (yh : Nat) (yb : Nat) (yx : Nat) (p1 : Int32) (p2 : Int32) (p3 : Int32) : Met l yX8_descriptor (.code yX8_descriptor cX8_descriptor 4 (some .int) :: wsL_law) ({ frames := 2, cells := 0, slots := 0, locals := 45 }) (zPc dC dI (zT cI cB cZ cR) [.ref y, .int p1, .int p2, .int p3] sz [(y, .inr (8, [.ref yt, .int 0, .int 0, .ref yr, .ref yk, .ref yz, .ref yp, .int 0, .int 0, .int 0, .int 0, .ref yl, .ref yw, .int 0, .int 0, .int 0, .int 0, .int 0, .int 0, .int 0, .int 0, .int (-1), .ref yd, .int 0, .ref ys, .ref yn, .ref ym, .int 0, .ref yf, .ref yo, .ref yh, .ref yb, .int 0, .int 0, .int 0, .int 0, .int 0, .int 0, .int 0, .ref yx, .int 0, .int 0, .int 0])), (yr, .inl (cI, 4668, .inl (jn [0, 4, 0, 0, 0, 0, 0, 0, 0, 0, 0, 0, 0, 0, 0, 0, 0, (-1), 0, 0, 0, 0, 0, 0] R0)))]) (va_Qi (fun (r : Int32) (_ : Unit) => r = (pfX8_descriptor_r p1 p2 p3)) (fun _ : Unit => zB dC dI (zT cI cB cZ cR) (va_A [(y, .inr (8, [.ref yt, .int 0, .int 0, .ref yr, .ref yk, .ref yz, .ref yp, .int 0, .int 0, .int 0, .int 0, .ref yl, .ref yw, .int 0, .int 0, .int 0, .int 0, .int 0, .int 0, .int 0, .int 0, .int (-1), .ref yd, .int 0, .ref ys, .ref yn, .ref ym, .int 0, .ref yf, .ref yo, .ref yh, .ref yb, .int 0, .int 0, .int 0, .int 0, .int 0, .int 0, .int 0, .ref yx, .int 0, .int 0, .int 0])), (yr, .inl (cI, 4668, .inl (jn [0, 4, 0, 0, 0, 0, 0, 0, 0, 0, 0, 0, 0, 0, 0, 0, 0, (-1), 0, 0, 0, 0, 0, 0] R0)))] sz) [(y, .inr (8, [.ref yt, .int 0, .int 0, .ref yr, .ref yk, .ref yz, .ref yp, .int 0, .int 0, .int 0, .int 0, .ref yl, .ref yw, .int 0, .int 0, .int 0, .int 0, .int 0, .int 0, .int 0, .int 0, .int (-1), .ref yd, .int 0, .ref ys, .ref yn, .ref ym, .int 0, .ref yf, .ref yo, .ref yh, .ref yb, .int 0, .int 0, .int 0, .int 0, .int 0, .int 0, .int 0, .ref yx, .int 0, .int 0, .int 0])), (yr, .inl (cI, 4668, .inl (jn [0, 4, 0, 0, 0, 0, 0, 0, 0, 0, 0, 0, 0, 0, 0, 0, 0, (-1), 0, 0, 0, 0, 0, 0] R0)))]) (va_A [(y, .inr (8, [.ref yt, .int 0, .int 0, .ref yr, .ref yk, .ref yz, .ref yp, .int 0, .int 0, .int 0, .int 0, .ref yl, .ref yw, .int 0, .int 0, .int 0, .int 0, .int 0, .int 0, .int 0, .int 0, .int (-1), .ref yd, .int 0, .ref ys, .ref yn, .ref ym, .int 0, .ref yf, .ref yo, .ref yh, .ref yb, .int 0, .int 0, .int 0, .int 0, .int 0, .int 0, .int 0, .ref yx, .int 0, .int 0, .int 0])), (yr, .inl (cI, 4668, .inl (jn [0, 4, 0, 0, 0, 0, 0, 0, 0, 0, 0, 0, 0, 0, 0, 0, 0, (-1), 0, 0, 0, 0, 0, 0] R0)))] sz)) 0 0 (va_A [(y, .inr (8, [.ref yt, .int 0, .int 0, .ref yr, .ref yk, .ref yz, .ref yp, .int 0, .int 0, .int 0, .int 0, .ref yl, .ref yw, .int 0, .int 0, .int 0, .int 0, .int 0, .int 0, .int 0, .int 0, .int (-1), .ref yd, .int 0, .ref ys, .ref yn, .ref ym, .int 0, .ref yf, .ref yo, .ref yh, .ref yb, .int 0, .int 0, .int 0, .int 0, .int 0, .int 0, .int 0, .ref yx, .int 0, .int 0, .int 0])), (yr, .inl (cI, 4668, .inl (jn [0, 4, 0, 0, 0, 0, 0, 0, 0, 0, 0, 0, 0, 0, 0, 0, 0, (-1), 0, 0, 0, 0, 0, 0] R0)))] sz) := by
  refine Met.ofW (cc := cX8_descriptor) (maxL := 4) (ret := (some .int)) (by decide) rfl ?_
  intro p e s m args below meth c s₁ B hml hv
  obtain ⟨rfl, hsz, hP, hK, hD0, hN⟩ := hv
  have hx := B.exec
  have hb := B.bytes
  have hr := B.returns
  have hts := atoms_spec (ws := (.code yX8_descriptor cX8_descriptor 4 (some .int) :: wsL_law)) B.pre
  have hown : s.vm.findClass RX8 = some m.cls := findClass_of_methodNamed B.named
  have hlocks := B.notSynchronized
  have hinX8 : ∀ w ∈ u_ws RX8 TX8 43, w ∈ (.code yX8_descriptor cX8_descriptor 4 (some .int) :: wsL_law) := fun w h => List.mem_cons_of_mem _ (inlX8 w h)
  have k_0 := hts (.fieldLink RX8 13 "RingMarksModel" "\x72" "[I") (List.mem_cons_of_mem _ wm_128)
  subst hsz
  have hD := hD0.self (sz := s.heap.size)
  generalize hAe : va_A [(y, .inr (8, [.ref yt, .int 0, .int 0, .ref yr, .ref yk, .ref yz, .ref yp, .int 0, .int 0, .int 0, .int 0, .ref yl, .ref yw, .int 0, .int 0, .int 0, .int 0, .int 0, .int 0, .int 0, .int 0, .int (-1), .ref yd, .int 0, .ref ys, .ref yn, .ref ym, .int 0, .ref yf, .ref yo, .ref yh, .ref yb, .int 0, .int 0, .int 0, .int 0, .int 0, .int 0, .int 0, .ref yx, .int 0, .int 0, .int 0])), (yr, .inl (cI, 4668, .inl (jn [0, 4, 0, 0, 0, 0, 0, 0, 0, 0, 0, 0, 0, 0, 0, 0, 0, (-1), 0, 0, 0, 0, 0, 0] R0)))] s.heap.size = A at hD ⊢
  have hA : ∀ q : Nat, s.heap.size ≤ q → A q := fun q h => by rw [← hAe]; exact Or.inr h
  have hP : va_P (dC, dI) vwCl [(y, .inr (8, [.ref yt, .int 0, .int 0, .ref yr, .ref yk, .ref yz, .ref yp, .int 0, .int 0, .int 0, .int 0, .ref yl, .ref yw, .int 0, .int 0, .int 0, .int 0, .int 0, .int 0, .int 0, .int 0, .int (-1), .ref yd, .int 0, .ref ys, .ref yn, .ref ym, .int 0, .ref yf, .ref yo, .ref yh, .ref yb, .int 0, .int 0, .int 0, .int 0, .int 0, .int 0, .int 0, .ref yx, .int 0, .int 0, .int 0])), (yr, .inl (cI, 4668, .inl (jn [0, 4, 0, 0, 0, 0, 0, 0, 0, 0, 0, 0, 0, 0, 0, 0, 0, (-1), 0, 0, 0, 0, 0, 0] R0)))] s.heap := hP
  have hl := lv_entry ([.ref y, .int p1, .int p2, .int p3]) (n := 4) (Nat.le_of_ble_eq_true rfl)
  rw [lg_entry_eq]
  generalize (lg_sl ([.ref y, .int p1, .int p2, .int p3]) ++ List.replicate (4 - (lg_sl ([.ref y, .int p1, .int p2, .int p3])).length) Slot.unset).toArray = ls at hl ⊢
  have hl : lv_has ls 4 [(0, .ref y), (1, .int p1), (2, .int p2), (3, .int p3)] := hl
  obtain ⟨H, hH⟩ : ∃ H, H = s.heap := ⟨_, rfl⟩
  rw [← hH] at hP ⊢
  have hS : va_S A s.heap H [] := by rw [hH]; exact va_S.rf
  refine lv_aload_n hx hb dX8_descriptor_0 rfl (lv_at hl 0 rfl) ?_
  refine lv_iload_n hx hb dX8_descriptor_1 rfl (lv_at hl 1 rfl) ?_
  refine lv_iload_n hx hb dX8_descriptor_2 rfl (lv_at hl 2 rfl) ?_
  refine lv_iload_n hx hb dX8_descriptor_3 rfl (lv_at hl 3 rfl) ?_
  refine zcVi (As := [.int p1, .int p2, .int p3]) (rest := []) (wr := []) ⟨hx, hb, hml, hown, hts⟩ (kkX8_isDescriptor l dC dI cI cB cZ cR H.size y yt yr yk yz yp yl yw yd ys yn ym yf yo yh yb yx p1 p2 p3 ) (cwV 3 hts (zgV wm_737 wm_738 wm_739 wm_5 wm_740) rfl rfl rfl (by decide +kernel) ⟨Nat.le_of_ble_eq_true rfl, Nat.le_of_ble_eq_true rfl⟩) hN hK hP hD hS hA [0, 1] [] rfl rfl ⟨rfl, rfl⟩ (by decide) (ci := 8) rfl rfl rfl rfl hl.1 rfl (Nat.le_of_ble_eq_true rfl) dX8_descriptor_4 ⟨Nat.le_of_ble_eq_true rfl, Nat.le_of_ble_eq_true rfl⟩ (fun r u hu H locs hP hD hS => ?_)
  have hu : r = (pfX8_isDescriptor_r p1 p2 p3) := hu
  subst hu
  have hP : va_P (dC, dI) vwCl [(y, .inr (8, [.ref yt, .int 0, .int 0, .ref yr, .ref yk, .ref yz, .ref yp, .int 0, .int 0, .int 0, .int 0, .ref yl, .ref yw, .int 0, .int 0, .int 0, .int 0, .int 0, .int 0, .int 0, .int 0, .int (-1), .ref yd, .int 0, .ref ys, .ref yn, .ref ym, .int 0, .ref yf, .ref yo, .ref yh, .ref yb, .int 0, .int 0, .int 0, .int 0, .int 0, .int 0, .int 0, .ref yx, .int 0, .int 0, .int 0])), (yr, .inl (cI, 4668, .inl (jn [0, 4, 0, 0, 0, 0, 0, 0, 0, 0, 0, 0, 0, 0, 0, 0, 0, (-1), 0, 0, 0, 0, 0, 0] R0)))] H := hP
  have hD : va_D A [(y, .inr (8, [.ref yt, .int 0, .int 0, .ref yr, .ref yk, .ref yz, .ref yp, .int 0, .int 0, .int 0, .int 0, .ref yl, .ref yw, .int 0, .int 0, .int 0, .int 0, .int 0, .int 0, .int 0, .int 0, .int (-1), .ref yd, .int 0, .ref ys, .ref yn, .ref ym, .int 0, .ref yf, .ref yo, .ref yh, .ref yb, .int 0, .int 0, .int 0, .int 0, .int 0, .int 0, .int 0, .ref yx, .int 0, .int 0, .int 0])), (yr, .inl (cI, 4668, .inl (jn [0, 4, 0, 0, 0, 0, 0, 0, 0, 0, 0, 0, 0, 0, 0, 0, 0, (-1), 0, 0, 0, 0, 0, 0] R0)))] := hD
  refine lv_if_eq (tgt := 24) hx hb dX8_descriptor_7 (by decide) (fun c_1 => ?_) (fun c_1 => ?_)
  · refine lv_iconst (v := (-1)) hx hb dX8_descriptor_24 (by decide) ?_
    have e_0 : (pfX8_descriptor_r p1 p2 p3) = (-1) := by rw [pfX8_descriptor_r, if_pos c_1]
    have hP9 := hP.sub (ws' := [(y, .inr (8, [.ref yt, .int 0, .int 0, .ref yr, .ref yk, .ref yz, .ref yp, .int 0, .int 0, .int 0, .int 0, .ref yl, .ref yw, .int 0, .int 0, .int 0, .int 0, .int 0, .int 0, .int 0, .int 0, .int (-1), .ref yd, .int 0, .ref ys, .ref yn, .ref ym, .int 0, .ref yf, .ref yo, .ref yh, .ref yb, .int 0, .int 0, .int 0, .int 0, .int 0, .int 0, .int 0, .ref yx, .int 0, .int 0, .int 0])), (yr, .inl (cI, 4668, .inl (jn [0, 4, 0, 0, 0, 0, 0, 0, 0, 0, 0, 0, 0, 0, 0, 0, 0, (-1), 0, 0, 0, 0, 0, 0] R0)))]) [0, 1] rfl
    have hD9 := hD.sub (ws' := [(y, .inr (8, [.ref yt, .int 0, .int 0, .ref yr, .ref yk, .ref yz, .ref yp, .int 0, .int 0, .int 0, .int 0, .ref yl, .ref yw, .int 0, .int 0, .int 0, .int 0, .int 0, .int 0, .int 0, .int 0, .int (-1), .ref yd, .int 0, .ref ys, .ref yn, .ref ym, .int 0, .ref yf, .ref yo, .ref yh, .ref yb, .int 0, .int 0, .int 0, .int 0, .int 0, .int 0, .int 0, .ref yx, .int 0, .int 0, .int 0])), (yr, .inl (cI, 4668, .inl (jn [0, 4, 0, 0, 0, 0, 0, 0, 0, 0, 0, 0, 0, 0, 0, 0, 0, (-1), 0, 0, 0, 0, 0, 0] R0)))]) [0, 1] (by decide) rfl
    exact W.iret (v := (-1)) hx hb hr (fun t ht hW => ⟨⟨(-1), (), rfl, e_0.symm, by rw [ht]; exact hP9, va_K.moved hW.alike hK, hD9⟩, hS.F ht⟩) hS.2.2 dX8_descriptor_25
  · refine lv_aload_n hx hb dX8_descriptor_10 rfl (lv_at hl 0 rfl) ?_
    refine va_get (D := (dC, dI)) (ci := 8) (v := .ref yr) (C := RX8) (T := TX8) (N := 43) hx hb hts hinX8 hown hK hP 0 rfl rfl 3 (by decide) k_0 (fun _ h9 => h9) rfl dX8_descriptor_11 ?_
    refine lv_iload_n hx hb dX8_descriptor_14 rfl (lv_at hl 1 rfl) ?_
    refine lv_iload_n hx hb dX8_descriptor_15 rfl (lv_at hl 2 rfl) ?_
    refine lv_iload_n hx hb dX8_descriptor_16 rfl (lv_at hl 3 rfl) ?_
    refine zcSi (As := [.int p1, .int p2, .int p3]) (rest := [.ref yr]) (wr := [(y, .inr (8, [.ref yt, .int 0, .int 0, .ref yr, .ref yk, .ref yz, .ref yp, .int 0, .int 0, .int 0, .int 0, .ref yl, .ref yw, .int 0, .int 0, .int 0, .int 0, .int 0, .int 0, .int 0, .int 0, .int (-1), .ref yd, .int 0, .ref ys, .ref yn, .ref ym, .int 0, .ref yf, .ref yo, .ref yh, .ref yb, .int 0, .int 0, .int 0, .int 0, .int 0, .int 0, .int 0, .ref yx, .int 0, .int 0, .int 0])), (yr, .inl (cI, 4668, .inl (jn [0, 4, 0, 0, 0, 0, 0, 0, 0, 0, 0, 0, 0, 0, 0, 0, 0, (-1), 0, 0, 0, 0, 0, 0] R0)))]) ⟨hx, hb, hml, hown, hts⟩ (kkX8_at l dC dI cI cB cZ cR H.size p1 p2 p3 ) (va_cwS 3 hts (zgS wm_400 wm_401 wm_5 wm_402) rfl rfl rfl (by decide +kernel) ⟨Nat.le_of_ble_eq_true rfl, Nat.le_of_ble_eq_true rfl⟩) hN hK hP hD hS hA [] [0, 1] rfl rfl ⟨rfl, rfl⟩ (by decide) rfl hl.1 rfl (Nat.le_of_ble_eq_true rfl) dX8_descriptor_17 ⟨Nat.le_of_ble_eq_true rfl, Nat.le_of_ble_eq_true rfl⟩ (fun r u hu H locs hP hD hS => ?_)
    have hu : r = (((24 + (24 * p1)) + (3 * p2)) + p3) := hu
    subst hu
    have hP : va_P (dC, dI) vwCl [(y, .inr (8, [.ref yt, .int 0, .int 0, .ref yr, .ref yk, .ref yz, .ref yp, .int 0, .int 0, .int 0, .int 0, .ref yl, .ref yw, .int 0, .int 0, .int 0, .int 0, .int 0, .int 0, .int 0, .int 0, .int (-1), .ref yd, .int 0, .ref ys, .ref yn, .ref ym, .int 0, .ref yf, .ref yo, .ref yh, .ref yb, .int 0, .int 0, .int 0, .int 0, .int 0, .int 0, .int 0, .ref yx, .int 0, .int 0, .int 0])), (yr, .inl (cI, 4668, .inl (jn [0, 4, 0, 0, 0, 0, 0, 0, 0, 0, 0, 0, 0, 0, 0, 0, 0, (-1), 0, 0, 0, 0, 0, 0] R0)))] H := hP
    have hD : va_D A [(y, .inr (8, [.ref yt, .int 0, .int 0, .ref yr, .ref yk, .ref yz, .ref yp, .int 0, .int 0, .int 0, .int 0, .ref yl, .ref yw, .int 0, .int 0, .int 0, .int 0, .int 0, .int 0, .int 0, .int 0, .int (-1), .ref yd, .int 0, .ref ys, .ref yn, .ref ym, .int 0, .ref yf, .ref yo, .ref yh, .ref yb, .int 0, .int 0, .int 0, .int 0, .int 0, .int 0, .int 0, .ref yx, .int 0, .int 0, .int 0])), (yr, .inl (cI, 4668, .inl (jn [0, 4, 0, 0, 0, 0, 0, 0, 0, 0, 0, 0, 0, 0, 0, 0, 0, (-1), 0, 0, 0, 0, 0, 0] R0)))] := hD
    refine za_iald (v := 0) hx hb hK hP 1 0 rfl rfl (desc_in c_1) (desc_rd c_1) dX8_descriptor_20 ?_
    refine lv_goto (tgt := 25) hx hb dX8_descriptor_21 (by decide) ?_
    have e_0 : (pfX8_descriptor_r p1 p2 p3) = 0 := by rw [pfX8_descriptor_r, if_neg c_1]
    have hP9 := hP.sub (ws' := [(y, .inr (8, [.ref yt, .int 0, .int 0, .ref yr, .ref yk, .ref yz, .ref yp, .int 0, .int 0, .int 0, .int 0, .ref yl, .ref yw, .int 0, .int 0, .int 0, .int 0, .int 0, .int 0, .int 0, .int 0, .int (-1), .ref yd, .int 0, .ref ys, .ref yn, .ref ym, .int 0, .ref yf, .ref yo, .ref yh, .ref yb, .int 0, .int 0, .int 0, .int 0, .int 0, .int 0, .int 0, .ref yx, .int 0, .int 0, .int 0])), (yr, .inl (cI, 4668, .inl (jn [0, 4, 0, 0, 0, 0, 0, 0, 0, 0, 0, 0, 0, 0, 0, 0, 0, (-1), 0, 0, 0, 0, 0, 0] R0)))]) [0, 1] rfl
    have hD9 := hD.sub (ws' := [(y, .inr (8, [.ref yt, .int 0, .int 0, .ref yr, .ref yk, .ref yz, .ref yp, .int 0, .int 0, .int 0, .int 0, .ref yl, .ref yw, .int 0, .int 0, .int 0, .int 0, .int 0, .int 0, .int 0, .int 0, .int (-1), .ref yd, .int 0, .ref ys, .ref yn, .ref ym, .int 0, .ref yf, .ref yo, .ref yh, .ref yb, .int 0, .int 0, .int 0, .int 0, .int 0, .int 0, .int 0, .ref yx, .int 0, .int 0, .int 0])), (yr, .inl (cI, 4668, .inl (jn [0, 4, 0, 0, 0, 0, 0, 0, 0, 0, 0, 0, 0, 0, 0, 0, 0, (-1), 0, 0, 0, 0, 0, 0] R0)))]) [0, 1] (by decide) rfl
    exact W.iret (v := 0) hx hb hr (fun t ht hW => ⟨⟨0, (), rfl, e_0.symm, by rw [ht]; exact hP9, va_K.moved hW.alike hK, hD9⟩, hS.F ht⟩) hS.2.2 dX8_descriptor_25

def pfX8_table_r (p1 : Int32) : Int32 := if (pfX8_isIn_r p1 0 4) = 0 then (-1) else (pfX8_tableSize_r p1)
set_option maxHeartbeats 4000000 in
set_option maxRecDepth 100000 in
theorem kkX8_table (l : Launch) (dC : Nat → ClassId) (dI : Nat → Nat → Nat) (cI cB cZ cR : ClassId) (sz : Nat) (y : Nat) (yt : Nat) (yr : Nat) (yk : Nat) (yz : Nat) (yp : Nat) (yl : Nat) (yw : Nat) (yd : Nat) (ys : Nat) (yn : Nat) (ym : Nat) (yf : Nat) (yo : Nat) (yh : Nat) (yb : Nat) (yx : Nat) (p1 : Int32) : Met l yX8_table (.code yX8_table cX8_table 2 (some .int) :: wsL_law) ({ frames := 1, cells := 0, slots := 0, locals := 22 }) (zPc dC dI (zT cI cB cZ cR) [.ref y, .int p1] sz [(y, .inr (8, [.ref yt, .int 0, .int 0, .ref yr, .ref yk, .ref yz, .ref yp, .int 0, .int 0, .int 0, .int 0, .ref yl, .ref yw, .int 0, .int 0, .int 0, .int 0, .int 0, .int 0, .int 0, .int 0, .int (-1), .ref yd, .int 0, .ref ys, .ref yn, .ref ym, .int 0, .ref yf, .ref yo, .ref yh, .ref yb, .int 0, .int 0, .int 0, .int 0, .int 0, .int 0, .int 0, .ref yx, .int 0, .int 0, .int 0])), (yr, .inl (cI, 4668, .inl (jn [0, 4, 0, 0, 0, 0, 0, 0, 0, 0, 0, 0, 0, 0, 0, 0, 0, (-1), 0, 0, 0, 0, 0, 0] R0)))]) (va_Qi (fun (r : Int32) (_ : Unit) => r = (pfX8_table_r p1)) (fun _ : Unit => zB dC dI (zT cI cB cZ cR) (va_A [(y, .inr (8, [.ref yt, .int 0, .int 0, .ref yr, .ref yk, .ref yz, .ref yp, .int 0, .int 0, .int 0, .int 0, .ref yl, .ref yw, .int 0, .int 0, .int 0, .int 0, .int 0, .int 0, .int 0, .int 0, .int (-1), .ref yd, .int 0, .ref ys, .ref yn, .ref ym, .int 0, .ref yf, .ref yo, .ref yh, .ref yb, .int 0, .int 0, .int 0, .int 0, .int 0, .int 0, .int 0, .ref yx, .int 0, .int 0, .int 0])), (yr, .inl (cI, 4668, .inl (jn [0, 4, 0, 0, 0, 0, 0, 0, 0, 0, 0, 0, 0, 0, 0, 0, 0, (-1), 0, 0, 0, 0, 0, 0] R0)))] sz) [(y, .inr (8, [.ref yt, .int 0, .int 0, .ref yr, .ref yk, .ref yz, .ref yp, .int 0, .int 0, .int 0, .int 0, .ref yl, .ref yw, .int 0, .int 0, .int 0, .int 0, .int 0, .int 0, .int 0, .int 0, .int (-1), .ref yd, .int 0, .ref ys, .ref yn, .ref ym, .int 0, .ref yf, .ref yo, .ref yh, .ref yb, .int 0, .int 0, .int 0, .int 0, .int 0, .int 0, .int 0, .ref yx, .int 0, .int 0, .int 0])), (yr, .inl (cI, 4668, .inl (jn [0, 4, 0, 0, 0, 0, 0, 0, 0, 0, 0, 0, 0, 0, 0, 0, 0, (-1), 0, 0, 0, 0, 0, 0] R0)))]) (va_A [(y, .inr (8, [.ref yt, .int 0, .int 0, .ref yr, .ref yk, .ref yz, .ref yp, .int 0, .int 0, .int 0, .int 0, .ref yl, .ref yw, .int 0, .int 0, .int 0, .int 0, .int 0, .int 0, .int 0, .int 0, .int (-1), .ref yd, .int 0, .ref ys, .ref yn, .ref ym, .int 0, .ref yf, .ref yo, .ref yh, .ref yb, .int 0, .int 0, .int 0, .int 0, .int 0, .int 0, .int 0, .ref yx, .int 0, .int 0, .int 0])), (yr, .inl (cI, 4668, .inl (jn [0, 4, 0, 0, 0, 0, 0, 0, 0, 0, 0, 0, 0, 0, 0, 0, 0, (-1), 0, 0, 0, 0, 0, 0] R0)))] sz)) 0 0 (va_A [(y, .inr (8, [.ref yt, .int 0, .int 0, .ref yr, .ref yk, .ref yz, .ref yp, .int 0, .int 0, .int 0, .int 0, .ref yl, .ref yw, .int 0, .int 0, .int 0, .int 0, .int 0, .int 0, .int 0, .int 0, .int (-1), .ref yd, .int 0, .ref ys, .ref yn, .ref ym, .int 0, .ref yf, .ref yo, .ref yh, .ref yb, .int 0, .int 0, .int 0, .int 0, .int 0, .int 0, .int 0, .ref yx, .int 0, .int 0, .int 0])), (yr, .inl (cI, 4668, .inl (jn [0, 4, 0, 0, 0, 0, 0, 0, 0, 0, 0, 0, 0, 0, 0, 0, 0, (-1), 0, 0, 0, 0, 0, 0] R0)))] sz) := by
  refine Met.ofW (cc := cX8_table) (maxL := 2) (ret := (some .int)) (by decide) rfl ?_
  intro p e s m args below meth c s₁ B hml hv
  obtain ⟨rfl, hsz, hP, hK, hD0, hN⟩ := hv
  have hx := B.exec
  have hb := B.bytes
  have hr := B.returns
  have hts := atoms_spec (ws := (.code yX8_table cX8_table 2 (some .int) :: wsL_law)) B.pre
  have hown : s.vm.findClass RX8 = some m.cls := findClass_of_methodNamed B.named
  have hlocks := B.notSynchronized
  subst hsz
  have hD := hD0.self (sz := s.heap.size)
  generalize hAe : va_A [(y, .inr (8, [.ref yt, .int 0, .int 0, .ref yr, .ref yk, .ref yz, .ref yp, .int 0, .int 0, .int 0, .int 0, .ref yl, .ref yw, .int 0, .int 0, .int 0, .int 0, .int 0, .int 0, .int 0, .int 0, .int (-1), .ref yd, .int 0, .ref ys, .ref yn, .ref ym, .int 0, .ref yf, .ref yo, .ref yh, .ref yb, .int 0, .int 0, .int 0, .int 0, .int 0, .int 0, .int 0, .ref yx, .int 0, .int 0, .int 0])), (yr, .inl (cI, 4668, .inl (jn [0, 4, 0, 0, 0, 0, 0, 0, 0, 0, 0, 0, 0, 0, 0, 0, 0, (-1), 0, 0, 0, 0, 0, 0] R0)))] s.heap.size = A at hD ⊢
  have hA : ∀ q : Nat, s.heap.size ≤ q → A q := fun q h => by rw [← hAe]; exact Or.inr h
  have hP : va_P (dC, dI) vwCl [(y, .inr (8, [.ref yt, .int 0, .int 0, .ref yr, .ref yk, .ref yz, .ref yp, .int 0, .int 0, .int 0, .int 0, .ref yl, .ref yw, .int 0, .int 0, .int 0, .int 0, .int 0, .int 0, .int 0, .int 0, .int (-1), .ref yd, .int 0, .ref ys, .ref yn, .ref ym, .int 0, .ref yf, .ref yo, .ref yh, .ref yb, .int 0, .int 0, .int 0, .int 0, .int 0, .int 0, .int 0, .ref yx, .int 0, .int 0, .int 0])), (yr, .inl (cI, 4668, .inl (jn [0, 4, 0, 0, 0, 0, 0, 0, 0, 0, 0, 0, 0, 0, 0, 0, 0, (-1), 0, 0, 0, 0, 0, 0] R0)))] s.heap := hP
  have hl := lv_entry ([.ref y, .int p1]) (n := 2) (Nat.le_of_ble_eq_true rfl)
  rw [lg_entry_eq]
  generalize (lg_sl ([.ref y, .int p1]) ++ List.replicate (2 - (lg_sl ([.ref y, .int p1])).length) Slot.unset).toArray = ls at hl ⊢
  have hl : lv_has ls 2 [(0, .ref y), (1, .int p1)] := hl
  obtain ⟨H, hH⟩ : ∃ H, H = s.heap := ⟨_, rfl⟩
  rw [← hH] at hP ⊢
  have hS : va_S A s.heap H [] := by rw [hH]; exact va_S.rf
  refine lv_iload_n hx hb dX8_table_0 rfl (lv_at hl 1 rfl) ?_
  refine lv_iconst (v := 0) hx hb dX8_table_1 (by decide) ?_
  refine lv_iconst (v := 4) hx hb dX8_table_2 (by decide) ?_
  refine zcSi (As := [.int p1, .int 0, .int 4]) (rest := []) (wr := [(y, .inr (8, [.ref yt, .int 0, .int 0, .ref yr, .ref yk, .ref yz, .ref yp, .int 0, .int 0, .int 0, .int 0, .ref yl, .ref yw, .int 0, .int 0, .int 0, .int 0, .int 0, .int 0, .int 0, .int 0, .int (-1), .ref yd, .int 0, .ref ys, .ref yn, .ref ym, .int 0, .ref yf, .ref yo, .ref yh, .ref yb, .int 0, .int 0, .int 0, .int 0, .int 0, .int 0, .int 0, .ref yx, .int 0, .int 0, .int 0])), (yr, .inl (cI, 4668, .inl (jn [0, 4, 0, 0, 0, 0, 0, 0, 0, 0, 0, 0, 0, 0, 0, 0, 0, (-1), 0, 0, 0, 0, 0, 0] R0)))]) ⟨hx, hb, hml, hown, hts⟩ (kkX8_isIn l dC dI cI cB cZ cR H.size p1 0 4 ) (va_cwS 3 hts (zgS wm_191 wm_192 wm_5 wm_193) rfl rfl rfl (by decide +kernel) ⟨Nat.le_of_ble_eq_true rfl, Nat.le_of_ble_eq_true rfl⟩) hN hK hP hD hS hA [] [0, 1] rfl rfl ⟨rfl, rfl⟩ (by decide) rfl hl.1 rfl (Nat.le_of_ble_eq_true rfl) dX8_table_3 ⟨Nat.le_of_ble_eq_true rfl, Nat.le_of_ble_eq_true rfl⟩ (fun r u hu H locs hP hD hS => ?_)
  have hu : r = (pfX8_isIn_r p1 0 4) := hu
  subst hu
  have hP : va_P (dC, dI) vwCl [(y, .inr (8, [.ref yt, .int 0, .int 0, .ref yr, .ref yk, .ref yz, .ref yp, .int 0, .int 0, .int 0, .int 0, .ref yl, .ref yw, .int 0, .int 0, .int 0, .int 0, .int 0, .int 0, .int 0, .int 0, .int (-1), .ref yd, .int 0, .ref ys, .ref yn, .ref ym, .int 0, .ref yf, .ref yo, .ref yh, .ref yb, .int 0, .int 0, .int 0, .int 0, .int 0, .int 0, .int 0, .ref yx, .int 0, .int 0, .int 0])), (yr, .inl (cI, 4668, .inl (jn [0, 4, 0, 0, 0, 0, 0, 0, 0, 0, 0, 0, 0, 0, 0, 0, 0, (-1), 0, 0, 0, 0, 0, 0] R0)))] H := hP
  have hD : va_D A [(y, .inr (8, [.ref yt, .int 0, .int 0, .ref yr, .ref yk, .ref yz, .ref yp, .int 0, .int 0, .int 0, .int 0, .ref yl, .ref yw, .int 0, .int 0, .int 0, .int 0, .int 0, .int 0, .int 0, .int 0, .int (-1), .ref yd, .int 0, .ref ys, .ref yn, .ref ym, .int 0, .ref yf, .ref yo, .ref yh, .ref yb, .int 0, .int 0, .int 0, .int 0, .int 0, .int 0, .int 0, .ref yx, .int 0, .int 0, .int 0])), (yr, .inl (cI, 4668, .inl (jn [0, 4, 0, 0, 0, 0, 0, 0, 0, 0, 0, 0, 0, 0, 0, 0, 0, (-1), 0, 0, 0, 0, 0, 0] R0)))] := hD
  refine lv_if_eq (tgt := 17) hx hb dX8_table_6 (by decide) (fun c_1 => ?_) (fun c_1 => ?_)
  · refine lv_iconst (v := (-1)) hx hb dX8_table_17 (by decide) ?_
    have e_0 : (pfX8_table_r p1) = (-1) := by rw [pfX8_table_r, if_pos c_1]
    have hP9 := hP.sub (ws' := [(y, .inr (8, [.ref yt, .int 0, .int 0, .ref yr, .ref yk, .ref yz, .ref yp, .int 0, .int 0, .int 0, .int 0, .ref yl, .ref yw, .int 0, .int 0, .int 0, .int 0, .int 0, .int 0, .int 0, .int 0, .int (-1), .ref yd, .int 0, .ref ys, .ref yn, .ref ym, .int 0, .ref yf, .ref yo, .ref yh, .ref yb, .int 0, .int 0, .int 0, .int 0, .int 0, .int 0, .int 0, .ref yx, .int 0, .int 0, .int 0])), (yr, .inl (cI, 4668, .inl (jn [0, 4, 0, 0, 0, 0, 0, 0, 0, 0, 0, 0, 0, 0, 0, 0, 0, (-1), 0, 0, 0, 0, 0, 0] R0)))]) [0, 1] rfl
    have hD9 := hD.sub (ws' := [(y, .inr (8, [.ref yt, .int 0, .int 0, .ref yr, .ref yk, .ref yz, .ref yp, .int 0, .int 0, .int 0, .int 0, .ref yl, .ref yw, .int 0, .int 0, .int 0, .int 0, .int 0, .int 0, .int 0, .int 0, .int (-1), .ref yd, .int 0, .ref ys, .ref yn, .ref ym, .int 0, .ref yf, .ref yo, .ref yh, .ref yb, .int 0, .int 0, .int 0, .int 0, .int 0, .int 0, .int 0, .ref yx, .int 0, .int 0, .int 0])), (yr, .inl (cI, 4668, .inl (jn [0, 4, 0, 0, 0, 0, 0, 0, 0, 0, 0, 0, 0, 0, 0, 0, 0, (-1), 0, 0, 0, 0, 0, 0] R0)))]) [0, 1] (by decide) rfl
    exact W.iret (v := (-1)) hx hb hr (fun t ht hW => ⟨⟨(-1), (), rfl, e_0.symm, by rw [ht]; exact hP9, va_K.moved hW.alike hK, hD9⟩, hS.F ht⟩) hS.2.2 dX8_table_18
  · refine lv_aload_n hx hb dX8_table_9 rfl (lv_at hl 0 rfl) ?_
    refine lv_iload_n hx hb dX8_table_10 rfl (lv_at hl 1 rfl) ?_
    refine zcVi (As := [.int p1]) (rest := []) (wr := []) ⟨hx, hb, hml, hown, hts⟩ (kkX8_tableSize l dC dI cI cB cZ cR H.size y yt yr yk yz yp yl yw yd ys yn ym yf yo yh yb yx p1 c_1) (cwV 1 hts (zgV wm_741 wm_742 wm_743 wm_5 wm_744) rfl rfl rfl (by decide +kernel) ⟨Nat.le_of_ble_eq_true rfl, Nat.le_of_ble_eq_true rfl⟩) hN hK hP hD hS hA [0, 1] [] rfl rfl ⟨rfl, rfl⟩ (by decide) (ci := 8) rfl rfl rfl rfl hl.1 rfl (Nat.le_of_ble_eq_true rfl) dX8_table_11 ⟨Nat.le_of_ble_eq_true rfl, Nat.le_of_ble_eq_true rfl⟩ (fun r u hu H locs hP hD hS => ?_)
    have hu : r = (pfX8_tableSize_r p1) := hu
    subst hu
    have hP : va_P (dC, dI) vwCl [(y, .inr (8, [.ref yt, .int 0, .int 0, .ref yr, .ref yk, .ref yz, .ref yp, .int 0, .int 0, .int 0, .int 0, .ref yl, .ref yw, .int 0, .int 0, .int 0, .int 0, .int 0, .int 0, .int 0, .int 0, .int (-1), .ref yd, .int 0, .ref ys, .ref yn, .ref ym, .int 0, .ref yf, .ref yo, .ref yh, .ref yb, .int 0, .int 0, .int 0, .int 0, .int 0, .int 0, .int 0, .ref yx, .int 0, .int 0, .int 0])), (yr, .inl (cI, 4668, .inl (jn [0, 4, 0, 0, 0, 0, 0, 0, 0, 0, 0, 0, 0, 0, 0, 0, 0, (-1), 0, 0, 0, 0, 0, 0] R0)))] H := hP
    have hD : va_D A [(y, .inr (8, [.ref yt, .int 0, .int 0, .ref yr, .ref yk, .ref yz, .ref yp, .int 0, .int 0, .int 0, .int 0, .ref yl, .ref yw, .int 0, .int 0, .int 0, .int 0, .int 0, .int 0, .int 0, .int 0, .int (-1), .ref yd, .int 0, .ref ys, .ref yn, .ref ym, .int 0, .ref yf, .ref yo, .ref yh, .ref yb, .int 0, .int 0, .int 0, .int 0, .int 0, .int 0, .int 0, .ref yx, .int 0, .int 0, .int 0])), (yr, .inl (cI, 4668, .inl (jn [0, 4, 0, 0, 0, 0, 0, 0, 0, 0, 0, 0, 0, 0, 0, 0, 0, (-1), 0, 0, 0, 0, 0, 0] R0)))] := hD
    refine lv_goto (tgt := 18) hx hb dX8_table_14 (by decide) ?_
    have e_0 : (pfX8_table_r p1) = (pfX8_tableSize_r p1) := by rw [pfX8_table_r, if_neg c_1]
    have hP9 := hP.sub (ws' := [(y, .inr (8, [.ref yt, .int 0, .int 0, .ref yr, .ref yk, .ref yz, .ref yp, .int 0, .int 0, .int 0, .int 0, .ref yl, .ref yw, .int 0, .int 0, .int 0, .int 0, .int 0, .int 0, .int 0, .int 0, .int (-1), .ref yd, .int 0, .ref ys, .ref yn, .ref ym, .int 0, .ref yf, .ref yo, .ref yh, .ref yb, .int 0, .int 0, .int 0, .int 0, .int 0, .int 0, .int 0, .ref yx, .int 0, .int 0, .int 0])), (yr, .inl (cI, 4668, .inl (jn [0, 4, 0, 0, 0, 0, 0, 0, 0, 0, 0, 0, 0, 0, 0, 0, 0, (-1), 0, 0, 0, 0, 0, 0] R0)))]) [0, 1] rfl
    have hD9 := hD.sub (ws' := [(y, .inr (8, [.ref yt, .int 0, .int 0, .ref yr, .ref yk, .ref yz, .ref yp, .int 0, .int 0, .int 0, .int 0, .ref yl, .ref yw, .int 0, .int 0, .int 0, .int 0, .int 0, .int 0, .int 0, .int 0, .int (-1), .ref yd, .int 0, .ref ys, .ref yn, .ref ym, .int 0, .ref yf, .ref yo, .ref yh, .ref yb, .int 0, .int 0, .int 0, .int 0, .int 0, .int 0, .int 0, .ref yx, .int 0, .int 0, .int 0])), (yr, .inl (cI, 4668, .inl (jn [0, 4, 0, 0, 0, 0, 0, 0, 0, 0, 0, 0, 0, 0, 0, 0, 0, (-1), 0, 0, 0, 0, 0, 0] R0)))]) [0, 1] (by decide) rfl
    exact W.iret (v := (pfX8_tableSize_r p1)) hx hb hr (fun t ht hW => ⟨⟨(pfX8_tableSize_r p1), (), rfl, e_0.symm, by rw [ht]; exact hP9, va_K.moved hW.alike hK, hD9⟩, hS.F ht⟩) hS.2.2 dX8_table_18

theorem row_in {a : Int32} {b : Int32} {n : Nat} (hb : b = nI n) (hn : n ≤ 160) (h : ¬ pfX8_isIn_r a 0 3 = 0) : vp_in (b + a) 4668 := by
  obtain ⟨j, hj, rfl⟩ := isIn_lt (by decide) h
  have e : (3 : Int32).toInt = 3 := by decide
  rw [hb, nI_add]
  exact vp_in_nI (by omega) (by decide)
theorem row_rd {L : List Int32} {a b : Int32} {n : Nat} (hb : b = nI n) (h1 : 144 ≤ n) (hn : n ≤ 160) (h : ¬ pfX8_isIn_r a 0 3 = 0) : jn L R0 (b + a).toNatClampNeg = -1 := by
  obtain ⟨j, hj, rfl⟩ := isIn_lt (by decide) h
  have e : (3 : Int32).toInt = 3 := by decide
  rw [hb, nI_add, nI_clamp (by omega), jn_hi (by omega), R0_mid (by omega) (by omega)]

set_option maxHeartbeats 4000000 in
set_option maxRecDepth 100000 in
theorem kkX8_row (l : Launch) (dC : Nat → ClassId) (dI : Nat → Nat → Nat) (cI cB cZ cR : ClassId) (sz : Nat) (y : Nat) (yt : Nat) (yr : Nat) (yk : Nat) (yz : Nat) (yp : Nat) (yl : Nat) (yw : Nat) (yd : Nat) (ys : Nat) (yn : Nat) (ym : Nat) (yf : Nat) (yo : Nat) (yh : Nat) (yb : Nat) (yx : Nat) (p1 : Int32) (p2 : Int32) : Met l yX8_row (.code yX8_row cX8_row 3 (some .int) :: wsL_law) ({ frames := 1, cells := 0, slots := 0, locals := 22 }) (zPc dC dI (zT cI cB cZ cR) [.ref y, .int p1, .int p2] sz [(y, .inr (8, [.ref yt, .int 0, .int 0, .ref yr, .ref yk, .ref yz, .ref yp, .int 0, .int 0, .int 0, .int 0, .ref yl, .ref yw, .int 0, .int 0, .int 0, .int 0, .int 0, .int 0, .int 0, .int 0, .int (-1), .ref yd, .int 0, .ref ys, .ref yn, .ref ym, .int 0, .ref yf, .ref yo, .ref yh, .ref yb, .int 0, .int 0, .int 0, .int 0, .int 0, .int 0, .int 0, .ref yx, .int 0, .int 0, .int 0])), (yr, .inl (cI, 4668, .inl (jn [0, 4, 0, 0, 0, 0, 0, 0, 0, 0, 0, 0, 0, 0, 0, 0, 0, (-1), 0, 0, 0, 0, 0, 0] R0)))]) (va_Qi (fun (r : Int32) (_ : Unit) => r = (-1)) (fun _ : Unit => zB dC dI (zT cI cB cZ cR) (va_A [(y, .inr (8, [.ref yt, .int 0, .int 0, .ref yr, .ref yk, .ref yz, .ref yp, .int 0, .int 0, .int 0, .int 0, .ref yl, .ref yw, .int 0, .int 0, .int 0, .int 0, .int 0, .int 0, .int 0, .int 0, .int (-1), .ref yd, .int 0, .ref ys, .ref yn, .ref ym, .int 0, .ref yf, .ref yo, .ref yh, .ref yb, .int 0, .int 0, .int 0, .int 0, .int 0, .int 0, .int 0, .ref yx, .int 0, .int 0, .int 0])), (yr, .inl (cI, 4668, .inl (jn [0, 4, 0, 0, 0, 0, 0, 0, 0, 0, 0, 0, 0, 0, 0, 0, 0, (-1), 0, 0, 0, 0, 0, 0] R0)))] sz) [(y, .inr (8, [.ref yt, .int 0, .int 0, .ref yr, .ref yk, .ref yz, .ref yp, .int 0, .int 0, .int 0, .int 0, .ref yl, .ref yw, .int 0, .int 0, .int 0, .int 0, .int 0, .int 0, .int 0, .int 0, .int (-1), .ref yd, .int 0, .ref ys, .ref yn, .ref ym, .int 0, .ref yf, .ref yo, .ref yh, .ref yb, .int 0, .int 0, .int 0, .int 0, .int 0, .int 0, .int 0, .ref yx, .int 0, .int 0, .int 0])), (yr, .inl (cI, 4668, .inl (jn [0, 4, 0, 0, 0, 0, 0, 0, 0, 0, 0, 0, 0, 0, 0, 0, 0, (-1), 0, 0, 0, 0, 0, 0] R0)))]) (va_A [(y, .inr (8, [.ref yt, .int 0, .int 0, .ref yr, .ref yk, .ref yz, .ref yp, .int 0, .int 0, .int 0, .int 0, .ref yl, .ref yw, .int 0, .int 0, .int 0, .int 0, .int 0, .int 0, .int 0, .int 0, .int (-1), .ref yd, .int 0, .ref ys, .ref yn, .ref ym, .int 0, .ref yf, .ref yo, .ref yh, .ref yb, .int 0, .int 0, .int 0, .int 0, .int 0, .int 0, .int 0, .ref yx, .int 0, .int 0, .int 0])), (yr, .inl (cI, 4668, .inl (jn [0, 4, 0, 0, 0, 0, 0, 0, 0, 0, 0, 0, 0, 0, 0, 0, 0, (-1), 0, 0, 0, 0, 0, 0] R0)))] sz)) 0 0 (va_A [(y, .inr (8, [.ref yt, .int 0, .int 0, .ref yr, .ref yk, .ref yz, .ref yp, .int 0, .int 0, .int 0, .int 0, .ref yl, .ref yw, .int 0, .int 0, .int 0, .int 0, .int 0, .int 0, .int 0, .int 0, .int (-1), .ref yd, .int 0, .ref ys, .ref yn, .ref ym, .int 0, .ref yf, .ref yo, .ref yh, .ref yb, .int 0, .int 0, .int 0, .int 0, .int 0, .int 0, .int 0, .ref yx, .int 0, .int 0, .int 0])), (yr, .inl (cI, 4668, .inl (jn [0, 4, 0, 0, 0, 0, 0, 0, 0, 0, 0, 0, 0, 0, 0, 0, 0, (-1), 0, 0, 0, 0, 0, 0] R0)))] sz) := by
  refine Met.ofW (cc := cX8_row) (maxL := 3) (ret := (some .int)) (by decide) rfl ?_
  intro p e s m args below meth c s₁ B hml hv
  obtain ⟨rfl, hsz, hP, hK, hD0, hN⟩ := hv
  have hx := B.exec
  have hb := B.bytes
  have hr := B.returns
  have hts := atoms_spec (ws := (.code yX8_row cX8_row 3 (some .int) :: wsL_law)) B.pre
  have hown : s.vm.findClass RX8 = some m.cls := findClass_of_methodNamed B.named
  have hlocks := B.notSynchronized
  have hinX8 : ∀ w ∈ u_ws RX8 TX8 43, w ∈ (.code yX8_row cX8_row 3 (some .int) :: wsL_law) := fun w h => List.mem_cons_of_mem _ (inlX8 w h)
  have k_0 := hts (.fieldLink RX8 13 "RingMarksModel" "\x72" "[I") (List.mem_cons_of_mem _ wm_128)
  subst hsz
  have hD := hD0.self (sz := s.heap.size)
  generalize hAe : va_A [(y, .inr (8, [.ref yt, .int 0, .int 0, .ref yr, .ref yk, .ref yz, .ref yp, .int 0, .int 0, .int 0, .int 0, .ref yl, .ref yw, .int 0, .int 0, .int 0, .int 0, .int 0, .int 0, .int 0, .int 0, .int (-1), .ref yd, .int 0, .ref ys, .ref yn, .ref ym, .int 0, .ref yf, .ref yo, .ref yh, .ref yb, .int 0, .int 0, .int 0, .int 0, .int 0, .int 0, .int 0, .ref yx, .int 0, .int 0, .int 0])), (yr, .inl (cI, 4668, .inl (jn [0, 4, 0, 0, 0, 0, 0, 0, 0, 0, 0, 0, 0, 0, 0, 0, 0, (-1), 0, 0, 0, 0, 0, 0] R0)))] s.heap.size = A at hD ⊢
  have hA : ∀ q : Nat, s.heap.size ≤ q → A q := fun q h => by rw [← hAe]; exact Or.inr h
  have hP : va_P (dC, dI) vwCl [(y, .inr (8, [.ref yt, .int 0, .int 0, .ref yr, .ref yk, .ref yz, .ref yp, .int 0, .int 0, .int 0, .int 0, .ref yl, .ref yw, .int 0, .int 0, .int 0, .int 0, .int 0, .int 0, .int 0, .int 0, .int (-1), .ref yd, .int 0, .ref ys, .ref yn, .ref ym, .int 0, .ref yf, .ref yo, .ref yh, .ref yb, .int 0, .int 0, .int 0, .int 0, .int 0, .int 0, .int 0, .ref yx, .int 0, .int 0, .int 0])), (yr, .inl (cI, 4668, .inl (jn [0, 4, 0, 0, 0, 0, 0, 0, 0, 0, 0, 0, 0, 0, 0, 0, 0, (-1), 0, 0, 0, 0, 0, 0] R0)))] s.heap := hP
  have hl := lv_entry ([.ref y, .int p1, .int p2]) (n := 3) (Nat.le_of_ble_eq_true rfl)
  rw [lg_entry_eq]
  generalize (lg_sl ([.ref y, .int p1, .int p2]) ++ List.replicate (3 - (lg_sl ([.ref y, .int p1, .int p2])).length) Slot.unset).toArray = ls at hl ⊢
  have hl : lv_has ls 3 [(0, .ref y), (1, .int p1), (2, .int p2)] := hl
  obtain ⟨H, hH⟩ : ∃ H, H = s.heap := ⟨_, rfl⟩
  rw [← hH] at hP ⊢
  have hS : va_S A s.heap H [] := by rw [hH]; exact va_S.rf
  refine lv_aload_n hx hb dX8_row_0 rfl (lv_at hl 0 rfl) ?_
  refine zcVi (As := []) (rest := []) (wr := []) ⟨hx, hb, hml, hown, hts⟩ (kkX8_isPacked l dC dI cI cB cZ cR H.size y yt yr yk yz yp yl yw yd ys yn ym yf yo yh yb yx 0 0 0 0 0 0 0 0 0 0 0 0 0 0 (-1) 0 0 0 0 0 0 0 0 0 0 0 0 0 0 0 0 0 0 0 0 0 0 0 0 0 0 (-1) 0 0 0 0 0 0 R0 ) (cwV 0 hts (zgV wm_372 wm_373 wm_374 wm_5 wm_375) rfl rfl rfl (by decide +kernel) ⟨Nat.le_of_ble_eq_true rfl, Nat.le_of_ble_eq_true rfl⟩) hN hK hP hD hS hA [0, 1] [] rfl rfl ⟨rfl, rfl⟩ (by decide) (ci := 8) rfl rfl rfl rfl hl.1 rfl (Nat.le_of_ble_eq_true rfl) dX8_row_1 ⟨Nat.le_of_ble_eq_true rfl, Nat.le_of_ble_eq_true rfl⟩ (fun r u hu H locs hP hD hS => ?_)
  have hu : r = 0 := hu
  subst hu
  have hP : va_P (dC, dI) vwCl [(y, .inr (8, [.ref yt, .int 0, .int 0, .ref yr, .ref yk, .ref yz, .ref yp, .int 0, .int 0, .int 0, .int 0, .ref yl, .ref yw, .int 0, .int 0, .int 0, .int 0, .int 0, .int 0, .int 0, .int 0, .int (-1), .ref yd, .int 0, .ref ys, .ref yn, .ref ym, .int 0, .ref yf, .ref yo, .ref yh, .ref yb, .int 0, .int 0, .int 0, .int 0, .int 0, .int 0, .int 0, .ref yx, .int 0, .int 0, .int 0])), (yr, .inl (cI, 4668, .inl (jn [0, 4, 0, 0, 0, 0, 0, 0, 0, 0, 0, 0, 0, 0, 0, 0, 0, (-1), 0, 0, 0, 0, 0, 0] R0)))] H := hP
  have hD : va_D A [(y, .inr (8, [.ref yt, .int 0, .int 0, .ref yr, .ref yk, .ref yz, .ref yp, .int 0, .int 0, .int 0, .int 0, .ref yl, .ref yw, .int 0, .int 0, .int 0, .int 0, .int 0, .int 0, .int 0, .int 0, .int (-1), .ref yd, .int 0, .ref ys, .ref yn, .ref ym, .int 0, .ref yf, .ref yo, .ref yh, .ref yb, .int 0, .int 0, .int 0, .int 0, .int 0, .int 0, .int 0, .ref yx, .int 0, .int 0, .int 0])), (yr, .inl (cI, 4668, .inl (jn [0, 4, 0, 0, 0, 0, 0, 0, 0, 0, 0, 0, 0, 0, 0, 0, 0, (-1), 0, 0, 0, 0, 0, 0] R0)))] := hD
  refine lv_if_ne (tgt := 32) hx hb dX8_row_4 (by decide) (fun c => absurd (by decide) c) (fun _ => ?_)
  refine lv_iload_n hx hb dX8_row_7 rfl (lv_at hl 1 rfl) ?_
  refine lv_iconst (v := 0) hx hb dX8_row_8 (by decide) ?_
  refine lv_aload_n hx hb dX8_row_9 rfl (lv_at hl 0 rfl) ?_
  refine va_get (D := (dC, dI)) (ci := 8) (v := .ref yr) (C := RX8) (T := TX8) (N := 43) hx hb hts hinX8 hown hK hP 0 rfl rfl 3 (by decide) k_0 (fun _ h9 => h9) rfl dX8_row_10 ?_
  refine lv_iconst (v := 1) hx hb dX8_row_13 (by decide) ?_
  refine za_iald (v := 4) hx hb hK hP 1 0 rfl rfl (zin tn_1 (Nat.le_of_ble_eq_true rfl)) (zrd _ tn_1 rfl) dX8_row_14 ?_
  refine lv_iconst (v := 1) hx hb dX8_row_15 (by decide) ?_
  refine lv_isub hx hb dX8_row_16 ?_
  refine tp (y := 3) (by decide) ?_
  refine zcSi (As := [.int p1, .int 0, .int 3]) (rest := []) (wr := [(y, .inr (8, [.ref yt, .int 0, .int 0, .ref yr, .ref yk, .ref yz, .ref yp, .int 0, .int 0, .int 0, .int 0, .ref yl, .ref yw, .int 0, .int 0, .int 0, .int 0, .int 0, .int 0, .int 0, .int 0, .int (-1), .ref yd, .int 0, .ref ys, .ref yn, .ref ym, .int 0, .ref yf, .ref yo, .ref yh, .ref yb, .int 0, .int 0, .int 0, .int 0, .int 0, .int 0, .int 0, .ref yx, .int 0, .int 0, .int 0])), (yr, .inl (cI, 4668, .inl (jn [0, 4, 0, 0, 0, 0, 0, 0, 0, 0, 0, 0, 0, 0, 0, 0, 0, (-1), 0, 0, 0, 0, 0, 0] R0)))]) ⟨hx, hb, hml, hown, hts⟩ (kkX8_isIn l dC dI cI cB cZ cR H.size p1 0 3 ) (va_cwS 3 hts (zgS wm_191 wm_192 wm_5 wm_193) rfl rfl rfl (by decide +kernel) ⟨Nat.le_of_ble_eq_true rfl, Nat.le_of_ble_eq_true rfl⟩) hN hK hP hD hS hA [] [0, 1] rfl rfl ⟨rfl, rfl⟩ (by decide) rfl hl.1 rfl (Nat.le_of_ble_eq_true rfl) dX8_row_17 ⟨Nat.le_of_ble_eq_true rfl, Nat.le_of_ble_eq_true rfl⟩ (fun r u hu H locs hP hD hS => ?_)
  have hu : r = (pfX8_isIn_r p1 0 3) := hu
  subst hu
  have hP : va_P (dC, dI) vwCl [(y, .inr (8, [.ref yt, .int 0, .int 0, .ref yr, .ref yk, .ref yz, .ref yp, .int 0, .int 0, .int 0, .int 0, .ref yl, .ref yw, .int 0, .int 0, .int 0, .int 0, .int 0, .int 0, .int 0, .int 0, .int (-1), .ref yd, .int 0, .ref ys, .ref yn, .ref ym, .int 0, .ref yf, .ref yo, .ref yh, .ref yb, .int 0, .int 0, .int 0, .int 0, .int 0, .int 0, .int 0, .ref yx, .int 0, .int 0, .int 0])), (yr, .inl (cI, 4668, .inl (jn [0, 4, 0, 0, 0, 0, 0, 0, 0, 0, 0, 0, 0, 0, 0, 0, 0, (-1), 0, 0, 0, 0, 0, 0] R0)))] H := hP
  have hD : va_D A [(y, .inr (8, [.ref yt, .int 0, .int 0, .ref yr, .ref yk, .ref yz, .ref yp, .int 0, .int 0, .int 0, .int 0, .ref yl, .ref yw, .int 0, .int 0, .int 0, .int 0, .int 0, .int 0, .int 0, .int 0, .int (-1), .ref yd, .int 0, .ref ys, .ref yn, .ref ym, .int 0, .ref yf, .ref yo, .ref yh, .ref yb, .int 0, .int 0, .int 0, .int 0, .int 0, .int 0, .int 0, .ref yx, .int 0, .int 0, .int 0])), (yr, .inl (cI, 4668, .inl (jn [0, 4, 0, 0, 0, 0, 0, 0, 0, 0, 0, 0, 0, 0, 0, 0, 0, (-1), 0, 0, 0, 0, 0, 0] R0)))] := hD
  refine lv_if_eq (tgt := 32) hx hb dX8_row_20 (by decide) (fun c_1 => ?_) (fun c_1 => ?_)
  · refine lv_iconst (v := (-1)) hx hb dX8_row_32 (by decide) ?_
    have hP9 := hP.sub (ws' := [(y, .inr (8, [.ref yt, .int 0, .int 0, .ref yr, .ref yk, .ref yz, .ref yp, .int 0, .int 0, .int 0, .int 0, .ref yl, .ref yw, .int 0, .int 0, .int 0, .int 0, .int 0, .int 0, .int 0, .int 0, .int (-1), .ref yd, .int 0, .ref ys, .ref yn, .ref ym, .int 0, .ref yf, .ref yo, .ref yh, .ref yb, .int 0, .int 0, .int 0, .int 0, .int 0, .int 0, .int 0, .ref yx, .int 0, .int 0, .int 0])), (yr, .inl (cI, 4668, .inl (jn [0, 4, 0, 0, 0, 0, 0, 0, 0, 0, 0, 0, 0, 0, 0, 0, 0, (-1), 0, 0, 0, 0, 0, 0] R0)))]) [0, 1] rfl
    have hD9 := hD.sub (ws' := [(y, .inr (8, [.ref yt, .int 0, .int 0, .ref yr, .ref yk, .ref yz, .ref yp, .int 0, .int 0, .int 0, .int 0, .ref yl, .ref yw, .int 0, .int 0, .int 0, .int 0, .int 0, .int 0, .int 0, .int 0, .int (-1), .ref yd, .int 0, .ref ys, .ref yn, .ref ym, .int 0, .ref yf, .ref yo, .ref yh, .ref yb, .int 0, .int 0, .int 0, .int 0, .int 0, .int 0, .int 0, .ref yx, .int 0, .int 0, .int 0])), (yr, .inl (cI, 4668, .inl (jn [0, 4, 0, 0, 0, 0, 0, 0, 0, 0, 0, 0, 0, 0, 0, 0, 0, (-1), 0, 0, 0, 0, 0, 0] R0)))]) [0, 1] (by decide) rfl
    exact W.iret (v := (-1)) hx hb hr (fun t ht hW => ⟨⟨(-1), (), rfl, rfl, by rw [ht]; exact hP9, va_K.moved hW.alike hK, hD9⟩, hS.F ht⟩) hS.2.2 dX8_row_33
  · refine lv_iload_n hx hb dX8_row_23 rfl (lv_at hl 2 rfl) ?_
    refine lv_iconst (v := 0) hx hb dX8_row_24 (by decide) ?_
    refine lv_iconst (v := 2) hx hb dX8_row_25 (by decide) ?_
    refine zcSi (As := [.int p2, .int 0, .int 2]) (rest := []) (wr := [(y, .inr (8, [.ref yt, .int 0, .int 0, .ref yr, .ref yk, .ref yz, .ref yp, .int 0, .int 0, .int 0, .int 0, .ref yl, .ref yw, .int 0, .int 0, .int 0, .int 0, .int 0, .int 0, .int 0, .int 0, .int (-1), .ref yd, .int 0, .ref ys, .ref yn, .ref ym, .int 0, .ref yf, .ref yo, .ref yh, .ref yb, .int 0, .int 0, .int 0, .int 0, .int 0, .int 0, .int 0, .ref yx, .int 0, .int 0, .int 0])), (yr, .inl (cI, 4668, .inl (jn [0, 4, 0, 0, 0, 0, 0, 0, 0, 0, 0, 0, 0, 0, 0, 0, 0, (-1), 0, 0, 0, 0, 0, 0] R0)))]) ⟨hx, hb, hml, hown, hts⟩ (kkX8_isIn l dC dI cI cB cZ cR H.size p2 0 2 ) (va_cwS 3 hts (zgS wm_191 wm_192 wm_5 wm_193) rfl rfl rfl (by decide +kernel) ⟨Nat.le_of_ble_eq_true rfl, Nat.le_of_ble_eq_true rfl⟩) hN hK hP hD hS hA [] [0, 1] rfl rfl ⟨rfl, rfl⟩ (by decide) rfl hl.1 rfl (Nat.le_of_ble_eq_true rfl) dX8_row_26 ⟨Nat.le_of_ble_eq_true rfl, Nat.le_of_ble_eq_true rfl⟩ (fun r u hu H locs hP hD hS => ?_)
    have hu : r = (pfX8_isIn_r p2 0 2) := hu
    subst hu
    have hP : va_P (dC, dI) vwCl [(y, .inr (8, [.ref yt, .int 0, .int 0, .ref yr, .ref yk, .ref yz, .ref yp, .int 0, .int 0, .int 0, .int 0, .ref yl, .ref yw, .int 0, .int 0, .int 0, .int 0, .int 0, .int 0, .int 0, .int 0, .int (-1), .ref yd, .int 0, .ref ys, .ref yn, .ref ym, .int 0, .ref yf, .ref yo, .ref yh, .ref yb, .int 0, .int 0, .int 0, .int 0, .int 0, .int 0, .int 0, .ref yx, .int 0, .int 0, .int 0])), (yr, .inl (cI, 4668, .inl (jn [0, 4, 0, 0, 0, 0, 0, 0, 0, 0, 0, 0, 0, 0, 0, 0, 0, (-1), 0, 0, 0, 0, 0, 0] R0)))] H := hP
    have hD : va_D A [(y, .inr (8, [.ref yt, .int 0, .int 0, .ref yr, .ref yk, .ref yz, .ref yp, .int 0, .int 0, .int 0, .int 0, .ref yl, .ref yw, .int 0, .int 0, .int 0, .int 0, .int 0, .int 0, .int 0, .int 0, .int (-1), .ref yd, .int 0, .ref ys, .ref yn, .ref ym, .int 0, .ref yf, .ref yo, .ref yh, .ref yb, .int 0, .int 0, .int 0, .int 0, .int 0, .int 0, .int 0, .ref yx, .int 0, .int 0, .int 0])), (yr, .inl (cI, 4668, .inl (jn [0, 4, 0, 0, 0, 0, 0, 0, 0, 0, 0, 0, 0, 0, 0, 0, 0, (-1), 0, 0, 0, 0, 0, 0] R0)))] := hD
    refine lv_if_ne (tgt := 34) hx hb dX8_row_29 (by decide) (fun c_2 => ?_) (fun c_2 => ?_)
    · refine lv_aload_n hx hb dX8_row_34 rfl (lv_at hl 0 rfl) ?_
      refine va_get (D := (dC, dI)) (ci := 8) (v := .ref yr) (C := RX8) (T := TX8) (N := 43) hx hb hts hinX8 hown hK hP 0 rfl rfl 3 (by decide) k_0 (fun _ h9 => h9) rfl dX8_row_35 ?_
      refine lv_iload_n hx hb dX8_row_38 rfl (lv_at hl 2 rfl) ?_
      refine lv_if_ne (tgt := 48) hx hb dX8_row_39 (by decide) (fun c_3 => ?_) (fun c_3 => ?_)
      · refine lv_iload_n hx hb dX8_row_48 rfl (lv_at hl 2 rfl) ?_
        refine lv_iconst (v := 1) hx hb dX8_row_49 (by decide) ?_
        refine lv_icmp_ne (tgt := 59) hx hb dX8_row_50 (by decide) (fun c_4 => ?_) (fun c_4 => ?_)
        · refine lv_sipush (v := 160) hx hb dX8_row_59 (by decide) ?_
          refine lv_iload_n hx hb dX8_row_62 rfl (lv_at hl 1 rfl) ?_
          refine lv_iadd hx hb dX8_row_63 ?_
          refine za_iald (v := (-1)) hx hb hK hP 1 0 rfl rfl (row_in (n := 160) (by decide) (by decide) c_1) (row_rd (n := 160) (by decide) (by decide) (by decide) c_1) dX8_row_64 ?_
          have hP9 := hP.sub (ws' := [(y, .inr (8, [.ref yt, .int 0, .int 0, .ref yr, .ref yk, .ref yz, .ref yp, .int 0, .int 0, .int 0, .int 0, .ref yl, .ref yw, .int 0, .int 0, .int 0, .int 0, .int 0, .int 0, .int 0, .int 0, .int (-1), .ref yd, .int 0, .ref ys, .ref yn, .ref ym, .int 0, .ref yf, .ref yo, .ref yh, .ref yb, .int 0, .int 0, .int 0, .int 0, .int 0, .int 0, .int 0, .ref yx, .int 0, .int 0, .int 0])), (yr, .inl (cI, 4668, .inl (jn [0, 4, 0, 0, 0, 0, 0, 0, 0, 0, 0, 0, 0, 0, 0, 0, 0, (-1), 0, 0, 0, 0, 0, 0] R0)))]) [0, 1] rfl
          have hD9 := hD.sub (ws' := [(y, .inr (8, [.ref yt, .int 0, .int 0, .ref yr, .ref yk, .ref yz, .ref yp, .int 0, .int 0, .int 0, .int 0, .ref yl, .ref yw, .int 0, .int 0, .int 0, .int 0, .int 0, .int 0, .int 0, .int 0, .int (-1), .ref yd, .int 0, .ref ys, .ref yn, .ref ym, .int 0, .ref yf, .ref yo, .ref yh, .ref yb, .int 0, .int 0, .int 0, .int 0, .int 0, .int 0, .int 0, .ref yx, .int 0, .int 0, .int 0])), (yr, .inl (cI, 4668, .inl (jn [0, 4, 0, 0, 0, 0, 0, 0, 0, 0, 0, 0, 0, 0, 0, 0, 0, (-1), 0, 0, 0, 0, 0, 0] R0)))]) [0, 1] (by decide) rfl
          exact W.iret (v := (-1)) hx hb hr (fun t ht hW => ⟨⟨(-1), (), rfl, rfl, by rw [ht]; exact hP9, va_K.moved hW.alike hK, hD9⟩, hS.F ht⟩) hS.2.2 dX8_row_65
        · refine lv_sipush (v := 152) hx hb dX8_row_53 (by decide) ?_
          refine lv_goto (tgt := 62) hx hb dX8_row_56 (by decide) ?_
          refine lv_iload_n hx hb dX8_row_62 rfl (lv_at hl 1 rfl) ?_
          refine lv_iadd hx hb dX8_row_63 ?_
          refine za_iald (v := (-1)) hx hb hK hP 1 0 rfl rfl (row_in (n := 152) (by decide) (by decide) c_1) (row_rd (n := 152) (by decide) (by decide) (by decide) c_1) dX8_row_64 ?_
          have hP9 := hP.sub (ws' := [(y, .inr (8, [.ref yt, .int 0, .int 0, .ref yr, .ref yk, .ref yz, .ref yp, .int 0, .int 0, .int 0, .int 0, .ref yl, .ref yw, .int 0, .int 0, .int 0, .int 0, .int 0, .int 0, .int 0, .int 0, .int (-1), .ref yd, .int 0, .ref ys, .ref yn, .ref ym, .int 0, .ref yf, .ref yo, .ref yh, .ref yb, .int 0, .int 0, .int 0, .int 0, .int 0, .int 0, .int 0, .ref yx, .int 0, .int 0, .int 0])), (yr, .inl (cI, 4668, .inl (jn [0, 4, 0, 0, 0, 0, 0, 0, 0, 0, 0, 0, 0, 0, 0, 0, 0, (-1), 0, 0, 0, 0, 0, 0] R0)))]) [0, 1] rfl
          have hD9 := hD.sub (ws' := [(y, .inr (8, [.ref yt, .int 0, .int 0, .ref yr, .ref yk, .ref yz, .ref yp, .int 0, .int 0, .int 0, .int 0, .ref yl, .ref yw, .int 0, .int 0, .int 0, .int 0, .int 0, .int 0, .int 0, .int 0, .int (-1), .ref yd, .int 0, .ref ys, .ref yn, .ref ym, .int 0, .ref yf, .ref yo, .ref yh, .ref yb, .int 0, .int 0, .int 0, .int 0, .int 0, .int 0, .int 0, .ref yx, .int 0, .int 0, .int 0])), (yr, .inl (cI, 4668, .inl (jn [0, 4, 0, 0, 0, 0, 0, 0, 0, 0, 0, 0, 0, 0, 0, 0, 0, (-1), 0, 0, 0, 0, 0, 0] R0)))]) [0, 1] (by decide) rfl
          exact W.iret (v := (-1)) hx hb hr (fun t ht hW => ⟨⟨(-1), (), rfl, rfl, by rw [ht]; exact hP9, va_K.moved hW.alike hK, hD9⟩, hS.F ht⟩) hS.2.2 dX8_row_65
      · refine lv_sipush (v := 144) hx hb dX8_row_42 (by decide) ?_
        refine lv_goto (tgt := 62) hx hb dX8_row_45 (by decide) ?_
        refine lv_iload_n hx hb dX8_row_62 rfl (lv_at hl 1 rfl) ?_
        refine lv_iadd hx hb dX8_row_63 ?_
        refine za_iald (v := (-1)) hx hb hK hP 1 0 rfl rfl (row_in (n := 144) (by decide) (by decide) c_1) (row_rd (n := 144) (by decide) (by decide) (by decide) c_1) dX8_row_64 ?_
        have hP9 := hP.sub (ws' := [(y, .inr (8, [.ref yt, .int 0, .int 0, .ref yr, .ref yk, .ref yz, .ref yp, .int 0, .int 0, .int 0, .int 0, .ref yl, .ref yw, .int 0, .int 0, .int 0, .int 0, .int 0, .int 0, .int 0, .int 0, .int (-1), .ref yd, .int 0, .ref ys, .ref yn, .ref ym, .int 0, .ref yf, .ref yo, .ref yh, .ref yb, .int 0, .int 0, .int 0, .int 0, .int 0, .int 0, .int 0, .ref yx, .int 0, .int 0, .int 0])), (yr, .inl (cI, 4668, .inl (jn [0, 4, 0, 0, 0, 0, 0, 0, 0, 0, 0, 0, 0, 0, 0, 0, 0, (-1), 0, 0, 0, 0, 0, 0] R0)))]) [0, 1] rfl
        have hD9 := hD.sub (ws' := [(y, .inr (8, [.ref yt, .int 0, .int 0, .ref yr, .ref yk, .ref yz, .ref yp, .int 0, .int 0, .int 0, .int 0, .ref yl, .ref yw, .int 0, .int 0, .int 0, .int 0, .int 0, .int 0, .int 0, .int 0, .int (-1), .ref yd, .int 0, .ref ys, .ref yn, .ref ym, .int 0, .ref yf, .ref yo, .ref yh, .ref yb, .int 0, .int 0, .int 0, .int 0, .int 0, .int 0, .int 0, .ref yx, .int 0, .int 0, .int 0])), (yr, .inl (cI, 4668, .inl (jn [0, 4, 0, 0, 0, 0, 0, 0, 0, 0, 0, 0, 0, 0, 0, 0, 0, (-1), 0, 0, 0, 0, 0, 0] R0)))]) [0, 1] (by decide) rfl
        exact W.iret (v := (-1)) hx hb hr (fun t ht hW => ⟨⟨(-1), (), rfl, rfl, by rw [ht]; exact hP9, va_K.moved hW.alike hK, hD9⟩, hS.F ht⟩) hS.2.2 dX8_row_65
    · refine lv_iconst (v := (-1)) hx hb dX8_row_32 (by decide) ?_
      have hP9 := hP.sub (ws' := [(y, .inr (8, [.ref yt, .int 0, .int 0, .ref yr, .ref yk, .ref yz, .ref yp, .int 0, .int 0, .int 0, .int 0, .ref yl, .ref yw, .int 0, .int 0, .int 0, .int 0, .int 0, .int 0, .int 0, .int 0, .int (-1), .ref yd, .int 0, .ref ys, .ref yn, .ref ym, .int 0, .ref yf, .ref yo, .ref yh, .ref yb, .int 0, .int 0, .int 0, .int 0, .int 0, .int 0, .int 0, .ref yx, .int 0, .int 0, .int 0])), (yr, .inl (cI, 4668, .inl (jn [0, 4, 0, 0, 0, 0, 0, 0, 0, 0, 0, 0, 0, 0, 0, 0, 0, (-1), 0, 0, 0, 0, 0, 0] R0)))]) [0, 1] rfl
      have hD9 := hD.sub (ws' := [(y, .inr (8, [.ref yt, .int 0, .int 0, .ref yr, .ref yk, .ref yz, .ref yp, .int 0, .int 0, .int 0, .int 0, .ref yl, .ref yw, .int 0, .int 0, .int 0, .int 0, .int 0, .int 0, .int 0, .int 0, .int (-1), .ref yd, .int 0, .ref ys, .ref yn, .ref ym, .int 0, .ref yf, .ref yo, .ref yh, .ref yb, .int 0, .int 0, .int 0, .int 0, .int 0, .int 0, .int 0, .ref yx, .int 0, .int 0, .int 0])), (yr, .inl (cI, 4668, .inl (jn [0, 4, 0, 0, 0, 0, 0, 0, 0, 0, 0, 0, 0, 0, 0, 0, 0, (-1), 0, 0, 0, 0, 0, 0] R0)))]) [0, 1] (by decide) rfl
      exact W.iret (v := (-1)) hx hb hr (fun t ht hW => ⟨⟨(-1), (), rfl, rfl, by rw [ht]; exact hP9, va_K.moved hW.alike hK, hD9⟩, hS.F ht⟩) hS.2.2 dX8_row_33

set_option maxHeartbeats 4000000 in
set_option maxRecDepth 100000 in
theorem kkX8_buffer (l : Launch) (dC : Nat → ClassId) (dI : Nat → Nat → Nat) (cI cB cZ cR : ClassId) (sz : Nat) (y : Nat) (yt : Nat) (yr : Nat) (yk : Nat) (yz : Nat) (yp : Nat) (yl : Nat) (yw : Nat) (yd : Nat) (ys : Nat) (yn : Nat) (ym : Nat) (yf : Nat) (yo : Nat) (yh : Nat) (yb : Nat) (yx : Nat) (p1 : Int32) (p2 : Int32) : Met l yX8_buffer (.code yX8_buffer cX8_buffer 3 (some .int) :: wsL_law) ({ frames := 2, cells := 0, slots := 0, locals := 43 }) (zPc dC dI (zT cI cB cZ cR) [.ref y, .int p1, .int p2] sz [(y, .inr (8, [.ref yt, .int 0, .int 0, .ref yr, .ref yk, .ref yz, .ref yp, .int 0, .int 0, .int 0, .int 0, .ref yl, .ref yw, .int 0, .int 0, .int 0, .int 0, .int 0, .int 0, .int 0, .int 0, .int (-1), .ref yd, .int 0, .ref ys, .ref yn, .ref ym, .int 0, .ref yf, .ref yo, .ref yh, .ref yb, .int 0, .int 0, .int 0, .int 0, .int 0, .int 0, .int 0, .ref yx, .int 0, .int 0, .int 0])), (yr, .inl (cI, 4668, .inl (jn [0, 4, 0, 0, 0, 0, 0, 0, 0, 0, 0, 0, 0, 0, 0, 0, 0, (-1), 0, 0, 0, 0, 0, 0] R0)))]) (va_Qi (fun (r : Int32) (_ : Unit) => r = (-1)) (fun _ : Unit => zB dC dI (zT cI cB cZ cR) (va_A [(y, .inr (8, [.ref yt, .int 0, .int 0, .ref yr, .ref yk, .ref yz, .ref yp, .int 0, .int 0, .int 0, .int 0, .ref yl, .ref yw, .int 0, .int 0, .int 0, .int 0, .int 0, .int 0, .int 0, .int 0, .int (-1), .ref yd, .int 0, .ref ys, .ref yn, .ref ym, .int 0, .ref yf, .ref yo, .ref yh, .ref yb, .int 0, .int 0, .int 0, .int 0, .int 0, .int 0, .int 0, .ref yx, .int 0, .int 0, .int 0])), (yr, .inl (cI, 4668, .inl (jn [0, 4, 0, 0, 0, 0, 0, 0, 0, 0, 0, 0, 0, 0, 0, 0, 0, (-1), 0, 0, 0, 0, 0, 0] R0)))] sz) [(y, .inr (8, [.ref yt, .int 0, .int 0, .ref yr, .ref yk, .ref yz, .ref yp, .int 0, .int 0, .int 0, .int 0, .ref yl, .ref yw, .int 0, .int 0, .int 0, .int 0, .int 0, .int 0, .int 0, .int 0, .int (-1), .ref yd, .int 0, .ref ys, .ref yn, .ref ym, .int 0, .ref yf, .ref yo, .ref yh, .ref yb, .int 0, .int 0, .int 0, .int 0, .int 0, .int 0, .int 0, .ref yx, .int 0, .int 0, .int 0])), (yr, .inl (cI, 4668, .inl (jn [0, 4, 0, 0, 0, 0, 0, 0, 0, 0, 0, 0, 0, 0, 0, 0, 0, (-1), 0, 0, 0, 0, 0, 0] R0)))]) (va_A [(y, .inr (8, [.ref yt, .int 0, .int 0, .ref yr, .ref yk, .ref yz, .ref yp, .int 0, .int 0, .int 0, .int 0, .ref yl, .ref yw, .int 0, .int 0, .int 0, .int 0, .int 0, .int 0, .int 0, .int 0, .int (-1), .ref yd, .int 0, .ref ys, .ref yn, .ref ym, .int 0, .ref yf, .ref yo, .ref yh, .ref yb, .int 0, .int 0, .int 0, .int 0, .int 0, .int 0, .int 0, .ref yx, .int 0, .int 0, .int 0])), (yr, .inl (cI, 4668, .inl (jn [0, 4, 0, 0, 0, 0, 0, 0, 0, 0, 0, 0, 0, 0, 0, 0, 0, (-1), 0, 0, 0, 0, 0, 0] R0)))] sz)) 0 0 (va_A [(y, .inr (8, [.ref yt, .int 0, .int 0, .ref yr, .ref yk, .ref yz, .ref yp, .int 0, .int 0, .int 0, .int 0, .ref yl, .ref yw, .int 0, .int 0, .int 0, .int 0, .int 0, .int 0, .int 0, .int 0, .int (-1), .ref yd, .int 0, .ref ys, .ref yn, .ref ym, .int 0, .ref yf, .ref yo, .ref yh, .ref yb, .int 0, .int 0, .int 0, .int 0, .int 0, .int 0, .int 0, .ref yx, .int 0, .int 0, .int 0])), (yr, .inl (cI, 4668, .inl (jn [0, 4, 0, 0, 0, 0, 0, 0, 0, 0, 0, 0, 0, 0, 0, 0, 0, (-1), 0, 0, 0, 0, 0, 0] R0)))] sz) := by
  refine Met.ofW (cc := cX8_buffer) (maxL := 3) (ret := (some .int)) (by decide) rfl ?_
  intro p e s m args below meth c s₁ B hml hv
  obtain ⟨rfl, hsz, hP, hK, hD0, hN⟩ := hv
  have hx := B.exec
  have hb := B.bytes
  have hr := B.returns
  have hts := atoms_spec (ws := (.code yX8_buffer cX8_buffer 3 (some .int) :: wsL_law)) B.pre
  have hown : s.vm.findClass RX8 = some m.cls := findClass_of_methodNamed B.named
  have hlocks := B.notSynchronized
  subst hsz
  have hD := hD0.self (sz := s.heap.size)
  generalize hAe : va_A [(y, .inr (8, [.ref yt, .int 0, .int 0, .ref yr, .ref yk, .ref yz, .ref yp, .int 0, .int 0, .int 0, .int 0, .ref yl, .ref yw, .int 0, .int 0, .int 0, .int 0, .int 0, .int 0, .int 0, .int 0, .int (-1), .ref yd, .int 0, .ref ys, .ref yn, .ref ym, .int 0, .ref yf, .ref yo, .ref yh, .ref yb, .int 0, .int 0, .int 0, .int 0, .int 0, .int 0, .int 0, .ref yx, .int 0, .int 0, .int 0])), (yr, .inl (cI, 4668, .inl (jn [0, 4, 0, 0, 0, 0, 0, 0, 0, 0, 0, 0, 0, 0, 0, 0, 0, (-1), 0, 0, 0, 0, 0, 0] R0)))] s.heap.size = A at hD ⊢
  have hA : ∀ q : Nat, s.heap.size ≤ q → A q := fun q h => by rw [← hAe]; exact Or.inr h
  have hP : va_P (dC, dI) vwCl [(y, .inr (8, [.ref yt, .int 0, .int 0, .ref yr, .ref yk, .ref yz, .ref yp, .int 0, .int 0, .int 0, .int 0, .ref yl, .ref yw, .int 0, .int 0, .int 0, .int 0, .int 0, .int 0, .int 0, .int 0, .int (-1), .ref yd, .int 0, .ref ys, .ref yn, .ref ym, .int 0, .ref yf, .ref yo, .ref yh, .ref yb, .int 0, .int 0, .int 0, .int 0, .int 0, .int 0, .int 0, .ref yx, .int 0, .int 0, .int 0])), (yr, .inl (cI, 4668, .inl (jn [0, 4, 0, 0, 0, 0, 0, 0, 0, 0, 0, 0, 0, 0, 0, 0, 0, (-1), 0, 0, 0, 0, 0, 0] R0)))] s.heap := hP
  have hl := lv_entry ([.ref y, .int p1, .int p2]) (n := 3) (Nat.le_of_ble_eq_true rfl)
  rw [lg_entry_eq]
  generalize (lg_sl ([.ref y, .int p1, .int p2]) ++ List.replicate (3 - (lg_sl ([.ref y, .int p1, .int p2])).length) Slot.unset).toArray = ls at hl ⊢
  have hl : lv_has ls 3 [(0, .ref y), (1, .int p1), (2, .int p2)] := hl
  obtain ⟨H, hH⟩ : ∃ H, H = s.heap := ⟨_, rfl⟩
  rw [← hH] at hP ⊢
  have hS : va_S A s.heap H [] := by rw [hH]; exact va_S.rf
  refine lv_aload_n hx hb dX8_buffer_0 rfl (lv_at hl 0 rfl) ?_
  refine lv_iload_n hx hb dX8_buffer_1 rfl (lv_at hl 1 rfl) ?_
  refine zcVi (As := [.int p1]) (rest := []) (wr := []) ⟨hx, hb, hml, hown, hts⟩ (kkX8_isBuffer_0 l dC dI cI cB cZ cR H.size y yt yr yk yz yp yl yw yd ys yn ym yf yo yh yb yx p1 ) (cwV 1 hts (zgV wm_576 wm_577 wm_578 wm_5 wm_579) rfl rfl rfl (by decide +kernel) ⟨Nat.le_of_ble_eq_true rfl, Nat.le_of_ble_eq_true rfl⟩) hN hK hP hD hS hA [0, 1] [] rfl rfl ⟨rfl, rfl⟩ (by decide) (ci := 8) rfl rfl rfl rfl hl.1 rfl (Nat.le_of_ble_eq_true rfl) dX8_buffer_2 ⟨Nat.le_of_ble_eq_true rfl, Nat.le_of_ble_eq_true rfl⟩ (fun r u hu H locs hP hD hS => ?_)
  have hu : r = 0 := hu
  subst hu
  have hP : va_P (dC, dI) vwCl [(y, .inr (8, [.ref yt, .int 0, .int 0, .ref yr, .ref yk, .ref yz, .ref yp, .int 0, .int 0, .int 0, .int 0, .ref yl, .ref yw, .int 0, .int 0, .int 0, .int 0, .int 0, .int 0, .int 0, .int 0, .int (-1), .ref yd, .int 0, .ref ys, .ref yn, .ref ym, .int 0, .ref yf, .ref yo, .ref yh, .ref yb, .int 0, .int 0, .int 0, .int 0, .int 0, .int 0, .int 0, .ref yx, .int 0, .int 0, .int 0])), (yr, .inl (cI, 4668, .inl (jn [0, 4, 0, 0, 0, 0, 0, 0, 0, 0, 0, 0, 0, 0, 0, 0, 0, (-1), 0, 0, 0, 0, 0, 0] R0)))] H := hP
  have hD : va_D A [(y, .inr (8, [.ref yt, .int 0, .int 0, .ref yr, .ref yk, .ref yz, .ref yp, .int 0, .int 0, .int 0, .int 0, .ref yl, .ref yw, .int 0, .int 0, .int 0, .int 0, .int 0, .int 0, .int 0, .int 0, .int (-1), .ref yd, .int 0, .ref ys, .ref yn, .ref ym, .int 0, .ref yf, .ref yo, .ref yh, .ref yb, .int 0, .int 0, .int 0, .int 0, .int 0, .int 0, .int 0, .ref yx, .int 0, .int 0, .int 0])), (yr, .inl (cI, 4668, .inl (jn [0, 4, 0, 0, 0, 0, 0, 0, 0, 0, 0, 0, 0, 0, 0, 0, 0, (-1), 0, 0, 0, 0, 0, 0] R0)))] := hD
  refine lv_if_eq (tgt := 31) hx hb dX8_buffer_5 (by decide) (fun _ => ?_) (fun c => absurd (by decide) c)
  refine lv_iconst (v := (-1)) hx hb dX8_buffer_31 (by decide) ?_
  have hP9 := hP.sub (ws' := [(y, .inr (8, [.ref yt, .int 0, .int 0, .ref yr, .ref yk, .ref yz, .ref yp, .int 0, .int 0, .int 0, .int 0, .ref yl, .ref yw, .int 0, .int 0, .int 0, .int 0, .int 0, .int 0, .int 0, .int 0, .int (-1), .ref yd, .int 0, .ref ys, .ref yn, .ref ym, .int 0, .ref yf, .ref yo, .ref yh, .ref yb, .int 0, .int 0, .int 0, .int 0, .int 0, .int 0, .int 0, .ref yx, .int 0, .int 0, .int 0])), (yr, .inl (cI, 4668, .inl (jn [0, 4, 0, 0, 0, 0, 0, 0, 0, 0, 0, 0, 0, 0, 0, 0, 0, (-1), 0, 0, 0, 0, 0, 0] R0)))]) [0, 1] rfl
  have hD9 := hD.sub (ws' := [(y, .inr (8, [.ref yt, .int 0, .int 0, .ref yr, .ref yk, .ref yz, .ref yp, .int 0, .int 0, .int 0, .int 0, .ref yl, .ref yw, .int 0, .int 0, .int 0, .int 0, .int 0, .int 0, .int 0, .int 0, .int (-1), .ref yd, .int 0, .ref ys, .ref yn, .ref ym, .int 0, .ref yf, .ref yo, .ref yh, .ref yb, .int 0, .int 0, .int 0, .int 0, .int 0, .int 0, .int 0, .ref yx, .int 0, .int 0, .int 0])), (yr, .inl (cI, 4668, .inl (jn [0, 4, 0, 0, 0, 0, 0, 0, 0, 0, 0, 0, 0, 0, 0, 0, 0, (-1), 0, 0, 0, 0, 0, 0] R0)))]) [0, 1] (by decide) rfl
  exact W.iret (v := (-1)) hx hb hr (fun t ht hW => ⟨⟨(-1), (), rfl, rfl, by rw [ht]; exact hP9, va_K.moved hW.alike hK, hD9⟩, hS.F ht⟩) hS.2.2 dX8_buffer_32

set_option maxHeartbeats 4000000 in
set_option maxRecDepth 100000 in
theorem kkX8_freePlaces (l : Launch) (dC : Nat → ClassId) (dI : Nat → Nat → Nat) (cI cB cZ cR : ClassId) (sz : Nat) (y : Nat) (yt : Nat) (yr : Nat) (yk : Nat) (yz : Nat) (yp : Nat) (yl : Nat) (yw : Nat) (yd : Nat) (ys : Nat) (yn : Nat) (ym : Nat) (yf : Nat) (yo : Nat) (yh : Nat) (yb : Nat) (yx : Nat) : Met l yX8_freePlaces (.code yX8_freePlaces cX8_freePlaces 3 (some .int) :: wsL_law) ({ frames := 0, cells := 0, slots := 0, locals := 0 }) (zPc dC dI (zT cI cB cZ cR) [.ref y] sz [(y, .inr (8, [.ref yt, .int 0, .int 0, .ref yr, .ref yk, .ref yz, .ref yp, .int 0, .int 0, .int 0, .int 0, .ref yl, .ref yw, .int 0, .int 0, .int 0, .int 0, .int 0, .int 0, .int 0, .int 0, .int (-1), .ref yd, .int 0, .ref ys, .ref yn, .ref ym, .int 0, .ref yf, .ref yo, .ref yh, .ref yb, .int 0, .int 0, .int 0, .int 0, .int 0, .int 0, .int 0, .ref yx, .int 0, .int 0, .int 0])), (yr, .inl (cI, 4668, .inl (jn [0, 4, 0, 0, 0, 0, 0, 0, 0, 0, 0, 0, 0, 0, 0, 0, 0, (-1), 0, 0, 0, 0, 0, 0] R0)))]) (va_Qi (fun (r : Int32) (_ : Unit) => r = 4) (fun _ : Unit => zB dC dI (zT cI cB cZ cR) (va_A [(y, .inr (8, [.ref yt, .int 0, .int 0, .ref yr, .ref yk, .ref yz, .ref yp, .int 0, .int 0, .int 0, .int 0, .ref yl, .ref yw, .int 0, .int 0, .int 0, .int 0, .int 0, .int 0, .int 0, .int 0, .int (-1), .ref yd, .int 0, .ref ys, .ref yn, .ref ym, .int 0, .ref yf, .ref yo, .ref yh, .ref yb, .int 0, .int 0, .int 0, .int 0, .int 0, .int 0, .int 0, .ref yx, .int 0, .int 0, .int 0])), (yr, .inl (cI, 4668, .inl (jn [0, 4, 0, 0, 0, 0, 0, 0, 0, 0, 0, 0, 0, 0, 0, 0, 0, (-1), 0, 0, 0, 0, 0, 0] R0)))] sz) [(y, .inr (8, [.ref yt, .int 0, .int 0, .ref yr, .ref yk, .ref yz, .ref yp, .int 0, .int 0, .int 0, .int 0, .ref yl, .ref yw, .int 0, .int 0, .int 0, .int 0, .int 0, .int 0, .int 0, .int 0, .int (-1), .ref yd, .int 0, .ref ys, .ref yn, .ref ym, .int 0, .ref yf, .ref yo, .ref yh, .ref yb, .int 0, .int 0, .int 0, .int 0, .int 0, .int 0, .int 0, .ref yx, .int 0, .int 0, .int 0])), (yr, .inl (cI, 4668, .inl (jn [0, 4, 0, 0, 0, 0, 0, 0, 0, 0, 0, 0, 0, 0, 0, 0, 0, (-1), 0, 0, 0, 0, 0, 0] R0)))]) (va_A [(y, .inr (8, [.ref yt, .int 0, .int 0, .ref yr, .ref yk, .ref yz, .ref yp, .int 0, .int 0, .int 0, .int 0, .ref yl, .ref yw, .int 0, .int 0, .int 0, .int 0, .int 0, .int 0, .int 0, .int 0, .int (-1), .ref yd, .int 0, .ref ys, .ref yn, .ref ym, .int 0, .ref yf, .ref yo, .ref yh, .ref yb, .int 0, .int 0, .int 0, .int 0, .int 0, .int 0, .int 0, .ref yx, .int 0, .int 0, .int 0])), (yr, .inl (cI, 4668, .inl (jn [0, 4, 0, 0, 0, 0, 0, 0, 0, 0, 0, 0, 0, 0, 0, 0, 0, (-1), 0, 0, 0, 0, 0, 0] R0)))] sz)) 0 0 (va_A [(y, .inr (8, [.ref yt, .int 0, .int 0, .ref yr, .ref yk, .ref yz, .ref yp, .int 0, .int 0, .int 0, .int 0, .ref yl, .ref yw, .int 0, .int 0, .int 0, .int 0, .int 0, .int 0, .int 0, .int 0, .int (-1), .ref yd, .int 0, .ref ys, .ref yn, .ref ym, .int 0, .ref yf, .ref yo, .ref yh, .ref yb, .int 0, .int 0, .int 0, .int 0, .int 0, .int 0, .int 0, .ref yx, .int 0, .int 0, .int 0])), (yr, .inl (cI, 4668, .inl (jn [0, 4, 0, 0, 0, 0, 0, 0, 0, 0, 0, 0, 0, 0, 0, 0, 0, (-1), 0, 0, 0, 0, 0, 0] R0)))] sz) := by
  refine Met.ofW (cc := cX8_freePlaces) (maxL := 3) (ret := (some .int)) (by decide) rfl ?_
  intro p e s m args below meth c s₁ B hml hv
  obtain ⟨rfl, hsz, hP, hK, hD0, hN⟩ := hv
  have hx := B.exec
  have hb := B.bytes
  have hr := B.returns
  have hts := atoms_spec (ws := (.code yX8_freePlaces cX8_freePlaces 3 (some .int) :: wsL_law)) B.pre
  have hown : s.vm.findClass RX8 = some m.cls := findClass_of_methodNamed B.named
  have hlocks := B.notSynchronized
  have hinX8 : ∀ w ∈ u_ws RX8 TX8 43, w ∈ (.code yX8_freePlaces cX8_freePlaces 3 (some .int) :: wsL_law) := fun w h => List.mem_cons_of_mem _ (inlX8 w h)
  have k_0 := hts (.fieldLink RX8 13 "RingMarksModel" "\x72" "[I") (List.mem_cons_of_mem _ wm_128)
  subst hsz
  have hD := hD0.self (sz := s.heap.size)
  generalize hAe : va_A [(y, .inr (8, [.ref yt, .int 0, .int 0, .ref yr, .ref yk, .ref yz, .ref yp, .int 0, .int 0, .int 0, .int 0, .ref yl, .ref yw, .int 0, .int 0, .int 0, .int 0, .int 0, .int 0, .int 0, .int 0, .int (-1), .ref yd, .int 0, .ref ys, .ref yn, .ref ym, .int 0, .ref yf, .ref yo, .ref yh, .ref yb, .int 0, .int 0, .int 0, .int 0, .int 0, .int 0, .int 0, .ref yx, .int 0, .int 0, .int 0])), (yr, .inl (cI, 4668, .inl (jn [0, 4, 0, 0, 0, 0, 0, 0, 0, 0, 0, 0, 0, 0, 0, 0, 0, (-1), 0, 0, 0, 0, 0, 0] R0)))] s.heap.size = A at hD ⊢
  have hA : ∀ q : Nat, s.heap.size ≤ q → A q := fun q h => by rw [← hAe]; exact Or.inr h
  have hP : va_P (dC, dI) vwCl [(y, .inr (8, [.ref yt, .int 0, .int 0, .ref yr, .ref yk, .ref yz, .ref yp, .int 0, .int 0, .int 0, .int 0, .ref yl, .ref yw, .int 0, .int 0, .int 0, .int 0, .int 0, .int 0, .int 0, .int 0, .int (-1), .ref yd, .int 0, .ref ys, .ref yn, .ref ym, .int 0, .ref yf, .ref yo, .ref yh, .ref yb, .int 0, .int 0, .int 0, .int 0, .int 0, .int 0, .int 0, .ref yx, .int 0, .int 0, .int 0])), (yr, .inl (cI, 4668, .inl (jn [0, 4, 0, 0, 0, 0, 0, 0, 0, 0, 0, 0, 0, 0, 0, 0, 0, (-1), 0, 0, 0, 0, 0, 0] R0)))] s.heap := hP
  have hl := lv_entry ([.ref y]) (n := 3) (Nat.le_of_ble_eq_true rfl)
  rw [lg_entry_eq]
  generalize (lg_sl ([.ref y]) ++ List.replicate (3 - (lg_sl ([.ref y])).length) Slot.unset).toArray = ls at hl ⊢
  have hl : lv_has ls 3 [(0, .ref y)] := hl
  obtain ⟨H, hH⟩ : ∃ H, H = s.heap := ⟨_, rfl⟩
  rw [← hH] at hP ⊢
  have hS : va_S A s.heap H [] := by rw [hH]; exact va_S.rf
  refine lv_aload_n hx hb dX8_freePlaces_0 rfl (lv_at hl 0 rfl) ?_
  refine va_get (D := (dC, dI)) (ci := 8) (v := .ref yr) (C := RX8) (T := TX8) (N := 43) hx hb hts hinX8 hown hK hP 0 rfl rfl 3 (by decide) k_0 (fun _ h9 => h9) rfl dX8_freePlaces_1 ?_
  refine lv_iconst (v := 1) hx hb dX8_freePlaces_4 (by decide) ?_
  refine za_iald (v := 4) hx hb hK hP 1 0 rfl rfl (zin tn_1 (Nat.le_of_ble_eq_true rfl)) (zrd _ tn_1 rfl) dX8_freePlaces_5 ?_
  refine lv_istore_n (lv' := [(1, .int 4), (0, .ref y)]) hx hb dX8_freePlaces_6 rfl hl (by decide) rfl (fun ls hl => ?_)
  refine lv_iconst (v := 0) hx hb dX8_freePlaces_7 (by decide) ?_
  refine lv_istore_n (lv' := [(2, .int 0), (1, .int 4), (0, .ref y)]) hx hb dX8_freePlaces_8 rfl hl (by decide) rfl (fun ls hl => ?_)
  refine lv_iload_n hx hb dX8_freePlaces_9 rfl (lv_at hl 0 rfl) ?_
  refine lv_aload_n hx hb dX8_freePlaces_10 rfl (lv_at hl 2 rfl) ?_
  refine va_get (D := (dC, dI)) (ci := 8) (v := .ref yr) (C := RX8) (T := TX8) (N := 43) hx hb hts hinX8 hown hK hP 0 rfl rfl 3 (by decide) k_0 (fun _ h9 => h9) rfl dX8_freePlaces_11 ?_
  refine lv_bipush (v := 16) hx hb dX8_freePlaces_14 (by decide) ?_
  refine za_iald (v := 0) hx hb hK hP 1 0 rfl rfl (zin tn_16 (Nat.le_of_ble_eq_true rfl)) (zrd _ tn_16 rfl) dX8_freePlaces_16 ?_
  refine lv_icmp_ge (tgt := 48) hx hb dX8_freePlaces_17 (by decide) (fun _ => ?_) (fun c => absurd (by decide) c)
  refine lv_iload_n hx hb dX8_freePlaces_48 rfl (lv_at hl 1 rfl) ?_
  have hP9 := hP.sub (ws' := [(y, .inr (8, [.ref yt, .int 0, .int 0, .ref yr, .ref yk, .ref yz, .ref yp, .int 0, .int 0, .int 0, .int 0, .ref yl, .ref yw, .int 0, .int 0, .int 0, .int 0, .int 0, .int 0, .int 0, .int 0, .int (-1), .ref yd, .int 0, .ref ys, .ref yn, .ref ym, .int 0, .ref yf, .ref yo, .ref yh, .ref yb, .int 0, .int 0, .int 0, .int 0, .int 0, .int 0, .int 0, .ref yx, .int 0, .int 0, .int 0])), (yr, .inl (cI, 4668, .inl (jn [0, 4, 0, 0, 0, 0, 0, 0, 0, 0, 0, 0, 0, 0, 0, 0, 0, (-1), 0, 0, 0, 0, 0, 0] R0)))]) [0, 1] rfl
  have hD9 := hD.sub (ws' := [(y, .inr (8, [.ref yt, .int 0, .int 0, .ref yr, .ref yk, .ref yz, .ref yp, .int 0, .int 0, .int 0, .int 0, .ref yl, .ref yw, .int 0, .int 0, .int 0, .int 0, .int 0, .int 0, .int 0, .int 0, .int (-1), .ref yd, .int 0, .ref ys, .ref yn, .ref ym, .int 0, .ref yf, .ref yo, .ref yh, .ref yb, .int 0, .int 0, .int 0, .int 0, .int 0, .int 0, .int 0, .ref yx, .int 0, .int 0, .int 0])), (yr, .inl (cI, 4668, .inl (jn [0, 4, 0, 0, 0, 0, 0, 0, 0, 0, 0, 0, 0, 0, 0, 0, 0, (-1), 0, 0, 0, 0, 0, 0] R0)))]) [0, 1] (by decide) rfl
  exact W.iret (v := 4) hx hb hr (fun t ht hW => ⟨⟨4, (), rfl, rfl, by rw [ht]; exact hP9, va_K.moved hW.alike hK, hD9⟩, hS.F ht⟩) hS.2.2 dX8_freePlaces_49

set_option maxHeartbeats 4000000 in
set_option maxRecDepth 100000 in
theorem kkX8_outMany (l : Launch) (dC : Nat → ClassId) (dI : Nat → Nat → Nat) (cI cB cZ cR : ClassId) (sz : Nat) (y : Nat) (yt : Nat) (yr : Nat) (yk : Nat) (yz : Nat) (yp : Nat) (yl : Nat) (yw : Nat) (yd : Nat) (ys : Nat) (yn : Nat) (ym : Nat) (yf : Nat) (yo : Nat) (yh : Nat) (yb : Nat) (yx : Nat) : Met l yX8_outMany (.code yX8_outMany cX8_outMany 3 (some .int) :: wsL_law) ({ frames := 0, cells := 0, slots := 0, locals := 0 }) (zPc dC dI (zT cI cB cZ cR) [.ref y] sz [(y, .inr (8, [.ref yt, .int 0, .int 0, .ref yr, .ref yk, .ref yz, .ref yp, .int 0, .int 0, .int 0, .int 0, .ref yl, .ref yw, .int 0, .int 0, .int 0, .int 0, .int 0, .int 0, .int 0, .int 0, .int (-1), .ref yd, .int 0, .ref ys, .ref yn, .ref ym, .int 0, .ref yf, .ref yo, .ref yh, .ref yb, .int 0, .int 0, .int 0, .int 0, .int 0, .int 0, .int 0, .ref yx, .int 0, .int 0, .int 0])), (yr, .inl (cI, 4668, .inl (jn [0, 4, 0, 0, 0, 0, 0, 0, 0, 0, 0, 0, 0, 0, 0, 0, 0, (-1), 0, 0, 0, 0, 0, 0] R0)))]) (va_Qi (fun (r : Int32) (_ : Unit) => r = 0) (fun _ : Unit => zB dC dI (zT cI cB cZ cR) (va_A [(y, .inr (8, [.ref yt, .int 0, .int 0, .ref yr, .ref yk, .ref yz, .ref yp, .int 0, .int 0, .int 0, .int 0, .ref yl, .ref yw, .int 0, .int 0, .int 0, .int 0, .int 0, .int 0, .int 0, .int 0, .int (-1), .ref yd, .int 0, .ref ys, .ref yn, .ref ym, .int 0, .ref yf, .ref yo, .ref yh, .ref yb, .int 0, .int 0, .int 0, .int 0, .int 0, .int 0, .int 0, .ref yx, .int 0, .int 0, .int 0])), (yr, .inl (cI, 4668, .inl (jn [0, 4, 0, 0, 0, 0, 0, 0, 0, 0, 0, 0, 0, 0, 0, 0, 0, (-1), 0, 0, 0, 0, 0, 0] R0)))] sz) [(y, .inr (8, [.ref yt, .int 0, .int 0, .ref yr, .ref yk, .ref yz, .ref yp, .int 0, .int 0, .int 0, .int 0, .ref yl, .ref yw, .int 0, .int 0, .int 0, .int 0, .int 0, .int 0, .int 0, .int 0, .int (-1), .ref yd, .int 0, .ref ys, .ref yn, .ref ym, .int 0, .ref yf, .ref yo, .ref yh, .ref yb, .int 0, .int 0, .int 0, .int 0, .int 0, .int 0, .int 0, .ref yx, .int 0, .int 0, .int 0])), (yr, .inl (cI, 4668, .inl (jn [0, 4, 0, 0, 0, 0, 0, 0, 0, 0, 0, 0, 0, 0, 0, 0, 0, (-1), 0, 0, 0, 0, 0, 0] R0)))]) (va_A [(y, .inr (8, [.ref yt, .int 0, .int 0, .ref yr, .ref yk, .ref yz, .ref yp, .int 0, .int 0, .int 0, .int 0, .ref yl, .ref yw, .int 0, .int 0, .int 0, .int 0, .int 0, .int 0, .int 0, .int 0, .int (-1), .ref yd, .int 0, .ref ys, .ref yn, .ref ym, .int 0, .ref yf, .ref yo, .ref yh, .ref yb, .int 0, .int 0, .int 0, .int 0, .int 0, .int 0, .int 0, .ref yx, .int 0, .int 0, .int 0])), (yr, .inl (cI, 4668, .inl (jn [0, 4, 0, 0, 0, 0, 0, 0, 0, 0, 0, 0, 0, 0, 0, 0, 0, (-1), 0, 0, 0, 0, 0, 0] R0)))] sz)) 0 0 (va_A [(y, .inr (8, [.ref yt, .int 0, .int 0, .ref yr, .ref yk, .ref yz, .ref yp, .int 0, .int 0, .int 0, .int 0, .ref yl, .ref yw, .int 0, .int 0, .int 0, .int 0, .int 0, .int 0, .int 0, .int 0, .int (-1), .ref yd, .int 0, .ref ys, .ref yn, .ref ym, .int 0, .ref yf, .ref yo, .ref yh, .ref yb, .int 0, .int 0, .int 0, .int 0, .int 0, .int 0, .int 0, .ref yx, .int 0, .int 0, .int 0])), (yr, .inl (cI, 4668, .inl (jn [0, 4, 0, 0, 0, 0, 0, 0, 0, 0, 0, 0, 0, 0, 0, 0, 0, (-1), 0, 0, 0, 0, 0, 0] R0)))] sz) := by
  refine Met.ofW (cc := cX8_outMany) (maxL := 3) (ret := (some .int)) (by decide) rfl ?_
  intro p e s m args below meth c s₁ B hml hv
  obtain ⟨rfl, hsz, hP, hK, hD0, hN⟩ := hv
  have hx := B.exec
  have hb := B.bytes
  have hr := B.returns
  have hts := atoms_spec (ws := (.code yX8_outMany cX8_outMany 3 (some .int) :: wsL_law)) B.pre
  have hown : s.vm.findClass RX8 = some m.cls := findClass_of_methodNamed B.named
  have hlocks := B.notSynchronized
  have hinX8 : ∀ w ∈ u_ws RX8 TX8 43, w ∈ (.code yX8_outMany cX8_outMany 3 (some .int) :: wsL_law) := fun w h => List.mem_cons_of_mem _ (inlX8 w h)
  have k_0 := hts (.fieldLink RX8 13 "RingMarksModel" "\x72" "[I") (List.mem_cons_of_mem _ wm_128)
  subst hsz
  have hD := hD0.self (sz := s.heap.size)
  generalize hAe : va_A [(y, .inr (8, [.ref yt, .int 0, .int 0, .ref yr, .ref yk, .ref yz, .ref yp, .int 0, .int 0, .int 0, .int 0, .ref yl, .ref yw, .int 0, .int 0, .int 0, .int 0, .int 0, .int 0, .int 0, .int 0, .int (-1), .ref yd, .int 0, .ref ys, .ref yn, .ref ym, .int 0, .ref yf, .ref yo, .ref yh, .ref yb, .int 0, .int 0, .int 0, .int 0, .int 0, .int 0, .int 0, .ref yx, .int 0, .int 0, .int 0])), (yr, .inl (cI, 4668, .inl (jn [0, 4, 0, 0, 0, 0, 0, 0, 0, 0, 0, 0, 0, 0, 0, 0, 0, (-1), 0, 0, 0, 0, 0, 0] R0)))] s.heap.size = A at hD ⊢
  have hA : ∀ q : Nat, s.heap.size ≤ q → A q := fun q h => by rw [← hAe]; exact Or.inr h
  have hP : va_P (dC, dI) vwCl [(y, .inr (8, [.ref yt, .int 0, .int 0, .ref yr, .ref yk, .ref yz, .ref yp, .int 0, .int 0, .int 0, .int 0, .ref yl, .ref yw, .int 0, .int 0, .int 0, .int 0, .int 0, .int 0, .int 0, .int 0, .int (-1), .ref yd, .int 0, .ref ys, .ref yn, .ref ym, .int 0, .ref yf, .ref yo, .ref yh, .ref yb, .int 0, .int 0, .int 0, .int 0, .int 0, .int 0, .int 0, .ref yx, .int 0, .int 0, .int 0])), (yr, .inl (cI, 4668, .inl (jn [0, 4, 0, 0, 0, 0, 0, 0, 0, 0, 0, 0, 0, 0, 0, 0, 0, (-1), 0, 0, 0, 0, 0, 0] R0)))] s.heap := hP
  have hl := lv_entry ([.ref y]) (n := 3) (Nat.le_of_ble_eq_true rfl)
  rw [lg_entry_eq]
  generalize (lg_sl ([.ref y]) ++ List.replicate (3 - (lg_sl ([.ref y])).length) Slot.unset).toArray = ls at hl ⊢
  have hl : lv_has ls 3 [(0, .ref y)] := hl
  obtain ⟨H, hH⟩ : ∃ H, H = s.heap := ⟨_, rfl⟩
  rw [← hH] at hP ⊢
  have hS : va_S A s.heap H [] := by rw [hH]; exact va_S.rf
  refine lv_iconst (v := 0) hx hb dX8_outMany_0 (by decide) ?_
  refine lv_istore_n (lv' := [(1, .int 0), (0, .ref y)]) hx hb dX8_outMany_1 rfl hl (by decide) rfl (fun ls hl => ?_)
  refine lv_iconst (v := 0) hx hb dX8_outMany_2 (by decide) ?_
  refine lv_istore_n (lv' := [(2, .int 0), (1, .int 0), (0, .ref y)]) hx hb dX8_outMany_3 rfl hl (by decide) rfl (fun ls hl => ?_)
  refine lv_iload_n hx hb dX8_outMany_4 rfl (lv_at hl 0 rfl) ?_
  refine lv_aload_n hx hb dX8_outMany_5 rfl (lv_at hl 2 rfl) ?_
  refine va_get (D := (dC, dI)) (ci := 8) (v := .ref yr) (C := RX8) (T := TX8) (N := 43) hx hb hts hinX8 hown hK hP 0 rfl rfl 3 (by decide) k_0 (fun _ h9 => h9) rfl dX8_outMany_6 ?_
  refine lv_bipush (v := 16) hx hb dX8_outMany_9 (by decide) ?_
  refine za_iald (v := 0) hx hb hK hP 1 0 rfl rfl (zin tn_16 (Nat.le_of_ble_eq_true rfl)) (zrd _ tn_16 rfl) dX8_outMany_11 ?_
  refine lv_icmp_ge (tgt := 37) hx hb dX8_outMany_12 (by decide) (fun _ => ?_) (fun c => absurd (by decide) c)
  refine lv_iload_n hx hb dX8_outMany_37 rfl (lv_at hl 1 rfl) ?_
  have hP9 := hP.sub (ws' := [(y, .inr (8, [.ref yt, .int 0, .int 0, .ref yr, .ref yk, .ref yz, .ref yp, .int 0, .int 0, .int 0, .int 0, .ref yl, .ref yw, .int 0, .int 0, .int 0, .int 0, .int 0, .int 0, .int 0, .int 0, .int (-1), .ref yd, .int 0, .ref ys, .ref yn, .ref ym, .int 0, .ref yf, .ref yo, .ref yh, .ref yb, .int 0, .int 0, .int 0, .int 0, .int 0, .int 0, .int 0, .ref yx, .int 0, .int 0, .int 0])), (yr, .inl (cI, 4668, .inl (jn [0, 4, 0, 0, 0, 0, 0, 0, 0, 0, 0, 0, 0, 0, 0, 0, 0, (-1), 0, 0, 0, 0, 0, 0] R0)))]) [0, 1] rfl
  have hD9 := hD.sub (ws' := [(y, .inr (8, [.ref yt, .int 0, .int 0, .ref yr, .ref yk, .ref yz, .ref yp, .int 0, .int 0, .int 0, .int 0, .ref yl, .ref yw, .int 0, .int 0, .int 0, .int 0, .int 0, .int 0, .int 0, .int 0, .int (-1), .ref yd, .int 0, .ref ys, .ref yn, .ref ym, .int 0, .ref yf, .ref yo, .ref yh, .ref yb, .int 0, .int 0, .int 0, .int 0, .int 0, .int 0, .int 0, .ref yx, .int 0, .int 0, .int 0])), (yr, .inl (cI, 4668, .inl (jn [0, 4, 0, 0, 0, 0, 0, 0, 0, 0, 0, 0, 0, 0, 0, 0, 0, (-1), 0, 0, 0, 0, 0, 0] R0)))]) [0, 1] (by decide) rfl
  exact W.iret (v := 0) hx hb hr (fun t ht hW => ⟨⟨0, (), rfl, rfl, by rw [ht]; exact hP9, va_K.moved hW.alike hK, hD9⟩, hS.F ht⟩) hS.2.2 dX8_outMany_38

def pfX8_now_r (p1 : Int32) : Int32 := if p1 = 0 then 0 else (if p1 = 1 then 0 else (if p1 = 2 then 0 else (if p1 = 3 then 0 else (if p1 = 4 then 4 else (if p1 = 5 then 0 else (if p1 = 6 then 0 else (if p1 = 7 then 0 else (if p1 = 8 then 0 else (if p1 = 9 then 0 else (if p1 = 10 then 0 else (if p1 = 11 then 0 else (-1))))))))))))
set_option maxHeartbeats 4000000 in
set_option maxRecDepth 100000 in
theorem kkX8_now (l : Launch) (dC : Nat → ClassId) (dI : Nat → Nat → Nat) (cI cB cZ cR : ClassId) (sz : Nat) (y : Nat) (yt : Nat) (yr : Nat) (yk : Nat) (yz : Nat) (yp : Nat) (yl : Nat) (yw : Nat) (yd : Nat) (ys : Nat) (yn : Nat) (ym : Nat) (yf : Nat) (yo : Nat) (yh : Nat) (yb : Nat) (yx : Nat) (p1 : Int32) : Met l yX8_now (.code yX8_now cX8_now 2 (some .int) :: wsL_law) ({ frames := 1, cells := 0, slots := 0, locals := 22 }) (zPc dC dI (zT cI cB cZ cR) [.ref y, .int p1] sz [(y, .inr (8, [.ref yt, .int 0, .int 0, .ref yr, .ref yk, .ref yz, .ref yp, .int 0, .int 0, .int 0, .int 0, .ref yl, .ref yw, .int 0, .int 0, .int 0, .int 0, .int 0, .int 0, .int 0, .int 0, .int (-1), .ref yd, .int 0, .ref ys, .ref yn, .ref ym, .int 0, .ref yf, .ref yo, .ref yh, .ref yb, .int 0, .int 0, .int 0, .int 0, .int 0, .int 0, .int 0, .ref yx, .int 0, .int 0, .int 0])), (yr, .inl (cI, 4668, .inl (jn [0, 4, 0, 0, 0, 0, 0, 0, 0, 0, 0, 0, 0, 0, 0, 0, 0, (-1), 0, 0, 0, 0, 0, 0] R0)))]) (va_Qi (fun (r : Int32) (_ : Unit) => r = (pfX8_now_r p1)) (fun _ : Unit => zB dC dI (zT cI cB cZ cR) (va_A [(y, .inr (8, [.ref yt, .int 0, .int 0, .ref yr, .ref yk, .ref yz, .ref yp, .int 0, .int 0, .int 0, .int 0, .ref yl, .ref yw, .int 0, .int 0, .int 0, .int 0, .int 0, .int 0, .int 0, .int 0, .int (-1), .ref yd, .int 0, .ref ys, .ref yn, .ref ym, .int 0, .ref yf, .ref yo, .ref yh, .ref yb, .int 0, .int 0, .int 0, .int 0, .int 0, .int 0, .int 0, .ref yx, .int 0, .int 0, .int 0])), (yr, .inl (cI, 4668, .inl (jn [0, 4, 0, 0, 0, 0, 0, 0, 0, 0, 0, 0, 0, 0, 0, 0, 0, (-1), 0, 0, 0, 0, 0, 0] R0)))] sz) [(y, .inr (8, [.ref yt, .int 0, .int 0, .ref yr, .ref yk, .ref yz, .ref yp, .int 0, .int 0, .int 0, .int 0, .ref yl, .ref yw, .int 0, .int 0, .int 0, .int 0, .int 0, .int 0, .int 0, .int 0, .int (-1), .ref yd, .int 0, .ref ys, .ref yn, .ref ym, .int 0, .ref yf, .ref yo, .ref yh, .ref yb, .int 0, .int 0, .int 0, .int 0, .int 0, .int 0, .int 0, .ref yx, .int 0, .int 0, .int 0])), (yr, .inl (cI, 4668, .inl (jn [0, 4, 0, 0, 0, 0, 0, 0, 0, 0, 0, 0, 0, 0, 0, 0, 0, (-1), 0, 0, 0, 0, 0, 0] R0)))]) (va_A [(y, .inr (8, [.ref yt, .int 0, .int 0, .ref yr, .ref yk, .ref yz, .ref yp, .int 0, .int 0, .int 0, .int 0, .ref yl, .ref yw, .int 0, .int 0, .int 0, .int 0, .int 0, .int 0, .int 0, .int 0, .int (-1), .ref yd, .int 0, .ref ys, .ref yn, .ref ym, .int 0, .ref yf, .ref yo, .ref yh, .ref yb, .int 0, .int 0, .int 0, .int 0, .int 0, .int 0, .int 0, .ref yx, .int 0, .int 0, .int 0])), (yr, .inl (cI, 4668, .inl (jn [0, 4, 0, 0, 0, 0, 0, 0, 0, 0, 0, 0, 0, 0, 0, 0, 0, (-1), 0, 0, 0, 0, 0, 0] R0)))] sz)) 0 0 (va_A [(y, .inr (8, [.ref yt, .int 0, .int 0, .ref yr, .ref yk, .ref yz, .ref yp, .int 0, .int 0, .int 0, .int 0, .ref yl, .ref yw, .int 0, .int 0, .int 0, .int 0, .int 0, .int 0, .int 0, .int 0, .int (-1), .ref yd, .int 0, .ref ys, .ref yn, .ref ym, .int 0, .ref yf, .ref yo, .ref yh, .ref yb, .int 0, .int 0, .int 0, .int 0, .int 0, .int 0, .int 0, .ref yx, .int 0, .int 0, .int 0])), (yr, .inl (cI, 4668, .inl (jn [0, 4, 0, 0, 0, 0, 0, 0, 0, 0, 0, 0, 0, 0, 0, 0, 0, (-1), 0, 0, 0, 0, 0, 0] R0)))] sz) := by
  refine Met.ofW (cc := cX8_now) (maxL := 2) (ret := (some .int)) (by decide) rfl ?_
  intro p e s m args below meth c s₁ B hml hv
  obtain ⟨rfl, hsz, hP, hK, hD0, hN⟩ := hv
  have hx := B.exec
  have hb := B.bytes
  have hr := B.returns
  have hts := atoms_spec (ws := (.code yX8_now cX8_now 2 (some .int) :: wsL_law)) B.pre
  have hown : s.vm.findClass RX8 = some m.cls := findClass_of_methodNamed B.named
  have hlocks := B.notSynchronized
  have hinX8 : ∀ w ∈ u_ws RX8 TX8 43, w ∈ (.code yX8_now cX8_now 2 (some .int) :: wsL_law) := fun w h => List.mem_cons_of_mem _ (inlX8 w h)
  have k_0 := hts (.fieldLink RX8 13 "RingMarksModel" "\x72" "[I") (List.mem_cons_of_mem _ wm_128)
  subst hsz
  have hD := hD0.self (sz := s.heap.size)
  generalize hAe : va_A [(y, .inr (8, [.ref yt, .int 0, .int 0, .ref yr, .ref yk, .ref yz, .ref yp, .int 0, .int 0, .int 0, .int 0, .ref yl, .ref yw, .int 0, .int 0, .int 0, .int 0, .int 0, .int 0, .int 0, .int 0, .int (-1), .ref yd, .int 0, .ref ys, .ref yn, .ref ym, .int 0, .ref yf, .ref yo, .ref yh, .ref yb, .int 0, .int 0, .int 0, .int 0, .int 0, .int 0, .int 0, .ref yx, .int 0, .int 0, .int 0])), (yr, .inl (cI, 4668, .inl (jn [0, 4, 0, 0, 0, 0, 0, 0, 0, 0, 0, 0, 0, 0, 0, 0, 0, (-1), 0, 0, 0, 0, 0, 0] R0)))] s.heap.size = A at hD ⊢
  have hA : ∀ q : Nat, s.heap.size ≤ q → A q := fun q h => by rw [← hAe]; exact Or.inr h
  have hP : va_P (dC, dI) vwCl [(y, .inr (8, [.ref yt, .int 0, .int 0, .ref yr, .ref yk, .ref yz, .ref yp, .int 0, .int 0, .int 0, .int 0, .ref yl, .ref yw, .int 0, .int 0, .int 0, .int 0, .int 0, .int 0, .int 0, .int 0, .int (-1), .ref yd, .int 0, .ref ys, .ref yn, .ref ym, .int 0, .ref yf, .ref yo, .ref yh, .ref yb, .int 0, .int 0, .int 0, .int 0, .int 0, .int 0, .int 0, .ref yx, .int 0, .int 0, .int 0])), (yr, .inl (cI, 4668, .inl (jn [0, 4, 0, 0, 0, 0, 0, 0, 0, 0, 0, 0, 0, 0, 0, 0, 0, (-1), 0, 0, 0, 0, 0, 0] R0)))] s.heap := hP
  have hl := lv_entry ([.ref y, .int p1]) (n := 2) (Nat.le_of_ble_eq_true rfl)
  rw [lg_entry_eq]
  generalize (lg_sl ([.ref y, .int p1]) ++ List.replicate (2 - (lg_sl ([.ref y, .int p1])).length) Slot.unset).toArray = ls at hl ⊢
  have hl : lv_has ls 2 [(0, .ref y), (1, .int p1)] := hl
  obtain ⟨H, hH⟩ : ∃ H, H = s.heap := ⟨_, rfl⟩
  rw [← hH] at hP ⊢
  have hS : va_S A s.heap H [] := by rw [hH]; exact va_S.rf
  refine lv_iload_n hx hb dX8_now_0 rfl (lv_at hl 1 rfl) ?_
  by_cases c_1 : p1 = 0
  · refine lv_tableIn (off := 67) (tgt := 68) hx hb dX8_now_1 (by rw [c_1]; decide) (by rw [c_1]; decide) (by rw [c_1]; decide) (by decide) ?_
    refine lv_aload_n hx hb dX8_now_68 rfl (lv_at hl 0 rfl) ?_
    refine va_get (D := (dC, dI)) (ci := 8) (v := .ref yr) (C := RX8) (T := TX8) (N := 43) hx hb hts hinX8 hown hK hP 0 rfl rfl 3 (by decide) k_0 (fun _ h9 => h9) rfl dX8_now_69 ?_
    refine lv_iconst (v := 3) hx hb dX8_now_72 (by decide) ?_
    refine za_iald (v := 0) hx hb hK hP 1 0 rfl rfl (zin tn_3 (Nat.le_of_ble_eq_true rfl)) (zrd _ tn_3 rfl) dX8_now_73 ?_
    have e_0 : (pfX8_now_r p1) = 0 := by rw [pfX8_now_r, if_pos c_1]
    have hP9 := hP.sub (ws' := [(y, .inr (8, [.ref yt, .int 0, .int 0, .ref yr, .ref yk, .ref yz, .ref yp, .int 0, .int 0, .int 0, .int 0, .ref yl, .ref yw, .int 0, .int 0, .int 0, .int 0, .int 0, .int 0, .int 0, .int 0, .int (-1), .ref yd, .int 0, .ref ys, .ref yn, .ref ym, .int 0, .ref yf, .ref yo, .ref yh, .ref yb, .int 0, .int 0, .int 0, .int 0, .int 0, .int 0, .int 0, .ref yx, .int 0, .int 0, .int 0])), (yr, .inl (cI, 4668, .inl (jn [0, 4, 0, 0, 0, 0, 0, 0, 0, 0, 0, 0, 0, 0, 0, 0, 0, (-1), 0, 0, 0, 0, 0, 0] R0)))]) [0, 1] rfl
    have hD9 := hD.sub (ws' := [(y, .inr (8, [.ref yt, .int 0, .int 0, .ref yr, .ref yk, .ref yz, .ref yp, .int 0, .int 0, .int 0, .int 0, .ref yl, .ref yw, .int 0, .int 0, .int 0, .int 0, .int 0, .int 0, .int 0, .int 0, .int (-1), .ref yd, .int 0, .ref ys, .ref yn, .ref ym, .int 0, .ref yf, .ref yo, .ref yh, .ref yb, .int 0, .int 0, .int 0, .int 0, .int 0, .int 0, .int 0, .ref yx, .int 0, .int 0, .int 0])), (yr, .inl (cI, 4668, .inl (jn [0, 4, 0, 0, 0, 0, 0, 0, 0, 0, 0, 0, 0, 0, 0, 0, 0, (-1), 0, 0, 0, 0, 0, 0] R0)))]) [0, 1] (by decide) rfl
    exact W.iret (v := 0) hx hb hr (fun t ht hW => ⟨⟨0, (), rfl, e_0.symm, by rw [ht]; exact hP9, va_K.moved hW.alike hK, hD9⟩, hS.F ht⟩) hS.2.2 dX8_now_74
  by_cases c_2 : p1 = 1
  · refine lv_tableIn (off := 74) (tgt := 75) hx hb dX8_now_1 (by rw [c_2]; decide) (by rw [c_2]; decide) (by rw [c_2]; decide) (by decide) ?_
    refine lv_aload_n hx hb dX8_now_75 rfl (lv_at hl 0 rfl) ?_
    refine va_get (D := (dC, dI)) (ci := 8) (v := .ref yr) (C := RX8) (T := TX8) (N := 43) hx hb hts hinX8 hown hK hP 0 rfl rfl 3 (by decide) k_0 (fun _ h9 => h9) rfl dX8_now_76 ?_
    refine lv_iconst (v := 4) hx hb dX8_now_79 (by decide) ?_
    refine za_iald (v := 0) hx hb hK hP 1 0 rfl rfl (zin tn_4 (Nat.le_of_ble_eq_true rfl)) (zrd _ tn_4 rfl) dX8_now_80 ?_
    have e_0 : (pfX8_now_r p1) = 0 := by rw [pfX8_now_r, if_neg c_1, if_pos c_2]
    have hP9 := hP.sub (ws' := [(y, .inr (8, [.ref yt, .int 0, .int 0, .ref yr, .ref yk, .ref yz, .ref yp, .int 0, .int 0, .int 0, .int 0, .ref yl, .ref yw, .int 0, .int 0, .int 0, .int 0, .int 0, .int 0, .int 0, .int 0, .int (-1), .ref yd, .int 0, .ref ys, .ref yn, .ref ym, .int 0, .ref yf, .ref yo, .ref yh, .ref yb, .int 0, .int 0, .int 0, .int 0, .int 0, .int 0, .int 0, .ref yx, .int 0, .int 0, .int 0])), (yr, .inl (cI, 4668, .inl (jn [0, 4, 0, 0, 0, 0, 0, 0, 0, 0, 0, 0, 0, 0, 0, 0, 0, (-1), 0, 0, 0, 0, 0, 0] R0)))]) [0, 1] rfl
    have hD9 := hD.sub (ws' := [(y, .inr (8, [.ref yt, .int 0, .int 0, .ref yr, .ref yk, .ref yz, .ref yp, .int 0, .int 0, .int 0, .int 0, .ref yl, .ref yw, .int 0, .int 0, .int 0, .int 0, .int 0, .int 0, .int 0, .int 0, .int (-1), .ref yd, .int 0, .ref ys, .ref yn, .ref ym, .int 0, .ref yf, .ref yo, .ref yh, .ref yb, .int 0, .int 0, .int 0, .int 0, .int 0, .int 0, .int 0, .ref yx, .int 0, .int 0, .int 0])), (yr, .inl (cI, 4668, .inl (jn [0, 4, 0, 0, 0, 0, 0, 0, 0, 0, 0, 0, 0, 0, 0, 0, 0, (-1), 0, 0, 0, 0, 0, 0] R0)))]) [0, 1] (by decide) rfl
    exact W.iret (v := 0) hx hb hr (fun t ht hW => ⟨⟨0, (), rfl, e_0.symm, by rw [ht]; exact hP9, va_K.moved hW.alike hK, hD9⟩, hS.F ht⟩) hS.2.2 dX8_now_81
  by_cases c_3 : p1 = 2
  · refine lv_tableIn (off := 81) (tgt := 82) hx hb dX8_now_1 (by rw [c_3]; decide) (by rw [c_3]; decide) (by rw [c_3]; decide) (by decide) ?_
    refine lv_aload_n hx hb dX8_now_82 rfl (lv_at hl 0 rfl) ?_
    refine va_get (D := (dC, dI)) (ci := 8) (v := .ref yr) (C := RX8) (T := TX8) (N := 43) hx hb hts hinX8 hown hK hP 0 rfl rfl 3 (by decide) k_0 (fun _ h9 => h9) rfl dX8_now_83 ?_
    refine lv_iconst (v := 5) hx hb dX8_now_86 (by decide) ?_
    refine za_iald (v := 0) hx hb hK hP 1 0 rfl rfl (zin tn_5 (Nat.le_of_ble_eq_true rfl)) (zrd _ tn_5 rfl) dX8_now_87 ?_
    have e_0 : (pfX8_now_r p1) = 0 := by rw [pfX8_now_r, if_neg c_1, if_neg c_2, if_pos c_3]
    have hP9 := hP.sub (ws' := [(y, .inr (8, [.ref yt, .int 0, .int 0, .ref yr, .ref yk, .ref yz, .ref yp, .int 0, .int 0, .int 0, .int 0, .ref yl, .ref yw, .int 0, .int 0, .int 0, .int 0, .int 0, .int 0, .int 0, .int 0, .int (-1), .ref yd, .int 0, .ref ys, .ref yn, .ref ym, .int 0, .ref yf, .ref yo, .ref yh, .ref yb, .int 0, .int 0, .int 0, .int 0, .int 0, .int 0, .int 0, .ref yx, .int 0, .int 0, .int 0])), (yr, .inl (cI, 4668, .inl (jn [0, 4, 0, 0, 0, 0, 0, 0, 0, 0, 0, 0, 0, 0, 0, 0, 0, (-1), 0, 0, 0, 0, 0, 0] R0)))]) [0, 1] rfl
    have hD9 := hD.sub (ws' := [(y, .inr (8, [.ref yt, .int 0, .int 0, .ref yr, .ref yk, .ref yz, .ref yp, .int 0, .int 0, .int 0, .int 0, .ref yl, .ref yw, .int 0, .int 0, .int 0, .int 0, .int 0, .int 0, .int 0, .int 0, .int (-1), .ref yd, .int 0, .ref ys, .ref yn, .ref ym, .int 0, .ref yf, .ref yo, .ref yh, .ref yb, .int 0, .int 0, .int 0, .int 0, .int 0, .int 0, .int 0, .ref yx, .int 0, .int 0, .int 0])), (yr, .inl (cI, 4668, .inl (jn [0, 4, 0, 0, 0, 0, 0, 0, 0, 0, 0, 0, 0, 0, 0, 0, 0, (-1), 0, 0, 0, 0, 0, 0] R0)))]) [0, 1] (by decide) rfl
    exact W.iret (v := 0) hx hb hr (fun t ht hW => ⟨⟨0, (), rfl, e_0.symm, by rw [ht]; exact hP9, va_K.moved hW.alike hK, hD9⟩, hS.F ht⟩) hS.2.2 dX8_now_88
  by_cases c_4 : p1 = 3
  · refine lv_tableIn (off := 88) (tgt := 89) hx hb dX8_now_1 (by rw [c_4]; decide) (by rw [c_4]; decide) (by rw [c_4]; decide) (by decide) ?_
    refine lv_aload_n hx hb dX8_now_89 rfl (lv_at hl 0 rfl) ?_
    refine va_get (D := (dC, dI)) (ci := 8) (v := .ref yr) (C := RX8) (T := TX8) (N := 43) hx hb hts hinX8 hown hK hP 0 rfl rfl 3 (by decide) k_0 (fun _ h9 => h9) rfl dX8_now_90 ?_
    refine lv_bipush (v := 6) hx hb dX8_now_93 (by decide) ?_
    refine za_iald (v := 0) hx hb hK hP 1 0 rfl rfl (zin tn_6 (Nat.le_of_ble_eq_true rfl)) (zrd _ tn_6 rfl) dX8_now_95 ?_
    have e_0 : (pfX8_now_r p1) = 0 := by rw [pfX8_now_r, if_neg c_1, if_neg c_2, if_neg c_3, if_pos c_4]
    have hP9 := hP.sub (ws' := [(y, .inr (8, [.ref yt, .int 0, .int 0, .ref yr, .ref yk, .ref yz, .ref yp, .int 0, .int 0, .int 0, .int 0, .ref yl, .ref yw, .int 0, .int 0, .int 0, .int 0, .int 0, .int 0, .int 0, .int 0, .int (-1), .ref yd, .int 0, .ref ys, .ref yn, .ref ym, .int 0, .ref yf, .ref yo, .ref yh, .ref yb, .int 0, .int 0, .int 0, .int 0, .int 0, .int 0, .int 0, .ref yx, .int 0, .int 0, .int 0])), (yr, .inl (cI, 4668, .inl (jn [0, 4, 0, 0, 0, 0, 0, 0, 0, 0, 0, 0, 0, 0, 0, 0, 0, (-1), 0, 0, 0, 0, 0, 0] R0)))]) [0, 1] rfl
    have hD9 := hD.sub (ws' := [(y, .inr (8, [.ref yt, .int 0, .int 0, .ref yr, .ref yk, .ref yz, .ref yp, .int 0, .int 0, .int 0, .int 0, .ref yl, .ref yw, .int 0, .int 0, .int 0, .int 0, .int 0, .int 0, .int 0, .int 0, .int (-1), .ref yd, .int 0, .ref ys, .ref yn, .ref ym, .int 0, .ref yf, .ref yo, .ref yh, .ref yb, .int 0, .int 0, .int 0, .int 0, .int 0, .int 0, .int 0, .ref yx, .int 0, .int 0, .int 0])), (yr, .inl (cI, 4668, .inl (jn [0, 4, 0, 0, 0, 0, 0, 0, 0, 0, 0, 0, 0, 0, 0, 0, 0, (-1), 0, 0, 0, 0, 0, 0] R0)))]) [0, 1] (by decide) rfl
    exact W.iret (v := 0) hx hb hr (fun t ht hW => ⟨⟨0, (), rfl, e_0.symm, by rw [ht]; exact hP9, va_K.moved hW.alike hK, hD9⟩, hS.F ht⟩) hS.2.2 dX8_now_96
  by_cases c_5 : p1 = 4
  · refine lv_tableIn (off := 96) (tgt := 97) hx hb dX8_now_1 (by rw [c_5]; decide) (by rw [c_5]; decide) (by rw [c_5]; decide) (by decide) ?_
    refine lv_aload_n hx hb dX8_now_97 rfl (lv_at hl 0 rfl) ?_
    refine zcVi (As := []) (rest := []) (wr := []) ⟨hx, hb, hml, hown, hts⟩ (kkX8_freePlaces l dC dI cI cB cZ cR H.size y yt yr yk yz yp yl yw yd ys yn ym yf yo yh yb yx ) (cwV 0 hts (zgV wm_361 wm_362 wm_363 wm_5 wm_364) rfl rfl rfl (by decide +kernel) ⟨Nat.le_of_ble_eq_true rfl, Nat.le_of_ble_eq_true rfl⟩) hN hK hP hD hS hA [0, 1] [] rfl rfl ⟨rfl, rfl⟩ (by decide) (ci := 8) rfl rfl rfl rfl hl.1 rfl (Nat.le_of_ble_eq_true rfl) dX8_now_98 ⟨Nat.le_of_ble_eq_true rfl, Nat.le_of_ble_eq_true rfl⟩ (fun r u hu H locs hP hD hS => ?_)
    have hu : r = 4 := hu
    subst hu
    have hP : va_P (dC, dI) vwCl [(y, .inr (8, [.ref yt, .int 0, .int 0, .ref yr, .ref yk, .ref yz, .ref yp, .int 0, .int 0, .int 0, .int 0, .ref yl, .ref yw, .int 0, .int 0, .int 0, .int 0, .int 0, .int 0, .int 0, .int 0, .int (-1), .ref yd, .int 0, .ref ys, .ref yn, .ref ym, .int 0, .ref yf, .ref yo, .ref yh, .ref yb, .int 0, .int 0, .int 0, .int 0, .int 0, .int 0, .int 0, .ref yx, .int 0, .int 0, .int 0])), (yr, .inl (cI, 4668, .inl (jn [0, 4, 0, 0, 0, 0, 0, 0, 0, 0, 0, 0, 0, 0, 0, 0, 0, (-1), 0, 0, 0, 0, 0, 0] R0)))] H := hP
    have hD : va_D A [(y, .inr (8, [.ref yt, .int 0, .int 0, .ref yr, .ref yk, .ref yz, .ref yp, .int 0, .int 0, .int 0, .int 0, .ref yl, .ref yw, .int 0, .int 0, .int 0, .int 0, .int 0, .int 0, .int 0, .int 0, .int (-1), .ref yd, .int 0, .ref ys, .ref yn, .ref ym, .int 0, .ref yf, .ref yo, .ref yh, .ref yb, .int 0, .int 0, .int 0, .int 0, .int 0, .int 0, .int 0, .ref yx, .int 0, .int 0, .int 0])), (yr, .inl (cI, 4668, .inl (jn [0, 4, 0, 0, 0, 0, 0, 0, 0, 0, 0, 0, 0, 0, 0, 0, 0, (-1), 0, 0, 0, 0, 0, 0] R0)))] := hD
    have e_0 : (pfX8_now_r p1) = 4 := by rw [pfX8_now_r, if_neg c_1, if_neg c_2, if_neg c_3, if_neg c_4, if_pos c_5]
    have hP9 := hP.sub (ws' := [(y, .inr (8, [.ref yt, .int 0, .int 0, .ref yr, .ref yk, .ref yz, .ref yp, .int 0, .int 0, .int 0, .int 0, .ref yl, .ref yw, .int 0, .int 0, .int 0, .int 0, .int 0, .int 0, .int 0, .int 0, .int (-1), .ref yd, .int 0, .ref ys, .ref yn, .ref ym, .int 0, .ref yf, .ref yo, .ref yh, .ref yb, .int 0, .int 0, .int 0, .int 0, .int 0, .int 0, .int 0, .ref yx, .int 0, .int 0, .int 0])), (yr, .inl (cI, 4668, .inl (jn [0, 4, 0, 0, 0, 0, 0, 0, 0, 0, 0, 0, 0, 0, 0, 0, 0, (-1), 0, 0, 0, 0, 0, 0] R0)))]) [0, 1] rfl
    have hD9 := hD.sub (ws' := [(y, .inr (8, [.ref yt, .int 0, .int 0, .ref yr, .ref yk, .ref yz, .ref yp, .int 0, .int 0, .int 0, .int 0, .ref yl, .ref yw, .int 0, .int 0, .int 0, .int 0, .int 0, .int 0, .int 0, .int 0, .int (-1), .ref yd, .int 0, .ref ys, .ref yn, .ref ym, .int 0, .ref yf, .ref yo, .ref yh, .ref yb, .int 0, .int 0, .int 0, .int 0, .int 0, .int 0, .int 0, .ref yx, .int 0, .int 0, .int 0])), (yr, .inl (cI, 4668, .inl (jn [0, 4, 0, 0, 0, 0, 0, 0, 0, 0, 0, 0, 0, 0, 0, 0, 0, (-1), 0, 0, 0, 0, 0, 0] R0)))]) [0, 1] (by decide) rfl
    exact W.iret (v := 4) hx hb hr (fun t ht hW => ⟨⟨4, (), rfl, e_0.symm, by rw [ht]; exact hP9, va_K.moved hW.alike hK, hD9⟩, hS.F ht⟩) hS.2.2 dX8_now_101
  by_cases c_6 : p1 = 5
  · refine lv_tableIn (off := 101) (tgt := 102) hx hb dX8_now_1 (by rw [c_6]; decide) (by rw [c_6]; decide) (by rw [c_6]; decide) (by decide) ?_
    refine lv_aload_n hx hb dX8_now_102 rfl (lv_at hl 0 rfl) ?_
    refine va_get (D := (dC, dI)) (ci := 8) (v := .ref yr) (C := RX8) (T := TX8) (N := 43) hx hb hts hinX8 hown hK hP 0 rfl rfl 3 (by decide) k_0 (fun _ h9 => h9) rfl dX8_now_103 ?_
    refine lv_bipush (v := 16) hx hb dX8_now_106 (by decide) ?_
    refine za_iald (v := 0) hx hb hK hP 1 0 rfl rfl (zin tn_16 (Nat.le_of_ble_eq_true rfl)) (zrd _ tn_16 rfl) dX8_now_108 ?_
    have e_0 : (pfX8_now_r p1) = 0 := by rw [pfX8_now_r, if_neg c_1, if_neg c_2, if_neg c_3, if_neg c_4, if_neg c_5, if_pos c_6]
    have hP9 := hP.sub (ws' := [(y, .inr (8, [.ref yt, .int 0, .int 0, .ref yr, .ref yk, .ref yz, .ref yp, .int 0, .int 0, .int 0, .int 0, .ref yl, .ref yw, .int 0, .int 0, .int 0, .int 0, .int 0, .int 0, .int 0, .int 0, .int (-1), .ref yd, .int 0, .ref ys, .ref yn, .ref ym, .int 0, .ref yf, .ref yo, .ref yh, .ref yb, .int 0, .int 0, .int 0, .int 0, .int 0, .int 0, .int 0, .ref yx, .int 0, .int 0, .int 0])), (yr, .inl (cI, 4668, .inl (jn [0, 4, 0, 0, 0, 0, 0, 0, 0, 0, 0, 0, 0, 0, 0, 0, 0, (-1), 0, 0, 0, 0, 0, 0] R0)))]) [0, 1] rfl
    have hD9 := hD.sub (ws' := [(y, .inr (8, [.ref yt, .int 0, .int 0, .ref yr, .ref yk, .ref yz, .ref yp, .int 0, .int 0, .int 0, .int 0, .ref yl, .ref yw, .int 0, .int 0, .int 0, .int 0, .int 0, .int 0, .int 0, .int 0, .int (-1), .ref yd, .int 0, .ref ys, .ref yn, .ref ym, .int 0, .ref yf, .ref yo, .ref yh, .ref yb, .int 0, .int 0, .int 0, .int 0, .int 0, .int 0, .int 0, .ref yx, .int 0, .int 0, .int 0])), (yr, .inl (cI, 4668, .inl (jn [0, 4, 0, 0, 0, 0, 0, 0, 0, 0, 0, 0, 0, 0, 0, 0, 0, (-1), 0, 0, 0, 0, 0, 0] R0)))]) [0, 1] (by decide) rfl
    exact W.iret (v := 0) hx hb hr (fun t ht hW => ⟨⟨0, (), rfl, e_0.symm, by rw [ht]; exact hP9, va_K.moved hW.alike hK, hD9⟩, hS.F ht⟩) hS.2.2 dX8_now_109
  by_cases c_7 : p1 = 6
  · refine lv_tableIn (off := 109) (tgt := 110) hx hb dX8_now_1 (by rw [c_7]; decide) (by rw [c_7]; decide) (by rw [c_7]; decide) (by decide) ?_
    refine lv_aload_n hx hb dX8_now_110 rfl (lv_at hl 0 rfl) ?_
    refine zcVi (As := []) (rest := []) (wr := []) ⟨hx, hb, hml, hown, hts⟩ (kkX8_outMany l dC dI cI cB cZ cR H.size y yt yr yk yz yp yl yw yd ys yn ym yf yo yh yb yx ) (cwV 0 hts (zgV wm_789 wm_790 wm_791 wm_5 wm_792) rfl rfl rfl (by decide +kernel) ⟨Nat.le_of_ble_eq_true rfl, Nat.le_of_ble_eq_true rfl⟩) hN hK hP hD hS hA [0, 1] [] rfl rfl ⟨rfl, rfl⟩ (by decide) (ci := 8) rfl rfl rfl rfl hl.1 rfl (Nat.le_of_ble_eq_true rfl) dX8_now_111 ⟨Nat.le_of_ble_eq_true rfl, Nat.le_of_ble_eq_true rfl⟩ (fun r u hu H locs hP hD hS => ?_)
    have hu : r = 0 := hu
    subst hu
    have hP : va_P (dC, dI) vwCl [(y, .inr (8, [.ref yt, .int 0, .int 0, .ref yr, .ref yk, .ref yz, .ref yp, .int 0, .int 0, .int 0, .int 0, .ref yl, .ref yw, .int 0, .int 0, .int 0, .int 0, .int 0, .int 0, .int 0, .int 0, .int (-1), .ref yd, .int 0, .ref ys, .ref yn, .ref ym, .int 0, .ref yf, .ref yo, .ref yh, .ref yb, .int 0, .int 0, .int 0, .int 0, .int 0, .int 0, .int 0, .ref yx, .int 0, .int 0, .int 0])), (yr, .inl (cI, 4668, .inl (jn [0, 4, 0, 0, 0, 0, 0, 0, 0, 0, 0, 0, 0, 0, 0, 0, 0, (-1), 0, 0, 0, 0, 0, 0] R0)))] H := hP
    have hD : va_D A [(y, .inr (8, [.ref yt, .int 0, .int 0, .ref yr, .ref yk, .ref yz, .ref yp, .int 0, .int 0, .int 0, .int 0, .ref yl, .ref yw, .int 0, .int 0, .int 0, .int 0, .int 0, .int 0, .int 0, .int 0, .int (-1), .ref yd, .int 0, .ref ys, .ref yn, .ref ym, .int 0, .ref yf, .ref yo, .ref yh, .ref yb, .int 0, .int 0, .int 0, .int 0, .int 0, .int 0, .int 0, .ref yx, .int 0, .int 0, .int 0])), (yr, .inl (cI, 4668, .inl (jn [0, 4, 0, 0, 0, 0, 0, 0, 0, 0, 0, 0, 0, 0, 0, 0, 0, (-1), 0, 0, 0, 0, 0, 0] R0)))] := hD
    have e_0 : (pfX8_now_r p1) = 0 := by rw [pfX8_now_r, if_neg c_1, if_neg c_2, if_neg c_3, if_neg c_4, if_neg c_5, if_neg c_6, if_pos c_7]
    have hP9 := hP.sub (ws' := [(y, .inr (8, [.ref yt, .int 0, .int 0, .ref yr, .ref yk, .ref yz, .ref yp, .int 0, .int 0, .int 0, .int 0, .ref yl, .ref yw, .int 0, .int 0, .int 0, .int 0, .int 0, .int 0, .int 0, .int 0, .int (-1), .ref yd, .int 0, .ref ys, .ref yn, .ref ym, .int 0, .ref yf, .ref yo, .ref yh, .ref yb, .int 0, .int 0, .int 0, .int 0, .int 0, .int 0, .int 0, .ref yx, .int 0, .int 0, .int 0])), (yr, .inl (cI, 4668, .inl (jn [0, 4, 0, 0, 0, 0, 0, 0, 0, 0, 0, 0, 0, 0, 0, 0, 0, (-1), 0, 0, 0, 0, 0, 0] R0)))]) [0, 1] rfl
    have hD9 := hD.sub (ws' := [(y, .inr (8, [.ref yt, .int 0, .int 0, .ref yr, .ref yk, .ref yz, .ref yp, .int 0, .int 0, .int 0, .int 0, .ref yl, .ref yw, .int 0, .int 0, .int 0, .int 0, .int 0, .int 0, .int 0, .int 0, .int (-1), .ref yd, .int 0, .ref ys, .ref yn, .ref ym, .int 0, .ref yf, .ref yo, .ref yh, .ref yb, .int 0, .int 0, .int 0, .int 0, .int 0, .int 0, .int 0, .ref yx, .int 0, .int 0, .int 0])), (yr, .inl (cI, 4668, .inl (jn [0, 4, 0, 0, 0, 0, 0, 0, 0, 0, 0, 0, 0, 0, 0, 0, 0, (-1), 0, 0, 0, 0, 0, 0] R0)))]) [0, 1] (by decide) rfl
    exact W.iret (v := 0) hx hb hr (fun t ht hW => ⟨⟨0, (), rfl, e_0.symm, by rw [ht]; exact hP9, va_K.moved hW.alike hK, hD9⟩, hS.F ht⟩) hS.2.2 dX8_now_114
  by_cases c_8 : p1 = 7
  · refine lv_tableIn (off := 114) (tgt := 115) hx hb dX8_now_1 (by rw [c_8]; decide) (by rw [c_8]; decide) (by rw [c_8]; decide) (by decide) ?_
    refine lv_aload_n hx hb dX8_now_115 rfl (lv_at hl 0 rfl) ?_
    refine va_get (D := (dC, dI)) (ci := 8) (v := .ref yr) (C := RX8) (T := TX8) (N := 43) hx hb hts hinX8 hown hK hP 0 rfl rfl 3 (by decide) k_0 (fun _ h9 => h9) rfl dX8_now_116 ?_
    refine lv_bipush (v := 13) hx hb dX8_now_119 (by decide) ?_
    refine za_iald (v := 0) hx hb hK hP 1 0 rfl rfl (zin tn_13 (Nat.le_of_ble_eq_true rfl)) (zrd _ tn_13 rfl) dX8_now_121 ?_
    have e_0 : (pfX8_now_r p1) = 0 := by rw [pfX8_now_r, if_neg c_1, if_neg c_2, if_neg c_3, if_neg c_4, if_neg c_5, if_neg c_6, if_neg c_7, if_pos c_8]
    have hP9 := hP.sub (ws' := [(y, .inr (8, [.ref yt, .int 0, .int 0, .ref yr, .ref yk, .ref yz, .ref yp, .int 0, .int 0, .int 0, .int 0, .ref yl, .ref yw, .int 0, .int 0, .int 0, .int 0, .int 0, .int 0, .int 0, .int 0, .int (-1), .ref yd, .int 0, .ref ys, .ref yn, .ref ym, .int 0, .ref yf, .ref yo, .ref yh, .ref yb, .int 0, .int 0, .int 0, .int 0, .int 0, .int 0, .int 0, .ref yx, .int 0, .int 0, .int 0])), (yr, .inl (cI, 4668, .inl (jn [0, 4, 0, 0, 0, 0, 0, 0, 0, 0, 0, 0, 0, 0, 0, 0, 0, (-1), 0, 0, 0, 0, 0, 0] R0)))]) [0, 1] rfl
    have hD9 := hD.sub (ws' := [(y, .inr (8, [.ref yt, .int 0, .int 0, .ref yr, .ref yk, .ref yz, .ref yp, .int 0, .int 0, .int 0, .int 0, .ref yl, .ref yw, .int 0, .int 0, .int 0, .int 0, .int 0, .int 0, .int 0, .int 0, .int (-1), .ref yd, .int 0, .ref ys, .ref yn, .ref ym, .int 0, .ref yf, .ref yo, .ref yh, .ref yb, .int 0, .int 0, .int 0, .int 0, .int 0, .int 0, .int 0, .ref yx, .int 0, .int 0, .int 0])), (yr, .inl (cI, 4668, .inl (jn [0, 4, 0, 0, 0, 0, 0, 0, 0, 0, 0, 0, 0, 0, 0, 0, 0, (-1), 0, 0, 0, 0, 0, 0] R0)))]) [0, 1] (by decide) rfl
    exact W.iret (v := 0) hx hb hr (fun t ht hW => ⟨⟨0, (), rfl, e_0.symm, by rw [ht]; exact hP9, va_K.moved hW.alike hK, hD9⟩, hS.F ht⟩) hS.2.2 dX8_now_122
  by_cases c_9 : p1 = 8
  · refine lv_tableIn (off := 122) (tgt := 123) hx hb dX8_now_1 (by rw [c_9]; decide) (by rw [c_9]; decide) (by rw [c_9]; decide) (by decide) ?_
    refine lv_aload_n hx hb dX8_now_123 rfl (lv_at hl 0 rfl) ?_
    refine va_get (D := (dC, dI)) (ci := 8) (v := .ref yr) (C := RX8) (T := TX8) (N := 43) hx hb hts hinX8 hown hK hP 0 rfl rfl 3 (by decide) k_0 (fun _ h9 => h9) rfl dX8_now_124 ?_
    refine lv_bipush (v := 14) hx hb dX8_now_127 (by decide) ?_
    refine za_iald (v := 0) hx hb hK hP 1 0 rfl rfl (zin tn_14 (Nat.le_of_ble_eq_true rfl)) (zrd _ tn_14 rfl) dX8_now_129 ?_
    have e_0 : (pfX8_now_r p1) = 0 := by rw [pfX8_now_r, if_neg c_1, if_neg c_2, if_neg c_3, if_neg c_4, if_neg c_5, if_neg c_6, if_neg c_7, if_neg c_8, if_pos c_9]
    have hP9 := hP.sub (ws' := [(y, .inr (8, [.ref yt, .int 0, .int 0, .ref yr, .ref yk, .ref yz, .ref yp, .int 0, .int 0, .int 0, .int 0, .ref yl, .ref yw, .int 0, .int 0, .int 0, .int 0, .int 0, .int 0, .int 0, .int 0, .int (-1), .ref yd, .int 0, .ref ys, .ref yn, .ref ym, .int 0, .ref yf, .ref yo, .ref yh, .ref yb, .int 0, .int 0, .int 0, .int 0, .int 0, .int 0, .int 0, .ref yx, .int 0, .int 0, .int 0])), (yr, .inl (cI, 4668, .inl (jn [0, 4, 0, 0, 0, 0, 0, 0, 0, 0, 0, 0, 0, 0, 0, 0, 0, (-1), 0, 0, 0, 0, 0, 0] R0)))]) [0, 1] rfl
    have hD9 := hD.sub (ws' := [(y, .inr (8, [.ref yt, .int 0, .int 0, .ref yr, .ref yk, .ref yz, .ref yp, .int 0, .int 0, .int 0, .int 0, .ref yl, .ref yw, .int 0, .int 0, .int 0, .int 0, .int 0, .int 0, .int 0, .int 0, .int (-1), .ref yd, .int 0, .ref ys, .ref yn, .ref ym, .int 0, .ref yf, .ref yo, .ref yh, .ref yb, .int 0, .int 0, .int 0, .int 0, .int 0, .int 0, .int 0, .ref yx, .int 0, .int 0, .int 0])), (yr, .inl (cI, 4668, .inl (jn [0, 4, 0, 0, 0, 0, 0, 0, 0, 0, 0, 0, 0, 0, 0, 0, 0, (-1), 0, 0, 0, 0, 0, 0] R0)))]) [0, 1] (by decide) rfl
    exact W.iret (v := 0) hx hb hr (fun t ht hW => ⟨⟨0, (), rfl, e_0.symm, by rw [ht]; exact hP9, va_K.moved hW.alike hK, hD9⟩, hS.F ht⟩) hS.2.2 dX8_now_130
  by_cases c_10 : p1 = 9
  · refine lv_tableIn (off := 130) (tgt := 131) hx hb dX8_now_1 (by rw [c_10]; decide) (by rw [c_10]; decide) (by rw [c_10]; decide) (by decide) ?_
    refine lv_aload_n hx hb dX8_now_131 rfl (lv_at hl 0 rfl) ?_
    refine va_get (D := (dC, dI)) (ci := 8) (v := .ref yr) (C := RX8) (T := TX8) (N := 43) hx hb hts hinX8 hown hK hP 0 rfl rfl 3 (by decide) k_0 (fun _ h9 => h9) rfl dX8_now_132 ?_
    refine lv_bipush (v := 15) hx hb dX8_now_135 (by decide) ?_
    refine za_iald (v := 0) hx hb hK hP 1 0 rfl rfl (zin tn_15 (Nat.le_of_ble_eq_true rfl)) (zrd _ tn_15 rfl) dX8_now_137 ?_
    have e_0 : (pfX8_now_r p1) = 0 := by rw [pfX8_now_r, if_neg c_1, if_neg c_2, if_neg c_3, if_neg c_4, if_neg c_5, if_neg c_6, if_neg c_7, if_neg c_8, if_neg c_9, if_pos c_10]
    have hP9 := hP.sub (ws' := [(y, .inr (8, [.ref yt, .int 0, .int 0, .ref yr, .ref yk, .ref yz, .ref yp, .int 0, .int 0, .int 0, .int 0, .ref yl, .ref yw, .int 0, .int 0, .int 0, .int 0, .int 0, .int 0, .int 0, .int 0, .int (-1), .ref yd, .int 0, .ref ys, .ref yn, .ref ym, .int 0, .ref yf, .ref yo, .ref yh, .ref yb, .int 0, .int 0, .int 0, .int 0, .int 0, .int 0, .int 0, .ref yx, .int 0, .int 0, .int 0])), (yr, .inl (cI, 4668, .inl (jn [0, 4, 0, 0, 0, 0, 0, 0, 0, 0, 0, 0, 0, 0, 0, 0, 0, (-1), 0, 0, 0, 0, 0, 0] R0)))]) [0, 1] rfl
    have hD9 := hD.sub (ws' := [(y, .inr (8, [.ref yt, .int 0, .int 0, .ref yr, .ref yk, .ref yz, .ref yp, .int 0, .int 0, .int 0, .int 0, .ref yl, .ref yw, .int 0, .int 0, .int 0, .int 0, .int 0, .int 0, .int 0, .int 0, .int (-1), .ref yd, .int 0, .ref ys, .ref yn, .ref ym, .int 0, .ref yf, .ref yo, .ref yh, .ref yb, .int 0, .int 0, .int 0, .int 0, .int 0, .int 0, .int 0, .ref yx, .int 0, .int 0, .int 0])), (yr, .inl (cI, 4668, .inl (jn [0, 4, 0, 0, 0, 0, 0, 0, 0, 0, 0, 0, 0, 0, 0, 0, 0, (-1), 0, 0, 0, 0, 0, 0] R0)))]) [0, 1] (by decide) rfl
    exact W.iret (v := 0) hx hb hr (fun t ht hW => ⟨⟨0, (), rfl, e_0.symm, by rw [ht]; exact hP9, va_K.moved hW.alike hK, hD9⟩, hS.F ht⟩) hS.2.2 dX8_now_138
  by_cases c_11 : p1 = 10
  · refine lv_tableIn (off := 138) (tgt := 139) hx hb dX8_now_1 (by rw [c_11]; decide) (by rw [c_11]; decide) (by rw [c_11]; decide) (by decide) ?_
    refine lv_aload_n hx hb dX8_now_139 rfl (lv_at hl 0 rfl) ?_
    refine va_get (D := (dC, dI)) (ci := 8) (v := .ref yr) (C := RX8) (T := TX8) (N := 43) hx hb hts hinX8 hown hK hP 0 rfl rfl 3 (by decide) k_0 (fun _ h9 => h9) rfl dX8_now_140 ?_
    refine lv_bipush (v := 9) hx hb dX8_now_143 (by decide) ?_
    refine za_iald (v := 0) hx hb hK hP 1 0 rfl rfl (zin tn_9 (Nat.le_of_ble_eq_true rfl)) (zrd _ tn_9 rfl) dX8_now_145 ?_
    have e_0 : (pfX8_now_r p1) = 0 := by rw [pfX8_now_r, if_neg c_1, if_neg c_2, if_neg c_3, if_neg c_4, if_neg c_5, if_neg c_6, if_neg c_7, if_neg c_8, if_neg c_9, if_neg c_10, if_pos c_11]
    have hP9 := hP.sub (ws' := [(y, .inr (8, [.ref yt, .int 0, .int 0, .ref yr, .ref yk, .ref yz, .ref yp, .int 0, .int 0, .int 0, .int 0, .ref yl, .ref yw, .int 0, .int 0, .int 0, .int 0, .int 0, .int 0, .int 0, .int 0, .int (-1), .ref yd, .int 0, .ref ys, .ref yn, .ref ym, .int 0, .ref yf, .ref yo, .ref yh, .ref yb, .int 0, .int 0, .int 0, .int 0, .int 0, .int 0, .int 0, .ref yx, .int 0, .int 0, .int 0])), (yr, .inl (cI, 4668, .inl (jn [0, 4, 0, 0, 0, 0, 0, 0, 0, 0, 0, 0, 0, 0, 0, 0, 0, (-1), 0, 0, 0, 0, 0, 0] R0)))]) [0, 1] rfl
    have hD9 := hD.sub (ws' := [(y, .inr (8, [.ref yt, .int 0, .int 0, .ref yr, .ref yk, .ref yz, .ref yp, .int 0, .int 0, .int 0, .int 0, .ref yl, .ref yw, .int 0, .int 0, .int 0, .int 0, .int 0, .int 0, .int 0, .int 0, .int (-1), .ref yd, .int 0, .ref ys, .ref yn, .ref ym, .int 0, .ref yf, .ref yo, .ref yh, .ref yb, .int 0, .int 0, .int 0, .int 0, .int 0, .int 0, .int 0, .ref yx, .int 0, .int 0, .int 0])), (yr, .inl (cI, 4668, .inl (jn [0, 4, 0, 0, 0, 0, 0, 0, 0, 0, 0, 0, 0, 0, 0, 0, 0, (-1), 0, 0, 0, 0, 0, 0] R0)))]) [0, 1] (by decide) rfl
    exact W.iret (v := 0) hx hb hr (fun t ht hW => ⟨⟨0, (), rfl, e_0.symm, by rw [ht]; exact hP9, va_K.moved hW.alike hK, hD9⟩, hS.F ht⟩) hS.2.2 dX8_now_146
  by_cases c_12 : p1 = 11
  · refine lv_tableIn (off := 146) (tgt := 147) hx hb dX8_now_1 (by rw [c_12]; decide) (by rw [c_12]; decide) (by rw [c_12]; decide) (by decide) ?_
    refine lv_aload_n hx hb dX8_now_147 rfl (lv_at hl 0 rfl) ?_
    refine va_get (D := (dC, dI)) (ci := 8) (v := .ref yr) (C := RX8) (T := TX8) (N := 43) hx hb hts hinX8 hown hK hP 0 rfl rfl 3 (by decide) k_0 (fun _ h9 => h9) rfl dX8_now_148 ?_
    refine lv_bipush (v := 10) hx hb dX8_now_151 (by decide) ?_
    refine za_iald (v := 0) hx hb hK hP 1 0 rfl rfl (zin tn_10 (Nat.le_of_ble_eq_true rfl)) (zrd _ tn_10 rfl) dX8_now_153 ?_
    have e_0 : (pfX8_now_r p1) = 0 := by rw [pfX8_now_r, if_neg c_1, if_neg c_2, if_neg c_3, if_neg c_4, if_neg c_5, if_neg c_6, if_neg c_7, if_neg c_8, if_neg c_9, if_neg c_10, if_neg c_11, if_pos c_12]
    have hP9 := hP.sub (ws' := [(y, .inr (8, [.ref yt, .int 0, .int 0, .ref yr, .ref yk, .ref yz, .ref yp, .int 0, .int 0, .int 0, .int 0, .ref yl, .ref yw, .int 0, .int 0, .int 0, .int 0, .int 0, .int 0, .int 0, .int 0, .int (-1), .ref yd, .int 0, .ref ys, .ref yn, .ref ym, .int 0, .ref yf, .ref yo, .ref yh, .ref yb, .int 0, .int 0, .int 0, .int 0, .int 0, .int 0, .int 0, .ref yx, .int 0, .int 0, .int 0])), (yr, .inl (cI, 4668, .inl (jn [0, 4, 0, 0, 0, 0, 0, 0, 0, 0, 0, 0, 0, 0, 0, 0, 0, (-1), 0, 0, 0, 0, 0, 0] R0)))]) [0, 1] rfl
    have hD9 := hD.sub (ws' := [(y, .inr (8, [.ref yt, .int 0, .int 0, .ref yr, .ref yk, .ref yz, .ref yp, .int 0, .int 0, .int 0, .int 0, .ref yl, .ref yw, .int 0, .int 0, .int 0, .int 0, .int 0, .int 0, .int 0, .int 0, .int (-1), .ref yd, .int 0, .ref ys, .ref yn, .ref ym, .int 0, .ref yf, .ref yo, .ref yh, .ref yb, .int 0, .int 0, .int 0, .int 0, .int 0, .int 0, .int 0, .ref yx, .int 0, .int 0, .int 0])), (yr, .inl (cI, 4668, .inl (jn [0, 4, 0, 0, 0, 0, 0, 0, 0, 0, 0, 0, 0, 0, 0, 0, 0, (-1), 0, 0, 0, 0, 0, 0] R0)))]) [0, 1] (by decide) rfl
    exact W.iret (v := 0) hx hb hr (fun t ht hW => ⟨⟨0, (), rfl, e_0.symm, by rw [ht]; exact hP9, va_K.moved hW.alike hK, hD9⟩, hS.F ht⟩) hS.2.2 dX8_now_154
  by_cases c_13 : p1 = 12
  · refine lv_tableIn (off := 154) (tgt := 155) hx hb dX8_now_1 (by rw [c_13]; decide) (by rw [c_13]; decide) (by rw [c_13]; decide) (by decide) ?_
    refine lv_aload_n hx hb dX8_now_155 rfl (lv_at hl 0 rfl) ?_
    refine va_get (D := (dC, dI)) (ci := 8) (v := .ref yr) (C := RX8) (T := TX8) (N := 43) hx hb hts hinX8 hown hK hP 0 rfl rfl 3 (by decide) k_0 (fun _ h9 => h9) rfl dX8_now_156 ?_
    refine lv_bipush (v := 17) hx hb dX8_now_159 (by decide) ?_
    refine za_iald (v := (-1)) hx hb hK hP 1 0 rfl rfl (zin tn_17 (Nat.le_of_ble_eq_true rfl)) (zrd _ tn_17 rfl) dX8_now_161 ?_
    have e_0 : (pfX8_now_r p1) = (-1) := by rw [pfX8_now_r, if_neg c_1, if_neg c_2, if_neg c_3, if_neg c_4, if_neg c_5, if_neg c_6, if_neg c_7, if_neg c_8, if_neg c_9, if_neg c_10, if_neg c_11, if_neg c_12]
    have hP9 := hP.sub (ws' := [(y, .inr (8, [.ref yt, .int 0, .int 0, .ref yr, .ref yk, .ref yz, .ref yp, .int 0, .int 0, .int 0, .int 0, .ref yl, .ref yw, .int 0, .int 0, .int 0, .int 0, .int 0, .int 0, .int 0, .int 0, .int (-1), .ref yd, .int 0, .ref ys, .ref yn, .ref ym, .int 0, .ref yf, .ref yo, .ref yh, .ref yb, .int 0, .int 0, .int 0, .int 0, .int 0, .int 0, .int 0, .ref yx, .int 0, .int 0, .int 0])), (yr, .inl (cI, 4668, .inl (jn [0, 4, 0, 0, 0, 0, 0, 0, 0, 0, 0, 0, 0, 0, 0, 0, 0, (-1), 0, 0, 0, 0, 0, 0] R0)))]) [0, 1] rfl
    have hD9 := hD.sub (ws' := [(y, .inr (8, [.ref yt, .int 0, .int 0, .ref yr, .ref yk, .ref yz, .ref yp, .int 0, .int 0, .int 0, .int 0, .ref yl, .ref yw, .int 0, .int 0, .int 0, .int 0, .int 0, .int 0, .int 0, .int 0, .int (-1), .ref yd, .int 0, .ref ys, .ref yn, .ref ym, .int 0, .ref yf, .ref yo, .ref yh, .ref yb, .int 0, .int 0, .int 0, .int 0, .int 0, .int 0, .int 0, .ref yx, .int 0, .int 0, .int 0])), (yr, .inl (cI, 4668, .inl (jn [0, 4, 0, 0, 0, 0, 0, 0, 0, 0, 0, 0, 0, 0, 0, 0, 0, (-1), 0, 0, 0, 0, 0, 0] R0)))]) [0, 1] (by decide) rfl
    exact W.iret (v := (-1)) hx hb hr (fun t ht hW => ⟨⟨(-1), (), rfl, e_0.symm, by rw [ht]; exact hP9, va_K.moved hW.alike hK, hD9⟩, hS.F ht⟩) hS.2.2 dX8_now_162
  have hout : p1.toInt < 0 ∨ 12 < p1.toInt := by
    have := lv_neT (a := 0) c_1 (by decide)
    have := lv_neT (a := 1) c_2 (by decide)
    have := lv_neT (a := 2) c_3 (by decide)
    have := lv_neT (a := 3) c_4 (by decide)
    have := lv_neT (a := 4) c_5 (by decide)
    have := lv_neT (a := 5) c_6 (by decide)
    have := lv_neT (a := 6) c_7 (by decide)
    have := lv_neT (a := 7) c_8 (by decide)
    have := lv_neT (a := 8) c_9 (by decide)
    have := lv_neT (a := 9) c_10 (by decide)
    have := lv_neT (a := 10) c_11 (by decide)
    have := lv_neT (a := 11) c_12 (by decide)
    have := lv_neT (a := 12) c_13 (by decide)
    omega
  refine lv_tableOut (tgt := 163) hx hb dX8_now_1 hout (by decide) ?_
  refine lv_iconst (v := (-1)) hx hb dX8_now_163 (by decide) ?_
  have e_0 : (pfX8_now_r p1) = (-1) := by rw [pfX8_now_r, if_neg c_1, if_neg c_2, if_neg c_3, if_neg c_4, if_neg c_5, if_neg c_6, if_neg c_7, if_neg c_8, if_neg c_9, if_neg c_10, if_neg c_11, if_neg c_12]
  have hP9 := hP.sub (ws' := [(y, .inr (8, [.ref yt, .int 0, .int 0, .ref yr, .ref yk, .ref yz, .ref yp, .int 0, .int 0, .int 0, .int 0, .ref yl, .ref yw, .int 0, .int 0, .int 0, .int 0, .int 0, .int 0, .int 0, .int 0, .int (-1), .ref yd, .int 0, .ref ys, .ref yn, .ref ym, .int 0, .ref yf, .ref yo, .ref yh, .ref yb, .int 0, .int 0, .int 0, .int 0, .int 0, .int 0, .int 0, .ref yx, .int 0, .int 0, .int 0])), (yr, .inl (cI, 4668, .inl (jn [0, 4, 0, 0, 0, 0, 0, 0, 0, 0, 0, 0, 0, 0, 0, 0, 0, (-1), 0, 0, 0, 0, 0, 0] R0)))]) [0, 1] rfl
  have hD9 := hD.sub (ws' := [(y, .inr (8, [.ref yt, .int 0, .int 0, .ref yr, .ref yk, .ref yz, .ref yp, .int 0, .int 0, .int 0, .int 0, .ref yl, .ref yw, .int 0, .int 0, .int 0, .int 0, .int 0, .int 0, .int 0, .int 0, .int (-1), .ref yd, .int 0, .ref ys, .ref yn, .ref ym, .int 0, .ref yf, .ref yo, .ref yh, .ref yb, .int 0, .int 0, .int 0, .int 0, .int 0, .int 0, .int 0, .ref yx, .int 0, .int 0, .int 0])), (yr, .inl (cI, 4668, .inl (jn [0, 4, 0, 0, 0, 0, 0, 0, 0, 0, 0, 0, 0, 0, 0, 0, 0, (-1), 0, 0, 0, 0, 0, 0] R0)))]) [0, 1] (by decide) rfl
  exact W.iret (v := (-1)) hx hb hr (fun t ht hW => ⟨⟨(-1), (), rfl, e_0.symm, by rw [ht]; exact hP9, va_K.moved hW.alike hK, hD9⟩, hS.F ht⟩) hS.2.2 dX8_now_164

set_option maxHeartbeats 4000000 in
set_option maxRecDepth 100000 in
theorem kkX8_walked (l : Launch) (dC : Nat → ClassId) (dI : Nat → Nat → Nat) (cI cB cZ cR : ClassId) (sz : Nat) (y : Nat) (yt : Nat) (yr : Nat) (yk : Nat) (yz : Nat) (yp : Nat) (yl : Nat) (yw : Nat) (yd : Nat) (ys : Nat) (yn : Nat) (ym : Nat) (yf : Nat) (yo : Nat) (yh : Nat) (yb : Nat) (yx : Nat) (p1 : Int32) : Met l yX8_walked (.code yX8_walked cX8_walked 2 (some .int) :: wsL_law) ({ frames := 1, cells := 0, slots := 0, locals := 22 }) (zPc dC dI (zT cI cB cZ cR) [.ref y, .int p1] sz [(y, .inr (8, [.ref yt, .int 0, .int 0, .ref yr, .ref yk, .ref yz, .ref yp, .int 0, .int 0, .int 0, .int 0, .ref yl, .ref yw, .int 0, .int 0, .int 0, .int 0, .int 0, .int 0, .int 0, .int 0, .int (-1), .ref yd, .int 0, .ref ys, .ref yn, .ref ym, .int 0, .ref yf, .ref yo, .ref yh, .ref yb, .int 0, .int 0, .int 0, .int 0, .int 0, .int 0, .int 0, .ref yx, .int 0, .int 0, .int 0]))]) (va_Qi (fun (r : Int32) (_ : Unit) => r = (-1)) (fun _ : Unit => zB dC dI (zT cI cB cZ cR) (va_A [(y, .inr (8, [.ref yt, .int 0, .int 0, .ref yr, .ref yk, .ref yz, .ref yp, .int 0, .int 0, .int 0, .int 0, .ref yl, .ref yw, .int 0, .int 0, .int 0, .int 0, .int 0, .int 0, .int 0, .int 0, .int (-1), .ref yd, .int 0, .ref ys, .ref yn, .ref ym, .int 0, .ref yf, .ref yo, .ref yh, .ref yb, .int 0, .int 0, .int 0, .int 0, .int 0, .int 0, .int 0, .ref yx, .int 0, .int 0, .int 0]))] sz) [(y, .inr (8, [.ref yt, .int 0, .int 0, .ref yr, .ref yk, .ref yz, .ref yp, .int 0, .int 0, .int 0, .int 0, .ref yl, .ref yw, .int 0, .int 0, .int 0, .int 0, .int 0, .int 0, .int 0, .int 0, .int (-1), .ref yd, .int 0, .ref ys, .ref yn, .ref ym, .int 0, .ref yf, .ref yo, .ref yh, .ref yb, .int 0, .int 0, .int 0, .int 0, .int 0, .int 0, .int 0, .ref yx, .int 0, .int 0, .int 0]))]) (va_A [(y, .inr (8, [.ref yt, .int 0, .int 0, .ref yr, .ref yk, .ref yz, .ref yp, .int 0, .int 0, .int 0, .int 0, .ref yl, .ref yw, .int 0, .int 0, .int 0, .int 0, .int 0, .int 0, .int 0, .int 0, .int (-1), .ref yd, .int 0, .ref ys, .ref yn, .ref ym, .int 0, .ref yf, .ref yo, .ref yh, .ref yb, .int 0, .int 0, .int 0, .int 0, .int 0, .int 0, .int 0, .ref yx, .int 0, .int 0, .int 0]))] sz)) 0 0 (va_A [(y, .inr (8, [.ref yt, .int 0, .int 0, .ref yr, .ref yk, .ref yz, .ref yp, .int 0, .int 0, .int 0, .int 0, .ref yl, .ref yw, .int 0, .int 0, .int 0, .int 0, .int 0, .int 0, .int 0, .int 0, .int (-1), .ref yd, .int 0, .ref ys, .ref yn, .ref ym, .int 0, .ref yf, .ref yo, .ref yh, .ref yb, .int 0, .int 0, .int 0, .int 0, .int 0, .int 0, .int 0, .ref yx, .int 0, .int 0, .int 0]))] sz) := by
  refine Met.ofW (cc := cX8_walked) (maxL := 2) (ret := (some .int)) (by decide) rfl ?_
  intro p e s m args below meth c s₁ B hml hv
  obtain ⟨rfl, hsz, hP, hK, hD0, hN⟩ := hv
  have hx := B.exec
  have hb := B.bytes
  have hr := B.returns
  have hts := atoms_spec (ws := (.code yX8_walked cX8_walked 2 (some .int) :: wsL_law)) B.pre
  have hown : s.vm.findClass RX8 = some m.cls := findClass_of_methodNamed B.named
  have hlocks := B.notSynchronized
  have hinX8 : ∀ w ∈ u_ws RX8 TX8 43, w ∈ (.code yX8_walked cX8_walked 2 (some .int) :: wsL_law) := fun w h => List.mem_cons_of_mem _ (inlX8 w h)
  have k_0 := hts (.fieldLink RX8 228 "RingMarksModel" "walkedMany" "I") (List.mem_cons_of_mem _ wm_497)
  subst hsz
  have hD := hD0.self (sz := s.heap.size)
  generalize hAe : va_A [(y, .inr (8, [.ref yt, .int 0, .int 0, .ref yr, .ref yk, .ref yz, .ref yp, .int 0, .int 0, .int 0, .int 0, .ref yl, .ref yw, .int 0, .int 0, .int 0, .int 0, .int 0, .int 0, .int 0, .int 0, .int (-1), .ref yd, .int 0, .ref ys, .ref yn, .ref ym, .int 0, .ref yf, .ref yo, .ref yh, .ref yb, .int 0, .int 0, .int 0, .int 0, .int 0, .int 0, .int 0, .ref yx, .int 0, .int 0, .int 0]))] s.heap.size = A at hD ⊢
  have hA : ∀ q : Nat, s.heap.size ≤ q → A q := fun q h => by rw [← hAe]; exact Or.inr h
  have hP : va_P (dC, dI) vwCl [(y, .inr (8, [.ref yt, .int 0, .int 0, .ref yr, .ref yk, .ref yz, .ref yp, .int 0, .int 0, .int 0, .int 0, .ref yl, .ref yw, .int 0, .int 0, .int 0, .int 0, .int 0, .int 0, .int 0, .int 0, .int (-1), .ref yd, .int 0, .ref ys, .ref yn, .ref ym, .int 0, .ref yf, .ref yo, .ref yh, .ref yb, .int 0, .int 0, .int 0, .int 0, .int 0, .int 0, .int 0, .ref yx, .int 0, .int 0, .int 0]))] s.heap := hP
  have hl := lv_entry ([.ref y, .int p1]) (n := 2) (Nat.le_of_ble_eq_true rfl)
  rw [lg_entry_eq]
  generalize (lg_sl ([.ref y, .int p1]) ++ List.replicate (2 - (lg_sl ([.ref y, .int p1])).length) Slot.unset).toArray = ls at hl ⊢
  have hl : lv_has ls 2 [(0, .ref y), (1, .int p1)] := hl
  obtain ⟨H, hH⟩ : ∃ H, H = s.heap := ⟨_, rfl⟩
  rw [← hH] at hP ⊢
  have hS : va_S A s.heap H [] := by rw [hH]; exact va_S.rf
  refine lv_iload_n hx hb dX8_walked_0 rfl (lv_at hl 1 rfl) ?_
  refine lv_iconst (v := 0) hx hb dX8_walked_1 (by decide) ?_
  refine lv_aload_n hx hb dX8_walked_2 rfl (lv_at hl 0 rfl) ?_
  refine va_get (D := (dC, dI)) (ci := 8) (v := .int 0) (C := RX8) (T := TX8) (N := 43) hx hb hts hinX8 hown hK hP 0 rfl rfl 14 (by decide) k_0 (fun _ h9 => h9) rfl dX8_walked_3 ?_
  refine lv_iconst (v := 1) hx hb dX8_walked_6 (by decide) ?_
  refine lv_isub hx hb dX8_walked_7 ?_
  refine tp (y := (-1)) (by decide) ?_
  refine zcSi (As := [.int p1, .int 0, .int (-1)]) (rest := []) (wr := [(y, .inr (8, [.ref yt, .int 0, .int 0, .ref yr, .ref yk, .ref yz, .ref yp, .int 0, .int 0, .int 0, .int 0, .ref yl, .ref yw, .int 0, .int 0, .int 0, .int 0, .int 0, .int 0, .int 0, .int 0, .int (-1), .ref yd, .int 0, .ref ys, .ref yn, .ref ym, .int 0, .ref yf, .ref yo, .ref yh, .ref yb, .int 0, .int 0, .int 0, .int 0, .int 0, .int 0, .int 0, .ref yx, .int 0, .int 0, .int 0]))]) ⟨hx, hb, hml, hown, hts⟩ (kkX8_isIn l dC dI cI cB cZ cR H.size p1 0 (-1) ) (va_cwS 3 hts (zgS wm_191 wm_192 wm_5 wm_193) rfl rfl rfl (by decide +kernel) ⟨Nat.le_of_ble_eq_true rfl, Nat.le_of_ble_eq_true rfl⟩) hN hK hP hD hS hA [] [0] rfl rfl ⟨rfl, rfl⟩ (by decide) rfl hl.1 rfl (Nat.le_of_ble_eq_true rfl) dX8_walked_8 ⟨Nat.le_of_ble_eq_true rfl, Nat.le_of_ble_eq_true rfl⟩ (fun r u hu H locs hP hD hS => ?_)
  have hu : r = (pfX8_isIn_r p1 0 (-1)) := hu
  subst hu
  have hP : va_P (dC, dI) vwCl [(y, .inr (8, [.ref yt, .int 0, .int 0, .ref yr, .ref yk, .ref yz, .ref yp, .int 0, .int 0, .int 0, .int 0, .ref yl, .ref yw, .int 0, .int 0, .int 0, .int 0, .int 0, .int 0, .int 0, .int 0, .int (-1), .ref yd, .int 0, .ref ys, .ref yn, .ref ym, .int 0, .ref yf, .ref yo, .ref yh, .ref yb, .int 0, .int 0, .int 0, .int 0, .int 0, .int 0, .int 0, .ref yx, .int 0, .int 0, .int 0]))] H := hP
  have hD : va_D A [(y, .inr (8, [.ref yt, .int 0, .int 0, .ref yr, .ref yk, .ref yz, .ref yp, .int 0, .int 0, .int 0, .int 0, .ref yl, .ref yw, .int 0, .int 0, .int 0, .int 0, .int 0, .int 0, .int 0, .int 0, .int (-1), .ref yd, .int 0, .ref ys, .ref yn, .ref ym, .int 0, .ref yf, .ref yo, .ref yh, .ref yb, .int 0, .int 0, .int 0, .int 0, .int 0, .int 0, .int 0, .ref yx, .int 0, .int 0, .int 0]))] := hD
  refine tp (y := 0) (isIn_m1 _) ?_
  refine lv_if_eq (tgt := 23) hx hb dX8_walked_11 (by decide) (fun _ => ?_) (fun c => absurd (by decide) c)
  refine lv_iconst (v := (-1)) hx hb dX8_walked_23 (by decide) ?_
  have hP9 := hP.sub (ws' := [(y, .inr (8, [.ref yt, .int 0, .int 0, .ref yr, .ref yk, .ref yz, .ref yp, .int 0, .int 0, .int 0, .int 0, .ref yl, .ref yw, .int 0, .int 0, .int 0, .int 0, .int 0, .int 0, .int 0, .int 0, .int (-1), .ref yd, .int 0, .ref ys, .ref yn, .ref ym, .int 0, .ref yf, .ref yo, .ref yh, .ref yb, .int 0, .int 0, .int 0, .int 0, .int 0, .int 0, .int 0, .ref yx, .int 0, .int 0, .int 0]))]) [0] rfl
  have hD9 := hD.sub (ws' := [(y, .inr (8, [.ref yt, .int 0, .int 0, .ref yr, .ref yk, .ref yz, .ref yp, .int 0, .int 0, .int 0, .int 0, .ref yl, .ref yw, .int 0, .int 0, .int 0, .int 0, .int 0, .int 0, .int 0, .int 0, .int (-1), .ref yd, .int 0, .ref ys, .ref yn, .ref ym, .int 0, .ref yf, .ref yo, .ref yh, .ref yb, .int 0, .int 0, .int 0, .int 0, .int 0, .int 0, .int 0, .ref yx, .int 0, .int 0, .int 0]))]) [0] (by decide) rfl
  exact W.iret (v := (-1)) hx hb hr (fun t ht hW => ⟨⟨(-1), (), rfl, rfl, by rw [ht]; exact hP9, va_K.moved hW.alike hK, hD9⟩, hS.F ht⟩) hS.2.2 dX8_walked_24

def pfX8_isDue_r (p1 : Int32) (p2 : Int32) (p3 : Int32) : Int32 := if (((p3 - p2) + 16) - ((p3 - p2) + 16) / 16 * 16) ≤ ((((p3 - p1) - 1) + 32) - (((p3 - p1) - 1) + 32) / 16 * 16) then 0 else 1
set_option maxHeartbeats 4000000 in
set_option maxRecDepth 100000 in
theorem kkX8_isDue (l : Launch) (dC : Nat → ClassId) (dI : Nat → Nat → Nat) (cI cB cZ cR : ClassId) (sz : Nat) (p1 : Int32) (p2 : Int32) (p3 : Int32) : Met l yX8_isDue (.code yX8_isDue cX8_isDue 4 (some .int) :: wsL_law) ({ frames := 0, cells := 0, slots := 0, locals := 0 }) (zPc dC dI (zT cI cB cZ cR) [.int p1, .int p2, .int p3, .int 16] sz []) (va_Qi (fun (r : Int32) (_ : Unit) => r = (pfX8_isDue_r p1 p2 p3)) (fun _ : Unit => zB dC dI (zT cI cB cZ cR) (va_A [] sz) []) (va_A [] sz)) 0 0 (va_A [] sz) := by
  refine Met.ofW (cc := cX8_isDue) (maxL := 4) (ret := (some .int)) (by decide) rfl ?_
  intro p e s m args below meth c s₁ B hml hv
  obtain ⟨rfl, hsz, hP, hK, hD0, hN⟩ := hv
  have hx := B.exec
  have hb := B.bytes
  have hr := B.returns
  have hts := atoms_spec (ws := (.code yX8_isDue cX8_isDue 4 (some .int) :: wsL_law)) B.pre
  have hown : s.vm.findClass RX8 = some m.cls := findClass_of_methodNamed B.named
  have hlocks := B.notSynchronized
  subst hsz
  have hD := hD0.self (sz := s.heap.size)
  generalize hAe : va_A [] s.heap.size = A at hD ⊢
  have hA : ∀ q : Nat, s.heap.size ≤ q → A q := fun q h => by rw [← hAe]; exact Or.inr h
  have hP : va_P (dC, dI) vwCl [] s.heap := hP
  have hl := lv_entry ([.int p1, .int p2, .int p3, .int 16]) (n := 4) (Nat.le_of_ble_eq_true rfl)
  rw [lg_entry_eq]
  generalize (lg_sl ([.int p1, .int p2, .int p3, .int 16]) ++ List.replicate (4 - (lg_sl ([.int p1, .int p2, .int p3, .int 16])).length) Slot.unset).toArray = ls at hl ⊢
  have hl : lv_has ls 4 [(0, .int p1), (1, .int p2), (2, .int p3), (3, .int 16)] := hl
  obtain ⟨H, hH⟩ : ∃ H, H = s.heap := ⟨_, rfl⟩
  rw [← hH] at hP ⊢
  have hS : va_S A s.heap H [] := by rw [hH]; exact va_S.rf
  refine lv_iload_n hx hb dX8_isDue_0 rfl (lv_at hl 2 rfl) ?_
  refine lv_iload_n hx hb dX8_isDue_1 rfl (lv_at hl 0 rfl) ?_
  refine lv_isub hx hb dX8_isDue_2 ?_
  refine lv_iconst (v := 1) hx hb dX8_isDue_3 (by decide) ?_
  refine lv_isub hx hb dX8_isDue_4 ?_
  refine lv_iconst (v := 2) hx hb dX8_isDue_5 (by decide) ?_
  refine lv_iload_n hx hb dX8_isDue_6 rfl (lv_at hl 3 rfl) ?_
  refine lv_imul hx hb dX8_isDue_7 ?_
  refine tp (y := 32) (by decide) ?_
  refine lv_iadd hx hb dX8_isDue_8 ?_
  refine lv_iload_n hx hb dX8_isDue_9 rfl (lv_at hl 3 rfl) ?_
  refine lv_irem hx hb dX8_isDue_10 (by decide) ?_
  refine lv_iload_n hx hb dX8_isDue_11 rfl (lv_at hl 2 rfl) ?_
  refine lv_iload_n hx hb dX8_isDue_12 rfl (lv_at hl 1 rfl) ?_
  refine lv_isub hx hb dX8_isDue_13 ?_
  refine lv_iload_n hx hb dX8_isDue_14 rfl (lv_at hl 3 rfl) ?_
  refine lv_iadd hx hb dX8_isDue_15 ?_
  refine lv_iload_n hx hb dX8_isDue_16 rfl (lv_at hl 3 rfl) ?_
  refine lv_irem hx hb dX8_isDue_17 (by decide) ?_
  refine lv_icmp_ge (tgt := 25) hx hb dX8_isDue_18 (by decide) (fun c_1 => ?_) (fun c_1 => ?_)
  · refine lv_iconst (v := 0) hx hb dX8_isDue_25 (by decide) ?_
    have e_0 : (pfX8_isDue_r p1 p2 p3) = 0 := by rw [pfX8_isDue_r, if_pos c_1]
    have hP9 := hP.sub (ws' := []) [] rfl
    have hD9 := hD.sub (ws' := []) [] (by decide) rfl
    exact W.iret (v := 0) hx hb hr (fun t ht hW => ⟨⟨0, (), rfl, e_0.symm, by rw [ht]; exact hP9, va_K.moved hW.alike hK, hD9⟩, hS.F ht⟩) hS.2.2 dX8_isDue_26
  · refine lv_iconst (v := 1) hx hb dX8_isDue_21 (by decide) ?_
    refine lv_goto (tgt := 26) hx hb dX8_isDue_22 (by decide) ?_
    have e_0 : (pfX8_isDue_r p1 p2 p3) = 1 := by rw [pfX8_isDue_r, if_neg c_1]
    have hP9 := hP.sub (ws' := []) [] rfl
    have hD9 := hD.sub (ws' := []) [] (by decide) rfl
    exact W.iret (v := 1) hx hb hr (fun t ht hW => ⟨⟨1, (), rfl, e_0.symm, by rw [ht]; exact hP9, va_K.moved hW.alike hK, hD9⟩, hS.F ht⟩) hS.2.2 dX8_isDue_26

def pfX8_due_r (p1 : Int32) (p2 : Int32) (p3 : Int32) : Int32 := if (pfX8_isIn_r p1 0 15) = 0 then (-1) else (if (pfX8_isIn_r p2 0 15) = 0 then (-1) else (if (pfX8_isIn_r p3 0 15) = 0 then (-1) else (pfX8_isDue_r p1 p2 p3)))
set_option maxHeartbeats 4000000 in
set_option maxRecDepth 100000 in
theorem kkX8_due (l : Launch) (dC : Nat → ClassId) (dI : Nat → Nat → Nat) (cI cB cZ cR : ClassId) (sz : Nat) (y : Nat) (yt : Nat) (yr : Nat) (yk : Nat) (yz : Nat) (yp : Nat) (yl : Nat) (yw : Nat) (yd : Nat) (ys : Nat) (yn : Nat) (ym : Nat) (yf : Nat) (yo : Nat) (yh : Nat) (yb : Nat) (yx : Nat) (p1 : Int32) (p2 : Int32) (p3 : Int32) : Met l yX8_due (.code yX8_due cX8_due 5 (some .int) :: wsL_law) ({ frames := 2, cells := 0, slots := 0, locals := 40 }) (zPc dC dI (zT cI cB cZ cR) [.ref y, .int p1, .int p2, .int p3] sz [(y, .inr (8, [.ref yt, .int 0, .int 0, .ref yr, .ref yk, .ref yz, .ref yp, .int 0, .int 0, .int 0, .int 0, .ref yl, .ref yw, .int 0, .int 0, .int 0, .int 0, .int 0, .int 0, .int 0, .int 0, .int (-1), .ref yd, .int 0, .ref ys, .ref yn, .ref ym, .int 0, .ref yf, .ref yo, .ref yh, .ref yb, .int 0, .int 0, .int 0, .int 0, .int 0, .int 0, .int 0, .ref yx, .int 0, .int 0, .int 0])), (yr, .inl (cI, 4668, .inl (jn [0, 4, 0, 0, 0, 0, 0, 0, 0, 0, 0, 0, 0, 0, 0, 0, 0, (-1), 0, 0, 0, 0, 0, 0] R0)))]) (va_Qi (fun (r : Int32) (_ : Unit) => r = (pfX8_due_r p1 p2 p3)) (fun _ : Unit => zB dC dI (zT cI cB cZ cR) (va_A [(y, .inr (8, [.ref yt, .int 0, .int 0, .ref yr, .ref yk, .ref yz, .ref yp, .int 0, .int 0, .int 0, .int 0, .ref yl, .ref yw, .int 0, .int 0, .int 0, .int 0, .int 0, .int 0, .int 0, .int 0, .int (-1), .ref yd, .int 0, .ref ys, .ref yn, .ref ym, .int 0, .ref yf, .ref yo, .ref yh, .ref yb, .int 0, .int 0, .int 0, .int 0, .int 0, .int 0, .int 0, .ref yx, .int 0, .int 0, .int 0])), (yr, .inl (cI, 4668, .inl (jn [0, 4, 0, 0, 0, 0, 0, 0, 0, 0, 0, 0, 0, 0, 0, 0, 0, (-1), 0, 0, 0, 0, 0, 0] R0)))] sz) [(y, .inr (8, [.ref yt, .int 0, .int 0, .ref yr, .ref yk, .ref yz, .ref yp, .int 0, .int 0, .int 0, .int 0, .ref yl, .ref yw, .int 0, .int 0, .int 0, .int 0, .int 0, .int 0, .int 0, .int 0, .int (-1), .ref yd, .int 0, .ref ys, .ref yn, .ref ym, .int 0, .ref yf, .ref yo, .ref yh, .ref yb, .int 0, .int 0, .int 0, .int 0, .int 0, .int 0, .int 0, .ref yx, .int 0, .int 0, .int 0])), (yr, .inl (cI, 4668, .inl (jn [0, 4, 0, 0, 0, 0, 0, 0, 0, 0, 0, 0, 0, 0, 0, 0, 0, (-1), 0, 0, 0, 0, 0, 0] R0)))]) (va_A [(y, .inr (8, [.ref yt, .int 0, .int 0, .ref yr, .ref yk, .ref yz, .ref yp, .int 0, .int 0, .int 0, .int 0, .ref yl, .ref yw, .int 0, .int 0, .int 0, .int 0, .int 0, .int 0, .int 0, .int 0, .int (-1), .ref yd, .int 0, .ref ys, .ref yn, .ref ym, .int 0, .ref yf, .ref yo, .ref yh, .ref yb, .int 0, .int 0, .int 0, .int 0, .int 0, .int 0, .int 0, .ref yx, .int 0, .int 0, .int 0])), (yr, .inl (cI, 4668, .inl (jn [0, 4, 0, 0, 0, 0, 0, 0, 0, 0, 0, 0, 0, 0, 0, 0, 0, (-1), 0, 0, 0, 0, 0, 0] R0)))] sz)) 0 0 (va_A [(y, .inr (8, [.ref yt, .int 0, .int 0, .ref yr, .ref yk, .ref yz, .ref yp, .int 0, .int 0, .int 0, .int 0, .ref yl, .ref yw, .int 0, .int 0, .int 0, .int 0, .int 0, .int 0, .int 0, .int 0, .int (-1), .ref yd, .int 0, .ref ys, .ref yn, .ref ym, .int 0, .ref yf, .ref yo, .ref yh, .ref yb, .int 0, .int 0, .int 0, .int 0, .int 0, .int 0, .int 0, .ref yx, .int 0, .int 0, .int 0])), (yr, .inl (cI, 4668, .inl (jn [0, 4, 0, 0, 0, 0, 0, 0, 0, 0, 0, 0, 0, 0, 0, 0, 0, (-1), 0, 0, 0, 0, 0, 0] R0)))] sz) := by
  refine Met.ofW (cc := cX8_due) (maxL := 5) (ret := (some .int)) (by decide) rfl ?_
  intro p e s m args below meth c s₁ B hml hv
  obtain ⟨rfl, hsz, hP, hK, hD0, hN⟩ := hv
  have hx := B.exec
  have hb := B.bytes
  have hr := B.returns
  have hts := atoms_spec (ws := (.code yX8_due cX8_due 5 (some .int) :: wsL_law)) B.pre
  have hown : s.vm.findClass RX8 = some m.cls := findClass_of_methodNamed B.named
  have hlocks := B.notSynchronized
  subst hsz
  have hD := hD0.self (sz := s.heap.size)
  generalize hAe : va_A [(y, .inr (8, [.ref yt, .int 0, .int 0, .ref yr, .ref yk, .ref yz, .ref yp, .int 0, .int 0, .int 0, .int 0, .ref yl, .ref yw, .int 0, .int 0, .int 0, .int 0, .int 0, .int 0, .int 0, .int 0, .int (-1), .ref yd, .int 0, .ref ys, .ref yn, .ref ym, .int 0, .ref yf, .ref yo, .ref yh, .ref yb, .int 0, .int 0, .int 0, .int 0, .int 0, .int 0, .int 0, .ref yx, .int 0, .int 0, .int 0])), (yr, .inl (cI, 4668, .inl (jn [0, 4, 0, 0, 0, 0, 0, 0, 0, 0, 0, 0, 0, 0, 0, 0, 0, (-1), 0, 0, 0, 0, 0, 0] R0)))] s.heap.size = A at hD ⊢
  have hA : ∀ q : Nat, s.heap.size ≤ q → A q := fun q h => by rw [← hAe]; exact Or.inr h
  have hP : va_P (dC, dI) vwCl [(y, .inr (8, [.ref yt, .int 0, .int 0, .ref yr, .ref yk, .ref yz, .ref yp, .int 0, .int 0, .int 0, .int 0, .ref yl, .ref yw, .int 0, .int 0, .int 0, .int 0, .int 0, .int 0, .int 0, .int 0, .int (-1), .ref yd, .int 0, .ref ys, .ref yn, .ref ym, .int 0, .ref yf, .ref yo, .ref yh, .ref yb, .int 0, .int 0, .int 0, .int 0, .int 0, .int 0, .int 0, .ref yx, .int 0, .int 0, .int 0])), (yr, .inl (cI, 4668, .inl (jn [0, 4, 0, 0, 0, 0, 0, 0, 0, 0, 0, 0, 0, 0, 0, 0, 0, (-1), 0, 0, 0, 0, 0, 0] R0)))] s.heap := hP
  have hl := lv_entry ([.ref y, .int p1, .int p2, .int p3]) (n := 5) (Nat.le_of_ble_eq_true rfl)
  rw [lg_entry_eq]
  generalize (lg_sl ([.ref y, .int p1, .int p2, .int p3]) ++ List.replicate (5 - (lg_sl ([.ref y, .int p1, .int p2, .int p3])).length) Slot.unset).toArray = ls at hl ⊢
  have hl : lv_has ls 5 [(0, .ref y), (1, .int p1), (2, .int p2), (3, .int p3)] := hl
  obtain ⟨H, hH⟩ : ∃ H, H = s.heap := ⟨_, rfl⟩
  rw [← hH] at hP ⊢
  have hS : va_S A s.heap H [] := by rw [hH]; exact va_S.rf
  refine lv_aload_n hx hb dX8_due_0 rfl (lv_at hl 0 rfl) ?_
  refine zcVi (As := []) (rest := []) (wr := []) ⟨hx, hb, hml, hown, hts⟩ (kkX8_wrapsAt l dC dI cI cB cZ cR H.size y yt yr yk yz yp yl yw yd ys yn ym yf yo yh yb yx 0 0 0 0 0 0 0 0 0 0 0 0 0 0 (-1) 0 0 0 0 0 0 0 0 0 0 0 0 0 0 0 0 0 0 0 0 0 0 0 0 0 0 (-1) 0 0 0 0 0 0 R0 ) (cwV 0 hts (zgV wm_407 wm_408 wm_409 wm_5 wm_410) rfl rfl rfl (by decide +kernel) ⟨Nat.le_of_ble_eq_true rfl, Nat.le_of_ble_eq_true rfl⟩) hN hK hP hD hS hA [0, 1] [] rfl rfl ⟨rfl, rfl⟩ (by decide) (ci := 8) rfl rfl rfl rfl hl.1 rfl (Nat.le_of_ble_eq_true rfl) dX8_due_1 ⟨Nat.le_of_ble_eq_true rfl, Nat.le_of_ble_eq_true rfl⟩ (fun r u hu H locs hP hD hS => ?_)
  have hu : r = 16 := hu
  subst hu
  have hP : va_P (dC, dI) vwCl [(y, .inr (8, [.ref yt, .int 0, .int 0, .ref yr, .ref yk, .ref yz, .ref yp, .int 0, .int 0, .int 0, .int 0, .ref yl, .ref yw, .int 0, .int 0, .int 0, .int 0, .int 0, .int 0, .int 0, .int 0, .int (-1), .ref yd, .int 0, .ref ys, .ref yn, .ref ym, .int 0, .ref yf, .ref yo, .ref yh, .ref yb, .int 0, .int 0, .int 0, .int 0, .int 0, .int 0, .int 0, .ref yx, .int 0, .int 0, .int 0])), (yr, .inl (cI, 4668, .inl (jn [0, 4, 0, 0, 0, 0, 0, 0, 0, 0, 0, 0, 0, 0, 0, 0, 0, (-1), 0, 0, 0, 0, 0, 0] R0)))] H := hP
  have hD : va_D A [(y, .inr (8, [.ref yt, .int 0, .int 0, .ref yr, .ref yk, .ref yz, .ref yp, .int 0, .int 0, .int 0, .int 0, .ref yl, .ref yw, .int 0, .int 0, .int 0, .int 0, .int 0, .int 0, .int 0, .int 0, .int (-1), .ref yd, .int 0, .ref ys, .ref yn, .ref ym, .int 0, .ref yf, .ref yo, .ref yh, .ref yb, .int 0, .int 0, .int 0, .int 0, .int 0, .int 0, .int 0, .ref yx, .int 0, .int 0, .int 0])), (yr, .inl (cI, 4668, .inl (jn [0, 4, 0, 0, 0, 0, 0, 0, 0, 0, 0, 0, 0, 0, 0, 0, 0, (-1), 0, 0, 0, 0, 0, 0] R0)))] := hD
  refine lv_istore (lv' := [(4, .int 16), (0, .ref y), (1, .int p1), (2, .int p2), (3, .int p3)]) hx hb dX8_due_4 hl (by decide) rfl (fun ls hl => ?_)
  refine lv_iload_n hx hb dX8_due_6 rfl (lv_at hl 2 rfl) ?_
  refine lv_iconst (v := 0) hx hb dX8_due_7 (by decide) ?_
  refine lv_iload hx hb dX8_due_8 (lv_at hl 0 rfl) ?_
  refine lv_iconst (v := 1) hx hb dX8_due_10 (by decide) ?_
  refine lv_isub hx hb dX8_due_11 ?_
  refine tp (y := 15) (by decide) ?_
  refine zcSi (As := [.int p1, .int 0, .int 15]) (rest := []) (wr := [(y, .inr (8, [.ref yt, .int 0, .int 0, .ref yr, .ref yk, .ref yz, .ref yp, .int 0, .int 0, .int 0, .int 0, .ref yl, .ref yw, .int 0, .int 0, .int 0, .int 0, .int 0, .int 0, .int 0, .int 0, .int (-1), .ref yd, .int 0, .ref ys, .ref yn, .ref ym, .int 0, .ref yf, .ref yo, .ref yh, .ref yb, .int 0, .int 0, .int 0, .int 0, .int 0, .int 0, .int 0, .ref yx, .int 0, .int 0, .int 0])), (yr, .inl (cI, 4668, .inl (jn [0, 4, 0, 0, 0, 0, 0, 0, 0, 0, 0, 0, 0, 0, 0, 0, 0, (-1), 0, 0, 0, 0, 0, 0] R0)))]) ⟨hx, hb, hml, hown, hts⟩ (kkX8_isIn l dC dI cI cB cZ cR H.size p1 0 15 ) (va_cwS 3 hts (zgS wm_191 wm_192 wm_5 wm_193) rfl rfl rfl (by decide +kernel) ⟨Nat.le_of_ble_eq_true rfl, Nat.le_of_ble_eq_true rfl⟩) hN hK hP hD hS hA [] [0, 1] rfl rfl ⟨rfl, rfl⟩ (by decide) rfl hl.1 rfl (Nat.le_of_ble_eq_true rfl) dX8_due_12 ⟨Nat.le_of_ble_eq_true rfl, Nat.le_of_ble_eq_true rfl⟩ (fun r u hu H locs hP hD hS => ?_)
  have hu : r = (pfX8_isIn_r p1 0 15) := hu
  subst hu
  have hP : va_P (dC, dI) vwCl [(y, .inr (8, [.ref yt, .int 0, .int 0, .ref yr, .ref yk, .ref yz, .ref yp, .int 0, .int 0, .int 0, .int 0, .ref yl, .ref yw, .int 0, .int 0, .int 0, .int 0, .int 0, .int 0, .int 0, .int 0, .int (-1), .ref yd, .int 0, .ref ys, .ref yn, .ref ym, .int 0, .ref yf, .ref yo, .ref yh, .ref yb, .int 0, .int 0, .int 0, .int 0, .int 0, .int 0, .int 0, .ref yx, .int 0, .int 0, .int 0])), (yr, .inl (cI, 4668, .inl (jn [0, 4, 0, 0, 0, 0, 0, 0, 0, 0, 0, 0, 0, 0, 0, 0, 0, (-1), 0, 0, 0, 0, 0, 0] R0)))] H := hP
  have hD : va_D A [(y, .inr (8, [.ref yt, .int 0, .int 0, .ref yr, .ref yk, .ref yz, .ref yp, .int 0, .int 0, .int 0, .int 0, .ref yl, .ref yw, .int 0, .int 0, .int 0, .int 0, .int 0, .int 0, .int 0, .int 0, .int (-1), .ref yd, .int 0, .ref ys, .ref yn, .ref ym, .int 0, .ref yf, .ref yo, .ref yh, .ref yb, .int 0, .int 0, .int 0, .int 0, .int 0, .int 0, .int 0, .ref yx, .int 0, .int 0, .int 0])), (yr, .inl (cI, 4668, .inl (jn [0, 4, 0, 0, 0, 0, 0, 0, 0, 0, 0, 0, 0, 0, 0, 0, 0, (-1), 0, 0, 0, 0, 0, 0] R0)))] := hD
  refine lv_if_eq (tgt := 53) hx hb dX8_due_15 (by decide) (fun c_1 => ?_) (fun c_1 => ?_)
  · refine lv_iconst (v := (-1)) hx hb dX8_due_53 (by decide) ?_
    have e_0 : (pfX8_due_r p1 p2 p3) = (-1) := by rw [pfX8_due_r, if_pos c_1]
    have hP9 := hP.sub (ws' := [(y, .inr (8, [.ref yt, .int 0, .int 0, .ref yr, .ref yk, .ref yz, .ref yp, .int 0, .int 0, .int 0, .int 0, .ref yl, .ref yw, .int 0, .int 0, .int 0, .int 0, .int 0, .int 0, .int 0, .int 0, .int (-1), .ref yd, .int 0, .ref ys, .ref yn, .ref ym, .int 0, .ref yf, .ref yo, .ref yh, .ref yb, .int 0, .int 0, .int 0, .int 0, .int 0, .int 0, .int 0, .ref yx, .int 0, .int 0, .int 0])), (yr, .inl (cI, 4668, .inl (jn [0, 4, 0, 0, 0, 0, 0, 0, 0, 0, 0, 0, 0, 0, 0, 0, 0, (-1), 0, 0, 0, 0, 0, 0] R0)))]) [0, 1] rfl
    have hD9 := hD.sub (ws' := [(y, .inr (8, [.ref yt, .int 0, .int 0, .ref yr, .ref yk, .ref yz, .ref yp, .int 0, .int 0, .int 0, .int 0, .ref yl, .ref yw, .int 0, .int 0, .int 0, .int 0, .int 0, .int 0, .int 0, .int 0, .int (-1), .ref yd, .int 0, .ref ys, .ref yn, .ref ym, .int 0, .ref yf, .ref yo, .ref yh, .ref yb, .int 0, .int 0, .int 0, .int 0, .int 0, .int 0, .int 0, .ref yx, .int 0, .int 0, .int 0])), (yr, .inl (cI, 4668, .inl (jn [0, 4, 0, 0, 0, 0, 0, 0, 0, 0, 0, 0, 0, 0, 0, 0, 0, (-1), 0, 0, 0, 0, 0, 0] R0)))]) [0, 1] (by decide) rfl
    exact W.iret (v := (-1)) hx hb hr (fun t ht hW => ⟨⟨(-1), (), rfl, e_0.symm, by rw [ht]; exact hP9, va_K.moved hW.alike hK, hD9⟩, hS.F ht⟩) hS.2.2 dX8_due_54
  · refine lv_iload_n hx hb dX8_due_18 rfl (lv_at hl 3 rfl) ?_
    refine lv_iconst (v := 0) hx hb dX8_due_19 (by decide) ?_
    refine lv_iload hx hb dX8_due_20 (lv_at hl 0 rfl) ?_
    refine lv_iconst (v := 1) hx hb dX8_due_22 (by decide) ?_
    refine lv_isub hx hb dX8_due_23 ?_
    refine tp (y := 15) (by decide) ?_
    refine zcSi (As := [.int p2, .int 0, .int 15]) (rest := []) (wr := [(y, .inr (8, [.ref yt, .int 0, .int 0, .ref yr, .ref yk, .ref yz, .ref yp, .int 0, .int 0, .int 0, .int 0, .ref yl, .ref yw, .int 0, .int 0, .int 0, .int 0, .int 0, .int 0, .int 0, .int 0, .int (-1), .ref yd, .int 0, .ref ys, .ref yn, .ref ym, .int 0, .ref yf, .ref yo, .ref yh, .ref yb, .int 0, .int 0, .int 0, .int 0, .int 0, .int 0, .int 0, .ref yx, .int 0, .int 0, .int 0])), (yr, .inl (cI, 4668, .inl (jn [0, 4, 0, 0, 0, 0, 0, 0, 0, 0, 0, 0, 0, 0, 0, 0, 0, (-1), 0, 0, 0, 0, 0, 0] R0)))]) ⟨hx, hb, hml, hown, hts⟩ (kkX8_isIn l dC dI cI cB cZ cR H.size p2 0 15 ) (va_cwS 3 hts (zgS wm_191 wm_192 wm_5 wm_193) rfl rfl rfl (by decide +kernel) ⟨Nat.le_of_ble_eq_true rfl, Nat.le_of_ble_eq_true rfl⟩) hN hK hP hD hS hA [] [0, 1] rfl rfl ⟨rfl, rfl⟩ (by decide) rfl hl.1 rfl (Nat.le_of_ble_eq_true rfl) dX8_due_24 ⟨Nat.le_of_ble_eq_true rfl, Nat.le_of_ble_eq_true rfl⟩ (fun r u hu H locs hP hD hS => ?_)
    have hu : r = (pfX8_isIn_r p2 0 15) := hu
    subst hu
    have hP : va_P (dC, dI) vwCl [(y, .inr (8, [.ref yt, .int 0, .int 0, .ref yr, .ref yk, .ref yz, .ref yp, .int 0, .int 0, .int 0, .int 0, .ref yl, .ref yw, .int 0, .int 0, .int 0, .int 0, .int 0, .int 0, .int 0, .int 0, .int (-1), .ref yd, .int 0, .ref ys, .ref yn, .ref ym, .int 0, .ref yf, .ref yo, .ref yh, .ref yb, .int 0, .int 0, .int 0, .int 0, .int 0, .int 0, .int 0, .ref yx, .int 0, .int 0, .int 0])), (yr, .inl (cI, 4668, .inl (jn [0, 4, 0, 0, 0, 0, 0, 0, 0, 0, 0, 0, 0, 0, 0, 0, 0, (-1), 0, 0, 0, 0, 0, 0] R0)))] H := hP
    have hD : va_D A [(y, .inr (8, [.ref yt, .int 0, .int 0, .ref yr, .ref yk, .ref yz, .ref yp, .int 0, .int 0, .int 0, .int 0, .ref yl, .ref yw, .int 0, .int 0, .int 0, .int 0, .int 0, .int 0, .int 0, .int 0, .int (-1), .ref yd, .int 0, .ref ys, .ref yn, .ref ym, .int 0, .ref yf, .ref yo, .ref yh, .ref yb, .int 0, .int 0, .int 0, .int 0, .int 0, .int 0, .int 0, .ref yx, .int 0, .int 0, .int 0])), (yr, .inl (cI, 4668, .inl (jn [0, 4, 0, 0, 0, 0, 0, 0, 0, 0, 0, 0, 0, 0, 0, 0, 0, (-1), 0, 0, 0, 0, 0, 0] R0)))] := hD
    refine lv_if_eq (tgt := 53) hx hb dX8_due_27 (by decide) (fun c_2 => ?_) (fun c_2 => ?_)
    · refine lv_iconst (v := (-1)) hx hb dX8_due_53 (by decide) ?_
      have e_0 : (pfX8_due_r p1 p2 p3) = (-1) := by rw [pfX8_due_r, if_neg c_1, if_pos c_2]
      have hP9 := hP.sub (ws' := [(y, .inr (8, [.ref yt, .int 0, .int 0, .ref yr, .ref yk, .ref yz, .ref yp, .int 0, .int 0, .int 0, .int 0, .ref yl, .ref yw, .int 0, .int 0, .int 0, .int 0, .int 0, .int 0, .int 0, .int 0, .int (-1), .ref yd, .int 0, .ref ys, .ref yn, .ref ym, .int 0, .ref yf, .ref yo, .ref yh, .ref yb, .int 0, .int 0, .int 0, .int 0, .int 0, .int 0, .int 0, .ref yx, .int 0, .int 0, .int 0])), (yr, .inl (cI, 4668, .inl (jn [0, 4, 0, 0, 0, 0, 0, 0, 0, 0, 0, 0, 0, 0, 0, 0, 0, (-1), 0, 0, 0, 0, 0, 0] R0)))]) [0, 1] rfl
      have hD9 := hD.sub (ws' := [(y, .inr (8, [.ref yt, .int 0, .int 0, .ref yr, .ref yk, .ref yz, .ref yp, .int 0, .int 0, .int 0, .int 0, .ref yl, .ref yw, .int 0, .int 0, .int 0, .int 0, .int 0, .int 0, .int 0, .int 0, .int (-1), .ref yd, .int 0, .ref ys, .ref yn, .ref ym, .int 0, .ref yf, .ref yo, .ref yh, .ref yb, .int 0, .int 0, .int 0, .int 0, .int 0, .int 0, .int 0, .ref yx, .int 0, .int 0, .int 0])), (yr, .inl (cI, 4668, .inl (jn [0, 4, 0, 0, 0, 0, 0, 0, 0, 0, 0, 0, 0, 0, 0, 0, 0, (-1), 0, 0, 0, 0, 0, 0] R0)))]) [0, 1] (by decide) rfl
      exact W.iret (v := (-1)) hx hb hr (fun t ht hW => ⟨⟨(-1), (), rfl, e_0.symm, by rw [ht]; exact hP9, va_K.moved hW.alike hK, hD9⟩, hS.F ht⟩) hS.2.2 dX8_due_54
    · refine lv_iload_n hx hb dX8_due_30 rfl (lv_at hl 4 rfl) ?_
      refine lv_iconst (v := 0) hx hb dX8_due_31 (by decide) ?_
      refine lv_iload hx hb dX8_due_32 (lv_at hl 0 rfl) ?_
      refine lv_iconst (v := 1) hx hb dX8_due_34 (by decide) ?_
      refine lv_isub hx hb dX8_due_35 ?_
      refine tp (y := 15) (by decide) ?_
      refine zcSi (As := [.int p3, .int 0, .int 15]) (rest := []) (wr := [(y, .inr (8, [.ref yt, .int 0, .int 0, .ref yr, .ref yk, .ref yz, .ref yp, .int 0, .int 0, .int 0, .int 0, .ref yl, .ref yw, .int 0, .int 0, .int 0, .int 0, .int 0, .int 0, .int 0, .int 0, .int (-1), .ref yd, .int 0, .ref ys, .ref yn, .ref ym, .int 0, .ref yf, .ref yo, .ref yh, .ref yb, .int 0, .int 0, .int 0, .int 0, .int 0, .int 0, .int 0, .ref yx, .int 0, .int 0, .int 0])), (yr, .inl (cI, 4668, .inl (jn [0, 4, 0, 0, 0, 0, 0, 0, 0, 0, 0, 0, 0, 0, 0, 0, 0, (-1), 0, 0, 0, 0, 0, 0] R0)))]) ⟨hx, hb, hml, hown, hts⟩ (kkX8_isIn l dC dI cI cB cZ cR H.size p3 0 15 ) (va_cwS 3 hts (zgS wm_191 wm_192 wm_5 wm_193) rfl rfl rfl (by decide +kernel) ⟨Nat.le_of_ble_eq_true rfl, Nat.le_of_ble_eq_true rfl⟩) hN hK hP hD hS hA [] [0, 1] rfl rfl ⟨rfl, rfl⟩ (by decide) rfl hl.1 rfl (Nat.le_of_ble_eq_true rfl) dX8_due_36 ⟨Nat.le_of_ble_eq_true rfl, Nat.le_of_ble_eq_true rfl⟩ (fun r u hu H locs hP hD hS => ?_)
      have hu : r = (pfX8_isIn_r p3 0 15) := hu
      subst hu
      have hP : va_P (dC, dI) vwCl [(y, .inr (8, [.ref yt, .int 0, .int 0, .ref yr, .ref yk, .ref yz, .ref yp, .int 0, .int 0, .int 0, .int 0, .ref yl, .ref yw, .int 0, .int 0, .int 0, .int 0, .int 0, .int 0, .int 0, .int 0, .int (-1), .ref yd, .int 0, .ref ys, .ref yn, .ref ym, .int 0, .ref yf, .ref yo, .ref yh, .ref yb, .int 0, .int 0, .int 0, .int 0, .int 0, .int 0, .int 0, .ref yx, .int 0, .int 0, .int 0])), (yr, .inl (cI, 4668, .inl (jn [0, 4, 0, 0, 0, 0, 0, 0, 0, 0, 0, 0, 0, 0, 0, 0, 0, (-1), 0, 0, 0, 0, 0, 0] R0)))] H := hP
      have hD : va_D A [(y, .inr (8, [.ref yt, .int 0, .int 0, .ref yr, .ref yk, .ref yz, .ref yp, .int 0, .int 0, .int 0, .int 0, .ref yl, .ref yw, .int 0, .int 0, .int 0, .int 0, .int 0, .int 0, .int 0, .int 0, .int (-1), .ref yd, .int 0, .ref ys, .ref yn, .ref ym, .int 0, .ref yf, .ref yo, .ref yh, .ref yb, .int 0, .int 0, .int 0, .int 0, .int 0, .int 0, .int 0, .ref yx, .int 0, .int 0, .int 0])), (yr, .inl (cI, 4668, .inl (jn [0, 4, 0, 0, 0, 0, 0, 0, 0, 0, 0, 0, 0, 0, 0, 0, 0, (-1), 0, 0, 0, 0, 0, 0] R0)))] := hD
      refine lv_if_eq (tgt := 53) hx hb dX8_due_39 (by decide) (fun c_3 => ?_) (fun c_3 => ?_)
      · refine lv_iconst (v := (-1)) hx hb dX8_due_53 (by decide) ?_
        have e_0 : (pfX8_due_r p1 p2 p3) = (-1) := by rw [pfX8_due_r, if_neg c_1, if_neg c_2, if_pos c_3]
        have hP9 := hP.sub (ws' := [(y, .inr (8, [.ref yt, .int 0, .int 0, .ref yr, .ref yk, .ref yz, .ref yp, .int 0, .int 0, .int 0, .int 0, .ref yl, .ref yw, .int 0, .int 0, .int 0, .int 0, .int 0, .int 0, .int 0, .int 0, .int (-1), .ref yd, .int 0, .ref ys, .ref yn, .ref ym, .int 0, .ref yf, .ref yo, .ref yh, .ref yb, .int 0, .int 0, .int 0, .int 0, .int 0, .int 0, .int 0, .ref yx, .int 0, .int 0, .int 0])), (yr, .inl (cI, 4668, .inl (jn [0, 4, 0, 0, 0, 0, 0, 0, 0, 0, 0, 0, 0, 0, 0, 0, 0, (-1), 0, 0, 0, 0, 0, 0] R0)))]) [0, 1] rfl
        have hD9 := hD.sub (ws' := [(y, .inr (8, [.ref yt, .int 0, .int 0, .ref yr, .ref yk, .ref yz, .ref yp, .int 0, .int 0, .int 0, .int 0, .ref yl, .ref yw, .int 0, .int 0, .int 0, .int 0, .int 0, .int 0, .int 0, .int 0, .int (-1), .ref yd, .int 0, .ref ys, .ref yn, .ref ym, .int 0, .ref yf, .ref yo, .ref yh, .ref yb, .int 0, .int 0, .int 0, .int 0, .int 0, .int 0, .int 0, .ref yx, .int 0, .int 0, .int 0])), (yr, .inl (cI, 4668, .inl (jn [0, 4, 0, 0, 0, 0, 0, 0, 0, 0, 0, 0, 0, 0, 0, 0, 0, (-1), 0, 0, 0, 0, 0, 0] R0)))]) [0, 1] (by decide) rfl
        exact W.iret (v := (-1)) hx hb hr (fun t ht hW => ⟨⟨(-1), (), rfl, e_0.symm, by rw [ht]; exact hP9, va_K.moved hW.alike hK, hD9⟩, hS.F ht⟩) hS.2.2 dX8_due_54
      · refine lv_iload_n hx hb dX8_due_42 rfl (lv_at hl 2 rfl) ?_
        refine lv_iload_n hx hb dX8_due_43 rfl (lv_at hl 3 rfl) ?_
        refine lv_iload_n hx hb dX8_due_44 rfl (lv_at hl 4 rfl) ?_
        refine lv_iload hx hb dX8_due_45 (lv_at hl 0 rfl) ?_
        refine zcSi (As := [.int p1, .int p2, .int p3, .int 16]) (rest := []) (wr := [(y, .inr (8, [.ref yt, .int 0, .int 0, .ref yr, .ref yk, .ref yz, .ref yp, .int 0, .int 0, .int 0, .int 0, .ref yl, .ref yw, .int 0, .int 0, .int 0, .int 0, .int 0, .int 0, .int 0, .int 0, .int (-1), .ref yd, .int 0, .ref ys, .ref yn, .ref ym, .int 0, .ref yf, .ref yo, .ref yh, .ref yb, .int 0, .int 0, .int 0, .int 0, .int 0, .int 0, .int 0, .ref yx, .int 0, .int 0, .int 0])), (yr, .inl (cI, 4668, .inl (jn [0, 4, 0, 0, 0, 0, 0, 0, 0, 0, 0, 0, 0, 0, 0, 0, 0, (-1), 0, 0, 0, 0, 0, 0] R0)))]) ⟨hx, hb, hml, hown, hts⟩ (kkX8_isDue l dC dI cI cB cZ cR H.size p1 p2 p3 ) (va_cwS 4 hts (zgS wm_667 wm_668 wm_5 wm_669) rfl rfl rfl (by decide +kernel) ⟨Nat.le_of_ble_eq_true rfl, Nat.le_of_ble_eq_true rfl⟩) hN hK hP hD hS hA [] [0, 1] rfl rfl ⟨rfl, rfl⟩ (by decide) rfl hl.1 rfl (Nat.le_of_ble_eq_true rfl) dX8_due_47 ⟨Nat.le_of_ble_eq_true rfl, Nat.le_of_ble_eq_true rfl⟩ (fun r u hu H locs hP hD hS => ?_)
        have hu : r = (pfX8_isDue_r p1 p2 p3) := hu
        subst hu
        have hP : va_P (dC, dI) vwCl [(y, .inr (8, [.ref yt, .int 0, .int 0, .ref yr, .ref yk, .ref yz, .ref yp, .int 0, .int 0, .int 0, .int 0, .ref yl, .ref yw, .int 0, .int 0, .int 0, .int 0, .int 0, .int 0, .int 0, .int 0, .int (-1), .ref yd, .int 0, .ref ys, .ref yn, .ref ym, .int 0, .ref yf, .ref yo, .ref yh, .ref yb, .int 0, .int 0, .int 0, .int 0, .int 0, .int 0, .int 0, .ref yx, .int 0, .int 0, .int 0])), (yr, .inl (cI, 4668, .inl (jn [0, 4, 0, 0, 0, 0, 0, 0, 0, 0, 0, 0, 0, 0, 0, 0, 0, (-1), 0, 0, 0, 0, 0, 0] R0)))] H := hP
        have hD : va_D A [(y, .inr (8, [.ref yt, .int 0, .int 0, .ref yr, .ref yk, .ref yz, .ref yp, .int 0, .int 0, .int 0, .int 0, .ref yl, .ref yw, .int 0, .int 0, .int 0, .int 0, .int 0, .int 0, .int 0, .int 0, .int (-1), .ref yd, .int 0, .ref ys, .ref yn, .ref ym, .int 0, .ref yf, .ref yo, .ref yh, .ref yb, .int 0, .int 0, .int 0, .int 0, .int 0, .int 0, .int 0, .ref yx, .int 0, .int 0, .int 0])), (yr, .inl (cI, 4668, .inl (jn [0, 4, 0, 0, 0, 0, 0, 0, 0, 0, 0, 0, 0, 0, 0, 0, 0, (-1), 0, 0, 0, 0, 0, 0] R0)))] := hD
        refine lv_goto (tgt := 54) hx hb dX8_due_50 (by decide) ?_
        have e_0 : (pfX8_due_r p1 p2 p3) = (pfX8_isDue_r p1 p2 p3) := by rw [pfX8_due_r, if_neg c_1, if_neg c_2, if_neg c_3]
        have hP9 := hP.sub (ws' := [(y, .inr (8, [.ref yt, .int 0, .int 0, .ref yr, .ref yk, .ref yz, .ref yp, .int 0, .int 0, .int 0, .int 0, .ref yl, .ref yw, .int 0, .int 0, .int 0, .int 0, .int 0, .int 0, .int 0, .int 0, .int (-1), .ref yd, .int 0, .ref ys, .ref yn, .ref ym, .int 0, .ref yf, .ref yo, .ref yh, .ref yb, .int 0, .int 0, .int 0, .int 0, .int 0, .int 0, .int 0, .ref yx, .int 0, .int 0, .int 0])), (yr, .inl (cI, 4668, .inl (jn [0, 4, 0, 0, 0, 0, 0, 0, 0, 0, 0, 0, 0, 0, 0, 0, 0, (-1), 0, 0, 0, 0, 0, 0] R0)))]) [0, 1] rfl
        have hD9 := hD.sub (ws' := [(y, .inr (8, [.ref yt, .int 0, .int 0, .ref yr, .ref yk, .ref yz, .ref yp, .int 0, .int 0, .int 0, .int 0, .ref yl, .ref yw, .int 0, .int 0, .int 0, .int 0, .int 0, .int 0, .int 0, .int 0, .int (-1), .ref yd, .int 0, .ref ys, .ref yn, .ref ym, .int 0, .ref yf, .ref yo, .ref yh, .ref yb, .int 0, .int 0, .int 0, .int 0, .int 0, .int 0, .int 0, .ref yx, .int 0, .int 0, .int 0])), (yr, .inl (cI, 4668, .inl (jn [0, 4, 0, 0, 0, 0, 0, 0, 0, 0, 0, 0, 0, 0, 0, 0, 0, (-1), 0, 0, 0, 0, 0, 0] R0)))]) [0, 1] (by decide) rfl
        exact W.iret (v := (pfX8_isDue_r p1 p2 p3)) hx hb hr (fun t ht hW => ⟨⟨(pfX8_isDue_r p1 p2 p3), (), rfl, e_0.symm, by rw [ht]; exact hP9, va_K.moved hW.alike hK, hD9⟩, hS.F ht⟩) hS.2.2 dX8_due_54

set_option maxHeartbeats 4000000 in
set_option maxRecDepth 100000 in
theorem kkX8_logs_0 (l : Launch) (dC : Nat → ClassId) (dI : Nat → Nat → Nat) (cI cB cZ cR : ClassId) (sz : Nat) (y : Nat) (yt : Nat) (yr : Nat) (yk : Nat) (yz : Nat) (yp : Nat) (yl : Nat) (yw : Nat) (yd : Nat) (ys : Nat) (yn : Nat) (ym : Nat) (yf : Nat) (yo : Nat) (yh : Nat) (yb : Nat) (yx : Nat) (v1 : Int32) (v2 : Int32) (v7 : Int32) (v8 : Int32) (v9 : Int32) (v10 : Int32) (v14 : Int32) (v15 : Int32) (v16 : Int32) (v17 : Int32) (v18 : Int32) (v19 : Int32) (v20 : Int32) (v21 : Int32) (v23 : Int32) (v27 : Int32) (v32 : Int32) (v33 : Int32) (v34 : Int32) (v35 : Int32) (v36 : Int32) (v37 : Int32) (v38 : Int32) (v40 : Int32) (v41 : Int32) (v42 : Int32) (g0 : Int32) (g1 : Int32) (g2 : Int32) (g3 : Int32) (g4 : Int32) (g5 : Int32) (g6 : Int32) (g7 : Int32) (p1 : Int32) : Met l yX8_logs (.code yX8_logs cX8_logs 2 none :: wsL_law) ({ frames := 0, cells := 0, slots := 0, locals := 0 }) (zPc dC dI (zT cI cB cZ cR) [.ref y, .int p1] sz [(y, .inr (8, [.ref yt, .int v1, .int v2, .ref yr, .ref yk, .ref yz, .ref yp, .int v7, .int v8, .int v9, .int v10, .ref yl, .ref yw, .int 0, .int v14, .int v15, .int v16, .int v17, .int v18, .int v19, .int v20, .int v21, .ref yd, .int v23, .ref ys, .ref yn, .ref ym, .int v27, .ref yf, .ref yo, .ref yh, .ref yb, .int v32, .int v33, .int v34, .int v35, .int v36, .int v37, .int v38, .ref yx, .int v40, .int v41, .int v42])), (yl, .inl (cI, 8, .inl (gl [g0, g1, g2, g3, g4, g5, g6, g7])))]) (va_Qv (fun _ : Unit => True) (fun _ : Unit => zB dC dI (zT cI cB cZ cR) (va_A [(y, .inr (8, [.ref yt, .int v1, .int v2, .ref yr, .ref yk, .ref yz, .ref yp, .int v7, .int v8, .int v9, .int v10, .ref yl, .ref yw, .int 0, .int v14, .int v15, .int v16, .int v17, .int v18, .int v19, .int v20, .int v21, .ref yd, .int v23, .ref ys, .ref yn, .ref ym, .int v27, .ref yf, .ref yo, .ref yh, .ref yb, .int v32, .int v33, .int v34, .int v35, .int v36, .int v37, .int v38, .ref yx, .int v40, .int v41, .int v42])), (yl, .inl (cI, 8, .inl (gl [g0, g1, g2, g3, g4, g5, g6, g7])))] sz) [(y, .inr (8, [.ref yt, .int v1, .int v2, .ref yr, .ref yk, .ref yz, .ref yp, .int v7, .int v8, .int v9, .int v10, .ref yl, .ref yw, .int 1, .int v14, .int v15, .int v16, .int v17, .int v18, .int v19, .int v20, .int v21, .ref yd, .int v23, .ref ys, .ref yn, .ref ym, .int v27, .ref yf, .ref yo, .ref yh, .ref yb, .int v32, .int v33, .int v34, .int v35, .int v36, .int v37, .int v38, .ref yx, .int v40, .int v41, .int v42])), (yl, .inl (cI, 8, .inl (gl [p1, g1, g2, g3, g4, g5, g6, g7])))]) (va_A [(y, .inr (8, [.ref yt, .int v1, .int v2, .ref yr, .ref yk, .ref yz, .ref yp, .int v7, .int v8, .int v9, .int v10, .ref yl, .ref yw, .int 0, .int v14, .int v15, .int v16, .int v17, .int v18, .int v19, .int v20, .int v21, .ref yd, .int v23, .ref ys, .ref yn, .ref ym, .int v27, .ref yf, .ref yo, .ref yh, .ref yb, .int v32, .int v33, .int v34, .int v35, .int v36, .int v37, .int v38, .ref yx, .int v40, .int v41, .int v42])), (yl, .inl (cI, 8, .inl (gl [g0, g1, g2, g3, g4, g5, g6, g7])))] sz)) 0 0 (va_A [(y, .inr (8, [.ref yt, .int v1, .int v2, .ref yr, .ref yk, .ref yz, .ref yp, .int v7, .int v8, .int v9, .int v10, .ref yl, .ref yw, .int 0, .int v14, .int v15, .int v16, .int v17, .int v18, .int v19, .int v20, .int v21, .ref yd, .int v23, .ref ys, .ref yn, .ref ym, .int v27, .ref yf, .ref yo, .ref yh, .ref yb, .int v32, .int v33, .int v34, .int v35, .int v36, .int v37, .int v38, .ref yx, .int v40, .int v41, .int v42])), (yl, .inl (cI, 8, .inl (gl [g0, g1, g2, g3, g4, g5, g6, g7])))] sz) := by
  refine Met.ofW (cc := cX8_logs) (maxL := 2) (ret := none) (by decide) rfl ?_
  intro p e s m args below meth c s₁ B hml hv
  obtain ⟨rfl, hsz, hP, hK, hD0, hN⟩ := hv
  have hx := B.exec
  have hb := B.bytes
  have hr := B.returns
  have hts := atoms_spec (ws := (.code yX8_logs cX8_logs 2 none :: wsL_law)) B.pre
  have hown : s.vm.findClass RX8 = some m.cls := findClass_of_methodNamed B.named
  have hlocks := B.notSynchronized
  have hinX8 : ∀ w ∈ u_ws RX8 TX8 43, w ∈ (.code yX8_logs cX8_logs 2 none :: wsL_law) := fun w h => List.mem_cons_of_mem _ (inlX8 w h)
  have k_0 := hts (.fieldLink RX8 27 "RingMarksModel" "log" "[I") (List.mem_cons_of_mem _ wm_132)
  have k_1 := hts (.fieldLink RX8 182 "RingMarksModel" "logged" "I") (List.mem_cons_of_mem _ wm_496)
  subst hsz
  have hD := hD0.self (sz := s.heap.size)
  generalize hAe : va_A [(y, .inr (8, [.ref yt, .int v1, .int v2, .ref yr, .ref yk, .ref yz, .ref yp, .int v7, .int v8, .int v9, .int v10, .ref yl, .ref yw, .int 0, .int v14, .int v15, .int v16, .int v17, .int v18, .int v19, .int v20, .int v21, .ref yd, .int v23, .ref ys, .ref yn, .ref ym, .int v27, .ref yf, .ref yo, .ref yh, .ref yb, .int v32, .int v33, .int v34, .int v35, .int v36, .int v37, .int v38, .ref yx, .int v40, .int v41, .int v42])), (yl, .inl (cI, 8, .inl (gl [g0, g1, g2, g3, g4, g5, g6, g7])))] s.heap.size = A at hD ⊢
  have hA : ∀ q : Nat, s.heap.size ≤ q → A q := fun q h => by rw [← hAe]; exact Or.inr h
  have hP : va_P (dC, dI) vwCl [(y, .inr (8, [.ref yt, .int v1, .int v2, .ref yr, .ref yk, .ref yz, .ref yp, .int v7, .int v8, .int v9, .int v10, .ref yl, .ref yw, .int 0, .int v14, .int v15, .int v16, .int v17, .int v18, .int v19, .int v20, .int v21, .ref yd, .int v23, .ref ys, .ref yn, .ref ym, .int v27, .ref yf, .ref yo, .ref yh, .ref yb, .int v32, .int v33, .int v34, .int v35, .int v36, .int v37, .int v38, .ref yx, .int v40, .int v41, .int v42])), (yl, .inl (cI, 8, .inl (gl [g0, g1, g2, g3, g4, g5, g6, g7])))] s.heap := hP
  have hl := lv_entry ([.ref y, .int p1]) (n := 2) (Nat.le_of_ble_eq_true rfl)
  rw [lg_entry_eq]
  generalize (lg_sl ([.ref y, .int p1]) ++ List.replicate (2 - (lg_sl ([.ref y, .int p1])).length) Slot.unset).toArray = ls at hl ⊢
  have hl : lv_has ls 2 [(0, .ref y), (1, .int p1)] := hl
  obtain ⟨H, hH⟩ : ∃ H, H = s.heap := ⟨_, rfl⟩
  rw [← hH] at hP ⊢
  have hS : va_S A s.heap H [] := by rw [hH]; exact va_S.rf
  refine lv_aload_n hx hb dX8_logs_0 rfl (lv_at hl 0 rfl) ?_
  refine va_get (D := (dC, dI)) (ci := 8) (v := .ref yl) (C := RX8) (T := TX8) (N := 43) hx hb hts hinX8 hown hK hP 0 rfl rfl 11 (by decide) k_0 (fun _ h9 => h9) rfl dX8_logs_1 ?_
  refine lv_aload_n hx hb dX8_logs_4 rfl (lv_at hl 0 rfl) ?_
  refine va_get (D := (dC, dI)) (ci := 8) (v := .int 0) (C := RX8) (T := TX8) (N := 43) hx hb hts hinX8 hown hK hP 0 rfl rfl 13 (by decide) k_1 (fun _ h9 => h9) rfl dX8_logs_5 ?_
  refine lv_iload_n hx hb dX8_logs_8 rfl (lv_at hl 1 rfl) ?_
  refine za_iast (f' := (gl [p1, g1, g2, g3, g4, g5, g6, g7])) hx hb hK hP hD hS 1 0 rfl rfl (zin tn_0 (Nat.le_of_ble_eq_true rfl)) (zup_gl tn_0 (Nat.le_of_ble_eq_true rfl) rfl) dX8_logs_9 (fun H locs hP hD hS => ?_)
  have hP : va_P (dC, dI) vwCl [(y, .inr (8, [.ref yt, .int v1, .int v2, .ref yr, .ref yk, .ref yz, .ref yp, .int v7, .int v8, .int v9, .int v10, .ref yl, .ref yw, .int 0, .int v14, .int v15, .int v16, .int v17, .int v18, .int v19, .int v20, .int v21, .ref yd, .int v23, .ref ys, .ref yn, .ref ym, .int v27, .ref yf, .ref yo, .ref yh, .ref yb, .int v32, .int v33, .int v34, .int v35, .int v36, .int v37, .int v38, .ref yx, .int v40, .int v41, .int v42])), (yl, .inl (cI, 8, .inl (gl [p1, g1, g2, g3, g4, g5, g6, g7])))] H := hP
  have hD : va_D A [(y, .inr (8, [.ref yt, .int v1, .int v2, .ref yr, .ref yk, .ref yz, .ref yp, .int v7, .int v8, .int v9, .int v10, .ref yl, .ref yw, .int 0, .int v14, .int v15, .int v16, .int v17, .int v18, .int v19, .int v20, .int v21, .ref yd, .int v23, .ref ys, .ref yn, .ref ym, .int v27, .ref yf, .ref yo, .ref yh, .ref yb, .int v32, .int v33, .int v34, .int v35, .int v36, .int v37, .int v38, .ref yx, .int v40, .int v41, .int v42])), (yl, .inl (cI, 8, .inl (gl [p1, g1, g2, g3, g4, g5, g6, g7])))] := hD
  refine lv_aload_n hx hb dX8_logs_10 rfl (lv_at hl 0 rfl) ?_
  refine lv_dup hx hb dX8_logs_11 rfl ?_
  refine va_get (D := (dC, dI)) (ci := 8) (v := .int 0) (C := RX8) (T := TX8) (N := 43) hx hb hts hinX8 hown hK hP 0 rfl rfl 13 (by decide) k_1 (fun _ h9 => h9) rfl dX8_logs_12 ?_
  refine lv_iconst (v := 1) hx hb dX8_logs_15 (by decide) ?_
  refine lv_iadd hx hb dX8_logs_16 ?_
  refine tp (y := 1) (by decide) ?_
  refine va_put (D := (dC, dI)) (ci := 8) (v := .int 1) (ty := tyX8 13) (C := RX8) (T := TX8) (N := 43) hx hb hts hinX8 tyX8 tyX8_ok nmX8 hown hK hP hD hS 0 rfl rfl 13 (by decide) k_1 (fun _ h9 => h9) rfl (by decide +kernel) rfl rfl (Nat.le_of_ble_eq_true rfl) dX8_logs_17 (fun H locs hP hD hS => ?_)
  have hP : va_P (dC, dI) vwCl [(y, .inr (8, [.ref yt, .int v1, .int v2, .ref yr, .ref yk, .ref yz, .ref yp, .int v7, .int v8, .int v9, .int v10, .ref yl, .ref yw, .int 1, .int v14, .int v15, .int v16, .int v17, .int v18, .int v19, .int v20, .int v21, .ref yd, .int v23, .ref ys, .ref yn, .ref ym, .int v27, .ref yf, .ref yo, .ref yh, .ref yb, .int v32, .int v33, .int v34, .int v35, .int v36, .int v37, .int v38, .ref yx, .int v40, .int v41, .int v42])), (yl, .inl (cI, 8, .inl (gl [p1, g1, g2, g3, g4, g5, g6, g7])))] H := hP
  have hD : va_D A [(y, .inr (8, [.ref yt, .int v1, .int v2, .ref yr, .ref yk, .ref yz, .ref yp, .int v7, .int v8, .int v9, .int v10, .ref yl, .ref yw, .int 1, .int v14, .int v15, .int v16, .int v17, .int v18, .int v19, .int v20, .int v21, .ref yd, .int v23, .ref ys, .ref yn, .ref ym, .int v27, .ref yf, .ref yo, .ref yh, .ref yb, .int v32, .int v33, .int v34, .int v35, .int v36, .int v37, .int v38, .ref yx, .int v40, .int v41, .int v42])), (yl, .inl (cI, 8, .inl (gl [p1, g1, g2, g3, g4, g5, g6, g7])))] := hD
  have hP9 := hP.sub (ws' := [(y, .inr (8, [.ref yt, .int v1, .int v2, .ref yr, .ref yk, .ref yz, .ref yp, .int v7, .int v8, .int v9, .int v10, .ref yl, .ref yw, .int 1, .int v14, .int v15, .int v16, .int v17, .int v18, .int v19, .int v20, .int v21, .ref yd, .int v23, .ref ys, .ref yn, .ref ym, .int v27, .ref yf, .ref yo, .ref yh, .ref yb, .int v32, .int v33, .int v34, .int v35, .int v36, .int v37, .int v38, .ref yx, .int v40, .int v41, .int v42])), (yl, .inl (cI, 8, .inl (gl [p1, g1, g2, g3, g4, g5, g6, g7])))]) [0, 1] rfl
  have hD9 := hD.sub (ws' := [(y, .inr (8, [.ref yt, .int v1, .int v2, .ref yr, .ref yk, .ref yz, .ref yp, .int v7, .int v8, .int v9, .int v10, .ref yl, .ref yw, .int 1, .int v14, .int v15, .int v16, .int v17, .int v18, .int v19, .int v20, .int v21, .ref yd, .int v23, .ref ys, .ref yn, .ref ym, .int v27, .ref yf, .ref yo, .ref yh, .ref yb, .int v32, .int v33, .int v34, .int v35, .int v36, .int v37, .int v38, .ref yx, .int v40, .int v41, .int v42])), (yl, .inl (cI, 8, .inl (gl [p1, g1, g2, g3, g4, g5, g6, g7])))]) [0, 1] (by decide) rfl
  exact W.vret hx hb hr (fun t ht hW => ⟨⟨(), rfl, trivial, by rw [ht]; exact hP9, va_K.moved hW.alike hK, hD9⟩, hS.F ht⟩) hS.2.2 dX8_logs_20

set_option maxHeartbeats 4000000 in
set_option maxRecDepth 100000 in
theorem kkX8_logs_1 (l : Launch) (dC : Nat → ClassId) (dI : Nat → Nat → Nat) (cI cB cZ cR : ClassId) (sz : Nat) (y : Nat) (yt : Nat) (yr : Nat) (yk : Nat) (yz : Nat) (yp : Nat) (yl : Nat) (yw : Nat) (yd : Nat) (ys : Nat) (yn : Nat) (ym : Nat) (yf : Nat) (yo : Nat) (yh : Nat) (yb : Nat) (yx : Nat) (v1 : Int32) (v2 : Int32) (v7 : Int32) (v8 : Int32) (v9 : Int32) (v10 : Int32) (v14 : Int32) (v15 : Int32) (v16 : Int32) (v17 : Int32) (v18 : Int32) (v19 : Int32) (v20 : Int32) (v21 : Int32) (v23 : Int32) (v27 : Int32) (v32 : Int32) (v33 : Int32) (v34 : Int32) (v35 : Int32) (v36 : Int32) (v37 : Int32) (v38 : Int32) (v40 : Int32) (v41 : Int32) (v42 : Int32) (g0 : Int32) (g1 : Int32) (g2 : Int32) (g3 : Int32) (g4 : Int32) (g5 : Int32) (g6 : Int32) (g7 : Int32) (p1 : Int32) : Met l yX8_logs (.code yX8_logs cX8_logs 2 none :: wsL_law) ({ frames := 0, cells := 0, slots := 0, locals := 0 }) (zPc dC dI (zT cI cB cZ cR) [.ref y, .int p1] sz [(y, .inr (8, [.ref yt, .int v1, .int v2, .ref yr, .ref yk, .ref yz, .ref yp, .int v7, .int v8, .int v9, .int v10, .ref yl, .ref yw, .int 1, .int v14, .int v15, .int v16, .int v17, .int v18, .int v19, .int v20, .int v21, .ref yd, .int v23, .ref ys, .ref yn, .ref ym, .int v27, .ref yf, .ref yo, .ref yh, .ref yb, .int v32, .int v33, .int v34, .int v35, .int v36, .int v37, .int v38, .ref yx, .int v40, .int v41, .int v42])), (yl, .inl (cI, 8, .inl (gl [g0, g1, g2, g3, g4, g5, g6, g7])))]) (va_Qv (fun _ : Unit => True) (fun _ : Unit => zB dC dI (zT cI cB cZ cR) (va_A [(y, .inr (8, [.ref yt, .int v1, .int v2, .ref yr, .ref yk, .ref yz, .ref yp, .int v7, .int v8, .int v9, .int v10, .ref yl, .ref yw, .int 1, .int v14, .int v15, .int v16, .int v17, .int v18, .int v19, .int v20, .int v21, .ref yd, .int v23, .ref ys, .ref yn, .ref ym, .int v27, .ref yf, .ref yo, .ref yh, .ref yb, .int v32, .int v33, .int v34, .int v35, .int v36, .int v37, .int v38, .ref yx, .int v40, .int v41, .int v42])), (yl, .inl (cI, 8, .inl (gl [g0, g1, g2, g3, g4, g5, g6, g7])))] sz) [(y, .inr (8, [.ref yt, .int v1, .int v2, .ref yr, .ref yk, .ref yz, .ref yp, .int v7, .int v8, .int v9, .int v10, .ref yl, .ref yw, .int 2, .int v14, .int v15, .int v16, .int v17, .int v18, .int v19, .int v20, .int v21, .ref yd, .int v23, .ref ys, .ref yn, .ref ym, .int v27, .ref yf, .ref yo, .ref yh, .ref yb, .int v32, .int v33, .int v34, .int v35, .int v36, .int v37, .int v38, .ref yx, .int v40, .int v41, .int v42])), (yl, .inl (cI, 8, .inl (gl [g0, p1, g2, g3, g4, g5, g6, g7])))]) (va_A [(y, .inr (8, [.ref yt, .int v1, .int v2, .ref yr, .ref yk, .ref yz, .ref yp, .int v7, .int v8, .int v9, .int v10, .ref yl, .ref yw, .int 1, .int v14, .int v15, .int v16, .int v17, .int v18, .int v19, .int v20, .int v21, .ref yd, .int v23, .ref ys, .ref yn, .ref ym, .int v27, .ref yf, .ref yo, .ref yh, .ref yb, .int v32, .int v33, .int v34, .int v35, .int v36, .int v37, .int v38, .ref yx, .int v40, .int v41, .int v42])), (yl, .inl (cI, 8, .inl (gl [g0, g1, g2, g3, g4, g5, g6, g7])))] sz)) 0 0 (va_A [(y, .inr (8, [.ref yt, .int v1, .int v2, .ref yr, .ref yk, .ref yz, .ref yp, .int v7, .int v8, .int v9, .int v10, .ref yl, .ref yw, .int 1, .int v14, .int v15, .int v16, .int v17, .int v18, .int v19, .int v20, .int v21, .ref yd, .int v23, .ref ys, .ref yn, .ref ym, .int v27, .ref yf, .ref yo, .ref yh, .ref yb, .int v32, .int v33, .int v34, .int v35, .int v36, .int v37, .int v38, .ref yx, .int v40, .int v41, .int v42])), (yl, .inl (cI, 8, .inl (gl [g0, g1, g2, g3, g4, g5, g6, g7])))] sz) := by
  refine Met.ofW (cc := cX8_logs) (maxL := 2) (ret := none) (by decide) rfl ?_
  intro p e s m args below meth c s₁ B hml hv
  obtain ⟨rfl, hsz, hP, hK, hD0, hN⟩ := hv
  have hx := B.exec
  have hb := B.bytes
  have hr := B.returns
  have hts := atoms_spec (ws := (.code yX8_logs cX8_logs 2 none :: wsL_law)) B.pre
  have hown : s.vm.findClass RX8 = some m.cls := findClass_of_methodNamed B.named
  have hlocks := B.notSynchronized
  have hinX8 : ∀ w ∈ u_ws RX8 TX8 43, w ∈ (.code yX8_logs cX8_logs 2 none :: wsL_law) := fun w h => List.mem_cons_of_mem _ (inlX8 w h)
  have k_0 := hts (.fieldLink RX8 27 "RingMarksModel" "log" "[I") (List.mem_cons_of_mem _ wm_132)
  have k_1 := hts (.fieldLink RX8 182 "RingMarksModel" "logged" "I") (List.mem_cons_of_mem _ wm_496)
  subst hsz
  have hD := hD0.self (sz := s.heap.size)
  generalize hAe : va_A [(y, .inr (8, [.ref yt, .int v1, .int v2, .ref yr, .ref yk, .ref yz, .ref yp, .int v7, .int v8, .int v9, .int v10, .ref yl, .ref yw, .int 1, .int v14, .int v15, .int v16, .int v17, .int v18, .int v19, .int v20, .int v21, .ref yd, .int v23, .ref ys, .ref yn, .ref ym, .int v27, .ref yf, .ref yo, .ref yh, .ref yb, .int v32, .int v33, .int v34, .int v35, .int v36, .int v37, .int v38, .ref yx, .int v40, .int v41, .int v42])), (yl, .inl (cI, 8, .inl (gl [g0, g1, g2, g3, g4, g5, g6, g7])))] s.heap.size = A at hD ⊢
  have hA : ∀ q : Nat, s.heap.size ≤ q → A q := fun q h => by rw [← hAe]; exact Or.inr h
  have hP : va_P (dC, dI) vwCl [(y, .inr (8, [.ref yt, .int v1, .int v2, .ref yr, .ref yk, .ref yz, .ref yp, .int v7, .int v8, .int v9, .int v10, .ref yl, .ref yw, .int 1, .int v14, .int v15, .int v16, .int v17, .int v18, .int v19, .int v20, .int v21, .ref yd, .int v23, .ref ys, .ref yn, .ref ym, .int v27, .ref yf, .ref yo, .ref yh, .ref yb, .int v32, .int v33, .int v34, .int v35, .int v36, .int v37, .int v38, .ref yx, .int v40, .int v41, .int v42])), (yl, .inl (cI, 8, .inl (gl [g0, g1, g2, g3, g4, g5, g6, g7])))] s.heap := hP
  have hl := lv_entry ([.ref y, .int p1]) (n := 2) (Nat.le_of_ble_eq_true rfl)
  rw [lg_entry_eq]
  generalize (lg_sl ([.ref y, .int p1]) ++ List.replicate (2 - (lg_sl ([.ref y, .int p1])).length) Slot.unset).toArray = ls at hl ⊢
  have hl : lv_has ls 2 [(0, .ref y), (1, .int p1)] := hl
  obtain ⟨H, hH⟩ : ∃ H, H = s.heap := ⟨_, rfl⟩
  rw [← hH] at hP ⊢
  have hS : va_S A s.heap H [] := by rw [hH]; exact va_S.rf
  refine lv_aload_n hx hb dX8_logs_0 rfl (lv_at hl 0 rfl) ?_
  refine va_get (D := (dC, dI)) (ci := 8) (v := .ref yl) (C := RX8) (T := TX8) (N := 43) hx hb hts hinX8 hown hK hP 0 rfl rfl 11 (by decide) k_0 (fun _ h9 => h9) rfl dX8_logs_1 ?_
  refine lv_aload_n hx hb dX8_logs_4 rfl (lv_at hl 0 rfl) ?_
  refine va_get (D := (dC, dI)) (ci := 8) (v := .int 1) (C := RX8) (T := TX8) (N := 43) hx hb hts hinX8 hown hK hP 0 rfl rfl 13 (by decide) k_1 (fun _ h9 => h9) rfl dX8_logs_5 ?_
  refine lv_iload_n hx hb dX8_logs_8 rfl (lv_at hl 1 rfl) ?_
  refine za_iast (f' := (gl [g0, p1, g2, g3, g4, g5, g6, g7])) hx hb hK hP hD hS 1 0 rfl rfl (zin tn_1 (Nat.le_of_ble_eq_true rfl)) (zup_gl tn_1 (Nat.le_of_ble_eq_true rfl) rfl) dX8_logs_9 (fun H locs hP hD hS => ?_)
  have hP : va_P (dC, dI) vwCl [(y, .inr (8, [.ref yt, .int v1, .int v2, .ref yr, .ref yk, .ref yz, .ref yp, .int v7, .int v8, .int v9, .int v10, .ref yl, .ref yw, .int 1, .int v14, .int v15, .int v16, .int v17, .int v18, .int v19, .int v20, .int v21, .ref yd, .int v23, .ref ys, .ref yn, .ref ym, .int v27, .ref yf, .ref yo, .ref yh, .ref yb, .int v32, .int v33, .int v34, .int v35, .int v36, .int v37, .int v38, .ref yx, .int v40, .int v41, .int v42])), (yl, .inl (cI, 8, .inl (gl [g0, p1, g2, g3, g4, g5, g6, g7])))] H := hP
  have hD : va_D A [(y, .inr (8, [.ref yt, .int v1, .int v2, .ref yr, .ref yk, .ref yz, .ref yp, .int v7, .int v8, .int v9, .int v10, .ref yl, .ref yw, .int 1, .int v14, .int v15, .int v16, .int v17, .int v18, .int v19, .int v20, .int v21, .ref yd, .int v23, .ref ys, .ref yn, .ref ym, .int v27, .ref yf, .ref yo, .ref yh, .ref yb, .int v32, .int v33, .int v34, .int v35, .int v36, .int v37, .int v38, .ref yx, .int v40, .int v41, .int v42])), (yl, .inl (cI, 8, .inl (gl [g0, p1, g2, g3, g4, g5, g6, g7])))] := hD
  refine lv_aload_n hx hb dX8_logs_10 rfl (lv_at hl 0 rfl) ?_
  refine lv_dup hx hb dX8_logs_11 rfl ?_
  refine va_get (D := (dC, dI)) (ci := 8) (v := .int 1) (C := RX8) (T := TX8) (N := 43) hx hb hts hinX8 hown hK hP 0 rfl rfl 13 (by decide) k_1 (fun _ h9 => h9) rfl dX8_logs_12 ?_
  refine lv_iconst (v := 1) hx hb dX8_logs_15 (by decide) ?_
  refine lv_iadd hx hb dX8_logs_16 ?_
  refine tp (y := 2) (by decide) ?_
  refine va_put (D := (dC, dI)) (ci := 8) (v := .int 2) (ty := tyX8 13) (C := RX8) (T := TX8) (N := 43) hx hb hts hinX8 tyX8 tyX8_ok nmX8 hown hK hP hD hS 0 rfl rfl 13 (by decide) k_1 (fun _ h9 => h9) rfl (by decide +kernel) rfl rfl (Nat.le_of_ble_eq_true rfl) dX8_logs_17 (fun H locs hP hD hS => ?_)
  have hP : va_P (dC, dI) vwCl [(y, .inr (8, [.ref yt, .int v1, .int v2, .ref yr, .ref yk, .ref yz, .ref yp, .int v7, .int v8, .int v9, .int v10, .ref yl, .ref yw, .int 2, .int v14, .int v15, .int v16, .int v17, .int v18, .int v19, .int v20, .int v21, .ref yd, .int v23, .ref ys, .ref yn, .ref ym, .int v27, .ref yf, .ref yo, .ref yh, .ref yb, .int v32, .int v33, .int v34, .int v35, .int v36, .int v37, .int v38, .ref yx, .int v40, .int v41, .int v42])), (yl, .inl (cI, 8, .inl (gl [g0, p1, g2, g3, g4, g5, g6, g7])))] H := hP
  have hD : va_D A [(y, .inr (8, [.ref yt, .int v1, .int v2, .ref yr, .ref yk, .ref yz, .ref yp, .int v7, .int v8, .int v9, .int v10, .ref yl, .ref yw, .int 2, .int v14, .int v15, .int v16, .int v17, .int v18, .int v19, .int v20, .int v21, .ref yd, .int v23, .ref ys, .ref yn, .ref ym, .int v27, .ref yf, .ref yo, .ref yh, .ref yb, .int v32, .int v33, .int v34, .int v35, .int v36, .int v37, .int v38, .ref yx, .int v40, .int v41, .int v42])), (yl, .inl (cI, 8, .inl (gl [g0, p1, g2, g3, g4, g5, g6, g7])))] := hD
  have hP9 := hP.sub (ws' := [(y, .inr (8, [.ref yt, .int v1, .int v2, .ref yr, .ref yk, .ref yz, .ref yp, .int v7, .int v8, .int v9, .int v10, .ref yl, .ref yw, .int 2, .int v14, .int v15, .int v16, .int v17, .int v18, .int v19, .int v20, .int v21, .ref yd, .int v23, .ref ys, .ref yn, .ref ym, .int v27, .ref yf, .ref yo, .ref yh, .ref yb, .int v32, .int v33, .int v34, .int v35, .int v36, .int v37, .int v38, .ref yx, .int v40, .int v41, .int v42])), (yl, .inl (cI, 8, .inl (gl [g0, p1, g2, g3, g4, g5, g6, g7])))]) [0, 1] rfl
  have hD9 := hD.sub (ws' := [(y, .inr (8, [.ref yt, .int v1, .int v2, .ref yr, .ref yk, .ref yz, .ref yp, .int v7, .int v8, .int v9, .int v10, .ref yl, .ref yw, .int 2, .int v14, .int v15, .int v16, .int v17, .int v18, .int v19, .int v20, .int v21, .ref yd, .int v23, .ref ys, .ref yn, .ref ym, .int v27, .ref yf, .ref yo, .ref yh, .ref yb, .int v32, .int v33, .int v34, .int v35, .int v36, .int v37, .int v38, .ref yx, .int v40, .int v41, .int v42])), (yl, .inl (cI, 8, .inl (gl [g0, p1, g2, g3, g4, g5, g6, g7])))]) [0, 1] (by decide) rfl
  exact W.vret hx hb hr (fun t ht hW => ⟨⟨(), rfl, trivial, by rw [ht]; exact hP9, va_K.moved hW.alike hK, hD9⟩, hS.F ht⟩) hS.2.2 dX8_logs_20

set_option maxHeartbeats 4000000 in
set_option maxRecDepth 100000 in
theorem kkX8_counts_0 (l : Launch) (dC : Nat → ClassId) (dI : Nat → Nat → Nat) (cI cB cZ cR : ClassId) (sz : Nat) (y : Nat) (yt : Nat) (yr : Nat) (yk : Nat) (yz : Nat) (yp : Nat) (yl : Nat) (yw : Nat) (yd : Nat) (ys : Nat) (yn : Nat) (ym : Nat) (yf : Nat) (yo : Nat) (yh : Nat) (yb : Nat) (yx : Nat) (v1 : Int32) (v2 : Int32) (v7 : Int32) (v8 : Int32) (v9 : Int32) (v10 : Int32) (v13 : Int32) (v14 : Int32) (v15 : Int32) (v19 : Int32) (v21 : Int32) (v23 : Int32) (v27 : Int32) (v32 : Int32) (v33 : Int32) (v34 : Int32) (v35 : Int32) (v36 : Int32) (v37 : Int32) (v38 : Int32) (v40 : Int32) (v41 : Int32) (v42 : Int32) : Met l yX8_counts (.code yX8_counts cX8_counts 4 (some .boolean) :: wsL_law) ({ frames := 0, cells := 0, slots := 0, locals := 0 }) (zPc dC dI (zT cI cB cZ cR) [.ref y, .int 0, .int 0] sz [(y, .inr (8, [.ref yt, .int v1, .int v2, .ref yr, .ref yk, .ref yz, .ref yp, .int v7, .int v8, .int v9, .int v10, .ref yl, .ref yw, .int v13, .int v14, .int v15, .int 0, .int 0, .int 0, .int v19, .int 0, .int v21, .ref yd, .int v23, .ref ys, .ref yn, .ref ym, .int v27, .ref yf, .ref yo, .ref yh, .ref yb, .int v32, .int v33, .int v34, .int v35, .int v36, .int v37, .int v38, .ref yx, .int v40, .int v41, .int v42]))]) (va_Qi (fun (r : Int32) (_ : Unit) => r = 1) (fun _ : Unit => zB dC dI (zT cI cB cZ cR) (va_A [(y, .inr (8, [.ref yt, .int v1, .int v2, .ref yr, .ref yk, .ref yz, .ref yp, .int v7, .int v8, .int v9, .int v10, .ref yl, .ref yw, .int v13, .int v14, .int v15, .int 0, .int 0, .int 0, .int v19, .int 0, .int v21, .ref yd, .int v23, .ref ys, .ref yn, .ref ym, .int v27, .ref yf, .ref yo, .ref yh, .ref yb, .int v32, .int v33, .int v34, .int v35, .int v36, .int v37, .int v38, .ref yx, .int v40, .int v41, .int v42]))] sz) [(y, .inr (8, [.ref yt, .int v1, .int v2, .ref yr, .ref yk, .ref yz, .ref yp, .int v7, .int v8, .int v9, .int v10, .ref yl, .ref yw, .int v13, .int v14, .int v15, .int 1, .int 0, .int 0, .int v19, .int 0, .int v21, .ref yd, .int v23, .ref ys, .ref yn, .ref ym, .int v27, .ref yf, .ref yo, .ref yh, .ref yb, .int v32, .int v33, .int v34, .int v35, .int v36, .int v37, .int v38, .ref yx, .int v40, .int v41, .int v42]))]) (va_A [(y, .inr (8, [.ref yt, .int v1, .int v2, .ref yr, .ref yk, .ref yz, .ref yp, .int v7, .int v8, .int v9, .int v10, .ref yl, .ref yw, .int v13, .int v14, .int v15, .int 0, .int 0, .int 0, .int v19, .int 0, .int v21, .ref yd, .int v23, .ref ys, .ref yn, .ref ym, .int v27, .ref yf, .ref yo, .ref yh, .ref yb, .int v32, .int v33, .int v34, .int v35, .int v36, .int v37, .int v38, .ref yx, .int v40, .int v41, .int v42]))] sz)) 0 0 (va_A [(y, .inr (8, [.ref yt, .int v1, .int v2, .ref yr, .ref yk, .ref yz, .ref yp, .int v7, .int v8, .int v9, .int v10, .ref yl, .ref yw, .int v13, .int v14, .int v15, .int 0, .int 0, .int 0, .int v19, .int 0, .int v21, .ref yd, .int v23, .ref ys, .ref yn, .ref ym, .int v27, .ref yf, .ref yo, .ref yh, .ref yb, .int v32, .int v33, .int v34, .int v35, .int v36, .int v37, .int v38, .ref yx, .int v40, .int v41, .int v42]))] sz) := by
  refine Met.ofW (cc := cX8_counts) (maxL := 4) (ret := (some .boolean)) (by decide) rfl ?_
  intro p e s m args below meth c s₁ B hml hv
  obtain ⟨rfl, hsz, hP, hK, hD0, hN⟩ := hv
  have hx := B.exec
  have hb := B.bytes
  have hr := B.returns
  have hts := atoms_spec (ws := (.code yX8_counts cX8_counts 4 (some .boolean) :: wsL_law)) B.pre
  have hown : s.vm.findClass RX8 = some m.cls := findClass_of_methodNamed B.named
  have hlocks := B.notSynchronized
  have hinX8 : ∀ w ∈ u_ws RX8 TX8 43, w ∈ (.code yX8_counts cX8_counts 4 (some .boolean) :: wsL_law) := fun w h => List.mem_cons_of_mem _ (inlX8 w h)
  have k_0 := hts (.fieldLink RX8 185 "RingMarksModel" "wrote" "Z") (List.mem_cons_of_mem _ wm_511)
  have k_1 := hts (.fieldLink RX8 192 "RingMarksModel" "walkLoad" "I") (List.mem_cons_of_mem _ wm_500)
  have k_2 := hts (.fieldLink RX8 195 "RingMarksModel" "walkMany" "I") (List.mem_cons_of_mem _ wm_510)
  subst hsz
  have hD := hD0.self (sz := s.heap.size)
  generalize hAe : va_A [(y, .inr (8, [.ref yt, .int v1, .int v2, .ref yr, .ref yk, .ref yz, .ref yp, .int v7, .int v8, .int v9, .int v10, .ref yl, .ref yw, .int v13, .int v14, .int v15, .int 0, .int 0, .int 0, .int v19, .int 0, .int v21, .ref yd, .int v23, .ref ys, .ref yn, .ref ym, .int v27, .ref yf, .ref yo, .ref yh, .ref yb, .int v32, .int v33, .int v34, .int v35, .int v36, .int v37, .int v38, .ref yx, .int v40, .int v41, .int v42]))] s.heap.size = A at hD ⊢
  have hA : ∀ q : Nat, s.heap.size ≤ q → A q := fun q h => by rw [← hAe]; exact Or.inr h
  have hP : va_P (dC, dI) vwCl [(y, .inr (8, [.ref yt, .int v1, .int v2, .ref yr, .ref yk, .ref yz, .ref yp, .int v7, .int v8, .int v9, .int v10, .ref yl, .ref yw, .int v13, .int v14, .int v15, .int 0, .int 0, .int 0, .int v19, .int 0, .int v21, .ref yd, .int v23, .ref ys, .ref yn, .ref ym, .int v27, .ref yf, .ref yo, .ref yh, .ref yb, .int v32, .int v33, .int v34, .int v35, .int v36, .int v37, .int v38, .ref yx, .int v40, .int v41, .int v42]))] s.heap := hP
  have hl := lv_entry ([.ref y, .int 0, .int 0]) (n := 4) (Nat.le_of_ble_eq_true rfl)
  rw [lg_entry_eq]
  generalize (lg_sl ([.ref y, .int 0, .int 0]) ++ List.replicate (4 - (lg_sl ([.ref y, .int 0, .int 0])).length) Slot.unset).toArray = ls at hl ⊢
  have hl : lv_has ls 4 [(0, .ref y), (1, .int 0), (2, .int 0)] := hl
  obtain ⟨H, hH⟩ : ∃ H, H = s.heap := ⟨_, rfl⟩
  rw [← hH] at hP ⊢
  have hS : va_S A s.heap H [] := by rw [hH]; exact va_S.rf
  refine lv_iload_n hx hb dX8_counts_0 rfl (lv_at hl 1 rfl) ?_
  refine lv_iconst (v := 2) hx hb dX8_counts_1 (by decide) ?_
  refine lv_iand hx hb dX8_counts_2 ?_
  refine tp (y := 0) (by decide) ?_
  refine lv_if_eq (tgt := 10) hx hb dX8_counts_3 (by decide) (fun _ => ?_) (fun c => absurd (by decide) c)
  refine lv_iconst (v := 0) hx hb dX8_counts_10 (by decide) ?_
  refine lv_istore_n (lv' := [(3, .int 0), (0, .ref y), (1, .int 0), (2, .int 0)]) hx hb dX8_counts_11 rfl hl (by decide) rfl (fun ls hl => ?_)
  refine lv_iload_n hx hb dX8_counts_12 rfl (lv_at hl 0 rfl) ?_
  refine lv_if_ne (tgt := 25) hx hb dX8_counts_13 (by decide) (fun c => absurd (by decide) c) (fun _ => ?_)
  refine lv_aload_n hx hb dX8_counts_16 rfl (lv_at hl 1 rfl) ?_
  refine va_get (D := (dC, dI)) (ci := 8) (v := .int 0) (C := RX8) (T := TX8) (N := 43) hx hb hts hinX8 hown hK hP 0 rfl rfl 20 (by decide) k_0 (fun _ h9 => h9) rfl dX8_counts_17 ?_
  refine lv_if_eq (tgt := 25) hx hb dX8_counts_20 (by decide) (fun _ => ?_) (fun c => absurd (by decide) c)
  refine lv_aload_n hx hb dX8_counts_25 rfl (lv_at hl 1 rfl) ?_
  refine lv_aload_n hx hb dX8_counts_26 rfl (lv_at hl 1 rfl) ?_
  refine va_get (D := (dC, dI)) (ci := 8) (v := .int 0) (C := RX8) (T := TX8) (N := 43) hx hb hts hinX8 hown hK hP 0 rfl rfl 20 (by decide) k_0 (fun _ h9 => h9) rfl dX8_counts_27 ?_
  refine lv_if_ne (tgt := 37) hx hb dX8_counts_30 (by decide) (fun c => absurd (by decide) c) (fun _ => ?_)
  refine lv_iload_n hx hb dX8_counts_33 rfl (lv_at hl 0 rfl) ?_
  refine lv_if_eq (tgt := 41) hx hb dX8_counts_34 (by decide) (fun _ => ?_) (fun c => absurd (by decide) c)
  refine lv_iconst (v := 0) hx hb dX8_counts_41 (by decide) ?_
  refine va_put (D := (dC, dI)) (ci := 8) (v := .int 0) (ty := tyX8 20) (C := RX8) (T := TX8) (N := 43) hx hb hts hinX8 tyX8 tyX8_ok nmX8 hown hK hP hD hS 0 rfl rfl 20 (by decide) k_0 (fun _ h9 => h9) rfl (by decide +kernel) (by first | rfl | decide) rfl (Nat.le_of_ble_eq_true rfl) dX8_counts_42 (fun H locs hP hD hS => ?_)
  have hP : va_P (dC, dI) vwCl [(y, .inr (8, [.ref yt, .int v1, .int v2, .ref yr, .ref yk, .ref yz, .ref yp, .int v7, .int v8, .int v9, .int v10, .ref yl, .ref yw, .int v13, .int v14, .int v15, .int 0, .int 0, .int 0, .int v19, .int 0, .int v21, .ref yd, .int v23, .ref ys, .ref yn, .ref ym, .int v27, .ref yf, .ref yo, .ref yh, .ref yb, .int v32, .int v33, .int v34, .int v35, .int v36, .int v37, .int v38, .ref yx, .int v40, .int v41, .int v42]))] H := hP
  have hD : va_D A [(y, .inr (8, [.ref yt, .int v1, .int v2, .ref yr, .ref yk, .ref yz, .ref yp, .int v7, .int v8, .int v9, .int v10, .ref yl, .ref yw, .int v13, .int v14, .int v15, .int 0, .int 0, .int 0, .int v19, .int 0, .int v21, .ref yd, .int v23, .ref ys, .ref yn, .ref ym, .int v27, .ref yf, .ref yo, .ref yh, .ref yb, .int v32, .int v33, .int v34, .int v35, .int v36, .int v37, .int v38, .ref yx, .int v40, .int v41, .int v42]))] := hD
  refine lv_iload_n hx hb dX8_counts_45 rfl (lv_at hl 0 rfl) ?_
  refine lv_if_eq (tgt := 62) hx hb dX8_counts_46 (by decide) (fun _ => ?_) (fun c => absurd (by decide) c)
  refine lv_aload_n hx hb dX8_counts_62 rfl (lv_at hl 1 rfl) ?_
  refine lv_dup hx hb dX8_counts_63 rfl ?_
  refine va_get (D := (dC, dI)) (ci := 8) (v := .int 0) (C := RX8) (T := TX8) (N := 43) hx hb hts hinX8 hown hK hP 0 rfl rfl 18 (by decide) k_1 (fun _ h9 => h9) rfl dX8_counts_64 ?_
  refine lv_iload_n hx hb dX8_counts_67 rfl (lv_at hl 3 rfl) ?_
  refine lv_iadd hx hb dX8_counts_68 ?_
  refine tp (y := 0) (by decide) ?_
  refine va_put (D := (dC, dI)) (ci := 8) (v := .int 0) (ty := tyX8 18) (C := RX8) (T := TX8) (N := 43) hx hb hts hinX8 tyX8 tyX8_ok nmX8 hown hK hP hD hS 0 rfl rfl 18 (by decide) k_1 (fun _ h9 => h9) rfl (by decide +kernel) rfl rfl (Nat.le_of_ble_eq_true rfl) dX8_counts_69 (fun H locs hP hD hS => ?_)
  have hP : va_P (dC, dI) vwCl [(y, .inr (8, [.ref yt, .int v1, .int v2, .ref yr, .ref yk, .ref yz, .ref yp, .int v7, .int v8, .int v9, .int v10, .ref yl, .ref yw, .int v13, .int v14, .int v15, .int 0, .int 0, .int 0, .int v19, .int 0, .int v21, .ref yd, .int v23, .ref ys, .ref yn, .ref ym, .int v27, .ref yf, .ref yo, .ref yh, .ref yb, .int v32, .int v33, .int v34, .int v35, .int v36, .int v37, .int v38, .ref yx, .int v40, .int v41, .int v42]))] H := hP
  have hD : va_D A [(y, .inr (8, [.ref yt, .int v1, .int v2, .ref yr, .ref yk, .ref yz, .ref yp, .int v7, .int v8, .int v9, .int v10, .ref yl, .ref yw, .int v13, .int v14, .int v15, .int 0, .int 0, .int 0, .int v19, .int 0, .int v21, .ref yd, .int v23, .ref ys, .ref yn, .ref ym, .int v27, .ref yf, .ref yo, .ref yh, .ref yb, .int v32, .int v33, .int v34, .int v35, .int v36, .int v37, .int v38, .ref yx, .int v40, .int v41, .int v42]))] := hD
  refine lv_aload_n hx hb dX8_counts_72 rfl (lv_at hl 1 rfl) ?_
  refine lv_dup hx hb dX8_counts_73 rfl ?_
  refine va_get (D := (dC, dI)) (ci := 8) (v := .int 0) (C := RX8) (T := TX8) (N := 43) hx hb hts hinX8 hown hK hP 0 rfl rfl 16 (by decide) k_2 (fun _ h9 => h9) rfl dX8_counts_74 ?_
  refine lv_iconst (v := 1) hx hb dX8_counts_77 (by decide) ?_
  refine lv_iadd hx hb dX8_counts_78 ?_
  refine tp (y := 1) (by decide) ?_
  refine va_put (D := (dC, dI)) (ci := 8) (v := .int 1) (ty := tyX8 16) (C := RX8) (T := TX8) (N := 43) hx hb hts hinX8 tyX8 tyX8_ok nmX8 hown hK hP hD hS 0 rfl rfl 16 (by decide) k_2 (fun _ h9 => h9) rfl (by decide +kernel) rfl rfl (Nat.le_of_ble_eq_true rfl) dX8_counts_79 (fun H locs hP hD hS => ?_)
  have hP : va_P (dC, dI) vwCl [(y, .inr (8, [.ref yt, .int v1, .int v2, .ref yr, .ref yk, .ref yz, .ref yp, .int v7, .int v8, .int v9, .int v10, .ref yl, .ref yw, .int v13, .int v14, .int v15, .int 1, .int 0, .int 0, .int v19, .int 0, .int v21, .ref yd, .int v23, .ref ys, .ref yn, .ref ym, .int v27, .ref yf, .ref yo, .ref yh, .ref yb, .int v32, .int v33, .int v34, .int v35, .int v36, .int v37, .int v38, .ref yx, .int v40, .int v41, .int v42]))] H := hP
  have hD : va_D A [(y, .inr (8, [.ref yt, .int v1, .int v2, .ref yr, .ref yk, .ref yz, .ref yp, .int v7, .int v8, .int v9, .int v10, .ref yl, .ref yw, .int v13, .int v14, .int v15, .int 1, .int 0, .int 0, .int v19, .int 0, .int v21, .ref yd, .int v23, .ref ys, .ref yn, .ref ym, .int v27, .ref yf, .ref yo, .ref yh, .ref yb, .int v32, .int v33, .int v34, .int v35, .int v36, .int v37, .int v38, .ref yx, .int v40, .int v41, .int v42]))] := hD
  refine lv_iconst (v := 1) hx hb dX8_counts_82 (by decide) ?_
  have hP9 := hP.sub (ws' := [(y, .inr (8, [.ref yt, .int v1, .int v2, .ref yr, .ref yk, .ref yz, .ref yp, .int v7, .int v8, .int v9, .int v10, .ref yl, .ref yw, .int v13, .int v14, .int v15, .int 1, .int 0, .int 0, .int v19, .int 0, .int v21, .ref yd, .int v23, .ref ys, .ref yn, .ref ym, .int v27, .ref yf, .ref yo, .ref yh, .ref yb, .int v32, .int v33, .int v34, .int v35, .int v36, .int v37, .int v38, .ref yx, .int v40, .int v41, .int v42]))]) [0] rfl
  have hD9 := hD.sub (ws' := [(y, .inr (8, [.ref yt, .int v1, .int v2, .ref yr, .ref yk, .ref yz, .ref yp, .int v7, .int v8, .int v9, .int v10, .ref yl, .ref yw, .int v13, .int v14, .int v15, .int 1, .int 0, .int 0, .int v19, .int 0, .int v21, .ref yd, .int v23, .ref ys, .ref yn, .ref ym, .int v27, .ref yf, .ref yo, .ref yh, .ref yb, .int v32, .int v33, .int v34, .int v35, .int v36, .int v37, .int v38, .ref yx, .int v40, .int v41, .int v42]))]) [0] (by decide) rfl
  exact W.zret (v := 1) hx hb hr rfl (fun t ht hW => ⟨⟨1, (), rfl, rfl, by rw [ht]; exact hP9, va_K.moved hW.alike hK, hD9⟩, hS.F ht⟩) hS.2.2 dX8_counts_83

theorem bitOf0 (a : Int32) : pfX8_bitOf_r 0 a = 0 := by
  unfold pfX8_bitOf_r
  have e : (0 : Int32) >>> (a &&& 31) = 0 := by
    apply Int32.toBitVec_inj.mp
    simp
  rw [e]
  decide
theorem wk_in {a : Int32} {w : Int32} {n : Nat} (hw : w = nI n) (hn : n < 3) (h : ¬ pfX8_isIn_r a 0 3 = 0) : vp_in ((24 + (3 * a)) + w) 4668 := by
  obtain ⟨j, hj, rfl⟩ := isIn_lt (by decide) h
  have e : (3 : Int32).toInt = 3 := by decide
  rw [hw, show (24 : Int32) = nI 24 by decide, show (3 : Int32) = nI 3 by decide, pk_mul, nI_add, nI_add]
  exact vp_in_nI (by omega) (by decide)
theorem wk_rd {L : List Int32} {a : Int32} {w : Int32} {n : Nat} (hw : w = nI n) (hn : n < 3) (h : ¬ pfX8_isIn_r a 0 3 = 0) : jn L R0 ((24 + (3 * a)) + w).toNatClampNeg = 0 := by
  obtain ⟨j, hj, rfl⟩ := isIn_lt (by decide) h
  have e : (3 : Int32).toInt = 3 := by decide
  rw [hw, show (24 : Int32) = nI 24 by decide, show (3 : Int32) = nI 3 by decide, pk_mul, nI_add, nI_add, nI_clamp (by omega), jn_hi (by omega), R0_lo (by omega)]

def pfX8_walksIn_0_r (p1 : Int32) : Int32 := if (pfX8_isIn_r p1 0 3) = 0 then 1 else 0
def pfX8_walksIn_0_y_15 (p1 : Int32) : Int32 := if (pfX8_isIn_r p1 0 3) = 0 then 0 else 1
def pfX8_walksIn_0_y_16 (p1 : Int32) : Int32 := if (pfX8_isIn_r p1 0 3) = 0 then 0 else 1
def pfX8_walksIn_0_y_19 (p1 : Int32) : Int32 := if (pfX8_isIn_r p1 0 3) = 0 then 0 else p1
set_option maxHeartbeats 4000000 in
set_option maxRecDepth 100000 in
theorem kkX8_walksIn_0 (l : Launch) (dC : Nat → ClassId) (dI : Nat → Nat → Nat) (cI cB cZ cR : ClassId) (sz : Nat) (y : Nat) (yt : Nat) (yr : Nat) (yk : Nat) (yz : Nat) (yp : Nat) (yl : Nat) (yw : Nat) (yd : Nat) (ys : Nat) (yn : Nat) (ym : Nat) (yf : Nat) (yo : Nat) (yh : Nat) (yb : Nat) (yx : Nat) (p1 : Int32) : Met l yX8_walksIn (.code yX8_walksIn cX8_walksIn 8 (some .int) :: wsL_law) ({ frames := 1, cells := 0, slots := 0, locals := 23 }) (zPc dC dI (zT cI cB cZ cR) [.ref y, .int p1] sz [(y, .inr (8, [.ref yt, .int 0, .int 0, .ref yr, .ref yk, .ref yz, .ref yp, .int 0, .int 0, .int 0, .int 0, .ref yl, .ref yw, .int 1, .int 0, .int 0, .int 0, .int 0, .int 0, .int 0, .int 0, .int (-1), .ref yd, .int 0, .ref ys, .ref yn, .ref ym, .int 0, .ref yf, .ref yo, .ref yh, .ref yb, .int 0, .int 0, .int 0, .int 0, .int 0, .int 0, .int 0, .ref yx, .int 0, .int 0, .int 0])), (yr, .inl (cI, 4668, .inl (jn [0, 4, 0, 0, 0, 0, 0, 0, 0, 0, 0, 0, 0, 0, 0, 0, 0, (-1), 0, 0, 0, 0, 0, 0] R0)))]) (va_Qi (fun (r : Int32) (_ : Unit) => r = (pfX8_walksIn_0_r p1)) (fun _ : Unit => zB dC dI (zT cI cB cZ cR) (va_A [(y, .inr (8, [.ref yt, .int 0, .int 0, .ref yr, .ref yk, .ref yz, .ref yp, .int 0, .int 0, .int 0, .int 0, .ref yl, .ref yw, .int 1, .int 0, .int 0, .int 0, .int 0, .int 0, .int 0, .int 0, .int (-1), .ref yd, .int 0, .ref ys, .ref yn, .ref ym, .int 0, .ref yf, .ref yo, .ref yh, .ref yb, .int 0, .int 0, .int 0, .int 0, .int 0, .int 0, .int 0, .ref yx, .int 0, .int 0, .int 0])), (yr, .inl (cI, 4668, .inl (jn [0, 4, 0, 0, 0, 0, 0, 0, 0, 0, 0, 0, 0, 0, 0, 0, 0, (-1), 0, 0, 0, 0, 0, 0] R0)))] sz) [(y, .inr (8, [.ref yt, .int 0, .int 0, .ref yr, .ref yk, .ref yz, .ref yp, .int 0, .int 0, .int 0, .int 0, .ref yl, .ref yw, .int 1, .int 0, .int (pfX8_walksIn_0_y_15 p1), .int (pfX8_walksIn_0_y_16 p1), .int 0, .int 0, .int (pfX8_walksIn_0_y_19 p1), .int 0, .int (-1), .ref yd, .int 0, .ref ys, .ref yn, .ref ym, .int 0, .ref yf, .ref yo, .ref yh, .ref yb, .int 0, .int 0, .int 0, .int 0, .int 0, .int 0, .int 0, .ref yx, .int 0, .int 0, .int 0])), (yr, .inl (cI, 4668, .inl (jn [0, 4, 0, 0, 0, 0, 0, 0, 0, 0, 0, 0, 0, 0, 0, 0, 0, (-1), 0, 0, 0, 0, 0, 0] R0)))]) (va_A [(y, .inr (8, [.ref yt, .int 0, .int 0, .ref yr, .ref yk, .ref yz, .ref yp, .int 0, .int 0, .int 0, .int 0, .ref yl, .ref yw, .int 1, .int 0, .int 0, .int 0, .int 0, .int 0, .int 0, .int 0, .int (-1), .ref yd, .int 0, .ref ys, .ref yn, .ref ym, .int 0, .ref yf, .ref yo, .ref yh, .ref yb, .int 0, .int 0, .int 0, .int 0, .int 0, .int 0, .int 0, .ref yx, .int 0, .int 0, .int 0])), (yr, .inl (cI, 4668, .inl (jn [0, 4, 0, 0, 0, 0, 0, 0, 0, 0, 0, 0, 0, 0, 0, 0, 0, (-1), 0, 0, 0, 0, 0, 0] R0)))] sz)) 0 0 (va_A [(y, .inr (8, [.ref yt, .int 0, .int 0, .ref yr, .ref yk, .ref yz, .ref yp, .int 0, .int 0, .int 0, .int 0, .ref yl, .ref yw, .int 1, .int 0, .int 0, .int 0, .int 0, .int 0, .int 0, .int 0, .int (-1), .ref yd, .int 0, .ref ys, .ref yn, .ref ym, .int 0, .ref yf, .ref yo, .ref yh, .ref yb, .int 0, .int 0, .int 0, .int 0, .int 0, .int 0, .int 0, .ref yx, .int 0, .int 0, .int 0])), (yr, .inl (cI, 4668, .inl (jn [0, 4, 0, 0, 0, 0, 0, 0, 0, 0, 0, 0, 0, 0, 0, 0, 0, (-1), 0, 0, 0, 0, 0, 0] R0)))] sz) := by
  refine Met.ofW (cc := cX8_walksIn) (maxL := 8) (ret := (some .int)) (by decide) rfl ?_
  intro p e s m args below meth c s₁ B hml hv
  obtain ⟨rfl, hsz, hP, hK, hD0, hN⟩ := hv
  have hx := B.exec
  have hb := B.bytes
  have hr := B.returns
  have hts := atoms_spec (ws := (.code yX8_walksIn cX8_walksIn 8 (some .int) :: wsL_law)) B.pre
  have hown : s.vm.findClass RX8 = some m.cls := findClass_of_methodNamed B.named
  have hlocks := B.notSynchronized
  have hinX8 : ∀ w ∈ u_ws RX8 TX8 43, w ∈ (.code yX8_walksIn cX8_walksIn 8 (some .int) :: wsL_law) := fun w h => List.mem_cons_of_mem _ (inlX8 w h)
  have k_0 := hts (.fieldLink RX8 13 "RingMarksModel" "\x72" "[I") (List.mem_cons_of_mem _ wm_128)
  have k_1 := hts (.fieldLink RX8 207 "RingMarksModel" "walkLast" "I") (List.mem_cons_of_mem _ wm_498)
  have k_2 := hts (.fieldLink RX8 201 "RingMarksModel" "walkPlaces" "I") (List.mem_cons_of_mem _ wm_501)
  subst hsz
  have hD := hD0.self (sz := s.heap.size)
  generalize hAe : va_A [(y, .inr (8, [.ref yt, .int 0, .int 0, .ref yr, .ref yk, .ref yz, .ref yp, .int 0, .int 0, .int 0, .int 0, .ref yl, .ref yw, .int 1, .int 0, .int 0, .int 0, .int 0, .int 0, .int 0, .int 0, .int (-1), .ref yd, .int 0, .ref ys, .ref yn, .ref ym, .int 0, .ref yf, .ref yo, .ref yh, .ref yb, .int 0, .int 0, .int 0, .int 0, .int 0, .int 0, .int 0, .ref yx, .int 0, .int 0, .int 0])), (yr, .inl (cI, 4668, .inl (jn [0, 4, 0, 0, 0, 0, 0, 0, 0, 0, 0, 0, 0, 0, 0, 0, 0, (-1), 0, 0, 0, 0, 0, 0] R0)))] s.heap.size = A at hD ⊢
  have hA : ∀ q : Nat, s.heap.size ≤ q → A q := fun q h => by rw [← hAe]; exact Or.inr h
  have hP : va_P (dC, dI) vwCl [(y, .inr (8, [.ref yt, .int 0, .int 0, .ref yr, .ref yk, .ref yz, .ref yp, .int 0, .int 0, .int 0, .int 0, .ref yl, .ref yw, .int 1, .int 0, .int 0, .int 0, .int 0, .int 0, .int 0, .int 0, .int (-1), .ref yd, .int 0, .ref ys, .ref yn, .ref ym, .int 0, .ref yf, .ref yo, .ref yh, .ref yb, .int 0, .int 0, .int 0, .int 0, .int 0, .int 0, .int 0, .ref yx, .int 0, .int 0, .int 0])), (yr, .inl (cI, 4668, .inl (jn [0, 4, 0, 0, 0, 0, 0, 0, 0, 0, 0, 0, 0, 0, 0, 0, 0, (-1), 0, 0, 0, 0, 0, 0] R0)))] s.heap := hP
  have hl := lv_entry ([.ref y, .int p1]) (n := 8) (Nat.le_of_ble_eq_true rfl)
  rw [lg_entry_eq]
  generalize (lg_sl ([.ref y, .int p1]) ++ List.replicate (8 - (lg_sl ([.ref y, .int p1])).length) Slot.unset).toArray = ls at hl ⊢
  have hl : lv_has ls 8 [(0, .ref y), (1, .int p1)] := hl
  obtain ⟨H, hH⟩ : ∃ H, H = s.heap := ⟨_, rfl⟩
  rw [← hH] at hP ⊢
  have hS : va_S A s.heap H [] := by rw [hH]; exact va_S.rf
  refine lv_iload_n hx hb dX8_walksIn_0 rfl (lv_at hl 1 rfl) ?_
  refine lv_istore_n (lv' := [(2, .int p1), (0, .ref y), (1, .int p1)]) hx hb dX8_walksIn_1 rfl hl (by decide) rfl (fun ls hl => ?_)
  refine lv_iconst (v := 0) hx hb dX8_walksIn_2 (by decide) ?_
  refine lv_istore_n (lv' := [(3, .int 0), (2, .int p1), (0, .ref y), (1, .int p1)]) hx hb dX8_walksIn_3 rfl hl (by decide) rfl (fun ls hl => ?_)
  refine lv_aload_n hx hb dX8_walksIn_4 rfl (lv_at hl 2 rfl) ?_
  refine zcVi (As := []) (rest := []) (wr := []) ⟨hx, hb, hml, hown, hts⟩ (kkX8_isPacked l dC dI cI cB cZ cR H.size y yt yr yk yz yp yl yw yd ys yn ym yf yo yh yb yx 0 0 0 0 0 0 1 0 0 0 0 0 0 0 (-1) 0 0 0 0 0 0 0 0 0 0 0 0 0 0 0 0 0 0 0 0 0 0 0 0 0 0 (-1) 0 0 0 0 0 0 R0 ) (cwV 0 hts (zgV wm_372 wm_373 wm_374 wm_5 wm_375) rfl rfl rfl (by decide +kernel) ⟨Nat.le_of_ble_eq_true rfl, Nat.le_of_ble_eq_true rfl⟩) hN hK hP hD hS hA [0, 1] [] rfl rfl ⟨rfl, rfl⟩ (by decide) (ci := 8) rfl rfl rfl rfl hl.1 rfl (Nat.le_of_ble_eq_true rfl) dX8_walksIn_5 ⟨Nat.le_of_ble_eq_true rfl, Nat.le_of_ble_eq_true rfl⟩ (fun r u hu H locs hP hD hS => ?_)
  have hu : r = 0 := hu
  subst hu
  have hP : va_P (dC, dI) vwCl [(y, .inr (8, [.ref yt, .int 0, .int 0, .ref yr, .ref yk, .ref yz, .ref yp, .int 0, .int 0, .int 0, .int 0, .ref yl, .ref yw, .int 1, .int 0, .int 0, .int 0, .int 0, .int 0, .int 0, .int 0, .int (-1), .ref yd, .int 0, .ref ys, .ref yn, .ref ym, .int 0, .ref yf, .ref yo, .ref yh, .ref yb, .int 0, .int 0, .int 0, .int 0, .int 0, .int 0, .int 0, .ref yx, .int 0, .int 0, .int 0])), (yr, .inl (cI, 4668, .inl (jn [0, 4, 0, 0, 0, 0, 0, 0, 0, 0, 0, 0, 0, 0, 0, 0, 0, (-1), 0, 0, 0, 0, 0, 0] R0)))] H := hP
  have hD : va_D A [(y, .inr (8, [.ref yt, .int 0, .int 0, .ref yr, .ref yk, .ref yz, .ref yp, .int 0, .int 0, .int 0, .int 0, .ref yl, .ref yw, .int 1, .int 0, .int 0, .int 0, .int 0, .int 0, .int 0, .int 0, .int (-1), .ref yd, .int 0, .ref ys, .ref yn, .ref ym, .int 0, .ref yf, .ref yo, .ref yh, .ref yb, .int 0, .int 0, .int 0, .int 0, .int 0, .int 0, .int 0, .ref yx, .int 0, .int 0, .int 0])), (yr, .inl (cI, 4668, .inl (jn [0, 4, 0, 0, 0, 0, 0, 0, 0, 0, 0, 0, 0, 0, 0, 0, 0, (-1), 0, 0, 0, 0, 0, 0] R0)))] := hD
  refine lv_if_eq (tgt := 19) hx hb dX8_walksIn_8 (by decide) (fun _ => ?_) (fun c => absurd (by decide) c)
  refine lv_iload_n hx hb dX8_walksIn_19 rfl (lv_at hl 1 rfl) ?_
  refine lv_istore (lv' := [(4, .int p1), (3, .int 0), (2, .int p1), (0, .ref y), (1, .int p1)]) hx hb dX8_walksIn_20 hl (by decide) rfl (fun ls hl => ?_)
  refine lv_aload_n hx hb dX8_walksIn_22 rfl (lv_at hl 3 rfl) ?_
  refine zcVi (As := []) (rest := []) (wr := []) ⟨hx, hb, hml, hown, hts⟩ (kkX8_isPacked l dC dI cI cB cZ cR H.size y yt yr yk yz yp yl yw yd ys yn ym yf yo yh yb yx 0 0 0 0 0 0 1 0 0 0 0 0 0 0 (-1) 0 0 0 0 0 0 0 0 0 0 0 0 0 0 0 0 0 0 0 0 0 0 0 0 0 0 (-1) 0 0 0 0 0 0 R0 ) (cwV 0 hts (zgV wm_372 wm_373 wm_374 wm_5 wm_375) rfl rfl rfl (by decide +kernel) ⟨Nat.le_of_ble_eq_true rfl, Nat.le_of_ble_eq_true rfl⟩) hN hK hP hD hS hA [0, 1] [] rfl rfl ⟨rfl, rfl⟩ (by decide) (ci := 8) rfl rfl rfl rfl hl.1 rfl (Nat.le_of_ble_eq_true rfl) dX8_walksIn_23 ⟨Nat.le_of_ble_eq_true rfl, Nat.le_of_ble_eq_true rfl⟩ (fun r u hu H locs hP hD hS => ?_)
  have hu : r = 0 := hu
  subst hu
  have hP : va_P (dC, dI) vwCl [(y, .inr (8, [.ref yt, .int 0, .int 0, .ref yr, .ref yk, .ref yz, .ref yp, .int 0, .int 0, .int 0, .int 0, .ref yl, .ref yw, .int 1, .int 0, .int 0, .int 0, .int 0, .int 0, .int 0, .int 0, .int (-1), .ref yd, .int 0, .ref ys, .ref yn, .ref ym, .int 0, .ref yf, .ref yo, .ref yh, .ref yb, .int 0, .int 0, .int 0, .int 0, .int 0, .int 0, .int 0, .ref yx, .int 0, .int 0, .int 0])), (yr, .inl (cI, 4668, .inl (jn [0, 4, 0, 0, 0, 0, 0, 0, 0, 0, 0, 0, 0, 0, 0, 0, 0, (-1), 0, 0, 0, 0, 0, 0] R0)))] H := hP
  have hD : va_D A [(y, .inr (8, [.ref yt, .int 0, .int 0, .ref yr, .ref yk, .ref yz, .ref yp, .int 0, .int 0, .int 0, .int 0, .ref yl, .ref yw, .int 1, .int 0, .int 0, .int 0, .int 0, .int 0, .int 0, .int 0, .int (-1), .ref yd, .int 0, .ref ys, .ref yn, .ref ym, .int 0, .ref yf, .ref yo, .ref yh, .ref yb, .int 0, .int 0, .int 0, .int 0, .int 0, .int 0, .int 0, .ref yx, .int 0, .int 0, .int 0])), (yr, .inl (cI, 4668, .inl (jn [0, 4, 0, 0, 0, 0, 0, 0, 0, 0, 0, 0, 0, 0, 0, 0, 0, (-1), 0, 0, 0, 0, 0, 0] R0)))] := hD
  refine lv_if_eq (tgt := 76) hx hb dX8_walksIn_26 (by decide) (fun _ => ?_) (fun c => absurd (by decide) c)
  refine lv_iload_n hx hb dX8_walksIn_76 rfl (lv_at hl 2 rfl) ?_
  refine lv_iconst (v := 0) hx hb dX8_walksIn_77 (by decide) ?_
  refine lv_aload_n hx hb dX8_walksIn_78 rfl (lv_at hl 3 rfl) ?_
  refine va_get (D := (dC, dI)) (ci := 8) (v := .ref yr) (C := RX8) (T := TX8) (N := 43) hx hb hts hinX8 hown hK hP 0 rfl rfl 3 (by decide) k_0 (fun _ h9 => h9) rfl dX8_walksIn_79 ?_
  refine lv_iconst (v := 1) hx hb dX8_walksIn_82 (by decide) ?_
  refine za_iald (v := 4) hx hb hK hP 1 0 rfl rfl (zin tn_1 (Nat.le_of_ble_eq_true rfl)) (zrd _ tn_1 rfl) dX8_walksIn_83 ?_
  refine lv_iconst (v := 1) hx hb dX8_walksIn_84 (by decide) ?_
  refine lv_isub hx hb dX8_walksIn_85 ?_
  refine tp (y := 3) (by decide) ?_
  refine zcSi (As := [.int p1, .int 0, .int 3]) (rest := []) (wr := [(y, .inr (8, [.ref yt, .int 0, .int 0, .ref yr, .ref yk, .ref yz, .ref yp, .int 0, .int 0, .int 0, .int 0, .ref yl, .ref yw, .int 1, .int 0, .int 0, .int 0, .int 0, .int 0, .int 0, .int 0, .int (-1), .ref yd, .int 0, .ref ys, .ref yn, .ref ym, .int 0, .ref yf, .ref yo, .ref yh, .ref yb, .int 0, .int 0, .int 0, .int 0, .int 0, .int 0, .int 0, .ref yx, .int 0, .int 0, .int 0])), (yr, .inl (cI, 4668, .inl (jn [0, 4, 0, 0, 0, 0, 0, 0, 0, 0, 0, 0, 0, 0, 0, 0, 0, (-1), 0, 0, 0, 0, 0, 0] R0)))]) ⟨hx, hb, hml, hown, hts⟩ (kkX8_isIn l dC dI cI cB cZ cR H.size p1 0 3 ) (va_cwS 3 hts (zgS wm_191 wm_192 wm_5 wm_193) rfl rfl rfl (by decide +kernel) ⟨Nat.le_of_ble_eq_true rfl, Nat.le_of_ble_eq_true rfl⟩) hN hK hP hD hS hA [] [0, 1] rfl rfl ⟨rfl, rfl⟩ (by decide) rfl hl.1 rfl (Nat.le_of_ble_eq_true rfl) dX8_walksIn_86 ⟨Nat.le_of_ble_eq_true rfl, Nat.le_of_ble_eq_true rfl⟩ (fun r u hu H locs hP hD hS => ?_)
  have hu : r = (pfX8_isIn_r p1 0 3) := hu
  subst hu
  have hP : va_P (dC, dI) vwCl [(y, .inr (8, [.ref yt, .int 0, .int 0, .ref yr, .ref yk, .ref yz, .ref yp, .int 0, .int 0, .int 0, .int 0, .ref yl, .ref yw, .int 1, .int 0, .int 0, .int 0, .int 0, .int 0, .int 0, .int 0, .int (-1), .ref yd, .int 0, .ref ys, .ref yn, .ref ym, .int 0, .ref yf, .ref yo, .ref yh, .ref yb, .int 0, .int 0, .int 0, .int 0, .int 0, .int 0, .int 0, .ref yx, .int 0, .int 0, .int 0])), (yr, .inl (cI, 4668, .inl (jn [0, 4, 0, 0, 0, 0, 0, 0, 0, 0, 0, 0, 0, 0, 0, 0, 0, (-1), 0, 0, 0, 0, 0, 0] R0)))] H := hP
  have hD : va_D A [(y, .inr (8, [.ref yt, .int 0, .int 0, .ref yr, .ref yk, .ref yz, .ref yp, .int 0, .int 0, .int 0, .int 0, .ref yl, .ref yw, .int 1, .int 0, .int 0, .int 0, .int 0, .int 0, .int 0, .int 0, .int (-1), .ref yd, .int 0, .ref ys, .ref yn, .ref ym, .int 0, .ref yf, .ref yo, .ref yh, .ref yb, .int 0, .int 0, .int 0, .int 0, .int 0, .int 0, .int 0, .ref yx, .int 0, .int 0, .int 0])), (yr, .inl (cI, 4668, .inl (jn [0, 4, 0, 0, 0, 0, 0, 0, 0, 0, 0, 0, 0, 0, 0, 0, 0, (-1), 0, 0, 0, 0, 0, 0] R0)))] := hD
  refine lv_if_ne (tgt := 94) hx hb dX8_walksIn_89 (by decide) (fun c_1 => ?_) (fun c_1 => ?_)
  · refine lv_iload_n hx hb dX8_walksIn_94 rfl (lv_at hl 1 rfl) ?_
    refine lv_iload_n hx hb dX8_walksIn_95 rfl (lv_at hl 2 rfl) ?_
    refine zcSi (As := [.int 0, .int p1]) (rest := []) (wr := [(y, .inr (8, [.ref yt, .int 0, .int 0, .ref yr, .ref yk, .ref yz, .ref yp, .int 0, .int 0, .int 0, .int 0, .ref yl, .ref yw, .int 1, .int 0, .int 0, .int 0, .int 0, .int 0, .int 0, .int 0, .int (-1), .ref yd, .int 0, .ref ys, .ref yn, .ref ym, .int 0, .ref yf, .ref yo, .ref yh, .ref yb, .int 0, .int 0, .int 0, .int 0, .int 0, .int 0, .int 0, .ref yx, .int 0, .int 0, .int 0])), (yr, .inl (cI, 4668, .inl (jn [0, 4, 0, 0, 0, 0, 0, 0, 0, 0, 0, 0, 0, 0, 0, 0, 0, (-1), 0, 0, 0, 0, 0, 0] R0)))]) ⟨hx, hb, hml, hown, hts⟩ (kkX8_bitOf l dC dI cI cB cZ cR H.size 0 p1 ) (va_cwS 2 hts (zgS wm_358 wm_359 wm_5 wm_360) rfl rfl rfl (by decide +kernel) ⟨Nat.le_of_ble_eq_true rfl, Nat.le_of_ble_eq_true rfl⟩) hN hK hP hD hS hA [] [0, 1] rfl rfl ⟨rfl, rfl⟩ (by decide) rfl hl.1 rfl (Nat.le_of_ble_eq_true rfl) dX8_walksIn_96 ⟨Nat.le_of_ble_eq_true rfl, Nat.le_of_ble_eq_true rfl⟩ (fun r u hu H locs hP hD hS => ?_)
    have hu : r = (pfX8_bitOf_r 0 p1) := hu
    subst hu
    have hP : va_P (dC, dI) vwCl [(y, .inr (8, [.ref yt, .int 0, .int 0, .ref yr, .ref yk, .ref yz, .ref yp, .int 0, .int 0, .int 0, .int 0, .ref yl, .ref yw, .int 1, .int 0, .int 0, .int 0, .int 0, .int 0, .int 0, .int 0, .int (-1), .ref yd, .int 0, .ref ys, .ref yn, .ref ym, .int 0, .ref yf, .ref yo, .ref yh, .ref yb, .int 0, .int 0, .int 0, .int 0, .int 0, .int 0, .int 0, .ref yx, .int 0, .int 0, .int 0])), (yr, .inl (cI, 4668, .inl (jn [0, 4, 0, 0, 0, 0, 0, 0, 0, 0, 0, 0, 0, 0, 0, 0, 0, (-1), 0, 0, 0, 0, 0, 0] R0)))] H := hP
    have hD : va_D A [(y, .inr (8, [.ref yt, .int 0, .int 0, .ref yr, .ref yk, .ref yz, .ref yp, .int 0, .int 0, .int 0, .int 0, .ref yl, .ref yw, .int 1, .int 0, .int 0, .int 0, .int 0, .int 0, .int 0, .int 0, .int (-1), .ref yd, .int 0, .ref ys, .ref yn, .ref ym, .int 0, .ref yf, .ref yo, .ref yh, .ref yb, .int 0, .int 0, .int 0, .int 0, .int 0, .int 0, .int 0, .ref yx, .int 0, .int 0, .int 0])), (yr, .inl (cI, 4668, .inl (jn [0, 4, 0, 0, 0, 0, 0, 0, 0, 0, 0, 0, 0, 0, 0, 0, 0, (-1), 0, 0, 0, 0, 0, 0] R0)))] := hD
    refine tp (y := 0) (bitOf0 _) ?_
    refine lv_if_eq (tgt := 104) hx hb dX8_walksIn_99 (by decide) (fun _ => ?_) (fun c => absurd (by decide) c)
    refine lv_iload_n hx hb dX8_walksIn_104 rfl (lv_at hl 1 rfl) ?_
    refine lv_iconst (v := 1) hx hb dX8_walksIn_105 (by decide) ?_
    refine lv_iload hx hb dX8_walksIn_106 (lv_at hl 0 rfl) ?_
    refine lv_ishl hx hb dX8_walksIn_108 ?_
    refine lv_ior hx hb dX8_walksIn_109 ?_
    refine lv_istore_n (lv' := [(3, .int ((0 : Int32) ||| ((1 : Int32) <<< (p1 &&& 31)))), (4, .int p1), (2, .int p1), (0, .ref y), (1, .int p1)]) hx hb dX8_walksIn_110 rfl hl (by decide) rfl (fun ls hl => ?_)
    refine lv_aload_n hx hb dX8_walksIn_111 rfl (lv_at hl 3 rfl) ?_
    refine va_get (D := (dC, dI)) (ci := 8) (v := .ref yr) (C := RX8) (T := TX8) (N := 43) hx hb hts hinX8 hown hK hP 0 rfl rfl 3 (by decide) k_0 (fun _ h9 => h9) rfl dX8_walksIn_112 ?_
    refine lv_iconst (v := 0) hx hb dX8_walksIn_115 (by decide) ?_
    refine lv_iload hx hb dX8_walksIn_116 (lv_at hl 1 rfl) ?_
    refine lv_iconst (v := 1) hx hb dX8_walksIn_118 (by decide) ?_
    refine zcSi (As := [.int 0, .int p1, .int 1]) (rest := [.ref yr]) (wr := [(y, .inr (8, [.ref yt, .int 0, .int 0, .ref yr, .ref yk, .ref yz, .ref yp, .int 0, .int 0, .int 0, .int 0, .ref yl, .ref yw, .int 1, .int 0, .int 0, .int 0, .int 0, .int 0, .int 0, .int 0, .int (-1), .ref yd, .int 0, .ref ys, .ref yn, .ref ym, .int 0, .ref yf, .ref yo, .ref yh, .ref yb, .int 0, .int 0, .int 0, .int 0, .int 0, .int 0, .int 0, .ref yx, .int 0, .int 0, .int 0])), (yr, .inl (cI, 4668, .inl (jn [0, 4, 0, 0, 0, 0, 0, 0, 0, 0, 0, 0, 0, 0, 0, 0, 0, (-1), 0, 0, 0, 0, 0, 0] R0)))]) ⟨hx, hb, hml, hown, hts⟩ (kkX8_at_0_1 l dC dI cI cB cZ cR H.size p1 ) (va_cwS 3 hts (zgS wm_400 wm_401 wm_5 wm_402) rfl rfl rfl (by decide +kernel) ⟨Nat.le_of_ble_eq_true rfl, Nat.le_of_ble_eq_true rfl⟩) hN hK hP hD hS hA [] [0, 1] rfl rfl ⟨rfl, rfl⟩ (by decide) rfl hl.1 rfl (Nat.le_of_ble_eq_true rfl) dX8_walksIn_119 ⟨Nat.le_of_ble_eq_true rfl, Nat.le_of_ble_eq_true rfl⟩ (fun r u hu H locs hP hD hS => ?_)
    have hu : r = ((24 + (3 * p1)) + 1) := hu
    subst hu
    have hP : va_P (dC, dI) vwCl [(y, .inr (8, [.ref yt, .int 0, .int 0, .ref yr, .ref yk, .ref yz, .ref yp, .int 0, .int 0, .int 0, .int 0, .ref yl, .ref yw, .int 1, .int 0, .int 0, .int 0, .int 0, .int 0, .int 0, .int 0, .int (-1), .ref yd, .int 0, .ref ys, .ref yn, .ref ym, .int 0, .ref yf, .ref yo, .ref yh, .ref yb, .int 0, .int 0, .int 0, .int 0, .int 0, .int 0, .int 0, .ref yx, .int 0, .int 0, .int 0])), (yr, .inl (cI, 4668, .inl (jn [0, 4, 0, 0, 0, 0, 0, 0, 0, 0, 0, 0, 0, 0, 0, 0, 0, (-1), 0, 0, 0, 0, 0, 0] R0)))] H := hP
    have hD : va_D A [(y, .inr (8, [.ref yt, .int 0, .int 0, .ref yr, .ref yk, .ref yz, .ref yp, .int 0, .int 0, .int 0, .int 0, .ref yl, .ref yw, .int 1, .int 0, .int 0, .int 0, .int 0, .int 0, .int 0, .int 0, .int (-1), .ref yd, .int 0, .ref ys, .ref yn, .ref ym, .int 0, .ref yf, .ref yo, .ref yh, .ref yb, .int 0, .int 0, .int 0, .int 0, .int 0, .int 0, .int 0, .ref yx, .int 0, .int 0, .int 0])), (yr, .inl (cI, 4668, .inl (jn [0, 4, 0, 0, 0, 0, 0, 0, 0, 0, 0, 0, 0, 0, 0, 0, 0, (-1), 0, 0, 0, 0, 0, 0] R0)))] := hD
    refine za_iald (v := 0) hx hb hK hP 1 0 rfl rfl (wk_in (n := 1) (by decide) (by decide) c_1) (wk_rd (n := 1) (by decide) (by decide) c_1) dX8_walksIn_122 ?_
    refine lv_istore (lv' := [(5, .int 0), (3, .int ((0 : Int32) ||| ((1 : Int32) <<< (p1 &&& 31)))), (4, .int p1), (2, .int p1), (0, .ref y), (1, .int p1)]) hx hb dX8_walksIn_123 hl (by decide) rfl (fun ls hl => ?_)
    refine lv_aload_n hx hb dX8_walksIn_125 rfl (lv_at hl 4 rfl) ?_
    refine lv_iload hx hb dX8_walksIn_126 (lv_at hl 2 rfl) ?_
    refine va_put (D := (dC, dI)) (ci := 8) (v := .int p1) (ty := tyX8 19) (C := RX8) (T := TX8) (N := 43) hx hb hts hinX8 tyX8 tyX8_ok nmX8 hown hK hP hD hS 0 rfl rfl 19 (by decide) k_1 (fun _ h9 => h9) rfl (by decide +kernel) rfl rfl (Nat.le_of_ble_eq_true rfl) dX8_walksIn_128 (fun H locs hP hD hS => ?_)
    have hP : va_P (dC, dI) vwCl [(y, .inr (8, [.ref yt, .int 0, .int 0, .ref yr, .ref yk, .ref yz, .ref yp, .int 0, .int 0, .int 0, .int 0, .ref yl, .ref yw, .int 1, .int 0, .int 0, .int 0, .int 0, .int 0, .int p1, .int 0, .int (-1), .ref yd, .int 0, .ref ys, .ref yn, .ref ym, .int 0, .ref yf, .ref yo, .ref yh, .ref yb, .int 0, .int 0, .int 0, .int 0, .int 0, .int 0, .int 0, .ref yx, .int 0, .int 0, .int 0])), (yr, .inl (cI, 4668, .inl (jn [0, 4, 0, 0, 0, 0, 0, 0, 0, 0, 0, 0, 0, 0, 0, 0, 0, (-1), 0, 0, 0, 0, 0, 0] R0)))] H := hP
    have hD : va_D A [(y, .inr (8, [.ref yt, .int 0, .int 0, .ref yr, .ref yk, .ref yz, .ref yp, .int 0, .int 0, .int 0, .int 0, .ref yl, .ref yw, .int 1, .int 0, .int 0, .int 0, .int 0, .int 0, .int p1, .int 0, .int (-1), .ref yd, .int 0, .ref ys, .ref yn, .ref ym, .int 0, .ref yf, .ref yo, .ref yh, .ref yb, .int 0, .int 0, .int 0, .int 0, .int 0, .int 0, .int 0, .ref yx, .int 0, .int 0, .int 0])), (yr, .inl (cI, 4668, .inl (jn [0, 4, 0, 0, 0, 0, 0, 0, 0, 0, 0, 0, 0, 0, 0, 0, 0, (-1), 0, 0, 0, 0, 0, 0] R0)))] := hD
    refine lv_iload hx hb dX8_walksIn_131 (lv_at hl 0 rfl) ?_
    refine lv_iconst (v := 4) hx hb dX8_walksIn_133 (by decide) ?_
    refine lv_iand hx hb dX8_walksIn_134 ?_
    refine tp (y := 0) (by decide) ?_
    refine lv_if_eq (tgt := 229) hx hb dX8_walksIn_135 (by decide) (fun _ => ?_) (fun c => absurd (by decide) c)
    refine lv_aload_n hx hb dX8_walksIn_229 rfl (lv_at hl 4 rfl) ?_
    refine lv_iload hx hb dX8_walksIn_230 (lv_at hl 0 rfl) ?_
    refine lv_aload_n hx hb dX8_walksIn_232 rfl (lv_at hl 4 rfl) ?_
    refine va_get (D := (dC, dI)) (ci := 8) (v := .ref yr) (C := RX8) (T := TX8) (N := 43) hx hb hts hinX8 hown hK hP 0 rfl rfl 3 (by decide) k_0 (fun _ h9 => h9) rfl dX8_walksIn_233 ?_
    refine lv_iconst (v := 0) hx hb dX8_walksIn_236 (by decide) ?_
    refine lv_iload hx hb dX8_walksIn_237 (lv_at hl 2 rfl) ?_
    refine lv_iconst (v := 0) hx hb dX8_walksIn_239 (by decide) ?_
    refine zcSi (As := [.int 0, .int p1, .int 0]) (rest := [.ref yr, .int 0, .ref y]) (wr := [(y, .inr (8, [.ref yt, .int 0, .int 0, .ref yr, .ref yk, .ref yz, .ref yp, .int 0, .int 0, .int 0, .int 0, .ref yl, .ref yw, .int 1, .int 0, .int 0, .int 0, .int 0, .int 0, .int p1, .int 0, .int (-1), .ref yd, .int 0, .ref ys, .ref yn, .ref ym, .int 0, .ref yf, .ref yo, .ref yh, .ref yb, .int 0, .int 0, .int 0, .int 0, .int 0, .int 0, .int 0, .ref yx, .int 0, .int 0, .int 0])), (yr, .inl (cI, 4668, .inl (jn [0, 4, 0, 0, 0, 0, 0, 0, 0, 0, 0, 0, 0, 0, 0, 0, 0, (-1), 0, 0, 0, 0, 0, 0] R0)))]) ⟨hx, hb, hml, hown, hts⟩ (kkX8_at_0_0 l dC dI cI cB cZ cR H.size p1 ) (va_cwS 3 hts (zgS wm_400 wm_401 wm_5 wm_402) rfl rfl rfl (by decide +kernel) ⟨Nat.le_of_ble_eq_true rfl, Nat.le_of_ble_eq_true rfl⟩) hN hK hP hD hS hA [] [0, 1] rfl rfl ⟨rfl, rfl⟩ (by decide) rfl hl.1 rfl (Nat.le_of_ble_eq_true rfl) dX8_walksIn_240 ⟨Nat.le_of_ble_eq_true rfl, Nat.le_of_ble_eq_true rfl⟩ (fun r u hu H locs hP hD hS => ?_)
    have hu : r = ((24 + (3 * p1)) + 0) := hu
    subst hu
    have hP : va_P (dC, dI) vwCl [(y, .inr (8, [.ref yt, .int 0, .int 0, .ref yr, .ref yk, .ref yz, .ref yp, .int 0, .int 0, .int 0, .int 0, .ref yl, .ref yw, .int 1, .int 0, .int 0, .int 0, .int 0, .int 0, .int p1, .int 0, .int (-1), .ref yd, .int 0, .ref ys, .ref yn, .ref ym, .int 0, .ref yf, .ref yo, .ref yh, .ref yb, .int 0, .int 0, .int 0, .int 0, .int 0, .int 0, .int 0, .ref yx, .int 0, .int 0, .int 0])), (yr, .inl (cI, 4668, .inl (jn [0, 4, 0, 0, 0, 0, 0, 0, 0, 0, 0, 0, 0, 0, 0, 0, 0, (-1), 0, 0, 0, 0, 0, 0] R0)))] H := hP
    have hD : va_D A [(y, .inr (8, [.ref yt, .int 0, .int 0, .ref yr, .ref yk, .ref yz, .ref yp, .int 0, .int 0, .int 0, .int 0, .ref yl, .ref yw, .int 1, .int 0, .int 0, .int 0, .int 0, .int 0, .int p1, .int 0, .int (-1), .ref yd, .int 0, .ref ys, .ref yn, .ref ym, .int 0, .ref yf, .ref yo, .ref yh, .ref yb, .int 0, .int 0, .int 0, .int 0, .int 0, .int 0, .int 0, .ref yx, .int 0, .int 0, .int 0])), (yr, .inl (cI, 4668, .inl (jn [0, 4, 0, 0, 0, 0, 0, 0, 0, 0, 0, 0, 0, 0, 0, 0, 0, (-1), 0, 0, 0, 0, 0, 0] R0)))] := hD
    refine za_iald (v := 0) hx hb hK hP 1 0 rfl rfl (wk_in (n := 0) (by decide) (by decide) c_1) (wk_rd (n := 0) (by decide) (by decide) c_1) dX8_walksIn_243 ?_
    refine zcVi (As := [.int 0, .int 0]) (rest := []) (wr := [(yr, .inl (cI, 4668, .inl (jn [0, 4, 0, 0, 0, 0, 0, 0, 0, 0, 0, 0, 0, 0, 0, 0, 0, (-1), 0, 0, 0, 0, 0, 0] R0)))]) ⟨hx, hb, hml, hown, hts⟩ (kkX8_counts_0 l dC dI cI cB cZ cR H.size y yt yr yk yz yp yl yw yd ys yn ym yf yo yh yb yx 0 0 0 0 0 0 1 0 0 p1 (-1) 0 0 0 0 0 0 0 0 0 0 0 0 ) (cwV 2 hts (zgV wm_532 wm_533 wm_534 wm_5 wm_535) rfl rfl rfl (by decide +kernel) ⟨Nat.le_of_ble_eq_true rfl, Nat.le_of_ble_eq_true rfl⟩) hN hK hP hD hS hA [0] [1] rfl rfl ⟨rfl, rfl⟩ (by decide) (ci := 8) rfl rfl rfl rfl hl.1 rfl (Nat.le_of_ble_eq_true rfl) dX8_walksIn_244 ⟨Nat.le_of_ble_eq_true rfl, Nat.le_of_ble_eq_true rfl⟩ (fun r u hu H locs hP hD hS => ?_)
    have hu : r = 1 := hu
    subst hu
    have hP : va_P (dC, dI) vwCl [(yr, .inl (cI, 4668, .inl (jn [0, 4, 0, 0, 0, 0, 0, 0, 0, 0, 0, 0, 0, 0, 0, 0, 0, (-1), 0, 0, 0, 0, 0, 0] R0))), (y, .inr (8, [.ref yt, .int 0, .int 0, .ref yr, .ref yk, .ref yz, .ref yp, .int 0, .int 0, .int 0, .int 0, .ref yl, .ref yw, .int 1, .int 0, .int 0, .int 1, .int 0, .int 0, .int p1, .int 0, .int (-1), .ref yd, .int 0, .ref ys, .ref yn, .ref ym, .int 0, .ref yf, .ref yo, .ref yh, .ref yb, .int 0, .int 0, .int 0, .int 0, .int 0, .int 0, .int 0, .ref yx, .int 0, .int 0, .int 0]))] H := hP
    have hD : va_D A [(yr, .inl (cI, 4668, .inl (jn [0, 4, 0, 0, 0, 0, 0, 0, 0, 0, 0, 0, 0, 0, 0, 0, 0, (-1), 0, 0, 0, 0, 0, 0] R0))), (y, .inr (8, [.ref yt, .int 0, .int 0, .ref yr, .ref yk, .ref yz, .ref yp, .int 0, .int 0, .int 0, .int 0, .ref yl, .ref yw, .int 1, .int 0, .int 0, .int 1, .int 0, .int 0, .int p1, .int 0, .int (-1), .ref yd, .int 0, .ref ys, .ref yn, .ref ym, .int 0, .ref yf, .ref yo, .ref yh, .ref yb, .int 0, .int 0, .int 0, .int 0, .int 0, .int 0, .int 0, .ref yx, .int 0, .int 0, .int 0]))] := hD
    refine lv_if_ne (tgt := 253) hx hb dX8_walksIn_247 (by decide) (fun _ => ?_) (fun c => absurd c (by decide))
    refine lv_aload_n hx hb dX8_walksIn_253 rfl (lv_at hl 4 rfl) ?_
    refine lv_dup hx hb dX8_walksIn_254 rfl ?_
    refine va_get (D := (dC, dI)) (ci := 8) (v := .int 0) (C := RX8) (T := TX8) (N := 43) hx hb hts hinX8 hown hK hP 1 rfl rfl 15 (by decide) k_2 (fun _ h9 => h9) rfl dX8_walksIn_255 ?_
    refine lv_iconst (v := 1) hx hb dX8_walksIn_258 (by decide) ?_
    refine lv_iadd hx hb dX8_walksIn_259 ?_
    refine tp (y := 1) (by decide) ?_
    refine va_put (D := (dC, dI)) (ci := 8) (v := .int 1) (ty := tyX8 15) (C := RX8) (T := TX8) (N := 43) hx hb hts hinX8 tyX8 tyX8_ok nmX8 hown hK hP hD hS 1 rfl rfl 15 (by decide) k_2 (fun _ h9 => h9) rfl (by decide +kernel) rfl rfl (Nat.le_of_ble_eq_true rfl) dX8_walksIn_260 (fun H locs hP hD hS => ?_)
    have hP : va_P (dC, dI) vwCl [(yr, .inl (cI, 4668, .inl (jn [0, 4, 0, 0, 0, 0, 0, 0, 0, 0, 0, 0, 0, 0, 0, 0, 0, (-1), 0, 0, 0, 0, 0, 0] R0))), (y, .inr (8, [.ref yt, .int 0, .int 0, .ref yr, .ref yk, .ref yz, .ref yp, .int 0, .int 0, .int 0, .int 0, .ref yl, .ref yw, .int 1, .int 0, .int 1, .int 1, .int 0, .int 0, .int p1, .int 0, .int (-1), .ref yd, .int 0, .ref ys, .ref yn, .ref ym, .int 0, .ref yf, .ref yo, .ref yh, .ref yb, .int 0, .int 0, .int 0, .int 0, .int 0, .int 0, .int 0, .ref yx, .int 0, .int 0, .int 0]))] H := hP
    have hD : va_D A [(yr, .inl (cI, 4668, .inl (jn [0, 4, 0, 0, 0, 0, 0, 0, 0, 0, 0, 0, 0, 0, 0, 0, 0, (-1), 0, 0, 0, 0, 0, 0] R0))), (y, .inr (8, [.ref yt, .int 0, .int 0, .ref yr, .ref yk, .ref yz, .ref yp, .int 0, .int 0, .int 0, .int 0, .ref yl, .ref yw, .int 1, .int 0, .int 1, .int 1, .int 0, .int 0, .int p1, .int 0, .int (-1), .ref yd, .int 0, .ref ys, .ref yn, .ref ym, .int 0, .ref yf, .ref yo, .ref yh, .ref yb, .int 0, .int 0, .int 0, .int 0, .int 0, .int 0, .int 0, .ref yx, .int 0, .int 0, .int 0]))] := hD
    refine lv_iload hx hb dX8_walksIn_263 (lv_at hl 0 rfl) ?_
    refine lv_iconst (v := 1) hx hb dX8_walksIn_265 (by decide) ?_
    refine lv_iand hx hb dX8_walksIn_266 ?_
    refine tp (y := 0) (by decide) ?_
    refine lv_if_ne (tgt := 272) hx hb dX8_walksIn_267 (by decide) (fun c => absurd (by decide) c) (fun _ => ?_)
    refine lv_iconst (v := 0) hx hb dX8_walksIn_270 (by decide) ?_
    have e_0 : (pfX8_walksIn_0_r p1) = 0 := by rw [pfX8_walksIn_0_r, if_neg c_1]
    have e_1 : (pfX8_walksIn_0_y_15 p1) = 1 := by rw [pfX8_walksIn_0_y_15, if_neg c_1]
    have e_2 : (pfX8_walksIn_0_y_16 p1) = 1 := by rw [pfX8_walksIn_0_y_16, if_neg c_1]
    have e_3 : (pfX8_walksIn_0_y_19 p1) = p1 := by rw [pfX8_walksIn_0_y_19, if_neg c_1]
    have hP9 := hP.sub (ws' := [(y, .inr (8, [.ref yt, .int 0, .int 0, .ref yr, .ref yk, .ref yz, .ref yp, .int 0, .int 0, .int 0, .int 0, .ref yl, .ref yw, .int 1, .int 0, .int 1, .int 1, .int 0, .int 0, .int p1, .int 0, .int (-1), .ref yd, .int 0, .ref ys, .ref yn, .ref ym, .int 0, .ref yf, .ref yo, .ref yh, .ref yb, .int 0, .int 0, .int 0, .int 0, .int 0, .int 0, .int 0, .ref yx, .int 0, .int 0, .int 0])), (yr, .inl (cI, 4668, .inl (jn [0, 4, 0, 0, 0, 0, 0, 0, 0, 0, 0, 0, 0, 0, 0, 0, 0, (-1), 0, 0, 0, 0, 0, 0] R0)))]) [1, 0] rfl
    have hD9 := hD.sub (ws' := [(y, .inr (8, [.ref yt, .int 0, .int 0, .ref yr, .ref yk, .ref yz, .ref yp, .int 0, .int 0, .int 0, .int 0, .ref yl, .ref yw, .int 1, .int 0, .int 1, .int 1, .int 0, .int 0, .int p1, .int 0, .int (-1), .ref yd, .int 0, .ref ys, .ref yn, .ref ym, .int 0, .ref yf, .ref yo, .ref yh, .ref yb, .int 0, .int 0, .int 0, .int 0, .int 0, .int 0, .int 0, .ref yx, .int 0, .int 0, .int 0])), (yr, .inl (cI, 4668, .inl (jn [0, 4, 0, 0, 0, 0, 0, 0, 0, 0, 0, 0, 0, 0, 0, 0, 0, (-1), 0, 0, 0, 0, 0, 0] R0)))]) [1, 0] (by decide) rfl
    exact W.iret (v := 0) hx hb hr (fun t ht hW => ⟨⟨0, (), rfl, e_0.symm, by rw [ht, e_1, e_2, e_3]; exact hP9, va_K.moved hW.alike hK, (by rw [e_1, e_2, e_3]; exact hD9)⟩, hS.F ht⟩) hS.2.2 dX8_walksIn_271
  · refine lv_iconst (v := 1) hx hb dX8_walksIn_92 (by decide) ?_
    have e_0 : (pfX8_walksIn_0_r p1) = 1 := by rw [pfX8_walksIn_0_r, if_pos c_1]
    have e_1 : (pfX8_walksIn_0_y_15 p1) = 0 := by rw [pfX8_walksIn_0_y_15, if_pos c_1]
    have e_2 : (pfX8_walksIn_0_y_16 p1) = 0 := by rw [pfX8_walksIn_0_y_16, if_pos c_1]
    have e_3 : (pfX8_walksIn_0_y_19 p1) = 0 := by rw [pfX8_walksIn_0_y_19, if_pos c_1]
    have hP9 := hP.sub (ws' := [(y, .inr (8, [.ref yt, .int 0, .int 0, .ref yr, .ref yk, .ref yz, .ref yp, .int 0, .int 0, .int 0, .int 0, .ref yl, .ref yw, .int 1, .int 0, .int 0, .int 0, .int 0, .int 0, .int 0, .int 0, .int (-1), .ref yd, .int 0, .ref ys, .ref yn, .ref ym, .int 0, .ref yf, .ref yo, .ref yh, .ref yb, .int 0, .int 0, .int 0, .int 0, .int 0, .int 0, .int 0, .ref yx, .int 0, .int 0, .int 0])), (yr, .inl (cI, 4668, .inl (jn [0, 4, 0, 0, 0, 0, 0, 0, 0, 0, 0, 0, 0, 0, 0, 0, 0, (-1), 0, 0, 0, 0, 0, 0] R0)))]) [0, 1] rfl
    have hD9 := hD.sub (ws' := [(y, .inr (8, [.ref yt, .int 0, .int 0, .ref yr, .ref yk, .ref yz, .ref yp, .int 0, .int 0, .int 0, .int 0, .ref yl, .ref yw, .int 1, .int 0, .int 0, .int 0, .int 0, .int 0, .int 0, .int 0, .int (-1), .ref yd, .int 0, .ref ys, .ref yn, .ref ym, .int 0, .ref yf, .ref yo, .ref yh, .ref yb, .int 0, .int 0, .int 0, .int 0, .int 0, .int 0, .int 0, .ref yx, .int 0, .int 0, .int 0])), (yr, .inl (cI, 4668, .inl (jn [0, 4, 0, 0, 0, 0, 0, 0, 0, 0, 0, 0, 0, 0, 0, 0, 0, (-1), 0, 0, 0, 0, 0, 0] R0)))]) [0, 1] (by decide) rfl
    exact W.iret (v := 1) hx hb hr (fun t ht hW => ⟨⟨1, (), rfl, e_0.symm, by rw [ht, e_1, e_2, e_3]; exact hP9, va_K.moved hW.alike hK, (by rw [e_1, e_2, e_3]; exact hD9)⟩, hS.F ht⟩) hS.2.2 dX8_walksIn_93

set_option maxHeartbeats 4000000 in
set_option maxRecDepth 100000 in
theorem kkX8_walks_0 (l : Launch) (dC : Nat → ClassId) (dI : Nat → Nat → Nat) (cI cB cZ cR : ClassId) (sz : Nat) (y : Nat) (yt : Nat) (yr : Nat) (yk : Nat) (yz : Nat) (yp : Nat) (yl : Nat) (yw : Nat) (yd : Nat) (ys : Nat) (yn : Nat) (ym : Nat) (yf : Nat) (yo : Nat) (yh : Nat) (yb : Nat) (yx : Nat) (p1 : Int32) : Met l yX8_walks (.code yX8_walks cX8_walks 3 (some .int) :: wsL_law) ({ frames := 2, cells := 0, slots := 0, locals := 50 }) (zPc dC dI (zT cI cB cZ cR) [.ref y, .int p1] sz [(y, .inr (8, [.ref yt, .int 0, .int 0, .ref yr, .ref yk, .ref yz, .ref yp, .int 0, .int 0, .int 0, .int 0, .ref yl, .ref yw, .int 0, .int 0, .int 0, .int 0, .int 0, .int 0, .int 0, .int 0, .int (-1), .ref yd, .int 0, .ref ys, .ref yn, .ref ym, .int 0, .ref yf, .ref yo, .ref yh, .ref yb, .int 0, .int 0, .int 0, .int 0, .int 0, .int 0, .int 0, .ref yx, .int 0, .int 0, .int 0])), (yr, .inl (cI, 4668, .inl (jn [0, 4, 0, 0, 0, 0, 0, 0, 0, 0, 0, 0, 0, 0, 0, 0, 0, (-1), 0, 0, 0, 0, 0, 0] R0))), (yl, .inl (cI, 8, .inl (gl [0, 0, 0, 0, 0, 0, 0, 0])))]) (va_Qi (fun (r : Int32) (_ : Unit) => r = (pfX8_walksIn_0_r p1)) (fun _ : Unit => zB dC dI (zT cI cB cZ cR) (va_A [(y, .inr (8, [.ref yt, .int 0, .int 0, .ref yr, .ref yk, .ref yz, .ref yp, .int 0, .int 0, .int 0, .int 0, .ref yl, .ref yw, .int 0, .int 0, .int 0, .int 0, .int 0, .int 0, .int 0, .int 0, .int (-1), .ref yd, .int 0, .ref ys, .ref yn, .ref ym, .int 0, .ref yf, .ref yo, .ref yh, .ref yb, .int 0, .int 0, .int 0, .int 0, .int 0, .int 0, .int 0, .ref yx, .int 0, .int 0, .int 0])), (yr, .inl (cI, 4668, .inl (jn [0, 4, 0, 0, 0, 0, 0, 0, 0, 0, 0, 0, 0, 0, 0, 0, 0, (-1), 0, 0, 0, 0, 0, 0] R0))), (yl, .inl (cI, 8, .inl (gl [0, 0, 0, 0, 0, 0, 0, 0])))] sz) [(y, .inr (8, [.ref yt, .int 0, .int 0, .ref yr, .ref yk, .ref yz, .ref yp, .int 0, .int 0, .int 0, .int 0, .ref yl, .ref yw, .int 2, .int 0, .int (pfX8_walksIn_0_y_15 p1), .int (pfX8_walksIn_0_y_16 p1), .int 0, .int 0, .int (pfX8_walksIn_0_y_19 p1), .int 0, .int (-1), .ref yd, .int 0, .ref ys, .ref yn, .ref ym, .int 0, .ref yf, .ref yo, .ref yh, .ref yb, .int 0, .int 0, .int 0, .int 0, .int 0, .int 0, .int 0, .ref yx, .int 0, .int 0, .int 0])), (yr, .inl (cI, 4668, .inl (jn [0, 4, 0, 0, 0, 0, 0, 0, 0, 0, 0, 0, 0, 0, 0, 0, 0, (-1), 0, 0, 0, 0, 0, 0] R0))), (yl, .inl (cI, 8, .inl (gl [1, 2, 0, 0, 0, 0, 0, 0])))]) (va_A [(y, .inr (8, [.ref yt, .int 0, .int 0, .ref yr, .ref yk, .ref yz, .ref yp, .int 0, .int 0, .int 0, .int 0, .ref yl, .ref yw, .int 0, .int 0, .int 0, .int 0, .int 0, .int 0, .int 0, .int 0, .int (-1), .ref yd, .int 0, .ref ys, .ref yn, .ref ym, .int 0, .ref yf, .ref yo, .ref yh, .ref yb, .int 0, .int 0, .int 0, .int 0, .int 0, .int 0, .int 0, .ref yx, .int 0, .int 0, .int 0])), (yr, .inl (cI, 4668, .inl (jn [0, 4, 0, 0, 0, 0, 0, 0, 0, 0, 0, 0, 0, 0, 0, 0, 0, (-1), 0, 0, 0, 0, 0, 0] R0))), (yl, .inl (cI, 8, .inl (gl [0, 0, 0, 0, 0, 0, 0, 0])))] sz)) 0 0 (va_A [(y, .inr (8, [.ref yt, .int 0, .int 0, .ref yr, .ref yk, .ref yz, .ref yp, .int 0, .int 0, .int 0, .int 0, .ref yl, .ref yw, .int 0, .int 0, .int 0, .int 0, .int 0, .int 0, .int 0, .int 0, .int (-1), .ref yd, .int 0, .ref ys, .ref yn, .ref ym, .int 0, .ref yf, .ref yo, .ref yh, .ref yb, .int 0, .int 0, .int 0, .int 0, .int 0, .int 0, .int 0, .ref yx, .int 0, .int 0, .int 0])), (yr, .inl (cI, 4668, .inl (jn [0, 4, 0, 0, 0, 0, 0, 0, 0, 0, 0, 0, 0, 0, 0, 0, 0, (-1), 0, 0, 0, 0, 0, 0] R0))), (yl, .inl (cI, 8, .inl (gl [0, 0, 0, 0, 0, 0, 0, 0])))] sz) := by
  refine Met.ofW (cc := cX8_walks) (maxL := 3) (ret := (some .int)) (by decide) rfl ?_
  intro p e s m args below meth c s₁ B hml hv
  obtain ⟨rfl, hsz, hP, hK, hD0, hN⟩ := hv
  have hx := B.exec
  have hb := B.bytes
  have hr := B.returns
  have hts := atoms_spec (ws := (.code yX8_walks cX8_walks 3 (some .int) :: wsL_law)) B.pre
  have hown : s.vm.findClass RX8 = some m.cls := findClass_of_methodNamed B.named
  have hlocks := B.notSynchronized
  have hinX8 : ∀ w ∈ u_ws RX8 TX8 43, w ∈ (.code yX8_walks cX8_walks 3 (some .int) :: wsL_law) := fun w h => List.mem_cons_of_mem _ (inlX8 w h)
  have k_0 := hts (.fieldLink RX8 182 "RingMarksModel" "logged" "I") (List.mem_cons_of_mem _ wm_496)
  have k_1 := hts (.fieldLink RX8 201 "RingMarksModel" "walkPlaces" "I") (List.mem_cons_of_mem _ wm_501)
  have k_2 := hts (.fieldLink RX8 195 "RingMarksModel" "walkMany" "I") (List.mem_cons_of_mem _ wm_510)
  have k_3 := hts (.fieldLink RX8 189 "RingMarksModel" "walkCapacity" "I") (List.mem_cons_of_mem _ wm_499)
  have k_4 := hts (.fieldLink RX8 192 "RingMarksModel" "walkLoad" "I") (List.mem_cons_of_mem _ wm_500)
  have k_5 := hts (.fieldLink RX8 185 "RingMarksModel" "wrote" "Z") (List.mem_cons_of_mem _ wm_511)
  subst hsz
  have hD := hD0.self (sz := s.heap.size)
  generalize hAe : va_A [(y, .inr (8, [.ref yt, .int 0, .int 0, .ref yr, .ref yk, .ref yz, .ref yp, .int 0, .int 0, .int 0, .int 0, .ref yl, .ref yw, .int 0, .int 0, .int 0, .int 0, .int 0, .int 0, .int 0, .int 0, .int (-1), .ref yd, .int 0, .ref ys, .ref yn, .ref ym, .int 0, .ref yf, .ref yo, .ref yh, .ref yb, .int 0, .int 0, .int 0, .int 0, .int 0, .int 0, .int 0, .ref yx, .int 0, .int 0, .int 0])), (yr, .inl (cI, 4668, .inl (jn [0, 4, 0, 0, 0, 0, 0, 0, 0, 0, 0, 0, 0, 0, 0, 0, 0, (-1), 0, 0, 0, 0, 0, 0] R0))), (yl, .inl (cI, 8, .inl (gl [0, 0, 0, 0, 0, 0, 0, 0])))] s.heap.size = A at hD ⊢
  have hA : ∀ q : Nat, s.heap.size ≤ q → A q := fun q h => by rw [← hAe]; exact Or.inr h
  have hP : va_P (dC, dI) vwCl [(y, .inr (8, [.ref yt, .int 0, .int 0, .ref yr, .ref yk, .ref yz, .ref yp, .int 0, .int 0, .int 0, .int 0, .ref yl, .ref yw, .int 0, .int 0, .int 0, .int 0, .int 0, .int 0, .int 0, .int 0, .int (-1), .ref yd, .int 0, .ref ys, .ref yn, .ref ym, .int 0, .ref yf, .ref yo, .ref yh, .ref yb, .int 0, .int 0, .int 0, .int 0, .int 0, .int 0, .int 0, .ref yx, .int 0, .int 0, .int 0])), (yr, .inl (cI, 4668, .inl (jn [0, 4, 0, 0, 0, 0, 0, 0, 0, 0, 0, 0, 0, 0, 0, 0, 0, (-1), 0, 0, 0, 0, 0, 0] R0))), (yl, .inl (cI, 8, .inl (gl [0, 0, 0, 0, 0, 0, 0, 0])))] s.heap := hP
  have hl := lv_entry ([.ref y, .int p1]) (n := 3) (Nat.le_of_ble_eq_true rfl)
  rw [lg_entry_eq]
  generalize (lg_sl ([.ref y, .int p1]) ++ List.replicate (3 - (lg_sl ([.ref y, .int p1])).length) Slot.unset).toArray = ls at hl ⊢
  have hl : lv_has ls 3 [(0, .ref y), (1, .int p1)] := hl
  obtain ⟨H, hH⟩ : ∃ H, H = s.heap := ⟨_, rfl⟩
  rw [← hH] at hP ⊢
  have hS : va_S A s.heap H [] := by rw [hH]; exact va_S.rf
  refine lv_aload_n hx hb dX8_walks_0 rfl (lv_at hl 0 rfl) ?_
  refine lv_iconst (v := 0) hx hb dX8_walks_1 (by decide) ?_
  refine va_put (D := (dC, dI)) (ci := 8) (v := .int 0) (ty := tyX8 13) (C := RX8) (T := TX8) (N := 43) hx hb hts hinX8 tyX8 tyX8_ok nmX8 hown hK hP hD hS 0 rfl rfl 13 (by decide) k_0 (fun _ h9 => h9) rfl (by decide +kernel) rfl rfl (Nat.le_of_ble_eq_true rfl) dX8_walks_2 (fun H locs hP hD hS => ?_)
  have hP : va_P (dC, dI) vwCl [(y, .inr (8, [.ref yt, .int 0, .int 0, .ref yr, .ref yk, .ref yz, .ref yp, .int 0, .int 0, .int 0, .int 0, .ref yl, .ref yw, .int 0, .int 0, .int 0, .int 0, .int 0, .int 0, .int 0, .int 0, .int (-1), .ref yd, .int 0, .ref ys, .ref yn, .ref ym, .int 0, .ref yf, .ref yo, .ref yh, .ref yb, .int 0, .int 0, .int 0, .int 0, .int 0, .int 0, .int 0, .ref yx, .int 0, .int 0, .int 0])), (yr, .inl (cI, 4668, .inl (jn [0, 4, 0, 0, 0, 0, 0, 0, 0, 0, 0, 0, 0, 0, 0, 0, 0, (-1), 0, 0, 0, 0, 0, 0] R0))), (yl, .inl (cI, 8, .inl (gl [0, 0, 0, 0, 0, 0, 0, 0])))] H := hP
  have hD : va_D A [(y, .inr (8, [.ref yt, .int 0, .int 0, .ref yr, .ref yk, .ref yz, .ref yp, .int 0, .int 0, .int 0, .int 0, .ref yl, .ref yw, .int 0, .int 0, .int 0, .int 0, .int 0, .int 0, .int 0, .int 0, .int (-1), .ref yd, .int 0, .ref ys, .ref yn, .ref ym, .int 0, .ref yf, .ref yo, .ref yh, .ref yb, .int 0, .int 0, .int 0, .int 0, .int 0, .int 0, .int 0, .ref yx, .int 0, .int 0, .int 0])), (yr, .inl (cI, 4668, .inl (jn [0, 4, 0, 0, 0, 0, 0, 0, 0, 0, 0, 0, 0, 0, 0, 0, 0, (-1), 0, 0, 0, 0, 0, 0] R0))), (yl, .inl (cI, 8, .inl (gl [0, 0, 0, 0, 0, 0, 0, 0])))] := hD
  refine lv_aload_n hx hb dX8_walks_5 rfl (lv_at hl 0 rfl) ?_
  refine lv_iconst (v := 0) hx hb dX8_walks_6 (by decide) ?_
  refine va_put (D := (dC, dI)) (ci := 8) (v := .int 0) (ty := tyX8 15) (C := RX8) (T := TX8) (N := 43) hx hb hts hinX8 tyX8 tyX8_ok nmX8 hown hK hP hD hS 0 rfl rfl 15 (by decide) k_1 (fun _ h9 => h9) rfl (by decide +kernel) rfl rfl (Nat.le_of_ble_eq_true rfl) dX8_walks_7 (fun H locs hP hD hS => ?_)
  have hP : va_P (dC, dI) vwCl [(y, .inr (8, [.ref yt, .int 0, .int 0, .ref yr, .ref yk, .ref yz, .ref yp, .int 0, .int 0, .int 0, .int 0, .ref yl, .ref yw, .int 0, .int 0, .int 0, .int 0, .int 0, .int 0, .int 0, .int 0, .int (-1), .ref yd, .int 0, .ref ys, .ref yn, .ref ym, .int 0, .ref yf, .ref yo, .ref yh, .ref yb, .int 0, .int 0, .int 0, .int 0, .int 0, .int 0, .int 0, .ref yx, .int 0, .int 0, .int 0])), (yr, .inl (cI, 4668, .inl (jn [0, 4, 0, 0, 0, 0, 0, 0, 0, 0, 0, 0, 0, 0, 0, 0, 0, (-1), 0, 0, 0, 0, 0, 0] R0))), (yl, .inl (cI, 8, .inl (gl [0, 0, 0, 0, 0, 0, 0, 0])))] H := hP
  have hD : va_D A [(y, .inr (8, [.ref yt, .int 0, .int 0, .ref yr, .ref yk, .ref yz, .ref yp, .int 0, .int 0, .int 0, .int 0, .ref yl, .ref yw, .int 0, .int 0, .int 0, .int 0, .int 0, .int 0, .int 0, .int 0, .int (-1), .ref yd, .int 0, .ref ys, .ref yn, .ref ym, .int 0, .ref yf, .ref yo, .ref yh, .ref yb, .int 0, .int 0, .int 0, .int 0, .int 0, .int 0, .int 0, .ref yx, .int 0, .int 0, .int 0])), (yr, .inl (cI, 4668, .inl (jn [0, 4, 0, 0, 0, 0, 0, 0, 0, 0, 0, 0, 0, 0, 0, 0, 0, (-1), 0, 0, 0, 0, 0, 0] R0))), (yl, .inl (cI, 8, .inl (gl [0, 0, 0, 0, 0, 0, 0, 0])))] := hD
  refine lv_aload_n hx hb dX8_walks_10 rfl (lv_at hl 0 rfl) ?_
  refine lv_iconst (v := 0) hx hb dX8_walks_11 (by decide) ?_
  refine va_put (D := (dC, dI)) (ci := 8) (v := .int 0) (ty := tyX8 16) (C := RX8) (T := TX8) (N := 43) hx hb hts hinX8 tyX8 tyX8_ok nmX8 hown hK hP hD hS 0 rfl rfl 16 (by decide) k_2 (fun _ h9 => h9) rfl (by decide +kernel) rfl rfl (Nat.le_of_ble_eq_true rfl) dX8_walks_12 (fun H locs hP hD hS => ?_)
  have hP : va_P (dC, dI) vwCl [(y, .inr (8, [.ref yt, .int 0, .int 0, .ref yr, .ref yk, .ref yz, .ref yp, .int 0, .int 0, .int 0, .int 0, .ref yl, .ref yw, .int 0, .int 0, .int 0, .int 0, .int 0, .int 0, .int 0, .int 0, .int (-1), .ref yd, .int 0, .ref ys, .ref yn, .ref ym, .int 0, .ref yf, .ref yo, .ref yh, .ref yb, .int 0, .int 0, .int 0, .int 0, .int 0, .int 0, .int 0, .ref yx, .int 0, .int 0, .int 0])), (yr, .inl (cI, 4668, .inl (jn [0, 4, 0, 0, 0, 0, 0, 0, 0, 0, 0, 0, 0, 0, 0, 0, 0, (-1), 0, 0, 0, 0, 0, 0] R0))), (yl, .inl (cI, 8, .inl (gl [0, 0, 0, 0, 0, 0, 0, 0])))] H := hP
  have hD : va_D A [(y, .inr (8, [.ref yt, .int 0, .int 0, .ref yr, .ref yk, .ref yz, .ref yp, .int 0, .int 0, .int 0, .int 0, .ref yl, .ref yw, .int 0, .int 0, .int 0, .int 0, .int 0, .int 0, .int 0, .int 0, .int (-1), .ref yd, .int 0, .ref ys, .ref yn, .ref ym, .int 0, .ref yf, .ref yo, .ref yh, .ref yb, .int 0, .int 0, .int 0, .int 0, .int 0, .int 0, .int 0, .ref yx, .int 0, .int 0, .int 0])), (yr, .inl (cI, 4668, .inl (jn [0, 4, 0, 0, 0, 0, 0, 0, 0, 0, 0, 0, 0, 0, 0, 0, 0, (-1), 0, 0, 0, 0, 0, 0] R0))), (yl, .inl (cI, 8, .inl (gl [0, 0, 0, 0, 0, 0, 0, 0])))] := hD
  refine lv_aload_n hx hb dX8_walks_15 rfl (lv_at hl 0 rfl) ?_
  refine lv_iconst (v := 0) hx hb dX8_walks_16 (by decide) ?_
  refine va_put (D := (dC, dI)) (ci := 8) (v := .int 0) (ty := tyX8 17) (C := RX8) (T := TX8) (N := 43) hx hb hts hinX8 tyX8 tyX8_ok nmX8 hown hK hP hD hS 0 rfl rfl 17 (by decide) k_3 (fun _ h9 => h9) rfl (by decide +kernel) rfl rfl (Nat.le_of_ble_eq_true rfl) dX8_walks_17 (fun H locs hP hD hS => ?_)
  have hP : va_P (dC, dI) vwCl [(y, .inr (8, [.ref yt, .int 0, .int 0, .ref yr, .ref yk, .ref yz, .ref yp, .int 0, .int 0, .int 0, .int 0, .ref yl, .ref yw, .int 0, .int 0, .int 0, .int 0, .int 0, .int 0, .int 0, .int 0, .int (-1), .ref yd, .int 0, .ref ys, .ref yn, .ref ym, .int 0, .ref yf, .ref yo, .ref yh, .ref yb, .int 0, .int 0, .int 0, .int 0, .int 0, .int 0, .int 0, .ref yx, .int 0, .int 0, .int 0])), (yr, .inl (cI, 4668, .inl (jn [0, 4, 0, 0, 0, 0, 0, 0, 0, 0, 0, 0, 0, 0, 0, 0, 0, (-1), 0, 0, 0, 0, 0, 0] R0))), (yl, .inl (cI, 8, .inl (gl [0, 0, 0, 0, 0, 0, 0, 0])))] H := hP
  have hD : va_D A [(y, .inr (8, [.ref yt, .int 0, .int 0, .ref yr, .ref yk, .ref yz, .ref yp, .int 0, .int 0, .int 0, .int 0, .ref yl, .ref yw, .int 0, .int 0, .int 0, .int 0, .int 0, .int 0, .int 0, .int 0, .int (-1), .ref yd, .int 0, .ref ys, .ref yn, .ref ym, .int 0, .ref yf, .ref yo, .ref yh, .ref yb, .int 0, .int 0, .int 0, .int 0, .int 0, .int 0, .int 0, .ref yx, .int 0, .int 0, .int 0])), (yr, .inl (cI, 4668, .inl (jn [0, 4, 0, 0, 0, 0, 0, 0, 0, 0, 0, 0, 0, 0, 0, 0, 0, (-1), 0, 0, 0, 0, 0, 0] R0))), (yl, .inl (cI, 8, .inl (gl [0, 0, 0, 0, 0, 0, 0, 0])))] := hD
  refine lv_aload_n hx hb dX8_walks_20 rfl (lv_at hl 0 rfl) ?_
  refine lv_iconst (v := 0) hx hb dX8_walks_21 (by decide) ?_
  refine va_put (D := (dC, dI)) (ci := 8) (v := .int 0) (ty := tyX8 18) (C := RX8) (T := TX8) (N := 43) hx hb hts hinX8 tyX8 tyX8_ok nmX8 hown hK hP hD hS 0 rfl rfl 18 (by decide) k_4 (fun _ h9 => h9) rfl (by decide +kernel) rfl rfl (Nat.le_of_ble_eq_true rfl) dX8_walks_22 (fun H locs hP hD hS => ?_)
  have hP : va_P (dC, dI) vwCl [(y, .inr (8, [.ref yt, .int 0, .int 0, .ref yr, .ref yk, .ref yz, .ref yp, .int 0, .int 0, .int 0, .int 0, .ref yl, .ref yw, .int 0, .int 0, .int 0, .int 0, .int 0, .int 0, .int 0, .int 0, .int (-1), .ref yd, .int 0, .ref ys, .ref yn, .ref ym, .int 0, .ref yf, .ref yo, .ref yh, .ref yb, .int 0, .int 0, .int 0, .int 0, .int 0, .int 0, .int 0, .ref yx, .int 0, .int 0, .int 0])), (yr, .inl (cI, 4668, .inl (jn [0, 4, 0, 0, 0, 0, 0, 0, 0, 0, 0, 0, 0, 0, 0, 0, 0, (-1), 0, 0, 0, 0, 0, 0] R0))), (yl, .inl (cI, 8, .inl (gl [0, 0, 0, 0, 0, 0, 0, 0])))] H := hP
  have hD : va_D A [(y, .inr (8, [.ref yt, .int 0, .int 0, .ref yr, .ref yk, .ref yz, .ref yp, .int 0, .int 0, .int 0, .int 0, .ref yl, .ref yw, .int 0, .int 0, .int 0, .int 0, .int 0, .int 0, .int 0, .int 0, .int (-1), .ref yd, .int 0, .ref ys, .ref yn, .ref ym, .int 0, .ref yf, .ref yo, .ref yh, .ref yb, .int 0, .int 0, .int 0, .int 0, .int 0, .int 0, .int 0, .ref yx, .int 0, .int 0, .int 0])), (yr, .inl (cI, 4668, .inl (jn [0, 4, 0, 0, 0, 0, 0, 0, 0, 0, 0, 0, 0, 0, 0, 0, 0, (-1), 0, 0, 0, 0, 0, 0] R0))), (yl, .inl (cI, 8, .inl (gl [0, 0, 0, 0, 0, 0, 0, 0])))] := hD
  refine lv_aload_n hx hb dX8_walks_25 rfl (lv_at hl 0 rfl) ?_
  refine lv_iconst (v := 0) hx hb dX8_walks_26 (by decide) ?_
  refine va_put (D := (dC, dI)) (ci := 8) (v := .int 0) (ty := tyX8 20) (C := RX8) (T := TX8) (N := 43) hx hb hts hinX8 tyX8 tyX8_ok nmX8 hown hK hP hD hS 0 rfl rfl 20 (by decide) k_5 (fun _ h9 => h9) rfl (by decide +kernel) (by first | rfl | decide) rfl (Nat.le_of_ble_eq_true rfl) dX8_walks_27 (fun H locs hP hD hS => ?_)
  have hP : va_P (dC, dI) vwCl [(y, .inr (8, [.ref yt, .int 0, .int 0, .ref yr, .ref yk, .ref yz, .ref yp, .int 0, .int 0, .int 0, .int 0, .ref yl, .ref yw, .int 0, .int 0, .int 0, .int 0, .int 0, .int 0, .int 0, .int 0, .int (-1), .ref yd, .int 0, .ref ys, .ref yn, .ref ym, .int 0, .ref yf, .ref yo, .ref yh, .ref yb, .int 0, .int 0, .int 0, .int 0, .int 0, .int 0, .int 0, .ref yx, .int 0, .int 0, .int 0])), (yr, .inl (cI, 4668, .inl (jn [0, 4, 0, 0, 0, 0, 0, 0, 0, 0, 0, 0, 0, 0, 0, 0, 0, (-1), 0, 0, 0, 0, 0, 0] R0))), (yl, .inl (cI, 8, .inl (gl [0, 0, 0, 0, 0, 0, 0, 0])))] H := hP
  have hD : va_D A [(y, .inr (8, [.ref yt, .int 0, .int 0, .ref yr, .ref yk, .ref yz, .ref yp, .int 0, .int 0, .int 0, .int 0, .ref yl, .ref yw, .int 0, .int 0, .int 0, .int 0, .int 0, .int 0, .int 0, .int 0, .int (-1), .ref yd, .int 0, .ref ys, .ref yn, .ref ym, .int 0, .ref yf, .ref yo, .ref yh, .ref yb, .int 0, .int 0, .int 0, .int 0, .int 0, .int 0, .int 0, .ref yx, .int 0, .int 0, .int 0])), (yr, .inl (cI, 4668, .inl (jn [0, 4, 0, 0, 0, 0, 0, 0, 0, 0, 0, 0, 0, 0, 0, 0, 0, (-1), 0, 0, 0, 0, 0, 0] R0))), (yl, .inl (cI, 8, .inl (gl [0, 0, 0, 0, 0, 0, 0, 0])))] := hD
  refine lv_aload_n hx hb dX8_walks_30 rfl (lv_at hl 0 rfl) ?_
  refine lv_iconst (v := 1) hx hb dX8_walks_31 (by decide) ?_
  refine zcVv (As := [.int 1]) (rest := []) (wr := [(yr, .inl (cI, 4668, .inl (jn [0, 4, 0, 0, 0, 0, 0, 0, 0, 0, 0, 0, 0, 0, 0, 0, 0, (-1), 0, 0, 0, 0, 0, 0] R0)))]) ⟨hx, hb, hml, hown, hts⟩ (kkX8_logs_0 l dC dI cI cB cZ cR H.size y yt yr yk yz yp yl yw yd ys yn ym yf yo yh yb yx 0 0 0 0 0 0 0 0 0 0 0 0 0 (-1) 0 0 0 0 0 0 0 0 0 0 0 0 0 0 0 0 0 0 0 0 1 ) (cwV 1 hts (zgV wm_512 wm_513 wm_514 wm_5 wm_515) rfl rfl rfl (by decide +kernel) ⟨Nat.le_of_ble_eq_true rfl, Nat.le_of_ble_eq_true rfl⟩) hN hK hP hD hS hA [0, 2] [1] rfl rfl ⟨rfl, rfl⟩ (by decide) (ci := 8) rfl rfl rfl rfl hl.1 rfl (Nat.le_of_ble_eq_true rfl) dX8_walks_32 ⟨Nat.le_of_ble_eq_true rfl, Nat.le_of_ble_eq_true rfl⟩ (fun u hu H locs hP hD hS => ?_)
  have hP : va_P (dC, dI) vwCl [(yr, .inl (cI, 4668, .inl (jn [0, 4, 0, 0, 0, 0, 0, 0, 0, 0, 0, 0, 0, 0, 0, 0, 0, (-1), 0, 0, 0, 0, 0, 0] R0))), (y, .inr (8, [.ref yt, .int 0, .int 0, .ref yr, .ref yk, .ref yz, .ref yp, .int 0, .int 0, .int 0, .int 0, .ref yl, .ref yw, .int 1, .int 0, .int 0, .int 0, .int 0, .int 0, .int 0, .int 0, .int (-1), .ref yd, .int 0, .ref ys, .ref yn, .ref ym, .int 0, .ref yf, .ref yo, .ref yh, .ref yb, .int 0, .int 0, .int 0, .int 0, .int 0, .int 0, .int 0, .ref yx, .int 0, .int 0, .int 0])), (yl, .inl (cI, 8, .inl (gl [1, 0, 0, 0, 0, 0, 0, 0])))] H := hP
  have hD : va_D A [(yr, .inl (cI, 4668, .inl (jn [0, 4, 0, 0, 0, 0, 0, 0, 0, 0, 0, 0, 0, 0, 0, 0, 0, (-1), 0, 0, 0, 0, 0, 0] R0))), (y, .inr (8, [.ref yt, .int 0, .int 0, .ref yr, .ref yk, .ref yz, .ref yp, .int 0, .int 0, .int 0, .int 0, .ref yl, .ref yw, .int 1, .int 0, .int 0, .int 0, .int 0, .int 0, .int 0, .int 0, .int (-1), .ref yd, .int 0, .ref ys, .ref yn, .ref ym, .int 0, .ref yf, .ref yo, .ref yh, .ref yb, .int 0, .int 0, .int 0, .int 0, .int 0, .int 0, .int 0, .ref yx, .int 0, .int 0, .int 0])), (yl, .inl (cI, 8, .inl (gl [1, 0, 0, 0, 0, 0, 0, 0])))] := hD
  refine lv_aload_n hx hb dX8_walks_35 rfl (lv_at hl 0 rfl) ?_
  refine lv_iload_n hx hb dX8_walks_36 rfl (lv_at hl 1 rfl) ?_
  refine zcVi (As := [.int p1]) (rest := []) (wr := [(yl, .inl (cI, 8, .inl (gl [1, 0, 0, 0, 0, 0, 0, 0])))]) ⟨hx, hb, hml, hown, hts⟩ (kkX8_walksIn_0 l dC dI cI cB cZ cR H.size y yt yr yk yz yp yl yw yd ys yn ym yf yo yh yb yx p1 ) (cwV 1 hts (zgV wm_516 wm_517 wm_518 wm_5 wm_519) rfl rfl rfl (by decide +kernel) ⟨Nat.le_of_ble_eq_true rfl, Nat.le_of_ble_eq_true rfl⟩) hN hK hP hD hS hA [1, 0] [2] rfl rfl ⟨rfl, rfl⟩ (by decide) (ci := 8) rfl rfl rfl rfl hl.1 rfl (Nat.le_of_ble_eq_true rfl) dX8_walks_37 ⟨Nat.le_of_ble_eq_true rfl, Nat.le_of_ble_eq_true rfl⟩ (fun r u hu H locs hP hD hS => ?_)
  have hu : r = (pfX8_walksIn_0_r p1) := hu
  subst hu
  have hP : va_P (dC, dI) vwCl [(yl, .inl (cI, 8, .inl (gl [1, 0, 0, 0, 0, 0, 0, 0]))), (y, .inr (8, [.ref yt, .int 0, .int 0, .ref yr, .ref yk, .ref yz, .ref yp, .int 0, .int 0, .int 0, .int 0, .ref yl, .ref yw, .int 1, .int 0, .int (pfX8_walksIn_0_y_15 p1), .int (pfX8_walksIn_0_y_16 p1), .int 0, .int 0, .int (pfX8_walksIn_0_y_19 p1), .int 0, .int (-1), .ref yd, .int 0, .ref ys, .ref yn, .ref ym, .int 0, .ref yf, .ref yo, .ref yh, .ref yb, .int 0, .int 0, .int 0, .int 0, .int 0, .int 0, .int 0, .ref yx, .int 0, .int 0, .int 0])), (yr, .inl (cI, 4668, .inl (jn [0, 4, 0, 0, 0, 0, 0, 0, 0, 0, 0, 0, 0, 0, 0, 0, 0, (-1), 0, 0, 0, 0, 0, 0] R0)))] H := hP
  have hD : va_D A [(yl, .inl (cI, 8, .inl (gl [1, 0, 0, 0, 0, 0, 0, 0]))), (y, .inr (8, [.ref yt, .int 0, .int 0, .ref yr, .ref yk, .ref yz, .ref yp, .int 0, .int 0, .int 0, .int 0, .ref yl, .ref yw, .int 1, .int 0, .int (pfX8_walksIn_0_y_15 p1), .int (pfX8_walksIn_0_y_16 p1), .int 0, .int 0, .int (pfX8_walksIn_0_y_19 p1), .int 0, .int (-1), .ref yd, .int 0, .ref ys, .ref yn, .ref ym, .int 0, .ref yf, .ref yo, .ref yh, .ref yb, .int 0, .int 0, .int 0, .int 0, .int 0, .int 0, .int 0, .ref yx, .int 0, .int 0, .int 0])), (yr, .inl (cI, 4668, .inl (jn [0, 4, 0, 0, 0, 0, 0, 0, 0, 0, 0, 0, 0, 0, 0, 0, 0, (-1), 0, 0, 0, 0, 0, 0] R0)))] := hD
  refine lv_istore_n (lv' := [(2, .int (pfX8_walksIn_0_r p1)), (0, .ref y), (1, .int p1)]) hx hb dX8_walks_40 rfl hl (by decide) rfl (fun ls hl => ?_)
  refine lv_aload_n hx hb dX8_walks_41 rfl (lv_at hl 1 rfl) ?_
  refine lv_iconst (v := 2) hx hb dX8_walks_42 (by decide) ?_
  refine zcVv (As := [.int 2]) (rest := []) (wr := [(yr, .inl (cI, 4668, .inl (jn [0, 4, 0, 0, 0, 0, 0, 0, 0, 0, 0, 0, 0, 0, 0, 0, 0, (-1), 0, 0, 0, 0, 0, 0] R0)))]) ⟨hx, hb, hml, hown, hts⟩ (kkX8_logs_1 l dC dI cI cB cZ cR H.size y yt yr yk yz yp yl yw yd ys yn ym yf yo yh yb yx 0 0 0 0 0 0 0 (pfX8_walksIn_0_y_15 p1) (pfX8_walksIn_0_y_16 p1) 0 0 (pfX8_walksIn_0_y_19 p1) 0 (-1) 0 0 0 0 0 0 0 0 0 0 0 0 1 0 0 0 0 0 0 0 2 ) (cwV 1 hts (zgV wm_512 wm_513 wm_514 wm_5 wm_515) rfl rfl rfl (by decide +kernel) ⟨Nat.le_of_ble_eq_true rfl, Nat.le_of_ble_eq_true rfl⟩) hN hK hP hD hS hA [1, 0] [2] rfl rfl ⟨rfl, rfl⟩ (by decide) (ci := 8) rfl rfl rfl rfl hl.1 rfl (Nat.le_of_ble_eq_true rfl) dX8_walks_43 ⟨Nat.le_of_ble_eq_true rfl, Nat.le_of_ble_eq_true rfl⟩ (fun u hu H locs hP hD hS => ?_)
  have hP : va_P (dC, dI) vwCl [(yr, .inl (cI, 4668, .inl (jn [0, 4, 0, 0, 0, 0, 0, 0, 0, 0, 0, 0, 0, 0, 0, 0, 0, (-1), 0, 0, 0, 0, 0, 0] R0))), (y, .inr (8, [.ref yt, .int 0, .int 0, .ref yr, .ref yk, .ref yz, .ref yp, .int 0, .int 0, .int 0, .int 0, .ref yl, .ref yw, .int 2, .int 0, .int (pfX8_walksIn_0_y_15 p1), .int (pfX8_walksIn_0_y_16 p1), .int 0, .int 0, .int (pfX8_walksIn_0_y_19 p1), .int 0, .int (-1), .ref yd, .int 0, .ref ys, .ref yn, .ref ym, .int 0, .ref yf, .ref yo, .ref yh, .ref yb, .int 0, .int 0, .int 0, .int 0, .int 0, .int 0, .int 0, .ref yx, .int 0, .int 0, .int 0])), (yl, .inl (cI, 8, .inl (gl [1, 2, 0, 0, 0, 0, 0, 0])))] H := hP
  have hD : va_D A [(yr, .inl (cI, 4668, .inl (jn [0, 4, 0, 0, 0, 0, 0, 0, 0, 0, 0, 0, 0, 0, 0, 0, 0, (-1), 0, 0, 0, 0, 0, 0] R0))), (y, .inr (8, [.ref yt, .int 0, .int 0, .ref yr, .ref yk, .ref yz, .ref yp, .int 0, .int 0, .int 0, .int 0, .ref yl, .ref yw, .int 2, .int 0, .int (pfX8_walksIn_0_y_15 p1), .int (pfX8_walksIn_0_y_16 p1), .int 0, .int 0, .int (pfX8_walksIn_0_y_19 p1), .int 0, .int (-1), .ref yd, .int 0, .ref ys, .ref yn, .ref ym, .int 0, .ref yf, .ref yo, .ref yh, .ref yb, .int 0, .int 0, .int 0, .int 0, .int 0, .int 0, .int 0, .ref yx, .int 0, .int 0, .int 0])), (yl, .inl (cI, 8, .inl (gl [1, 2, 0, 0, 0, 0, 0, 0])))] := hD
  refine lv_iload_n hx hb dX8_walks_46 rfl (lv_at hl 0 rfl) ?_
  have hP9 := hP.sub (ws' := [(y, .inr (8, [.ref yt, .int 0, .int 0, .ref yr, .ref yk, .ref yz, .ref yp, .int 0, .int 0, .int 0, .int 0, .ref yl, .ref yw, .int 2, .int 0, .int (pfX8_walksIn_0_y_15 p1), .int (pfX8_walksIn_0_y_16 p1), .int 0, .int 0, .int (pfX8_walksIn_0_y_19 p1), .int 0, .int (-1), .ref yd, .int 0, .ref ys, .ref yn, .ref ym, .int 0, .ref yf, .ref yo, .ref yh, .ref yb, .int 0, .int 0, .int 0, .int 0, .int 0, .int 0, .int 0, .ref yx, .int 0, .int 0, .int 0])), (yr, .inl (cI, 4668, .inl (jn [0, 4, 0, 0, 0, 0, 0, 0, 0, 0, 0, 0, 0, 0, 0, 0, 0, (-1), 0, 0, 0, 0, 0, 0] R0))), (yl, .inl (cI, 8, .inl (gl [1, 2, 0, 0, 0, 0, 0, 0])))]) [1, 0, 2] rfl
  have hD9 := hD.sub (ws' := [(y, .inr (8, [.ref yt, .int 0, .int 0, .ref yr, .ref yk, .ref yz, .ref yp, .int 0, .int 0, .int 0, .int 0, .ref yl, .ref yw, .int 2, .int 0, .int (pfX8_walksIn_0_y_15 p1), .int (pfX8_walksIn_0_y_16 p1), .int 0, .int 0, .int (pfX8_walksIn_0_y_19 p1), .int 0, .int (-1), .ref yd, .int 0, .ref ys, .ref yn, .ref ym, .int 0, .ref yf, .ref yo, .ref yh, .ref yb, .int 0, .int 0, .int 0, .int 0, .int 0, .int 0, .int 0, .ref yx, .int 0, .int 0, .int 0])), (yr, .inl (cI, 4668, .inl (jn [0, 4, 0, 0, 0, 0, 0, 0, 0, 0, 0, 0, 0, 0, 0, 0, 0, (-1), 0, 0, 0, 0, 0, 0] R0))), (yl, .inl (cI, 8, .inl (gl [1, 2, 0, 0, 0, 0, 0, 0])))]) [1, 0, 2] (by decide) rfl
  exact W.iret (v := (pfX8_walksIn_0_r p1)) hx hb hr (fun t ht hW => ⟨⟨(pfX8_walksIn_0_r p1), (), rfl, rfl, by rw [ht]; exact hP9, va_K.moved hW.alike hK, hD9⟩, hS.F ht⟩) hS.2.2 dX8_walks_47

def pfX8_chain_r (p1 : Int32) : Int32 := if (pfX8_walksIn_0_r p1) ≤ 0 then (pfX8_walksIn_0_y_16 p1) else ((-10) - (pfX8_walksIn_0_r p1))
set_option maxHeartbeats 4000000 in
set_option maxRecDepth 100000 in
theorem kkX8_chain (l : Launch) (dC : Nat → ClassId) (dI : Nat → Nat → Nat) (cI cB cZ cR : ClassId) (sz : Nat) (y : Nat) (yt : Nat) (yr : Nat) (yk : Nat) (yz : Nat) (yp : Nat) (yl : Nat) (yw : Nat) (yd : Nat) (ys : Nat) (yn : Nat) (ym : Nat) (yf : Nat) (yo : Nat) (yh : Nat) (yb : Nat) (yx : Nat) (p1 : Int32) : Met l yX8_chain (.code yX8_chain cX8_chain 3 (some .int) :: wsL_law) ({ frames := 3, cells := 0, slots := 0, locals := 72 }) (zPc dC dI (zT cI cB cZ cR) [.ref y, .int p1] sz [(y, .inr (8, [.ref yt, .int 0, .int 0, .ref yr, .ref yk, .ref yz, .ref yp, .int 0, .int 0, .int 0, .int 0, .ref yl, .ref yw, .int 0, .int 0, .int 0, .int 0, .int 0, .int 0, .int 0, .int 0, .int (-1), .ref yd, .int 0, .ref ys, .ref yn, .ref ym, .int 0, .ref yf, .ref yo, .ref yh, .ref yb, .int 0, .int 0, .int 0, .int 0, .int 0, .int 0, .int 0, .ref yx, .int 0, .int 0, .int 0])), (yr, .inl (cI, 4668, .inl (jn [0, 4, 0, 0, 0, 0, 0, 0, 0, 0, 0, 0, 0, 0, 0, 0, 0, (-1), 0, 0, 0, 0, 0, 0] R0))), (yl, .inl (cI, 8, .inl (gl [0, 0, 0, 0, 0, 0, 0, 0])))]) (va_Qi (fun (r : Int32) (_ : Unit) => r = (pfX8_chain_r p1)) (fun _ : Unit => zB dC dI (zT cI cB cZ cR) (va_A [(y, .inr (8, [.ref yt, .int 0, .int 0, .ref yr, .ref yk, .ref yz, .ref yp, .int 0, .int 0, .int 0, .int 0, .ref yl, .ref yw, .int 0, .int 0, .int 0, .int 0, .int 0, .int 0, .int 0, .int 0, .int (-1), .ref yd, .int 0, .ref ys, .ref yn, .ref ym, .int 0, .ref yf, .ref yo, .ref yh, .ref yb, .int 0, .int 0, .int 0, .int 0, .int 0, .int 0, .int 0, .ref yx, .int 0, .int 0, .int 0])), (yr, .inl (cI, 4668, .inl (jn [0, 4, 0, 0, 0, 0, 0, 0, 0, 0, 0, 0, 0, 0, 0, 0, 0, (-1), 0, 0, 0, 0, 0, 0] R0))), (yl, .inl (cI, 8, .inl (gl [0, 0, 0, 0, 0, 0, 0, 0])))] sz) [(y, .inr (8, [.ref yt, .int 0, .int 0, .ref yr, .ref yk, .ref yz, .ref yp, .int 0, .int 0, .int 0, .int 0, .ref yl, .ref yw, .int 2, .int 0, .int (pfX8_walksIn_0_y_15 p1), .int (pfX8_walksIn_0_y_16 p1), .int 0, .int 0, .int (pfX8_walksIn_0_y_19 p1), .int 0, .int (-1), .ref yd, .int 0, .ref ys, .ref yn, .ref ym, .int 0, .ref yf, .ref yo, .ref yh, .ref yb, .int 0, .int 0, .int 0, .int 0, .int 0, .int 0, .int 0, .ref yx, .int 0, .int 0, .int 0])), (yr, .inl (cI, 4668, .inl (jn [0, 4, 0, 0, 0, 0, 0, 0, 0, 0, 0, 0, 0, 0, 0, 0, 0, (-1), 0, 0, 0, 0, 0, 0] R0))), (yl, .inl (cI, 8, .inl (gl [1, 2, 0, 0, 0, 0, 0, 0])))]) (va_A [(y, .inr (8, [.ref yt, .int 0, .int 0, .ref yr, .ref yk, .ref yz, .ref yp, .int 0, .int 0, .int 0, .int 0, .ref yl, .ref yw, .int 0, .int 0, .int 0, .int 0, .int 0, .int 0, .int 0, .int 0, .int (-1), .ref yd, .int 0, .ref ys, .ref yn, .ref ym, .int 0, .ref yf, .ref yo, .ref yh, .ref yb, .int 0, .int 0, .int 0, .int 0, .int 0, .int 0, .int 0, .ref yx, .int 0, .int 0, .int 0])), (yr, .inl (cI, 4668, .inl (jn [0, 4, 0, 0, 0, 0, 0, 0, 0, 0, 0, 0, 0, 0, 0, 0, 0, (-1), 0, 0, 0, 0, 0, 0] R0))), (yl, .inl (cI, 8, .inl (gl [0, 0, 0, 0, 0, 0, 0, 0])))] sz)) 0 0 (va_A [(y, .inr (8, [.ref yt, .int 0, .int 0, .ref yr, .ref yk, .ref yz, .ref yp, .int 0, .int 0, .int 0, .int 0, .ref yl, .ref yw, .int 0, .int 0, .int 0, .int 0, .int 0, .int 0, .int 0, .int 0, .int (-1), .ref yd, .int 0, .ref ys, .ref yn, .ref ym, .int 0, .ref yf, .ref yo, .ref yh, .ref yb, .int 0, .int 0, .int 0, .int 0, .int 0, .int 0, .int 0, .ref yx, .int 0, .int 0, .int 0])), (yr, .inl (cI, 4668, .inl (jn [0, 4, 0, 0, 0, 0, 0, 0, 0, 0, 0, 0, 0, 0, 0, 0, 0, (-1), 0, 0, 0, 0, 0, 0] R0))), (yl, .inl (cI, 8, .inl (gl [0, 0, 0, 0, 0, 0, 0, 0])))] sz) := by
  refine Met.ofW (cc := cX8_chain) (maxL := 3) (ret := (some .int)) (by decide) rfl ?_
  intro p e s m args below meth c s₁ B hml hv
  obtain ⟨rfl, hsz, hP, hK, hD0, hN⟩ := hv
  have hx := B.exec
  have hb := B.bytes
  have hr := B.returns
  have hts := atoms_spec (ws := (.code yX8_chain cX8_chain 3 (some .int) :: wsL_law)) B.pre
  have hown : s.vm.findClass RX8 = some m.cls := findClass_of_methodNamed B.named
  have hlocks := B.notSynchronized
  have hinX8 : ∀ w ∈ u_ws RX8 TX8 43, w ∈ (.code yX8_chain cX8_chain 3 (some .int) :: wsL_law) := fun w h => List.mem_cons_of_mem _ (inlX8 w h)
  have k_0 := hts (.fieldLink RX8 195 "RingMarksModel" "walkMany" "I") (List.mem_cons_of_mem _ wm_510)
  subst hsz
  have hD := hD0.self (sz := s.heap.size)
  generalize hAe : va_A [(y, .inr (8, [.ref yt, .int 0, .int 0, .ref yr, .ref yk, .ref yz, .ref yp, .int 0, .int 0, .int 0, .int 0, .ref yl, .ref yw, .int 0, .int 0, .int 0, .int 0, .int 0, .int 0, .int 0, .int 0, .int (-1), .ref yd, .int 0, .ref ys, .ref yn, .ref ym, .int 0, .ref yf, .ref yo, .ref yh, .ref yb, .int 0, .int 0, .int 0, .int 0, .int 0, .int 0, .int 0, .ref yx, .int 0, .int 0, .int 0])), (yr, .inl (cI, 4668, .inl (jn [0, 4, 0, 0, 0, 0, 0, 0, 0, 0, 0, 0, 0, 0, 0, 0, 0, (-1), 0, 0, 0, 0, 0, 0] R0))), (yl, .inl (cI, 8, .inl (gl [0, 0, 0, 0, 0, 0, 0, 0])))] s.heap.size = A at hD ⊢
  have hA : ∀ q : Nat, s.heap.size ≤ q → A q := fun q h => by rw [← hAe]; exact Or.inr h
  have hP : va_P (dC, dI) vwCl [(y, .inr (8, [.ref yt, .int 0, .int 0, .ref yr, .ref yk, .ref yz, .ref yp, .int 0, .int 0, .int 0, .int 0, .ref yl, .ref yw, .int 0, .int 0, .int 0, .int 0, .int 0, .int 0, .int 0, .int 0, .int (-1), .ref yd, .int 0, .ref ys, .ref yn, .ref ym, .int 0, .ref yf, .ref yo, .ref yh, .ref yb, .int 0, .int 0, .int 0, .int 0, .int 0, .int 0, .int 0, .ref yx, .int 0, .int 0, .int 0])), (yr, .inl (cI, 4668, .inl (jn [0, 4, 0, 0, 0, 0, 0, 0, 0, 0, 0, 0, 0, 0, 0, 0, 0, (-1), 0, 0, 0, 0, 0, 0] R0))), (yl, .inl (cI, 8, .inl (gl [0, 0, 0, 0, 0, 0, 0, 0])))] s.heap := hP
  have hl := lv_entry ([.ref y, .int p1]) (n := 3) (Nat.le_of_ble_eq_true rfl)
  rw [lg_entry_eq]
  generalize (lg_sl ([.ref y, .int p1]) ++ List.replicate (3 - (lg_sl ([.ref y, .int p1])).length) Slot.unset).toArray = ls at hl ⊢
  have hl : lv_has ls 3 [(0, .ref y), (1, .int p1)] := hl
  obtain ⟨H, hH⟩ : ∃ H, H = s.heap := ⟨_, rfl⟩
  rw [← hH] at hP ⊢
  have hS : va_S A s.heap H [] := by rw [hH]; exact va_S.rf
  refine lv_aload_n hx hb dX8_chain_0 rfl (lv_at hl 0 rfl) ?_
  refine zcVi (As := []) (rest := []) (wr := [(yl, .inl (cI, 8, .inl (gl [0, 0, 0, 0, 0, 0, 0, 0])))]) ⟨hx, hb, hml, hown, hts⟩ (kkX8_isPacked l dC dI cI cB cZ cR H.size y yt yr yk yz yp yl yw yd ys yn ym yf yo yh yb yx 0 0 0 0 0 0 0 0 0 0 0 0 0 0 (-1) 0 0 0 0 0 0 0 0 0 0 0 0 0 0 0 0 0 0 0 0 0 0 0 0 0 0 (-1) 0 0 0 0 0 0 R0 ) (cwV 0 hts (zgV wm_372 wm_373 wm_374 wm_5 wm_375) rfl rfl rfl (by decide +kernel) ⟨Nat.le_of_ble_eq_true rfl, Nat.le_of_ble_eq_true rfl⟩) hN hK hP hD hS hA [0, 1] [2] rfl rfl ⟨rfl, rfl⟩ (by decide) (ci := 8) rfl rfl rfl rfl hl.1 rfl (Nat.le_of_ble_eq_true rfl) dX8_chain_1 ⟨Nat.le_of_ble_eq_true rfl, Nat.le_of_ble_eq_true rfl⟩ (fun r u hu H locs hP hD hS => ?_)
  have hu : r = 0 := hu
  subst hu
  have hP : va_P (dC, dI) vwCl [(yl, .inl (cI, 8, .inl (gl [0, 0, 0, 0, 0, 0, 0, 0]))), (y, .inr (8, [.ref yt, .int 0, .int 0, .ref yr, .ref yk, .ref yz, .ref yp, .int 0, .int 0, .int 0, .int 0, .ref yl, .ref yw, .int 0, .int 0, .int 0, .int 0, .int 0, .int 0, .int 0, .int 0, .int (-1), .ref yd, .int 0, .ref ys, .ref yn, .ref ym, .int 0, .ref yf, .ref yo, .ref yh, .ref yb, .int 0, .int 0, .int 0, .int 0, .int 0, .int 0, .int 0, .ref yx, .int 0, .int 0, .int 0])), (yr, .inl (cI, 4668, .inl (jn [0, 4, 0, 0, 0, 0, 0, 0, 0, 0, 0, 0, 0, 0, 0, 0, 0, (-1), 0, 0, 0, 0, 0, 0] R0)))] H := hP
  have hD : va_D A [(yl, .inl (cI, 8, .inl (gl [0, 0, 0, 0, 0, 0, 0, 0]))), (y, .inr (8, [.ref yt, .int 0, .int 0, .ref yr, .ref yk, .ref yz, .ref yp, .int 0, .int 0, .int 0, .int 0, .ref yl, .ref yw, .int 0, .int 0, .int 0, .int 0, .int 0, .int 0, .int 0, .int 0, .int (-1), .ref yd, .int 0, .ref ys, .ref yn, .ref ym, .int 0, .ref yf, .ref yo, .ref yh, .ref yb, .int 0, .int 0, .int 0, .int 0, .int 0, .int 0, .int 0, .ref yx, .int 0, .int 0, .int 0])), (yr, .inl (cI, 4668, .inl (jn [0, 4, 0, 0, 0, 0, 0, 0, 0, 0, 0, 0, 0, 0, 0, 0, 0, (-1), 0, 0, 0, 0, 0, 0] R0)))] := hD
  refine lv_if_eq (tgt := 9) hx hb dX8_chain_4 (by decide) (fun _ => ?_) (fun c => absurd (by decide) c)
  refine lv_aload_n hx hb dX8_chain_9 rfl (lv_at hl 0 rfl) ?_
  refine lv_iload_n hx hb dX8_chain_10 rfl (lv_at hl 1 rfl) ?_
  refine zcVi (As := [.int p1]) (rest := []) (wr := []) ⟨hx, hb, hml, hown, hts⟩ (kkX8_walks_0 l dC dI cI cB cZ cR H.size y yt yr yk yz yp yl yw yd ys yn ym yf yo yh yb yx p1 ) (cwV 1 hts (zgV wm_506 wm_507 wm_508 wm_5 wm_509) rfl rfl rfl (by decide +kernel) ⟨Nat.le_of_ble_eq_true rfl, Nat.le_of_ble_eq_true rfl⟩) hN hK hP hD hS hA [1, 2, 0] [] rfl rfl ⟨rfl, rfl⟩ (by decide) (ci := 8) rfl rfl rfl rfl hl.1 rfl (Nat.le_of_ble_eq_true rfl) dX8_chain_11 ⟨Nat.le_of_ble_eq_true rfl, Nat.le_of_ble_eq_true rfl⟩ (fun r u hu H locs hP hD hS => ?_)
  have hu : r = (pfX8_walksIn_0_r p1) := hu
  subst hu
  have hP : va_P (dC, dI) vwCl [(y, .inr (8, [.ref yt, .int 0, .int 0, .ref yr, .ref yk, .ref yz, .ref yp, .int 0, .int 0, .int 0, .int 0, .ref yl, .ref yw, .int 2, .int 0, .int (pfX8_walksIn_0_y_15 p1), .int (pfX8_walksIn_0_y_16 p1), .int 0, .int 0, .int (pfX8_walksIn_0_y_19 p1), .int 0, .int (-1), .ref yd, .int 0, .ref ys, .ref yn, .ref ym, .int 0, .ref yf, .ref yo, .ref yh, .ref yb, .int 0, .int 0, .int 0, .int 0, .int 0, .int 0, .int 0, .ref yx, .int 0, .int 0, .int 0])), (yr, .inl (cI, 4668, .inl (jn [0, 4, 0, 0, 0, 0, 0, 0, 0, 0, 0, 0, 0, 0, 0, 0, 0, (-1), 0, 0, 0, 0, 0, 0] R0))), (yl, .inl (cI, 8, .inl (gl [1, 2, 0, 0, 0, 0, 0, 0])))] H := hP
  have hD : va_D A [(y, .inr (8, [.ref yt, .int 0, .int 0, .ref yr, .ref yk, .ref yz, .ref yp, .int 0, .int 0, .int 0, .int 0, .ref yl, .ref yw, .int 2, .int 0, .int (pfX8_walksIn_0_y_15 p1), .int (pfX8_walksIn_0_y_16 p1), .int 0, .int 0, .int (pfX8_walksIn_0_y_19 p1), .int 0, .int (-1), .ref yd, .int 0, .ref ys, .ref yn, .ref ym, .int 0, .ref yf, .ref yo, .ref yh, .ref yb, .int 0, .int 0, .int 0, .int 0, .int 0, .int 0, .int 0, .ref yx, .int 0, .int 0, .int 0])), (yr, .inl (cI, 4668, .inl (jn [0, 4, 0, 0, 0, 0, 0, 0, 0, 0, 0, 0, 0, 0, 0, 0, 0, (-1), 0, 0, 0, 0, 0, 0] R0))), (yl, .inl (cI, 8, .inl (gl [1, 2, 0, 0, 0, 0, 0, 0])))] := hD
  refine lv_istore_n (lv' := [(2, .int (pfX8_walksIn_0_r p1)), (0, .ref y), (1, .int p1)]) hx hb dX8_chain_14 rfl hl (by decide) rfl (fun ls hl => ?_)
  refine lv_iload_n hx hb dX8_chain_15 rfl (lv_at hl 0 rfl) ?_
  refine lv_if_le (tgt := 26) hx hb dX8_chain_16 (by decide) (fun c_1 => ?_) (fun c_1 => ?_)
  · refine lv_aload_n hx hb dX8_chain_26 rfl (lv_at hl 1 rfl) ?_
    refine va_get (D := (dC, dI)) (ci := 8) (v := .int (pfX8_walksIn_0_y_16 p1)) (C := RX8) (T := TX8) (N := 43) hx hb hts hinX8 hown hK hP 0 rfl rfl 16 (by decide) k_0 (fun _ h9 => h9) rfl dX8_chain_27 ?_
    have e_0 : (pfX8_chain_r p1) = (pfX8_walksIn_0_y_16 p1) := by rw [pfX8_chain_r, if_pos c_1]
    have hP9 := hP.sub (ws' := [(y, .inr (8, [.ref yt, .int 0, .int 0, .ref yr, .ref yk, .ref yz, .ref yp, .int 0, .int 0, .int 0, .int 0, .ref yl, .ref yw, .int 2, .int 0, .int (pfX8_walksIn_0_y_15 p1), .int (pfX8_walksIn_0_y_16 p1), .int 0, .int 0, .int (pfX8_walksIn_0_y_19 p1), .int 0, .int (-1), .ref yd, .int 0, .ref ys, .ref yn, .ref ym, .int 0, .ref yf, .ref yo, .ref yh, .ref yb, .int 0, .int 0, .int 0, .int 0, .int 0, .int 0, .int 0, .ref yx, .int 0, .int 0, .int 0])), (yr, .inl (cI, 4668, .inl (jn [0, 4, 0, 0, 0, 0, 0, 0, 0, 0, 0, 0, 0, 0, 0, 0, 0, (-1), 0, 0, 0, 0, 0, 0] R0))), (yl, .inl (cI, 8, .inl (gl [1, 2, 0, 0, 0, 0, 0, 0])))]) [0, 1, 2] rfl
    have hD9 := hD.sub (ws' := [(y, .inr (8, [.ref yt, .int 0, .int 0, .ref yr, .ref yk, .ref yz, .ref yp, .int 0, .int 0, .int 0, .int 0, .ref yl, .ref yw, .int 2, .int 0, .int (pfX8_walksIn_0_y_15 p1), .int (pfX8_walksIn_0_y_16 p1), .int 0, .int 0, .int (pfX8_walksIn_0_y_19 p1), .int 0, .int (-1), .ref yd, .int 0, .ref ys, .ref yn, .ref ym, .int 0, .ref yf, .ref yo, .ref yh, .ref yb, .int 0, .int 0, .int 0, .int 0, .int 0, .int 0, .int 0, .ref yx, .int 0, .int 0, .int 0])), (yr, .inl (cI, 4668, .inl (jn [0, 4, 0, 0, 0, 0, 0, 0, 0, 0, 0, 0, 0, 0, 0, 0, 0, (-1), 0, 0, 0, 0, 0, 0] R0))), (yl, .inl (cI, 8, .inl (gl [1, 2, 0, 0, 0, 0, 0, 0])))]) [0, 1, 2] (by decide) rfl
    exact W.iret (v := (pfX8_walksIn_0_y_16 p1)) hx hb hr (fun t ht hW => ⟨⟨(pfX8_walksIn_0_y_16 p1), (), rfl, e_0.symm, by rw [ht]; exact hP9, va_K.moved hW.alike hK, hD9⟩, hS.F ht⟩) hS.2.2 dX8_chain_30
  · refine lv_bipush (v := (-10)) hx hb dX8_chain_19 (by decide) ?_
    refine lv_iload_n hx hb dX8_chain_21 rfl (lv_at hl 0 rfl) ?_
    refine lv_isub hx hb dX8_chain_22 ?_
    refine lv_goto (tgt := 30) hx hb dX8_chain_23 (by decide) ?_
    have e_0 : (pfX8_chain_r p1) = ((-10) - (pfX8_walksIn_0_r p1)) := by rw [pfX8_chain_r, if_neg c_1]
    have hP9 := hP.sub (ws' := [(y, .inr (8, [.ref yt, .int 0, .int 0, .ref yr, .ref yk, .ref yz, .ref yp, .int 0, .int 0, .int 0, .int 0, .ref yl, .ref yw, .int 2, .int 0, .int (pfX8_walksIn_0_y_15 p1), .int (pfX8_walksIn_0_y_16 p1), .int 0, .int 0, .int (pfX8_walksIn_0_y_19 p1), .int 0, .int (-1), .ref yd, .int 0, .ref ys, .ref yn, .ref ym, .int 0, .ref yf, .ref yo, .ref yh, .ref yb, .int 0, .int 0, .int 0, .int 0, .int 0, .int 0, .int 0, .ref yx, .int 0, .int 0, .int 0])), (yr, .inl (cI, 4668, .inl (jn [0, 4, 0, 0, 0, 0, 0, 0, 0, 0, 0, 0, 0, 0, 0, 0, 0, (-1), 0, 0, 0, 0, 0, 0] R0))), (yl, .inl (cI, 8, .inl (gl [1, 2, 0, 0, 0, 0, 0, 0])))]) [0, 1, 2] rfl
    have hD9 := hD.sub (ws' := [(y, .inr (8, [.ref yt, .int 0, .int 0, .ref yr, .ref yk, .ref yz, .ref yp, .int 0, .int 0, .int 0, .int 0, .ref yl, .ref yw, .int 2, .int 0, .int (pfX8_walksIn_0_y_15 p1), .int (pfX8_walksIn_0_y_16 p1), .int 0, .int 0, .int (pfX8_walksIn_0_y_19 p1), .int 0, .int (-1), .ref yd, .int 0, .ref ys, .ref yn, .ref ym, .int 0, .ref yf, .ref yo, .ref yh, .ref yb, .int 0, .int 0, .int 0, .int 0, .int 0, .int 0, .int 0, .ref yx, .int 0, .int 0, .int 0])), (yr, .inl (cI, 4668, .inl (jn [0, 4, 0, 0, 0, 0, 0, 0, 0, 0, 0, 0, 0, 0, 0, 0, 0, (-1), 0, 0, 0, 0, 0, 0] R0))), (yl, .inl (cI, 8, .inl (gl [1, 2, 0, 0, 0, 0, 0, 0])))]) [0, 1, 2] (by decide) rfl
    exact W.iret (v := ((-10) - (pfX8_walksIn_0_r p1))) hx hb hr (fun t ht hW => ⟨⟨((-10) - (pfX8_walksIn_0_r p1)), (), rfl, e_0.symm, by rw [ht]; exact hP9, va_K.moved hW.alike hK, hD9⟩, hS.F ht⟩) hS.2.2 dX8_chain_30
