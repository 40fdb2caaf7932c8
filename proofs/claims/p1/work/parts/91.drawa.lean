theorem zup_glb {L L' : List Int32} {i : Int32} {k : Nat} {x : Int32} {q : Prop} (hi : i.toNatClampNeg = k ∧ q) (hx : vp_nar .boolean x = x) (hk : k < L.length) (hL : L.set k x = L') : upd (gl L) i.toNatClampNeg (vp_nar .boolean x) = gl L' := by
  rw [hx]; exact zup_gl hi hk hL

def pfX7_draw_8_r (sd : Int32) : Int32 := (((Int32.toUInt32 ((sd * 1103515245) + 12345) >>> (Int32.toUInt32 8 &&& Int32.toUInt32 31)).toInt32) - ((Int32.toUInt32 ((sd * 1103515245) + 12345) >>> (Int32.toUInt32 8 &&& Int32.toUInt32 31)).toInt32) / 8 * 8)
def pfX7_draw_8_x_11 (sd : Int32) : Int32 := ((sd * 1103515245) + 12345)
set_option maxHeartbeats 4000000 in
set_option maxRecDepth 100000 in
theorem kkX7_draw_8 (l : Launch) (dC : Nat → ClassId) (dI : Nat → Nat → Nat) (cI cB cZ cR : ClassId) (sz : Nat) (x : Nat) (xt : Nat) (xd : Nat) (h : Nat) (xk : Nat) (xl : Nat) (xw : Nat) (xp : Nat) (xs : Nat) (xr : Nat) (tl : Int32) (sd : Int32) : Met l yX7_draw (.code yX7_draw cX7_draw 2 (some .int) :: wsL_law) ({ frames := 0, cells := 0, slots := 0, locals := 0 }) (zPc dC dI (zT cI cB cZ cR) [.ref x, .int 8] sz [(x, .inr (7, [.ref xt, .ref xd, .ref h, .ref xk, .ref xl, .ref xw, .ref xp, .ref xs, .ref xr, .int 0, .int tl, .int sd, .null]))]) (va_Qi (fun (r : Int32) (_ : Unit) => r = (pfX7_draw_8_r sd)) (fun _ : Unit => zB dC dI (zT cI cB cZ cR) (va_A [(x, .inr (7, [.ref xt, .ref xd, .ref h, .ref xk, .ref xl, .ref xw, .ref xp, .ref xs, .ref xr, .int 0, .int tl, .int sd, .null]))] sz) [(x, .inr (7, [.ref xt, .ref xd, .ref h, .ref xk, .ref xl, .ref xw, .ref xp, .ref xs, .ref xr, .int 0, .int tl, .int (pfX7_draw_8_x_11 sd), .null]))]) (va_A [(x, .inr (7, [.ref xt, .ref xd, .ref h, .ref xk, .ref xl, .ref xw, .ref xp, .ref xs, .ref xr, .int 0, .int tl, .int sd, .null]))] sz)) 0 0 (va_A [(x, .inr (7, [.ref xt, .ref xd, .ref h, .ref xk, .ref xl, .ref xw, .ref xp, .ref xs, .ref xr, .int 0, .int tl, .int sd, .null]))] sz) := by
  refine Met.ofW (cc := cX7_draw) (maxL := 2) (ret := (some .int)) (by decide) rfl ?_
  intro p e s m args below meth c s₁ B hml hv
  obtain ⟨rfl, hsz, hP, hK, hD0, hN⟩ := hv
  have hx := B.exec
  have hb := B.bytes
  have hr := B.returns
  have hts := atoms_spec (ws := (.code yX7_draw cX7_draw 2 (some .int) :: wsL_law)) B.pre
  have hown : s.vm.findClass RX7 = some m.cls := findClass_of_methodNamed B.named
  have hlocks := B.notSynchronized
  have hinX7 : ∀ w ∈ u_ws RX7 TX7 13, w ∈ (.code yX7_draw cX7_draw 2 (some .int) :: wsL_law) := fun w h => List.mem_cons_of_mem _ (inlX7 w h)
  have k_0 := hts (.fieldLink RX7 69 "RingMarks" "seed" "I") (List.mem_cons_of_mem _ wm_42)
  have k_1 := hts (.constant RX7 247 (1103515245)) (List.mem_cons_of_mem _ wm_1177)
  subst hsz
  have hD := hD0.self (sz := s.heap.size)
  generalize hAe : va_A [(x, .inr (7, [.ref xt, .ref xd, .ref h, .ref xk, .ref xl, .ref xw, .ref xp, .ref xs, .ref xr, .int 0, .int tl, .int sd, .null]))] s.heap.size = A at hD ⊢
  have hA : ∀ q : Nat, s.heap.size ≤ q → A q := fun q h => by rw [← hAe]; exact Or.inr h
  have hP : va_P (dC, dI) vwCl [(x, .inr (7, [.ref xt, .ref xd, .ref h, .ref xk, .ref xl, .ref xw, .ref xp, .ref xs, .ref xr, .int 0, .int tl, .int sd, .null]))] s.heap := hP
  have hl := lv_entry ([.ref x, .int 8]) (n := 2) (Nat.le_of_ble_eq_true rfl)
  rw [lg_entry_eq]
  generalize (lg_sl ([.ref x, .int 8]) ++ List.replicate (2 - (lg_sl ([.ref x, .int 8])).length) Slot.unset).toArray = ls at hl ⊢
  have hl : lv_has ls 2 [(0, .ref x), (1, .int 8)] := hl
  obtain ⟨H, hH⟩ : ∃ H, H = s.heap := ⟨_, rfl⟩
  rw [← hH] at hP ⊢
  have hS : va_S A s.heap H [] := by rw [hH]; exact va_S.rf
  refine lv_aload_n hx hb dX7_draw_0 rfl (lv_at hl 0 rfl) ?_
  refine lv_aload_n hx hb dX7_draw_1 rfl (lv_at hl 0 rfl) ?_
  refine va_get (D := (dC, dI)) (ci := 7) (v := .int sd) (C := RX7) (T := TX7) (N := 13) hx hb hts hinX7 hown hK hP 0 rfl rfl 11 (by decide) k_0 (fun _ h9 => h9) rfl dX7_draw_2 ?_
  refine lv_ldc (v := 1103515245) hx hb hown k_1 dX7_draw_5 ?_
  refine lv_imul hx hb dX7_draw_7 ?_
  refine lv_sipush (v := 12345) hx hb dX7_draw_8 (by decide) ?_
  refine lv_iadd hx hb dX7_draw_11 ?_
  refine va_put (D := (dC, dI)) (ci := 7) (v := .int ((sd * 1103515245) + 12345)) (ty := tyX7 11) (C := RX7) (T := TX7) (N := 13) hx hb hts hinX7 tyX7 tyX7_ok nmX7 hown hK hP hD hS 0 rfl rfl 11 (by decide) k_0 (fun _ h9 => h9) rfl (by decide +kernel) rfl rfl (Nat.le_of_ble_eq_true rfl) dX7_draw_12 (fun H locs hP hD hS => ?_)
  have hP : va_P (dC, dI) vwCl [(x, .inr (7, [.ref xt, .ref xd, .ref h, .ref xk, .ref xl, .ref xw, .ref xp, .ref xs, .ref xr, .int 0, .int tl, .int ((sd * 1103515245) + 12345), .null]))] H := hP
  have hD : va_D A [(x, .inr (7, [.ref xt, .ref xd, .ref h, .ref xk, .ref xl, .ref xw, .ref xp, .ref xs, .ref xr, .int 0, .int tl, .int ((sd * 1103515245) + 12345), .null]))] := hD
  refine lv_iload_n hx hb dX7_draw_15 rfl (lv_at hl 1 rfl) ?_
  refine lv_if_le (tgt := 31) hx hb dX7_draw_16 (by decide) (fun c => absurd c (by decide)) (fun _ => ?_)
  refine lv_aload_n hx hb dX7_draw_19 rfl (lv_at hl 0 rfl) ?_
  refine va_get (D := (dC, dI)) (ci := 7) (v := .int ((sd * 1103515245) + 12345)) (C := RX7) (T := TX7) (N := 13) hx hb hts hinX7 hown hK hP 0 rfl rfl 11 (by decide) k_0 (fun _ h9 => h9) rfl dX7_draw_20 ?_
  refine lv_bipush (v := 8) hx hb dX7_draw_23 (by decide) ?_
  refine lv_iushr (v := ((Int32.toUInt32 ((sd * 1103515245) + 12345) >>> (Int32.toUInt32 8 &&& Int32.toUInt32 31)).toInt32)) hx hb dX7_draw_25 rfl ?_
  refine lv_iload_n hx hb dX7_draw_26 rfl (lv_at hl 1 rfl) ?_
  refine lv_irem hx hb dX7_draw_27 (by decide) ?_
  refine lv_goto (tgt := 32) hx hb dX7_draw_28 (by decide) ?_
  have e_0 : (pfX7_draw_8_r sd) = (((Int32.toUInt32 ((sd * 1103515245) + 12345) >>> (Int32.toUInt32 8 &&& Int32.toUInt32 31)).toInt32) - ((Int32.toUInt32 ((sd * 1103515245) + 12345) >>> (Int32.toUInt32 8 &&& Int32.toUInt32 31)).toInt32) / 8 * 8) := by rw [pfX7_draw_8_r]
  have e_1 : (pfX7_draw_8_x_11 sd) = ((sd * 1103515245) + 12345) := by rw [pfX7_draw_8_x_11]
  have hP9 := hP.sub (ws' := [(x, .inr (7, [.ref xt, .ref xd, .ref h, .ref xk, .ref xl, .ref xw, .ref xp, .ref xs, .ref xr, .int 0, .int tl, .int ((sd * 1103515245) + 12345), .null]))]) [0] rfl
  have hD9 := hD.sub (ws' := [(x, .inr (7, [.ref xt, .ref xd, .ref h, .ref xk, .ref xl, .ref xw, .ref xp, .ref xs, .ref xr, .int 0, .int tl, .int ((sd * 1103515245) + 12345), .null]))]) [0] (by decide) rfl
  exact W.iret (v := (((Int32.toUInt32 ((sd * 1103515245) + 12345) >>> (Int32.toUInt32 8 &&& Int32.toUInt32 31)).toInt32) - ((Int32.toUInt32 ((sd * 1103515245) + 12345) >>> (Int32.toUInt32 8 &&& Int32.toUInt32 31)).toInt32) / 8 * 8)) hx hb hr (fun t ht hW => ⟨⟨(((Int32.toUInt32 ((sd * 1103515245) + 12345) >>> (Int32.toUInt32 8 &&& Int32.toUInt32 31)).toInt32) - ((Int32.toUInt32 ((sd * 1103515245) + 12345) >>> (Int32.toUInt32 8 &&& Int32.toUInt32 31)).toInt32) / 8 * 8), (), rfl, e_0.symm, by rw [ht, e_1]; exact hP9, va_K.moved hW.alike hK, (by rw [e_1]; exact hD9)⟩, hS.F ht⟩) hS.2.2 dX7_draw_32

def pfX7_draw_3_r (sd : Int32) : Int32 := (((Int32.toUInt32 ((sd * 1103515245) + 12345) >>> (Int32.toUInt32 8 &&& Int32.toUInt32 31)).toInt32) - ((Int32.toUInt32 ((sd * 1103515245) + 12345) >>> (Int32.toUInt32 8 &&& Int32.toUInt32 31)).toInt32) / 3 * 3)
def pfX7_draw_3_x_11 (sd : Int32) : Int32 := ((sd * 1103515245) + 12345)
set_option maxHeartbeats 4000000 in
set_option maxRecDepth 100000 in
theorem kkX7_draw_3 (l : Launch) (dC : Nat → ClassId) (dI : Nat → Nat → Nat) (cI cB cZ cR : ClassId) (sz : Nat) (x : Nat) (xt : Nat) (xd : Nat) (h : Nat) (xk : Nat) (xl : Nat) (xw : Nat) (xp : Nat) (xs : Nat) (xr : Nat) (tl : Int32) (sd : Int32) : Met l yX7_draw (.code yX7_draw cX7_draw 2 (some .int) :: wsL_law) ({ frames := 0, cells := 0, slots := 0, locals := 0 }) (zPc dC dI (zT cI cB cZ cR) [.ref x, .int 3] sz [(x, .inr (7, [.ref xt, .ref xd, .ref h, .ref xk, .ref xl, .ref xw, .ref xp, .ref xs, .ref xr, .int 0, .int tl, .int sd, .null]))]) (va_Qi (fun (r : Int32) (_ : Unit) => r = (pfX7_draw_3_r sd)) (fun _ : Unit => zB dC dI (zT cI cB cZ cR) (va_A [(x, .inr (7, [.ref xt, .ref xd, .ref h, .ref xk, .ref xl, .ref xw, .ref xp, .ref xs, .ref xr, .int 0, .int tl, .int sd, .null]))] sz) [(x, .inr (7, [.ref xt, .ref xd, .ref h, .ref xk, .ref xl, .ref xw, .ref xp, .ref xs, .ref xr, .int 0, .int tl, .int (pfX7_draw_3_x_11 sd), .null]))]) (va_A [(x, .inr (7, [.ref xt, .ref xd, .ref h, .ref xk, .ref xl, .ref xw, .ref xp, .ref xs, .ref xr, .int 0, .int tl, .int sd, .null]))] sz)) 0 0 (va_A [(x, .inr (7, [.ref xt, .ref xd, .ref h, .ref xk, .ref xl, .ref xw, .ref xp, .ref xs, .ref xr, .int 0, .int tl, .int sd, .null]))] sz) := by
  refine Met.ofW (cc := cX7_draw) (maxL := 2) (ret := (some .int)) (by decide) rfl ?_
  intro p e s m args below meth c s₁ B hml hv
  obtain ⟨rfl, hsz, hP, hK, hD0, hN⟩ := hv
  have hx := B.exec
  have hb := B.bytes
  have hr := B.returns
  have hts := atoms_spec (ws := (.code yX7_draw cX7_draw 2 (some .int) :: wsL_law)) B.pre
  have hown : s.vm.findClass RX7 = some m.cls := findClass_of_methodNamed B.named
  have hlocks := B.notSynchronized
  have hinX7 : ∀ w ∈ u_ws RX7 TX7 13, w ∈ (.code yX7_draw cX7_draw 2 (some .int) :: wsL_law) := fun w h => List.mem_cons_of_mem _ (inlX7 w h)
  have k_0 := hts (.fieldLink RX7 69 "RingMarks" "seed" "I") (List.mem_cons_of_mem _ wm_42)
  have k_1 := hts (.constant RX7 247 (1103515245)) (List.mem_cons_of_mem _ wm_1177)
  subst hsz
  have hD := hD0.self (sz := s.heap.size)
  generalize hAe : va_A [(x, .inr (7, [.ref xt, .ref xd, .ref h, .ref xk, .ref xl, .ref xw, .ref xp, .ref xs, .ref xr, .int 0, .int tl, .int sd, .null]))] s.heap.size = A at hD ⊢
  have hA : ∀ q : Nat, s.heap.size ≤ q → A q := fun q h => by rw [← hAe]; exact Or.inr h
  have hP : va_P (dC, dI) vwCl [(x, .inr (7, [.ref xt, .ref xd, .ref h, .ref xk, .ref xl, .ref xw, .ref xp, .ref xs, .ref xr, .int 0, .int tl, .int sd, .null]))] s.heap := hP
  have hl := lv_entry ([.ref x, .int 3]) (n := 2) (Nat.le_of_ble_eq_true rfl)
  rw [lg_entry_eq]
  generalize (lg_sl ([.ref x, .int 3]) ++ List.replicate (2 - (lg_sl ([.ref x, .int 3])).length) Slot.unset).toArray = ls at hl ⊢
  have hl : lv_has ls 2 [(0, .ref x), (1, .int 3)] := hl
  obtain ⟨H, hH⟩ : ∃ H, H = s.heap := ⟨_, rfl⟩
  rw [← hH] at hP ⊢
  have hS : va_S A s.heap H [] := by rw [hH]; exact va_S.rf
  refine lv_aload_n hx hb dX7_draw_0 rfl (lv_at hl 0 rfl) ?_
  refine lv_aload_n hx hb dX7_draw_1 rfl (lv_at hl 0 rfl) ?_
  refine va_get (D := (dC, dI)) (ci := 7) (v := .int sd) (C := RX7) (T := TX7) (N := 13) hx hb hts hinX7 hown hK hP 0 rfl rfl 11 (by decide) k_0 (fun _ h9 => h9) rfl dX7_draw_2 ?_
  refine lv_ldc (v := 1103515245) hx hb hown k_1 dX7_draw_5 ?_
  refine lv_imul hx hb dX7_draw_7 ?_
  refine lv_sipush (v := 12345) hx hb dX7_draw_8 (by decide) ?_
  refine lv_iadd hx hb dX7_draw_11 ?_
  refine va_put (D := (dC, dI)) (ci := 7) (v := .int ((sd * 1103515245) + 12345)) (ty := tyX7 11) (C := RX7) (T := TX7) (N := 13) hx hb hts hinX7 tyX7 tyX7_ok nmX7 hown hK hP hD hS 0 rfl rfl 11 (by decide) k_0 (fun _ h9 => h9) rfl (by decide +kernel) rfl rfl (Nat.le_of_ble_eq_true rfl) dX7_draw_12 (fun H locs hP hD hS => ?_)
  have hP : va_P (dC, dI) vwCl [(x, .inr (7, [.ref xt, .ref xd, .ref h, .ref xk, .ref xl, .ref xw, .ref xp, .ref xs, .ref xr, .int 0, .int tl, .int ((sd * 1103515245) + 12345), .null]))] H := hP
  have hD : va_D A [(x, .inr (7, [.ref xt, .ref xd, .ref h, .ref xk, .ref xl, .ref xw, .ref xp, .ref xs, .ref xr, .int 0, .int tl, .int ((sd * 1103515245) + 12345), .null]))] := hD
  refine lv_iload_n hx hb dX7_draw_15 rfl (lv_at hl 1 rfl) ?_
  refine lv_if_le (tgt := 31) hx hb dX7_draw_16 (by decide) (fun c => absurd c (by decide)) (fun _ => ?_)
  refine lv_aload_n hx hb dX7_draw_19 rfl (lv_at hl 0 rfl) ?_
  refine va_get (D := (dC, dI)) (ci := 7) (v := .int ((sd * 1103515245) + 12345)) (C := RX7) (T := TX7) (N := 13) hx hb hts hinX7 hown hK hP 0 rfl rfl 11 (by decide) k_0 (fun _ h9 => h9) rfl dX7_draw_20 ?_
  refine lv_bipush (v := 8) hx hb dX7_draw_23 (by decide) ?_
  refine lv_iushr (v := ((Int32.toUInt32 ((sd * 1103515245) + 12345) >>> (Int32.toUInt32 8 &&& Int32.toUInt32 31)).toInt32)) hx hb dX7_draw_25 rfl ?_
  refine lv_iload_n hx hb dX7_draw_26 rfl (lv_at hl 1 rfl) ?_
  refine lv_irem hx hb dX7_draw_27 (by decide) ?_
  refine lv_goto (tgt := 32) hx hb dX7_draw_28 (by decide) ?_
  have e_0 : (pfX7_draw_3_r sd) = (((Int32.toUInt32 ((sd * 1103515245) + 12345) >>> (Int32.toUInt32 8 &&& Int32.toUInt32 31)).toInt32) - ((Int32.toUInt32 ((sd * 1103515245) + 12345) >>> (Int32.toUInt32 8 &&& Int32.toUInt32 31)).toInt32) / 3 * 3) := by rw [pfX7_draw_3_r]
  have e_1 : (pfX7_draw_3_x_11 sd) = ((sd * 1103515245) + 12345) := by rw [pfX7_draw_3_x_11]
  have hP9 := hP.sub (ws' := [(x, .inr (7, [.ref xt, .ref xd, .ref h, .ref xk, .ref xl, .ref xw, .ref xp, .ref xs, .ref xr, .int 0, .int tl, .int ((sd * 1103515245) + 12345), .null]))]) [0] rfl
  have hD9 := hD.sub (ws' := [(x, .inr (7, [.ref xt, .ref xd, .ref h, .ref xk, .ref xl, .ref xw, .ref xp, .ref xs, .ref xr, .int 0, .int tl, .int ((sd * 1103515245) + 12345), .null]))]) [0] (by decide) rfl
  exact W.iret (v := (((Int32.toUInt32 ((sd * 1103515245) + 12345) >>> (Int32.toUInt32 8 &&& Int32.toUInt32 31)).toInt32) - ((Int32.toUInt32 ((sd * 1103515245) + 12345) >>> (Int32.toUInt32 8 &&& Int32.toUInt32 31)).toInt32) / 3 * 3)) hx hb hr (fun t ht hW => ⟨⟨(((Int32.toUInt32 ((sd * 1103515245) + 12345) >>> (Int32.toUInt32 8 &&& Int32.toUInt32 31)).toInt32) - ((Int32.toUInt32 ((sd * 1103515245) + 12345) >>> (Int32.toUInt32 8 &&& Int32.toUInt32 31)).toInt32) / 3 * 3), (), rfl, e_0.symm, by rw [ht, e_1]; exact hP9, va_K.moved hW.alike hK, (by rw [e_1]; exact hD9)⟩, hS.F ht⟩) hS.2.2 dX7_draw_32

def pfX7_draw_2_r (sd : Int32) : Int32 := (((Int32.toUInt32 ((sd * 1103515245) + 12345) >>> (Int32.toUInt32 8 &&& Int32.toUInt32 31)).toInt32) - ((Int32.toUInt32 ((sd * 1103515245) + 12345) >>> (Int32.toUInt32 8 &&& Int32.toUInt32 31)).toInt32) / 2 * 2)
def pfX7_draw_2_x_11 (sd : Int32) : Int32 := ((sd * 1103515245) + 12345)
set_option maxHeartbeats 4000000 in
set_option maxRecDepth 100000 in
theorem kkX7_draw_2 (l : Launch) (dC : Nat → ClassId) (dI : Nat → Nat → Nat) (cI cB cZ cR : ClassId) (sz : Nat) (x : Nat) (xt : Nat) (xd : Nat) (h : Nat) (xk : Nat) (xl : Nat) (xw : Nat) (xp : Nat) (xs : Nat) (xr : Nat) (tl : Int32) (sd : Int32) : Met l yX7_draw (.code yX7_draw cX7_draw 2 (some .int) :: wsL_law) ({ frames := 0, cells := 0, slots := 0, locals := 0 }) (zPc dC dI (zT cI cB cZ cR) [.ref x, .int 2] sz [(x, .inr (7, [.ref xt, .ref xd, .ref h, .ref xk, .ref xl, .ref xw, .ref xp, .ref xs, .ref xr, .int 0, .int tl, .int sd, .null]))]) (va_Qi (fun (r : Int32) (_ : Unit) => r = (pfX7_draw_2_r sd)) (fun _ : Unit => zB dC dI (zT cI cB cZ cR) (va_A [(x, .inr (7, [.ref xt, .ref xd, .ref h, .ref xk, .ref xl, .ref xw, .ref xp, .ref xs, .ref xr, .int 0, .int tl, .int sd, .null]))] sz) [(x, .inr (7, [.ref xt, .ref xd, .ref h, .ref xk, .ref xl, .ref xw, .ref xp, .ref xs, .ref xr, .int 0, .int tl, .int (pfX7_draw_2_x_11 sd), .null]))]) (va_A [(x, .inr (7, [.ref xt, .ref xd, .ref h, .ref xk, .ref xl, .ref xw, .ref xp, .ref xs, .ref xr, .int 0, .int tl, .int sd, .null]))] sz)) 0 0 (va_A [(x, .inr (7, [.ref xt, .ref xd, .ref h, .ref xk, .ref xl, .ref xw, .ref xp, .ref xs, .ref xr, .int 0, .int tl, .int sd, .null]))] sz) := by
  refine Met.ofW (cc := cX7_draw) (maxL := 2) (ret := (some .int)) (by decide) rfl ?_
  intro p e s m args below meth c s₁ B hml hv
  obtain ⟨rfl, hsz, hP, hK, hD0, hN⟩ := hv
  have hx := B.exec
  have hb := B.bytes
  have hr := B.returns
  have hts := atoms_spec (ws := (.code yX7_draw cX7_draw 2 (some .int) :: wsL_law)) B.pre
  have hown : s.vm.findClass RX7 = some m.cls := findClass_of_methodNamed B.named
  have hlocks := B.notSynchronized
  have hinX7 : ∀ w ∈ u_ws RX7 TX7 13, w ∈ (.code yX7_draw cX7_draw 2 (some .int) :: wsL_law) := fun w h => List.mem_cons_of_mem _ (inlX7 w h)
  have k_0 := hts (.fieldLink RX7 69 "RingMarks" "seed" "I") (List.mem_cons_of_mem _ wm_42)
  have k_1 := hts (.constant RX7 247 (1103515245)) (List.mem_cons_of_mem _ wm_1177)
  subst hsz
  have hD := hD0.self (sz := s.heap.size)
  generalize hAe : va_A [(x, .inr (7, [.ref xt, .ref xd, .ref h, .ref xk, .ref xl, .ref xw, .ref xp, .ref xs, .ref xr, .int 0, .int tl, .int sd, .null]))] s.heap.size = A at hD ⊢
  have hA : ∀ q : Nat, s.heap.size ≤ q → A q := fun q h => by rw [← hAe]; exact Or.inr h
  have hP : va_P (dC, dI) vwCl [(x, .inr (7, [.ref xt, .ref xd, .ref h, .ref xk, .ref xl, .ref xw, .ref xp, .ref xs, .ref xr, .int 0, .int tl, .int sd, .null]))] s.heap := hP
  have hl := lv_entry ([.ref x, .int 2]) (n := 2) (Nat.le_of_ble_eq_true rfl)
  rw [lg_entry_eq]
  generalize (lg_sl ([.ref x, .int 2]) ++ List.replicate (2 - (lg_sl ([.ref x, .int 2])).length) Slot.unset).toArray = ls at hl ⊢
  have hl : lv_has ls 2 [(0, .ref x), (1, .int 2)] := hl
  obtain ⟨H, hH⟩ : ∃ H, H = s.heap := ⟨_, rfl⟩
  rw [← hH] at hP ⊢
  have hS : va_S A s.heap H [] := by rw [hH]; exact va_S.rf
  refine lv_aload_n hx hb dX7_draw_0 rfl (lv_at hl 0 rfl) ?_
  refine lv_aload_n hx hb dX7_draw_1 rfl (lv_at hl 0 rfl) ?_
  refine va_get (D := (dC, dI)) (ci := 7) (v := .int sd) (C := RX7) (T := TX7) (N := 13) hx hb hts hinX7 hown hK hP 0 rfl rfl 11 (by decide) k_0 (fun _ h9 => h9) rfl dX7_draw_2 ?_
  refine lv_ldc (v := 1103515245) hx hb hown k_1 dX7_draw_5 ?_
  refine lv_imul hx hb dX7_draw_7 ?_
  refine lv_sipush (v := 12345) hx hb dX7_draw_8 (by decide) ?_
  refine lv_iadd hx hb dX7_draw_11 ?_
  refine va_put (D := (dC, dI)) (ci := 7) (v := .int ((sd * 1103515245) + 12345)) (ty := tyX7 11) (C := RX7) (T := TX7) (N := 13) hx hb hts hinX7 tyX7 tyX7_ok nmX7 hown hK hP hD hS 0 rfl rfl 11 (by decide) k_0 (fun _ h9 => h9) rfl (by decide +kernel) rfl rfl (Nat.le_of_ble_eq_true rfl) dX7_draw_12 (fun H locs hP hD hS => ?_)
  have hP : va_P (dC, dI) vwCl [(x, .inr (7, [.ref xt, .ref xd, .ref h, .ref xk, .ref xl, .ref xw, .ref xp, .ref xs, .ref xr, .int 0, .int tl, .int ((sd * 1103515245) + 12345), .null]))] H := hP
  have hD : va_D A [(x, .inr (7, [.ref xt, .ref xd, .ref h, .ref xk, .ref xl, .ref xw, .ref xp, .ref xs, .ref xr, .int 0, .int tl, .int ((sd * 1103515245) + 12345), .null]))] := hD
  refine lv_iload_n hx hb dX7_draw_15 rfl (lv_at hl 1 rfl) ?_
  refine lv_if_le (tgt := 31) hx hb dX7_draw_16 (by decide) (fun c => absurd c (by decide)) (fun _ => ?_)
  refine lv_aload_n hx hb dX7_draw_19 rfl (lv_at hl 0 rfl) ?_
  refine va_get (D := (dC, dI)) (ci := 7) (v := .int ((sd * 1103515245) + 12345)) (C := RX7) (T := TX7) (N := 13) hx hb hts hinX7 hown hK hP 0 rfl rfl 11 (by decide) k_0 (fun _ h9 => h9) rfl dX7_draw_20 ?_
  refine lv_bipush (v := 8) hx hb dX7_draw_23 (by decide) ?_
  refine lv_iushr (v := ((Int32.toUInt32 ((sd * 1103515245) + 12345) >>> (Int32.toUInt32 8 &&& Int32.toUInt32 31)).toInt32)) hx hb dX7_draw_25 rfl ?_
  refine lv_iload_n hx hb dX7_draw_26 rfl (lv_at hl 1 rfl) ?_
  refine lv_irem hx hb dX7_draw_27 (by decide) ?_
  refine lv_goto (tgt := 32) hx hb dX7_draw_28 (by decide) ?_
  have e_0 : (pfX7_draw_2_r sd) = (((Int32.toUInt32 ((sd * 1103515245) + 12345) >>> (Int32.toUInt32 8 &&& Int32.toUInt32 31)).toInt32) - ((Int32.toUInt32 ((sd * 1103515245) + 12345) >>> (Int32.toUInt32 8 &&& Int32.toUInt32 31)).toInt32) / 2 * 2) := by rw [pfX7_draw_2_r]
  have e_1 : (pfX7_draw_2_x_11 sd) = ((sd * 1103515245) + 12345) := by rw [pfX7_draw_2_x_11]
  have hP9 := hP.sub (ws' := [(x, .inr (7, [.ref xt, .ref xd, .ref h, .ref xk, .ref xl, .ref xw, .ref xp, .ref xs, .ref xr, .int 0, .int tl, .int ((sd * 1103515245) + 12345), .null]))]) [0] rfl
  have hD9 := hD.sub (ws' := [(x, .inr (7, [.ref xt, .ref xd, .ref h, .ref xk, .ref xl, .ref xw, .ref xp, .ref xs, .ref xr, .int 0, .int tl, .int ((sd * 1103515245) + 12345), .null]))]) [0] (by decide) rfl
  exact W.iret (v := (((Int32.toUInt32 ((sd * 1103515245) + 12345) >>> (Int32.toUInt32 8 &&& Int32.toUInt32 31)).toInt32) - ((Int32.toUInt32 ((sd * 1103515245) + 12345) >>> (Int32.toUInt32 8 &&& Int32.toUInt32 31)).toInt32) / 2 * 2)) hx hb hr (fun t ht hW => ⟨⟨(((Int32.toUInt32 ((sd * 1103515245) + 12345) >>> (Int32.toUInt32 8 &&& Int32.toUInt32 31)).toInt32) - ((Int32.toUInt32 ((sd * 1103515245) + 12345) >>> (Int32.toUInt32 8 &&& Int32.toUInt32 31)).toInt32) / 2 * 2), (), rfl, e_0.symm, by rw [ht, e_1]; exact hP9, va_K.moved hW.alike hK, (by rw [e_1]; exact hD9)⟩, hS.F ht⟩) hS.2.2 dX7_draw_32

def pfX7_draw_10_r (sd : Int32) : Int32 := (((Int32.toUInt32 ((sd * 1103515245) + 12345) >>> (Int32.toUInt32 8 &&& Int32.toUInt32 31)).toInt32) - ((Int32.toUInt32 ((sd * 1103515245) + 12345) >>> (Int32.toUInt32 8 &&& Int32.toUInt32 31)).toInt32) / 10 * 10)
def pfX7_draw_10_x_11 (sd : Int32) : Int32 := ((sd * 1103515245) + 12345)
set_option maxHeartbeats 4000000 in
set_option maxRecDepth 100000 in
theorem kkX7_draw_10 (l : Launch) (dC : Nat → ClassId) (dI : Nat → Nat → Nat) (cI cB cZ cR : ClassId) (sz : Nat) (x : Nat) (xt : Nat) (xd : Nat) (h : Nat) (xk : Nat) (xl : Nat) (xw : Nat) (xp : Nat) (xs : Nat) (xr : Nat) (tl : Int32) (sd : Int32) : Met l yX7_draw (.code yX7_draw cX7_draw 2 (some .int) :: wsL_law) ({ frames := 0, cells := 0, slots := 0, locals := 0 }) (zPc dC dI (zT cI cB cZ cR) [.ref x, .int 10] sz [(x, .inr (7, [.ref xt, .ref xd, .ref h, .ref xk, .ref xl, .ref xw, .ref xp, .ref xs, .ref xr, .int 0, .int tl, .int sd, .null]))]) (va_Qi (fun (r : Int32) (_ : Unit) => r = (pfX7_draw_10_r sd)) (fun _ : Unit => zB dC dI (zT cI cB cZ cR) (va_A [(x, .inr (7, [.ref xt, .ref xd, .ref h, .ref xk, .ref xl, .ref xw, .ref xp, .ref xs, .ref xr, .int 0, .int tl, .int sd, .null]))] sz) [(x, .inr (7, [.ref xt, .ref xd, .ref h, .ref xk, .ref xl, .ref xw, .ref xp, .ref xs, .ref xr, .int 0, .int tl, .int (pfX7_draw_10_x_11 sd), .null]))]) (va_A [(x, .inr (7, [.ref xt, .ref xd, .ref h, .ref xk, .ref xl, .ref xw, .ref xp, .ref xs, .ref xr, .int 0, .int tl, .int sd, .null]))] sz)) 0 0 (va_A [(x, .inr (7, [.ref xt, .ref xd, .ref h, .ref xk, .ref xl, .ref xw, .ref xp, .ref xs, .ref xr, .int 0, .int tl, .int sd, .null]))] sz) := by
  refine Met.ofW (cc := cX7_draw) (maxL := 2) (ret := (some .int)) (by decide) rfl ?_
  intro p e s m args below meth c s₁ B hml hv
  obtain ⟨rfl, hsz, hP, hK, hD0, hN⟩ := hv
  have hx := B.exec
  have hb := B.bytes
  have hr := B.returns
  have hts := atoms_spec (ws := (.code yX7_draw cX7_draw 2 (some .int) :: wsL_law)) B.pre
  have hown : s.vm.findClass RX7 = some m.cls := findClass_of_methodNamed B.named
  have hlocks := B.notSynchronized
  have hinX7 : ∀ w ∈ u_ws RX7 TX7 13, w ∈ (.code yX7_draw cX7_draw 2 (some .int) :: wsL_law) := fun w h => List.mem_cons_of_mem _ (inlX7 w h)
  have k_0 := hts (.fieldLink RX7 69 "RingMarks" "seed" "I") (List.mem_cons_of_mem _ wm_42)
  have k_1 := hts (.constant RX7 247 (1103515245)) (List.mem_cons_of_mem _ wm_1177)
  subst hsz
  have hD := hD0.self (sz := s.heap.size)
  generalize hAe : va_A [(x, .inr (7, [.ref xt, .ref xd, .ref h, .ref xk, .ref xl, .ref xw, .ref xp, .ref xs, .ref xr, .int 0, .int tl, .int sd, .null]))] s.heap.size = A at hD ⊢
  have hA : ∀ q : Nat, s.heap.size ≤ q → A q := fun q h => by rw [← hAe]; exact Or.inr h
  have hP : va_P (dC, dI) vwCl [(x, .inr (7, [.ref xt, .ref xd, .ref h, .ref xk, .ref xl, .ref xw, .ref xp, .ref xs, .ref xr, .int 0, .int tl, .int sd, .null]))] s.heap := hP
  have hl := lv_entry ([.ref x, .int 10]) (n := 2) (Nat.le_of_ble_eq_true rfl)
  rw [lg_entry_eq]
  generalize (lg_sl ([.ref x, .int 10]) ++ List.replicate (2 - (lg_sl ([.ref x, .int 10])).length) Slot.unset).toArray = ls at hl ⊢
  have hl : lv_has ls 2 [(0, .ref x), (1, .int 10)] := hl
  obtain ⟨H, hH⟩ : ∃ H, H = s.heap := ⟨_, rfl⟩
  rw [← hH] at hP ⊢
  have hS : va_S A s.heap H [] := by rw [hH]; exact va_S.rf
  refine lv_aload_n hx hb dX7_draw_0 rfl (lv_at hl 0 rfl) ?_
  refine lv_aload_n hx hb dX7_draw_1 rfl (lv_at hl 0 rfl) ?_
  refine va_get (D := (dC, dI)) (ci := 7) (v := .int sd) (C := RX7) (T := TX7) (N := 13) hx hb hts hinX7 hown hK hP 0 rfl rfl 11 (by decide) k_0 (fun _ h9 => h9) rfl dX7_draw_2 ?_
  refine lv_ldc (v := 1103515245) hx hb hown k_1 dX7_draw_5 ?_
  refine lv_imul hx hb dX7_draw_7 ?_
  refine lv_sipush (v := 12345) hx hb dX7_draw_8 (by decide) ?_
  refine lv_iadd hx hb dX7_draw_11 ?_
  refine va_put (D := (dC, dI)) (ci := 7) (v := .int ((sd * 1103515245) + 12345)) (ty := tyX7 11) (C := RX7) (T := TX7) (N := 13) hx hb hts hinX7 tyX7 tyX7_ok nmX7 hown hK hP hD hS 0 rfl rfl 11 (by decide) k_0 (fun _ h9 => h9) rfl (by decide +kernel) rfl rfl (Nat.le_of_ble_eq_true rfl) dX7_draw_12 (fun H locs hP hD hS => ?_)
  have hP : va_P (dC, dI) vwCl [(x, .inr (7, [.ref xt, .ref xd, .ref h, .ref xk, .ref xl, .ref xw, .ref xp, .ref xs, .ref xr, .int 0, .int tl, .int ((sd * 1103515245) + 12345), .null]))] H := hP
  have hD : va_D A [(x, .inr (7, [.ref xt, .ref xd, .ref h, .ref xk, .ref xl, .ref xw, .ref xp, .ref xs, .ref xr, .int 0, .int tl, .int ((sd * 1103515245) + 12345), .null]))] := hD
  refine lv_iload_n hx hb dX7_draw_15 rfl (lv_at hl 1 rfl) ?_
  refine lv_if_le (tgt := 31) hx hb dX7_draw_16 (by decide) (fun c => absurd c (by decide)) (fun _ => ?_)
  refine lv_aload_n hx hb dX7_draw_19 rfl (lv_at hl 0 rfl) ?_
  refine va_get (D := (dC, dI)) (ci := 7) (v := .int ((sd * 1103515245) + 12345)) (C := RX7) (T := TX7) (N := 13) hx hb hts hinX7 hown hK hP 0 rfl rfl 11 (by decide) k_0 (fun _ h9 => h9) rfl dX7_draw_20 ?_
  refine lv_bipush (v := 8) hx hb dX7_draw_23 (by decide) ?_
  refine lv_iushr (v := ((Int32.toUInt32 ((sd * 1103515245) + 12345) >>> (Int32.toUInt32 8 &&& Int32.toUInt32 31)).toInt32)) hx hb dX7_draw_25 rfl ?_
  refine lv_iload_n hx hb dX7_draw_26 rfl (lv_at hl 1 rfl) ?_
  refine lv_irem hx hb dX7_draw_27 (by decide) ?_
  refine lv_goto (tgt := 32) hx hb dX7_draw_28 (by decide) ?_
  have e_0 : (pfX7_draw_10_r sd) = (((Int32.toUInt32 ((sd * 1103515245) + 12345) >>> (Int32.toUInt32 8 &&& Int32.toUInt32 31)).toInt32) - ((Int32.toUInt32 ((sd * 1103515245) + 12345) >>> (Int32.toUInt32 8 &&& Int32.toUInt32 31)).toInt32) / 10 * 10) := by rw [pfX7_draw_10_r]
  have e_1 : (pfX7_draw_10_x_11 sd) = ((sd * 1103515245) + 12345) := by rw [pfX7_draw_10_x_11]
  have hP9 := hP.sub (ws' := [(x, .inr (7, [.ref xt, .ref xd, .ref h, .ref xk, .ref xl, .ref xw, .ref xp, .ref xs, .ref xr, .int 0, .int tl, .int ((sd * 1103515245) + 12345), .null]))]) [0] rfl
  have hD9 := hD.sub (ws' := [(x, .inr (7, [.ref xt, .ref xd, .ref h, .ref xk, .ref xl, .ref xw, .ref xp, .ref xs, .ref xr, .int 0, .int tl, .int ((sd * 1103515245) + 12345), .null]))]) [0] (by decide) rfl
  exact W.iret (v := (((Int32.toUInt32 ((sd * 1103515245) + 12345) >>> (Int32.toUInt32 8 &&& Int32.toUInt32 31)).toInt32) - ((Int32.toUInt32 ((sd * 1103515245) + 12345) >>> (Int32.toUInt32 8 &&& Int32.toUInt32 31)).toInt32) / 10 * 10)) hx hb hr (fun t ht hW => ⟨⟨(((Int32.toUInt32 ((sd * 1103515245) + 12345) >>> (Int32.toUInt32 8 &&& Int32.toUInt32 31)).toInt32) - ((Int32.toUInt32 ((sd * 1103515245) + 12345) >>> (Int32.toUInt32 8 &&& Int32.toUInt32 31)).toInt32) / 10 * 10), (), rfl, e_0.symm, by rw [ht, e_1]; exact hP9, va_K.moved hW.alike hK, (by rw [e_1]; exact hD9)⟩, hS.F ht⟩) hS.2.2 dX7_draw_32

set_option maxHeartbeats 4000000 in
set_option maxRecDepth 100000 in
theorem kkX0_clear_g (l : Launch) (dC : Nat → ClassId) (dI : Nat → Nat → Nat) (cI cB cZ cR : ClassId) (sz : Nat) (xd : Nat) (l0 : Nat) (z0 : Nat) (cs : Int32) : Met l yX0_clear (.code yX0_clear cX0_clear 1 none :: wsL_law) ({ frames := 0, cells := 0, slots := 0, locals := 0 }) (zPc dC dI (zT cI cB cZ cR) [.ref xd] sz [(xd, .inr (0, [.ref l0, .ref z0, .int cs]))]) (va_Qv (fun _ : Unit => True) (fun _ : Unit => zB dC dI (zT cI cB cZ cR) (va_A [(xd, .inr (0, [.ref l0, .ref z0, .int cs]))] sz) [(xd, .inr (0, [.ref l0, .ref z0, .int 0]))]) (va_A [(xd, .inr (0, [.ref l0, .ref z0, .int cs]))] sz)) 0 0 (va_A [(xd, .inr (0, [.ref l0, .ref z0, .int cs]))] sz) := by
  refine Met.ofW (cc := cX0_clear) (maxL := 1) (ret := none) (by decide) rfl ?_
  intro p e s m args below meth c s₁ B hml hv
  obtain ⟨rfl, hsz, hP, hK, hD0, hN⟩ := hv
  have hx := B.exec
  have hb := B.bytes
  have hr := B.returns
  have hts := atoms_spec (ws := (.code yX0_clear cX0_clear 1 none :: wsL_law)) B.pre
  have hown : s.vm.findClass RX0 = some m.cls := findClass_of_methodNamed B.named
  have hlocks := B.notSynchronized
  have hinX0 : ∀ w ∈ u_ws RX0 TX0 3, w ∈ (.code yX0_clear cX0_clear 1 none :: wsL_law) := fun w h => List.mem_cons_of_mem _ (inlX0 w h)
  have k_0 := hts (.fieldLink RX0 19 "RingMarks$Chain" "size" "I") (List.mem_cons_of_mem _ wm_56)
  subst hsz
  have hD := hD0.self (sz := s.heap.size)
  generalize hAe : va_A [(xd, .inr (0, [.ref l0, .ref z0, .int cs]))] s.heap.size = A at hD ⊢
  have hA : ∀ q : Nat, s.heap.size ≤ q → A q := fun q h => by rw [← hAe]; exact Or.inr h
  have hP : va_P (dC, dI) vwCl [(xd, .inr (0, [.ref l0, .ref z0, .int cs]))] s.heap := hP
  have hl := lv_entry ([.ref xd]) (n := 1) (Nat.le_of_ble_eq_true rfl)
  rw [lg_entry_eq]
  generalize (lg_sl ([.ref xd]) ++ List.replicate (1 - (lg_sl ([.ref xd])).length) Slot.unset).toArray = ls at hl ⊢
  have hl : lv_has ls 1 [(0, .ref xd)] := hl
  obtain ⟨H, hH⟩ : ∃ H, H = s.heap := ⟨_, rfl⟩
  rw [← hH] at hP ⊢
  have hS : va_S A s.heap H [] := by rw [hH]; exact va_S.rf
  refine lv_aload_n hx hb dX0_clear_0 rfl (lv_at hl 0 rfl) ?_
  refine lv_iconst (v := 0) hx hb dX0_clear_1 (by decide) ?_
  refine va_put (D := (dC, dI)) (ci := 0) (v := .int 0) (ty := tyX0 2) (C := RX0) (T := TX0) (N := 3) hx hb hts hinX0 tyX0 tyX0_ok nmX0 hown hK hP hD hS 0 rfl rfl 2 (by decide) k_0 (fun _ h9 => h9) rfl (by decide +kernel) rfl rfl (Nat.le_of_ble_eq_true rfl) dX0_clear_2 (fun H locs hP hD hS => ?_)
  have hP : va_P (dC, dI) vwCl [(xd, .inr (0, [.ref l0, .ref z0, .int 0]))] H := hP
  have hD : va_D A [(xd, .inr (0, [.ref l0, .ref z0, .int 0]))] := hD
  have hP9 := hP.sub (ws' := [(xd, .inr (0, [.ref l0, .ref z0, .int 0]))]) [0] rfl
  have hD9 := hD.sub (ws' := [(xd, .inr (0, [.ref l0, .ref z0, .int 0]))]) [0] (by decide) rfl
  exact W.vret hx hb hr (fun t ht hW => ⟨⟨(), rfl, trivial, by rw [ht]; exact hP9, va_K.moved hW.alike hK, hD9⟩, hS.F ht⟩) hS.2.2 dX0_clear_5

set_option maxHeartbeats 4000000 in
set_option maxRecDepth 100000 in
theorem kkX0_addPart_0_0 (l : Launch) (dC : Nat → ClassId) (dI : Nat → Nat → Nat) (cI cB cZ cR : ClassId) (sz : Nat) (xd : Nat) (l0 : Nat) (z0 : Nat) (n0 : Int32) (n1 : Int32) (n2 : Int32) (n3 : Int32) (n4 : Int32) (n5 : Int32) (n6 : Int32) (n7 : Int32) (w0 : Int32) (w1 : Int32) (w2 : Int32) (w3 : Int32) (w4 : Int32) (w5 : Int32) (w6 : Int32) (w7 : Int32) : Met l yX0_addPart (.code yX0_addPart cX0_addPart 3 none :: wsL_law) ({ frames := 0, cells := 0, slots := 0, locals := 0 }) (zPc dC dI (zT cI cB cZ cR) [.ref xd, .int 4, .int 0] sz [(xd, .inr (0, [.ref l0, .ref z0, .int 0])), (l0, .inl (cI, 8, .inl (gl [n0, n1, n2, n3, n4, n5, n6, n7]))), (z0, .inl (cZ, 8, .inl (gl [w0, w1, w2, w3, w4, w5, w6, w7])))]) (va_Qv (fun _ : Unit => True) (fun _ : Unit => zB dC dI (zT cI cB cZ cR) (va_A [(xd, .inr (0, [.ref l0, .ref z0, .int 0])), (l0, .inl (cI, 8, .inl (gl [n0, n1, n2, n3, n4, n5, n6, n7]))), (z0, .inl (cZ, 8, .inl (gl [w0, w1, w2, w3, w4, w5, w6, w7])))] sz) [(xd, .inr (0, [.ref l0, .ref z0, .int 1])), (l0, .inl (cI, 8, .inl (gl [4, n1, n2, n3, n4, n5, n6, n7]))), (z0, .inl (cZ, 8, .inl (gl [0, w1, w2, w3, w4, w5, w6, w7])))]) (va_A [(xd, .inr (0, [.ref l0, .ref z0, .int 0])), (l0, .inl (cI, 8, .inl (gl [n0, n1, n2, n3, n4, n5, n6, n7]))), (z0, .inl (cZ, 8, .inl (gl [w0, w1, w2, w3, w4, w5, w6, w7])))] sz)) 0 0 (va_A [(xd, .inr (0, [.ref l0, .ref z0, .int 0])), (l0, .inl (cI, 8, .inl (gl [n0, n1, n2, n3, n4, n5, n6, n7]))), (z0, .inl (cZ, 8, .inl (gl [w0, w1, w2, w3, w4, w5, w6, w7])))] sz) := by
  refine Met.ofW (cc := cX0_addPart) (maxL := 3) (ret := none) (by decide) rfl ?_
  intro p e s m args below meth c s₁ B hml hv
  obtain ⟨rfl, hsz, hP, hK, hD0, hN⟩ := hv
  have hx := B.exec
  have hb := B.bytes
  have hr := B.returns
  have hts := atoms_spec (ws := (.code yX0_addPart cX0_addPart 3 none :: wsL_law)) B.pre
  have hown : s.vm.findClass RX0 = some m.cls := findClass_of_methodNamed B.named
  have hlocks := B.notSynchronized
  have hinX0 : ∀ w ∈ u_ws RX0 TX0 3, w ∈ (.code yX0_addPart cX0_addPart 3 none :: wsL_law) := fun w h => List.mem_cons_of_mem _ (inlX0 w h)
  have k_0 := hts (.fieldLink RX0 19 "RingMarks$Chain" "size" "I") (List.mem_cons_of_mem _ wm_56)
  have k_1 := hts (.fieldLink RX0 11 "RingMarks$Chain" "lengths" "[I") (List.mem_cons_of_mem _ wm_53)
  have k_2 := hts (.fieldLink RX0 15 "RingMarks$Chain" "writes" "[Z") (List.mem_cons_of_mem _ wm_55)
  subst hsz
  have hD := hD0.self (sz := s.heap.size)
  generalize hAe : va_A [(xd, .inr (0, [.ref l0, .ref z0, .int 0])), (l0, .inl (cI, 8, .inl (gl [n0, n1, n2, n3, n4, n5, n6, n7]))), (z0, .inl (cZ, 8, .inl (gl [w0, w1, w2, w3, w4, w5, w6, w7])))] s.heap.size = A at hD ⊢
  have hA : ∀ q : Nat, s.heap.size ≤ q → A q := fun q h => by rw [← hAe]; exact Or.inr h
  have hP : va_P (dC, dI) vwCl [(xd, .inr (0, [.ref l0, .ref z0, .int 0])), (l0, .inl (cI, 8, .inl (gl [n0, n1, n2, n3, n4, n5, n6, n7]))), (z0, .inl (cZ, 8, .inl (gl [w0, w1, w2, w3, w4, w5, w6, w7])))] s.heap := hP
  have hl := lv_entry ([.ref xd, .int 4, .int 0]) (n := 3) (Nat.le_of_ble_eq_true rfl)
  rw [lg_entry_eq]
  generalize (lg_sl ([.ref xd, .int 4, .int 0]) ++ List.replicate (3 - (lg_sl ([.ref xd, .int 4, .int 0])).length) Slot.unset).toArray = ls at hl ⊢
  have hl : lv_has ls 3 [(0, .ref xd), (1, .int 4), (2, .int 0)] := hl
  obtain ⟨H, hH⟩ : ∃ H, H = s.heap := ⟨_, rfl⟩
  rw [← hH] at hP ⊢
  have hS : va_S A s.heap H [] := by rw [hH]; exact va_S.rf
  refine lv_aload_n hx hb dX0_addPart_0 rfl (lv_at hl 0 rfl) ?_
  refine va_get (D := (dC, dI)) (ci := 0) (v := .int 0) (C := RX0) (T := TX0) (N := 3) hx hb hts hinX0 hown hK hP 0 rfl rfl 2 (by decide) k_0 (fun _ h9 => h9) rfl dX0_addPart_1 ?_
  refine lv_bipush (v := 8) hx hb dX0_addPart_4 (by decide) ?_
  refine lv_icmp_ge (tgt := 39) hx hb dX0_addPart_6 (by decide) (fun c => absurd c (by decide)) (fun _ => ?_)
  refine lv_aload_n hx hb dX0_addPart_9 rfl (lv_at hl 0 rfl) ?_
  refine va_get (D := (dC, dI)) (ci := 0) (v := .ref l0) (C := RX0) (T := TX0) (N := 3) hx hb hts hinX0 hown hK hP 0 rfl rfl 0 (by decide) k_1 (fun _ h9 => h9) rfl dX0_addPart_10 ?_
  refine lv_aload_n hx hb dX0_addPart_13 rfl (lv_at hl 0 rfl) ?_
  refine va_get (D := (dC, dI)) (ci := 0) (v := .int 0) (C := RX0) (T := TX0) (N := 3) hx hb hts hinX0 hown hK hP 0 rfl rfl 2 (by decide) k_0 (fun _ h9 => h9) rfl dX0_addPart_14 ?_
  refine lv_iload_n hx hb dX0_addPart_17 rfl (lv_at hl 1 rfl) ?_
  refine za_iast (f' := (gl [4, n1, n2, n3, n4, n5, n6, n7])) hx hb hK hP hD hS 1 0 rfl rfl (zin tn_0 (Nat.le_of_ble_eq_true rfl)) (zup_gl tn_0 (Nat.le_of_ble_eq_true rfl) rfl) dX0_addPart_18 (fun H locs hP hD hS => ?_)
  have hP : va_P (dC, dI) vwCl [(xd, .inr (0, [.ref l0, .ref z0, .int 0])), (l0, .inl (cI, 8, .inl (gl [4, n1, n2, n3, n4, n5, n6, n7]))), (z0, .inl (cZ, 8, .inl (gl [w0, w1, w2, w3, w4, w5, w6, w7])))] H := hP
  have hD : va_D A [(xd, .inr (0, [.ref l0, .ref z0, .int 0])), (l0, .inl (cI, 8, .inl (gl [4, n1, n2, n3, n4, n5, n6, n7]))), (z0, .inl (cZ, 8, .inl (gl [w0, w1, w2, w3, w4, w5, w6, w7])))] := hD
  refine lv_aload_n hx hb dX0_addPart_19 rfl (lv_at hl 0 rfl) ?_
  refine va_get (D := (dC, dI)) (ci := 0) (v := .ref z0) (C := RX0) (T := TX0) (N := 3) hx hb hts hinX0 hown hK hP 0 rfl rfl 1 (by decide) k_2 (fun _ h9 => h9) rfl dX0_addPart_20 ?_
  refine lv_aload_n hx hb dX0_addPart_23 rfl (lv_at hl 0 rfl) ?_
  refine va_get (D := (dC, dI)) (ci := 0) (v := .int 0) (C := RX0) (T := TX0) (N := 3) hx hb hts hinX0 hown hK hP 0 rfl rfl 2 (by decide) k_0 (fun _ h9 => h9) rfl dX0_addPart_24 ?_
  refine lv_iload_n hx hb dX0_addPart_27 rfl (lv_at hl 2 rfl) ?_
  refine za_zast (f' := (gl [0, w1, w2, w3, w4, w5, w6, w7])) hx hb hK hP hD hS 2 2 rfl rfl (zin tn_0 (Nat.le_of_ble_eq_true rfl)) (zup_glb tn_0 (by decide) (Nat.le_of_ble_eq_true rfl) rfl) dX0_addPart_28 (fun H locs hP hD hS => ?_)
  have hP : va_P (dC, dI) vwCl [(xd, .inr (0, [.ref l0, .ref z0, .int 0])), (l0, .inl (cI, 8, .inl (gl [4, n1, n2, n3, n4, n5, n6, n7]))), (z0, .inl (cZ, 8, .inl (gl [0, w1, w2, w3, w4, w5, w6, w7])))] H := hP
  have hD : va_D A [(xd, .inr (0, [.ref l0, .ref z0, .int 0])), (l0, .inl (cI, 8, .inl (gl [4, n1, n2, n3, n4, n5, n6, n7]))), (z0, .inl (cZ, 8, .inl (gl [0, w1, w2, w3, w4, w5, w6, w7])))] := hD
  refine lv_aload_n hx hb dX0_addPart_29 rfl (lv_at hl 0 rfl) ?_
  refine lv_dup hx hb dX0_addPart_30 rfl ?_
  refine va_get (D := (dC, dI)) (ci := 0) (v := .int 0) (C := RX0) (T := TX0) (N := 3) hx hb hts hinX0 hown hK hP 0 rfl rfl 2 (by decide) k_0 (fun _ h9 => h9) rfl dX0_addPart_31 ?_
  refine lv_iconst (v := 1) hx hb dX0_addPart_34 (by decide) ?_
  refine lv_iadd hx hb dX0_addPart_35 ?_
  refine tp (y := 1) (by decide) ?_
  refine va_put (D := (dC, dI)) (ci := 0) (v := .int 1) (ty := tyX0 2) (C := RX0) (T := TX0) (N := 3) hx hb hts hinX0 tyX0 tyX0_ok nmX0 hown hK hP hD hS 0 rfl rfl 2 (by decide) k_0 (fun _ h9 => h9) rfl (by decide +kernel) rfl rfl (Nat.le_of_ble_eq_true rfl) dX0_addPart_36 (fun H locs hP hD hS => ?_)
  have hP : va_P (dC, dI) vwCl [(xd, .inr (0, [.ref l0, .ref z0, .int 1])), (l0, .inl (cI, 8, .inl (gl [4, n1, n2, n3, n4, n5, n6, n7]))), (z0, .inl (cZ, 8, .inl (gl [0, w1, w2, w3, w4, w5, w6, w7])))] H := hP
  have hD : va_D A [(xd, .inr (0, [.ref l0, .ref z0, .int 1])), (l0, .inl (cI, 8, .inl (gl [4, n1, n2, n3, n4, n5, n6, n7]))), (z0, .inl (cZ, 8, .inl (gl [0, w1, w2, w3, w4, w5, w6, w7])))] := hD
  have hP9 := hP.sub (ws' := [(xd, .inr (0, [.ref l0, .ref z0, .int 1])), (l0, .inl (cI, 8, .inl (gl [4, n1, n2, n3, n4, n5, n6, n7]))), (z0, .inl (cZ, 8, .inl (gl [0, w1, w2, w3, w4, w5, w6, w7])))]) [0, 1, 2] rfl
  have hD9 := hD.sub (ws' := [(xd, .inr (0, [.ref l0, .ref z0, .int 1])), (l0, .inl (cI, 8, .inl (gl [4, n1, n2, n3, n4, n5, n6, n7]))), (z0, .inl (cZ, 8, .inl (gl [0, w1, w2, w3, w4, w5, w6, w7])))]) [0, 1, 2] (by decide) rfl
  exact W.vret hx hb hr (fun t ht hW => ⟨⟨(), rfl, trivial, by rw [ht]; exact hP9, va_K.moved hW.alike hK, hD9⟩, hS.F ht⟩) hS.2.2 dX0_addPart_39

set_option maxHeartbeats 4000000 in
set_option maxRecDepth 100000 in
theorem kkX0_addPart_1_0 (l : Launch) (dC : Nat → ClassId) (dI : Nat → Nat → Nat) (cI cB cZ cR : ClassId) (sz : Nat) (xd : Nat) (l0 : Nat) (z0 : Nat) (n0 : Int32) (n1 : Int32) (n2 : Int32) (n3 : Int32) (n4 : Int32) (n5 : Int32) (n6 : Int32) (n7 : Int32) (w0 : Int32) (w1 : Int32) (w2 : Int32) (w3 : Int32) (w4 : Int32) (w5 : Int32) (w6 : Int32) (w7 : Int32) : Met l yX0_addPart (.code yX0_addPart cX0_addPart 3 none :: wsL_law) ({ frames := 0, cells := 0, slots := 0, locals := 0 }) (zPc dC dI (zT cI cB cZ cR) [.ref xd, .int 4, .int 0] sz [(xd, .inr (0, [.ref l0, .ref z0, .int 1])), (l0, .inl (cI, 8, .inl (gl [n0, n1, n2, n3, n4, n5, n6, n7]))), (z0, .inl (cZ, 8, .inl (gl [w0, w1, w2, w3, w4, w5, w6, w7])))]) (va_Qv (fun _ : Unit => True) (fun _ : Unit => zB dC dI (zT cI cB cZ cR) (va_A [(xd, .inr (0, [.ref l0, .ref z0, .int 1])), (l0, .inl (cI, 8, .inl (gl [n0, n1, n2, n3, n4, n5, n6, n7]))), (z0, .inl (cZ, 8, .inl (gl [w0, w1, w2, w3, w4, w5, w6, w7])))] sz) [(xd, .inr (0, [.ref l0, .ref z0, .int 2])), (l0, .inl (cI, 8, .inl (gl [n0, 4, n2, n3, n4, n5, n6, n7]))), (z0, .inl (cZ, 8, .inl (gl [w0, 0, w2, w3, w4, w5, w6, w7])))]) (va_A [(xd, .inr (0, [.ref l0, .ref z0, .int 1])), (l0, .inl (cI, 8, .inl (gl [n0, n1, n2, n3, n4, n5, n6, n7]))), (z0, .inl (cZ, 8, .inl (gl [w0, w1, w2, w3, w4, w5, w6, w7])))] sz)) 0 0 (va_A [(xd, .inr (0, [.ref l0, .ref z0, .int 1])), (l0, .inl (cI, 8, .inl (gl [n0, n1, n2, n3, n4, n5, n6, n7]))), (z0, .inl (cZ, 8, .inl (gl [w0, w1, w2, w3, w4, w5, w6, w7])))] sz) := by
  refine Met.ofW (cc := cX0_addPart) (maxL := 3) (ret := none) (by decide) rfl ?_
  intro p e s m args below meth c s₁ B hml hv
  obtain ⟨rfl, hsz, hP, hK, hD0, hN⟩ := hv
  have hx := B.exec
  have hb := B.bytes
  have hr := B.returns
  have hts := atoms_spec (ws := (.code yX0_addPart cX0_addPart 3 none :: wsL_law)) B.pre
  have hown : s.vm.findClass RX0 = some m.cls := findClass_of_methodNamed B.named
  have hlocks := B.notSynchronized
  have hinX0 : ∀ w ∈ u_ws RX0 TX0 3, w ∈ (.code yX0_addPart cX0_addPart 3 none :: wsL_law) := fun w h => List.mem_cons_of_mem _ (inlX0 w h)
  have k_0 := hts (.fieldLink RX0 19 "RingMarks$Chain" "size" "I") (List.mem_cons_of_mem _ wm_56)
  have k_1 := hts (.fieldLink RX0 11 "RingMarks$Chain" "lengths" "[I") (List.mem_cons_of_mem _ wm_53)
  have k_2 := hts (.fieldLink RX0 15 "RingMarks$Chain" "writes" "[Z") (List.mem_cons_of_mem _ wm_55)
  subst hsz
  have hD := hD0.self (sz := s.heap.size)
  generalize hAe : va_A [(xd, .inr (0, [.ref l0, .ref z0, .int 1])), (l0, .inl (cI, 8, .inl (gl [n0, n1, n2, n3, n4, n5, n6, n7]))), (z0, .inl (cZ, 8, .inl (gl [w0, w1, w2, w3, w4, w5, w6, w7])))] s.heap.size = A at hD ⊢
  have hA : ∀ q : Nat, s.heap.size ≤ q → A q := fun q h => by rw [← hAe]; exact Or.inr h
  have hP : va_P (dC, dI) vwCl [(xd, .inr (0, [.ref l0, .ref z0, .int 1])), (l0, .inl (cI, 8, .inl (gl [n0, n1, n2, n3, n4, n5, n6, n7]))), (z0, .inl (cZ, 8, .inl (gl [w0, w1, w2, w3, w4, w5, w6, w7])))] s.heap := hP
  have hl := lv_entry ([.ref xd, .int 4, .int 0]) (n := 3) (Nat.le_of_ble_eq_true rfl)
  rw [lg_entry_eq]
  generalize (lg_sl ([.ref xd, .int 4, .int 0]) ++ List.replicate (3 - (lg_sl ([.ref xd, .int 4, .int 0])).length) Slot.unset).toArray = ls at hl ⊢
  have hl : lv_has ls 3 [(0, .ref xd), (1, .int 4), (2, .int 0)] := hl
  obtain ⟨H, hH⟩ : ∃ H, H = s.heap := ⟨_, rfl⟩
  rw [← hH] at hP ⊢
  have hS : va_S A s.heap H [] := by rw [hH]; exact va_S.rf
  refine lv_aload_n hx hb dX0_addPart_0 rfl (lv_at hl 0 rfl) ?_
  refine va_get (D := (dC, dI)) (ci := 0) (v := .int 1) (C := RX0) (T := TX0) (N := 3) hx hb hts hinX0 hown hK hP 0 rfl rfl 2 (by decide) k_0 (fun _ h9 => h9) rfl dX0_addPart_1 ?_
  refine lv_bipush (v := 8) hx hb dX0_addPart_4 (by decide) ?_
  refine lv_icmp_ge (tgt := 39) hx hb dX0_addPart_6 (by decide) (fun c => absurd c (by decide)) (fun _ => ?_)
  refine lv_aload_n hx hb dX0_addPart_9 rfl (lv_at hl 0 rfl) ?_
  refine va_get (D := (dC, dI)) (ci := 0) (v := .ref l0) (C := RX0) (T := TX0) (N := 3) hx hb hts hinX0 hown hK hP 0 rfl rfl 0 (by decide) k_1 (fun _ h9 => h9) rfl dX0_addPart_10 ?_
  refine lv_aload_n hx hb dX0_addPart_13 rfl (lv_at hl 0 rfl) ?_
  refine va_get (D := (dC, dI)) (ci := 0) (v := .int 1) (C := RX0) (T := TX0) (N := 3) hx hb hts hinX0 hown hK hP 0 rfl rfl 2 (by decide) k_0 (fun _ h9 => h9) rfl dX0_addPart_14 ?_
  refine lv_iload_n hx hb dX0_addPart_17 rfl (lv_at hl 1 rfl) ?_
  refine za_iast (f' := (gl [n0, 4, n2, n3, n4, n5, n6, n7])) hx hb hK hP hD hS 1 0 rfl rfl (zin tn_1 (Nat.le_of_ble_eq_true rfl)) (zup_gl tn_1 (Nat.le_of_ble_eq_true rfl) rfl) dX0_addPart_18 (fun H locs hP hD hS => ?_)
  have hP : va_P (dC, dI) vwCl [(xd, .inr (0, [.ref l0, .ref z0, .int 1])), (l0, .inl (cI, 8, .inl (gl [n0, 4, n2, n3, n4, n5, n6, n7]))), (z0, .inl (cZ, 8, .inl (gl [w0, w1, w2, w3, w4, w5, w6, w7])))] H := hP
  have hD : va_D A [(xd, .inr (0, [.ref l0, .ref z0, .int 1])), (l0, .inl (cI, 8, .inl (gl [n0, 4, n2, n3, n4, n5, n6, n7]))), (z0, .inl (cZ, 8, .inl (gl [w0, w1, w2, w3, w4, w5, w6, w7])))] := hD
  refine lv_aload_n hx hb dX0_addPart_19 rfl (lv_at hl 0 rfl) ?_
  refine va_get (D := (dC, dI)) (ci := 0) (v := .ref z0) (C := RX0) (T := TX0) (N := 3) hx hb hts hinX0 hown hK hP 0 rfl rfl 1 (by decide) k_2 (fun _ h9 => h9) rfl dX0_addPart_20 ?_
  refine lv_aload_n hx hb dX0_addPart_23 rfl (lv_at hl 0 rfl) ?_
  refine va_get (D := (dC, dI)) (ci := 0) (v := .int 1) (C := RX0) (T := TX0) (N := 3) hx hb hts hinX0 hown hK hP 0 rfl rfl 2 (by decide) k_0 (fun _ h9 => h9) rfl dX0_addPart_24 ?_
  refine lv_iload_n hx hb dX0_addPart_27 rfl (lv_at hl 2 rfl) ?_
  refine za_zast (f' := (gl [w0, 0, w2, w3, w4, w5, w6, w7])) hx hb hK hP hD hS 2 2 rfl rfl (zin tn_1 (Nat.le_of_ble_eq_true rfl)) (zup_glb tn_1 (by decide) (Nat.le_of_ble_eq_true rfl) rfl) dX0_addPart_28 (fun H locs hP hD hS => ?_)
  have hP : va_P (dC, dI) vwCl [(xd, .inr (0, [.ref l0, .ref z0, .int 1])), (l0, .inl (cI, 8, .inl (gl [n0, 4, n2, n3, n4, n5, n6, n7]))), (z0, .inl (cZ, 8, .inl (gl [w0, 0, w2, w3, w4, w5, w6, w7])))] H := hP
  have hD : va_D A [(xd, .inr (0, [.ref l0, .ref z0, .int 1])), (l0, .inl (cI, 8, .inl (gl [n0, 4, n2, n3, n4, n5, n6, n7]))), (z0, .inl (cZ, 8, .inl (gl [w0, 0, w2, w3, w4, w5, w6, w7])))] := hD
  refine lv_aload_n hx hb dX0_addPart_29 rfl (lv_at hl 0 rfl) ?_
  refine lv_dup hx hb dX0_addPart_30 rfl ?_
  refine va_get (D := (dC, dI)) (ci := 0) (v := .int 1) (C := RX0) (T := TX0) (N := 3) hx hb hts hinX0 hown hK hP 0 rfl rfl 2 (by decide) k_0 (fun _ h9 => h9) rfl dX0_addPart_31 ?_
  refine lv_iconst (v := 1) hx hb dX0_addPart_34 (by decide) ?_
  refine lv_iadd hx hb dX0_addPart_35 ?_
  refine tp (y := 2) (by decide) ?_
  refine va_put (D := (dC, dI)) (ci := 0) (v := .int 2) (ty := tyX0 2) (C := RX0) (T := TX0) (N := 3) hx hb hts hinX0 tyX0 tyX0_ok nmX0 hown hK hP hD hS 0 rfl rfl 2 (by decide) k_0 (fun _ h9 => h9) rfl (by decide +kernel) rfl rfl (Nat.le_of_ble_eq_true rfl) dX0_addPart_36 (fun H locs hP hD hS => ?_)
  have hP : va_P (dC, dI) vwCl [(xd, .inr (0, [.ref l0, .ref z0, .int 2])), (l0, .inl (cI, 8, .inl (gl [n0, 4, n2, n3, n4, n5, n6, n7]))), (z0, .inl (cZ, 8, .inl (gl [w0, 0, w2, w3, w4, w5, w6, w7])))] H := hP
  have hD : va_D A [(xd, .inr (0, [.ref l0, .ref z0, .int 2])), (l0, .inl (cI, 8, .inl (gl [n0, 4, n2, n3, n4, n5, n6, n7]))), (z0, .inl (cZ, 8, .inl (gl [w0, 0, w2, w3, w4, w5, w6, w7])))] := hD
  have hP9 := hP.sub (ws' := [(xd, .inr (0, [.ref l0, .ref z0, .int 2])), (l0, .inl (cI, 8, .inl (gl [n0, 4, n2, n3, n4, n5, n6, n7]))), (z0, .inl (cZ, 8, .inl (gl [w0, 0, w2, w3, w4, w5, w6, w7])))]) [0, 1, 2] rfl
  have hD9 := hD.sub (ws' := [(xd, .inr (0, [.ref l0, .ref z0, .int 2])), (l0, .inl (cI, 8, .inl (gl [n0, 4, n2, n3, n4, n5, n6, n7]))), (z0, .inl (cZ, 8, .inl (gl [w0, 0, w2, w3, w4, w5, w6, w7])))]) [0, 1, 2] (by decide) rfl
  exact W.vret hx hb hr (fun t ht hW => ⟨⟨(), rfl, trivial, by rw [ht]; exact hP9, va_K.moved hW.alike hK, hD9⟩, hS.F ht⟩) hS.2.2 dX0_addPart_39

set_option maxHeartbeats 4000000 in
set_option maxRecDepth 100000 in
theorem kkX0_addPart_2_0 (l : Launch) (dC : Nat → ClassId) (dI : Nat → Nat → Nat) (cI cB cZ cR : ClassId) (sz : Nat) (xd : Nat) (l0 : Nat) (z0 : Nat) (n0 : Int32) (n1 : Int32) (n2 : Int32) (n3 : Int32) (n4 : Int32) (n5 : Int32) (n6 : Int32) (n7 : Int32) (w0 : Int32) (w1 : Int32) (w2 : Int32) (w3 : Int32) (w4 : Int32) (w5 : Int32) (w6 : Int32) (w7 : Int32) : Met l yX0_addPart (.code yX0_addPart cX0_addPart 3 none :: wsL_law) ({ frames := 0, cells := 0, slots := 0, locals := 0 }) (zPc dC dI (zT cI cB cZ cR) [.ref xd, .int 4, .int 0] sz [(xd, .inr (0, [.ref l0, .ref z0, .int 2])), (l0, .inl (cI, 8, .inl (gl [n0, n1, n2, n3, n4, n5, n6, n7]))), (z0, .inl (cZ, 8, .inl (gl [w0, w1, w2, w3, w4, w5, w6, w7])))]) (va_Qv (fun _ : Unit => True) (fun _ : Unit => zB dC dI (zT cI cB cZ cR) (va_A [(xd, .inr (0, [.ref l0, .ref z0, .int 2])), (l0, .inl (cI, 8, .inl (gl [n0, n1, n2, n3, n4, n5, n6, n7]))), (z0, .inl (cZ, 8, .inl (gl [w0, w1, w2, w3, w4, w5, w6, w7])))] sz) [(xd, .inr (0, [.ref l0, .ref z0, .int 3])), (l0, .inl (cI, 8, .inl (gl [n0, n1, 4, n3, n4, n5, n6, n7]))), (z0, .inl (cZ, 8, .inl (gl [w0, w1, 0, w3, w4, w5, w6, w7])))]) (va_A [(xd, .inr (0, [.ref l0, .ref z0, .int 2])), (l0, .inl (cI, 8, .inl (gl [n0, n1, n2, n3, n4, n5, n6, n7]))), (z0, .inl (cZ, 8, .inl (gl [w0, w1, w2, w3, w4, w5, w6, w7])))] sz)) 0 0 (va_A [(xd, .inr (0, [.ref l0, .ref z0, .int 2])), (l0, .inl (cI, 8, .inl (gl [n0, n1, n2, n3, n4, n5, n6, n7]))), (z0, .inl (cZ, 8, .inl (gl [w0, w1, w2, w3, w4, w5, w6, w7])))] sz) := by
  refine Met.ofW (cc := cX0_addPart) (maxL := 3) (ret := none) (by decide) rfl ?_
  intro p e s m args below meth c s₁ B hml hv
  obtain ⟨rfl, hsz, hP, hK, hD0, hN⟩ := hv
  have hx := B.exec
  have hb := B.bytes
  have hr := B.returns
  have hts := atoms_spec (ws := (.code yX0_addPart cX0_addPart 3 none :: wsL_law)) B.pre
  have hown : s.vm.findClass RX0 = some m.cls := findClass_of_methodNamed B.named
  have hlocks := B.notSynchronized
  have hinX0 : ∀ w ∈ u_ws RX0 TX0 3, w ∈ (.code yX0_addPart cX0_addPart 3 none :: wsL_law) := fun w h => List.mem_cons_of_mem _ (inlX0 w h)
  have k_0 := hts (.fieldLink RX0 19 "RingMarks$Chain" "size" "I") (List.mem_cons_of_mem _ wm_56)
  have k_1 := hts (.fieldLink RX0 11 "RingMarks$Chain" "lengths" "[I") (List.mem_cons_of_mem _ wm_53)
  have k_2 := hts (.fieldLink RX0 15 "RingMarks$Chain" "writes" "[Z") (List.mem_cons_of_mem _ wm_55)
  subst hsz
  have hD := hD0.self (sz := s.heap.size)
  generalize hAe : va_A [(xd, .inr (0, [.ref l0, .ref z0, .int 2])), (l0, .inl (cI, 8, .inl (gl [n0, n1, n2, n3, n4, n5, n6, n7]))), (z0, .inl (cZ, 8, .inl (gl [w0, w1, w2, w3, w4, w5, w6, w7])))] s.heap.size = A at hD ⊢
  have hA : ∀ q : Nat, s.heap.size ≤ q → A q := fun q h => by rw [← hAe]; exact Or.inr h
  have hP : va_P (dC, dI) vwCl [(xd, .inr (0, [.ref l0, .ref z0, .int 2])), (l0, .inl (cI, 8, .inl (gl [n0, n1, n2, n3, n4, n5, n6, n7]))), (z0, .inl (cZ, 8, .inl (gl [w0, w1, w2, w3, w4, w5, w6, w7])))] s.heap := hP
  have hl := lv_entry ([.ref xd, .int 4, .int 0]) (n := 3) (Nat.le_of_ble_eq_true rfl)
  rw [lg_entry_eq]
  generalize (lg_sl ([.ref xd, .int 4, .int 0]) ++ List.replicate (3 - (lg_sl ([.ref xd, .int 4, .int 0])).length) Slot.unset).toArray = ls at hl ⊢
  have hl : lv_has ls 3 [(0, .ref xd), (1, .int 4), (2, .int 0)] := hl
  obtain ⟨H, hH⟩ : ∃ H, H = s.heap := ⟨_, rfl⟩
  rw [← hH] at hP ⊢
  have hS : va_S A s.heap H [] := by rw [hH]; exact va_S.rf
  refine lv_aload_n hx hb dX0_addPart_0 rfl (lv_at hl 0 rfl) ?_
  refine va_get (D := (dC, dI)) (ci := 0) (v := .int 2) (C := RX0) (T := TX0) (N := 3) hx hb hts hinX0 hown hK hP 0 rfl rfl 2 (by decide) k_0 (fun _ h9 => h9) rfl dX0_addPart_1 ?_
  refine lv_bipush (v := 8) hx hb dX0_addPart_4 (by decide) ?_
  refine lv_icmp_ge (tgt := 39) hx hb dX0_addPart_6 (by decide) (fun c => absurd c (by decide)) (fun _ => ?_)
  refine lv_aload_n hx hb dX0_addPart_9 rfl (lv_at hl 0 rfl) ?_
  refine va_get (D := (dC, dI)) (ci := 0) (v := .ref l0) (C := RX0) (T := TX0) (N := 3) hx hb hts hinX0 hown hK hP 0 rfl rfl 0 (by decide) k_1 (fun _ h9 => h9) rfl dX0_addPart_10 ?_
  refine lv_aload_n hx hb dX0_addPart_13 rfl (lv_at hl 0 rfl) ?_
  refine va_get (D := (dC, dI)) (ci := 0) (v := .int 2) (C := RX0) (T := TX0) (N := 3) hx hb hts hinX0 hown hK hP 0 rfl rfl 2 (by decide) k_0 (fun _ h9 => h9) rfl dX0_addPart_14 ?_
  refine lv_iload_n hx hb dX0_addPart_17 rfl (lv_at hl 1 rfl) ?_
  refine za_iast (f' := (gl [n0, n1, 4, n3, n4, n5, n6, n7])) hx hb hK hP hD hS 1 0 rfl rfl (zin tn_2 (Nat.le_of_ble_eq_true rfl)) (zup_gl tn_2 (Nat.le_of_ble_eq_true rfl) rfl) dX0_addPart_18 (fun H locs hP hD hS => ?_)
  have hP : va_P (dC, dI) vwCl [(xd, .inr (0, [.ref l0, .ref z0, .int 2])), (l0, .inl (cI, 8, .inl (gl [n0, n1, 4, n3, n4, n5, n6, n7]))), (z0, .inl (cZ, 8, .inl (gl [w0, w1, w2, w3, w4, w5, w6, w7])))] H := hP
  have hD : va_D A [(xd, .inr (0, [.ref l0, .ref z0, .int 2])), (l0, .inl (cI, 8, .inl (gl [n0, n1, 4, n3, n4, n5, n6, n7]))), (z0, .inl (cZ, 8, .inl (gl [w0, w1, w2, w3, w4, w5, w6, w7])))] := hD
  refine lv_aload_n hx hb dX0_addPart_19 rfl (lv_at hl 0 rfl) ?_
  refine va_get (D := (dC, dI)) (ci := 0) (v := .ref z0) (C := RX0) (T := TX0) (N := 3) hx hb hts hinX0 hown hK hP 0 rfl rfl 1 (by decide) k_2 (fun _ h9 => h9) rfl dX0_addPart_20 ?_
  refine lv_aload_n hx hb dX0_addPart_23 rfl (lv_at hl 0 rfl) ?_
  refine va_get (D := (dC, dI)) (ci := 0) (v := .int 2) (C := RX0) (T := TX0) (N := 3) hx hb hts hinX0 hown hK hP 0 rfl rfl 2 (by decide) k_0 (fun _ h9 => h9) rfl dX0_addPart_24 ?_
  refine lv_iload_n hx hb dX0_addPart_27 rfl (lv_at hl 2 rfl) ?_
  refine za_zast (f' := (gl [w0, w1, 0, w3, w4, w5, w6, w7])) hx hb hK hP hD hS 2 2 rfl rfl (zin tn_2 (Nat.le_of_ble_eq_true rfl)) (zup_glb tn_2 (by decide) (Nat.le_of_ble_eq_true rfl) rfl) dX0_addPart_28 (fun H locs hP hD hS => ?_)
  have hP : va_P (dC, dI) vwCl [(xd, .inr (0, [.ref l0, .ref z0, .int 2])), (l0, .inl (cI, 8, .inl (gl [n0, n1, 4, n3, n4, n5, n6, n7]))), (z0, .inl (cZ, 8, .inl (gl [w0, w1, 0, w3, w4, w5, w6, w7])))] H := hP
  have hD : va_D A [(xd, .inr (0, [.ref l0, .ref z0, .int 2])), (l0, .inl (cI, 8, .inl (gl [n0, n1, 4, n3, n4, n5, n6, n7]))), (z0, .inl (cZ, 8, .inl (gl [w0, w1, 0, w3, w4, w5, w6, w7])))] := hD
  refine lv_aload_n hx hb dX0_addPart_29 rfl (lv_at hl 0 rfl) ?_
  refine lv_dup hx hb dX0_addPart_30 rfl ?_
  refine va_get (D := (dC, dI)) (ci := 0) (v := .int 2) (C := RX0) (T := TX0) (N := 3) hx hb hts hinX0 hown hK hP 0 rfl rfl 2 (by decide) k_0 (fun _ h9 => h9) rfl dX0_addPart_31 ?_
  refine lv_iconst (v := 1) hx hb dX0_addPart_34 (by decide) ?_
  refine lv_iadd hx hb dX0_addPart_35 ?_
  refine tp (y := 3) (by decide) ?_
  refine va_put (D := (dC, dI)) (ci := 0) (v := .int 3) (ty := tyX0 2) (C := RX0) (T := TX0) (N := 3) hx hb hts hinX0 tyX0 tyX0_ok nmX0 hown hK hP hD hS 0 rfl rfl 2 (by decide) k_0 (fun _ h9 => h9) rfl (by decide +kernel) rfl rfl (Nat.le_of_ble_eq_true rfl) dX0_addPart_36 (fun H locs hP hD hS => ?_)
  have hP : va_P (dC, dI) vwCl [(xd, .inr (0, [.ref l0, .ref z0, .int 3])), (l0, .inl (cI, 8, .inl (gl [n0, n1, 4, n3, n4, n5, n6, n7]))), (z0, .inl (cZ, 8, .inl (gl [w0, w1, 0, w3, w4, w5, w6, w7])))] H := hP
  have hD : va_D A [(xd, .inr (0, [.ref l0, .ref z0, .int 3])), (l0, .inl (cI, 8, .inl (gl [n0, n1, 4, n3, n4, n5, n6, n7]))), (z0, .inl (cZ, 8, .inl (gl [w0, w1, 0, w3, w4, w5, w6, w7])))] := hD
  have hP9 := hP.sub (ws' := [(xd, .inr (0, [.ref l0, .ref z0, .int 3])), (l0, .inl (cI, 8, .inl (gl [n0, n1, 4, n3, n4, n5, n6, n7]))), (z0, .inl (cZ, 8, .inl (gl [w0, w1, 0, w3, w4, w5, w6, w7])))]) [0, 1, 2] rfl
  have hD9 := hD.sub (ws' := [(xd, .inr (0, [.ref l0, .ref z0, .int 3])), (l0, .inl (cI, 8, .inl (gl [n0, n1, 4, n3, n4, n5, n6, n7]))), (z0, .inl (cZ, 8, .inl (gl [w0, w1, 0, w3, w4, w5, w6, w7])))]) [0, 1, 2] (by decide) rfl
  exact W.vret hx hb hr (fun t ht hW => ⟨⟨(), rfl, trivial, by rw [ht]; exact hP9, va_K.moved hW.alike hK, hD9⟩, hS.F ht⟩) hS.2.2 dX0_addPart_39

set_option maxHeartbeats 4000000 in
set_option maxRecDepth 100000 in
theorem kkX0_addPart_1_1 (l : Launch) (dC : Nat → ClassId) (dI : Nat → Nat → Nat) (cI cB cZ cR : ClassId) (sz : Nat) (xd : Nat) (l0 : Nat) (z0 : Nat) (n0 : Int32) (n1 : Int32) (n2 : Int32) (n3 : Int32) (n4 : Int32) (n5 : Int32) (n6 : Int32) (n7 : Int32) (w0 : Int32) (w1 : Int32) (w2 : Int32) (w3 : Int32) (w4 : Int32) (w5 : Int32) (w6 : Int32) (w7 : Int32) : Met l yX0_addPart (.code yX0_addPart cX0_addPart 3 none :: wsL_law) ({ frames := 0, cells := 0, slots := 0, locals := 0 }) (zPc dC dI (zT cI cB cZ cR) [.ref xd, .int 9, .int 1] sz [(xd, .inr (0, [.ref l0, .ref z0, .int 1])), (l0, .inl (cI, 8, .inl (gl [n0, n1, n2, n3, n4, n5, n6, n7]))), (z0, .inl (cZ, 8, .inl (gl [w0, w1, w2, w3, w4, w5, w6, w7])))]) (va_Qv (fun _ : Unit => True) (fun _ : Unit => zB dC dI (zT cI cB cZ cR) (va_A [(xd, .inr (0, [.ref l0, .ref z0, .int 1])), (l0, .inl (cI, 8, .inl (gl [n0, n1, n2, n3, n4, n5, n6, n7]))), (z0, .inl (cZ, 8, .inl (gl [w0, w1, w2, w3, w4, w5, w6, w7])))] sz) [(xd, .inr (0, [.ref l0, .ref z0, .int 2])), (l0, .inl (cI, 8, .inl (gl [n0, 9, n2, n3, n4, n5, n6, n7]))), (z0, .inl (cZ, 8, .inl (gl [w0, 1, w2, w3, w4, w5, w6, w7])))]) (va_A [(xd, .inr (0, [.ref l0, .ref z0, .int 1])), (l0, .inl (cI, 8, .inl (gl [n0, n1, n2, n3, n4, n5, n6, n7]))), (z0, .inl (cZ, 8, .inl (gl [w0, w1, w2, w3, w4, w5, w6, w7])))] sz)) 0 0 (va_A [(xd, .inr (0, [.ref l0, .ref z0, .int 1])), (l0, .inl (cI, 8, .inl (gl [n0, n1, n2, n3, n4, n5, n6, n7]))), (z0, .inl (cZ, 8, .inl (gl [w0, w1, w2, w3, w4, w5, w6, w7])))] sz) := by
  refine Met.ofW (cc := cX0_addPart) (maxL := 3) (ret := none) (by decide) rfl ?_
  intro p e s m args below meth c s₁ B hml hv
  obtain ⟨rfl, hsz, hP, hK, hD0, hN⟩ := hv
  have hx := B.exec
  have hb := B.bytes
  have hr := B.returns
  have hts := atoms_spec (ws := (.code yX0_addPart cX0_addPart 3 none :: wsL_law)) B.pre
  have hown : s.vm.findClass RX0 = some m.cls := findClass_of_methodNamed B.named
  have hlocks := B.notSynchronized
  have hinX0 : ∀ w ∈ u_ws RX0 TX0 3, w ∈ (.code yX0_addPart cX0_addPart 3 none :: wsL_law) := fun w h => List.mem_cons_of_mem _ (inlX0 w h)
  have k_0 := hts (.fieldLink RX0 19 "RingMarks$Chain" "size" "I") (List.mem_cons_of_mem _ wm_56)
  have k_1 := hts (.fieldLink RX0 11 "RingMarks$Chain" "lengths" "[I") (List.mem_cons_of_mem _ wm_53)
  have k_2 := hts (.fieldLink RX0 15 "RingMarks$Chain" "writes" "[Z") (List.mem_cons_of_mem _ wm_55)
  subst hsz
  have hD := hD0.self (sz := s.heap.size)
  generalize hAe : va_A [(xd, .inr (0, [.ref l0, .ref z0, .int 1])), (l0, .inl (cI, 8, .inl (gl [n0, n1, n2, n3, n4, n5, n6, n7]))), (z0, .inl (cZ, 8, .inl (gl [w0, w1, w2, w3, w4, w5, w6, w7])))] s.heap.size = A at hD ⊢
  have hA : ∀ q : Nat, s.heap.size ≤ q → A q := fun q h => by rw [← hAe]; exact Or.inr h
  have hP : va_P (dC, dI) vwCl [(xd, .inr (0, [.ref l0, .ref z0, .int 1])), (l0, .inl (cI, 8, .inl (gl [n0, n1, n2, n3, n4, n5, n6, n7]))), (z0, .inl (cZ, 8, .inl (gl [w0, w1, w2, w3, w4, w5, w6, w7])))] s.heap := hP
  have hl := lv_entry ([.ref xd, .int 9, .int 1]) (n := 3) (Nat.le_of_ble_eq_true rfl)
  rw [lg_entry_eq]
  generalize (lg_sl ([.ref xd, .int 9, .int 1]) ++ List.replicate (3 - (lg_sl ([.ref xd, .int 9, .int 1])).length) Slot.unset).toArray = ls at hl ⊢
  have hl : lv_has ls 3 [(0, .ref xd), (1, .int 9), (2, .int 1)] := hl
  obtain ⟨H, hH⟩ : ∃ H, H = s.heap := ⟨_, rfl⟩
  rw [← hH] at hP ⊢
  have hS : va_S A s.heap H [] := by rw [hH]; exact va_S.rf
  refine lv_aload_n hx hb dX0_addPart_0 rfl (lv_at hl 0 rfl) ?_
  refine va_get (D := (dC, dI)) (ci := 0) (v := .int 1) (C := RX0) (T := TX0) (N := 3) hx hb hts hinX0 hown hK hP 0 rfl rfl 2 (by decide) k_0 (fun _ h9 => h9) rfl dX0_addPart_1 ?_
  refine lv_bipush (v := 8) hx hb dX0_addPart_4 (by decide) ?_
  refine lv_icmp_ge (tgt := 39) hx hb dX0_addPart_6 (by decide) (fun c => absurd c (by decide)) (fun _ => ?_)
  refine lv_aload_n hx hb dX0_addPart_9 rfl (lv_at hl 0 rfl) ?_
  refine va_get (D := (dC, dI)) (ci := 0) (v := .ref l0) (C := RX0) (T := TX0) (N := 3) hx hb hts hinX0 hown hK hP 0 rfl rfl 0 (by decide) k_1 (fun _ h9 => h9) rfl dX0_addPart_10 ?_
  refine lv_aload_n hx hb dX0_addPart_13 rfl (lv_at hl 0 rfl) ?_
  refine va_get (D := (dC, dI)) (ci := 0) (v := .int 1) (C := RX0) (T := TX0) (N := 3) hx hb hts hinX0 hown hK hP 0 rfl rfl 2 (by decide) k_0 (fun _ h9 => h9) rfl dX0_addPart_14 ?_
  refine lv_iload_n hx hb dX0_addPart_17 rfl (lv_at hl 1 rfl) ?_
  refine za_iast (f' := (gl [n0, 9, n2, n3, n4, n5, n6, n7])) hx hb hK hP hD hS 1 0 rfl rfl (zin tn_1 (Nat.le_of_ble_eq_true rfl)) (zup_gl tn_1 (Nat.le_of_ble_eq_true rfl) rfl) dX0_addPart_18 (fun H locs hP hD hS => ?_)
  have hP : va_P (dC, dI) vwCl [(xd, .inr (0, [.ref l0, .ref z0, .int 1])), (l0, .inl (cI, 8, .inl (gl [n0, 9, n2, n3, n4, n5, n6, n7]))), (z0, .inl (cZ, 8, .inl (gl [w0, w1, w2, w3, w4, w5, w6, w7])))] H := hP
  have hD : va_D A [(xd, .inr (0, [.ref l0, .ref z0, .int 1])), (l0, .inl (cI, 8, .inl (gl [n0, 9, n2, n3, n4, n5, n6, n7]))), (z0, .inl (cZ, 8, .inl (gl [w0, w1, w2, w3, w4, w5, w6, w7])))] := hD
  refine lv_aload_n hx hb dX0_addPart_19 rfl (lv_at hl 0 rfl) ?_
  refine va_get (D := (dC, dI)) (ci := 0) (v := .ref z0) (C := RX0) (T := TX0) (N := 3) hx hb hts hinX0 hown hK hP 0 rfl rfl 1 (by decide) k_2 (fun _ h9 => h9) rfl dX0_addPart_20 ?_
  refine lv_aload_n hx hb dX0_addPart_23 rfl (lv_at hl 0 rfl) ?_
  refine va_get (D := (dC, dI)) (ci := 0) (v := .int 1) (C := RX0) (T := TX0) (N := 3) hx hb hts hinX0 hown hK hP 0 rfl rfl 2 (by decide) k_0 (fun _ h9 => h9) rfl dX0_addPart_24 ?_
  refine lv_iload_n hx hb dX0_addPart_27 rfl (lv_at hl 2 rfl) ?_
  refine za_zast (f' := (gl [w0, 1, w2, w3, w4, w5, w6, w7])) hx hb hK hP hD hS 2 2 rfl rfl (zin tn_1 (Nat.le_of_ble_eq_true rfl)) (zup_glb tn_1 (by decide) (Nat.le_of_ble_eq_true rfl) rfl) dX0_addPart_28 (fun H locs hP hD hS => ?_)
  have hP : va_P (dC, dI) vwCl [(xd, .inr (0, [.ref l0, .ref z0, .int 1])), (l0, .inl (cI, 8, .inl (gl [n0, 9, n2, n3, n4, n5, n6, n7]))), (z0, .inl (cZ, 8, .inl (gl [w0, 1, w2, w3, w4, w5, w6, w7])))] H := hP
  have hD : va_D A [(xd, .inr (0, [.ref l0, .ref z0, .int 1])), (l0, .inl (cI, 8, .inl (gl [n0, 9, n2, n3, n4, n5, n6, n7]))), (z0, .inl (cZ, 8, .inl (gl [w0, 1, w2, w3, w4, w5, w6, w7])))] := hD
  refine lv_aload_n hx hb dX0_addPart_29 rfl (lv_at hl 0 rfl) ?_
  refine lv_dup hx hb dX0_addPart_30 rfl ?_
  refine va_get (D := (dC, dI)) (ci := 0) (v := .int 1) (C := RX0) (T := TX0) (N := 3) hx hb hts hinX0 hown hK hP 0 rfl rfl 2 (by decide) k_0 (fun _ h9 => h9) rfl dX0_addPart_31 ?_
  refine lv_iconst (v := 1) hx hb dX0_addPart_34 (by decide) ?_
  refine lv_iadd hx hb dX0_addPart_35 ?_
  refine tp (y := 2) (by decide) ?_
  refine va_put (D := (dC, dI)) (ci := 0) (v := .int 2) (ty := tyX0 2) (C := RX0) (T := TX0) (N := 3) hx hb hts hinX0 tyX0 tyX0_ok nmX0 hown hK hP hD hS 0 rfl rfl 2 (by decide) k_0 (fun _ h9 => h9) rfl (by decide +kernel) rfl rfl (Nat.le_of_ble_eq_true rfl) dX0_addPart_36 (fun H locs hP hD hS => ?_)
  have hP : va_P (dC, dI) vwCl [(xd, .inr (0, [.ref l0, .ref z0, .int 2])), (l0, .inl (cI, 8, .inl (gl [n0, 9, n2, n3, n4, n5, n6, n7]))), (z0, .inl (cZ, 8, .inl (gl [w0, 1, w2, w3, w4, w5, w6, w7])))] H := hP
  have hD : va_D A [(xd, .inr (0, [.ref l0, .ref z0, .int 2])), (l0, .inl (cI, 8, .inl (gl [n0, 9, n2, n3, n4, n5, n6, n7]))), (z0, .inl (cZ, 8, .inl (gl [w0, 1, w2, w3, w4, w5, w6, w7])))] := hD
  have hP9 := hP.sub (ws' := [(xd, .inr (0, [.ref l0, .ref z0, .int 2])), (l0, .inl (cI, 8, .inl (gl [n0, 9, n2, n3, n4, n5, n6, n7]))), (z0, .inl (cZ, 8, .inl (gl [w0, 1, w2, w3, w4, w5, w6, w7])))]) [0, 1, 2] rfl
  have hD9 := hD.sub (ws' := [(xd, .inr (0, [.ref l0, .ref z0, .int 2])), (l0, .inl (cI, 8, .inl (gl [n0, 9, n2, n3, n4, n5, n6, n7]))), (z0, .inl (cZ, 8, .inl (gl [w0, 1, w2, w3, w4, w5, w6, w7])))]) [0, 1, 2] (by decide) rfl
  exact W.vret hx hb hr (fun t ht hW => ⟨⟨(), rfl, trivial, by rw [ht]; exact hP9, va_K.moved hW.alike hK, hD9⟩, hS.F ht⟩) hS.2.2 dX0_addPart_39

set_option maxHeartbeats 4000000 in
set_option maxRecDepth 100000 in
theorem kkX0_addPart_2_1 (l : Launch) (dC : Nat → ClassId) (dI : Nat → Nat → Nat) (cI cB cZ cR : ClassId) (sz : Nat) (xd : Nat) (l0 : Nat) (z0 : Nat) (n0 : Int32) (n1 : Int32) (n2 : Int32) (n3 : Int32) (n4 : Int32) (n5 : Int32) (n6 : Int32) (n7 : Int32) (w0 : Int32) (w1 : Int32) (w2 : Int32) (w3 : Int32) (w4 : Int32) (w5 : Int32) (w6 : Int32) (w7 : Int32) : Met l yX0_addPart (.code yX0_addPart cX0_addPart 3 none :: wsL_law) ({ frames := 0, cells := 0, slots := 0, locals := 0 }) (zPc dC dI (zT cI cB cZ cR) [.ref xd, .int 9, .int 1] sz [(xd, .inr (0, [.ref l0, .ref z0, .int 2])), (l0, .inl (cI, 8, .inl (gl [n0, n1, n2, n3, n4, n5, n6, n7]))), (z0, .inl (cZ, 8, .inl (gl [w0, w1, w2, w3, w4, w5, w6, w7])))]) (va_Qv (fun _ : Unit => True) (fun _ : Unit => zB dC dI (zT cI cB cZ cR) (va_A [(xd, .inr (0, [.ref l0, .ref z0, .int 2])), (l0, .inl (cI, 8, .inl (gl [n0, n1, n2, n3, n4, n5, n6, n7]))), (z0, .inl (cZ, 8, .inl (gl [w0, w1, w2, w3, w4, w5, w6, w7])))] sz) [(xd, .inr (0, [.ref l0, .ref z0, .int 3])), (l0, .inl (cI, 8, .inl (gl [n0, n1, 9, n3, n4, n5, n6, n7]))), (z0, .inl (cZ, 8, .inl (gl [w0, w1, 1, w3, w4, w5, w6, w7])))]) (va_A [(xd, .inr (0, [.ref l0, .ref z0, .int 2])), (l0, .inl (cI, 8, .inl (gl [n0, n1, n2, n3, n4, n5, n6, n7]))), (z0, .inl (cZ, 8, .inl (gl [w0, w1, w2, w3, w4, w5, w6, w7])))] sz)) 0 0 (va_A [(xd, .inr (0, [.ref l0, .ref z0, .int 2])), (l0, .inl (cI, 8, .inl (gl [n0, n1, n2, n3, n4, n5, n6, n7]))), (z0, .inl (cZ, 8, .inl (gl [w0, w1, w2, w3, w4, w5, w6, w7])))] sz) := by
  refine Met.ofW (cc := cX0_addPart) (maxL := 3) (ret := none) (by decide) rfl ?_
  intro p e s m args below meth c s₁ B hml hv
  obtain ⟨rfl, hsz, hP, hK, hD0, hN⟩ := hv
  have hx := B.exec
  have hb := B.bytes
  have hr := B.returns
  have hts := atoms_spec (ws := (.code yX0_addPart cX0_addPart 3 none :: wsL_law)) B.pre
  have hown : s.vm.findClass RX0 = some m.cls := findClass_of_methodNamed B.named
  have hlocks := B.notSynchronized
  have hinX0 : ∀ w ∈ u_ws RX0 TX0 3, w ∈ (.code yX0_addPart cX0_addPart 3 none :: wsL_law) := fun w h => List.mem_cons_of_mem _ (inlX0 w h)
  have k_0 := hts (.fieldLink RX0 19 "RingMarks$Chain" "size" "I") (List.mem_cons_of_mem _ wm_56)
  have k_1 := hts (.fieldLink RX0 11 "RingMarks$Chain" "lengths" "[I") (List.mem_cons_of_mem _ wm_53)
  have k_2 := hts (.fieldLink RX0 15 "RingMarks$Chain" "writes" "[Z") (List.mem_cons_of_mem _ wm_55)
  subst hsz
  have hD := hD0.self (sz := s.heap.size)
  generalize hAe : va_A [(xd, .inr (0, [.ref l0, .ref z0, .int 2])), (l0, .inl (cI, 8, .inl (gl [n0, n1, n2, n3, n4, n5, n6, n7]))), (z0, .inl (cZ, 8, .inl (gl [w0, w1, w2, w3, w4, w5, w6, w7])))] s.heap.size = A at hD ⊢
  have hA : ∀ q : Nat, s.heap.size ≤ q → A q := fun q h => by rw [← hAe]; exact Or.inr h
  have hP : va_P (dC, dI) vwCl [(xd, .inr (0, [.ref l0, .ref z0, .int 2])), (l0, .inl (cI, 8, .inl (gl [n0, n1, n2, n3, n4, n5, n6, n7]))), (z0, .inl (cZ, 8, .inl (gl [w0, w1, w2, w3, w4, w5, w6, w7])))] s.heap := hP
  have hl := lv_entry ([.ref xd, .int 9, .int 1]) (n := 3) (Nat.le_of_ble_eq_true rfl)
  rw [lg_entry_eq]
  generalize (lg_sl ([.ref xd, .int 9, .int 1]) ++ List.replicate (3 - (lg_sl ([.ref xd, .int 9, .int 1])).length) Slot.unset).toArray = ls at hl ⊢
  have hl : lv_has ls 3 [(0, .ref xd), (1, .int 9), (2, .int 1)] := hl
  obtain ⟨H, hH⟩ : ∃ H, H = s.heap := ⟨_, rfl⟩
  rw [← hH] at hP ⊢
  have hS : va_S A s.heap H [] := by rw [hH]; exact va_S.rf
  refine lv_aload_n hx hb dX0_addPart_0 rfl (lv_at hl 0 rfl) ?_
  refine va_get (D := (dC, dI)) (ci := 0) (v := .int 2) (C := RX0) (T := TX0) (N := 3) hx hb hts hinX0 hown hK hP 0 rfl rfl 2 (by decide) k_0 (fun _ h9 => h9) rfl dX0_addPart_1 ?_
  refine lv_bipush (v := 8) hx hb dX0_addPart_4 (by decide) ?_
  refine lv_icmp_ge (tgt := 39) hx hb dX0_addPart_6 (by decide) (fun c => absurd c (by decide)) (fun _ => ?_)
  refine lv_aload_n hx hb dX0_addPart_9 rfl (lv_at hl 0 rfl) ?_
  refine va_get (D := (dC, dI)) (ci := 0) (v := .ref l0) (C := RX0) (T := TX0) (N := 3) hx hb hts hinX0 hown hK hP 0 rfl rfl 0 (by decide) k_1 (fun _ h9 => h9) rfl dX0_addPart_10 ?_
  refine lv_aload_n hx hb dX0_addPart_13 rfl (lv_at hl 0 rfl) ?_
  refine va_get (D := (dC, dI)) (ci := 0) (v := .int 2) (C := RX0) (T := TX0) (N := 3) hx hb hts hinX0 hown hK hP 0 rfl rfl 2 (by decide) k_0 (fun _ h9 => h9) rfl dX0_addPart_14 ?_
  refine lv_iload_n hx hb dX0_addPart_17 rfl (lv_at hl 1 rfl) ?_
  refine za_iast (f' := (gl [n0, n1, 9, n3, n4, n5, n6, n7])) hx hb hK hP hD hS 1 0 rfl rfl (zin tn_2 (Nat.le_of_ble_eq_true rfl)) (zup_gl tn_2 (Nat.le_of_ble_eq_true rfl) rfl) dX0_addPart_18 (fun H locs hP hD hS => ?_)
  have hP : va_P (dC, dI) vwCl [(xd, .inr (0, [.ref l0, .ref z0, .int 2])), (l0, .inl (cI, 8, .inl (gl [n0, n1, 9, n3, n4, n5, n6, n7]))), (z0, .inl (cZ, 8, .inl (gl [w0, w1, w2, w3, w4, w5, w6, w7])))] H := hP
  have hD : va_D A [(xd, .inr (0, [.ref l0, .ref z0, .int 2])), (l0, .inl (cI, 8, .inl (gl [n0, n1, 9, n3, n4, n5, n6, n7]))), (z0, .inl (cZ, 8, .inl (gl [w0, w1, w2, w3, w4, w5, w6, w7])))] := hD
  refine lv_aload_n hx hb dX0_addPart_19 rfl (lv_at hl 0 rfl) ?_
  refine va_get (D := (dC, dI)) (ci := 0) (v := .ref z0) (C := RX0) (T := TX0) (N := 3) hx hb hts hinX0 hown hK hP 0 rfl rfl 1 (by decide) k_2 (fun _ h9 => h9) rfl dX0_addPart_20 ?_
  refine lv_aload_n hx hb dX0_addPart_23 rfl (lv_at hl 0 rfl) ?_
  refine va_get (D := (dC, dI)) (ci := 0) (v := .int 2) (C := RX0) (T := TX0) (N := 3) hx hb hts hinX0 hown hK hP 0 rfl rfl 2 (by decide) k_0 (fun _ h9 => h9) rfl dX0_addPart_24 ?_
  refine lv_iload_n hx hb dX0_addPart_27 rfl (lv_at hl 2 rfl) ?_
  refine za_zast (f' := (gl [w0, w1, 1, w3, w4, w5, w6, w7])) hx hb hK hP hD hS 2 2 rfl rfl (zin tn_2 (Nat.le_of_ble_eq_true rfl)) (zup_glb tn_2 (by decide) (Nat.le_of_ble_eq_true rfl) rfl) dX0_addPart_28 (fun H locs hP hD hS => ?_)
  have hP : va_P (dC, dI) vwCl [(xd, .inr (0, [.ref l0, .ref z0, .int 2])), (l0, .inl (cI, 8, .inl (gl [n0, n1, 9, n3, n4, n5, n6, n7]))), (z0, .inl (cZ, 8, .inl (gl [w0, w1, 1, w3, w4, w5, w6, w7])))] H := hP
  have hD : va_D A [(xd, .inr (0, [.ref l0, .ref z0, .int 2])), (l0, .inl (cI, 8, .inl (gl [n0, n1, 9, n3, n4, n5, n6, n7]))), (z0, .inl (cZ, 8, .inl (gl [w0, w1, 1, w3, w4, w5, w6, w7])))] := hD
  refine lv_aload_n hx hb dX0_addPart_29 rfl (lv_at hl 0 rfl) ?_
  refine lv_dup hx hb dX0_addPart_30 rfl ?_
  refine va_get (D := (dC, dI)) (ci := 0) (v := .int 2) (C := RX0) (T := TX0) (N := 3) hx hb hts hinX0 hown hK hP 0 rfl rfl 2 (by decide) k_0 (fun _ h9 => h9) rfl dX0_addPart_31 ?_
  refine lv_iconst (v := 1) hx hb dX0_addPart_34 (by decide) ?_
  refine lv_iadd hx hb dX0_addPart_35 ?_
  refine tp (y := 3) (by decide) ?_
  refine va_put (D := (dC, dI)) (ci := 0) (v := .int 3) (ty := tyX0 2) (C := RX0) (T := TX0) (N := 3) hx hb hts hinX0 tyX0 tyX0_ok nmX0 hown hK hP hD hS 0 rfl rfl 2 (by decide) k_0 (fun _ h9 => h9) rfl (by decide +kernel) rfl rfl (Nat.le_of_ble_eq_true rfl) dX0_addPart_36 (fun H locs hP hD hS => ?_)
  have hP : va_P (dC, dI) vwCl [(xd, .inr (0, [.ref l0, .ref z0, .int 3])), (l0, .inl (cI, 8, .inl (gl [n0, n1, 9, n3, n4, n5, n6, n7]))), (z0, .inl (cZ, 8, .inl (gl [w0, w1, 1, w3, w4, w5, w6, w7])))] H := hP
  have hD : va_D A [(xd, .inr (0, [.ref l0, .ref z0, .int 3])), (l0, .inl (cI, 8, .inl (gl [n0, n1, 9, n3, n4, n5, n6, n7]))), (z0, .inl (cZ, 8, .inl (gl [w0, w1, 1, w3, w4, w5, w6, w7])))] := hD
  have hP9 := hP.sub (ws' := [(xd, .inr (0, [.ref l0, .ref z0, .int 3])), (l0, .inl (cI, 8, .inl (gl [n0, n1, 9, n3, n4, n5, n6, n7]))), (z0, .inl (cZ, 8, .inl (gl [w0, w1, 1, w3, w4, w5, w6, w7])))]) [0, 1, 2] rfl
  have hD9 := hD.sub (ws' := [(xd, .inr (0, [.ref l0, .ref z0, .int 3])), (l0, .inl (cI, 8, .inl (gl [n0, n1, 9, n3, n4, n5, n6, n7]))), (z0, .inl (cZ, 8, .inl (gl [w0, w1, 1, w3, w4, w5, w6, w7])))]) [0, 1, 2] (by decide) rfl
  exact W.vret hx hb hr (fun t ht hW => ⟨⟨(), rfl, trivial, by rw [ht]; exact hP9, va_K.moved hW.alike hK, hD9⟩, hS.F ht⟩) hS.2.2 dX0_addPart_39

set_option maxHeartbeats 4000000 in
set_option maxRecDepth 100000 in
theorem kkX0_addPart_3_1 (l : Launch) (dC : Nat → ClassId) (dI : Nat → Nat → Nat) (cI cB cZ cR : ClassId) (sz : Nat) (xd : Nat) (l0 : Nat) (z0 : Nat) (n0 : Int32) (n1 : Int32) (n2 : Int32) (n3 : Int32) (n4 : Int32) (n5 : Int32) (n6 : Int32) (n7 : Int32) (w0 : Int32) (w1 : Int32) (w2 : Int32) (w3 : Int32) (w4 : Int32) (w5 : Int32) (w6 : Int32) (w7 : Int32) : Met l yX0_addPart (.code yX0_addPart cX0_addPart 3 none :: wsL_law) ({ frames := 0, cells := 0, slots := 0, locals := 0 }) (zPc dC dI (zT cI cB cZ cR) [.ref xd, .int 9, .int 1] sz [(xd, .inr (0, [.ref l0, .ref z0, .int 3])), (l0, .inl (cI, 8, .inl (gl [n0, n1, n2, n3, n4, n5, n6, n7]))), (z0, .inl (cZ, 8, .inl (gl [w0, w1, w2, w3, w4, w5, w6, w7])))]) (va_Qv (fun _ : Unit => True) (fun _ : Unit => zB dC dI (zT cI cB cZ cR) (va_A [(xd, .inr (0, [.ref l0, .ref z0, .int 3])), (l0, .inl (cI, 8, .inl (gl [n0, n1, n2, n3, n4, n5, n6, n7]))), (z0, .inl (cZ, 8, .inl (gl [w0, w1, w2, w3, w4, w5, w6, w7])))] sz) [(xd, .inr (0, [.ref l0, .ref z0, .int 4])), (l0, .inl (cI, 8, .inl (gl [n0, n1, n2, 9, n4, n5, n6, n7]))), (z0, .inl (cZ, 8, .inl (gl [w0, w1, w2, 1, w4, w5, w6, w7])))]) (va_A [(xd, .inr (0, [.ref l0, .ref z0, .int 3])), (l0, .inl (cI, 8, .inl (gl [n0, n1, n2, n3, n4, n5, n6, n7]))), (z0, .inl (cZ, 8, .inl (gl [w0, w1, w2, w3, w4, w5, w6, w7])))] sz)) 0 0 (va_A [(xd, .inr (0, [.ref l0, .ref z0, .int 3])), (l0, .inl (cI, 8, .inl (gl [n0, n1, n2, n3, n4, n5, n6, n7]))), (z0, .inl (cZ, 8, .inl (gl [w0, w1, w2, w3, w4, w5, w6, w7])))] sz) := by
  refine Met.ofW (cc := cX0_addPart) (maxL := 3) (ret := none) (by decide) rfl ?_
  intro p e s m args below meth c s₁ B hml hv
  obtain ⟨rfl, hsz, hP, hK, hD0, hN⟩ := hv
  have hx := B.exec
  have hb := B.bytes
  have hr := B.returns
  have hts := atoms_spec (ws := (.code yX0_addPart cX0_addPart 3 none :: wsL_law)) B.pre
  have hown : s.vm.findClass RX0 = some m.cls := findClass_of_methodNamed B.named
  have hlocks := B.notSynchronized
  have hinX0 : ∀ w ∈ u_ws RX0 TX0 3, w ∈ (.code yX0_addPart cX0_addPart 3 none :: wsL_law) := fun w h => List.mem_cons_of_mem _ (inlX0 w h)
  have k_0 := hts (.fieldLink RX0 19 "RingMarks$Chain" "size" "I") (List.mem_cons_of_mem _ wm_56)
  have k_1 := hts (.fieldLink RX0 11 "RingMarks$Chain" "lengths" "[I") (List.mem_cons_of_mem _ wm_53)
  have k_2 := hts (.fieldLink RX0 15 "RingMarks$Chain" "writes" "[Z") (List.mem_cons_of_mem _ wm_55)
  subst hsz
  have hD := hD0.self (sz := s.heap.size)
  generalize hAe : va_A [(xd, .inr (0, [.ref l0, .ref z0, .int 3])), (l0, .inl (cI, 8, .inl (gl [n0, n1, n2, n3, n4, n5, n6, n7]))), (z0, .inl (cZ, 8, .inl (gl [w0, w1, w2, w3, w4, w5, w6, w7])))] s.heap.size = A at hD ⊢
  have hA : ∀ q : Nat, s.heap.size ≤ q → A q := fun q h => by rw [← hAe]; exact Or.inr h
  have hP : va_P (dC, dI) vwCl [(xd, .inr (0, [.ref l0, .ref z0, .int 3])), (l0, .inl (cI, 8, .inl (gl [n0, n1, n2, n3, n4, n5, n6, n7]))), (z0, .inl (cZ, 8, .inl (gl [w0, w1, w2, w3, w4, w5, w6, w7])))] s.heap := hP
  have hl := lv_entry ([.ref xd, .int 9, .int 1]) (n := 3) (Nat.le_of_ble_eq_true rfl)
  rw [lg_entry_eq]
  generalize (lg_sl ([.ref xd, .int 9, .int 1]) ++ List.replicate (3 - (lg_sl ([.ref xd, .int 9, .int 1])).length) Slot.unset).toArray = ls at hl ⊢
  have hl : lv_has ls 3 [(0, .ref xd), (1, .int 9), (2, .int 1)] := hl
  obtain ⟨H, hH⟩ : ∃ H, H = s.heap := ⟨_, rfl⟩
  rw [← hH] at hP ⊢
  have hS : va_S A s.heap H [] := by rw [hH]; exact va_S.rf
  refine lv_aload_n hx hb dX0_addPart_0 rfl (lv_at hl 0 rfl) ?_
  refine va_get (D := (dC, dI)) (ci := 0) (v := .int 3) (C := RX0) (T := TX0) (N := 3) hx hb hts hinX0 hown hK hP 0 rfl rfl 2 (by decide) k_0 (fun _ h9 => h9) rfl dX0_addPart_1 ?_
  refine lv_bipush (v := 8) hx hb dX0_addPart_4 (by decide) ?_
  refine lv_icmp_ge (tgt := 39) hx hb dX0_addPart_6 (by decide) (fun c => absurd c (by decide)) (fun _ => ?_)
  refine lv_aload_n hx hb dX0_addPart_9 rfl (lv_at hl 0 rfl) ?_
  refine va_get (D := (dC, dI)) (ci := 0) (v := .ref l0) (C := RX0) (T := TX0) (N := 3) hx hb hts hinX0 hown hK hP 0 rfl rfl 0 (by decide) k_1 (fun _ h9 => h9) rfl dX0_addPart_10 ?_
  refine lv_aload_n hx hb dX0_addPart_13 rfl (lv_at hl 0 rfl) ?_
  refine va_get (D := (dC, dI)) (ci := 0) (v := .int 3) (C := RX0) (T := TX0) (N := 3) hx hb hts hinX0 hown hK hP 0 rfl rfl 2 (by decide) k_0 (fun _ h9 => h9) rfl dX0_addPart_14 ?_
  refine lv_iload_n hx hb dX0_addPart_17 rfl (lv_at hl 1 rfl) ?_
  refine za_iast (f' := (gl [n0, n1, n2, 9, n4, n5, n6, n7])) hx hb hK hP hD hS 1 0 rfl rfl (zin tn_3 (Nat.le_of_ble_eq_true rfl)) (zup_gl tn_3 (Nat.le_of_ble_eq_true rfl) rfl) dX0_addPart_18 (fun H locs hP hD hS => ?_)
  have hP : va_P (dC, dI) vwCl [(xd, .inr (0, [.ref l0, .ref z0, .int 3])), (l0, .inl (cI, 8, .inl (gl [n0, n1, n2, 9, n4, n5, n6, n7]))), (z0, .inl (cZ, 8, .inl (gl [w0, w1, w2, w3, w4, w5, w6, w7])))] H := hP
  have hD : va_D A [(xd, .inr (0, [.ref l0, .ref z0, .int 3])), (l0, .inl (cI, 8, .inl (gl [n0, n1, n2, 9, n4, n5, n6, n7]))), (z0, .inl (cZ, 8, .inl (gl [w0, w1, w2, w3, w4, w5, w6, w7])))] := hD
  refine lv_aload_n hx hb dX0_addPart_19 rfl (lv_at hl 0 rfl) ?_
  refine va_get (D := (dC, dI)) (ci := 0) (v := .ref z0) (C := RX0) (T := TX0) (N := 3) hx hb hts hinX0 hown hK hP 0 rfl rfl 1 (by decide) k_2 (fun _ h9 => h9) rfl dX0_addPart_20 ?_
  refine lv_aload_n hx hb dX0_addPart_23 rfl (lv_at hl 0 rfl) ?_
  refine va_get (D := (dC, dI)) (ci := 0) (v := .int 3) (C := RX0) (T := TX0) (N := 3) hx hb hts hinX0 hown hK hP 0 rfl rfl 2 (by decide) k_0 (fun _ h9 => h9) rfl dX0_addPart_24 ?_
  refine lv_iload_n hx hb dX0_addPart_27 rfl (lv_at hl 2 rfl) ?_
  refine za_zast (f' := (gl [w0, w1, w2, 1, w4, w5, w6, w7])) hx hb hK hP hD hS 2 2 rfl rfl (zin tn_3 (Nat.le_of_ble_eq_true rfl)) (zup_glb tn_3 (by decide) (Nat.le_of_ble_eq_true rfl) rfl) dX0_addPart_28 (fun H locs hP hD hS => ?_)
  have hP : va_P (dC, dI) vwCl [(xd, .inr (0, [.ref l0, .ref z0, .int 3])), (l0, .inl (cI, 8, .inl (gl [n0, n1, n2, 9, n4, n5, n6, n7]))), (z0, .inl (cZ, 8, .inl (gl [w0, w1, w2, 1, w4, w5, w6, w7])))] H := hP
  have hD : va_D A [(xd, .inr (0, [.ref l0, .ref z0, .int 3])), (l0, .inl (cI, 8, .inl (gl [n0, n1, n2, 9, n4, n5, n6, n7]))), (z0, .inl (cZ, 8, .inl (gl [w0, w1, w2, 1, w4, w5, w6, w7])))] := hD
  refine lv_aload_n hx hb dX0_addPart_29 rfl (lv_at hl 0 rfl) ?_
  refine lv_dup hx hb dX0_addPart_30 rfl ?_
  refine va_get (D := (dC, dI)) (ci := 0) (v := .int 3) (C := RX0) (T := TX0) (N := 3) hx hb hts hinX0 hown hK hP 0 rfl rfl 2 (by decide) k_0 (fun _ h9 => h9) rfl dX0_addPart_31 ?_
  refine lv_iconst (v := 1) hx hb dX0_addPart_34 (by decide) ?_
  refine lv_iadd hx hb dX0_addPart_35 ?_
  refine tp (y := 4) (by decide) ?_
  refine va_put (D := (dC, dI)) (ci := 0) (v := .int 4) (ty := tyX0 2) (C := RX0) (T := TX0) (N := 3) hx hb hts hinX0 tyX0 tyX0_ok nmX0 hown hK hP hD hS 0 rfl rfl 2 (by decide) k_0 (fun _ h9 => h9) rfl (by decide +kernel) rfl rfl (Nat.le_of_ble_eq_true rfl) dX0_addPart_36 (fun H locs hP hD hS => ?_)
  have hP : va_P (dC, dI) vwCl [(xd, .inr (0, [.ref l0, .ref z0, .int 4])), (l0, .inl (cI, 8, .inl (gl [n0, n1, n2, 9, n4, n5, n6, n7]))), (z0, .inl (cZ, 8, .inl (gl [w0, w1, w2, 1, w4, w5, w6, w7])))] H := hP
  have hD : va_D A [(xd, .inr (0, [.ref l0, .ref z0, .int 4])), (l0, .inl (cI, 8, .inl (gl [n0, n1, n2, 9, n4, n5, n6, n7]))), (z0, .inl (cZ, 8, .inl (gl [w0, w1, w2, 1, w4, w5, w6, w7])))] := hD
  have hP9 := hP.sub (ws' := [(xd, .inr (0, [.ref l0, .ref z0, .int 4])), (l0, .inl (cI, 8, .inl (gl [n0, n1, n2, 9, n4, n5, n6, n7]))), (z0, .inl (cZ, 8, .inl (gl [w0, w1, w2, 1, w4, w5, w6, w7])))]) [0, 1, 2] rfl
  have hD9 := hD.sub (ws' := [(xd, .inr (0, [.ref l0, .ref z0, .int 4])), (l0, .inl (cI, 8, .inl (gl [n0, n1, n2, 9, n4, n5, n6, n7]))), (z0, .inl (cZ, 8, .inl (gl [w0, w1, w2, 1, w4, w5, w6, w7])))]) [0, 1, 2] (by decide) rfl
  exact W.vret hx hb hr (fun t ht hW => ⟨⟨(), rfl, trivial, by rw [ht]; exact hP9, va_K.moved hW.alike hK, hD9⟩, hS.F ht⟩) hS.2.2 dX0_addPart_39

def pfX2_ofBuffer_g_r (m5 : Int32) (fb : Nat → Int32) (p1 : Int32) (p2 : Int32) : Int32 := if p1 < 0 then (-1) else (if m5 ≤ p1 then (-1) else (if 500 ≤ p1 then (-1) else (if p2 < 0 then (-1) else (if 8 ≤ p2 then (-1) else (fb (Int32.toNatClampNeg ((p1 * 8) + p2)))))))
set_option maxHeartbeats 4000000 in
set_option maxRecDepth 100000 in
theorem kkX2_ofBuffer_g (l : Launch) (dC : Nat → ClassId) (dI : Nat → Nat → Nat) (cI cB cZ cR : ClassId) (sz : Nat) (h : Nat) (a0 : Nat) (a1 : Nat) (a2 : Nat) (a3 : Nat) (a4 : Nat) (a5 : Nat) (a6 : Nat) (m0 : Int32) (m1 : Int32) (m2 : Int32) (m3 : Int32) (m4 : Int32) (m5 : Int32) (m6 : Int32) (m7 : Int32) (m8 : Int32) (m9 : Int32) (m10 : Int32) (m11 : Int32) (m12 : Int32) (m13 : Int32) (m14 : Int32) (m15 : Int32) (m16 : Int32) (m17 : Int32) (fb : Nat → Int32) (p1 : Int32) (p2 : Int32) : Met l yX2_ofBuffer (.code yX2_ofBuffer cX2_ofBuffer 4 (some .int) :: wsL_law) ({ frames := 0, cells := 0, slots := 0, locals := 0 }) (zPc dC dI (zT cI cB cZ cR) [.ref h, .int p1, .int p2] sz [(h, .inr (2, [.ref a0, .ref a1, .ref a2, .ref a3, .ref a4, .ref a5, .ref a6])), (a0, .inl (cI, 22, .inl (gl [m0, m1, m2, m3, m4, m5, m6, m7, m8, m9, m10, m11, m12, m13, m14, m15, m16, m17, 0, 4, 0, 16]))), (a6, .inl (cI, 4000, .inl fb))]) (va_Qi (fun (r : Int32) (_ : Unit) => r = (pfX2_ofBuffer_g_r m5 fb p1 p2)) (fun _ : Unit => zB dC dI (zT cI cB cZ cR) (va_A [(h, .inr (2, [.ref a0, .ref a1, .ref a2, .ref a3, .ref a4, .ref a5, .ref a6])), (a0, .inl (cI, 22, .inl (gl [m0, m1, m2, m3, m4, m5, m6, m7, m8, m9, m10, m11, m12, m13, m14, m15, m16, m17, 0, 4, 0, 16]))), (a6, .inl (cI, 4000, .inl fb))] sz) [(h, .inr (2, [.ref a0, .ref a1, .ref a2, .ref a3, .ref a4, .ref a5, .ref a6])), (a0, .inl (cI, 22, .inl (gl [m0, m1, m2, m3, m4, m5, m6, m7, m8, m9, m10, m11, m12, m13, m14, m15, m16, m17, 0, 4, 0, 16]))), (a6, .inl (cI, 4000, .inl fb))]) (va_A [(h, .inr (2, [.ref a0, .ref a1, .ref a2, .ref a3, .ref a4, .ref a5, .ref a6])), (a0, .inl (cI, 22, .inl (gl [m0, m1, m2, m3, m4, m5, m6, m7, m8, m9, m10, m11, m12, m13, m14, m15, m16, m17, 0, 4, 0, 16]))), (a6, .inl (cI, 4000, .inl fb))] sz)) 0 0 (va_A [(h, .inr (2, [.ref a0, .ref a1, .ref a2, .ref a3, .ref a4, .ref a5, .ref a6])), (a0, .inl (cI, 22, .inl (gl [m0, m1, m2, m3, m4, m5, m6, m7, m8, m9, m10, m11, m12, m13, m14, m15, m16, m17, 0, 4, 0, 16]))), (a6, .inl (cI, 4000, .inl fb))] sz) := by
  refine Met.ofW (cc := cX2_ofBuffer) (maxL := 4) (ret := (some .int)) (by decide) rfl ?_
  intro p e s m args below meth c s₁ B hml hv
  obtain ⟨rfl, hsz, hP, hK, hD0, hN⟩ := hv
  have hx := B.exec
  have hb := B.bytes
  have hr := B.returns
  have hts := atoms_spec (ws := (.code yX2_ofBuffer cX2_ofBuffer 4 (some .int) :: wsL_law)) B.pre
  have hown : s.vm.findClass RX2 = some m.cls := findClass_of_methodNamed B.named
  have hlocks := B.notSynchronized
  have hinX2 : ∀ w ∈ u_ws RX2 TX2 7, w ∈ (.code yX2_ofBuffer cX2_ofBuffer 4 (some .int) :: wsL_law) := fun w h => List.mem_cons_of_mem _ (inlX2 w h)
  have k_0 := hts (.fieldLink RX2 11 "RingMarks$Ring" "marks" "[I") (List.mem_cons_of_mem _ wm_61)
  have k_1 := hts (.fieldLink RX2 30 "RingMarks$Ring" "buffers" "[I") (List.mem_cons_of_mem _ wm_67)
  subst hsz
  have hD := hD0.self (sz := s.heap.size)
  generalize hAe : va_A [(h, .inr (2, [.ref a0, .ref a1, .ref a2, .ref a3, .ref a4, .ref a5, .ref a6])), (a0, .inl (cI, 22, .inl (gl [m0, m1, m2, m3, m4, m5, m6, m7, m8, m9, m10, m11, m12, m13, m14, m15, m16, m17, 0, 4, 0, 16]))), (a6, .inl (cI, 4000, .inl fb))] s.heap.size = A at hD ⊢
  have hA : ∀ q : Nat, s.heap.size ≤ q → A q := fun q h => by rw [← hAe]; exact Or.inr h
  have hP : va_P (dC, dI) vwCl [(h, .inr (2, [.ref a0, .ref a1, .ref a2, .ref a3, .ref a4, .ref a5, .ref a6])), (a0, .inl (cI, 22, .inl (gl [m0, m1, m2, m3, m4, m5, m6, m7, m8, m9, m10, m11, m12, m13, m14, m15, m16, m17, 0, 4, 0, 16]))), (a6, .inl (cI, 4000, .inl fb))] s.heap := hP
  have hl := lv_entry ([.ref h, .int p1, .int p2]) (n := 4) (Nat.le_of_ble_eq_true rfl)
  rw [lg_entry_eq]
  generalize (lg_sl ([.ref h, .int p1, .int p2]) ++ List.replicate (4 - (lg_sl ([.ref h, .int p1, .int p2])).length) Slot.unset).toArray = ls at hl ⊢
  have hl : lv_has ls 4 [(0, .ref h), (1, .int p1), (2, .int p2)] := hl
  obtain ⟨H, hH⟩ : ∃ H, H = s.heap := ⟨_, rfl⟩
  rw [← hH] at hP ⊢
  have hS : va_S A s.heap H [] := by rw [hH]; exact va_S.rf
  refine lv_iload_n hx hb dX2_ofBuffer_0 rfl (lv_at hl 1 rfl) ?_
  refine lv_if_lt (tgt := 35) hx hb dX2_ofBuffer_1 (by decide) (fun c_1 => ?_) (fun c_1 => ?_)
  · refine lv_iconst (v := 0) hx hb dX2_ofBuffer_35 (by decide) ?_
    refine lv_istore_n (lv' := [(3, .int 0), (0, .ref h), (1, .int p1), (2, .int p2)]) hx hb dX2_ofBuffer_36 rfl hl (by decide) rfl (fun ls hl => ?_)
    refine lv_iload_n hx hb dX2_ofBuffer_37 rfl (lv_at hl 0 rfl) ?_
    refine lv_if_eq (tgt := 55) hx hb dX2_ofBuffer_38 (by decide) (fun _ => ?_) (fun c => absurd (by decide) c)
    refine lv_iconst (v := (-1)) hx hb dX2_ofBuffer_55 (by decide) ?_
    have e_0 : (pfX2_ofBuffer_g_r m5 fb p1 p2) = (-1) := by rw [pfX2_ofBuffer_g_r, if_pos c_1]
    have hP9 := hP.sub (ws' := [(h, .inr (2, [.ref a0, .ref a1, .ref a2, .ref a3, .ref a4, .ref a5, .ref a6])), (a0, .inl (cI, 22, .inl (gl [m0, m1, m2, m3, m4, m5, m6, m7, m8, m9, m10, m11, m12, m13, m14, m15, m16, m17, 0, 4, 0, 16]))), (a6, .inl (cI, 4000, .inl fb))]) [0, 1, 2] rfl
    have hD9 := hD.sub (ws' := [(h, .inr (2, [.ref a0, .ref a1, .ref a2, .ref a3, .ref a4, .ref a5, .ref a6])), (a0, .inl (cI, 22, .inl (gl [m0, m1, m2, m3, m4, m5, m6, m7, m8, m9, m10, m11, m12, m13, m14, m15, m16, m17, 0, 4, 0, 16]))), (a6, .inl (cI, 4000, .inl fb))]) [0, 1, 2] (by decide) rfl
    exact W.iret (v := (-1)) hx hb hr (fun t ht hW => ⟨⟨(-1), (), rfl, e_0.symm, by rw [ht]; exact hP9, va_K.moved hW.alike hK, hD9⟩, hS.F ht⟩) hS.2.2 dX2_ofBuffer_56
  · refine lv_iload_n hx hb dX2_ofBuffer_4 rfl (lv_at hl 1 rfl) ?_
    refine lv_aload_n hx hb dX2_ofBuffer_5 rfl (lv_at hl 0 rfl) ?_
    refine va_get (D := (dC, dI)) (ci := 2) (v := .ref a0) (C := RX2) (T := TX2) (N := 7) hx hb hts hinX2 hown hK hP 0 rfl rfl 0 (by decide) k_0 (fun _ h9 => h9) rfl dX2_ofBuffer_6 ?_
    refine lv_iconst (v := 5) hx hb dX2_ofBuffer_9 (by decide) ?_
    refine za_iald (v := m5) hx hb hK hP 1 0 rfl rfl (zin tn_5 (Nat.le_of_ble_eq_true rfl)) (zrd _ tn_5 rfl) dX2_ofBuffer_10 ?_
    refine lv_icmp_ge (tgt := 35) hx hb dX2_ofBuffer_11 (by decide) (fun c_2 => ?_) (fun c_2 => ?_)
    · refine lv_iconst (v := 0) hx hb dX2_ofBuffer_35 (by decide) ?_
      refine lv_istore_n (lv' := [(3, .int 0), (0, .ref h), (1, .int p1), (2, .int p2)]) hx hb dX2_ofBuffer_36 rfl hl (by decide) rfl (fun ls hl => ?_)
      refine lv_iload_n hx hb dX2_ofBuffer_37 rfl (lv_at hl 0 rfl) ?_
      refine lv_if_eq (tgt := 55) hx hb dX2_ofBuffer_38 (by decide) (fun _ => ?_) (fun c => absurd (by decide) c)
      refine lv_iconst (v := (-1)) hx hb dX2_ofBuffer_55 (by decide) ?_
      have e_0 : (pfX2_ofBuffer_g_r m5 fb p1 p2) = (-1) := by rw [pfX2_ofBuffer_g_r, if_neg c_1, if_pos c_2]
      have hP9 := hP.sub (ws' := [(h, .inr (2, [.ref a0, .ref a1, .ref a2, .ref a3, .ref a4, .ref a5, .ref a6])), (a0, .inl (cI, 22, .inl (gl [m0, m1, m2, m3, m4, m5, m6, m7, m8, m9, m10, m11, m12, m13, m14, m15, m16, m17, 0, 4, 0, 16]))), (a6, .inl (cI, 4000, .inl fb))]) [0, 1, 2] rfl
      have hD9 := hD.sub (ws' := [(h, .inr (2, [.ref a0, .ref a1, .ref a2, .ref a3, .ref a4, .ref a5, .ref a6])), (a0, .inl (cI, 22, .inl (gl [m0, m1, m2, m3, m4, m5, m6, m7, m8, m9, m10, m11, m12, m13, m14, m15, m16, m17, 0, 4, 0, 16]))), (a6, .inl (cI, 4000, .inl fb))]) [0, 1, 2] (by decide) rfl
      exact W.iret (v := (-1)) hx hb hr (fun t ht hW => ⟨⟨(-1), (), rfl, e_0.symm, by rw [ht]; exact hP9, va_K.moved hW.alike hK, hD9⟩, hS.F ht⟩) hS.2.2 dX2_ofBuffer_56
    · refine lv_iload_n hx hb dX2_ofBuffer_14 rfl (lv_at hl 1 rfl) ?_
      refine lv_sipush (v := 500) hx hb dX2_ofBuffer_15 (by decide) ?_
      refine lv_icmp_ge (tgt := 35) hx hb dX2_ofBuffer_18 (by decide) (fun c_3 => ?_) (fun c_3 => ?_)
      · refine lv_iconst (v := 0) hx hb dX2_ofBuffer_35 (by decide) ?_
        refine lv_istore_n (lv' := [(3, .int 0), (0, .ref h), (1, .int p1), (2, .int p2)]) hx hb dX2_ofBuffer_36 rfl hl (by decide) rfl (fun ls hl => ?_)
        refine lv_iload_n hx hb dX2_ofBuffer_37 rfl (lv_at hl 0 rfl) ?_
        refine lv_if_eq (tgt := 55) hx hb dX2_ofBuffer_38 (by decide) (fun _ => ?_) (fun c => absurd (by decide) c)
        refine lv_iconst (v := (-1)) hx hb dX2_ofBuffer_55 (by decide) ?_
        have e_0 : (pfX2_ofBuffer_g_r m5 fb p1 p2) = (-1) := by rw [pfX2_ofBuffer_g_r, if_neg c_1, if_neg c_2, if_pos c_3]
        have hP9 := hP.sub (ws' := [(h, .inr (2, [.ref a0, .ref a1, .ref a2, .ref a3, .ref a4, .ref a5, .ref a6])), (a0, .inl (cI, 22, .inl (gl [m0, m1, m2, m3, m4, m5, m6, m7, m8, m9, m10, m11, m12, m13, m14, m15, m16, m17, 0, 4, 0, 16]))), (a6, .inl (cI, 4000, .inl fb))]) [0, 1, 2] rfl
        have hD9 := hD.sub (ws' := [(h, .inr (2, [.ref a0, .ref a1, .ref a2, .ref a3, .ref a4, .ref a5, .ref a6])), (a0, .inl (cI, 22, .inl (gl [m0, m1, m2, m3, m4, m5, m6, m7, m8, m9, m10, m11, m12, m13, m14, m15, m16, m17, 0, 4, 0, 16]))), (a6, .inl (cI, 4000, .inl fb))]) [0, 1, 2] (by decide) rfl
        exact W.iret (v := (-1)) hx hb hr (fun t ht hW => ⟨⟨(-1), (), rfl, e_0.symm, by rw [ht]; exact hP9, va_K.moved hW.alike hK, hD9⟩, hS.F ht⟩) hS.2.2 dX2_ofBuffer_56
      · refine lv_iload_n hx hb dX2_ofBuffer_21 rfl (lv_at hl 2 rfl) ?_
        refine lv_if_lt (tgt := 35) hx hb dX2_ofBuffer_22 (by decide) (fun c_4 => ?_) (fun c_4 => ?_)
        · refine lv_iconst (v := 0) hx hb dX2_ofBuffer_35 (by decide) ?_
          refine lv_istore_n (lv' := [(3, .int 0), (0, .ref h), (1, .int p1), (2, .int p2)]) hx hb dX2_ofBuffer_36 rfl hl (by decide) rfl (fun ls hl => ?_)
          refine lv_iload_n hx hb dX2_ofBuffer_37 rfl (lv_at hl 0 rfl) ?_
          refine lv_if_eq (tgt := 55) hx hb dX2_ofBuffer_38 (by decide) (fun _ => ?_) (fun c => absurd (by decide) c)
          refine lv_iconst (v := (-1)) hx hb dX2_ofBuffer_55 (by decide) ?_
          have e_0 : (pfX2_ofBuffer_g_r m5 fb p1 p2) = (-1) := by rw [pfX2_ofBuffer_g_r, if_neg c_1, if_neg c_2, if_neg c_3, if_pos c_4]
          have hP9 := hP.sub (ws' := [(h, .inr (2, [.ref a0, .ref a1, .ref a2, .ref a3, .ref a4, .ref a5, .ref a6])), (a0, .inl (cI, 22, .inl (gl [m0, m1, m2, m3, m4, m5, m6, m7, m8, m9, m10, m11, m12, m13, m14, m15, m16, m17, 0, 4, 0, 16]))), (a6, .inl (cI, 4000, .inl fb))]) [0, 1, 2] rfl
          have hD9 := hD.sub (ws' := [(h, .inr (2, [.ref a0, .ref a1, .ref a2, .ref a3, .ref a4, .ref a5, .ref a6])), (a0, .inl (cI, 22, .inl (gl [m0, m1, m2, m3, m4, m5, m6, m7, m8, m9, m10, m11, m12, m13, m14, m15, m16, m17, 0, 4, 0, 16]))), (a6, .inl (cI, 4000, .inl fb))]) [0, 1, 2] (by decide) rfl
          exact W.iret (v := (-1)) hx hb hr (fun t ht hW => ⟨⟨(-1), (), rfl, e_0.symm, by rw [ht]; exact hP9, va_K.moved hW.alike hK, hD9⟩, hS.F ht⟩) hS.2.2 dX2_ofBuffer_56
        · refine lv_iload_n hx hb dX2_ofBuffer_25 rfl (lv_at hl 2 rfl) ?_
          refine lv_bipush (v := 8) hx hb dX2_ofBuffer_26 (by decide) ?_
          refine lv_icmp_ge (tgt := 35) hx hb dX2_ofBuffer_28 (by decide) (fun c_5 => ?_) (fun c_5 => ?_)
          · refine lv_iconst (v := 0) hx hb dX2_ofBuffer_35 (by decide) ?_
            refine lv_istore_n (lv' := [(3, .int 0), (0, .ref h), (1, .int p1), (2, .int p2)]) hx hb dX2_ofBuffer_36 rfl hl (by decide) rfl (fun ls hl => ?_)
            refine lv_iload_n hx hb dX2_ofBuffer_37 rfl (lv_at hl 0 rfl) ?_
            refine lv_if_eq (tgt := 55) hx hb dX2_ofBuffer_38 (by decide) (fun _ => ?_) (fun c => absurd (by decide) c)
            refine lv_iconst (v := (-1)) hx hb dX2_ofBuffer_55 (by decide) ?_
            have e_0 : (pfX2_ofBuffer_g_r m5 fb p1 p2) = (-1) := by rw [pfX2_ofBuffer_g_r, if_neg c_1, if_neg c_2, if_neg c_3, if_neg c_4, if_pos c_5]
            have hP9 := hP.sub (ws' := [(h, .inr (2, [.ref a0, .ref a1, .ref a2, .ref a3, .ref a4, .ref a5, .ref a6])), (a0, .inl (cI, 22, .inl (gl [m0, m1, m2, m3, m4, m5, m6, m7, m8, m9, m10, m11, m12, m13, m14, m15, m16, m17, 0, 4, 0, 16]))), (a6, .inl (cI, 4000, .inl fb))]) [0, 1, 2] rfl
            have hD9 := hD.sub (ws' := [(h, .inr (2, [.ref a0, .ref a1, .ref a2, .ref a3, .ref a4, .ref a5, .ref a6])), (a0, .inl (cI, 22, .inl (gl [m0, m1, m2, m3, m4, m5, m6, m7, m8, m9, m10, m11, m12, m13, m14, m15, m16, m17, 0, 4, 0, 16]))), (a6, .inl (cI, 4000, .inl fb))]) [0, 1, 2] (by decide) rfl
            exact W.iret (v := (-1)) hx hb hr (fun t ht hW => ⟨⟨(-1), (), rfl, e_0.symm, by rw [ht]; exact hP9, va_K.moved hW.alike hK, hD9⟩, hS.F ht⟩) hS.2.2 dX2_ofBuffer_56
          · refine lv_iconst (v := 1) hx hb dX2_ofBuffer_31 (by decide) ?_
            refine lv_goto (tgt := 36) hx hb dX2_ofBuffer_32 (by decide) ?_
            refine lv_istore_n (lv' := [(3, .int 1), (0, .ref h), (1, .int p1), (2, .int p2)]) hx hb dX2_ofBuffer_36 rfl hl (by decide) rfl (fun ls hl => ?_)
            refine lv_iload_n hx hb dX2_ofBuffer_37 rfl (lv_at hl 0 rfl) ?_
            refine lv_if_eq (tgt := 55) hx hb dX2_ofBuffer_38 (by decide) (fun c => absurd c (by decide)) (fun _ => ?_)
            refine lv_aload_n hx hb dX2_ofBuffer_41 rfl (lv_at hl 1 rfl) ?_
            refine va_get (D := (dC, dI)) (ci := 2) (v := .ref a6) (C := RX2) (T := TX2) (N := 7) hx hb hts hinX2 hown hK hP 0 rfl rfl 6 (by decide) k_1 (fun _ h9 => h9) rfl dX2_ofBuffer_42 ?_
            refine lv_iload_n hx hb dX2_ofBuffer_45 rfl (lv_at hl 2 rfl) ?_
            refine lv_bipush (v := 8) hx hb dX2_ofBuffer_46 (by decide) ?_
            refine lv_imul hx hb dX2_ofBuffer_48 ?_
            refine lv_iload_n hx hb dX2_ofBuffer_49 rfl (lv_at hl 3 rfl) ?_
            refine lv_iadd hx hb dX2_ofBuffer_50 ?_
            refine za_iald (v := (fb (Int32.toNatClampNeg ((p1 * 8) + p2)))) hx hb hK hP 2 0 rfl rfl (zinB c_1 c_3 c_4 c_5) rfl dX2_ofBuffer_51 ?_
            refine lv_goto (tgt := 56) hx hb dX2_ofBuffer_52 (by decide) ?_
            have e_0 : (pfX2_ofBuffer_g_r m5 fb p1 p2) = (fb (Int32.toNatClampNeg ((p1 * 8) + p2))) := by rw [pfX2_ofBuffer_g_r, if_neg c_1, if_neg c_2, if_neg c_3, if_neg c_4, if_neg c_5]
            have hP9 := hP.sub (ws' := [(h, .inr (2, [.ref a0, .ref a1, .ref a2, .ref a3, .ref a4, .ref a5, .ref a6])), (a0, .inl (cI, 22, .inl (gl [m0, m1, m2, m3, m4, m5, m6, m7, m8, m9, m10, m11, m12, m13, m14, m15, m16, m17, 0, 4, 0, 16]))), (a6, .inl (cI, 4000, .inl fb))]) [0, 1, 2] rfl
            have hD9 := hD.sub (ws' := [(h, .inr (2, [.ref a0, .ref a1, .ref a2, .ref a3, .ref a4, .ref a5, .ref a6])), (a0, .inl (cI, 22, .inl (gl [m0, m1, m2, m3, m4, m5, m6, m7, m8, m9, m10, m11, m12, m13, m14, m15, m16, m17, 0, 4, 0, 16]))), (a6, .inl (cI, 4000, .inl fb))]) [0, 1, 2] (by decide) rfl
            exact W.iret (v := (fb (Int32.toNatClampNeg ((p1 * 8) + p2)))) hx hb hr (fun t ht hW => ⟨⟨(fb (Int32.toNatClampNeg ((p1 * 8) + p2))), (), rfl, e_0.symm, by rw [ht]; exact hP9, va_K.moved hW.alike hK, hD9⟩, hS.F ht⟩) hS.2.2 dX2_ofBuffer_56

def pfX2_putBuffer_g_a6_f (fb : Nat → Int32) (p1 : Int32) (p2 : Int32) (p3 : Int32) : Nat → Int32 := if p1 < 0 then fb else (if 500 ≤ p1 then fb else (if p2 < 0 then fb else (if 8 ≤ p2 then fb else (upd fb (Int32.toNatClampNeg ((p1 * 8) + p2)) p3))))
set_option maxHeartbeats 4000000 in
set_option maxRecDepth 100000 in
theorem kkX2_putBuffer_g (l : Launch) (dC : Nat → ClassId) (dI : Nat → Nat → Nat) (cI cB cZ cR : ClassId) (sz : Nat) (h : Nat) (a0 : Nat) (a1 : Nat) (a2 : Nat) (a3 : Nat) (a4 : Nat) (a5 : Nat) (a6 : Nat) (fb : Nat → Int32) (p1 : Int32) (p2 : Int32) (p3 : Int32) : Met l yX2_putBuffer (.code yX2_putBuffer cX2_putBuffer 4 none :: wsL_law) ({ frames := 0, cells := 0, slots := 0, locals := 0 }) (zPc dC dI (zT cI cB cZ cR) [.ref h, .int p1, .int p2, .int p3] sz [(h, .inr (2, [.ref a0, .ref a1, .ref a2, .ref a3, .ref a4, .ref a5, .ref a6])), (a6, .inl (cI, 4000, .inl fb))]) (va_Qv (fun _ : Unit => True) (fun _ : Unit => zB dC dI (zT cI cB cZ cR) (va_A [(h, .inr (2, [.ref a0, .ref a1, .ref a2, .ref a3, .ref a4, .ref a5, .ref a6])), (a6, .inl (cI, 4000, .inl fb))] sz) [(h, .inr (2, [.ref a0, .ref a1, .ref a2, .ref a3, .ref a4, .ref a5, .ref a6])), (a6, .inl (cI, 4000, .inl (pfX2_putBuffer_g_a6_f fb p1 p2 p3)))]) (va_A [(h, .inr (2, [.ref a0, .ref a1, .ref a2, .ref a3, .ref a4, .ref a5, .ref a6])), (a6, .inl (cI, 4000, .inl fb))] sz)) 0 0 (va_A [(h, .inr (2, [.ref a0, .ref a1, .ref a2, .ref a3, .ref a4, .ref a5, .ref a6])), (a6, .inl (cI, 4000, .inl fb))] sz) := by
  refine Met.ofW (cc := cX2_putBuffer) (maxL := 4) (ret := none) (by decide) rfl ?_
  intro p e s m args below meth c s₁ B hml hv
  obtain ⟨rfl, hsz, hP, hK, hD0, hN⟩ := hv
  have hx := B.exec
  have hb := B.bytes
  have hr := B.returns
  have hts := atoms_spec (ws := (.code yX2_putBuffer cX2_putBuffer 4 none :: wsL_law)) B.pre
  have hown : s.vm.findClass RX2 = some m.cls := findClass_of_methodNamed B.named
  have hlocks := B.notSynchronized
  have hinX2 : ∀ w ∈ u_ws RX2 TX2 7, w ∈ (.code yX2_putBuffer cX2_putBuffer 4 none :: wsL_law) := fun w h => List.mem_cons_of_mem _ (inlX2 w h)
  have k_0 := hts (.fieldLink RX2 30 "RingMarks$Ring" "buffers" "[I") (List.mem_cons_of_mem _ wm_67)
  subst hsz
  have hD := hD0.self (sz := s.heap.size)
  generalize hAe : va_A [(h, .inr (2, [.ref a0, .ref a1, .ref a2, .ref a3, .ref a4, .ref a5, .ref a6])), (a6, .inl (cI, 4000, .inl fb))] s.heap.size = A at hD ⊢
  have hA : ∀ q : Nat, s.heap.size ≤ q → A q := fun q h => by rw [← hAe]; exact Or.inr h
  have hP : va_P (dC, dI) vwCl [(h, .inr (2, [.ref a0, .ref a1, .ref a2, .ref a3, .ref a4, .ref a5, .ref a6])), (a6, .inl (cI, 4000, .inl fb))] s.heap := hP
  have hl := lv_entry ([.ref h, .int p1, .int p2, .int p3]) (n := 4) (Nat.le_of_ble_eq_true rfl)
  rw [lg_entry_eq]
  generalize (lg_sl ([.ref h, .int p1, .int p2, .int p3]) ++ List.replicate (4 - (lg_sl ([.ref h, .int p1, .int p2, .int p3])).length) Slot.unset).toArray = ls at hl ⊢
  have hl : lv_has ls 4 [(0, .ref h), (1, .int p1), (2, .int p2), (3, .int p3)] := hl
  obtain ⟨H, hH⟩ : ∃ H, H = s.heap := ⟨_, rfl⟩
  rw [← hH] at hP ⊢
  have hS : va_S A s.heap H [] := by rw [hH]; exact va_S.rf
  refine lv_iload_n hx hb dX2_putBuffer_0 rfl (lv_at hl 1 rfl) ?_
  refine lv_if_lt (tgt := 33) hx hb dX2_putBuffer_1 (by decide) (fun c_1 => ?_) (fun c_1 => ?_)
  · have e_0 : (pfX2_putBuffer_g_a6_f fb p1 p2 p3) = fb := by rw [pfX2_putBuffer_g_a6_f, if_pos c_1]
    have hP9 := hP.sub (ws' := [(h, .inr (2, [.ref a0, .ref a1, .ref a2, .ref a3, .ref a4, .ref a5, .ref a6])), (a6, .inl (cI, 4000, .inl fb))]) [0, 1] rfl
    have hD9 := hD.sub (ws' := [(h, .inr (2, [.ref a0, .ref a1, .ref a2, .ref a3, .ref a4, .ref a5, .ref a6])), (a6, .inl (cI, 4000, .inl fb))]) [0, 1] (by decide) rfl
    exact W.vret hx hb hr (fun t ht hW => ⟨⟨(), rfl, trivial, by rw [ht, e_0]; exact hP9, va_K.moved hW.alike hK, (by rw [e_0]; exact hD9)⟩, hS.F ht⟩) hS.2.2 dX2_putBuffer_33
  · refine lv_iload_n hx hb dX2_putBuffer_4 rfl (lv_at hl 1 rfl) ?_
    refine lv_sipush (v := 500) hx hb dX2_putBuffer_5 (by decide) ?_
    refine lv_icmp_ge (tgt := 33) hx hb dX2_putBuffer_8 (by decide) (fun c_2 => ?_) (fun c_2 => ?_)
    · have e_0 : (pfX2_putBuffer_g_a6_f fb p1 p2 p3) = fb := by rw [pfX2_putBuffer_g_a6_f, if_neg c_1, if_pos c_2]
      have hP9 := hP.sub (ws' := [(h, .inr (2, [.ref a0, .ref a1, .ref a2, .ref a3, .ref a4, .ref a5, .ref a6])), (a6, .inl (cI, 4000, .inl fb))]) [0, 1] rfl
      have hD9 := hD.sub (ws' := [(h, .inr (2, [.ref a0, .ref a1, .ref a2, .ref a3, .ref a4, .ref a5, .ref a6])), (a6, .inl (cI, 4000, .inl fb))]) [0, 1] (by decide) rfl
      exact W.vret hx hb hr (fun t ht hW => ⟨⟨(), rfl, trivial, by rw [ht, e_0]; exact hP9, va_K.moved hW.alike hK, (by rw [e_0]; exact hD9)⟩, hS.F ht⟩) hS.2.2 dX2_putBuffer_33
    · refine lv_iload_n hx hb dX2_putBuffer_11 rfl (lv_at hl 2 rfl) ?_
      refine lv_if_lt (tgt := 33) hx hb dX2_putBuffer_12 (by decide) (fun c_3 => ?_) (fun c_3 => ?_)
      · have e_0 : (pfX2_putBuffer_g_a6_f fb p1 p2 p3) = fb := by rw [pfX2_putBuffer_g_a6_f, if_neg c_1, if_neg c_2, if_pos c_3]
        have hP9 := hP.sub (ws' := [(h, .inr (2, [.ref a0, .ref a1, .ref a2, .ref a3, .ref a4, .ref a5, .ref a6])), (a6, .inl (cI, 4000, .inl fb))]) [0, 1] rfl
        have hD9 := hD.sub (ws' := [(h, .inr (2, [.ref a0, .ref a1, .ref a2, .ref a3, .ref a4, .ref a5, .ref a6])), (a6, .inl (cI, 4000, .inl fb))]) [0, 1] (by decide) rfl
        exact W.vret hx hb hr (fun t ht hW => ⟨⟨(), rfl, trivial, by rw [ht, e_0]; exact hP9, va_K.moved hW.alike hK, (by rw [e_0]; exact hD9)⟩, hS.F ht⟩) hS.2.2 dX2_putBuffer_33
      · refine lv_iload_n hx hb dX2_putBuffer_15 rfl (lv_at hl 2 rfl) ?_
        refine lv_bipush (v := 8) hx hb dX2_putBuffer_16 (by decide) ?_
        refine lv_icmp_ge (tgt := 33) hx hb dX2_putBuffer_18 (by decide) (fun c_4 => ?_) (fun c_4 => ?_)
        · have e_0 : (pfX2_putBuffer_g_a6_f fb p1 p2 p3) = fb := by rw [pfX2_putBuffer_g_a6_f, if_neg c_1, if_neg c_2, if_neg c_3, if_pos c_4]
          have hP9 := hP.sub (ws' := [(h, .inr (2, [.ref a0, .ref a1, .ref a2, .ref a3, .ref a4, .ref a5, .ref a6])), (a6, .inl (cI, 4000, .inl fb))]) [0, 1] rfl
          have hD9 := hD.sub (ws' := [(h, .inr (2, [.ref a0, .ref a1, .ref a2, .ref a3, .ref a4, .ref a5, .ref a6])), (a6, .inl (cI, 4000, .inl fb))]) [0, 1] (by decide) rfl
          exact W.vret hx hb hr (fun t ht hW => ⟨⟨(), rfl, trivial, by rw [ht, e_0]; exact hP9, va_K.moved hW.alike hK, (by rw [e_0]; exact hD9)⟩, hS.F ht⟩) hS.2.2 dX2_putBuffer_33
        · refine lv_aload_n hx hb dX2_putBuffer_21 rfl (lv_at hl 0 rfl) ?_
          refine va_get (D := (dC, dI)) (ci := 2) (v := .ref a6) (C := RX2) (T := TX2) (N := 7) hx hb hts hinX2 hown hK hP 0 rfl rfl 6 (by decide) k_0 (fun _ h9 => h9) rfl dX2_putBuffer_22 ?_
          refine lv_iload_n hx hb dX2_putBuffer_25 rfl (lv_at hl 1 rfl) ?_
          refine lv_bipush (v := 8) hx hb dX2_putBuffer_26 (by decide) ?_
          refine lv_imul hx hb dX2_putBuffer_28 ?_
          refine lv_iload_n hx hb dX2_putBuffer_29 rfl (lv_at hl 2 rfl) ?_
          refine lv_iadd hx hb dX2_putBuffer_30 ?_
          refine lv_iload_n hx hb dX2_putBuffer_31 rfl (lv_at hl 3 rfl) ?_
          refine za_iast (f' := (upd fb (Int32.toNatClampNeg ((p1 * 8) + p2)) p3)) hx hb hK hP hD hS 1 0 rfl rfl (zinB c_1 c_2 c_3 c_4) rfl dX2_putBuffer_32 (fun H locs hP hD hS => ?_)
          have hP : va_P (dC, dI) vwCl [(h, .inr (2, [.ref a0, .ref a1, .ref a2, .ref a3, .ref a4, .ref a5, .ref a6])), (a6, .inl (cI, 4000, .inl (upd fb (Int32.toNatClampNeg ((p1 * 8) + p2)) p3)))] H := hP
          have hD : va_D A [(h, .inr (2, [.ref a0, .ref a1, .ref a2, .ref a3, .ref a4, .ref a5, .ref a6])), (a6, .inl (cI, 4000, .inl (upd fb (Int32.toNatClampNeg ((p1 * 8) + p2)) p3)))] := hD
          have e_0 : (pfX2_putBuffer_g_a6_f fb p1 p2 p3) = (upd fb (Int32.toNatClampNeg ((p1 * 8) + p2)) p3) := by rw [pfX2_putBuffer_g_a6_f, if_neg c_1, if_neg c_2, if_neg c_3, if_neg c_4]
          have hP9 := hP.sub (ws' := [(h, .inr (2, [.ref a0, .ref a1, .ref a2, .ref a3, .ref a4, .ref a5, .ref a6])), (a6, .inl (cI, 4000, .inl (upd fb (Int32.toNatClampNeg ((p1 * 8) + p2)) p3)))]) [0, 1] rfl
          have hD9 := hD.sub (ws' := [(h, .inr (2, [.ref a0, .ref a1, .ref a2, .ref a3, .ref a4, .ref a5, .ref a6])), (a6, .inl (cI, 4000, .inl (upd fb (Int32.toNatClampNeg ((p1 * 8) + p2)) p3)))]) [0, 1] (by decide) rfl
          exact W.vret hx hb hr (fun t ht hW => ⟨⟨(), rfl, trivial, by rw [ht, e_0]; exact hP9, va_K.moved hW.alike hK, (by rw [e_0]; exact hD9)⟩, hS.F ht⟩) hS.2.2 dX2_putBuffer_33

def pfX2_leastFreeId_r (o0 : Int32) (o1 : Int32) (o2 : Int32) (o3 : Int32) : Int32 := if o0 = (-1) then 0 else (if o1 = (-1) then 1 else (if o2 = (-1) then 2 else (if o3 = (-1) then 3 else (-1))))
set_option maxHeartbeats 4000000 in
set_option maxRecDepth 100000 in
theorem kkX2_leastFreeId (l : Launch) (dC : Nat → ClassId) (dI : Nat → Nat → Nat) (cI cB cZ cR : ClassId) (sz : Nat) (h : Nat) (a0 : Nat) (a1 : Nat) (a2 : Nat) (a3 : Nat) (a4 : Nat) (a5 : Nat) (a6 : Nat) (m0 : Int32) (m1 : Int32) (m2 : Int32) (m3 : Int32) (m4 : Int32) (m5 : Int32) (m6 : Int32) (m7 : Int32) (m8 : Int32) (m9 : Int32) (m10 : Int32) (m11 : Int32) (m12 : Int32) (m13 : Int32) (m14 : Int32) (m15 : Int32) (m16 : Int32) (m17 : Int32) (o0 : Int32) (o1 : Int32) (o2 : Int32) (o3 : Int32) : Met l yX2_leastFreeId (.code yX2_leastFreeId cX2_leastFreeId 2 (some .int) :: wsL_law) ({ frames := 1, cells := 0, slots := 0, locals := 20 }) (zPc dC dI (zT cI cB cZ cR) [.ref h] sz [(h, .inr (2, [.ref a0, .ref a1, .ref a2, .ref a3, .ref a4, .ref a5, .ref a6])), (a0, .inl (cI, 22, .inl (gl [m0, m1, m2, m3, m4, m5, m6, m7, m8, m9, m10, m11, m12, m13, m14, m15, m16, m17, 0, 4, 0, 16]))), (a4, .inl (cI, 8, .inl (gl [o0, o1, o2, o3, (-1), (-1), (-1), (-1)])))]) (va_Qi (fun (r : Int32) (_ : Unit) => r = (pfX2_leastFreeId_r o0 o1 o2 o3)) (fun _ : Unit => zB dC dI (zT cI cB cZ cR) (va_A [(h, .inr (2, [.ref a0, .ref a1, .ref a2, .ref a3, .ref a4, .ref a5, .ref a6])), (a0, .inl (cI, 22, .inl (gl [m0, m1, m2, m3, m4, m5, m6, m7, m8, m9, m10, m11, m12, m13, m14, m15, m16, m17, 0, 4, 0, 16]))), (a4, .inl (cI, 8, .inl (gl [o0, o1, o2, o3, (-1), (-1), (-1), (-1)])))] sz) [(h, .inr (2, [.ref a0, .ref a1, .ref a2, .ref a3, .ref a4, .ref a5, .ref a6])), (a0, .inl (cI, 22, .inl (gl [m0, m1, m2, m3, m4, m5, m6, m7, m8, m9, m10, m11, m12, m13, m14, m15, m16, m17, 0, 4, 0, 16]))), (a4, .inl (cI, 8, .inl (gl [o0, o1, o2, o3, (-1), (-1), (-1), (-1)])))]) (va_A [(h, .inr (2, [.ref a0, .ref a1, .ref a2, .ref a3, .ref a4, .ref a5, .ref a6])), (a0, .inl (cI, 22, .inl (gl [m0, m1, m2, m3, m4, m5, m6, m7, m8, m9, m10, m11, m12, m13, m14, m15, m16, m17, 0, 4, 0, 16]))), (a4, .inl (cI, 8, .inl (gl [o0, o1, o2, o3, (-1), (-1), (-1), (-1)])))] sz)) 0 0 (va_A [(h, .inr (2, [.ref a0, .ref a1, .ref a2, .ref a3, .ref a4, .ref a5, .ref a6])), (a0, .inl (cI, 22, .inl (gl [m0, m1, m2, m3, m4, m5, m6, m7, m8, m9, m10, m11, m12, m13, m14, m15, m16, m17, 0, 4, 0, 16]))), (a4, .inl (cI, 8, .inl (gl [o0, o1, o2, o3, (-1), (-1), (-1), (-1)])))] sz) := by
  refine Met.ofW (cc := cX2_leastFreeId) (maxL := 2) (ret := (some .int)) (by decide) rfl ?_
  intro p e s m args below meth c s₁ B hml hv
  obtain ⟨rfl, hsz, hP, hK, hD0, hN⟩ := hv
  have hx := B.exec
  have hb := B.bytes
  have hr := B.returns
  have hts := atoms_spec (ws := (.code yX2_leastFreeId cX2_leastFreeId 2 (some .int) :: wsL_law)) B.pre
  have hown : s.vm.findClass RX2 = some m.cls := findClass_of_methodNamed B.named
  have hlocks := B.notSynchronized
  have hinX2 : ∀ w ∈ u_ws RX2 TX2 7, w ∈ (.code yX2_leastFreeId cX2_leastFreeId 2 (some .int) :: wsL_law) := fun w h => List.mem_cons_of_mem _ (inlX2 w h)
  have k_0 := hts (.fieldLink RX2 24 "RingMarks$Ring" "owners" "[I") (List.mem_cons_of_mem _ wm_65)
  subst hsz
  have hD := hD0.self (sz := s.heap.size)
  generalize hAe : va_A [(h, .inr (2, [.ref a0, .ref a1, .ref a2, .ref a3, .ref a4, .ref a5, .ref a6])), (a0, .inl (cI, 22, .inl (gl [m0, m1, m2, m3, m4, m5, m6, m7, m8, m9, m10, m11, m12, m13, m14, m15, m16, m17, 0, 4, 0, 16]))), (a4, .inl (cI, 8, .inl (gl [o0, o1, o2, o3, (-1), (-1), (-1), (-1)])))] s.heap.size = A at hD ⊢
  have hA : ∀ q : Nat, s.heap.size ≤ q → A q := fun q h => by rw [← hAe]; exact Or.inr h
  have hP : va_P (dC, dI) vwCl [(h, .inr (2, [.ref a0, .ref a1, .ref a2, .ref a3, .ref a4, .ref a5, .ref a6])), (a0, .inl (cI, 22, .inl (gl [m0, m1, m2, m3, m4, m5, m6, m7, m8, m9, m10, m11, m12, m13, m14, m15, m16, m17, 0, 4, 0, 16]))), (a4, .inl (cI, 8, .inl (gl [o0, o1, o2, o3, (-1), (-1), (-1), (-1)])))] s.heap := hP
  have hl := lv_entry ([.ref h]) (n := 2) (Nat.le_of_ble_eq_true rfl)
  rw [lg_entry_eq]
  generalize (lg_sl ([.ref h]) ++ List.replicate (2 - (lg_sl ([.ref h])).length) Slot.unset).toArray = ls at hl ⊢
  have hl : lv_has ls 2 [(0, .ref h)] := hl
  obtain ⟨H, hH⟩ : ∃ H, H = s.heap := ⟨_, rfl⟩
  rw [← hH] at hP ⊢
  have hS : va_S A s.heap H [] := by rw [hH]; exact va_S.rf
  refine lv_iconst (v := 0) hx hb dX2_leastFreeId_0 (by decide) ?_
  refine lv_istore_n (lv' := [(1, .int 0), (0, .ref h)]) hx hb dX2_leastFreeId_1 rfl hl (by decide) rfl (fun ls hl => ?_)
  refine lv_iload_n hx hb dX2_leastFreeId_2 rfl (lv_at hl 0 rfl) ?_
  refine lv_aload_n hx hb dX2_leastFreeId_3 rfl (lv_at hl 1 rfl) ?_
  refine zcVi (As := []) (rest := [.int 0]) (wr := [(a4, .inl (cI, 8, .inl (gl [o0, o1, o2, o3, (-1), (-1), (-1), (-1)])))]) ⟨hx, hb, hml, hown, hts⟩ (kkX2_places l dC dI cI cB cZ cR H.size h a0 a1 a2 a3 a4 a5 a6 m0 m1 m2 m3 m4 m5 m6 m7 m8 m9 m10 m11 m12 m13 m14 m15 m16 m17 ) (cwV 0 hts (zgV wm_259 wm_260 wm_261 wm_22 wm_262) rfl rfl rfl (by decide +kernel) ⟨Nat.le_of_ble_eq_true rfl, Nat.le_of_ble_eq_true rfl⟩) hN hK hP hD hS hA [0, 1] [2] rfl rfl ⟨rfl, rfl⟩ (by decide) (ci := 2) rfl rfl rfl rfl hl.1 rfl (Nat.le_of_ble_eq_true rfl) dX2_leastFreeId_4 ⟨Nat.le_of_ble_eq_true rfl, Nat.le_of_ble_eq_true rfl⟩ (fun r u hu H locs hP hD hS => ?_)
  have hu : r = 4 := hu
  subst hu
  have hP : va_P (dC, dI) vwCl [(a4, .inl (cI, 8, .inl (gl [o0, o1, o2, o3, (-1), (-1), (-1), (-1)]))), (h, .inr (2, [.ref a0, .ref a1, .ref a2, .ref a3, .ref a4, .ref a5, .ref a6])), (a0, .inl (cI, 22, .inl (gl [m0, m1, m2, m3, m4, m5, m6, m7, m8, m9, m10, m11, m12, m13, m14, m15, m16, m17, 0, 4, 0, 16])))] H := hP
  have hD : va_D A [(a4, .inl (cI, 8, .inl (gl [o0, o1, o2, o3, (-1), (-1), (-1), (-1)]))), (h, .inr (2, [.ref a0, .ref a1, .ref a2, .ref a3, .ref a4, .ref a5, .ref a6])), (a0, .inl (cI, 22, .inl (gl [m0, m1, m2, m3, m4, m5, m6, m7, m8, m9, m10, m11, m12, m13, m14, m15, m16, m17, 0, 4, 0, 16])))] := hD
  refine lv_icmp_ge (tgt := 34) hx hb dX2_leastFreeId_7 (by decide) (fun c => absurd c (by decide)) (fun _ => ?_)
  refine lv_iload_n hx hb dX2_leastFreeId_10 rfl (lv_at hl 0 rfl) ?_
  refine lv_bipush (v := 8) hx hb dX2_leastFreeId_11 (by decide) ?_
  refine lv_icmp_ge (tgt := 34) hx hb dX2_leastFreeId_13 (by decide) (fun c => absurd c (by decide)) (fun _ => ?_)
  refine lv_aload_n hx hb dX2_leastFreeId_16 rfl (lv_at hl 1 rfl) ?_
  refine va_get (D := (dC, dI)) (ci := 2) (v := .ref a4) (C := RX2) (T := TX2) (N := 7) hx hb hts hinX2 hown hK hP 1 rfl rfl 4 (by decide) k_0 (fun _ h9 => h9) rfl dX2_leastFreeId_17 ?_
  refine lv_iload_n hx hb dX2_leastFreeId_20 rfl (lv_at hl 0 rfl) ?_
  refine za_iald (v := o0) hx hb hK hP 0 0 rfl rfl (zin tn_0 (Nat.le_of_ble_eq_true rfl)) (zrd _ tn_0 rfl) dX2_leastFreeId_21 ?_
  refine lv_iconst (v := (-1)) hx hb dX2_leastFreeId_22 (by decide) ?_
  refine lv_icmp_ne (tgt := 28) hx hb dX2_leastFreeId_23 (by decide) (fun c_1 => ?_) (fun c_1 => ?_)
  · refine lv_iinc (v := 1) (lv' := [(1, .int 1), (0, .ref h)]) hx hb dX2_leastFreeId_28 hl (k := 0) rfl (by decide) (by decide) rfl (fun ls hl => ?_)
    refine lv_goto (tgt := 2) hx hb dX2_leastFreeId_31 (by decide) ?_
    refine lv_iload_n hx hb dX2_leastFreeId_2 rfl (lv_at hl 0 rfl) ?_
    refine lv_aload_n hx hb dX2_leastFreeId_3 rfl (lv_at hl 1 rfl) ?_
    refine zcVi (As := []) (rest := [.int 1]) (wr := [(a4, .inl (cI, 8, .inl (gl [o0, o1, o2, o3, (-1), (-1), (-1), (-1)])))]) ⟨hx, hb, hml, hown, hts⟩ (kkX2_places l dC dI cI cB cZ cR H.size h a0 a1 a2 a3 a4 a5 a6 m0 m1 m2 m3 m4 m5 m6 m7 m8 m9 m10 m11 m12 m13 m14 m15 m16 m17 ) (cwV 0 hts (zgV wm_259 wm_260 wm_261 wm_22 wm_262) rfl rfl rfl (by decide +kernel) ⟨Nat.le_of_ble_eq_true rfl, Nat.le_of_ble_eq_true rfl⟩) hN hK hP hD hS hA [1, 2] [0] rfl rfl ⟨rfl, rfl⟩ (by decide) (ci := 2) rfl rfl rfl rfl hl.1 rfl (Nat.le_of_ble_eq_true rfl) dX2_leastFreeId_4 ⟨Nat.le_of_ble_eq_true rfl, Nat.le_of_ble_eq_true rfl⟩ (fun r u hu H locs hP hD hS => ?_)
    have hu : r = 4 := hu
    subst hu
    have hP : va_P (dC, dI) vwCl [(a4, .inl (cI, 8, .inl (gl [o0, o1, o2, o3, (-1), (-1), (-1), (-1)]))), (h, .inr (2, [.ref a0, .ref a1, .ref a2, .ref a3, .ref a4, .ref a5, .ref a6])), (a0, .inl (cI, 22, .inl (gl [m0, m1, m2, m3, m4, m5, m6, m7, m8, m9, m10, m11, m12, m13, m14, m15, m16, m17, 0, 4, 0, 16])))] H := hP
    have hD : va_D A [(a4, .inl (cI, 8, .inl (gl [o0, o1, o2, o3, (-1), (-1), (-1), (-1)]))), (h, .inr (2, [.ref a0, .ref a1, .ref a2, .ref a3, .ref a4, .ref a5, .ref a6])), (a0, .inl (cI, 22, .inl (gl [m0, m1, m2, m3, m4, m5, m6, m7, m8, m9, m10, m11, m12, m13, m14, m15, m16, m17, 0, 4, 0, 16])))] := hD
    refine lv_icmp_ge (tgt := 34) hx hb dX2_leastFreeId_7 (by decide) (fun c => absurd c (by decide)) (fun _ => ?_)
    refine lv_iload_n hx hb dX2_leastFreeId_10 rfl (lv_at hl 0 rfl) ?_
    refine lv_bipush (v := 8) hx hb dX2_leastFreeId_11 (by decide) ?_
    refine lv_icmp_ge (tgt := 34) hx hb dX2_leastFreeId_13 (by decide) (fun c => absurd c (by decide)) (fun _ => ?_)
    refine lv_aload_n hx hb dX2_leastFreeId_16 rfl (lv_at hl 1 rfl) ?_
    refine va_get (D := (dC, dI)) (ci := 2) (v := .ref a4) (C := RX2) (T := TX2) (N := 7) hx hb hts hinX2 hown hK hP 1 rfl rfl 4 (by decide) k_0 (fun _ h9 => h9) rfl dX2_leastFreeId_17 ?_
    refine lv_iload_n hx hb dX2_leastFreeId_20 rfl (lv_at hl 0 rfl) ?_
    refine za_iald (v := o1) hx hb hK hP 0 0 rfl rfl (zin tn_1 (Nat.le_of_ble_eq_true rfl)) (zrd _ tn_1 rfl) dX2_leastFreeId_21 ?_
    refine lv_iconst (v := (-1)) hx hb dX2_leastFreeId_22 (by decide) ?_
    refine lv_icmp_ne (tgt := 28) hx hb dX2_leastFreeId_23 (by decide) (fun c_2 => ?_) (fun c_2 => ?_)
    · refine lv_iinc (v := 2) (lv' := [(1, .int 2), (0, .ref h)]) hx hb dX2_leastFreeId_28 hl (k := 0) rfl (by decide) (by decide) rfl (fun ls hl => ?_)
      refine lv_goto (tgt := 2) hx hb dX2_leastFreeId_31 (by decide) ?_
      refine lv_iload_n hx hb dX2_leastFreeId_2 rfl (lv_at hl 0 rfl) ?_
      refine lv_aload_n hx hb dX2_leastFreeId_3 rfl (lv_at hl 1 rfl) ?_
      refine zcVi (As := []) (rest := [.int 2]) (wr := [(a4, .inl (cI, 8, .inl (gl [o0, o1, o2, o3, (-1), (-1), (-1), (-1)])))]) ⟨hx, hb, hml, hown, hts⟩ (kkX2_places l dC dI cI cB cZ cR H.size h a0 a1 a2 a3 a4 a5 a6 m0 m1 m2 m3 m4 m5 m6 m7 m8 m9 m10 m11 m12 m13 m14 m15 m16 m17 ) (cwV 0 hts (zgV wm_259 wm_260 wm_261 wm_22 wm_262) rfl rfl rfl (by decide +kernel) ⟨Nat.le_of_ble_eq_true rfl, Nat.le_of_ble_eq_true rfl⟩) hN hK hP hD hS hA [1, 2] [0] rfl rfl ⟨rfl, rfl⟩ (by decide) (ci := 2) rfl rfl rfl rfl hl.1 rfl (Nat.le_of_ble_eq_true rfl) dX2_leastFreeId_4 ⟨Nat.le_of_ble_eq_true rfl, Nat.le_of_ble_eq_true rfl⟩ (fun r u hu H locs hP hD hS => ?_)
      have hu : r = 4 := hu
      subst hu
      have hP : va_P (dC, dI) vwCl [(a4, .inl (cI, 8, .inl (gl [o0, o1, o2, o3, (-1), (-1), (-1), (-1)]))), (h, .inr (2, [.ref a0, .ref a1, .ref a2, .ref a3, .ref a4, .ref a5, .ref a6])), (a0, .inl (cI, 22, .inl (gl [m0, m1, m2, m3, m4, m5, m6, m7, m8, m9, m10, m11, m12, m13, m14, m15, m16, m17, 0, 4, 0, 16])))] H := hP
      have hD : va_D A [(a4, .inl (cI, 8, .inl (gl [o0, o1, o2, o3, (-1), (-1), (-1), (-1)]))), (h, .inr (2, [.ref a0, .ref a1, .ref a2, .ref a3, .ref a4, .ref a5, .ref a6])), (a0, .inl (cI, 22, .inl (gl [m0, m1, m2, m3, m4, m5, m6, m7, m8, m9, m10, m11, m12, m13, m14, m15, m16, m17, 0, 4, 0, 16])))] := hD
      refine lv_icmp_ge (tgt := 34) hx hb dX2_leastFreeId_7 (by decide) (fun c => absurd c (by decide)) (fun _ => ?_)
      refine lv_iload_n hx hb dX2_leastFreeId_10 rfl (lv_at hl 0 rfl) ?_
      refine lv_bipush (v := 8) hx hb dX2_leastFreeId_11 (by decide) ?_
      refine lv_icmp_ge (tgt := 34) hx hb dX2_leastFreeId_13 (by decide) (fun c => absurd c (by decide)) (fun _ => ?_)
      refine lv_aload_n hx hb dX2_leastFreeId_16 rfl (lv_at hl 1 rfl) ?_
      refine va_get (D := (dC, dI)) (ci := 2) (v := .ref a4) (C := RX2) (T := TX2) (N := 7) hx hb hts hinX2 hown hK hP 1 rfl rfl 4 (by decide) k_0 (fun _ h9 => h9) rfl dX2_leastFreeId_17 ?_
      refine lv_iload_n hx hb dX2_leastFreeId_20 rfl (lv_at hl 0 rfl) ?_
      refine za_iald (v := o2) hx hb hK hP 0 0 rfl rfl (zin tn_2 (Nat.le_of_ble_eq_true rfl)) (zrd _ tn_2 rfl) dX2_leastFreeId_21 ?_
      refine lv_iconst (v := (-1)) hx hb dX2_leastFreeId_22 (by decide) ?_
      refine lv_icmp_ne (tgt := 28) hx hb dX2_leastFreeId_23 (by decide) (fun c_3 => ?_) (fun c_3 => ?_)
      · refine lv_iinc (v := 3) (lv' := [(1, .int 3), (0, .ref h)]) hx hb dX2_leastFreeId_28 hl (k := 0) rfl (by decide) (by decide) rfl (fun ls hl => ?_)
        refine lv_goto (tgt := 2) hx hb dX2_leastFreeId_31 (by decide) ?_
        refine lv_iload_n hx hb dX2_leastFreeId_2 rfl (lv_at hl 0 rfl) ?_
        refine lv_aload_n hx hb dX2_leastFreeId_3 rfl (lv_at hl 1 rfl) ?_
        refine zcVi (As := []) (rest := [.int 3]) (wr := [(a4, .inl (cI, 8, .inl (gl [o0, o1, o2, o3, (-1), (-1), (-1), (-1)])))]) ⟨hx, hb, hml, hown, hts⟩ (kkX2_places l dC dI cI cB cZ cR H.size h a0 a1 a2 a3 a4 a5 a6 m0 m1 m2 m3 m4 m5 m6 m7 m8 m9 m10 m11 m12 m13 m14 m15 m16 m17 ) (cwV 0 hts (zgV wm_259 wm_260 wm_261 wm_22 wm_262) rfl rfl rfl (by decide +kernel) ⟨Nat.le_of_ble_eq_true rfl, Nat.le_of_ble_eq_true rfl⟩) hN hK hP hD hS hA [1, 2] [0] rfl rfl ⟨rfl, rfl⟩ (by decide) (ci := 2) rfl rfl rfl rfl hl.1 rfl (Nat.le_of_ble_eq_true rfl) dX2_leastFreeId_4 ⟨Nat.le_of_ble_eq_true rfl, Nat.le_of_ble_eq_true rfl⟩ (fun r u hu H locs hP hD hS => ?_)
        have hu : r = 4 := hu
        subst hu
        have hP : va_P (dC, dI) vwCl [(a4, .inl (cI, 8, .inl (gl [o0, o1, o2, o3, (-1), (-1), (-1), (-1)]))), (h, .inr (2, [.ref a0, .ref a1, .ref a2, .ref a3, .ref a4, .ref a5, .ref a6])), (a0, .inl (cI, 22, .inl (gl [m0, m1, m2, m3, m4, m5, m6, m7, m8, m9, m10, m11, m12, m13, m14, m15, m16, m17, 0, 4, 0, 16])))] H := hP
        have hD : va_D A [(a4, .inl (cI, 8, .inl (gl [o0, o1, o2, o3, (-1), (-1), (-1), (-1)]))), (h, .inr (2, [.ref a0, .ref a1, .ref a2, .ref a3, .ref a4, .ref a5, .ref a6])), (a0, .inl (cI, 22, .inl (gl [m0, m1, m2, m3, m4, m5, m6, m7, m8, m9, m10, m11, m12, m13, m14, m15, m16, m17, 0, 4, 0, 16])))] := hD
        refine lv_icmp_ge (tgt := 34) hx hb dX2_leastFreeId_7 (by decide) (fun c => absurd c (by decide)) (fun _ => ?_)
        refine lv_iload_n hx hb dX2_leastFreeId_10 rfl (lv_at hl 0 rfl) ?_
        refine lv_bipush (v := 8) hx hb dX2_leastFreeId_11 (by decide) ?_
        refine lv_icmp_ge (tgt := 34) hx hb dX2_leastFreeId_13 (by decide) (fun c => absurd c (by decide)) (fun _ => ?_)
        refine lv_aload_n hx hb dX2_leastFreeId_16 rfl (lv_at hl 1 rfl) ?_
        refine va_get (D := (dC, dI)) (ci := 2) (v := .ref a4) (C := RX2) (T := TX2) (N := 7) hx hb hts hinX2 hown hK hP 1 rfl rfl 4 (by decide) k_0 (fun _ h9 => h9) rfl dX2_leastFreeId_17 ?_
        refine lv_iload_n hx hb dX2_leastFreeId_20 rfl (lv_at hl 0 rfl) ?_
        refine za_iald (v := o3) hx hb hK hP 0 0 rfl rfl (zin tn_3 (Nat.le_of_ble_eq_true rfl)) (zrd _ tn_3 rfl) dX2_leastFreeId_21 ?_
        refine lv_iconst (v := (-1)) hx hb dX2_leastFreeId_22 (by decide) ?_
        refine lv_icmp_ne (tgt := 28) hx hb dX2_leastFreeId_23 (by decide) (fun c_4 => ?_) (fun c_4 => ?_)
        · refine lv_iinc (v := 4) (lv' := [(1, .int 4), (0, .ref h)]) hx hb dX2_leastFreeId_28 hl (k := 0) rfl (by decide) (by decide) rfl (fun ls hl => ?_)
          refine lv_goto (tgt := 2) hx hb dX2_leastFreeId_31 (by decide) ?_
          refine lv_iload_n hx hb dX2_leastFreeId_2 rfl (lv_at hl 0 rfl) ?_
          refine lv_aload_n hx hb dX2_leastFreeId_3 rfl (lv_at hl 1 rfl) ?_
          refine zcVi (As := []) (rest := [.int 4]) (wr := [(a4, .inl (cI, 8, .inl (gl [o0, o1, o2, o3, (-1), (-1), (-1), (-1)])))]) ⟨hx, hb, hml, hown, hts⟩ (kkX2_places l dC dI cI cB cZ cR H.size h a0 a1 a2 a3 a4 a5 a6 m0 m1 m2 m3 m4 m5 m6 m7 m8 m9 m10 m11 m12 m13 m14 m15 m16 m17 ) (cwV 0 hts (zgV wm_259 wm_260 wm_261 wm_22 wm_262) rfl rfl rfl (by decide +kernel) ⟨Nat.le_of_ble_eq_true rfl, Nat.le_of_ble_eq_true rfl⟩) hN hK hP hD hS hA [1, 2] [0] rfl rfl ⟨rfl, rfl⟩ (by decide) (ci := 2) rfl rfl rfl rfl hl.1 rfl (Nat.le_of_ble_eq_true rfl) dX2_leastFreeId_4 ⟨Nat.le_of_ble_eq_true rfl, Nat.le_of_ble_eq_true rfl⟩ (fun r u hu H locs hP hD hS => ?_)
          have hu : r = 4 := hu
          subst hu
          have hP : va_P (dC, dI) vwCl [(a4, .inl (cI, 8, .inl (gl [o0, o1, o2, o3, (-1), (-1), (-1), (-1)]))), (h, .inr (2, [.ref a0, .ref a1, .ref a2, .ref a3, .ref a4, .ref a5, .ref a6])), (a0, .inl (cI, 22, .inl (gl [m0, m1, m2, m3, m4, m5, m6, m7, m8, m9, m10, m11, m12, m13, m14, m15, m16, m17, 0, 4, 0, 16])))] H := hP
          have hD : va_D A [(a4, .inl (cI, 8, .inl (gl [o0, o1, o2, o3, (-1), (-1), (-1), (-1)]))), (h, .inr (2, [.ref a0, .ref a1, .ref a2, .ref a3, .ref a4, .ref a5, .ref a6])), (a0, .inl (cI, 22, .inl (gl [m0, m1, m2, m3, m4, m5, m6, m7, m8, m9, m10, m11, m12, m13, m14, m15, m16, m17, 0, 4, 0, 16])))] := hD
          refine lv_icmp_ge (tgt := 34) hx hb dX2_leastFreeId_7 (by decide) (fun _ => ?_) (fun c => absurd (by decide) c)
          refine lv_iconst (v := (-1)) hx hb dX2_leastFreeId_34 (by decide) ?_
          have e_0 : (pfX2_leastFreeId_r o0 o1 o2 o3) = (-1) := by rw [pfX2_leastFreeId_r, if_neg c_1, if_neg c_2, if_neg c_3, if_neg c_4]
          have hP9 := hP.sub (ws' := [(h, .inr (2, [.ref a0, .ref a1, .ref a2, .ref a3, .ref a4, .ref a5, .ref a6])), (a0, .inl (cI, 22, .inl (gl [m0, m1, m2, m3, m4, m5, m6, m7, m8, m9, m10, m11, m12, m13, m14, m15, m16, m17, 0, 4, 0, 16]))), (a4, .inl (cI, 8, .inl (gl [o0, o1, o2, o3, (-1), (-1), (-1), (-1)])))]) [1, 2, 0] rfl
          have hD9 := hD.sub (ws' := [(h, .inr (2, [.ref a0, .ref a1, .ref a2, .ref a3, .ref a4, .ref a5, .ref a6])), (a0, .inl (cI, 22, .inl (gl [m0, m1, m2, m3, m4, m5, m6, m7, m8, m9, m10, m11, m12, m13, m14, m15, m16, m17, 0, 4, 0, 16]))), (a4, .inl (cI, 8, .inl (gl [o0, o1, o2, o3, (-1), (-1), (-1), (-1)])))]) [1, 2, 0] (by decide) rfl
          exact W.iret (v := (-1)) hx hb hr (fun t ht hW => ⟨⟨(-1), (), rfl, e_0.symm, by rw [ht]; exact hP9, va_K.moved hW.alike hK, hD9⟩, hS.F ht⟩) hS.2.2 dX2_leastFreeId_35
        · refine lv_iload_n hx hb dX2_leastFreeId_26 rfl (lv_at hl 0 rfl) ?_
          have e_0 : (pfX2_leastFreeId_r o0 o1 o2 o3) = 3 := by rw [pfX2_leastFreeId_r, if_neg c_1, if_neg c_2, if_neg c_3, if_pos c_4]
          have hP9 := hP.sub (ws' := [(h, .inr (2, [.ref a0, .ref a1, .ref a2, .ref a3, .ref a4, .ref a5, .ref a6])), (a0, .inl (cI, 22, .inl (gl [m0, m1, m2, m3, m4, m5, m6, m7, m8, m9, m10, m11, m12, m13, m14, m15, m16, m17, 0, 4, 0, 16]))), (a4, .inl (cI, 8, .inl (gl [o0, o1, o2, o3, (-1), (-1), (-1), (-1)])))]) [1, 2, 0] rfl
          have hD9 := hD.sub (ws' := [(h, .inr (2, [.ref a0, .ref a1, .ref a2, .ref a3, .ref a4, .ref a5, .ref a6])), (a0, .inl (cI, 22, .inl (gl [m0, m1, m2, m3, m4, m5, m6, m7, m8, m9, m10, m11, m12, m13, m14, m15, m16, m17, 0, 4, 0, 16]))), (a4, .inl (cI, 8, .inl (gl [o0, o1, o2, o3, (-1), (-1), (-1), (-1)])))]) [1, 2, 0] (by decide) rfl
          exact W.iret (v := 3) hx hb hr (fun t ht hW => ⟨⟨3, (), rfl, e_0.symm, by rw [ht]; exact hP9, va_K.moved hW.alike hK, hD9⟩, hS.F ht⟩) hS.2.2 dX2_leastFreeId_27
      · refine lv_iload_n hx hb dX2_leastFreeId_26 rfl (lv_at hl 0 rfl) ?_
        have e_0 : (pfX2_leastFreeId_r o0 o1 o2 o3) = 2 := by rw [pfX2_leastFreeId_r, if_neg c_1, if_neg c_2, if_pos c_3]
        have hP9 := hP.sub (ws' := [(h, .inr (2, [.ref a0, .ref a1, .ref a2, .ref a3, .ref a4, .ref a5, .ref a6])), (a0, .inl (cI, 22, .inl (gl [m0, m1, m2, m3, m4, m5, m6, m7, m8, m9, m10, m11, m12, m13, m14, m15, m16, m17, 0, 4, 0, 16]))), (a4, .inl (cI, 8, .inl (gl [o0, o1, o2, o3, (-1), (-1), (-1), (-1)])))]) [1, 2, 0] rfl
        have hD9 := hD.sub (ws' := [(h, .inr (2, [.ref a0, .ref a1, .ref a2, .ref a3, .ref a4, .ref a5, .ref a6])), (a0, .inl (cI, 22, .inl (gl [m0, m1, m2, m3, m4, m5, m6, m7, m8, m9, m10, m11, m12, m13, m14, m15, m16, m17, 0, 4, 0, 16]))), (a4, .inl (cI, 8, .inl (gl [o0, o1, o2, o3, (-1), (-1), (-1), (-1)])))]) [1, 2, 0] (by decide) rfl
        exact W.iret (v := 2) hx hb hr (fun t ht hW => ⟨⟨2, (), rfl, e_0.symm, by rw [ht]; exact hP9, va_K.moved hW.alike hK, hD9⟩, hS.F ht⟩) hS.2.2 dX2_leastFreeId_27
    · refine lv_iload_n hx hb dX2_leastFreeId_26 rfl (lv_at hl 0 rfl) ?_
      have e_0 : (pfX2_leastFreeId_r o0 o1 o2 o3) = 1 := by rw [pfX2_leastFreeId_r, if_neg c_1, if_pos c_2]
      have hP9 := hP.sub (ws' := [(h, .inr (2, [.ref a0, .ref a1, .ref a2, .ref a3, .ref a4, .ref a5, .ref a6])), (a0, .inl (cI, 22, .inl (gl [m0, m1, m2, m3, m4, m5, m6, m7, m8, m9, m10, m11, m12, m13, m14, m15, m16, m17, 0, 4, 0, 16]))), (a4, .inl (cI, 8, .inl (gl [o0, o1, o2, o3, (-1), (-1), (-1), (-1)])))]) [1, 2, 0] rfl
      have hD9 := hD.sub (ws' := [(h, .inr (2, [.ref a0, .ref a1, .ref a2, .ref a3, .ref a4, .ref a5, .ref a6])), (a0, .inl (cI, 22, .inl (gl [m0, m1, m2, m3, m4, m5, m6, m7, m8, m9, m10, m11, m12, m13, m14, m15, m16, m17, 0, 4, 0, 16]))), (a4, .inl (cI, 8, .inl (gl [o0, o1, o2, o3, (-1), (-1), (-1), (-1)])))]) [1, 2, 0] (by decide) rfl
      exact W.iret (v := 1) hx hb hr (fun t ht hW => ⟨⟨1, (), rfl, e_0.symm, by rw [ht]; exact hP9, va_K.moved hW.alike hK, hD9⟩, hS.F ht⟩) hS.2.2 dX2_leastFreeId_27
  · refine lv_iload_n hx hb dX2_leastFreeId_26 rfl (lv_at hl 0 rfl) ?_
    have e_0 : (pfX2_leastFreeId_r o0 o1 o2 o3) = 0 := by rw [pfX2_leastFreeId_r, if_pos c_1]
    have hP9 := hP.sub (ws' := [(h, .inr (2, [.ref a0, .ref a1, .ref a2, .ref a3, .ref a4, .ref a5, .ref a6])), (a0, .inl (cI, 22, .inl (gl [m0, m1, m2, m3, m4, m5, m6, m7, m8, m9, m10, m11, m12, m13, m14, m15, m16, m17, 0, 4, 0, 16]))), (a4, .inl (cI, 8, .inl (gl [o0, o1, o2, o3, (-1), (-1), (-1), (-1)])))]) [1, 2, 0] rfl
    have hD9 := hD.sub (ws' := [(h, .inr (2, [.ref a0, .ref a1, .ref a2, .ref a3, .ref a4, .ref a5, .ref a6])), (a0, .inl (cI, 22, .inl (gl [m0, m1, m2, m3, m4, m5, m6, m7, m8, m9, m10, m11, m12, m13, m14, m15, m16, m17, 0, 4, 0, 16]))), (a4, .inl (cI, 8, .inl (gl [o0, o1, o2, o3, (-1), (-1), (-1), (-1)])))]) [1, 2, 0] (by decide) rfl
    exact W.iret (v := 0) hx hb hr (fun t ht hW => ⟨⟨0, (), rfl, e_0.symm, by rw [ht]; exact hP9, va_K.moved hW.alike hK, hD9⟩, hS.F ht⟩) hS.2.2 dX2_leastFreeId_27

set_option maxHeartbeats 4000000 in
set_option maxRecDepth 100000 in
theorem kkX2_noteBuffer_1 (l : Launch) (dC : Nat → ClassId) (dI : Nat → Nat → Nat) (cI cB cZ cR : ClassId) (sz : Nat) (h : Nat) (a0 : Nat) (a1 : Nat) (a2 : Nat) (a3 : Nat) (a4 : Nat) (a5 : Nat) (a6 : Nat) (m0 : Int32) (m1 : Int32) (m2 : Int32) (m3 : Int32) (m4 : Int32) (m5 : Int32) (m6 : Int32) (m7 : Int32) (m8 : Int32) (m9 : Int32) (m10 : Int32) (m11 : Int32) (m12 : Int32) (m13 : Int32) (m14 : Int32) (m15 : Int32) (m16 : Int32) (m17 : Int32) (fb : Nat → Int32) (p1 : Int32) (p3 : Int32) : Met l yX2_noteBuffer (.code yX2_noteBuffer cX2_noteBuffer 6 none :: wsL_law) ({ frames := 1, cells := 0, slots := 0, locals := 23 }) (zPc dC dI (zT cI cB cZ cR) [.ref h, .int p1, .int 1, .int p3, .int (-1), .int 1] sz [(h, .inr (2, [.ref a0, .ref a1, .ref a2, .ref a3, .ref a4, .ref a5, .ref a6])), (a0, .inl (cI, 22, .inl (gl [m0, m1, m2, m3, m4, m5, m6, m7, m8, m9, m10, m11, m12, m13, m14, m15, m16, m17, 0, 4, 0, 16]))), (a6, .inl (cI, 4000, .inl fb))]) (va_Qv (fun _ : Unit => True) (fun _ : Unit => zB dC dI (zT cI cB cZ cR) (va_A [(h, .inr (2, [.ref a0, .ref a1, .ref a2, .ref a3, .ref a4, .ref a5, .ref a6])), (a0, .inl (cI, 22, .inl (gl [m0, m1, m2, m3, m4, m5, m6, m7, m8, m9, m10, m11, m12, m13, m14, m15, m16, m17, 0, 4, 0, 16]))), (a6, .inl (cI, 4000, .inl fb))] sz) [(h, .inr (2, [.ref a0, .ref a1, .ref a2, .ref a3, .ref a4, .ref a5, .ref a6])), (a0, .inl (cI, 22, .inl (gl [m0, m1, m2, m3, (m4 - 1), (m5 + 1), (m6 + 1), m7, m8, m9, m10, m11, m12, m13, m14, m15, m16, m17, 0, 4, 0, 16]))), (a6, .inl (cI, 4000, .inl (pfX2_putBuffer_g_a6_f (pfX2_putBuffer_g_a6_f (pfX2_putBuffer_g_a6_f (pfX2_putBuffer_g_a6_f (pfX2_putBuffer_g_a6_f (pfX2_putBuffer_g_a6_f (pfX2_putBuffer_g_a6_f (pfX2_putBuffer_g_a6_f fb p1 0 0) p1 1 1) p1 2 p3) p1 3 (-1)) p1 4 (-1)) p1 5 (-1)) p1 6 (-1)) p1 7 1)))]) (va_A [(h, .inr (2, [.ref a0, .ref a1, .ref a2, .ref a3, .ref a4, .ref a5, .ref a6])), (a0, .inl (cI, 22, .inl (gl [m0, m1, m2, m3, m4, m5, m6, m7, m8, m9, m10, m11, m12, m13, m14, m15, m16, m17, 0, 4, 0, 16]))), (a6, .inl (cI, 4000, .inl fb))] sz)) 0 0 (va_A [(h, .inr (2, [.ref a0, .ref a1, .ref a2, .ref a3, .ref a4, .ref a5, .ref a6])), (a0, .inl (cI, 22, .inl (gl [m0, m1, m2, m3, m4, m5, m6, m7, m8, m9, m10, m11, m12, m13, m14, m15, m16, m17, 0, 4, 0, 16]))), (a6, .inl (cI, 4000, .inl fb))] sz) := by
  refine Met.ofW (cc := cX2_noteBuffer) (maxL := 6) (ret := none) (by decide) rfl ?_
  intro p e s m args below meth c s₁ B hml hv
  obtain ⟨rfl, hsz, hP, hK, hD0, hN⟩ := hv
  have hx := B.exec
  have hb := B.bytes
  have hr := B.returns
  have hts := atoms_spec (ws := (.code yX2_noteBuffer cX2_noteBuffer 6 none :: wsL_law)) B.pre
  have hown : s.vm.findClass RX2 = some m.cls := findClass_of_methodNamed B.named
  have hlocks := B.notSynchronized
  have hinX2 : ∀ w ∈ u_ws RX2 TX2 7, w ∈ (.code yX2_noteBuffer cX2_noteBuffer 6 none :: wsL_law) := fun w h => List.mem_cons_of_mem _ (inlX2 w h)
  have k_0 := hts (.fieldLink RX2 11 "RingMarks$Ring" "marks" "[I") (List.mem_cons_of_mem _ wm_61)
  subst hsz
  have hD := hD0.self (sz := s.heap.size)
  generalize hAe : va_A [(h, .inr (2, [.ref a0, .ref a1, .ref a2, .ref a3, .ref a4, .ref a5, .ref a6])), (a0, .inl (cI, 22, .inl (gl [m0, m1, m2, m3, m4, m5, m6, m7, m8, m9, m10, m11, m12, m13, m14, m15, m16, m17, 0, 4, 0, 16]))), (a6, .inl (cI, 4000, .inl fb))] s.heap.size = A at hD ⊢
  have hA : ∀ q : Nat, s.heap.size ≤ q → A q := fun q h => by rw [← hAe]; exact Or.inr h
  have hP : va_P (dC, dI) vwCl [(h, .inr (2, [.ref a0, .ref a1, .ref a2, .ref a3, .ref a4, .ref a5, .ref a6])), (a0, .inl (cI, 22, .inl (gl [m0, m1, m2, m3, m4, m5, m6, m7, m8, m9, m10, m11, m12, m13, m14, m15, m16, m17, 0, 4, 0, 16]))), (a6, .inl (cI, 4000, .inl fb))] s.heap := hP
  have hl := lv_entry ([.ref h, .int p1, .int 1, .int p3, .int (-1), .int 1]) (n := 6) (Nat.le_of_ble_eq_true rfl)
  rw [lg_entry_eq]
  generalize (lg_sl ([.ref h, .int p1, .int 1, .int p3, .int (-1), .int 1]) ++ List.replicate (6 - (lg_sl ([.ref h, .int p1, .int 1, .int p3, .int (-1), .int 1])).length) Slot.unset).toArray = ls at hl ⊢
  have hl : lv_has ls 6 [(0, .ref h), (1, .int p1), (2, .int 1), (3, .int p3), (4, .int (-1)), (5, .int 1)] := hl
  obtain ⟨H, hH⟩ : ∃ H, H = s.heap := ⟨_, rfl⟩
  rw [← hH] at hP ⊢
  have hS : va_S A s.heap H [] := by rw [hH]; exact va_S.rf
  refine lv_aload_n hx hb dX2_noteBuffer_0 rfl (lv_at hl 0 rfl) ?_
  refine va_get (D := (dC, dI)) (ci := 2) (v := .ref a0) (C := RX2) (T := TX2) (N := 7) hx hb hts hinX2 hown hK hP 0 rfl rfl 0 (by decide) k_0 (fun _ h9 => h9) rfl dX2_noteBuffer_1 ?_
  refine lv_iconst (v := 5) hx hb dX2_noteBuffer_4 (by decide) ?_
  refine lv_dup2_11 hx hb dX2_noteBuffer_5 rfl rfl ?_
  refine za_iald (v := m5) hx hb hK hP 1 0 rfl rfl (zin tn_5 (Nat.le_of_ble_eq_true rfl)) (zrd _ tn_5 rfl) dX2_noteBuffer_6 ?_
  refine lv_iconst (v := 1) hx hb dX2_noteBuffer_7 (by decide) ?_
  refine lv_iadd hx hb dX2_noteBuffer_8 ?_
  refine za_iast (f' := (gl [m0, m1, m2, m3, m4, (m5 + 1), m6, m7, m8, m9, m10, m11, m12, m13, m14, m15, m16, m17, 0, 4, 0, 16])) hx hb hK hP hD hS 1 0 rfl rfl (zin tn_5 (Nat.le_of_ble_eq_true rfl)) (zup_gl tn_5 (Nat.le_of_ble_eq_true rfl) rfl) dX2_noteBuffer_9 (fun H locs hP hD hS => ?_)
  have hP : va_P (dC, dI) vwCl [(h, .inr (2, [.ref a0, .ref a1, .ref a2, .ref a3, .ref a4, .ref a5, .ref a6])), (a0, .inl (cI, 22, .inl (gl [m0, m1, m2, m3, m4, (m5 + 1), m6, m7, m8, m9, m10, m11, m12, m13, m14, m15, m16, m17, 0, 4, 0, 16]))), (a6, .inl (cI, 4000, .inl fb))] H := hP
  have hD : va_D A [(h, .inr (2, [.ref a0, .ref a1, .ref a2, .ref a3, .ref a4, .ref a5, .ref a6])), (a0, .inl (cI, 22, .inl (gl [m0, m1, m2, m3, m4, (m5 + 1), m6, m7, m8, m9, m10, m11, m12, m13, m14, m15, m16, m17, 0, 4, 0, 16]))), (a6, .inl (cI, 4000, .inl fb))] := hD
  refine lv_aload_n hx hb dX2_noteBuffer_10 rfl (lv_at hl 0 rfl) ?_
  refine va_get (D := (dC, dI)) (ci := 2) (v := .ref a0) (C := RX2) (T := TX2) (N := 7) hx hb hts hinX2 hown hK hP 0 rfl rfl 0 (by decide) k_0 (fun _ h9 => h9) rfl dX2_noteBuffer_11 ?_
  refine lv_bipush (v := 6) hx hb dX2_noteBuffer_14 (by decide) ?_
  refine lv_dup2_11 hx hb dX2_noteBuffer_16 rfl rfl ?_
  refine za_iald (v := m6) hx hb hK hP 1 0 rfl rfl (zin tn_6 (Nat.le_of_ble_eq_true rfl)) (zrd _ tn_6 rfl) dX2_noteBuffer_17 ?_
  refine lv_iconst (v := 1) hx hb dX2_noteBuffer_18 (by decide) ?_
  refine lv_iadd hx hb dX2_noteBuffer_19 ?_
  refine za_iast (f' := (gl [m0, m1, m2, m3, m4, (m5 + 1), (m6 + 1), m7, m8, m9, m10, m11, m12, m13, m14, m15, m16, m17, 0, 4, 0, 16])) hx hb hK hP hD hS 1 0 rfl rfl (zin tn_6 (Nat.le_of_ble_eq_true rfl)) (zup_gl tn_6 (Nat.le_of_ble_eq_true rfl) rfl) dX2_noteBuffer_20 (fun H locs hP hD hS => ?_)
  have hP : va_P (dC, dI) vwCl [(h, .inr (2, [.ref a0, .ref a1, .ref a2, .ref a3, .ref a4, .ref a5, .ref a6])), (a0, .inl (cI, 22, .inl (gl [m0, m1, m2, m3, m4, (m5 + 1), (m6 + 1), m7, m8, m9, m10, m11, m12, m13, m14, m15, m16, m17, 0, 4, 0, 16]))), (a6, .inl (cI, 4000, .inl fb))] H := hP
  have hD : va_D A [(h, .inr (2, [.ref a0, .ref a1, .ref a2, .ref a3, .ref a4, .ref a5, .ref a6])), (a0, .inl (cI, 22, .inl (gl [m0, m1, m2, m3, m4, (m5 + 1), (m6 + 1), m7, m8, m9, m10, m11, m12, m13, m14, m15, m16, m17, 0, 4, 0, 16]))), (a6, .inl (cI, 4000, .inl fb))] := hD
  refine lv_aload_n hx hb dX2_noteBuffer_21 rfl (lv_at hl 0 rfl) ?_
  refine va_get (D := (dC, dI)) (ci := 2) (v := .ref a0) (C := RX2) (T := TX2) (N := 7) hx hb hts hinX2 hown hK hP 0 rfl rfl 0 (by decide) k_0 (fun _ h9 => h9) rfl dX2_noteBuffer_22 ?_
  refine lv_iconst (v := 4) hx hb dX2_noteBuffer_25 (by decide) ?_
  refine lv_dup2_11 hx hb dX2_noteBuffer_26 rfl rfl ?_
  refine za_iald (v := m4) hx hb hK hP 1 0 rfl rfl (zin tn_4 (Nat.le_of_ble_eq_true rfl)) (zrd _ tn_4 rfl) dX2_noteBuffer_27 ?_
  refine lv_iload hx hb dX2_noteBuffer_28 (lv_at hl 5 rfl) ?_
  refine lv_isub hx hb dX2_noteBuffer_30 ?_
  refine za_iast (f' := (gl [m0, m1, m2, m3, (m4 - 1), (m5 + 1), (m6 + 1), m7, m8, m9, m10, m11, m12, m13, m14, m15, m16, m17, 0, 4, 0, 16])) hx hb hK hP hD hS 1 0 rfl rfl (zin tn_4 (Nat.le_of_ble_eq_true rfl)) (zup_gl tn_4 (Nat.le_of_ble_eq_true rfl) rfl) dX2_noteBuffer_31 (fun H locs hP hD hS => ?_)
  have hP : va_P (dC, dI) vwCl [(h, .inr (2, [.ref a0, .ref a1, .ref a2, .ref a3, .ref a4, .ref a5, .ref a6])), (a0, .inl (cI, 22, .inl (gl [m0, m1, m2, m3, (m4 - 1), (m5 + 1), (m6 + 1), m7, m8, m9, m10, m11, m12, m13, m14, m15, m16, m17, 0, 4, 0, 16]))), (a6, .inl (cI, 4000, .inl fb))] H := hP
  have hD : va_D A [(h, .inr (2, [.ref a0, .ref a1, .ref a2, .ref a3, .ref a4, .ref a5, .ref a6])), (a0, .inl (cI, 22, .inl (gl [m0, m1, m2, m3, (m4 - 1), (m5 + 1), (m6 + 1), m7, m8, m9, m10, m11, m12, m13, m14, m15, m16, m17, 0, 4, 0, 16]))), (a6, .inl (cI, 4000, .inl fb))] := hD
  refine lv_aload_n hx hb dX2_noteBuffer_32 rfl (lv_at hl 0 rfl) ?_
  refine lv_iload_n hx hb dX2_noteBuffer_33 rfl (lv_at hl 1 rfl) ?_
  refine lv_iconst (v := 0) hx hb dX2_noteBuffer_34 (by decide) ?_
  refine lv_iconst (v := 0) hx hb dX2_noteBuffer_35 (by decide) ?_
  refine zcVv (As := [.int p1, .int 0, .int 0]) (rest := []) (wr := [(a0, .inl (cI, 22, .inl (gl [m0, m1, m2, m3, (m4 - 1), (m5 + 1), (m6 + 1), m7, m8, m9, m10, m11, m12, m13, m14, m15, m16, m17, 0, 4, 0, 16])))]) ⟨hx, hb, hml, hown, hts⟩ (kkX2_putBuffer_g l dC dI cI cB cZ cR H.size h a0 a1 a2 a3 a4 a5 a6 fb p1 0 0 ) (cwV 3 hts (zgV wm_278 wm_279 wm_280 wm_22 wm_281) rfl rfl rfl (by decide +kernel) ⟨Nat.le_of_ble_eq_true rfl, Nat.le_of_ble_eq_true rfl⟩) hN hK hP hD hS hA [0, 2] [1] rfl rfl ⟨rfl, rfl⟩ (by decide) (ci := 2) rfl rfl rfl rfl hl.1 rfl (Nat.le_of_ble_eq_true rfl) dX2_noteBuffer_36 ⟨Nat.le_of_ble_eq_true rfl, Nat.le_of_ble_eq_true rfl⟩ (fun u hu H locs hP hD hS => ?_)
  have hP : va_P (dC, dI) vwCl [(a0, .inl (cI, 22, .inl (gl [m0, m1, m2, m3, (m4 - 1), (m5 + 1), (m6 + 1), m7, m8, m9, m10, m11, m12, m13, m14, m15, m16, m17, 0, 4, 0, 16]))), (h, .inr (2, [.ref a0, .ref a1, .ref a2, .ref a3, .ref a4, .ref a5, .ref a6])), (a6, .inl (cI, 4000, .inl (pfX2_putBuffer_g_a6_f fb p1 0 0)))] H := hP
  have hD : va_D A [(a0, .inl (cI, 22, .inl (gl [m0, m1, m2, m3, (m4 - 1), (m5 + 1), (m6 + 1), m7, m8, m9, m10, m11, m12, m13, m14, m15, m16, m17, 0, 4, 0, 16]))), (h, .inr (2, [.ref a0, .ref a1, .ref a2, .ref a3, .ref a4, .ref a5, .ref a6])), (a6, .inl (cI, 4000, .inl (pfX2_putBuffer_g_a6_f fb p1 0 0)))] := hD
  refine lv_aload_n hx hb dX2_noteBuffer_39 rfl (lv_at hl 0 rfl) ?_
  refine lv_iload_n hx hb dX2_noteBuffer_40 rfl (lv_at hl 1 rfl) ?_
  refine lv_iconst (v := 1) hx hb dX2_noteBuffer_41 (by decide) ?_
  refine lv_iload_n hx hb dX2_noteBuffer_42 rfl (lv_at hl 2 rfl) ?_
  refine zcVv (As := [.int p1, .int 1, .int 1]) (rest := []) (wr := [(a0, .inl (cI, 22, .inl (gl [m0, m1, m2, m3, (m4 - 1), (m5 + 1), (m6 + 1), m7, m8, m9, m10, m11, m12, m13, m14, m15, m16, m17, 0, 4, 0, 16])))]) ⟨hx, hb, hml, hown, hts⟩ (kkX2_putBuffer_g l dC dI cI cB cZ cR H.size h a0 a1 a2 a3 a4 a5 a6 (pfX2_putBuffer_g_a6_f fb p1 0 0) p1 1 1 ) (cwV 3 hts (zgV wm_278 wm_279 wm_280 wm_22 wm_281) rfl rfl rfl (by decide +kernel) ⟨Nat.le_of_ble_eq_true rfl, Nat.le_of_ble_eq_true rfl⟩) hN hK hP hD hS hA [1, 2] [0] rfl rfl ⟨rfl, rfl⟩ (by decide) (ci := 2) rfl rfl rfl rfl hl.1 rfl (Nat.le_of_ble_eq_true rfl) dX2_noteBuffer_43 ⟨Nat.le_of_ble_eq_true rfl, Nat.le_of_ble_eq_true rfl⟩ (fun u hu H locs hP hD hS => ?_)
  have hP : va_P (dC, dI) vwCl [(a0, .inl (cI, 22, .inl (gl [m0, m1, m2, m3, (m4 - 1), (m5 + 1), (m6 + 1), m7, m8, m9, m10, m11, m12, m13, m14, m15, m16, m17, 0, 4, 0, 16]))), (h, .inr (2, [.ref a0, .ref a1, .ref a2, .ref a3, .ref a4, .ref a5, .ref a6])), (a6, .inl (cI, 4000, .inl (pfX2_putBuffer_g_a6_f (pfX2_putBuffer_g_a6_f fb p1 0 0) p1 1 1)))] H := hP
  have hD : va_D A [(a0, .inl (cI, 22, .inl (gl [m0, m1, m2, m3, (m4 - 1), (m5 + 1), (m6 + 1), m7, m8, m9, m10, m11, m12, m13, m14, m15, m16, m17, 0, 4, 0, 16]))), (h, .inr (2, [.ref a0, .ref a1, .ref a2, .ref a3, .ref a4, .ref a5, .ref a6])), (a6, .inl (cI, 4000, .inl (pfX2_putBuffer_g_a6_f (pfX2_putBuffer_g_a6_f fb p1 0 0) p1 1 1)))] := hD
  refine lv_aload_n hx hb dX2_noteBuffer_46 rfl (lv_at hl 0 rfl) ?_
  refine lv_iload_n hx hb dX2_noteBuffer_47 rfl (lv_at hl 1 rfl) ?_
  refine lv_iconst (v := 2) hx hb dX2_noteBuffer_48 (by decide) ?_
  refine lv_iload_n hx hb dX2_noteBuffer_49 rfl (lv_at hl 3 rfl) ?_
  refine zcVv (As := [.int p1, .int 2, .int p3]) (rest := []) (wr := [(a0, .inl (cI, 22, .inl (gl [m0, m1, m2, m3, (m4 - 1), (m5 + 1), (m6 + 1), m7, m8, m9, m10, m11, m12, m13, m14, m15, m16, m17, 0, 4, 0, 16])))]) ⟨hx, hb, hml, hown, hts⟩ (kkX2_putBuffer_g l dC dI cI cB cZ cR H.size h a0 a1 a2 a3 a4 a5 a6 (pfX2_putBuffer_g_a6_f (pfX2_putBuffer_g_a6_f fb p1 0 0) p1 1 1) p1 2 p3 ) (cwV 3 hts (zgV wm_278 wm_279 wm_280 wm_22 wm_281) rfl rfl rfl (by decide +kernel) ⟨Nat.le_of_ble_eq_true rfl, Nat.le_of_ble_eq_true rfl⟩) hN hK hP hD hS hA [1, 2] [0] rfl rfl ⟨rfl, rfl⟩ (by decide) (ci := 2) rfl rfl rfl rfl hl.1 rfl (Nat.le_of_ble_eq_true rfl) dX2_noteBuffer_50 ⟨Nat.le_of_ble_eq_true rfl, Nat.le_of_ble_eq_true rfl⟩ (fun u hu H locs hP hD hS => ?_)
  have hP : va_P (dC, dI) vwCl [(a0, .inl (cI, 22, .inl (gl [m0, m1, m2, m3, (m4 - 1), (m5 + 1), (m6 + 1), m7, m8, m9, m10, m11, m12, m13, m14, m15, m16, m17, 0, 4, 0, 16]))), (h, .inr (2, [.ref a0, .ref a1, .ref a2, .ref a3, .ref a4, .ref a5, .ref a6])), (a6, .inl (cI, 4000, .inl (pfX2_putBuffer_g_a6_f (pfX2_putBuffer_g_a6_f (pfX2_putBuffer_g_a6_f fb p1 0 0) p1 1 1) p1 2 p3)))] H := hP
  have hD : va_D A [(a0, .inl (cI, 22, .inl (gl [m0, m1, m2, m3, (m4 - 1), (m5 + 1), (m6 + 1), m7, m8, m9, m10, m11, m12, m13, m14, m15, m16, m17, 0, 4, 0, 16]))), (h, .inr (2, [.ref a0, .ref a1, .ref a2, .ref a3, .ref a4, .ref a5, .ref a6])), (a6, .inl (cI, 4000, .inl (pfX2_putBuffer_g_a6_f (pfX2_putBuffer_g_a6_f (pfX2_putBuffer_g_a6_f fb p1 0 0) p1 1 1) p1 2 p3)))] := hD
  refine lv_aload_n hx hb dX2_noteBuffer_53 rfl (lv_at hl 0 rfl) ?_
  refine lv_iload_n hx hb dX2_noteBuffer_54 rfl (lv_at hl 1 rfl) ?_
  refine lv_iconst (v := 3) hx hb dX2_noteBuffer_55 (by decide) ?_
  refine lv_iload hx hb dX2_noteBuffer_56 (lv_at hl 4 rfl) ?_
  refine zcVv (As := [.int p1, .int 3, .int (-1)]) (rest := []) (wr := [(a0, .inl (cI, 22, .inl (gl [m0, m1, m2, m3, (m4 - 1), (m5 + 1), (m6 + 1), m7, m8, m9, m10, m11, m12, m13, m14, m15, m16, m17, 0, 4, 0, 16])))]) ⟨hx, hb, hml, hown, hts⟩ (kkX2_putBuffer_g l dC dI cI cB cZ cR H.size h a0 a1 a2 a3 a4 a5 a6 (pfX2_putBuffer_g_a6_f (pfX2_putBuffer_g_a6_f (pfX2_putBuffer_g_a6_f fb p1 0 0) p1 1 1) p1 2 p3) p1 3 (-1) ) (cwV 3 hts (zgV wm_278 wm_279 wm_280 wm_22 wm_281) rfl rfl rfl (by decide +kernel) ⟨Nat.le_of_ble_eq_true rfl, Nat.le_of_ble_eq_true rfl⟩) hN hK hP hD hS hA [1, 2] [0] rfl rfl ⟨rfl, rfl⟩ (by decide) (ci := 2) rfl rfl rfl rfl hl.1 rfl (Nat.le_of_ble_eq_true rfl) dX2_noteBuffer_58 ⟨Nat.le_of_ble_eq_true rfl, Nat.le_of_ble_eq_true rfl⟩ (fun u hu H locs hP hD hS => ?_)
  have hP : va_P (dC, dI) vwCl [(a0, .inl (cI, 22, .inl (gl [m0, m1, m2, m3, (m4 - 1), (m5 + 1), (m6 + 1), m7, m8, m9, m10, m11, m12, m13, m14, m15, m16, m17, 0, 4, 0, 16]))), (h, .inr (2, [.ref a0, .ref a1, .ref a2, .ref a3, .ref a4, .ref a5, .ref a6])), (a6, .inl (cI, 4000, .inl (pfX2_putBuffer_g_a6_f (pfX2_putBuffer_g_a6_f (pfX2_putBuffer_g_a6_f (pfX2_putBuffer_g_a6_f fb p1 0 0) p1 1 1) p1 2 p3) p1 3 (-1))))] H := hP
  have hD : va_D A [(a0, .inl (cI, 22, .inl (gl [m0, m1, m2, m3, (m4 - 1), (m5 + 1), (m6 + 1), m7, m8, m9, m10, m11, m12, m13, m14, m15, m16, m17, 0, 4, 0, 16]))), (h, .inr (2, [.ref a0, .ref a1, .ref a2, .ref a3, .ref a4, .ref a5, .ref a6])), (a6, .inl (cI, 4000, .inl (pfX2_putBuffer_g_a6_f (pfX2_putBuffer_g_a6_f (pfX2_putBuffer_g_a6_f (pfX2_putBuffer_g_a6_f fb p1 0 0) p1 1 1) p1 2 p3) p1 3 (-1))))] := hD
  refine lv_aload_n hx hb dX2_noteBuffer_61 rfl (lv_at hl 0 rfl) ?_
  refine lv_iload_n hx hb dX2_noteBuffer_62 rfl (lv_at hl 1 rfl) ?_
  refine lv_iconst (v := 4) hx hb dX2_noteBuffer_63 (by decide) ?_
  refine lv_iconst (v := (-1)) hx hb dX2_noteBuffer_64 (by decide) ?_
  refine zcVv (As := [.int p1, .int 4, .int (-1)]) (rest := []) (wr := [(a0, .inl (cI, 22, .inl (gl [m0, m1, m2, m3, (m4 - 1), (m5 + 1), (m6 + 1), m7, m8, m9, m10, m11, m12, m13, m14, m15, m16, m17, 0, 4, 0, 16])))]) ⟨hx, hb, hml, hown, hts⟩ (kkX2_putBuffer_g l dC dI cI cB cZ cR H.size h a0 a1 a2 a3 a4 a5 a6 (pfX2_putBuffer_g_a6_f (pfX2_putBuffer_g_a6_f (pfX2_putBuffer_g_a6_f (pfX2_putBuffer_g_a6_f fb p1 0 0) p1 1 1) p1 2 p3) p1 3 (-1)) p1 4 (-1) ) (cwV 3 hts (zgV wm_278 wm_279 wm_280 wm_22 wm_281) rfl rfl rfl (by decide +kernel) ⟨Nat.le_of_ble_eq_true rfl, Nat.le_of_ble_eq_true rfl⟩) hN hK hP hD hS hA [1, 2] [0] rfl rfl ⟨rfl, rfl⟩ (by decide) (ci := 2) rfl rfl rfl rfl hl.1 rfl (Nat.le_of_ble_eq_true rfl) dX2_noteBuffer_65 ⟨Nat.le_of_ble_eq_true rfl, Nat.le_of_ble_eq_true rfl⟩ (fun u hu H locs hP hD hS => ?_)
  have hP : va_P (dC, dI) vwCl [(a0, .inl (cI, 22, .inl (gl [m0, m1, m2, m3, (m4 - 1), (m5 + 1), (m6 + 1), m7, m8, m9, m10, m11, m12, m13, m14, m15, m16, m17, 0, 4, 0, 16]))), (h, .inr (2, [.ref a0, .ref a1, .ref a2, .ref a3, .ref a4, .ref a5, .ref a6])), (a6, .inl (cI, 4000, .inl (pfX2_putBuffer_g_a6_f (pfX2_putBuffer_g_a6_f (pfX2_putBuffer_g_a6_f (pfX2_putBuffer_g_a6_f (pfX2_putBuffer_g_a6_f fb p1 0 0) p1 1 1) p1 2 p3) p1 3 (-1)) p1 4 (-1))))] H := hP
  have hD : va_D A [(a0, .inl (cI, 22, .inl (gl [m0, m1, m2, m3, (m4 - 1), (m5 + 1), (m6 + 1), m7, m8, m9, m10, m11, m12, m13, m14, m15, m16, m17, 0, 4, 0, 16]))), (h, .inr (2, [.ref a0, .ref a1, .ref a2, .ref a3, .ref a4, .ref a5, .ref a6])), (a6, .inl (cI, 4000, .inl (pfX2_putBuffer_g_a6_f (pfX2_putBuffer_g_a6_f (pfX2_putBuffer_g_a6_f (pfX2_putBuffer_g_a6_f (pfX2_putBuffer_g_a6_f fb p1 0 0) p1 1 1) p1 2 p3) p1 3 (-1)) p1 4 (-1))))] := hD
  refine lv_aload_n hx hb dX2_noteBuffer_68 rfl (lv_at hl 0 rfl) ?_
  refine lv_iload_n hx hb dX2_noteBuffer_69 rfl (lv_at hl 1 rfl) ?_
  refine lv_iconst (v := 5) hx hb dX2_noteBuffer_70 (by decide) ?_
  refine lv_iconst (v := (-1)) hx hb dX2_noteBuffer_71 (by decide) ?_
  refine zcVv (As := [.int p1, .int 5, .int (-1)]) (rest := []) (wr := [(a0, .inl (cI, 22, .inl (gl [m0, m1, m2, m3, (m4 - 1), (m5 + 1), (m6 + 1), m7, m8, m9, m10, m11, m12, m13, m14, m15, m16, m17, 0, 4, 0, 16])))]) ⟨hx, hb, hml, hown, hts⟩ (kkX2_putBuffer_g l dC dI cI cB cZ cR H.size h a0 a1 a2 a3 a4 a5 a6 (pfX2_putBuffer_g_a6_f (pfX2_putBuffer_g_a6_f (pfX2_putBuffer_g_a6_f (pfX2_putBuffer_g_a6_f (pfX2_putBuffer_g_a6_f fb p1 0 0) p1 1 1) p1 2 p3) p1 3 (-1)) p1 4 (-1)) p1 5 (-1) ) (cwV 3 hts (zgV wm_278 wm_279 wm_280 wm_22 wm_281) rfl rfl rfl (by decide +kernel) ⟨Nat.le_of_ble_eq_true rfl, Nat.le_of_ble_eq_true rfl⟩) hN hK hP hD hS hA [1, 2] [0] rfl rfl ⟨rfl, rfl⟩ (by decide) (ci := 2) rfl rfl rfl rfl hl.1 rfl (Nat.le_of_ble_eq_true rfl) dX2_noteBuffer_72 ⟨Nat.le_of_ble_eq_true rfl, Nat.le_of_ble_eq_true rfl⟩ (fun u hu H locs hP hD hS => ?_)
  have hP : va_P (dC, dI) vwCl [(a0, .inl (cI, 22, .inl (gl [m0, m1, m2, m3, (m4 - 1), (m5 + 1), (m6 + 1), m7, m8, m9, m10, m11, m12, m13, m14, m15, m16, m17, 0, 4, 0, 16]))), (h, .inr (2, [.ref a0, .ref a1, .ref a2, .ref a3, .ref a4, .ref a5, .ref a6])), (a6, .inl (cI, 4000, .inl (pfX2_putBuffer_g_a6_f (pfX2_putBuffer_g_a6_f (pfX2_putBuffer_g_a6_f (pfX2_putBuffer_g_a6_f (pfX2_putBuffer_g_a6_f (pfX2_putBuffer_g_a6_f fb p1 0 0) p1 1 1) p1 2 p3) p1 3 (-1)) p1 4 (-1)) p1 5 (-1))))] H := hP
  have hD : va_D A [(a0, .inl (cI, 22, .inl (gl [m0, m1, m2, m3, (m4 - 1), (m5 + 1), (m6 + 1), m7, m8, m9, m10, m11, m12, m13, m14, m15, m16, m17, 0, 4, 0, 16]))), (h, .inr (2, [.ref a0, .ref a1, .ref a2, .ref a3, .ref a4, .ref a5, .ref a6])), (a6, .inl (cI, 4000, .inl (pfX2_putBuffer_g_a6_f (pfX2_putBuffer_g_a6_f (pfX2_putBuffer_g_a6_f (pfX2_putBuffer_g_a6_f (pfX2_putBuffer_g_a6_f (pfX2_putBuffer_g_a6_f fb p1 0 0) p1 1 1) p1 2 p3) p1 3 (-1)) p1 4 (-1)) p1 5 (-1))))] := hD
  refine lv_aload_n hx hb dX2_noteBuffer_75 rfl (lv_at hl 0 rfl) ?_
  refine lv_iload_n hx hb dX2_noteBuffer_76 rfl (lv_at hl 1 rfl) ?_
  refine lv_bipush (v := 6) hx hb dX2_noteBuffer_77 (by decide) ?_
  refine lv_iconst (v := (-1)) hx hb dX2_noteBuffer_79 (by decide) ?_
  refine zcVv (As := [.int p1, .int 6, .int (-1)]) (rest := []) (wr := [(a0, .inl (cI, 22, .inl (gl [m0, m1, m2, m3, (m4 - 1), (m5 + 1), (m6 + 1), m7, m8, m9, m10, m11, m12, m13, m14, m15, m16, m17, 0, 4, 0, 16])))]) ⟨hx, hb, hml, hown, hts⟩ (kkX2_putBuffer_g l dC dI cI cB cZ cR H.size h a0 a1 a2 a3 a4 a5 a6 (pfX2_putBuffer_g_a6_f (pfX2_putBuffer_g_a6_f (pfX2_putBuffer_g_a6_f (pfX2_putBuffer_g_a6_f (pfX2_putBuffer_g_a6_f (pfX2_putBuffer_g_a6_f fb p1 0 0) p1 1 1) p1 2 p3) p1 3 (-1)) p1 4 (-1)) p1 5 (-1)) p1 6 (-1) ) (cwV 3 hts (zgV wm_278 wm_279 wm_280 wm_22 wm_281) rfl rfl rfl (by decide +kernel) ⟨Nat.le_of_ble_eq_true rfl, Nat.le_of_ble_eq_true rfl⟩) hN hK hP hD hS hA [1, 2] [0] rfl rfl ⟨rfl, rfl⟩ (by decide) (ci := 2) rfl rfl rfl rfl hl.1 rfl (Nat.le_of_ble_eq_true rfl) dX2_noteBuffer_80 ⟨Nat.le_of_ble_eq_true rfl, Nat.le_of_ble_eq_true rfl⟩ (fun u hu H locs hP hD hS => ?_)
  have hP : va_P (dC, dI) vwCl [(a0, .inl (cI, 22, .inl (gl [m0, m1, m2, m3, (m4 - 1), (m5 + 1), (m6 + 1), m7, m8, m9, m10, m11, m12, m13, m14, m15, m16, m17, 0, 4, 0, 16]))), (h, .inr (2, [.ref a0, .ref a1, .ref a2, .ref a3, .ref a4, .ref a5, .ref a6])), (a6, .inl (cI, 4000, .inl (pfX2_putBuffer_g_a6_f (pfX2_putBuffer_g_a6_f (pfX2_putBuffer_g_a6_f (pfX2_putBuffer_g_a6_f (pfX2_putBuffer_g_a6_f (pfX2_putBuffer_g_a6_f (pfX2_putBuffer_g_a6_f fb p1 0 0) p1 1 1) p1 2 p3) p1 3 (-1)) p1 4 (-1)) p1 5 (-1)) p1 6 (-1))))] H := hP
  have hD : va_D A [(a0, .inl (cI, 22, .inl (gl [m0, m1, m2, m3, (m4 - 1), (m5 + 1), (m6 + 1), m7, m8, m9, m10, m11, m12, m13, m14, m15, m16, m17, 0, 4, 0, 16]))), (h, .inr (2, [.ref a0, .ref a1, .ref a2, .ref a3, .ref a4, .ref a5, .ref a6])), (a6, .inl (cI, 4000, .inl (pfX2_putBuffer_g_a6_f (pfX2_putBuffer_g_a6_f (pfX2_putBuffer_g_a6_f (pfX2_putBuffer_g_a6_f (pfX2_putBuffer_g_a6_f (pfX2_putBuffer_g_a6_f (pfX2_putBuffer_g_a6_f fb p1 0 0) p1 1 1) p1 2 p3) p1 3 (-1)) p1 4 (-1)) p1 5 (-1)) p1 6 (-1))))] := hD
  refine lv_aload_n hx hb dX2_noteBuffer_83 rfl (lv_at hl 0 rfl) ?_
  refine lv_iload_n hx hb dX2_noteBuffer_84 rfl (lv_at hl 1 rfl) ?_
  refine lv_bipush (v := 7) hx hb dX2_noteBuffer_85 (by decide) ?_
  refine lv_iload hx hb dX2_noteBuffer_87 (lv_at hl 5 rfl) ?_
  refine zcVv (As := [.int p1, .int 7, .int 1]) (rest := []) (wr := [(a0, .inl (cI, 22, .inl (gl [m0, m1, m2, m3, (m4 - 1), (m5 + 1), (m6 + 1), m7, m8, m9, m10, m11, m12, m13, m14, m15, m16, m17, 0, 4, 0, 16])))]) ⟨hx, hb, hml, hown, hts⟩ (kkX2_putBuffer_g l dC dI cI cB cZ cR H.size h a0 a1 a2 a3 a4 a5 a6 (pfX2_putBuffer_g_a6_f (pfX2_putBuffer_g_a6_f (pfX2_putBuffer_g_a6_f (pfX2_putBuffer_g_a6_f (pfX2_putBuffer_g_a6_f (pfX2_putBuffer_g_a6_f (pfX2_putBuffer_g_a6_f fb p1 0 0) p1 1 1) p1 2 p3) p1 3 (-1)) p1 4 (-1)) p1 5 (-1)) p1 6 (-1)) p1 7 1 ) (cwV 3 hts (zgV wm_278 wm_279 wm_280 wm_22 wm_281) rfl rfl rfl (by decide +kernel) ⟨Nat.le_of_ble_eq_true rfl, Nat.le_of_ble_eq_true rfl⟩) hN hK hP hD hS hA [1, 2] [0] rfl rfl ⟨rfl, rfl⟩ (by decide) (ci := 2) rfl rfl rfl rfl hl.1 rfl (Nat.le_of_ble_eq_true rfl) dX2_noteBuffer_89 ⟨Nat.le_of_ble_eq_true rfl, Nat.le_of_ble_eq_true rfl⟩ (fun u hu H locs hP hD hS => ?_)
  have hP : va_P (dC, dI) vwCl [(a0, .inl (cI, 22, .inl (gl [m0, m1, m2, m3, (m4 - 1), (m5 + 1), (m6 + 1), m7, m8, m9, m10, m11, m12, m13, m14, m15, m16, m17, 0, 4, 0, 16]))), (h, .inr (2, [.ref a0, .ref a1, .ref a2, .ref a3, .ref a4, .ref a5, .ref a6])), (a6, .inl (cI, 4000, .inl (pfX2_putBuffer_g_a6_f (pfX2_putBuffer_g_a6_f (pfX2_putBuffer_g_a6_f (pfX2_putBuffer_g_a6_f (pfX2_putBuffer_g_a6_f (pfX2_putBuffer_g_a6_f (pfX2_putBuffer_g_a6_f (pfX2_putBuffer_g_a6_f fb p1 0 0) p1 1 1) p1 2 p3) p1 3 (-1)) p1 4 (-1)) p1 5 (-1)) p1 6 (-1)) p1 7 1)))] H := hP
  have hD : va_D A [(a0, .inl (cI, 22, .inl (gl [m0, m1, m2, m3, (m4 - 1), (m5 + 1), (m6 + 1), m7, m8, m9, m10, m11, m12, m13, m14, m15, m16, m17, 0, 4, 0, 16]))), (h, .inr (2, [.ref a0, .ref a1, .ref a2, .ref a3, .ref a4, .ref a5, .ref a6])), (a6, .inl (cI, 4000, .inl (pfX2_putBuffer_g_a6_f (pfX2_putBuffer_g_a6_f (pfX2_putBuffer_g_a6_f (pfX2_putBuffer_g_a6_f (pfX2_putBuffer_g_a6_f (pfX2_putBuffer_g_a6_f (pfX2_putBuffer_g_a6_f (pfX2_putBuffer_g_a6_f fb p1 0 0) p1 1 1) p1 2 p3) p1 3 (-1)) p1 4 (-1)) p1 5 (-1)) p1 6 (-1)) p1 7 1)))] := hD
  have hP9 := hP.sub (ws' := [(h, .inr (2, [.ref a0, .ref a1, .ref a2, .ref a3, .ref a4, .ref a5, .ref a6])), (a0, .inl (cI, 22, .inl (gl [m0, m1, m2, m3, (m4 - 1), (m5 + 1), (m6 + 1), m7, m8, m9, m10, m11, m12, m13, m14, m15, m16, m17, 0, 4, 0, 16]))), (a6, .inl (cI, 4000, .inl (pfX2_putBuffer_g_a6_f (pfX2_putBuffer_g_a6_f (pfX2_putBuffer_g_a6_f (pfX2_putBuffer_g_a6_f (pfX2_putBuffer_g_a6_f (pfX2_putBuffer_g_a6_f (pfX2_putBuffer_g_a6_f (pfX2_putBuffer_g_a6_f fb p1 0 0) p1 1 1) p1 2 p3) p1 3 (-1)) p1 4 (-1)) p1 5 (-1)) p1 6 (-1)) p1 7 1)))]) [1, 0, 2] rfl
  have hD9 := hD.sub (ws' := [(h, .inr (2, [.ref a0, .ref a1, .ref a2, .ref a3, .ref a4, .ref a5, .ref a6])), (a0, .inl (cI, 22, .inl (gl [m0, m1, m2, m3, (m4 - 1), (m5 + 1), (m6 + 1), m7, m8, m9, m10, m11, m12, m13, m14, m15, m16, m17, 0, 4, 0, 16]))), (a6, .inl (cI, 4000, .inl (pfX2_putBuffer_g_a6_f (pfX2_putBuffer_g_a6_f (pfX2_putBuffer_g_a6_f (pfX2_putBuffer_g_a6_f (pfX2_putBuffer_g_a6_f (pfX2_putBuffer_g_a6_f (pfX2_putBuffer_g_a6_f (pfX2_putBuffer_g_a6_f fb p1 0 0) p1 1 1) p1 2 p3) p1 3 (-1)) p1 4 (-1)) p1 5 (-1)) p1 6 (-1)) p1 7 1)))]) [1, 0, 2] (by decide) rfl
  exact W.vret hx hb hr (fun t ht hW => ⟨⟨(), rfl, trivial, by rw [ht]; exact hP9, va_K.moved hW.alike hK, hD9⟩, hS.F ht⟩) hS.2.2 dX2_noteBuffer_92

set_option maxHeartbeats 4000000 in
set_option maxRecDepth 100000 in
theorem kkX2_noteBuffer_2 (l : Launch) (dC : Nat → ClassId) (dI : Nat → Nat → Nat) (cI cB cZ cR : ClassId) (sz : Nat) (h : Nat) (a0 : Nat) (a1 : Nat) (a2 : Nat) (a3 : Nat) (a4 : Nat) (a5 : Nat) (a6 : Nat) (m0 : Int32) (m1 : Int32) (m2 : Int32) (m3 : Int32) (m4 : Int32) (m5 : Int32) (m6 : Int32) (m7 : Int32) (m8 : Int32) (m9 : Int32) (m10 : Int32) (m11 : Int32) (m12 : Int32) (m13 : Int32) (m14 : Int32) (m15 : Int32) (m16 : Int32) (m17 : Int32) (fb : Nat → Int32) (p1 : Int32) (p3 : Int32) : Met l yX2_noteBuffer (.code yX2_noteBuffer cX2_noteBuffer 6 none :: wsL_law) ({ frames := 1, cells := 0, slots := 0, locals := 23 }) (zPc dC dI (zT cI cB cZ cR) [.ref h, .int p1, .int 2, .int p3, .int (-1), .int 2] sz [(h, .inr (2, [.ref a0, .ref a1, .ref a2, .ref a3, .ref a4, .ref a5, .ref a6])), (a0, .inl (cI, 22, .inl (gl [m0, m1, m2, m3, m4, m5, m6, m7, m8, m9, m10, m11, m12, m13, m14, m15, m16, m17, 0, 4, 0, 16]))), (a6, .inl (cI, 4000, .inl fb))]) (va_Qv (fun _ : Unit => True) (fun _ : Unit => zB dC dI (zT cI cB cZ cR) (va_A [(h, .inr (2, [.ref a0, .ref a1, .ref a2, .ref a3, .ref a4, .ref a5, .ref a6])), (a0, .inl (cI, 22, .inl (gl [m0, m1, m2, m3, m4, m5, m6, m7, m8, m9, m10, m11, m12, m13, m14, m15, m16, m17, 0, 4, 0, 16]))), (a6, .inl (cI, 4000, .inl fb))] sz) [(h, .inr (2, [.ref a0, .ref a1, .ref a2, .ref a3, .ref a4, .ref a5, .ref a6])), (a0, .inl (cI, 22, .inl (gl [m0, m1, m2, m3, (m4 - 2), (m5 + 1), (m6 + 1), m7, m8, m9, m10, m11, m12, m13, m14, m15, m16, m17, 0, 4, 0, 16]))), (a6, .inl (cI, 4000, .inl (pfX2_putBuffer_g_a6_f (pfX2_putBuffer_g_a6_f (pfX2_putBuffer_g_a6_f (pfX2_putBuffer_g_a6_f (pfX2_putBuffer_g_a6_f (pfX2_putBuffer_g_a6_f (pfX2_putBuffer_g_a6_f (pfX2_putBuffer_g_a6_f fb p1 0 0) p1 1 2) p1 2 p3) p1 3 (-1)) p1 4 (-1)) p1 5 (-1)) p1 6 (-1)) p1 7 2)))]) (va_A [(h, .inr (2, [.ref a0, .ref a1, .ref a2, .ref a3, .ref a4, .ref a5, .ref a6])), (a0, .inl (cI, 22, .inl (gl [m0, m1, m2, m3, m4, m5, m6, m7, m8, m9, m10, m11, m12, m13, m14, m15, m16, m17, 0, 4, 0, 16]))), (a6, .inl (cI, 4000, .inl fb))] sz)) 0 0 (va_A [(h, .inr (2, [.ref a0, .ref a1, .ref a2, .ref a3, .ref a4, .ref a5, .ref a6])), (a0, .inl (cI, 22, .inl (gl [m0, m1, m2, m3, m4, m5, m6, m7, m8, m9, m10, m11, m12, m13, m14, m15, m16, m17, 0, 4, 0, 16]))), (a6, .inl (cI, 4000, .inl fb))] sz) := by
  refine Met.ofW (cc := cX2_noteBuffer) (maxL := 6) (ret := none) (by decide) rfl ?_
  intro p e s m args below meth c s₁ B hml hv
  obtain ⟨rfl, hsz, hP, hK, hD0, hN⟩ := hv
  have hx := B.exec
  have hb := B.bytes
  have hr := B.returns
  have hts := atoms_spec (ws := (.code yX2_noteBuffer cX2_noteBuffer 6 none :: wsL_law)) B.pre
  have hown : s.vm.findClass RX2 = some m.cls := findClass_of_methodNamed B.named
  have hlocks := B.notSynchronized
  have hinX2 : ∀ w ∈ u_ws RX2 TX2 7, w ∈ (.code yX2_noteBuffer cX2_noteBuffer 6 none :: wsL_law) := fun w h => List.mem_cons_of_mem _ (inlX2 w h)
  have k_0 := hts (.fieldLink RX2 11 "RingMarks$Ring" "marks" "[I") (List.mem_cons_of_mem _ wm_61)
  subst hsz
  have hD := hD0.self (sz := s.heap.size)
  generalize hAe : va_A [(h, .inr (2, [.ref a0, .ref a1, .ref a2, .ref a3, .ref a4, .ref a5, .ref a6])), (a0, .inl (cI, 22, .inl (gl [m0, m1, m2, m3, m4, m5, m6, m7, m8, m9, m10, m11, m12, m13, m14, m15, m16, m17, 0, 4, 0, 16]))), (a6, .inl (cI, 4000, .inl fb))] s.heap.size = A at hD ⊢
  have hA : ∀ q : Nat, s.heap.size ≤ q → A q := fun q h => by rw [← hAe]; exact Or.inr h
  have hP : va_P (dC, dI) vwCl [(h, .inr (2, [.ref a0, .ref a1, .ref a2, .ref a3, .ref a4, .ref a5, .ref a6])), (a0, .inl (cI, 22, .inl (gl [m0, m1, m2, m3, m4, m5, m6, m7, m8, m9, m10, m11, m12, m13, m14, m15, m16, m17, 0, 4, 0, 16]))), (a6, .inl (cI, 4000, .inl fb))] s.heap := hP
  have hl := lv_entry ([.ref h, .int p1, .int 2, .int p3, .int (-1), .int 2]) (n := 6) (Nat.le_of_ble_eq_true rfl)
  rw [lg_entry_eq]
  generalize (lg_sl ([.ref h, .int p1, .int 2, .int p3, .int (-1), .int 2]) ++ List.replicate (6 - (lg_sl ([.ref h, .int p1, .int 2, .int p3, .int (-1), .int 2])).length) Slot.unset).toArray = ls at hl ⊢
  have hl : lv_has ls 6 [(0, .ref h), (1, .int p1), (2, .int 2), (3, .int p3), (4, .int (-1)), (5, .int 2)] := hl
  obtain ⟨H, hH⟩ : ∃ H, H = s.heap := ⟨_, rfl⟩
  rw [← hH] at hP ⊢
  have hS : va_S A s.heap H [] := by rw [hH]; exact va_S.rf
  refine lv_aload_n hx hb dX2_noteBuffer_0 rfl (lv_at hl 0 rfl) ?_
  refine va_get (D := (dC, dI)) (ci := 2) (v := .ref a0) (C := RX2) (T := TX2) (N := 7) hx hb hts hinX2 hown hK hP 0 rfl rfl 0 (by decide) k_0 (fun _ h9 => h9) rfl dX2_noteBuffer_1 ?_
  refine lv_iconst (v := 5) hx hb dX2_noteBuffer_4 (by decide) ?_
  refine lv_dup2_11 hx hb dX2_noteBuffer_5 rfl rfl ?_
  refine za_iald (v := m5) hx hb hK hP 1 0 rfl rfl (zin tn_5 (Nat.le_of_ble_eq_true rfl)) (zrd _ tn_5 rfl) dX2_noteBuffer_6 ?_
  refine lv_iconst (v := 1) hx hb dX2_noteBuffer_7 (by decide) ?_
  refine lv_iadd hx hb dX2_noteBuffer_8 ?_
  refine za_iast (f' := (gl [m0, m1, m2, m3, m4, (m5 + 1), m6, m7, m8, m9, m10, m11, m12, m13, m14, m15, m16, m17, 0, 4, 0, 16])) hx hb hK hP hD hS 1 0 rfl rfl (zin tn_5 (Nat.le_of_ble_eq_true rfl)) (zup_gl tn_5 (Nat.le_of_ble_eq_true rfl) rfl) dX2_noteBuffer_9 (fun H locs hP hD hS => ?_)
  have hP : va_P (dC, dI) vwCl [(h, .inr (2, [.ref a0, .ref a1, .ref a2, .ref a3, .ref a4, .ref a5, .ref a6])), (a0, .inl (cI, 22, .inl (gl [m0, m1, m2, m3, m4, (m5 + 1), m6, m7, m8, m9, m10, m11, m12, m13, m14, m15, m16, m17, 0, 4, 0, 16]))), (a6, .inl (cI, 4000, .inl fb))] H := hP
  have hD : va_D A [(h, .inr (2, [.ref a0, .ref a1, .ref a2, .ref a3, .ref a4, .ref a5, .ref a6])), (a0, .inl (cI, 22, .inl (gl [m0, m1, m2, m3, m4, (m5 + 1), m6, m7, m8, m9, m10, m11, m12, m13, m14, m15, m16, m17, 0, 4, 0, 16]))), (a6, .inl (cI, 4000, .inl fb))] := hD
  refine lv_aload_n hx hb dX2_noteBuffer_10 rfl (lv_at hl 0 rfl) ?_
  refine va_get (D := (dC, dI)) (ci := 2) (v := .ref a0) (C := RX2) (T := TX2) (N := 7) hx hb hts hinX2 hown hK hP 0 rfl rfl 0 (by decide) k_0 (fun _ h9 => h9) rfl dX2_noteBuffer_11 ?_
  refine lv_bipush (v := 6) hx hb dX2_noteBuffer_14 (by decide) ?_
  refine lv_dup2_11 hx hb dX2_noteBuffer_16 rfl rfl ?_
  refine za_iald (v := m6) hx hb hK hP 1 0 rfl rfl (zin tn_6 (Nat.le_of_ble_eq_true rfl)) (zrd _ tn_6 rfl) dX2_noteBuffer_17 ?_
  refine lv_iconst (v := 1) hx hb dX2_noteBuffer_18 (by decide) ?_
  refine lv_iadd hx hb dX2_noteBuffer_19 ?_
  refine za_iast (f' := (gl [m0, m1, m2, m3, m4, (m5 + 1), (m6 + 1), m7, m8, m9, m10, m11, m12, m13, m14, m15, m16, m17, 0, 4, 0, 16])) hx hb hK hP hD hS 1 0 rfl rfl (zin tn_6 (Nat.le_of_ble_eq_true rfl)) (zup_gl tn_6 (Nat.le_of_ble_eq_true rfl) rfl) dX2_noteBuffer_20 (fun H locs hP hD hS => ?_)
  have hP : va_P (dC, dI) vwCl [(h, .inr (2, [.ref a0, .ref a1, .ref a2, .ref a3, .ref a4, .ref a5, .ref a6])), (a0, .inl (cI, 22, .inl (gl [m0, m1, m2, m3, m4, (m5 + 1), (m6 + 1), m7, m8, m9, m10, m11, m12, m13, m14, m15, m16, m17, 0, 4, 0, 16]))), (a6, .inl (cI, 4000, .inl fb))] H := hP
  have hD : va_D A [(h, .inr (2, [.ref a0, .ref a1, .ref a2, .ref a3, .ref a4, .ref a5, .ref a6])), (a0, .inl (cI, 22, .inl (gl [m0, m1, m2, m3, m4, (m5 + 1), (m6 + 1), m7, m8, m9, m10, m11, m12, m13, m14, m15, m16, m17, 0, 4, 0, 16]))), (a6, .inl (cI, 4000, .inl fb))] := hD
  refine lv_aload_n hx hb dX2_noteBuffer_21 rfl (lv_at hl 0 rfl) ?_
  refine va_get (D := (dC, dI)) (ci := 2) (v := .ref a0) (C := RX2) (T := TX2) (N := 7) hx hb hts hinX2 hown hK hP 0 rfl rfl 0 (by decide) k_0 (fun _ h9 => h9) rfl dX2_noteBuffer_22 ?_
  refine lv_iconst (v := 4) hx hb dX2_noteBuffer_25 (by decide) ?_
  refine lv_dup2_11 hx hb dX2_noteBuffer_26 rfl rfl ?_
  refine za_iald (v := m4) hx hb hK hP 1 0 rfl rfl (zin tn_4 (Nat.le_of_ble_eq_true rfl)) (zrd _ tn_4 rfl) dX2_noteBuffer_27 ?_
  refine lv_iload hx hb dX2_noteBuffer_28 (lv_at hl 5 rfl) ?_
  refine lv_isub hx hb dX2_noteBuffer_30 ?_
  refine za_iast (f' := (gl [m0, m1, m2, m3, (m4 - 2), (m5 + 1), (m6 + 1), m7, m8, m9, m10, m11, m12, m13, m14, m15, m16, m17, 0, 4, 0, 16])) hx hb hK hP hD hS 1 0 rfl rfl (zin tn_4 (Nat.le_of_ble_eq_true rfl)) (zup_gl tn_4 (Nat.le_of_ble_eq_true rfl) rfl) dX2_noteBuffer_31 (fun H locs hP hD hS => ?_)
  have hP : va_P (dC, dI) vwCl [(h, .inr (2, [.ref a0, .ref a1, .ref a2, .ref a3, .ref a4, .ref a5, .ref a6])), (a0, .inl (cI, 22, .inl (gl [m0, m1, m2, m3, (m4 - 2), (m5 + 1), (m6 + 1), m7, m8, m9, m10, m11, m12, m13, m14, m15, m16, m17, 0, 4, 0, 16]))), (a6, .inl (cI, 4000, .inl fb))] H := hP
  have hD : va_D A [(h, .inr (2, [.ref a0, .ref a1, .ref a2, .ref a3, .ref a4, .ref a5, .ref a6])), (a0, .inl (cI, 22, .inl (gl [m0, m1, m2, m3, (m4 - 2), (m5 + 1), (m6 + 1), m7, m8, m9, m10, m11, m12, m13, m14, m15, m16, m17, 0, 4, 0, 16]))), (a6, .inl (cI, 4000, .inl fb))] := hD
  refine lv_aload_n hx hb dX2_noteBuffer_32 rfl (lv_at hl 0 rfl) ?_
  refine lv_iload_n hx hb dX2_noteBuffer_33 rfl (lv_at hl 1 rfl) ?_
  refine lv_iconst (v := 0) hx hb dX2_noteBuffer_34 (by decide) ?_
  refine lv_iconst (v := 0) hx hb dX2_noteBuffer_35 (by decide) ?_
  refine zcVv (As := [.int p1, .int 0, .int 0]) (rest := []) (wr := [(a0, .inl (cI, 22, .inl (gl [m0, m1, m2, m3, (m4 - 2), (m5 + 1), (m6 + 1), m7, m8, m9, m10, m11, m12, m13, m14, m15, m16, m17, 0, 4, 0, 16])))]) ⟨hx, hb, hml, hown, hts⟩ (kkX2_putBuffer_g l dC dI cI cB cZ cR H.size h a0 a1 a2 a3 a4 a5 a6 fb p1 0 0 ) (cwV 3 hts (zgV wm_278 wm_279 wm_280 wm_22 wm_281) rfl rfl rfl (by decide +kernel) ⟨Nat.le_of_ble_eq_true rfl, Nat.le_of_ble_eq_true rfl⟩) hN hK hP hD hS hA [0, 2] [1] rfl rfl ⟨rfl, rfl⟩ (by decide) (ci := 2) rfl rfl rfl rfl hl.1 rfl (Nat.le_of_ble_eq_true rfl) dX2_noteBuffer_36 ⟨Nat.le_of_ble_eq_true rfl, Nat.le_of_ble_eq_true rfl⟩ (fun u hu H locs hP hD hS => ?_)
  have hP : va_P (dC, dI) vwCl [(a0, .inl (cI, 22, .inl (gl [m0, m1, m2, m3, (m4 - 2), (m5 + 1), (m6 + 1), m7, m8, m9, m10, m11, m12, m13, m14, m15, m16, m17, 0, 4, 0, 16]))), (h, .inr (2, [.ref a0, .ref a1, .ref a2, .ref a3, .ref a4, .ref a5, .ref a6])), (a6, .inl (cI, 4000, .inl (pfX2_putBuffer_g_a6_f fb p1 0 0)))] H := hP
  have hD : va_D A [(a0, .inl (cI, 22, .inl (gl [m0, m1, m2, m3, (m4 - 2), (m5 + 1), (m6 + 1), m7, m8, m9, m10, m11, m12, m13, m14, m15, m16, m17, 0, 4, 0, 16]))), (h, .inr (2, [.ref a0, .ref a1, .ref a2, .ref a3, .ref a4, .ref a5, .ref a6])), (a6, .inl (cI, 4000, .inl (pfX2_putBuffer_g_a6_f fb p1 0 0)))] := hD
  refine lv_aload_n hx hb dX2_noteBuffer_39 rfl (lv_at hl 0 rfl) ?_
  refine lv_iload_n hx hb dX2_noteBuffer_40 rfl (lv_at hl 1 rfl) ?_
  refine lv_iconst (v := 1) hx hb dX2_noteBuffer_41 (by decide) ?_
  refine lv_iload_n hx hb dX2_noteBuffer_42 rfl (lv_at hl 2 rfl) ?_
  refine zcVv (As := [.int p1, .int 1, .int 2]) (rest := []) (wr := [(a0, .inl (cI, 22, .inl (gl [m0, m1, m2, m3, (m4 - 2), (m5 + 1), (m6 + 1), m7, m8, m9, m10, m11, m12, m13, m14, m15, m16, m17, 0, 4, 0, 16])))]) ⟨hx, hb, hml, hown, hts⟩ (kkX2_putBuffer_g l dC dI cI cB cZ cR H.size h a0 a1 a2 a3 a4 a5 a6 (pfX2_putBuffer_g_a6_f fb p1 0 0) p1 1 2 ) (cwV 3 hts (zgV wm_278 wm_279 wm_280 wm_22 wm_281) rfl rfl rfl (by decide +kernel) ⟨Nat.le_of_ble_eq_true rfl, Nat.le_of_ble_eq_true rfl⟩) hN hK hP hD hS hA [1, 2] [0] rfl rfl ⟨rfl, rfl⟩ (by decide) (ci := 2) rfl rfl rfl rfl hl.1 rfl (Nat.le_of_ble_eq_true rfl) dX2_noteBuffer_43 ⟨Nat.le_of_ble_eq_true rfl, Nat.le_of_ble_eq_true rfl⟩ (fun u hu H locs hP hD hS => ?_)
  have hP : va_P (dC, dI) vwCl [(a0, .inl (cI, 22, .inl (gl [m0, m1, m2, m3, (m4 - 2), (m5 + 1), (m6 + 1), m7, m8, m9, m10, m11, m12, m13, m14, m15, m16, m17, 0, 4, 0, 16]))), (h, .inr (2, [.ref a0, .ref a1, .ref a2, .ref a3, .ref a4, .ref a5, .ref a6])), (a6, .inl (cI, 4000, .inl (pfX2_putBuffer_g_a6_f (pfX2_putBuffer_g_a6_f fb p1 0 0) p1 1 2)))] H := hP
  have hD : va_D A [(a0, .inl (cI, 22, .inl (gl [m0, m1, m2, m3, (m4 - 2), (m5 + 1), (m6 + 1), m7, m8, m9, m10, m11, m12, m13, m14, m15, m16, m17, 0, 4, 0, 16]))), (h, .inr (2, [.ref a0, .ref a1, .ref a2, .ref a3, .ref a4, .ref a5, .ref a6])), (a6, .inl (cI, 4000, .inl (pfX2_putBuffer_g_a6_f (pfX2_putBuffer_g_a6_f fb p1 0 0) p1 1 2)))] := hD
  refine lv_aload_n hx hb dX2_noteBuffer_46 rfl (lv_at hl 0 rfl) ?_
  refine lv_iload_n hx hb dX2_noteBuffer_47 rfl (lv_at hl 1 rfl) ?_
  refine lv_iconst (v := 2) hx hb dX2_noteBuffer_48 (by decide) ?_
  refine lv_iload_n hx hb dX2_noteBuffer_49 rfl (lv_at hl 3 rfl) ?_
  refine zcVv (As := [.int p1, .int 2, .int p3]) (rest := []) (wr := [(a0, .inl (cI, 22, .inl (gl [m0, m1, m2, m3, (m4 - 2), (m5 + 1), (m6 + 1), m7, m8, m9, m10, m11, m12, m13, m14, m15, m16, m17, 0, 4, 0, 16])))]) ⟨hx, hb, hml, hown, hts⟩ (kkX2_putBuffer_g l dC dI cI cB cZ cR H.size h a0 a1 a2 a3 a4 a5 a6 (pfX2_putBuffer_g_a6_f (pfX2_putBuffer_g_a6_f fb p1 0 0) p1 1 2) p1 2 p3 ) (cwV 3 hts (zgV wm_278 wm_279 wm_280 wm_22 wm_281) rfl rfl rfl (by decide +kernel) ⟨Nat.le_of_ble_eq_true rfl, Nat.le_of_ble_eq_true rfl⟩) hN hK hP hD hS hA [1, 2] [0] rfl rfl ⟨rfl, rfl⟩ (by decide) (ci := 2) rfl rfl rfl rfl hl.1 rfl (Nat.le_of_ble_eq_true rfl) dX2_noteBuffer_50 ⟨Nat.le_of_ble_eq_true rfl, Nat.le_of_ble_eq_true rfl⟩ (fun u hu H locs hP hD hS => ?_)
  have hP : va_P (dC, dI) vwCl [(a0, .inl (cI, 22, .inl (gl [m0, m1, m2, m3, (m4 - 2), (m5 + 1), (m6 + 1), m7, m8, m9, m10, m11, m12, m13, m14, m15, m16, m17, 0, 4, 0, 16]))), (h, .inr (2, [.ref a0, .ref a1, .ref a2, .ref a3, .ref a4, .ref a5, .ref a6])), (a6, .inl (cI, 4000, .inl (pfX2_putBuffer_g_a6_f (pfX2_putBuffer_g_a6_f (pfX2_putBuffer_g_a6_f fb p1 0 0) p1 1 2) p1 2 p3)))] H := hP
  have hD : va_D A [(a0, .inl (cI, 22, .inl (gl [m0, m1, m2, m3, (m4 - 2), (m5 + 1), (m6 + 1), m7, m8, m9, m10, m11, m12, m13, m14, m15, m16, m17, 0, 4, 0, 16]))), (h, .inr (2, [.ref a0, .ref a1, .ref a2, .ref a3, .ref a4, .ref a5, .ref a6])), (a6, .inl (cI, 4000, .inl (pfX2_putBuffer_g_a6_f (pfX2_putBuffer_g_a6_f (pfX2_putBuffer_g_a6_f fb p1 0 0) p1 1 2) p1 2 p3)))] := hD
  refine lv_aload_n hx hb dX2_noteBuffer_53 rfl (lv_at hl 0 rfl) ?_
  refine lv_iload_n hx hb dX2_noteBuffer_54 rfl (lv_at hl 1 rfl) ?_
  refine lv_iconst (v := 3) hx hb dX2_noteBuffer_55 (by decide) ?_
  refine lv_iload hx hb dX2_noteBuffer_56 (lv_at hl 4 rfl) ?_
  refine zcVv (As := [.int p1, .int 3, .int (-1)]) (rest := []) (wr := [(a0, .inl (cI, 22, .inl (gl [m0, m1, m2, m3, (m4 - 2), (m5 + 1), (m6 + 1), m7, m8, m9, m10, m11, m12, m13, m14, m15, m16, m17, 0, 4, 0, 16])))]) ⟨hx, hb, hml, hown, hts⟩ (kkX2_putBuffer_g l dC dI cI cB cZ cR H.size h a0 a1 a2 a3 a4 a5 a6 (pfX2_putBuffer_g_a6_f (pfX2_putBuffer_g_a6_f (pfX2_putBuffer_g_a6_f fb p1 0 0) p1 1 2) p1 2 p3) p1 3 (-1) ) (cwV 3 hts (zgV wm_278 wm_279 wm_280 wm_22 wm_281) rfl rfl rfl (by decide +kernel) ⟨Nat.le_of_ble_eq_true rfl, Nat.le_of_ble_eq_true rfl⟩) hN hK hP hD hS hA [1, 2] [0] rfl rfl ⟨rfl, rfl⟩ (by decide) (ci := 2) rfl rfl rfl rfl hl.1 rfl (Nat.le_of_ble_eq_true rfl) dX2_noteBuffer_58 ⟨Nat.le_of_ble_eq_true rfl, Nat.le_of_ble_eq_true rfl⟩ (fun u hu H locs hP hD hS => ?_)
  have hP : va_P (dC, dI) vwCl [(a0, .inl (cI, 22, .inl (gl [m0, m1, m2, m3, (m4 - 2), (m5 + 1), (m6 + 1), m7, m8, m9, m10, m11, m12, m13, m14, m15, m16, m17, 0, 4, 0, 16]))), (h, .inr (2, [.ref a0, .ref a1, .ref a2, .ref a3, .ref a4, .ref a5, .ref a6])), (a6, .inl (cI, 4000, .inl (pfX2_putBuffer_g_a6_f (pfX2_putBuffer_g_a6_f (pfX2_putBuffer_g_a6_f (pfX2_putBuffer_g_a6_f fb p1 0 0) p1 1 2) p1 2 p3) p1 3 (-1))))] H := hP
  have hD : va_D A [(a0, .inl (cI, 22, .inl (gl [m0, m1, m2, m3, (m4 - 2), (m5 + 1), (m6 + 1), m7, m8, m9, m10, m11, m12, m13, m14, m15, m16, m17, 0, 4, 0, 16]))), (h, .inr (2, [.ref a0, .ref a1, .ref a2, .ref a3, .ref a4, .ref a5, .ref a6])), (a6, .inl (cI, 4000, .inl (pfX2_putBuffer_g_a6_f (pfX2_putBuffer_g_a6_f (pfX2_putBuffer_g_a6_f (pfX2_putBuffer_g_a6_f fb p1 0 0) p1 1 2) p1 2 p3) p1 3 (-1))))] := hD
  refine lv_aload_n hx hb dX2_noteBuffer_61 rfl (lv_at hl 0 rfl) ?_
  refine lv_iload_n hx hb dX2_noteBuffer_62 rfl (lv_at hl 1 rfl) ?_
  refine lv_iconst (v := 4) hx hb dX2_noteBuffer_63 (by decide) ?_
  refine lv_iconst (v := (-1)) hx hb dX2_noteBuffer_64 (by decide) ?_
  refine zcVv (As := [.int p1, .int 4, .int (-1)]) (rest := []) (wr := [(a0, .inl (cI, 22, .inl (gl [m0, m1, m2, m3, (m4 - 2), (m5 + 1), (m6 + 1), m7, m8, m9, m10, m11, m12, m13, m14, m15, m16, m17, 0, 4, 0, 16])))]) ⟨hx, hb, hml, hown, hts⟩ (kkX2_putBuffer_g l dC dI cI cB cZ cR H.size h a0 a1 a2 a3 a4 a5 a6 (pfX2_putBuffer_g_a6_f (pfX2_putBuffer_g_a6_f (pfX2_putBuffer_g_a6_f (pfX2_putBuffer_g_a6_f fb p1 0 0) p1 1 2) p1 2 p3) p1 3 (-1)) p1 4 (-1) ) (cwV 3 hts (zgV wm_278 wm_279 wm_280 wm_22 wm_281) rfl rfl rfl (by decide +kernel) ⟨Nat.le_of_ble_eq_true rfl, Nat.le_of_ble_eq_true rfl⟩) hN hK hP hD hS hA [1, 2] [0] rfl rfl ⟨rfl, rfl⟩ (by decide) (ci := 2) rfl rfl rfl rfl hl.1 rfl (Nat.le_of_ble_eq_true rfl) dX2_noteBuffer_65 ⟨Nat.le_of_ble_eq_true rfl, Nat.le_of_ble_eq_true rfl⟩ (fun u hu H locs hP hD hS => ?_)
  have hP : va_P (dC, dI) vwCl [(a0, .inl (cI, 22, .inl (gl [m0, m1, m2, m3, (m4 - 2), (m5 + 1), (m6 + 1), m7, m8, m9, m10, m11, m12, m13, m14, m15, m16, m17, 0, 4, 0, 16]))), (h, .inr (2, [.ref a0, .ref a1, .ref a2, .ref a3, .ref a4, .ref a5, .ref a6])), (a6, .inl (cI, 4000, .inl (pfX2_putBuffer_g_a6_f (pfX2_putBuffer_g_a6_f (pfX2_putBuffer_g_a6_f (pfX2_putBuffer_g_a6_f (pfX2_putBuffer_g_a6_f fb p1 0 0) p1 1 2) p1 2 p3) p1 3 (-1)) p1 4 (-1))))] H := hP
  have hD : va_D A [(a0, .inl (cI, 22, .inl (gl [m0, m1, m2, m3, (m4 - 2), (m5 + 1), (m6 + 1), m7, m8, m9, m10, m11, m12, m13, m14, m15, m16, m17, 0, 4, 0, 16]))), (h, .inr (2, [.ref a0, .ref a1, .ref a2, .ref a3, .ref a4, .ref a5, .ref a6])), (a6, .inl (cI, 4000, .inl (pfX2_putBuffer_g_a6_f (pfX2_putBuffer_g_a6_f (pfX2_putBuffer_g_a6_f (pfX2_putBuffer_g_a6_f (pfX2_putBuffer_g_a6_f fb p1 0 0) p1 1 2) p1 2 p3) p1 3 (-1)) p1 4 (-1))))] := hD
  refine lv_aload_n hx hb dX2_noteBuffer_68 rfl (lv_at hl 0 rfl) ?_
  refine lv_iload_n hx hb dX2_noteBuffer_69 rfl (lv_at hl 1 rfl) ?_
  refine lv_iconst (v := 5) hx hb dX2_noteBuffer_70 (by decide) ?_
  refine lv_iconst (v := (-1)) hx hb dX2_noteBuffer_71 (by decide) ?_
  refine zcVv (As := [.int p1, .int 5, .int (-1)]) (rest := []) (wr := [(a0, .inl (cI, 22, .inl (gl [m0, m1, m2, m3, (m4 - 2), (m5 + 1), (m6 + 1), m7, m8, m9, m10, m11, m12, m13, m14, m15, m16, m17, 0, 4, 0, 16])))]) ⟨hx, hb, hml, hown, hts⟩ (kkX2_putBuffer_g l dC dI cI cB cZ cR H.size h a0 a1 a2 a3 a4 a5 a6 (pfX2_putBuffer_g_a6_f (pfX2_putBuffer_g_a6_f (pfX2_putBuffer_g_a6_f (pfX2_putBuffer_g_a6_f (pfX2_putBuffer_g_a6_f fb p1 0 0) p1 1 2) p1 2 p3) p1 3 (-1)) p1 4 (-1)) p1 5 (-1) ) (cwV 3 hts (zgV wm_278 wm_279 wm_280 wm_22 wm_281) rfl rfl rfl (by decide +kernel) ⟨Nat.le_of_ble_eq_true rfl, Nat.le_of_ble_eq_true rfl⟩) hN hK hP hD hS hA [1, 2] [0] rfl rfl ⟨rfl, rfl⟩ (by decide) (ci := 2) rfl rfl rfl rfl hl.1 rfl (Nat.le_of_ble_eq_true rfl) dX2_noteBuffer_72 ⟨Nat.le_of_ble_eq_true rfl, Nat.le_of_ble_eq_true rfl⟩ (fun u hu H locs hP hD hS => ?_)
  have hP : va_P (dC, dI) vwCl [(a0, .inl (cI, 22, .inl (gl [m0, m1, m2, m3, (m4 - 2), (m5 + 1), (m6 + 1), m7, m8, m9, m10, m11, m12, m13, m14, m15, m16, m17, 0, 4, 0, 16]))), (h, .inr (2, [.ref a0, .ref a1, .ref a2, .ref a3, .ref a4, .ref a5, .ref a6])), (a6, .inl (cI, 4000, .inl (pfX2_putBuffer_g_a6_f (pfX2_putBuffer_g_a6_f (pfX2_putBuffer_g_a6_f (pfX2_putBuffer_g_a6_f (pfX2_putBuffer_g_a6_f (pfX2_putBuffer_g_a6_f fb p1 0 0) p1 1 2) p1 2 p3) p1 3 (-1)) p1 4 (-1)) p1 5 (-1))))] H := hP
  have hD : va_D A [(a0, .inl (cI, 22, .inl (gl [m0, m1, m2, m3, (m4 - 2), (m5 + 1), (m6 + 1), m7, m8, m9, m10, m11, m12, m13, m14, m15, m16, m17, 0, 4, 0, 16]))), (h, .inr (2, [.ref a0, .ref a1, .ref a2, .ref a3, .ref a4, .ref a5, .ref a6])), (a6, .inl (cI, 4000, .inl (pfX2_putBuffer_g_a6_f (pfX2_putBuffer_g_a6_f (pfX2_putBuffer_g_a6_f (pfX2_putBuffer_g_a6_f (pfX2_putBuffer_g_a6_f (pfX2_putBuffer_g_a6_f fb p1 0 0) p1 1 2) p1 2 p3) p1 3 (-1)) p1 4 (-1)) p1 5 (-1))))] := hD
  refine lv_aload_n hx hb dX2_noteBuffer_75 rfl (lv_at hl 0 rfl) ?_
  refine lv_iload_n hx hb dX2_noteBuffer_76 rfl (lv_at hl 1 rfl) ?_
  refine lv_bipush (v := 6) hx hb dX2_noteBuffer_77 (by decide) ?_
  refine lv_iconst (v := (-1)) hx hb dX2_noteBuffer_79 (by decide) ?_
  refine zcVv (As := [.int p1, .int 6, .int (-1)]) (rest := []) (wr := [(a0, .inl (cI, 22, .inl (gl [m0, m1, m2, m3, (m4 - 2), (m5 + 1), (m6 + 1), m7, m8, m9, m10, m11, m12, m13, m14, m15, m16, m17, 0, 4, 0, 16])))]) ⟨hx, hb, hml, hown, hts⟩ (kkX2_putBuffer_g l dC dI cI cB cZ cR H.size h a0 a1 a2 a3 a4 a5 a6 (pfX2_putBuffer_g_a6_f (pfX2_putBuffer_g_a6_f (pfX2_putBuffer_g_a6_f (pfX2_putBuffer_g_a6_f (pfX2_putBuffer_g_a6_f (pfX2_putBuffer_g_a6_f fb p1 0 0) p1 1 2) p1 2 p3) p1 3 (-1)) p1 4 (-1)) p1 5 (-1)) p1 6 (-1) ) (cwV 3 hts (zgV wm_278 wm_279 wm_280 wm_22 wm_281) rfl rfl rfl (by decide +kernel) ⟨Nat.le_of_ble_eq_true rfl, Nat.le_of_ble_eq_true rfl⟩) hN hK hP hD hS hA [1, 2] [0] rfl rfl ⟨rfl, rfl⟩ (by decide) (ci := 2) rfl rfl rfl rfl hl.1 rfl (Nat.le_of_ble_eq_true rfl) dX2_noteBuffer_80 ⟨Nat.le_of_ble_eq_true rfl, Nat.le_of_ble_eq_true rfl⟩ (fun u hu H locs hP hD hS => ?_)
  have hP : va_P (dC, dI) vwCl [(a0, .inl (cI, 22, .inl (gl [m0, m1, m2, m3, (m4 - 2), (m5 + 1), (m6 + 1), m7, m8, m9, m10, m11, m12, m13, m14, m15, m16, m17, 0, 4, 0, 16]))), (h, .inr (2, [.ref a0, .ref a1, .ref a2, .ref a3, .ref a4, .ref a5, .ref a6])), (a6, .inl (cI, 4000, .inl (pfX2_putBuffer_g_a6_f (pfX2_putBuffer_g_a6_f (pfX2_putBuffer_g_a6_f (pfX2_putBuffer_g_a6_f (pfX2_putBuffer_g_a6_f (pfX2_putBuffer_g_a6_f (pfX2_putBuffer_g_a6_f fb p1 0 0) p1 1 2) p1 2 p3) p1 3 (-1)) p1 4 (-1)) p1 5 (-1)) p1 6 (-1))))] H := hP
  have hD : va_D A [(a0, .inl (cI, 22, .inl (gl [m0, m1, m2, m3, (m4 - 2), (m5 + 1), (m6 + 1), m7, m8, m9, m10, m11, m12, m13, m14, m15, m16, m17, 0, 4, 0, 16]))), (h, .inr (2, [.ref a0, .ref a1, .ref a2, .ref a3, .ref a4, .ref a5, .ref a6])), (a6, .inl (cI, 4000, .inl (pfX2_putBuffer_g_a6_f (pfX2_putBuffer_g_a6_f (pfX2_putBuffer_g_a6_f (pfX2_putBuffer_g_a6_f (pfX2_putBuffer_g_a6_f (pfX2_putBuffer_g_a6_f (pfX2_putBuffer_g_a6_f fb p1 0 0) p1 1 2) p1 2 p3) p1 3 (-1)) p1 4 (-1)) p1 5 (-1)) p1 6 (-1))))] := hD
  refine lv_aload_n hx hb dX2_noteBuffer_83 rfl (lv_at hl 0 rfl) ?_
  refine lv_iload_n hx hb dX2_noteBuffer_84 rfl (lv_at hl 1 rfl) ?_
  refine lv_bipush (v := 7) hx hb dX2_noteBuffer_85 (by decide) ?_
  refine lv_iload hx hb dX2_noteBuffer_87 (lv_at hl 5 rfl) ?_
  refine zcVv (As := [.int p1, .int 7, .int 2]) (rest := []) (wr := [(a0, .inl (cI, 22, .inl (gl [m0, m1, m2, m3, (m4 - 2), (m5 + 1), (m6 + 1), m7, m8, m9, m10, m11, m12, m13, m14, m15, m16, m17, 0, 4, 0, 16])))]) ⟨hx, hb, hml, hown, hts⟩ (kkX2_putBuffer_g l dC dI cI cB cZ cR H.size h a0 a1 a2 a3 a4 a5 a6 (pfX2_putBuffer_g_a6_f (pfX2_putBuffer_g_a6_f (pfX2_putBuffer_g_a6_f (pfX2_putBuffer_g_a6_f (pfX2_putBuffer_g_a6_f (pfX2_putBuffer_g_a6_f (pfX2_putBuffer_g_a6_f fb p1 0 0) p1 1 2) p1 2 p3) p1 3 (-1)) p1 4 (-1)) p1 5 (-1)) p1 6 (-1)) p1 7 2 ) (cwV 3 hts (zgV wm_278 wm_279 wm_280 wm_22 wm_281) rfl rfl rfl (by decide +kernel) ⟨Nat.le_of_ble_eq_true rfl, Nat.le_of_ble_eq_true rfl⟩) hN hK hP hD hS hA [1, 2] [0] rfl rfl ⟨rfl, rfl⟩ (by decide) (ci := 2) rfl rfl rfl rfl hl.1 rfl (Nat.le_of_ble_eq_true rfl) dX2_noteBuffer_89 ⟨Nat.le_of_ble_eq_true rfl, Nat.le_of_ble_eq_true rfl⟩ (fun u hu H locs hP hD hS => ?_)
  have hP : va_P (dC, dI) vwCl [(a0, .inl (cI, 22, .inl (gl [m0, m1, m2, m3, (m4 - 2), (m5 + 1), (m6 + 1), m7, m8, m9, m10, m11, m12, m13, m14, m15, m16, m17, 0, 4, 0, 16]))), (h, .inr (2, [.ref a0, .ref a1, .ref a2, .ref a3, .ref a4, .ref a5, .ref a6])), (a6, .inl (cI, 4000, .inl (pfX2_putBuffer_g_a6_f (pfX2_putBuffer_g_a6_f (pfX2_putBuffer_g_a6_f (pfX2_putBuffer_g_a6_f (pfX2_putBuffer_g_a6_f (pfX2_putBuffer_g_a6_f (pfX2_putBuffer_g_a6_f (pfX2_putBuffer_g_a6_f fb p1 0 0) p1 1 2) p1 2 p3) p1 3 (-1)) p1 4 (-1)) p1 5 (-1)) p1 6 (-1)) p1 7 2)))] H := hP
  have hD : va_D A [(a0, .inl (cI, 22, .inl (gl [m0, m1, m2, m3, (m4 - 2), (m5 + 1), (m6 + 1), m7, m8, m9, m10, m11, m12, m13, m14, m15, m16, m17, 0, 4, 0, 16]))), (h, .inr (2, [.ref a0, .ref a1, .ref a2, .ref a3, .ref a4, .ref a5, .ref a6])), (a6, .inl (cI, 4000, .inl (pfX2_putBuffer_g_a6_f (pfX2_putBuffer_g_a6_f (pfX2_putBuffer_g_a6_f (pfX2_putBuffer_g_a6_f (pfX2_putBuffer_g_a6_f (pfX2_putBuffer_g_a6_f (pfX2_putBuffer_g_a6_f (pfX2_putBuffer_g_a6_f fb p1 0 0) p1 1 2) p1 2 p3) p1 3 (-1)) p1 4 (-1)) p1 5 (-1)) p1 6 (-1)) p1 7 2)))] := hD
  have hP9 := hP.sub (ws' := [(h, .inr (2, [.ref a0, .ref a1, .ref a2, .ref a3, .ref a4, .ref a5, .ref a6])), (a0, .inl (cI, 22, .inl (gl [m0, m1, m2, m3, (m4 - 2), (m5 + 1), (m6 + 1), m7, m8, m9, m10, m11, m12, m13, m14, m15, m16, m17, 0, 4, 0, 16]))), (a6, .inl (cI, 4000, .inl (pfX2_putBuffer_g_a6_f (pfX2_putBuffer_g_a6_f (pfX2_putBuffer_g_a6_f (pfX2_putBuffer_g_a6_f (pfX2_putBuffer_g_a6_f (pfX2_putBuffer_g_a6_f (pfX2_putBuffer_g_a6_f (pfX2_putBuffer_g_a6_f fb p1 0 0) p1 1 2) p1 2 p3) p1 3 (-1)) p1 4 (-1)) p1 5 (-1)) p1 6 (-1)) p1 7 2)))]) [1, 0, 2] rfl
  have hD9 := hD.sub (ws' := [(h, .inr (2, [.ref a0, .ref a1, .ref a2, .ref a3, .ref a4, .ref a5, .ref a6])), (a0, .inl (cI, 22, .inl (gl [m0, m1, m2, m3, (m4 - 2), (m5 + 1), (m6 + 1), m7, m8, m9, m10, m11, m12, m13, m14, m15, m16, m17, 0, 4, 0, 16]))), (a6, .inl (cI, 4000, .inl (pfX2_putBuffer_g_a6_f (pfX2_putBuffer_g_a6_f (pfX2_putBuffer_g_a6_f (pfX2_putBuffer_g_a6_f (pfX2_putBuffer_g_a6_f (pfX2_putBuffer_g_a6_f (pfX2_putBuffer_g_a6_f (pfX2_putBuffer_g_a6_f fb p1 0 0) p1 1 2) p1 2 p3) p1 3 (-1)) p1 4 (-1)) p1 5 (-1)) p1 6 (-1)) p1 7 2)))]) [1, 0, 2] (by decide) rfl
  exact W.vret hx hb hr (fun t ht hW => ⟨⟨(), rfl, trivial, by rw [ht]; exact hP9, va_K.moved hW.alike hK, hD9⟩, hS.F ht⟩) hS.2.2 dX2_noteBuffer_92

set_option maxHeartbeats 4000000 in
set_option maxRecDepth 100000 in
theorem kkX2_noteBuffer_3 (l : Launch) (dC : Nat → ClassId) (dI : Nat → Nat → Nat) (cI cB cZ cR : ClassId) (sz : Nat) (h : Nat) (a0 : Nat) (a1 : Nat) (a2 : Nat) (a3 : Nat) (a4 : Nat) (a5 : Nat) (a6 : Nat) (m0 : Int32) (m1 : Int32) (m2 : Int32) (m3 : Int32) (m4 : Int32) (m5 : Int32) (m6 : Int32) (m7 : Int32) (m8 : Int32) (m9 : Int32) (m10 : Int32) (m11 : Int32) (m12 : Int32) (m13 : Int32) (m14 : Int32) (m15 : Int32) (m16 : Int32) (m17 : Int32) (fb : Nat → Int32) (p1 : Int32) (p3 : Int32) : Met l yX2_noteBuffer (.code yX2_noteBuffer cX2_noteBuffer 6 none :: wsL_law) ({ frames := 1, cells := 0, slots := 0, locals := 23 }) (zPc dC dI (zT cI cB cZ cR) [.ref h, .int p1, .int 3, .int p3, .int (-1), .int 3] sz [(h, .inr (2, [.ref a0, .ref a1, .ref a2, .ref a3, .ref a4, .ref a5, .ref a6])), (a0, .inl (cI, 22, .inl (gl [m0, m1, m2, m3, m4, m5, m6, m7, m8, m9, m10, m11, m12, m13, m14, m15, m16, m17, 0, 4, 0, 16]))), (a6, .inl (cI, 4000, .inl fb))]) (va_Qv (fun _ : Unit => True) (fun _ : Unit => zB dC dI (zT cI cB cZ cR) (va_A [(h, .inr (2, [.ref a0, .ref a1, .ref a2, .ref a3, .ref a4, .ref a5, .ref a6])), (a0, .inl (cI, 22, .inl (gl [m0, m1, m2, m3, m4, m5, m6, m7, m8, m9, m10, m11, m12, m13, m14, m15, m16, m17, 0, 4, 0, 16]))), (a6, .inl (cI, 4000, .inl fb))] sz) [(h, .inr (2, [.ref a0, .ref a1, .ref a2, .ref a3, .ref a4, .ref a5, .ref a6])), (a0, .inl (cI, 22, .inl (gl [m0, m1, m2, m3, (m4 - 3), (m5 + 1), (m6 + 1), m7, m8, m9, m10, m11, m12, m13, m14, m15, m16, m17, 0, 4, 0, 16]))), (a6, .inl (cI, 4000, .inl (pfX2_putBuffer_g_a6_f (pfX2_putBuffer_g_a6_f (pfX2_putBuffer_g_a6_f (pfX2_putBuffer_g_a6_f (pfX2_putBuffer_g_a6_f (pfX2_putBuffer_g_a6_f (pfX2_putBuffer_g_a6_f (pfX2_putBuffer_g_a6_f fb p1 0 0) p1 1 3) p1 2 p3) p1 3 (-1)) p1 4 (-1)) p1 5 (-1)) p1 6 (-1)) p1 7 3)))]) (va_A [(h, .inr (2, [.ref a0, .ref a1, .ref a2, .ref a3, .ref a4, .ref a5, .ref a6])), (a0, .inl (cI, 22, .inl (gl [m0, m1, m2, m3, m4, m5, m6, m7, m8, m9, m10, m11, m12, m13, m14, m15, m16, m17, 0, 4, 0, 16]))), (a6, .inl (cI, 4000, .inl fb))] sz)) 0 0 (va_A [(h, .inr (2, [.ref a0, .ref a1, .ref a2, .ref a3, .ref a4, .ref a5, .ref a6])), (a0, .inl (cI, 22, .inl (gl [m0, m1, m2, m3, m4, m5, m6, m7, m8, m9, m10, m11, m12, m13, m14, m15, m16, m17, 0, 4, 0, 16]))), (a6, .inl (cI, 4000, .inl fb))] sz) := by
  refine Met.ofW (cc := cX2_noteBuffer) (maxL := 6) (ret := none) (by decide) rfl ?_
  intro p e s m args below meth c s₁ B hml hv
  obtain ⟨rfl, hsz, hP, hK, hD0, hN⟩ := hv
  have hx := B.exec
  have hb := B.bytes
  have hr := B.returns
  have hts := atoms_spec (ws := (.code yX2_noteBuffer cX2_noteBuffer 6 none :: wsL_law)) B.pre
  have hown : s.vm.findClass RX2 = some m.cls := findClass_of_methodNamed B.named
  have hlocks := B.notSynchronized
  have hinX2 : ∀ w ∈ u_ws RX2 TX2 7, w ∈ (.code yX2_noteBuffer cX2_noteBuffer 6 none :: wsL_law) := fun w h => List.mem_cons_of_mem _ (inlX2 w h)
  have k_0 := hts (.fieldLink RX2 11 "RingMarks$Ring" "marks" "[I") (List.mem_cons_of_mem _ wm_61)
  subst hsz
  have hD := hD0.self (sz := s.heap.size)
  generalize hAe : va_A [(h, .inr (2, [.ref a0, .ref a1, .ref a2, .ref a3, .ref a4, .ref a5, .ref a6])), (a0, .inl (cI, 22, .inl (gl [m0, m1, m2, m3, m4, m5, m6, m7, m8, m9, m10, m11, m12, m13, m14, m15, m16, m17, 0, 4, 0, 16]))), (a6, .inl (cI, 4000, .inl fb))] s.heap.size = A at hD ⊢
  have hA : ∀ q : Nat, s.heap.size ≤ q → A q := fun q h => by rw [← hAe]; exact Or.inr h
  have hP : va_P (dC, dI) vwCl [(h, .inr (2, [.ref a0, .ref a1, .ref a2, .ref a3, .ref a4, .ref a5, .ref a6])), (a0, .inl (cI, 22, .inl (gl [m0, m1, m2, m3, m4, m5, m6, m7, m8, m9, m10, m11, m12, m13, m14, m15, m16, m17, 0, 4, 0, 16]))), (a6, .inl (cI, 4000, .inl fb))] s.heap := hP
  have hl := lv_entry ([.ref h, .int p1, .int 3, .int p3, .int (-1), .int 3]) (n := 6) (Nat.le_of_ble_eq_true rfl)
  rw [lg_entry_eq]
  generalize (lg_sl ([.ref h, .int p1, .int 3, .int p3, .int (-1), .int 3]) ++ List.replicate (6 - (lg_sl ([.ref h, .int p1, .int 3, .int p3, .int (-1), .int 3])).length) Slot.unset).toArray = ls at hl ⊢
  have hl : lv_has ls 6 [(0, .ref h), (1, .int p1), (2, .int 3), (3, .int p3), (4, .int (-1)), (5, .int 3)] := hl
  obtain ⟨H, hH⟩ : ∃ H, H = s.heap := ⟨_, rfl⟩
  rw [← hH] at hP ⊢
  have hS : va_S A s.heap H [] := by rw [hH]; exact va_S.rf
  refine lv_aload_n hx hb dX2_noteBuffer_0 rfl (lv_at hl 0 rfl) ?_
  refine va_get (D := (dC, dI)) (ci := 2) (v := .ref a0) (C := RX2) (T := TX2) (N := 7) hx hb hts hinX2 hown hK hP 0 rfl rfl 0 (by decide) k_0 (fun _ h9 => h9) rfl dX2_noteBuffer_1 ?_
  refine lv_iconst (v := 5) hx hb dX2_noteBuffer_4 (by decide) ?_
  refine lv_dup2_11 hx hb dX2_noteBuffer_5 rfl rfl ?_
  refine za_iald (v := m5) hx hb hK hP 1 0 rfl rfl (zin tn_5 (Nat.le_of_ble_eq_true rfl)) (zrd _ tn_5 rfl) dX2_noteBuffer_6 ?_
  refine lv_iconst (v := 1) hx hb dX2_noteBuffer_7 (by decide) ?_
  refine lv_iadd hx hb dX2_noteBuffer_8 ?_
  refine za_iast (f' := (gl [m0, m1, m2, m3, m4, (m5 + 1), m6, m7, m8, m9, m10, m11, m12, m13, m14, m15, m16, m17, 0, 4, 0, 16])) hx hb hK hP hD hS 1 0 rfl rfl (zin tn_5 (Nat.le_of_ble_eq_true rfl)) (zup_gl tn_5 (Nat.le_of_ble_eq_true rfl) rfl) dX2_noteBuffer_9 (fun H locs hP hD hS => ?_)
  have hP : va_P (dC, dI) vwCl [(h, .inr (2, [.ref a0, .ref a1, .ref a2, .ref a3, .ref a4, .ref a5, .ref a6])), (a0, .inl (cI, 22, .inl (gl [m0, m1, m2, m3, m4, (m5 + 1), m6, m7, m8, m9, m10, m11, m12, m13, m14, m15, m16, m17, 0, 4, 0, 16]))), (a6, .inl (cI, 4000, .inl fb))] H := hP
  have hD : va_D A [(h, .inr (2, [.ref a0, .ref a1, .ref a2, .ref a3, .ref a4, .ref a5, .ref a6])), (a0, .inl (cI, 22, .inl (gl [m0, m1, m2, m3, m4, (m5 + 1), m6, m7, m8, m9, m10, m11, m12, m13, m14, m15, m16, m17, 0, 4, 0, 16]))), (a6, .inl (cI, 4000, .inl fb))] := hD
  refine lv_aload_n hx hb dX2_noteBuffer_10 rfl (lv_at hl 0 rfl) ?_
  refine va_get (D := (dC, dI)) (ci := 2) (v := .ref a0) (C := RX2) (T := TX2) (N := 7) hx hb hts hinX2 hown hK hP 0 rfl rfl 0 (by decide) k_0 (fun _ h9 => h9) rfl dX2_noteBuffer_11 ?_
  refine lv_bipush (v := 6) hx hb dX2_noteBuffer_14 (by decide) ?_
  refine lv_dup2_11 hx hb dX2_noteBuffer_16 rfl rfl ?_
  refine za_iald (v := m6) hx hb hK hP 1 0 rfl rfl (zin tn_6 (Nat.le_of_ble_eq_true rfl)) (zrd _ tn_6 rfl) dX2_noteBuffer_17 ?_
  refine lv_iconst (v := 1) hx hb dX2_noteBuffer_18 (by decide) ?_
  refine lv_iadd hx hb dX2_noteBuffer_19 ?_
  refine za_iast (f' := (gl [m0, m1, m2, m3, m4, (m5 + 1), (m6 + 1), m7, m8, m9, m10, m11, m12, m13, m14, m15, m16, m17, 0, 4, 0, 16])) hx hb hK hP hD hS 1 0 rfl rfl (zin tn_6 (Nat.le_of_ble_eq_true rfl)) (zup_gl tn_6 (Nat.le_of_ble_eq_true rfl) rfl) dX2_noteBuffer_20 (fun H locs hP hD hS => ?_)
  have hP : va_P (dC, dI) vwCl [(h, .inr (2, [.ref a0, .ref a1, .ref a2, .ref a3, .ref a4, .ref a5, .ref a6])), (a0, .inl (cI, 22, .inl (gl [m0, m1, m2, m3, m4, (m5 + 1), (m6 + 1), m7, m8, m9, m10, m11, m12, m13, m14, m15, m16, m17, 0, 4, 0, 16]))), (a6, .inl (cI, 4000, .inl fb))] H := hP
  have hD : va_D A [(h, .inr (2, [.ref a0, .ref a1, .ref a2, .ref a3, .ref a4, .ref a5, .ref a6])), (a0, .inl (cI, 22, .inl (gl [m0, m1, m2, m3, m4, (m5 + 1), (m6 + 1), m7, m8, m9, m10, m11, m12, m13, m14, m15, m16, m17, 0, 4, 0, 16]))), (a6, .inl (cI, 4000, .inl fb))] := hD
  refine lv_aload_n hx hb dX2_noteBuffer_21 rfl (lv_at hl 0 rfl) ?_
  refine va_get (D := (dC, dI)) (ci := 2) (v := .ref a0) (C := RX2) (T := TX2) (N := 7) hx hb hts hinX2 hown hK hP 0 rfl rfl 0 (by decide) k_0 (fun _ h9 => h9) rfl dX2_noteBuffer_22 ?_
  refine lv_iconst (v := 4) hx hb dX2_noteBuffer_25 (by decide) ?_
  refine lv_dup2_11 hx hb dX2_noteBuffer_26 rfl rfl ?_
  refine za_iald (v := m4) hx hb hK hP 1 0 rfl rfl (zin tn_4 (Nat.le_of_ble_eq_true rfl)) (zrd _ tn_4 rfl) dX2_noteBuffer_27 ?_
  refine lv_iload hx hb dX2_noteBuffer_28 (lv_at hl 5 rfl) ?_
  refine lv_isub hx hb dX2_noteBuffer_30 ?_
  refine za_iast (f' := (gl [m0, m1, m2, m3, (m4 - 3), (m5 + 1), (m6 + 1), m7, m8, m9, m10, m11, m12, m13, m14, m15, m16, m17, 0, 4, 0, 16])) hx hb hK hP hD hS 1 0 rfl rfl (zin tn_4 (Nat.le_of_ble_eq_true rfl)) (zup_gl tn_4 (Nat.le_of_ble_eq_true rfl) rfl) dX2_noteBuffer_31 (fun H locs hP hD hS => ?_)
  have hP : va_P (dC, dI) vwCl [(h, .inr (2, [.ref a0, .ref a1, .ref a2, .ref a3, .ref a4, .ref a5, .ref a6])), (a0, .inl (cI, 22, .inl (gl [m0, m1, m2, m3, (m4 - 3), (m5 + 1), (m6 + 1), m7, m8, m9, m10, m11, m12, m13, m14, m15, m16, m17, 0, 4, 0, 16]))), (a6, .inl (cI, 4000, .inl fb))] H := hP
  have hD : va_D A [(h, .inr (2, [.ref a0, .ref a1, .ref a2, .ref a3, .ref a4, .ref a5, .ref a6])), (a0, .inl (cI, 22, .inl (gl [m0, m1, m2, m3, (m4 - 3), (m5 + 1), (m6 + 1), m7, m8, m9, m10, m11, m12, m13, m14, m15, m16, m17, 0, 4, 0, 16]))), (a6, .inl (cI, 4000, .inl fb))] := hD
  refine lv_aload_n hx hb dX2_noteBuffer_32 rfl (lv_at hl 0 rfl) ?_
  refine lv_iload_n hx hb dX2_noteBuffer_33 rfl (lv_at hl 1 rfl) ?_
  refine lv_iconst (v := 0) hx hb dX2_noteBuffer_34 (by decide) ?_
  refine lv_iconst (v := 0) hx hb dX2_noteBuffer_35 (by decide) ?_
  refine zcVv (As := [.int p1, .int 0, .int 0]) (rest := []) (wr := [(a0, .inl (cI, 22, .inl (gl [m0, m1, m2, m3, (m4 - 3), (m5 + 1), (m6 + 1), m7, m8, m9, m10, m11, m12, m13, m14, m15, m16, m17, 0, 4, 0, 16])))]) ⟨hx, hb, hml, hown, hts⟩ (kkX2_putBuffer_g l dC dI cI cB cZ cR H.size h a0 a1 a2 a3 a4 a5 a6 fb p1 0 0 ) (cwV 3 hts (zgV wm_278 wm_279 wm_280 wm_22 wm_281) rfl rfl rfl (by decide +kernel) ⟨Nat.le_of_ble_eq_true rfl, Nat.le_of_ble_eq_true rfl⟩) hN hK hP hD hS hA [0, 2] [1] rfl rfl ⟨rfl, rfl⟩ (by decide) (ci := 2) rfl rfl rfl rfl hl.1 rfl (Nat.le_of_ble_eq_true rfl) dX2_noteBuffer_36 ⟨Nat.le_of_ble_eq_true rfl, Nat.le_of_ble_eq_true rfl⟩ (fun u hu H locs hP hD hS => ?_)
  have hP : va_P (dC, dI) vwCl [(a0, .inl (cI, 22, .inl (gl [m0, m1, m2, m3, (m4 - 3), (m5 + 1), (m6 + 1), m7, m8, m9, m10, m11, m12, m13, m14, m15, m16, m17, 0, 4, 0, 16]))), (h, .inr (2, [.ref a0, .ref a1, .ref a2, .ref a3, .ref a4, .ref a5, .ref a6])), (a6, .inl (cI, 4000, .inl (pfX2_putBuffer_g_a6_f fb p1 0 0)))] H := hP
  have hD : va_D A [(a0, .inl (cI, 22, .inl (gl [m0, m1, m2, m3, (m4 - 3), (m5 + 1), (m6 + 1), m7, m8, m9, m10, m11, m12, m13, m14, m15, m16, m17, 0, 4, 0, 16]))), (h, .inr (2, [.ref a0, .ref a1, .ref a2, .ref a3, .ref a4, .ref a5, .ref a6])), (a6, .inl (cI, 4000, .inl (pfX2_putBuffer_g_a6_f fb p1 0 0)))] := hD
  refine lv_aload_n hx hb dX2_noteBuffer_39 rfl (lv_at hl 0 rfl) ?_
  refine lv_iload_n hx hb dX2_noteBuffer_40 rfl (lv_at hl 1 rfl) ?_
  refine lv_iconst (v := 1) hx hb dX2_noteBuffer_41 (by decide) ?_
  refine lv_iload_n hx hb dX2_noteBuffer_42 rfl (lv_at hl 2 rfl) ?_
  refine zcVv (As := [.int p1, .int 1, .int 3]) (rest := []) (wr := [(a0, .inl (cI, 22, .inl (gl [m0, m1, m2, m3, (m4 - 3), (m5 + 1), (m6 + 1), m7, m8, m9, m10, m11, m12, m13, m14, m15, m16, m17, 0, 4, 0, 16])))]) ⟨hx, hb, hml, hown, hts⟩ (kkX2_putBuffer_g l dC dI cI cB cZ cR H.size h a0 a1 a2 a3 a4 a5 a6 (pfX2_putBuffer_g_a6_f fb p1 0 0) p1 1 3 ) (cwV 3 hts (zgV wm_278 wm_279 wm_280 wm_22 wm_281) rfl rfl rfl (by decide +kernel) ⟨Nat.le_of_ble_eq_true rfl, Nat.le_of_ble_eq_true rfl⟩) hN hK hP hD hS hA [1, 2] [0] rfl rfl ⟨rfl, rfl⟩ (by decide) (ci := 2) rfl rfl rfl rfl hl.1 rfl (Nat.le_of_ble_eq_true rfl) dX2_noteBuffer_43 ⟨Nat.le_of_ble_eq_true rfl, Nat.le_of_ble_eq_true rfl⟩ (fun u hu H locs hP hD hS => ?_)
  have hP : va_P (dC, dI) vwCl [(a0, .inl (cI, 22, .inl (gl [m0, m1, m2, m3, (m4 - 3), (m5 + 1), (m6 + 1), m7, m8, m9, m10, m11, m12, m13, m14, m15, m16, m17, 0, 4, 0, 16]))), (h, .inr (2, [.ref a0, .ref a1, .ref a2, .ref a3, .ref a4, .ref a5, .ref a6])), (a6, .inl (cI, 4000, .inl (pfX2_putBuffer_g_a6_f (pfX2_putBuffer_g_a6_f fb p1 0 0) p1 1 3)))] H := hP
  have hD : va_D A [(a0, .inl (cI, 22, .inl (gl [m0, m1, m2, m3, (m4 - 3), (m5 + 1), (m6 + 1), m7, m8, m9, m10, m11, m12, m13, m14, m15, m16, m17, 0, 4, 0, 16]))), (h, .inr (2, [.ref a0, .ref a1, .ref a2, .ref a3, .ref a4, .ref a5, .ref a6])), (a6, .inl (cI, 4000, .inl (pfX2_putBuffer_g_a6_f (pfX2_putBuffer_g_a6_f fb p1 0 0) p1 1 3)))] := hD
  refine lv_aload_n hx hb dX2_noteBuffer_46 rfl (lv_at hl 0 rfl) ?_
  refine lv_iload_n hx hb dX2_noteBuffer_47 rfl (lv_at hl 1 rfl) ?_
  refine lv_iconst (v := 2) hx hb dX2_noteBuffer_48 (by decide) ?_
  refine lv_iload_n hx hb dX2_noteBuffer_49 rfl (lv_at hl 3 rfl) ?_
  refine zcVv (As := [.int p1, .int 2, .int p3]) (rest := []) (wr := [(a0, .inl (cI, 22, .inl (gl [m0, m1, m2, m3, (m4 - 3), (m5 + 1), (m6 + 1), m7, m8, m9, m10, m11, m12, m13, m14, m15, m16, m17, 0, 4, 0, 16])))]) ⟨hx, hb, hml, hown, hts⟩ (kkX2_putBuffer_g l dC dI cI cB cZ cR H.size h a0 a1 a2 a3 a4 a5 a6 (pfX2_putBuffer_g_a6_f (pfX2_putBuffer_g_a6_f fb p1 0 0) p1 1 3) p1 2 p3 ) (cwV 3 hts (zgV wm_278 wm_279 wm_280 wm_22 wm_281) rfl rfl rfl (by decide +kernel) ⟨Nat.le_of_ble_eq_true rfl, Nat.le_of_ble_eq_true rfl⟩) hN hK hP hD hS hA [1, 2] [0] rfl rfl ⟨rfl, rfl⟩ (by decide) (ci := 2) rfl rfl rfl rfl hl.1 rfl (Nat.le_of_ble_eq_true rfl) dX2_noteBuffer_50 ⟨Nat.le_of_ble_eq_true rfl, Nat.le_of_ble_eq_true rfl⟩ (fun u hu H locs hP hD hS => ?_)
  have hP : va_P (dC, dI) vwCl [(a0, .inl (cI, 22, .inl (gl [m0, m1, m2, m3, (m4 - 3), (m5 + 1), (m6 + 1), m7, m8, m9, m10, m11, m12, m13, m14, m15, m16, m17, 0, 4, 0, 16]))), (h, .inr (2, [.ref a0, .ref a1, .ref a2, .ref a3, .ref a4, .ref a5, .ref a6])), (a6, .inl (cI, 4000, .inl (pfX2_putBuffer_g_a6_f (pfX2_putBuffer_g_a6_f (pfX2_putBuffer_g_a6_f fb p1 0 0) p1 1 3) p1 2 p3)))] H := hP
  have hD : va_D A [(a0, .inl (cI, 22, .inl (gl [m0, m1, m2, m3, (m4 - 3), (m5 + 1), (m6 + 1), m7, m8, m9, m10, m11, m12, m13, m14, m15, m16, m17, 0, 4, 0, 16]))), (h, .inr (2, [.ref a0, .ref a1, .ref a2, .ref a3, .ref a4, .ref a5, .ref a6])), (a6, .inl (cI, 4000, .inl (pfX2_putBuffer_g_a6_f (pfX2_putBuffer_g_a6_f (pfX2_putBuffer_g_a6_f fb p1 0 0) p1 1 3) p1 2 p3)))] := hD
  refine lv_aload_n hx hb dX2_noteBuffer_53 rfl (lv_at hl 0 rfl) ?_
  refine lv_iload_n hx hb dX2_noteBuffer_54 rfl (lv_at hl 1 rfl) ?_
  refine lv_iconst (v := 3) hx hb dX2_noteBuffer_55 (by decide) ?_
  refine lv_iload hx hb dX2_noteBuffer_56 (lv_at hl 4 rfl) ?_
  refine zcVv (As := [.int p1, .int 3, .int (-1)]) (rest := []) (wr := [(a0, .inl (cI, 22, .inl (gl [m0, m1, m2, m3, (m4 - 3), (m5 + 1), (m6 + 1), m7, m8, m9, m10, m11, m12, m13, m14, m15, m16, m17, 0, 4, 0, 16])))]) ⟨hx, hb, hml, hown, hts⟩ (kkX2_putBuffer_g l dC dI cI cB cZ cR H.size h a0 a1 a2 a3 a4 a5 a6 (pfX2_putBuffer_g_a6_f (pfX2_putBuffer_g_a6_f (pfX2_putBuffer_g_a6_f fb p1 0 0) p1 1 3) p1 2 p3) p1 3 (-1) ) (cwV 3 hts (zgV wm_278 wm_279 wm_280 wm_22 wm_281) rfl rfl rfl (by decide +kernel) ⟨Nat.le_of_ble_eq_true rfl, Nat.le_of_ble_eq_true rfl⟩) hN hK hP hD hS hA [1, 2] [0] rfl rfl ⟨rfl, rfl⟩ (by decide) (ci := 2) rfl rfl rfl rfl hl.1 rfl (Nat.le_of_ble_eq_true rfl) dX2_noteBuffer_58 ⟨Nat.le_of_ble_eq_true rfl, Nat.le_of_ble_eq_true rfl⟩ (fun u hu H locs hP hD hS => ?_)
  have hP : va_P (dC, dI) vwCl [(a0, .inl (cI, 22, .inl (gl [m0, m1, m2, m3, (m4 - 3), (m5 + 1), (m6 + 1), m7, m8, m9, m10, m11, m12, m13, m14, m15, m16, m17, 0, 4, 0, 16]))), (h, .inr (2, [.ref a0, .ref a1, .ref a2, .ref a3, .ref a4, .ref a5, .ref a6])), (a6, .inl (cI, 4000, .inl (pfX2_putBuffer_g_a6_f (pfX2_putBuffer_g_a6_f (pfX2_putBuffer_g_a6_f (pfX2_putBuffer_g_a6_f fb p1 0 0) p1 1 3) p1 2 p3) p1 3 (-1))))] H := hP
  have hD : va_D A [(a0, .inl (cI, 22, .inl (gl [m0, m1, m2, m3, (m4 - 3), (m5 + 1), (m6 + 1), m7, m8, m9, m10, m11, m12, m13, m14, m15, m16, m17, 0, 4, 0, 16]))), (h, .inr (2, [.ref a0, .ref a1, .ref a2, .ref a3, .ref a4, .ref a5, .ref a6])), (a6, .inl (cI, 4000, .inl (pfX2_putBuffer_g_a6_f (pfX2_putBuffer_g_a6_f (pfX2_putBuffer_g_a6_f (pfX2_putBuffer_g_a6_f fb p1 0 0) p1 1 3) p1 2 p3) p1 3 (-1))))] := hD
  refine lv_aload_n hx hb dX2_noteBuffer_61 rfl (lv_at hl 0 rfl) ?_
  refine lv_iload_n hx hb dX2_noteBuffer_62 rfl (lv_at hl 1 rfl) ?_
  refine lv_iconst (v := 4) hx hb dX2_noteBuffer_63 (by decide) ?_
  refine lv_iconst (v := (-1)) hx hb dX2_noteBuffer_64 (by decide) ?_
  refine zcVv (As := [.int p1, .int 4, .int (-1)]) (rest := []) (wr := [(a0, .inl (cI, 22, .inl (gl [m0, m1, m2, m3, (m4 - 3), (m5 + 1), (m6 + 1), m7, m8, m9, m10, m11, m12, m13, m14, m15, m16, m17, 0, 4, 0, 16])))]) ⟨hx, hb, hml, hown, hts⟩ (kkX2_putBuffer_g l dC dI cI cB cZ cR H.size h a0 a1 a2 a3 a4 a5 a6 (pfX2_putBuffer_g_a6_f (pfX2_putBuffer_g_a6_f (pfX2_putBuffer_g_a6_f (pfX2_putBuffer_g_a6_f fb p1 0 0) p1 1 3) p1 2 p3) p1 3 (-1)) p1 4 (-1) ) (cwV 3 hts (zgV wm_278 wm_279 wm_280 wm_22 wm_281) rfl rfl rfl (by decide +kernel) ⟨Nat.le_of_ble_eq_true rfl, Nat.le_of_ble_eq_true rfl⟩) hN hK hP hD hS hA [1, 2] [0] rfl rfl ⟨rfl, rfl⟩ (by decide) (ci := 2) rfl rfl rfl rfl hl.1 rfl (Nat.le_of_ble_eq_true rfl) dX2_noteBuffer_65 ⟨Nat.le_of_ble_eq_true rfl, Nat.le_of_ble_eq_true rfl⟩ (fun u hu H locs hP hD hS => ?_)
  have hP : va_P (dC, dI) vwCl [(a0, .inl (cI, 22, .inl (gl [m0, m1, m2, m3, (m4 - 3), (m5 + 1), (m6 + 1), m7, m8, m9, m10, m11, m12, m13, m14, m15, m16, m17, 0, 4, 0, 16]))), (h, .inr (2, [.ref a0, .ref a1, .ref a2, .ref a3, .ref a4, .ref a5, .ref a6])), (a6, .inl (cI, 4000, .inl (pfX2_putBuffer_g_a6_f (pfX2_putBuffer_g_a6_f (pfX2_putBuffer_g_a6_f (pfX2_putBuffer_g_a6_f (pfX2_putBuffer_g_a6_f fb p1 0 0) p1 1 3) p1 2 p3) p1 3 (-1)) p1 4 (-1))))] H := hP
  have hD : va_D A [(a0, .inl (cI, 22, .inl (gl [m0, m1, m2, m3, (m4 - 3), (m5 + 1), (m6 + 1), m7, m8, m9, m10, m11, m12, m13, m14, m15, m16, m17, 0, 4, 0, 16]))), (h, .inr (2, [.ref a0, .ref a1, .ref a2, .ref a3, .ref a4, .ref a5, .ref a6])), (a6, .inl (cI, 4000, .inl (pfX2_putBuffer_g_a6_f (pfX2_putBuffer_g_a6_f (pfX2_putBuffer_g_a6_f (pfX2_putBuffer_g_a6_f (pfX2_putBuffer_g_a6_f fb p1 0 0) p1 1 3) p1 2 p3) p1 3 (-1)) p1 4 (-1))))] := hD
  refine lv_aload_n hx hb dX2_noteBuffer_68 rfl (lv_at hl 0 rfl) ?_
  refine lv_iload_n hx hb dX2_noteBuffer_69 rfl (lv_at hl 1 rfl) ?_
  refine lv_iconst (v := 5) hx hb dX2_noteBuffer_70 (by decide) ?_
  refine lv_iconst (v := (-1)) hx hb dX2_noteBuffer_71 (by decide) ?_
  refine zcVv (As := [.int p1, .int 5, .int (-1)]) (rest := []) (wr := [(a0, .inl (cI, 22, .inl (gl [m0, m1, m2, m3, (m4 - 3), (m5 + 1), (m6 + 1), m7, m8, m9, m10, m11, m12, m13, m14, m15, m16, m17, 0, 4, 0, 16])))]) ⟨hx, hb, hml, hown, hts⟩ (kkX2_putBuffer_g l dC dI cI cB cZ cR H.size h a0 a1 a2 a3 a4 a5 a6 (pfX2_putBuffer_g_a6_f (pfX2_putBuffer_g_a6_f (pfX2_putBuffer_g_a6_f (pfX2_putBuffer_g_a6_f (pfX2_putBuffer_g_a6_f fb p1 0 0) p1 1 3) p1 2 p3) p1 3 (-1)) p1 4 (-1)) p1 5 (-1) ) (cwV 3 hts (zgV wm_278 wm_279 wm_280 wm_22 wm_281) rfl rfl rfl (by decide +kernel) ⟨Nat.le_of_ble_eq_true rfl, Nat.le_of_ble_eq_true rfl⟩) hN hK hP hD hS hA [1, 2] [0] rfl rfl ⟨rfl, rfl⟩ (by decide) (ci := 2) rfl rfl rfl rfl hl.1 rfl (Nat.le_of_ble_eq_true rfl) dX2_noteBuffer_72 ⟨Nat.le_of_ble_eq_true rfl, Nat.le_of_ble_eq_true rfl⟩ (fun u hu H locs hP hD hS => ?_)
  have hP : va_P (dC, dI) vwCl [(a0, .inl (cI, 22, .inl (gl [m0, m1, m2, m3, (m4 - 3), (m5 + 1), (m6 + 1), m7, m8, m9, m10, m11, m12, m13, m14, m15, m16, m17, 0, 4, 0, 16]))), (h, .inr (2, [.ref a0, .ref a1, .ref a2, .ref a3, .ref a4, .ref a5, .ref a6])), (a6, .inl (cI, 4000, .inl (pfX2_putBuffer_g_a6_f (pfX2_putBuffer_g_a6_f (pfX2_putBuffer_g_a6_f (pfX2_putBuffer_g_a6_f (pfX2_putBuffer_g_a6_f (pfX2_putBuffer_g_a6_f fb p1 0 0) p1 1 3) p1 2 p3) p1 3 (-1)) p1 4 (-1)) p1 5 (-1))))] H := hP
  have hD : va_D A [(a0, .inl (cI, 22, .inl (gl [m0, m1, m2, m3, (m4 - 3), (m5 + 1), (m6 + 1), m7, m8, m9, m10, m11, m12, m13, m14, m15, m16, m17, 0, 4, 0, 16]))), (h, .inr (2, [.ref a0, .ref a1, .ref a2, .ref a3, .ref a4, .ref a5, .ref a6])), (a6, .inl (cI, 4000, .inl (pfX2_putBuffer_g_a6_f (pfX2_putBuffer_g_a6_f (pfX2_putBuffer_g_a6_f (pfX2_putBuffer_g_a6_f (pfX2_putBuffer_g_a6_f (pfX2_putBuffer_g_a6_f fb p1 0 0) p1 1 3) p1 2 p3) p1 3 (-1)) p1 4 (-1)) p1 5 (-1))))] := hD
  refine lv_aload_n hx hb dX2_noteBuffer_75 rfl (lv_at hl 0 rfl) ?_
  refine lv_iload_n hx hb dX2_noteBuffer_76 rfl (lv_at hl 1 rfl) ?_
  refine lv_bipush (v := 6) hx hb dX2_noteBuffer_77 (by decide) ?_
  refine lv_iconst (v := (-1)) hx hb dX2_noteBuffer_79 (by decide) ?_
  refine zcVv (As := [.int p1, .int 6, .int (-1)]) (rest := []) (wr := [(a0, .inl (cI, 22, .inl (gl [m0, m1, m2, m3, (m4 - 3), (m5 + 1), (m6 + 1), m7, m8, m9, m10, m11, m12, m13, m14, m15, m16, m17, 0, 4, 0, 16])))]) ⟨hx, hb, hml, hown, hts⟩ (kkX2_putBuffer_g l dC dI cI cB cZ cR H.size h a0 a1 a2 a3 a4 a5 a6 (pfX2_putBuffer_g_a6_f (pfX2_putBuffer_g_a6_f (pfX2_putBuffer_g_a6_f (pfX2_putBuffer_g_a6_f (pfX2_putBuffer_g_a6_f (pfX2_putBuffer_g_a6_f fb p1 0 0) p1 1 3) p1 2 p3) p1 3 (-1)) p1 4 (-1)) p1 5 (-1)) p1 6 (-1) ) (cwV 3 hts (zgV wm_278 wm_279 wm_280 wm_22 wm_281) rfl rfl rfl (by decide +kernel) ⟨Nat.le_of_ble_eq_true rfl, Nat.le_of_ble_eq_true rfl⟩) hN hK hP hD hS hA [1, 2] [0] rfl rfl ⟨rfl, rfl⟩ (by decide) (ci := 2) rfl rfl rfl rfl hl.1 rfl (Nat.le_of_ble_eq_true rfl) dX2_noteBuffer_80 ⟨Nat.le_of_ble_eq_true rfl, Nat.le_of_ble_eq_true rfl⟩ (fun u hu H locs hP hD hS => ?_)
  have hP : va_P (dC, dI) vwCl [(a0, .inl (cI, 22, .inl (gl [m0, m1, m2, m3, (m4 - 3), (m5 + 1), (m6 + 1), m7, m8, m9, m10, m11, m12, m13, m14, m15, m16, m17, 0, 4, 0, 16]))), (h, .inr (2, [.ref a0, .ref a1, .ref a2, .ref a3, .ref a4, .ref a5, .ref a6])), (a6, .inl (cI, 4000, .inl (pfX2_putBuffer_g_a6_f (pfX2_putBuffer_g_a6_f (pfX2_putBuffer_g_a6_f (pfX2_putBuffer_g_a6_f (pfX2_putBuffer_g_a6_f (pfX2_putBuffer_g_a6_f (pfX2_putBuffer_g_a6_f fb p1 0 0) p1 1 3) p1 2 p3) p1 3 (-1)) p1 4 (-1)) p1 5 (-1)) p1 6 (-1))))] H := hP
  have hD : va_D A [(a0, .inl (cI, 22, .inl (gl [m0, m1, m2, m3, (m4 - 3), (m5 + 1), (m6 + 1), m7, m8, m9, m10, m11, m12, m13, m14, m15, m16, m17, 0, 4, 0, 16]))), (h, .inr (2, [.ref a0, .ref a1, .ref a2, .ref a3, .ref a4, .ref a5, .ref a6])), (a6, .inl (cI, 4000, .inl (pfX2_putBuffer_g_a6_f (pfX2_putBuffer_g_a6_f (pfX2_putBuffer_g_a6_f (pfX2_putBuffer_g_a6_f (pfX2_putBuffer_g_a6_f (pfX2_putBuffer_g_a6_f (pfX2_putBuffer_g_a6_f fb p1 0 0) p1 1 3) p1 2 p3) p1 3 (-1)) p1 4 (-1)) p1 5 (-1)) p1 6 (-1))))] := hD
  refine lv_aload_n hx hb dX2_noteBuffer_83 rfl (lv_at hl 0 rfl) ?_
  refine lv_iload_n hx hb dX2_noteBuffer_84 rfl (lv_at hl 1 rfl) ?_
  refine lv_bipush (v := 7) hx hb dX2_noteBuffer_85 (by decide) ?_
  refine lv_iload hx hb dX2_noteBuffer_87 (lv_at hl 5 rfl) ?_
  refine zcVv (As := [.int p1, .int 7, .int 3]) (rest := []) (wr := [(a0, .inl (cI, 22, .inl (gl [m0, m1, m2, m3, (m4 - 3), (m5 + 1), (m6 + 1), m7, m8, m9, m10, m11, m12, m13, m14, m15, m16, m17, 0, 4, 0, 16])))]) ⟨hx, hb, hml, hown, hts⟩ (kkX2_putBuffer_g l dC dI cI cB cZ cR H.size h a0 a1 a2 a3 a4 a5 a6 (pfX2_putBuffer_g_a6_f (pfX2_putBuffer_g_a6_f (pfX2_putBuffer_g_a6_f (pfX2_putBuffer_g_a6_f (pfX2_putBuffer_g_a6_f (pfX2_putBuffer_g_a6_f (pfX2_putBuffer_g_a6_f fb p1 0 0) p1 1 3) p1 2 p3) p1 3 (-1)) p1 4 (-1)) p1 5 (-1)) p1 6 (-1)) p1 7 3 ) (cwV 3 hts (zgV wm_278 wm_279 wm_280 wm_22 wm_281) rfl rfl rfl (by decide +kernel) ⟨Nat.le_of_ble_eq_true rfl, Nat.le_of_ble_eq_true rfl⟩) hN hK hP hD hS hA [1, 2] [0] rfl rfl ⟨rfl, rfl⟩ (by decide) (ci := 2) rfl rfl rfl rfl hl.1 rfl (Nat.le_of_ble_eq_true rfl) dX2_noteBuffer_89 ⟨Nat.le_of_ble_eq_true rfl, Nat.le_of_ble_eq_true rfl⟩ (fun u hu H locs hP hD hS => ?_)
  have hP : va_P (dC, dI) vwCl [(a0, .inl (cI, 22, .inl (gl [m0, m1, m2, m3, (m4 - 3), (m5 + 1), (m6 + 1), m7, m8, m9, m10, m11, m12, m13, m14, m15, m16, m17, 0, 4, 0, 16]))), (h, .inr (2, [.ref a0, .ref a1, .ref a2, .ref a3, .ref a4, .ref a5, .ref a6])), (a6, .inl (cI, 4000, .inl (pfX2_putBuffer_g_a6_f (pfX2_putBuffer_g_a6_f (pfX2_putBuffer_g_a6_f (pfX2_putBuffer_g_a6_f (pfX2_putBuffer_g_a6_f (pfX2_putBuffer_g_a6_f (pfX2_putBuffer_g_a6_f (pfX2_putBuffer_g_a6_f fb p1 0 0) p1 1 3) p1 2 p3) p1 3 (-1)) p1 4 (-1)) p1 5 (-1)) p1 6 (-1)) p1 7 3)))] H := hP
  have hD : va_D A [(a0, .inl (cI, 22, .inl (gl [m0, m1, m2, m3, (m4 - 3), (m5 + 1), (m6 + 1), m7, m8, m9, m10, m11, m12, m13, m14, m15, m16, m17, 0, 4, 0, 16]))), (h, .inr (2, [.ref a0, .ref a1, .ref a2, .ref a3, .ref a4, .ref a5, .ref a6])), (a6, .inl (cI, 4000, .inl (pfX2_putBuffer_g_a6_f (pfX2_putBuffer_g_a6_f (pfX2_putBuffer_g_a6_f (pfX2_putBuffer_g_a6_f (pfX2_putBuffer_g_a6_f (pfX2_putBuffer_g_a6_f (pfX2_putBuffer_g_a6_f (pfX2_putBuffer_g_a6_f fb p1 0 0) p1 1 3) p1 2 p3) p1 3 (-1)) p1 4 (-1)) p1 5 (-1)) p1 6 (-1)) p1 7 3)))] := hD
  have hP9 := hP.sub (ws' := [(h, .inr (2, [.ref a0, .ref a1, .ref a2, .ref a3, .ref a4, .ref a5, .ref a6])), (a0, .inl (cI, 22, .inl (gl [m0, m1, m2, m3, (m4 - 3), (m5 + 1), (m6 + 1), m7, m8, m9, m10, m11, m12, m13, m14, m15, m16, m17, 0, 4, 0, 16]))), (a6, .inl (cI, 4000, .inl (pfX2_putBuffer_g_a6_f (pfX2_putBuffer_g_a6_f (pfX2_putBuffer_g_a6_f (pfX2_putBuffer_g_a6_f (pfX2_putBuffer_g_a6_f (pfX2_putBuffer_g_a6_f (pfX2_putBuffer_g_a6_f (pfX2_putBuffer_g_a6_f fb p1 0 0) p1 1 3) p1 2 p3) p1 3 (-1)) p1 4 (-1)) p1 5 (-1)) p1 6 (-1)) p1 7 3)))]) [1, 0, 2] rfl
  have hD9 := hD.sub (ws' := [(h, .inr (2, [.ref a0, .ref a1, .ref a2, .ref a3, .ref a4, .ref a5, .ref a6])), (a0, .inl (cI, 22, .inl (gl [m0, m1, m2, m3, (m4 - 3), (m5 + 1), (m6 + 1), m7, m8, m9, m10, m11, m12, m13, m14, m15, m16, m17, 0, 4, 0, 16]))), (a6, .inl (cI, 4000, .inl (pfX2_putBuffer_g_a6_f (pfX2_putBuffer_g_a6_f (pfX2_putBuffer_g_a6_f (pfX2_putBuffer_g_a6_f (pfX2_putBuffer_g_a6_f (pfX2_putBuffer_g_a6_f (pfX2_putBuffer_g_a6_f (pfX2_putBuffer_g_a6_f fb p1 0 0) p1 1 3) p1 2 p3) p1 3 (-1)) p1 4 (-1)) p1 5 (-1)) p1 6 (-1)) p1 7 3)))]) [1, 0, 2] (by decide) rfl
  exact W.vret hx hb hr (fun t ht hW => ⟨⟨(), rfl, trivial, by rw [ht]; exact hP9, va_K.moved hW.alike hK, hD9⟩, hS.F ht⟩) hS.2.2 dX2_noteBuffer_92

set_option maxHeartbeats 4000000 in
set_option maxRecDepth 100000 in
theorem kkX2_noteBuffer_4 (l : Launch) (dC : Nat → ClassId) (dI : Nat → Nat → Nat) (cI cB cZ cR : ClassId) (sz : Nat) (h : Nat) (a0 : Nat) (a1 : Nat) (a2 : Nat) (a3 : Nat) (a4 : Nat) (a5 : Nat) (a6 : Nat) (m0 : Int32) (m1 : Int32) (m2 : Int32) (m3 : Int32) (m4 : Int32) (m5 : Int32) (m6 : Int32) (m7 : Int32) (m8 : Int32) (m9 : Int32) (m10 : Int32) (m11 : Int32) (m12 : Int32) (m13 : Int32) (m14 : Int32) (m15 : Int32) (m16 : Int32) (m17 : Int32) (fb : Nat → Int32) (p1 : Int32) (p3 : Int32) : Met l yX2_noteBuffer (.code yX2_noteBuffer cX2_noteBuffer 6 none :: wsL_law) ({ frames := 1, cells := 0, slots := 0, locals := 23 }) (zPc dC dI (zT cI cB cZ cR) [.ref h, .int p1, .int 4, .int p3, .int (-1), .int 4] sz [(h, .inr (2, [.ref a0, .ref a1, .ref a2, .ref a3, .ref a4, .ref a5, .ref a6])), (a0, .inl (cI, 22, .inl (gl [m0, m1, m2, m3, m4, m5, m6, m7, m8, m9, m10, m11, m12, m13, m14, m15, m16, m17, 0, 4, 0, 16]))), (a6, .inl (cI, 4000, .inl fb))]) (va_Qv (fun _ : Unit => True) (fun _ : Unit => zB dC dI (zT cI cB cZ cR) (va_A [(h, .inr (2, [.ref a0, .ref a1, .ref a2, .ref a3, .ref a4, .ref a5, .ref a6])), (a0, .inl (cI, 22, .inl (gl [m0, m1, m2, m3, m4, m5, m6, m7, m8, m9, m10, m11, m12, m13, m14, m15, m16, m17, 0, 4, 0, 16]))), (a6, .inl (cI, 4000, .inl fb))] sz) [(h, .inr (2, [.ref a0, .ref a1, .ref a2, .ref a3, .ref a4, .ref a5, .ref a6])), (a0, .inl (cI, 22, .inl (gl [m0, m1, m2, m3, (m4 - 4), (m5 + 1), (m6 + 1), m7, m8, m9, m10, m11, m12, m13, m14, m15, m16, m17, 0, 4, 0, 16]))), (a6, .inl (cI, 4000, .inl (pfX2_putBuffer_g_a6_f (pfX2_putBuffer_g_a6_f (pfX2_putBuffer_g_a6_f (pfX2_putBuffer_g_a6_f (pfX2_putBuffer_g_a6_f (pfX2_putBuffer_g_a6_f (pfX2_putBuffer_g_a6_f (pfX2_putBuffer_g_a6_f fb p1 0 0) p1 1 4) p1 2 p3) p1 3 (-1)) p1 4 (-1)) p1 5 (-1)) p1 6 (-1)) p1 7 4)))]) (va_A [(h, .inr (2, [.ref a0, .ref a1, .ref a2, .ref a3, .ref a4, .ref a5, .ref a6])), (a0, .inl (cI, 22, .inl (gl [m0, m1, m2, m3, m4, m5, m6, m7, m8, m9, m10, m11, m12, m13, m14, m15, m16, m17, 0, 4, 0, 16]))), (a6, .inl (cI, 4000, .inl fb))] sz)) 0 0 (va_A [(h, .inr (2, [.ref a0, .ref a1, .ref a2, .ref a3, .ref a4, .ref a5, .ref a6])), (a0, .inl (cI, 22, .inl (gl [m0, m1, m2, m3, m4, m5, m6, m7, m8, m9, m10, m11, m12, m13, m14, m15, m16, m17, 0, 4, 0, 16]))), (a6, .inl (cI, 4000, .inl fb))] sz) := by
  refine Met.ofW (cc := cX2_noteBuffer) (maxL := 6) (ret := none) (by decide) rfl ?_
  intro p e s m args below meth c s₁ B hml hv
  obtain ⟨rfl, hsz, hP, hK, hD0, hN⟩ := hv
  have hx := B.exec
  have hb := B.bytes
  have hr := B.returns
  have hts := atoms_spec (ws := (.code yX2_noteBuffer cX2_noteBuffer 6 none :: wsL_law)) B.pre
  have hown : s.vm.findClass RX2 = some m.cls := findClass_of_methodNamed B.named
  have hlocks := B.notSynchronized
  have hinX2 : ∀ w ∈ u_ws RX2 TX2 7, w ∈ (.code yX2_noteBuffer cX2_noteBuffer 6 none :: wsL_law) := fun w h => List.mem_cons_of_mem _ (inlX2 w h)
  have k_0 := hts (.fieldLink RX2 11 "RingMarks$Ring" "marks" "[I") (List.mem_cons_of_mem _ wm_61)
  subst hsz
  have hD := hD0.self (sz := s.heap.size)
  generalize hAe : va_A [(h, .inr (2, [.ref a0, .ref a1, .ref a2, .ref a3, .ref a4, .ref a5, .ref a6])), (a0, .inl (cI, 22, .inl (gl [m0, m1, m2, m3, m4, m5, m6, m7, m8, m9, m10, m11, m12, m13, m14, m15, m16, m17, 0, 4, 0, 16]))), (a6, .inl (cI, 4000, .inl fb))] s.heap.size = A at hD ⊢
  have hA : ∀ q : Nat, s.heap.size ≤ q → A q := fun q h => by rw [← hAe]; exact Or.inr h
  have hP : va_P (dC, dI) vwCl [(h, .inr (2, [.ref a0, .ref a1, .ref a2, .ref a3, .ref a4, .ref a5, .ref a6])), (a0, .inl (cI, 22, .inl (gl [m0, m1, m2, m3, m4, m5, m6, m7, m8, m9, m10, m11, m12, m13, m14, m15, m16, m17, 0, 4, 0, 16]))), (a6, .inl (cI, 4000, .inl fb))] s.heap := hP
  have hl := lv_entry ([.ref h, .int p1, .int 4, .int p3, .int (-1), .int 4]) (n := 6) (Nat.le_of_ble_eq_true rfl)
  rw [lg_entry_eq]
  generalize (lg_sl ([.ref h, .int p1, .int 4, .int p3, .int (-1), .int 4]) ++ List.replicate (6 - (lg_sl ([.ref h, .int p1, .int 4, .int p3, .int (-1), .int 4])).length) Slot.unset).toArray = ls at hl ⊢
  have hl : lv_has ls 6 [(0, .ref h), (1, .int p1), (2, .int 4), (3, .int p3), (4, .int (-1)), (5, .int 4)] := hl
  obtain ⟨H, hH⟩ : ∃ H, H = s.heap := ⟨_, rfl⟩
  rw [← hH] at hP ⊢
  have hS : va_S A s.heap H [] := by rw [hH]; exact va_S.rf
  refine lv_aload_n hx hb dX2_noteBuffer_0 rfl (lv_at hl 0 rfl) ?_
  refine va_get (D := (dC, dI)) (ci := 2) (v := .ref a0) (C := RX2) (T := TX2) (N := 7) hx hb hts hinX2 hown hK hP 0 rfl rfl 0 (by decide) k_0 (fun _ h9 => h9) rfl dX2_noteBuffer_1 ?_
  refine lv_iconst (v := 5) hx hb dX2_noteBuffer_4 (by decide) ?_
  refine lv_dup2_11 hx hb dX2_noteBuffer_5 rfl rfl ?_
  refine za_iald (v := m5) hx hb hK hP 1 0 rfl rfl (zin tn_5 (Nat.le_of_ble_eq_true rfl)) (zrd _ tn_5 rfl) dX2_noteBuffer_6 ?_
  refine lv_iconst (v := 1) hx hb dX2_noteBuffer_7 (by decide) ?_
  refine lv_iadd hx hb dX2_noteBuffer_8 ?_
  refine za_iast (f' := (gl [m0, m1, m2, m3, m4, (m5 + 1), m6, m7, m8, m9, m10, m11, m12, m13, m14, m15, m16, m17, 0, 4, 0, 16])) hx hb hK hP hD hS 1 0 rfl rfl (zin tn_5 (Nat.le_of_ble_eq_true rfl)) (zup_gl tn_5 (Nat.le_of_ble_eq_true rfl) rfl) dX2_noteBuffer_9 (fun H locs hP hD hS => ?_)
  have hP : va_P (dC, dI) vwCl [(h, .inr (2, [.ref a0, .ref a1, .ref a2, .ref a3, .ref a4, .ref a5, .ref a6])), (a0, .inl (cI, 22, .inl (gl [m0, m1, m2, m3, m4, (m5 + 1), m6, m7, m8, m9, m10, m11, m12, m13, m14, m15, m16, m17, 0, 4, 0, 16]))), (a6, .inl (cI, 4000, .inl fb))] H := hP
  have hD : va_D A [(h, .inr (2, [.ref a0, .ref a1, .ref a2, .ref a3, .ref a4, .ref a5, .ref a6])), (a0, .inl (cI, 22, .inl (gl [m0, m1, m2, m3, m4, (m5 + 1), m6, m7, m8, m9, m10, m11, m12, m13, m14, m15, m16, m17, 0, 4, 0, 16]))), (a6, .inl (cI, 4000, .inl fb))] := hD
  refine lv_aload_n hx hb dX2_noteBuffer_10 rfl (lv_at hl 0 rfl) ?_
  refine va_get (D := (dC, dI)) (ci := 2) (v := .ref a0) (C := RX2) (T := TX2) (N := 7) hx hb hts hinX2 hown hK hP 0 rfl rfl 0 (by decide) k_0 (fun _ h9 => h9) rfl dX2_noteBuffer_11 ?_
  refine lv_bipush (v := 6) hx hb dX2_noteBuffer_14 (by decide) ?_
  refine lv_dup2_11 hx hb dX2_noteBuffer_16 rfl rfl ?_
  refine za_iald (v := m6) hx hb hK hP 1 0 rfl rfl (zin tn_6 (Nat.le_of_ble_eq_true rfl)) (zrd _ tn_6 rfl) dX2_noteBuffer_17 ?_
  refine lv_iconst (v := 1) hx hb dX2_noteBuffer_18 (by decide) ?_
  refine lv_iadd hx hb dX2_noteBuffer_19 ?_
  refine za_iast (f' := (gl [m0, m1, m2, m3, m4, (m5 + 1), (m6 + 1), m7, m8, m9, m10, m11, m12, m13, m14, m15, m16, m17, 0, 4, 0, 16])) hx hb hK hP hD hS 1 0 rfl rfl (zin tn_6 (Nat.le_of_ble_eq_true rfl)) (zup_gl tn_6 (Nat.le_of_ble_eq_true rfl) rfl) dX2_noteBuffer_20 (fun H locs hP hD hS => ?_)
  have hP : va_P (dC, dI) vwCl [(h, .inr (2, [.ref a0, .ref a1, .ref a2, .ref a3, .ref a4, .ref a5, .ref a6])), (a0, .inl (cI, 22, .inl (gl [m0, m1, m2, m3, m4, (m5 + 1), (m6 + 1), m7, m8, m9, m10, m11, m12, m13, m14, m15, m16, m17, 0, 4, 0, 16]))), (a6, .inl (cI, 4000, .inl fb))] H := hP
  have hD : va_D A [(h, .inr (2, [.ref a0, .ref a1, .ref a2, .ref a3, .ref a4, .ref a5, .ref a6])), (a0, .inl (cI, 22, .inl (gl [m0, m1, m2, m3, m4, (m5 + 1), (m6 + 1), m7, m8, m9, m10, m11, m12, m13, m14, m15, m16, m17, 0, 4, 0, 16]))), (a6, .inl (cI, 4000, .inl fb))] := hD
  refine lv_aload_n hx hb dX2_noteBuffer_21 rfl (lv_at hl 0 rfl) ?_
  refine va_get (D := (dC, dI)) (ci := 2) (v := .ref a0) (C := RX2) (T := TX2) (N := 7) hx hb hts hinX2 hown hK hP 0 rfl rfl 0 (by decide) k_0 (fun _ h9 => h9) rfl dX2_noteBuffer_22 ?_
  refine lv_iconst (v := 4) hx hb dX2_noteBuffer_25 (by decide) ?_
  refine lv_dup2_11 hx hb dX2_noteBuffer_26 rfl rfl ?_
  refine za_iald (v := m4) hx hb hK hP 1 0 rfl rfl (zin tn_4 (Nat.le_of_ble_eq_true rfl)) (zrd _ tn_4 rfl) dX2_noteBuffer_27 ?_
  refine lv_iload hx hb dX2_noteBuffer_28 (lv_at hl 5 rfl) ?_
  refine lv_isub hx hb dX2_noteBuffer_30 ?_
  refine za_iast (f' := (gl [m0, m1, m2, m3, (m4 - 4), (m5 + 1), (m6 + 1), m7, m8, m9, m10, m11, m12, m13, m14, m15, m16, m17, 0, 4, 0, 16])) hx hb hK hP hD hS 1 0 rfl rfl (zin tn_4 (Nat.le_of_ble_eq_true rfl)) (zup_gl tn_4 (Nat.le_of_ble_eq_true rfl) rfl) dX2_noteBuffer_31 (fun H locs hP hD hS => ?_)
  have hP : va_P (dC, dI) vwCl [(h, .inr (2, [.ref a0, .ref a1, .ref a2, .ref a3, .ref a4, .ref a5, .ref a6])), (a0, .inl (cI, 22, .inl (gl [m0, m1, m2, m3, (m4 - 4), (m5 + 1), (m6 + 1), m7, m8, m9, m10, m11, m12, m13, m14, m15, m16, m17, 0, 4, 0, 16]))), (a6, .inl (cI, 4000, .inl fb))] H := hP
  have hD : va_D A [(h, .inr (2, [.ref a0, .ref a1, .ref a2, .ref a3, .ref a4, .ref a5, .ref a6])), (a0, .inl (cI, 22, .inl (gl [m0, m1, m2, m3, (m4 - 4), (m5 + 1), (m6 + 1), m7, m8, m9, m10, m11, m12, m13, m14, m15, m16, m17, 0, 4, 0, 16]))), (a6, .inl (cI, 4000, .inl fb))] := hD
  refine lv_aload_n hx hb dX2_noteBuffer_32 rfl (lv_at hl 0 rfl) ?_
  refine lv_iload_n hx hb dX2_noteBuffer_33 rfl (lv_at hl 1 rfl) ?_
  refine lv_iconst (v := 0) hx hb dX2_noteBuffer_34 (by decide) ?_
  refine lv_iconst (v := 0) hx hb dX2_noteBuffer_35 (by decide) ?_
  refine zcVv (As := [.int p1, .int 0, .int 0]) (rest := []) (wr := [(a0, .inl (cI, 22, .inl (gl [m0, m1, m2, m3, (m4 - 4), (m5 + 1), (m6 + 1), m7, m8, m9, m10, m11, m12, m13, m14, m15, m16, m17, 0, 4, 0, 16])))]) ⟨hx, hb, hml, hown, hts⟩ (kkX2_putBuffer_g l dC dI cI cB cZ cR H.size h a0 a1 a2 a3 a4 a5 a6 fb p1 0 0 ) (cwV 3 hts (zgV wm_278 wm_279 wm_280 wm_22 wm_281) rfl rfl rfl (by decide +kernel) ⟨Nat.le_of_ble_eq_true rfl, Nat.le_of_ble_eq_true rfl⟩) hN hK hP hD hS hA [0, 2] [1] rfl rfl ⟨rfl, rfl⟩ (by decide) (ci := 2) rfl rfl rfl rfl hl.1 rfl (Nat.le_of_ble_eq_true rfl) dX2_noteBuffer_36 ⟨Nat.le_of_ble_eq_true rfl, Nat.le_of_ble_eq_true rfl⟩ (fun u hu H locs hP hD hS => ?_)
  have hP : va_P (dC, dI) vwCl [(a0, .inl (cI, 22, .inl (gl [m0, m1, m2, m3, (m4 - 4), (m5 + 1), (m6 + 1), m7, m8, m9, m10, m11, m12, m13, m14, m15, m16, m17, 0, 4, 0, 16]))), (h, .inr (2, [.ref a0, .ref a1, .ref a2, .ref a3, .ref a4, .ref a5, .ref a6])), (a6, .inl (cI, 4000, .inl (pfX2_putBuffer_g_a6_f fb p1 0 0)))] H := hP
  have hD : va_D A [(a0, .inl (cI, 22, .inl (gl [m0, m1, m2, m3, (m4 - 4), (m5 + 1), (m6 + 1), m7, m8, m9, m10, m11, m12, m13, m14, m15, m16, m17, 0, 4, 0, 16]))), (h, .inr (2, [.ref a0, .ref a1, .ref a2, .ref a3, .ref a4, .ref a5, .ref a6])), (a6, .inl (cI, 4000, .inl (pfX2_putBuffer_g_a6_f fb p1 0 0)))] := hD
  refine lv_aload_n hx hb dX2_noteBuffer_39 rfl (lv_at hl 0 rfl) ?_
  refine lv_iload_n hx hb dX2_noteBuffer_40 rfl (lv_at hl 1 rfl) ?_
  refine lv_iconst (v := 1) hx hb dX2_noteBuffer_41 (by decide) ?_
  refine lv_iload_n hx hb dX2_noteBuffer_42 rfl (lv_at hl 2 rfl) ?_
  refine zcVv (As := [.int p1, .int 1, .int 4]) (rest := []) (wr := [(a0, .inl (cI, 22, .inl (gl [m0, m1, m2, m3, (m4 - 4), (m5 + 1), (m6 + 1), m7, m8, m9, m10, m11, m12, m13, m14, m15, m16, m17, 0, 4, 0, 16])))]) ⟨hx, hb, hml, hown, hts⟩ (kkX2_putBuffer_g l dC dI cI cB cZ cR H.size h a0 a1 a2 a3 a4 a5 a6 (pfX2_putBuffer_g_a6_f fb p1 0 0) p1 1 4 ) (cwV 3 hts (zgV wm_278 wm_279 wm_280 wm_22 wm_281) rfl rfl rfl (by decide +kernel) ⟨Nat.le_of_ble_eq_true rfl, Nat.le_of_ble_eq_true rfl⟩) hN hK hP hD hS hA [1, 2] [0] rfl rfl ⟨rfl, rfl⟩ (by decide) (ci := 2) rfl rfl rfl rfl hl.1 rfl (Nat.le_of_ble_eq_true rfl) dX2_noteBuffer_43 ⟨Nat.le_of_ble_eq_true rfl, Nat.le_of_ble_eq_true rfl⟩ (fun u hu H locs hP hD hS => ?_)
  have hP : va_P (dC, dI) vwCl [(a0, .inl (cI, 22, .inl (gl [m0, m1, m2, m3, (m4 - 4), (m5 + 1), (m6 + 1), m7, m8, m9, m10, m11, m12, m13, m14, m15, m16, m17, 0, 4, 0, 16]))), (h, .inr (2, [.ref a0, .ref a1, .ref a2, .ref a3, .ref a4, .ref a5, .ref a6])), (a6, .inl (cI, 4000, .inl (pfX2_putBuffer_g_a6_f (pfX2_putBuffer_g_a6_f fb p1 0 0) p1 1 4)))] H := hP
  have hD : va_D A [(a0, .inl (cI, 22, .inl (gl [m0, m1, m2, m3, (m4 - 4), (m5 + 1), (m6 + 1), m7, m8, m9, m10, m11, m12, m13, m14, m15, m16, m17, 0, 4, 0, 16]))), (h, .inr (2, [.ref a0, .ref a1, .ref a2, .ref a3, .ref a4, .ref a5, .ref a6])), (a6, .inl (cI, 4000, .inl (pfX2_putBuffer_g_a6_f (pfX2_putBuffer_g_a6_f fb p1 0 0) p1 1 4)))] := hD
  refine lv_aload_n hx hb dX2_noteBuffer_46 rfl (lv_at hl 0 rfl) ?_
  refine lv_iload_n hx hb dX2_noteBuffer_47 rfl (lv_at hl 1 rfl) ?_
  refine lv_iconst (v := 2) hx hb dX2_noteBuffer_48 (by decide) ?_
  refine lv_iload_n hx hb dX2_noteBuffer_49 rfl (lv_at hl 3 rfl) ?_
  refine zcVv (As := [.int p1, .int 2, .int p3]) (rest := []) (wr := [(a0, .inl (cI, 22, .inl (gl [m0, m1, m2, m3, (m4 - 4), (m5 + 1), (m6 + 1), m7, m8, m9, m10, m11, m12, m13, m14, m15, m16, m17, 0, 4, 0, 16])))]) ⟨hx, hb, hml, hown, hts⟩ (kkX2_putBuffer_g l dC dI cI cB cZ cR H.size h a0 a1 a2 a3 a4 a5 a6 (pfX2_putBuffer_g_a6_f (pfX2_putBuffer_g_a6_f fb p1 0 0) p1 1 4) p1 2 p3 ) (cwV 3 hts (zgV wm_278 wm_279 wm_280 wm_22 wm_281) rfl rfl rfl (by decide +kernel) ⟨Nat.le_of_ble_eq_true rfl, Nat.le_of_ble_eq_true rfl⟩) hN hK hP hD hS hA [1, 2] [0] rfl rfl ⟨rfl, rfl⟩ (by decide) (ci := 2) rfl rfl rfl rfl hl.1 rfl (Nat.le_of_ble_eq_true rfl) dX2_noteBuffer_50 ⟨Nat.le_of_ble_eq_true rfl, Nat.le_of_ble_eq_true rfl⟩ (fun u hu H locs hP hD hS => ?_)
  have hP : va_P (dC, dI) vwCl [(a0, .inl (cI, 22, .inl (gl [m0, m1, m2, m3, (m4 - 4), (m5 + 1), (m6 + 1), m7, m8, m9, m10, m11, m12, m13, m14, m15, m16, m17, 0, 4, 0, 16]))), (h, .inr (2, [.ref a0, .ref a1, .ref a2, .ref a3, .ref a4, .ref a5, .ref a6])), (a6, .inl (cI, 4000, .inl (pfX2_putBuffer_g_a6_f (pfX2_putBuffer_g_a6_f (pfX2_putBuffer_g_a6_f fb p1 0 0) p1 1 4) p1 2 p3)))] H := hP
  have hD : va_D A [(a0, .inl (cI, 22, .inl (gl [m0, m1, m2, m3, (m4 - 4), (m5 + 1), (m6 + 1), m7, m8, m9, m10, m11, m12, m13, m14, m15, m16, m17, 0, 4, 0, 16]))), (h, .inr (2, [.ref a0, .ref a1, .ref a2, .ref a3, .ref a4, .ref a5, .ref a6])), (a6, .inl (cI, 4000, .inl (pfX2_putBuffer_g_a6_f (pfX2_putBuffer_g_a6_f (pfX2_putBuffer_g_a6_f fb p1 0 0) p1 1 4) p1 2 p3)))] := hD
  refine lv_aload_n hx hb dX2_noteBuffer_53 rfl (lv_at hl 0 rfl) ?_
  refine lv_iload_n hx hb dX2_noteBuffer_54 rfl (lv_at hl 1 rfl) ?_
  refine lv_iconst (v := 3) hx hb dX2_noteBuffer_55 (by decide) ?_
  refine lv_iload hx hb dX2_noteBuffer_56 (lv_at hl 4 rfl) ?_
  refine zcVv (As := [.int p1, .int 3, .int (-1)]) (rest := []) (wr := [(a0, .inl (cI, 22, .inl (gl [m0, m1, m2, m3, (m4 - 4), (m5 + 1), (m6 + 1), m7, m8, m9, m10, m11, m12, m13, m14, m15, m16, m17, 0, 4, 0, 16])))]) ⟨hx, hb, hml, hown, hts⟩ (kkX2_putBuffer_g l dC dI cI cB cZ cR H.size h a0 a1 a2 a3 a4 a5 a6 (pfX2_putBuffer_g_a6_f (pfX2_putBuffer_g_a6_f (pfX2_putBuffer_g_a6_f fb p1 0 0) p1 1 4) p1 2 p3) p1 3 (-1) ) (cwV 3 hts (zgV wm_278 wm_279 wm_280 wm_22 wm_281) rfl rfl rfl (by decide +kernel) ⟨Nat.le_of_ble_eq_true rfl, Nat.le_of_ble_eq_true rfl⟩) hN hK hP hD hS hA [1, 2] [0] rfl rfl ⟨rfl, rfl⟩ (by decide) (ci := 2) rfl rfl rfl rfl hl.1 rfl (Nat.le_of_ble_eq_true rfl) dX2_noteBuffer_58 ⟨Nat.le_of_ble_eq_true rfl, Nat.le_of_ble_eq_true rfl⟩ (fun u hu H locs hP hD hS => ?_)
  have hP : va_P (dC, dI) vwCl [(a0, .inl (cI, 22, .inl (gl [m0, m1, m2, m3, (m4 - 4), (m5 + 1), (m6 + 1), m7, m8, m9, m10, m11, m12, m13, m14, m15, m16, m17, 0, 4, 0, 16]))), (h, .inr (2, [.ref a0, .ref a1, .ref a2, .ref a3, .ref a4, .ref a5, .ref a6])), (a6, .inl (cI, 4000, .inl (pfX2_putBuffer_g_a6_f (pfX2_putBuffer_g_a6_f (pfX2_putBuffer_g_a6_f (pfX2_putBuffer_g_a6_f fb p1 0 0) p1 1 4) p1 2 p3) p1 3 (-1))))] H := hP
  have hD : va_D A [(a0, .inl (cI, 22, .inl (gl [m0, m1, m2, m3, (m4 - 4), (m5 + 1), (m6 + 1), m7, m8, m9, m10, m11, m12, m13, m14, m15, m16, m17, 0, 4, 0, 16]))), (h, .inr (2, [.ref a0, .ref a1, .ref a2, .ref a3, .ref a4, .ref a5, .ref a6])), (a6, .inl (cI, 4000, .inl (pfX2_putBuffer_g_a6_f (pfX2_putBuffer_g_a6_f (pfX2_putBuffer_g_a6_f (pfX2_putBuffer_g_a6_f fb p1 0 0) p1 1 4) p1 2 p3) p1 3 (-1))))] := hD
  refine lv_aload_n hx hb dX2_noteBuffer_61 rfl (lv_at hl 0 rfl) ?_
  refine lv_iload_n hx hb dX2_noteBuffer_62 rfl (lv_at hl 1 rfl) ?_
  refine lv_iconst (v := 4) hx hb dX2_noteBuffer_63 (by decide) ?_
  refine lv_iconst (v := (-1)) hx hb dX2_noteBuffer_64 (by decide) ?_
  refine zcVv (As := [.int p1, .int 4, .int (-1)]) (rest := []) (wr := [(a0, .inl (cI, 22, .inl (gl [m0, m1, m2, m3, (m4 - 4), (m5 + 1), (m6 + 1), m7, m8, m9, m10, m11, m12, m13, m14, m15, m16, m17, 0, 4, 0, 16])))]) ⟨hx, hb, hml, hown, hts⟩ (kkX2_putBuffer_g l dC dI cI cB cZ cR H.size h a0 a1 a2 a3 a4 a5 a6 (pfX2_putBuffer_g_a6_f (pfX2_putBuffer_g_a6_f (pfX2_putBuffer_g_a6_f (pfX2_putBuffer_g_a6_f fb p1 0 0) p1 1 4) p1 2 p3) p1 3 (-1)) p1 4 (-1) ) (cwV 3 hts (zgV wm_278 wm_279 wm_280 wm_22 wm_281) rfl rfl rfl (by decide +kernel) ⟨Nat.le_of_ble_eq_true rfl, Nat.le_of_ble_eq_true rfl⟩) hN hK hP hD hS hA [1, 2] [0] rfl rfl ⟨rfl, rfl⟩ (by decide) (ci := 2) rfl rfl rfl rfl hl.1 rfl (Nat.le_of_ble_eq_true rfl) dX2_noteBuffer_65 ⟨Nat.le_of_ble_eq_true rfl, Nat.le_of_ble_eq_true rfl⟩ (fun u hu H locs hP hD hS => ?_)
  have hP : va_P (dC, dI) vwCl [(a0, .inl (cI, 22, .inl (gl [m0, m1, m2, m3, (m4 - 4), (m5 + 1), (m6 + 1), m7, m8, m9, m10, m11, m12, m13, m14, m15, m16, m17, 0, 4, 0, 16]))), (h, .inr (2, [.ref a0, .ref a1, .ref a2, .ref a3, .ref a4, .ref a5, .ref a6])), (a6, .inl (cI, 4000, .inl (pfX2_putBuffer_g_a6_f (pfX2_putBuffer_g_a6_f (pfX2_putBuffer_g_a6_f (pfX2_putBuffer_g_a6_f (pfX2_putBuffer_g_a6_f fb p1 0 0) p1 1 4) p1 2 p3) p1 3 (-1)) p1 4 (-1))))] H := hP
  have hD : va_D A [(a0, .inl (cI, 22, .inl (gl [m0, m1, m2, m3, (m4 - 4), (m5 + 1), (m6 + 1), m7, m8, m9, m10, m11, m12, m13, m14, m15, m16, m17, 0, 4, 0, 16]))), (h, .inr (2, [.ref a0, .ref a1, .ref a2, .ref a3, .ref a4, .ref a5, .ref a6])), (a6, .inl (cI, 4000, .inl (pfX2_putBuffer_g_a6_f (pfX2_putBuffer_g_a6_f (pfX2_putBuffer_g_a6_f (pfX2_putBuffer_g_a6_f (pfX2_putBuffer_g_a6_f fb p1 0 0) p1 1 4) p1 2 p3) p1 3 (-1)) p1 4 (-1))))] := hD
  refine lv_aload_n hx hb dX2_noteBuffer_68 rfl (lv_at hl 0 rfl) ?_
  refine lv_iload_n hx hb dX2_noteBuffer_69 rfl (lv_at hl 1 rfl) ?_
  refine lv_iconst (v := 5) hx hb dX2_noteBuffer_70 (by decide) ?_
  refine lv_iconst (v := (-1)) hx hb dX2_noteBuffer_71 (by decide) ?_
  refine zcVv (As := [.int p1, .int 5, .int (-1)]) (rest := []) (wr := [(a0, .inl (cI, 22, .inl (gl [m0, m1, m2, m3, (m4 - 4), (m5 + 1), (m6 + 1), m7, m8, m9, m10, m11, m12, m13, m14, m15, m16, m17, 0, 4, 0, 16])))]) ⟨hx, hb, hml, hown, hts⟩ (kkX2_putBuffer_g l dC dI cI cB cZ cR H.size h a0 a1 a2 a3 a4 a5 a6 (pfX2_putBuffer_g_a6_f (pfX2_putBuffer_g_a6_f (pfX2_putBuffer_g_a6_f (pfX2_putBuffer_g_a6_f (pfX2_putBuffer_g_a6_f fb p1 0 0) p1 1 4) p1 2 p3) p1 3 (-1)) p1 4 (-1)) p1 5 (-1) ) (cwV 3 hts (zgV wm_278 wm_279 wm_280 wm_22 wm_281) rfl rfl rfl (by decide +kernel) ⟨Nat.le_of_ble_eq_true rfl, Nat.le_of_ble_eq_true rfl⟩) hN hK hP hD hS hA [1, 2] [0] rfl rfl ⟨rfl, rfl⟩ (by decide) (ci := 2) rfl rfl rfl rfl hl.1 rfl (Nat.le_of_ble_eq_true rfl) dX2_noteBuffer_72 ⟨Nat.le_of_ble_eq_true rfl, Nat.le_of_ble_eq_true rfl⟩ (fun u hu H locs hP hD hS => ?_)
  have hP : va_P (dC, dI) vwCl [(a0, .inl (cI, 22, .inl (gl [m0, m1, m2, m3, (m4 - 4), (m5 + 1), (m6 + 1), m7, m8, m9, m10, m11, m12, m13, m14, m15, m16, m17, 0, 4, 0, 16]))), (h, .inr (2, [.ref a0, .ref a1, .ref a2, .ref a3, .ref a4, .ref a5, .ref a6])), (a6, .inl (cI, 4000, .inl (pfX2_putBuffer_g_a6_f (pfX2_putBuffer_g_a6_f (pfX2_putBuffer_g_a6_f (pfX2_putBuffer_g_a6_f (pfX2_putBuffer_g_a6_f (pfX2_putBuffer_g_a6_f fb p1 0 0) p1 1 4) p1 2 p3) p1 3 (-1)) p1 4 (-1)) p1 5 (-1))))] H := hP
  have hD : va_D A [(a0, .inl (cI, 22, .inl (gl [m0, m1, m2, m3, (m4 - 4), (m5 + 1), (m6 + 1), m7, m8, m9, m10, m11, m12, m13, m14, m15, m16, m17, 0, 4, 0, 16]))), (h, .inr (2, [.ref a0, .ref a1, .ref a2, .ref a3, .ref a4, .ref a5, .ref a6])), (a6, .inl (cI, 4000, .inl (pfX2_putBuffer_g_a6_f (pfX2_putBuffer_g_a6_f (pfX2_putBuffer_g_a6_f (pfX2_putBuffer_g_a6_f (pfX2_putBuffer_g_a6_f (pfX2_putBuffer_g_a6_f fb p1 0 0) p1 1 4) p1 2 p3) p1 3 (-1)) p1 4 (-1)) p1 5 (-1))))] := hD
  refine lv_aload_n hx hb dX2_noteBuffer_75 rfl (lv_at hl 0 rfl) ?_
  refine lv_iload_n hx hb dX2_noteBuffer_76 rfl (lv_at hl 1 rfl) ?_
  refine lv_bipush (v := 6) hx hb dX2_noteBuffer_77 (by decide) ?_
  refine lv_iconst (v := (-1)) hx hb dX2_noteBuffer_79 (by decide) ?_
  refine zcVv (As := [.int p1, .int 6, .int (-1)]) (rest := []) (wr := [(a0, .inl (cI, 22, .inl (gl [m0, m1, m2, m3, (m4 - 4), (m5 + 1), (m6 + 1), m7, m8, m9, m10, m11, m12, m13, m14, m15, m16, m17, 0, 4, 0, 16])))]) ⟨hx, hb, hml, hown, hts⟩ (kkX2_putBuffer_g l dC dI cI cB cZ cR H.size h a0 a1 a2 a3 a4 a5 a6 (pfX2_putBuffer_g_a6_f (pfX2_putBuffer_g_a6_f (pfX2_putBuffer_g_a6_f (pfX2_putBuffer_g_a6_f (pfX2_putBuffer_g_a6_f (pfX2_putBuffer_g_a6_f fb p1 0 0) p1 1 4) p1 2 p3) p1 3 (-1)) p1 4 (-1)) p1 5 (-1)) p1 6 (-1) ) (cwV 3 hts (zgV wm_278 wm_279 wm_280 wm_22 wm_281) rfl rfl rfl (by decide +kernel) ⟨Nat.le_of_ble_eq_true rfl, Nat.le_of_ble_eq_true rfl⟩) hN hK hP hD hS hA [1, 2] [0] rfl rfl ⟨rfl, rfl⟩ (by decide) (ci := 2) rfl rfl rfl rfl hl.1 rfl (Nat.le_of_ble_eq_true rfl) dX2_noteBuffer_80 ⟨Nat.le_of_ble_eq_true rfl, Nat.le_of_ble_eq_true rfl⟩ (fun u hu H locs hP hD hS => ?_)
  have hP : va_P (dC, dI) vwCl [(a0, .inl (cI, 22, .inl (gl [m0, m1, m2, m3, (m4 - 4), (m5 + 1), (m6 + 1), m7, m8, m9, m10, m11, m12, m13, m14, m15, m16, m17, 0, 4, 0, 16]))), (h, .inr (2, [.ref a0, .ref a1, .ref a2, .ref a3, .ref a4, .ref a5, .ref a6])), (a6, .inl (cI, 4000, .inl (pfX2_putBuffer_g_a6_f (pfX2_putBuffer_g_a6_f (pfX2_putBuffer_g_a6_f (pfX2_putBuffer_g_a6_f (pfX2_putBuffer_g_a6_f (pfX2_putBuffer_g_a6_f (pfX2_putBuffer_g_a6_f fb p1 0 0) p1 1 4) p1 2 p3) p1 3 (-1)) p1 4 (-1)) p1 5 (-1)) p1 6 (-1))))] H := hP
  have hD : va_D A [(a0, .inl (cI, 22, .inl (gl [m0, m1, m2, m3, (m4 - 4), (m5 + 1), (m6 + 1), m7, m8, m9, m10, m11, m12, m13, m14, m15, m16, m17, 0, 4, 0, 16]))), (h, .inr (2, [.ref a0, .ref a1, .ref a2, .ref a3, .ref a4, .ref a5, .ref a6])), (a6, .inl (cI, 4000, .inl (pfX2_putBuffer_g_a6_f (pfX2_putBuffer_g_a6_f (pfX2_putBuffer_g_a6_f (pfX2_putBuffer_g_a6_f (pfX2_putBuffer_g_a6_f (pfX2_putBuffer_g_a6_f (pfX2_putBuffer_g_a6_f fb p1 0 0) p1 1 4) p1 2 p3) p1 3 (-1)) p1 4 (-1)) p1 5 (-1)) p1 6 (-1))))] := hD
  refine lv_aload_n hx hb dX2_noteBuffer_83 rfl (lv_at hl 0 rfl) ?_
  refine lv_iload_n hx hb dX2_noteBuffer_84 rfl (lv_at hl 1 rfl) ?_
  refine lv_bipush (v := 7) hx hb dX2_noteBuffer_85 (by decide) ?_
  refine lv_iload hx hb dX2_noteBuffer_87 (lv_at hl 5 rfl) ?_
  refine zcVv (As := [.int p1, .int 7, .int 4]) (rest := []) (wr := [(a0, .inl (cI, 22, .inl (gl [m0, m1, m2, m3, (m4 - 4), (m5 + 1), (m6 + 1), m7, m8, m9, m10, m11, m12, m13, m14, m15, m16, m17, 0, 4, 0, 16])))]) ⟨hx, hb, hml, hown, hts⟩ (kkX2_putBuffer_g l dC dI cI cB cZ cR H.size h a0 a1 a2 a3 a4 a5 a6 (pfX2_putBuffer_g_a6_f (pfX2_putBuffer_g_a6_f (pfX2_putBuffer_g_a6_f (pfX2_putBuffer_g_a6_f (pfX2_putBuffer_g_a6_f (pfX2_putBuffer_g_a6_f (pfX2_putBuffer_g_a6_f fb p1 0 0) p1 1 4) p1 2 p3) p1 3 (-1)) p1 4 (-1)) p1 5 (-1)) p1 6 (-1)) p1 7 4 ) (cwV 3 hts (zgV wm_278 wm_279 wm_280 wm_22 wm_281) rfl rfl rfl (by decide +kernel) ⟨Nat.le_of_ble_eq_true rfl, Nat.le_of_ble_eq_true rfl⟩) hN hK hP hD hS hA [1, 2] [0] rfl rfl ⟨rfl, rfl⟩ (by decide) (ci := 2) rfl rfl rfl rfl hl.1 rfl (Nat.le_of_ble_eq_true rfl) dX2_noteBuffer_89 ⟨Nat.le_of_ble_eq_true rfl, Nat.le_of_ble_eq_true rfl⟩ (fun u hu H locs hP hD hS => ?_)
  have hP : va_P (dC, dI) vwCl [(a0, .inl (cI, 22, .inl (gl [m0, m1, m2, m3, (m4 - 4), (m5 + 1), (m6 + 1), m7, m8, m9, m10, m11, m12, m13, m14, m15, m16, m17, 0, 4, 0, 16]))), (h, .inr (2, [.ref a0, .ref a1, .ref a2, .ref a3, .ref a4, .ref a5, .ref a6])), (a6, .inl (cI, 4000, .inl (pfX2_putBuffer_g_a6_f (pfX2_putBuffer_g_a6_f (pfX2_putBuffer_g_a6_f (pfX2_putBuffer_g_a6_f (pfX2_putBuffer_g_a6_f (pfX2_putBuffer_g_a6_f (pfX2_putBuffer_g_a6_f (pfX2_putBuffer_g_a6_f fb p1 0 0) p1 1 4) p1 2 p3) p1 3 (-1)) p1 4 (-1)) p1 5 (-1)) p1 6 (-1)) p1 7 4)))] H := hP
  have hD : va_D A [(a0, .inl (cI, 22, .inl (gl [m0, m1, m2, m3, (m4 - 4), (m5 + 1), (m6 + 1), m7, m8, m9, m10, m11, m12, m13, m14, m15, m16, m17, 0, 4, 0, 16]))), (h, .inr (2, [.ref a0, .ref a1, .ref a2, .ref a3, .ref a4, .ref a5, .ref a6])), (a6, .inl (cI, 4000, .inl (pfX2_putBuffer_g_a6_f (pfX2_putBuffer_g_a6_f (pfX2_putBuffer_g_a6_f (pfX2_putBuffer_g_a6_f (pfX2_putBuffer_g_a6_f (pfX2_putBuffer_g_a6_f (pfX2_putBuffer_g_a6_f (pfX2_putBuffer_g_a6_f fb p1 0 0) p1 1 4) p1 2 p3) p1 3 (-1)) p1 4 (-1)) p1 5 (-1)) p1 6 (-1)) p1 7 4)))] := hD
  have hP9 := hP.sub (ws' := [(h, .inr (2, [.ref a0, .ref a1, .ref a2, .ref a3, .ref a4, .ref a5, .ref a6])), (a0, .inl (cI, 22, .inl (gl [m0, m1, m2, m3, (m4 - 4), (m5 + 1), (m6 + 1), m7, m8, m9, m10, m11, m12, m13, m14, m15, m16, m17, 0, 4, 0, 16]))), (a6, .inl (cI, 4000, .inl (pfX2_putBuffer_g_a6_f (pfX2_putBuffer_g_a6_f (pfX2_putBuffer_g_a6_f (pfX2_putBuffer_g_a6_f (pfX2_putBuffer_g_a6_f (pfX2_putBuffer_g_a6_f (pfX2_putBuffer_g_a6_f (pfX2_putBuffer_g_a6_f fb p1 0 0) p1 1 4) p1 2 p3) p1 3 (-1)) p1 4 (-1)) p1 5 (-1)) p1 6 (-1)) p1 7 4)))]) [1, 0, 2] rfl
  have hD9 := hD.sub (ws' := [(h, .inr (2, [.ref a0, .ref a1, .ref a2, .ref a3, .ref a4, .ref a5, .ref a6])), (a0, .inl (cI, 22, .inl (gl [m0, m1, m2, m3, (m4 - 4), (m5 + 1), (m6 + 1), m7, m8, m9, m10, m11, m12, m13, m14, m15, m16, m17, 0, 4, 0, 16]))), (a6, .inl (cI, 4000, .inl (pfX2_putBuffer_g_a6_f (pfX2_putBuffer_g_a6_f (pfX2_putBuffer_g_a6_f (pfX2_putBuffer_g_a6_f (pfX2_putBuffer_g_a6_f (pfX2_putBuffer_g_a6_f (pfX2_putBuffer_g_a6_f (pfX2_putBuffer_g_a6_f fb p1 0 0) p1 1 4) p1 2 p3) p1 3 (-1)) p1 4 (-1)) p1 5 (-1)) p1 6 (-1)) p1 7 4)))]) [1, 0, 2] (by decide) rfl
  exact W.vret hx hb hr (fun t ht hW => ⟨⟨(), rfl, trivial, by rw [ht]; exact hP9, va_K.moved hW.alike hK, hD9⟩, hS.F ht⟩) hS.2.2 dX2_noteBuffer_92

def pfX2_putRow_a3_f (fr : Nat → Int32) (p1 : Int32) (p2 : Int32) (p3 : Int32) : Nat → Int32 := if p1 < 0 then fr else (if 8 ≤ p1 then fr else (if p2 < 0 then fr else (if 2 < p2 then fr else (upd fr (Int32.toNatClampNeg ((p1 * 3) + p2)) p3))))
set_option maxHeartbeats 4000000 in
set_option maxRecDepth 100000 in
theorem kkX2_putRow (l : Launch) (dC : Nat → ClassId) (dI : Nat → Nat → Nat) (cI cB cZ cR : ClassId) (sz : Nat) (h : Nat) (a0 : Nat) (a1 : Nat) (a2 : Nat) (a3 : Nat) (a4 : Nat) (a5 : Nat) (a6 : Nat) (fr : Nat → Int32) (p1 : Int32) (p2 : Int32) (p3 : Int32) : Met l yX2_putRow (.code yX2_putRow cX2_putRow 4 none :: wsL_law) ({ frames := 0, cells := 0, slots := 0, locals := 0 }) (zPc dC dI (zT cI cB cZ cR) [.ref h, .int p1, .int p2, .int p3] sz [(h, .inr (2, [.ref a0, .ref a1, .ref a2, .ref a3, .ref a4, .ref a5, .ref a6])), (a3, .inl (cI, 24, .inl fr))]) (va_Qv (fun _ : Unit => True) (fun _ : Unit => zB dC dI (zT cI cB cZ cR) (va_A [(h, .inr (2, [.ref a0, .ref a1, .ref a2, .ref a3, .ref a4, .ref a5, .ref a6])), (a3, .inl (cI, 24, .inl fr))] sz) [(h, .inr (2, [.ref a0, .ref a1, .ref a2, .ref a3, .ref a4, .ref a5, .ref a6])), (a3, .inl (cI, 24, .inl (pfX2_putRow_a3_f fr p1 p2 p3)))]) (va_A [(h, .inr (2, [.ref a0, .ref a1, .ref a2, .ref a3, .ref a4, .ref a5, .ref a6])), (a3, .inl (cI, 24, .inl fr))] sz)) 0 0 (va_A [(h, .inr (2, [.ref a0, .ref a1, .ref a2, .ref a3, .ref a4, .ref a5, .ref a6])), (a3, .inl (cI, 24, .inl fr))] sz) := by
  refine Met.ofW (cc := cX2_putRow) (maxL := 4) (ret := none) (by decide) rfl ?_
  intro p e s m args below meth c s₁ B hml hv
  obtain ⟨rfl, hsz, hP, hK, hD0, hN⟩ := hv
  have hx := B.exec
  have hb := B.bytes
  have hr := B.returns
  have hts := atoms_spec (ws := (.code yX2_putRow cX2_putRow 4 none :: wsL_law)) B.pre
  have hown : s.vm.findClass RX2 = some m.cls := findClass_of_methodNamed B.named
  have hlocks := B.notSynchronized
  have hinX2 : ∀ w ∈ u_ws RX2 TX2 7, w ∈ (.code yX2_putRow cX2_putRow 4 none :: wsL_law) := fun w h => List.mem_cons_of_mem _ (inlX2 w h)
  have k_0 := hts (.fieldLink RX2 21 "RingMarks$Ring" "rows" "[I") (List.mem_cons_of_mem _ wm_64)
  subst hsz
  have hD := hD0.self (sz := s.heap.size)
  generalize hAe : va_A [(h, .inr (2, [.ref a0, .ref a1, .ref a2, .ref a3, .ref a4, .ref a5, .ref a6])), (a3, .inl (cI, 24, .inl fr))] s.heap.size = A at hD ⊢
  have hA : ∀ q : Nat, s.heap.size ≤ q → A q := fun q h => by rw [← hAe]; exact Or.inr h
  have hP : va_P (dC, dI) vwCl [(h, .inr (2, [.ref a0, .ref a1, .ref a2, .ref a3, .ref a4, .ref a5, .ref a6])), (a3, .inl (cI, 24, .inl fr))] s.heap := hP
  have hl := lv_entry ([.ref h, .int p1, .int p2, .int p3]) (n := 4) (Nat.le_of_ble_eq_true rfl)
  rw [lg_entry_eq]
  generalize (lg_sl ([.ref h, .int p1, .int p2, .int p3]) ++ List.replicate (4 - (lg_sl ([.ref h, .int p1, .int p2, .int p3])).length) Slot.unset).toArray = ls at hl ⊢
  have hl : lv_has ls 4 [(0, .ref h), (1, .int p1), (2, .int p2), (3, .int p3)] := hl
  obtain ⟨H, hH⟩ : ∃ H, H = s.heap := ⟨_, rfl⟩
  rw [← hH] at hP ⊢
  have hS : va_S A s.heap H [] := by rw [hH]; exact va_S.rf
  refine lv_iload_n hx hb dX2_putRow_0 rfl (lv_at hl 1 rfl) ?_
  refine lv_if_lt (tgt := 30) hx hb dX2_putRow_1 (by decide) (fun c_1 => ?_) (fun c_1 => ?_)
  · have e_0 : (pfX2_putRow_a3_f fr p1 p2 p3) = fr := by rw [pfX2_putRow_a3_f, if_pos c_1]
    have hP9 := hP.sub (ws' := [(h, .inr (2, [.ref a0, .ref a1, .ref a2, .ref a3, .ref a4, .ref a5, .ref a6])), (a3, .inl (cI, 24, .inl fr))]) [0, 1] rfl
    have hD9 := hD.sub (ws' := [(h, .inr (2, [.ref a0, .ref a1, .ref a2, .ref a3, .ref a4, .ref a5, .ref a6])), (a3, .inl (cI, 24, .inl fr))]) [0, 1] (by decide) rfl
    exact W.vret hx hb hr (fun t ht hW => ⟨⟨(), rfl, trivial, by rw [ht, e_0]; exact hP9, va_K.moved hW.alike hK, (by rw [e_0]; exact hD9)⟩, hS.F ht⟩) hS.2.2 dX2_putRow_30
  · refine lv_iload_n hx hb dX2_putRow_4 rfl (lv_at hl 1 rfl) ?_
    refine lv_bipush (v := 8) hx hb dX2_putRow_5 (by decide) ?_
    refine lv_icmp_ge (tgt := 30) hx hb dX2_putRow_7 (by decide) (fun c_2 => ?_) (fun c_2 => ?_)
    · have e_0 : (pfX2_putRow_a3_f fr p1 p2 p3) = fr := by rw [pfX2_putRow_a3_f, if_neg c_1, if_pos c_2]
      have hP9 := hP.sub (ws' := [(h, .inr (2, [.ref a0, .ref a1, .ref a2, .ref a3, .ref a4, .ref a5, .ref a6])), (a3, .inl (cI, 24, .inl fr))]) [0, 1] rfl
      have hD9 := hD.sub (ws' := [(h, .inr (2, [.ref a0, .ref a1, .ref a2, .ref a3, .ref a4, .ref a5, .ref a6])), (a3, .inl (cI, 24, .inl fr))]) [0, 1] (by decide) rfl
      exact W.vret hx hb hr (fun t ht hW => ⟨⟨(), rfl, trivial, by rw [ht, e_0]; exact hP9, va_K.moved hW.alike hK, (by rw [e_0]; exact hD9)⟩, hS.F ht⟩) hS.2.2 dX2_putRow_30
    · refine lv_iload_n hx hb dX2_putRow_10 rfl (lv_at hl 2 rfl) ?_
      refine lv_if_lt (tgt := 30) hx hb dX2_putRow_11 (by decide) (fun c_3 => ?_) (fun c_3 => ?_)
      · have e_0 : (pfX2_putRow_a3_f fr p1 p2 p3) = fr := by rw [pfX2_putRow_a3_f, if_neg c_1, if_neg c_2, if_pos c_3]
        have hP9 := hP.sub (ws' := [(h, .inr (2, [.ref a0, .ref a1, .ref a2, .ref a3, .ref a4, .ref a5, .ref a6])), (a3, .inl (cI, 24, .inl fr))]) [0, 1] rfl
        have hD9 := hD.sub (ws' := [(h, .inr (2, [.ref a0, .ref a1, .ref a2, .ref a3, .ref a4, .ref a5, .ref a6])), (a3, .inl (cI, 24, .inl fr))]) [0, 1] (by decide) rfl
        exact W.vret hx hb hr (fun t ht hW => ⟨⟨(), rfl, trivial, by rw [ht, e_0]; exact hP9, va_K.moved hW.alike hK, (by rw [e_0]; exact hD9)⟩, hS.F ht⟩) hS.2.2 dX2_putRow_30
      · refine lv_iload_n hx hb dX2_putRow_14 rfl (lv_at hl 2 rfl) ?_
        refine lv_iconst (v := 2) hx hb dX2_putRow_15 (by decide) ?_
        refine lv_icmp_gt (tgt := 30) hx hb dX2_putRow_16 (by decide) (fun c_4 => ?_) (fun c_4 => ?_)
        · have e_0 : (pfX2_putRow_a3_f fr p1 p2 p3) = fr := by rw [pfX2_putRow_a3_f, if_neg c_1, if_neg c_2, if_neg c_3, if_pos c_4]
          have hP9 := hP.sub (ws' := [(h, .inr (2, [.ref a0, .ref a1, .ref a2, .ref a3, .ref a4, .ref a5, .ref a6])), (a3, .inl (cI, 24, .inl fr))]) [0, 1] rfl
          have hD9 := hD.sub (ws' := [(h, .inr (2, [.ref a0, .ref a1, .ref a2, .ref a3, .ref a4, .ref a5, .ref a6])), (a3, .inl (cI, 24, .inl fr))]) [0, 1] (by decide) rfl
          exact W.vret hx hb hr (fun t ht hW => ⟨⟨(), rfl, trivial, by rw [ht, e_0]; exact hP9, va_K.moved hW.alike hK, (by rw [e_0]; exact hD9)⟩, hS.F ht⟩) hS.2.2 dX2_putRow_30
        · refine lv_aload_n hx hb dX2_putRow_19 rfl (lv_at hl 0 rfl) ?_
          refine va_get (D := (dC, dI)) (ci := 2) (v := .ref a3) (C := RX2) (T := TX2) (N := 7) hx hb hts hinX2 hown hK hP 0 rfl rfl 3 (by decide) k_0 (fun _ h9 => h9) rfl dX2_putRow_20 ?_
          refine lv_iload_n hx hb dX2_putRow_23 rfl (lv_at hl 1 rfl) ?_
          refine lv_iconst (v := 3) hx hb dX2_putRow_24 (by decide) ?_
          refine lv_imul hx hb dX2_putRow_25 ?_
          refine lv_iload_n hx hb dX2_putRow_26 rfl (lv_at hl 2 rfl) ?_
          refine lv_iadd hx hb dX2_putRow_27 ?_
          refine lv_iload_n hx hb dX2_putRow_28 rfl (lv_at hl 3 rfl) ?_
          refine za_iast (f' := (upd fr (Int32.toNatClampNeg ((p1 * 3) + p2)) p3)) hx hb hK hP hD hS 1 0 rfl rfl (zinR c_1 c_2 c_3 c_4) rfl dX2_putRow_29 (fun H locs hP hD hS => ?_)
          have hP : va_P (dC, dI) vwCl [(h, .inr (2, [.ref a0, .ref a1, .ref a2, .ref a3, .ref a4, .ref a5, .ref a6])), (a3, .inl (cI, 24, .inl (upd fr (Int32.toNatClampNeg ((p1 * 3) + p2)) p3)))] H := hP
          have hD : va_D A [(h, .inr (2, [.ref a0, .ref a1, .ref a2, .ref a3, .ref a4, .ref a5, .ref a6])), (a3, .inl (cI, 24, .inl (upd fr (Int32.toNatClampNeg ((p1 * 3) + p2)) p3)))] := hD
          have e_0 : (pfX2_putRow_a3_f fr p1 p2 p3) = (upd fr (Int32.toNatClampNeg ((p1 * 3) + p2)) p3) := by rw [pfX2_putRow_a3_f, if_neg c_1, if_neg c_2, if_neg c_3, if_neg c_4]
          have hP9 := hP.sub (ws' := [(h, .inr (2, [.ref a0, .ref a1, .ref a2, .ref a3, .ref a4, .ref a5, .ref a6])), (a3, .inl (cI, 24, .inl (upd fr (Int32.toNatClampNeg ((p1 * 3) + p2)) p3)))]) [0, 1] rfl
          have hD9 := hD.sub (ws' := [(h, .inr (2, [.ref a0, .ref a1, .ref a2, .ref a3, .ref a4, .ref a5, .ref a6])), (a3, .inl (cI, 24, .inl (upd fr (Int32.toNatClampNeg ((p1 * 3) + p2)) p3)))]) [0, 1] (by decide) rfl
          exact W.vret hx hb hr (fun t ht hW => ⟨⟨(), rfl, trivial, by rw [ht, e_0]; exact hP9, va_K.moved hW.alike hK, (by rw [e_0]; exact hD9)⟩, hS.F ht⟩) hS.2.2 dX2_putRow_30
