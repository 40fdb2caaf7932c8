set_option maxHeartbeats 4000000 in
set_option maxRecDepth 100000 in
theorem kkX5_hasRoomFor (l : Launch) (dC : Nat → ClassId) (dI : Nat → Nat → Nat) (cI cB cZ cR : ClassId) (sz : Nat) (xt : Nat) (b0 : Nat) : Met l yX5_hasRoomFor (.code yX5_hasRoomFor cX5_hasRoomFor 2 (some .boolean) :: wsL_law) ({ frames := 0, cells := 0, slots := 0, locals := 0 }) (zPc dC dI (zT cI cB cZ cR) [.ref xt, .int 20] sz [(xt, .inr (5, [.ref b0, .int 0, .int 0]))]) (va_Qi (fun (r : Int32) (_ : Unit) => r = 1) (fun _ : Unit => zB dC dI (zT cI cB cZ cR) (va_A [(xt, .inr (5, [.ref b0, .int 0, .int 0]))] sz) [(xt, .inr (5, [.ref b0, .int 0, .int 0]))]) (va_A [(xt, .inr (5, [.ref b0, .int 0, .int 0]))] sz)) 0 0 (va_A [(xt, .inr (5, [.ref b0, .int 0, .int 0]))] sz) := by
  refine Met.ofW (cc := cX5_hasRoomFor) (maxL := 2) (ret := (some .boolean)) (by decide) rfl ?_
  intro p e s m args below meth c s₁ B hml hv
  obtain ⟨rfl, hsz, hP, hK, hD0, hN⟩ := hv
  have hx := B.exec
  have hb := B.bytes
  have hr := B.returns
  have hts := atoms_spec (ws := (.code yX5_hasRoomFor cX5_hasRoomFor 2 (some .boolean) :: wsL_law)) B.pre
  have hown : s.vm.findClass RX5 = some m.cls := findClass_of_methodNamed B.named
  have hlocks := B.notSynchronized
  have hinX5 : ∀ w ∈ u_ws RX5 TX5 3, w ∈ (.code yX5_hasRoomFor cX5_hasRoomFor 2 (some .boolean) :: wsL_law) := fun w h => List.mem_cons_of_mem _ (inlX5 w h)
  have k_0 := hts (.fieldLink RX5 15 "RingMarks$Tape" "size" "I") (List.mem_cons_of_mem _ wm_48)
  subst hsz
  have hD := hD0.self (sz := s.heap.size)
  generalize hAe : va_A [(xt, .inr (5, [.ref b0, .int 0, .int 0]))] s.heap.size = A at hD ⊢
  have hA : ∀ q : Nat, s.heap.size ≤ q → A q := fun q h => by rw [← hAe]; exact Or.inr h
  have hP : va_P (dC, dI) vwCl [(xt, .inr (5, [.ref b0, .int 0, .int 0]))] s.heap := hP
  have hl := lv_entry ([.ref xt, .int 20]) (n := 2) (Nat.le_of_ble_eq_true rfl)
  rw [lg_entry_eq]
  generalize (lg_sl ([.ref xt, .int 20]) ++ List.replicate (2 - (lg_sl ([.ref xt, .int 20])).length) Slot.unset).toArray = ls at hl ⊢
  have hl : lv_has ls 2 [(0, .ref xt), (1, .int 20)] := hl
  obtain ⟨H, hH⟩ : ∃ H, H = s.heap := ⟨_, rfl⟩
  rw [← hH] at hP ⊢
  have hS : va_S A s.heap H [] := by rw [hH]; exact va_S.rf
  refine lv_aload_n hx hb dX5_hasRoomFor_0 rfl (lv_at hl 0 rfl) ?_
  refine va_get (D := (dC, dI)) (ci := 5) (v := .int 0) (C := RX5) (T := TX5) (N := 3) hx hb hts hinX5 hown hK hP 0 rfl rfl 1 (by decide) k_0 (fun _ h9 => h9) rfl dX5_hasRoomFor_1 ?_
  refine lv_iload_n hx hb dX5_hasRoomFor_4 rfl (lv_at hl 1 rfl) ?_
  refine lv_iadd hx hb dX5_hasRoomFor_5 ?_
  refine tp (y := 20) (by decide) ?_
  refine lv_bipush (v := 100) hx hb dX5_hasRoomFor_6 (by decide) ?_
  refine lv_icmp_gt (tgt := 15) hx hb dX5_hasRoomFor_8 (by decide) (fun c => absurd c (by decide)) (fun _ => ?_)
  refine lv_iconst (v := 1) hx hb dX5_hasRoomFor_11 (by decide) ?_
  refine lv_goto (tgt := 16) hx hb dX5_hasRoomFor_12 (by decide) ?_
  have hP9 := hP.sub (ws' := [(xt, .inr (5, [.ref b0, .int 0, .int 0]))]) [0] rfl
  have hD9 := hD.sub (ws' := [(xt, .inr (5, [.ref b0, .int 0, .int 0]))]) [0] (by decide) rfl
  exact W.zret (v := 1) hx hb hr rfl (fun t ht hW => ⟨⟨1, (), rfl, rfl, by rw [ht]; exact hP9, va_K.moved hW.alike hK, hD9⟩, hS.F ht⟩) hS.2.2 dX5_hasRoomFor_16

set_option maxHeartbeats 4000000 in
set_option maxRecDepth 100000 in
theorem kkX5_addNumber_0 (l : Launch) (dC : Nat → ClassId) (dI : Nat → Nat → Nat) (cI cB cZ cR : ClassId) (sz : Nat) (xt : Nat) (b0 : Nat) (ft : Nat → Int32) (p1 : Int32) : Met l yX5_addNumber (.code yX5_addNumber cX5_addNumber 3 none :: wsL_law) ({ frames := 0, cells := 0, slots := 0, locals := 0 }) (zPc dC dI (zT cI cB cZ cR) [.ref xt, .int p1] sz [(xt, .inr (5, [.ref b0, .int 0, .int 0])), (b0, .inl (cI, 100, .inl ft))]) (va_Qv (fun _ : Unit => True) (fun _ : Unit => zB dC dI (zT cI cB cZ cR) (va_A [(xt, .inr (5, [.ref b0, .int 0, .int 0])), (b0, .inl (cI, 100, .inl ft))] sz) [(xt, .inr (5, [.ref b0, .int 4, .int 0])), (b0, .inl (cI, 100, .inl (upd (upd (upd (upd ft 0 (((Int32.toUInt32 p1 >>> (Int32.toUInt32 24 &&& Int32.toUInt32 31)).toInt32) &&& 255)) 1 (((Int32.toUInt32 p1 >>> (Int32.toUInt32 16 &&& Int32.toUInt32 31)).toInt32) &&& 255)) 2 (((Int32.toUInt32 p1 >>> (Int32.toUInt32 8 &&& Int32.toUInt32 31)).toInt32) &&& 255)) 3 (((Int32.toUInt32 p1 >>> (Int32.toUInt32 0 &&& Int32.toUInt32 31)).toInt32) &&& 255))))]) (va_A [(xt, .inr (5, [.ref b0, .int 0, .int 0])), (b0, .inl (cI, 100, .inl ft))] sz)) 0 0 (va_A [(xt, .inr (5, [.ref b0, .int 0, .int 0])), (b0, .inl (cI, 100, .inl ft))] sz) := by
  refine Met.ofW (cc := cX5_addNumber) (maxL := 3) (ret := none) (by decide) rfl ?_
  intro p e s m args below meth c s₁ B hml hv
  obtain ⟨rfl, hsz, hP, hK, hD0, hN⟩ := hv
  have hx := B.exec
  have hb := B.bytes
  have hr := B.returns
  have hts := atoms_spec (ws := (.code yX5_addNumber cX5_addNumber 3 none :: wsL_law)) B.pre
  have hown : s.vm.findClass RX5 = some m.cls := findClass_of_methodNamed B.named
  have hlocks := B.notSynchronized
  have hinX5 : ∀ w ∈ u_ws RX5 TX5 3, w ∈ (.code yX5_addNumber cX5_addNumber 3 none :: wsL_law) := fun w h => List.mem_cons_of_mem _ (inlX5 w h)
  have k_0 := hts (.fieldLink RX5 15 "RingMarks$Tape" "size" "I") (List.mem_cons_of_mem _ wm_48)
  have k_1 := hts (.fieldLink RX5 11 "RingMarks$Tape" "bytes" "[I") (List.mem_cons_of_mem _ wm_47)
  subst hsz
  have hD := hD0.self (sz := s.heap.size)
  generalize hAe : va_A [(xt, .inr (5, [.ref b0, .int 0, .int 0])), (b0, .inl (cI, 100, .inl ft))] s.heap.size = A at hD ⊢
  have hA : ∀ q : Nat, s.heap.size ≤ q → A q := fun q h => by rw [← hAe]; exact Or.inr h
  have hP : va_P (dC, dI) vwCl [(xt, .inr (5, [.ref b0, .int 0, .int 0])), (b0, .inl (cI, 100, .inl ft))] s.heap := hP
  have hl := lv_entry ([.ref xt, .int p1]) (n := 3) (Nat.le_of_ble_eq_true rfl)
  rw [lg_entry_eq]
  generalize (lg_sl ([.ref xt, .int p1]) ++ List.replicate (3 - (lg_sl ([.ref xt, .int p1])).length) Slot.unset).toArray = ls at hl ⊢
  have hl : lv_has ls 3 [(0, .ref xt), (1, .int p1)] := hl
  obtain ⟨H, hH⟩ : ∃ H, H = s.heap := ⟨_, rfl⟩
  rw [← hH] at hP ⊢
  have hS : va_S A s.heap H [] := by rw [hH]; exact va_S.rf
  refine lv_bipush (v := 24) hx hb dX5_addNumber_0 (by decide) ?_
  refine lv_istore_n (lv' := [(2, .int 24), (0, .ref xt), (1, .int p1)]) hx hb dX5_addNumber_2 rfl hl (by decide) rfl (fun ls hl => ?_)
  refine lv_iload_n hx hb dX5_addNumber_3 rfl (lv_at hl 0 rfl) ?_
  refine lv_if_lt (tgt := 48) hx hb dX5_addNumber_4 (by decide) (fun c => absurd c (by decide)) (fun _ => ?_)
  refine lv_aload_n hx hb dX5_addNumber_7 rfl (lv_at hl 1 rfl) ?_
  refine va_get (D := (dC, dI)) (ci := 5) (v := .int 0) (C := RX5) (T := TX5) (N := 3) hx hb hts hinX5 hown hK hP 0 rfl rfl 1 (by decide) k_0 (fun _ h9 => h9) rfl dX5_addNumber_8 ?_
  refine lv_bipush (v := 100) hx hb dX5_addNumber_11 (by decide) ?_
  refine lv_icmp_ge (tgt := 48) hx hb dX5_addNumber_13 (by decide) (fun c => absurd c (by decide)) (fun _ => ?_)
  refine lv_aload_n hx hb dX5_addNumber_16 rfl (lv_at hl 1 rfl) ?_
  refine va_get (D := (dC, dI)) (ci := 5) (v := .ref b0) (C := RX5) (T := TX5) (N := 3) hx hb hts hinX5 hown hK hP 0 rfl rfl 0 (by decide) k_1 (fun _ h9 => h9) rfl dX5_addNumber_17 ?_
  refine lv_aload_n hx hb dX5_addNumber_20 rfl (lv_at hl 1 rfl) ?_
  refine va_get (D := (dC, dI)) (ci := 5) (v := .int 0) (C := RX5) (T := TX5) (N := 3) hx hb hts hinX5 hown hK hP 0 rfl rfl 1 (by decide) k_0 (fun _ h9 => h9) rfl dX5_addNumber_21 ?_
  refine lv_iload_n hx hb dX5_addNumber_24 rfl (lv_at hl 2 rfl) ?_
  refine lv_iload_n hx hb dX5_addNumber_25 rfl (lv_at hl 0 rfl) ?_
  refine lv_iushr (v := ((Int32.toUInt32 p1 >>> (Int32.toUInt32 24 &&& Int32.toUInt32 31)).toInt32)) hx hb dX5_addNumber_26 rfl ?_
  refine lv_sipush (v := 255) hx hb dX5_addNumber_27 (by decide) ?_
  refine lv_iand hx hb dX5_addNumber_30 ?_
  refine za_iast (f' := (upd ft 0 (((Int32.toUInt32 p1 >>> (Int32.toUInt32 24 &&& Int32.toUInt32 31)).toInt32) &&& 255))) hx hb hK hP hD hS 1 0 rfl rfl (zin tn_0 (Nat.le_of_ble_eq_true rfl)) (congrArg (fun z => upd _ z _) tn_0.1) dX5_addNumber_31 (fun H locs hP hD hS => ?_)
  have hP : va_P (dC, dI) vwCl [(xt, .inr (5, [.ref b0, .int 0, .int 0])), (b0, .inl (cI, 100, .inl (upd ft 0 (((Int32.toUInt32 p1 >>> (Int32.toUInt32 24 &&& Int32.toUInt32 31)).toInt32) &&& 255))))] H := hP
  have hD : va_D A [(xt, .inr (5, [.ref b0, .int 0, .int 0])), (b0, .inl (cI, 100, .inl (upd ft 0 (((Int32.toUInt32 p1 >>> (Int32.toUInt32 24 &&& Int32.toUInt32 31)).toInt32) &&& 255))))] := hD
  refine lv_aload_n hx hb dX5_addNumber_32 rfl (lv_at hl 1 rfl) ?_
  refine lv_dup hx hb dX5_addNumber_33 rfl ?_
  refine va_get (D := (dC, dI)) (ci := 5) (v := .int 0) (C := RX5) (T := TX5) (N := 3) hx hb hts hinX5 hown hK hP 0 rfl rfl 1 (by decide) k_0 (fun _ h9 => h9) rfl dX5_addNumber_34 ?_
  refine lv_iconst (v := 1) hx hb dX5_addNumber_37 (by decide) ?_
  refine lv_iadd hx hb dX5_addNumber_38 ?_
  refine tp (y := 1) (by decide) ?_
  refine va_put (D := (dC, dI)) (ci := 5) (v := .int 1) (ty := tyX5 1) (C := RX5) (T := TX5) (N := 3) hx hb hts hinX5 tyX5 tyX5_ok nmX5 hown hK hP hD hS 0 rfl rfl 1 (by decide) k_0 (fun _ h9 => h9) rfl (by decide +kernel) rfl rfl (Nat.le_of_ble_eq_true rfl) dX5_addNumber_39 (fun H locs hP hD hS => ?_)
  have hP : va_P (dC, dI) vwCl [(xt, .inr (5, [.ref b0, .int 1, .int 0])), (b0, .inl (cI, 100, .inl (upd ft 0 (((Int32.toUInt32 p1 >>> (Int32.toUInt32 24 &&& Int32.toUInt32 31)).toInt32) &&& 255))))] H := hP
  have hD : va_D A [(xt, .inr (5, [.ref b0, .int 1, .int 0])), (b0, .inl (cI, 100, .inl (upd ft 0 (((Int32.toUInt32 p1 >>> (Int32.toUInt32 24 &&& Int32.toUInt32 31)).toInt32) &&& 255))))] := hD
  refine lv_iinc (v := 16) (lv' := [(2, .int 16), (0, .ref xt), (1, .int p1)]) hx hb dX5_addNumber_42 hl (k := 0) rfl (by decide) (by decide) rfl (fun ls hl => ?_)
  refine lv_goto (tgt := 3) hx hb dX5_addNumber_45 (by decide) ?_
  refine lv_iload_n hx hb dX5_addNumber_3 rfl (lv_at hl 0 rfl) ?_
  refine lv_if_lt (tgt := 48) hx hb dX5_addNumber_4 (by decide) (fun c => absurd c (by decide)) (fun _ => ?_)
  refine lv_aload_n hx hb dX5_addNumber_7 rfl (lv_at hl 1 rfl) ?_
  refine va_get (D := (dC, dI)) (ci := 5) (v := .int 1) (C := RX5) (T := TX5) (N := 3) hx hb hts hinX5 hown hK hP 0 rfl rfl 1 (by decide) k_0 (fun _ h9 => h9) rfl dX5_addNumber_8 ?_
  refine lv_bipush (v := 100) hx hb dX5_addNumber_11 (by decide) ?_
  refine lv_icmp_ge (tgt := 48) hx hb dX5_addNumber_13 (by decide) (fun c => absurd c (by decide)) (fun _ => ?_)
  refine lv_aload_n hx hb dX5_addNumber_16 rfl (lv_at hl 1 rfl) ?_
  refine va_get (D := (dC, dI)) (ci := 5) (v := .ref b0) (C := RX5) (T := TX5) (N := 3) hx hb hts hinX5 hown hK hP 0 rfl rfl 0 (by decide) k_1 (fun _ h9 => h9) rfl dX5_addNumber_17 ?_
  refine lv_aload_n hx hb dX5_addNumber_20 rfl (lv_at hl 1 rfl) ?_
  refine va_get (D := (dC, dI)) (ci := 5) (v := .int 1) (C := RX5) (T := TX5) (N := 3) hx hb hts hinX5 hown hK hP 0 rfl rfl 1 (by decide) k_0 (fun _ h9 => h9) rfl dX5_addNumber_21 ?_
  refine lv_iload_n hx hb dX5_addNumber_24 rfl (lv_at hl 2 rfl) ?_
  refine lv_iload_n hx hb dX5_addNumber_25 rfl (lv_at hl 0 rfl) ?_
  refine lv_iushr (v := ((Int32.toUInt32 p1 >>> (Int32.toUInt32 16 &&& Int32.toUInt32 31)).toInt32)) hx hb dX5_addNumber_26 rfl ?_
  refine lv_sipush (v := 255) hx hb dX5_addNumber_27 (by decide) ?_
  refine lv_iand hx hb dX5_addNumber_30 ?_
  refine za_iast (f' := (upd (upd ft 0 (((Int32.toUInt32 p1 >>> (Int32.toUInt32 24 &&& Int32.toUInt32 31)).toInt32) &&& 255)) 1 (((Int32.toUInt32 p1 >>> (Int32.toUInt32 16 &&& Int32.toUInt32 31)).toInt32) &&& 255))) hx hb hK hP hD hS 1 0 rfl rfl (zin tn_1 (Nat.le_of_ble_eq_true rfl)) (congrArg (fun z => upd _ z _) tn_1.1) dX5_addNumber_31 (fun H locs hP hD hS => ?_)
  have hP : va_P (dC, dI) vwCl [(xt, .inr (5, [.ref b0, .int 1, .int 0])), (b0, .inl (cI, 100, .inl (upd (upd ft 0 (((Int32.toUInt32 p1 >>> (Int32.toUInt32 24 &&& Int32.toUInt32 31)).toInt32) &&& 255)) 1 (((Int32.toUInt32 p1 >>> (Int32.toUInt32 16 &&& Int32.toUInt32 31)).toInt32) &&& 255))))] H := hP
  have hD : va_D A [(xt, .inr (5, [.ref b0, .int 1, .int 0])), (b0, .inl (cI, 100, .inl (upd (upd ft 0 (((Int32.toUInt32 p1 >>> (Int32.toUInt32 24 &&& Int32.toUInt32 31)).toInt32) &&& 255)) 1 (((Int32.toUInt32 p1 >>> (Int32.toUInt32 16 &&& Int32.toUInt32 31)).toInt32) &&& 255))))] := hD
  refine lv_aload_n hx hb dX5_addNumber_32 rfl (lv_at hl 1 rfl) ?_
  refine lv_dup hx hb dX5_addNumber_33 rfl ?_
  refine va_get (D := (dC, dI)) (ci := 5) (v := .int 1) (C := RX5) (T := TX5) (N := 3) hx hb hts hinX5 hown hK hP 0 rfl rfl 1 (by decide) k_0 (fun _ h9 => h9) rfl dX5_addNumber_34 ?_
  refine lv_iconst (v := 1) hx hb dX5_addNumber_37 (by decide) ?_
  refine lv_iadd hx hb dX5_addNumber_38 ?_
  refine tp (y := 2) (by decide) ?_
  refine va_put (D := (dC, dI)) (ci := 5) (v := .int 2) (ty := tyX5 1) (C := RX5) (T := TX5) (N := 3) hx hb hts hinX5 tyX5 tyX5_ok nmX5 hown hK hP hD hS 0 rfl rfl 1 (by decide) k_0 (fun _ h9 => h9) rfl (by decide +kernel) rfl rfl (Nat.le_of_ble_eq_true rfl) dX5_addNumber_39 (fun H locs hP hD hS => ?_)
  have hP : va_P (dC, dI) vwCl [(xt, .inr (5, [.ref b0, .int 2, .int 0])), (b0, .inl (cI, 100, .inl (upd (upd ft 0 (((Int32.toUInt32 p1 >>> (Int32.toUInt32 24 &&& Int32.toUInt32 31)).toInt32) &&& 255)) 1 (((Int32.toUInt32 p1 >>> (Int32.toUInt32 16 &&& Int32.toUInt32 31)).toInt32) &&& 255))))] H := hP
  have hD : va_D A [(xt, .inr (5, [.ref b0, .int 2, .int 0])), (b0, .inl (cI, 100, .inl (upd (upd ft 0 (((Int32.toUInt32 p1 >>> (Int32.toUInt32 24 &&& Int32.toUInt32 31)).toInt32) &&& 255)) 1 (((Int32.toUInt32 p1 >>> (Int32.toUInt32 16 &&& Int32.toUInt32 31)).toInt32) &&& 255))))] := hD
  refine lv_iinc (v := 8) (lv' := [(2, .int 8), (0, .ref xt), (1, .int p1)]) hx hb dX5_addNumber_42 hl (k := 0) rfl (by decide) (by decide) rfl (fun ls hl => ?_)
  refine lv_goto (tgt := 3) hx hb dX5_addNumber_45 (by decide) ?_
  refine lv_iload_n hx hb dX5_addNumber_3 rfl (lv_at hl 0 rfl) ?_
  refine lv_if_lt (tgt := 48) hx hb dX5_addNumber_4 (by decide) (fun c => absurd c (by decide)) (fun _ => ?_)
  refine lv_aload_n hx hb dX5_addNumber_7 rfl (lv_at hl 1 rfl) ?_
  refine va_get (D := (dC, dI)) (ci := 5) (v := .int 2) (C := RX5) (T := TX5) (N := 3) hx hb hts hinX5 hown hK hP 0 rfl rfl 1 (by decide) k_0 (fun _ h9 => h9) rfl dX5_addNumber_8 ?_
  refine lv_bipush (v := 100) hx hb dX5_addNumber_11 (by decide) ?_
  refine lv_icmp_ge (tgt := 48) hx hb dX5_addNumber_13 (by decide) (fun c => absurd c (by decide)) (fun _ => ?_)
  refine lv_aload_n hx hb dX5_addNumber_16 rfl (lv_at hl 1 rfl) ?_
  refine va_get (D := (dC, dI)) (ci := 5) (v := .ref b0) (C := RX5) (T := TX5) (N := 3) hx hb hts hinX5 hown hK hP 0 rfl rfl 0 (by decide) k_1 (fun _ h9 => h9) rfl dX5_addNumber_17 ?_
  refine lv_aload_n hx hb dX5_addNumber_20 rfl (lv_at hl 1 rfl) ?_
  refine va_get (D := (dC, dI)) (ci := 5) (v := .int 2) (C := RX5) (T := TX5) (N := 3) hx hb hts hinX5 hown hK hP 0 rfl rfl 1 (by decide) k_0 (fun _ h9 => h9) rfl dX5_addNumber_21 ?_
  refine lv_iload_n hx hb dX5_addNumber_24 rfl (lv_at hl 2 rfl) ?_
  refine lv_iload_n hx hb dX5_addNumber_25 rfl (lv_at hl 0 rfl) ?_
  refine lv_iushr (v := ((Int32.toUInt32 p1 >>> (Int32.toUInt32 8 &&& Int32.toUInt32 31)).toInt32)) hx hb dX5_addNumber_26 rfl ?_
  refine lv_sipush (v := 255) hx hb dX5_addNumber_27 (by decide) ?_
  refine lv_iand hx hb dX5_addNumber_30 ?_
  refine za_iast (f' := (upd (upd (upd ft 0 (((Int32.toUInt32 p1 >>> (Int32.toUInt32 24 &&& Int32.toUInt32 31)).toInt32) &&& 255)) 1 (((Int32.toUInt32 p1 >>> (Int32.toUInt32 16 &&& Int32.toUInt32 31)).toInt32) &&& 255)) 2 (((Int32.toUInt32 p1 >>> (Int32.toUInt32 8 &&& Int32.toUInt32 31)).toInt32) &&& 255))) hx hb hK hP hD hS 1 0 rfl rfl (zin tn_2 (Nat.le_of_ble_eq_true rfl)) (congrArg (fun z => upd _ z _) tn_2.1) dX5_addNumber_31 (fun H locs hP hD hS => ?_)
  have hP : va_P (dC, dI) vwCl [(xt, .inr (5, [.ref b0, .int 2, .int 0])), (b0, .inl (cI, 100, .inl (upd (upd (upd ft 0 (((Int32.toUInt32 p1 >>> (Int32.toUInt32 24 &&& Int32.toUInt32 31)).toInt32) &&& 255)) 1 (((Int32.toUInt32 p1 >>> (Int32.toUInt32 16 &&& Int32.toUInt32 31)).toInt32) &&& 255)) 2 (((Int32.toUInt32 p1 >>> (Int32.toUInt32 8 &&& Int32.toUInt32 31)).toInt32) &&& 255))))] H := hP
  have hD : va_D A [(xt, .inr (5, [.ref b0, .int 2, .int 0])), (b0, .inl (cI, 100, .inl (upd (upd (upd ft 0 (((Int32.toUInt32 p1 >>> (Int32.toUInt32 24 &&& Int32.toUInt32 31)).toInt32) &&& 255)) 1 (((Int32.toUInt32 p1 >>> (Int32.toUInt32 16 &&& Int32.toUInt32 31)).toInt32) &&& 255)) 2 (((Int32.toUInt32 p1 >>> (Int32.toUInt32 8 &&& Int32.toUInt32 31)).toInt32) &&& 255))))] := hD
  refine lv_aload_n hx hb dX5_addNumber_32 rfl (lv_at hl 1 rfl) ?_
  refine lv_dup hx hb dX5_addNumber_33 rfl ?_
  refine va_get (D := (dC, dI)) (ci := 5) (v := .int 2) (C := RX5) (T := TX5) (N := 3) hx hb hts hinX5 hown hK hP 0 rfl rfl 1 (by decide) k_0 (fun _ h9 => h9) rfl dX5_addNumber_34 ?_
  refine lv_iconst (v := 1) hx hb dX5_addNumber_37 (by decide) ?_
  refine lv_iadd hx hb dX5_addNumber_38 ?_
  refine tp (y := 3) (by decide) ?_
  refine va_put (D := (dC, dI)) (ci := 5) (v := .int 3) (ty := tyX5 1) (C := RX5) (T := TX5) (N := 3) hx hb hts hinX5 tyX5 tyX5_ok nmX5 hown hK hP hD hS 0 rfl rfl 1 (by decide) k_0 (fun _ h9 => h9) rfl (by decide +kernel) rfl rfl (Nat.le_of_ble_eq_true rfl) dX5_addNumber_39 (fun H locs hP hD hS => ?_)
  have hP : va_P (dC, dI) vwCl [(xt, .inr (5, [.ref b0, .int 3, .int 0])), (b0, .inl (cI, 100, .inl (upd (upd (upd ft 0 (((Int32.toUInt32 p1 >>> (Int32.toUInt32 24 &&& Int32.toUInt32 31)).toInt32) &&& 255)) 1 (((Int32.toUInt32 p1 >>> (Int32.toUInt32 16 &&& Int32.toUInt32 31)).toInt32) &&& 255)) 2 (((Int32.toUInt32 p1 >>> (Int32.toUInt32 8 &&& Int32.toUInt32 31)).toInt32) &&& 255))))] H := hP
  have hD : va_D A [(xt, .inr (5, [.ref b0, .int 3, .int 0])), (b0, .inl (cI, 100, .inl (upd (upd (upd ft 0 (((Int32.toUInt32 p1 >>> (Int32.toUInt32 24 &&& Int32.toUInt32 31)).toInt32) &&& 255)) 1 (((Int32.toUInt32 p1 >>> (Int32.toUInt32 16 &&& Int32.toUInt32 31)).toInt32) &&& 255)) 2 (((Int32.toUInt32 p1 >>> (Int32.toUInt32 8 &&& Int32.toUInt32 31)).toInt32) &&& 255))))] := hD
  refine lv_iinc (v := 0) (lv' := [(2, .int 0), (0, .ref xt), (1, .int p1)]) hx hb dX5_addNumber_42 hl (k := 0) rfl (by decide) (by decide) rfl (fun ls hl => ?_)
  refine lv_goto (tgt := 3) hx hb dX5_addNumber_45 (by decide) ?_
  refine lv_iload_n hx hb dX5_addNumber_3 rfl (lv_at hl 0 rfl) ?_
  refine lv_if_lt (tgt := 48) hx hb dX5_addNumber_4 (by decide) (fun c => absurd c (by decide)) (fun _ => ?_)
  refine lv_aload_n hx hb dX5_addNumber_7 rfl (lv_at hl 1 rfl) ?_
  refine va_get (D := (dC, dI)) (ci := 5) (v := .int 3) (C := RX5) (T := TX5) (N := 3) hx hb hts hinX5 hown hK hP 0 rfl rfl 1 (by decide) k_0 (fun _ h9 => h9) rfl dX5_addNumber_8 ?_
  refine lv_bipush (v := 100) hx hb dX5_addNumber_11 (by decide) ?_
  refine lv_icmp_ge (tgt := 48) hx hb dX5_addNumber_13 (by decide) (fun c => absurd c (by decide)) (fun _ => ?_)
  refine lv_aload_n hx hb dX5_addNumber_16 rfl (lv_at hl 1 rfl) ?_
  refine va_get (D := (dC, dI)) (ci := 5) (v := .ref b0) (C := RX5) (T := TX5) (N := 3) hx hb hts hinX5 hown hK hP 0 rfl rfl 0 (by decide) k_1 (fun _ h9 => h9) rfl dX5_addNumber_17 ?_
  refine lv_aload_n hx hb dX5_addNumber_20 rfl (lv_at hl 1 rfl) ?_
  refine va_get (D := (dC, dI)) (ci := 5) (v := .int 3) (C := RX5) (T := TX5) (N := 3) hx hb hts hinX5 hown hK hP 0 rfl rfl 1 (by decide) k_0 (fun _ h9 => h9) rfl dX5_addNumber_21 ?_
  refine lv_iload_n hx hb dX5_addNumber_24 rfl (lv_at hl 2 rfl) ?_
  refine lv_iload_n hx hb dX5_addNumber_25 rfl (lv_at hl 0 rfl) ?_
  refine lv_iushr (v := ((Int32.toUInt32 p1 >>> (Int32.toUInt32 0 &&& Int32.toUInt32 31)).toInt32)) hx hb dX5_addNumber_26 rfl ?_
  refine lv_sipush (v := 255) hx hb dX5_addNumber_27 (by decide) ?_
  refine lv_iand hx hb dX5_addNumber_30 ?_
  refine za_iast (f' := (upd (upd (upd (upd ft 0 (((Int32.toUInt32 p1 >>> (Int32.toUInt32 24 &&& Int32.toUInt32 31)).toInt32) &&& 255)) 1 (((Int32.toUInt32 p1 >>> (Int32.toUInt32 16 &&& Int32.toUInt32 31)).toInt32) &&& 255)) 2 (((Int32.toUInt32 p1 >>> (Int32.toUInt32 8 &&& Int32.toUInt32 31)).toInt32) &&& 255)) 3 (((Int32.toUInt32 p1 >>> (Int32.toUInt32 0 &&& Int32.toUInt32 31)).toInt32) &&& 255))) hx hb hK hP hD hS 1 0 rfl rfl (zin tn_3 (Nat.le_of_ble_eq_true rfl)) (congrArg (fun z => upd _ z _) tn_3.1) dX5_addNumber_31 (fun H locs hP hD hS => ?_)
  have hP : va_P (dC, dI) vwCl [(xt, .inr (5, [.ref b0, .int 3, .int 0])), (b0, .inl (cI, 100, .inl (upd (upd (upd (upd ft 0 (((Int32.toUInt32 p1 >>> (Int32.toUInt32 24 &&& Int32.toUInt32 31)).toInt32) &&& 255)) 1 (((Int32.toUInt32 p1 >>> (Int32.toUInt32 16 &&& Int32.toUInt32 31)).toInt32) &&& 255)) 2 (((Int32.toUInt32 p1 >>> (Int32.toUInt32 8 &&& Int32.toUInt32 31)).toInt32) &&& 255)) 3 (((Int32.toUInt32 p1 >>> (Int32.toUInt32 0 &&& Int32.toUInt32 31)).toInt32) &&& 255))))] H := hP
  have hD : va_D A [(xt, .inr (5, [.ref b0, .int 3, .int 0])), (b0, .inl (cI, 100, .inl (upd (upd (upd (upd ft 0 (((Int32.toUInt32 p1 >>> (Int32.toUInt32 24 &&& Int32.toUInt32 31)).toInt32) &&& 255)) 1 (((Int32.toUInt32 p1 >>> (Int32.toUInt32 16 &&& Int32.toUInt32 31)).toInt32) &&& 255)) 2 (((Int32.toUInt32 p1 >>> (Int32.toUInt32 8 &&& Int32.toUInt32 31)).toInt32) &&& 255)) 3 (((Int32.toUInt32 p1 >>> (Int32.toUInt32 0 &&& Int32.toUInt32 31)).toInt32) &&& 255))))] := hD
  refine lv_aload_n hx hb dX5_addNumber_32 rfl (lv_at hl 1 rfl) ?_
  refine lv_dup hx hb dX5_addNumber_33 rfl ?_
  refine va_get (D := (dC, dI)) (ci := 5) (v := .int 3) (C := RX5) (T := TX5) (N := 3) hx hb hts hinX5 hown hK hP 0 rfl rfl 1 (by decide) k_0 (fun _ h9 => h9) rfl dX5_addNumber_34 ?_
  refine lv_iconst (v := 1) hx hb dX5_addNumber_37 (by decide) ?_
  refine lv_iadd hx hb dX5_addNumber_38 ?_
  refine tp (y := 4) (by decide) ?_
  refine va_put (D := (dC, dI)) (ci := 5) (v := .int 4) (ty := tyX5 1) (C := RX5) (T := TX5) (N := 3) hx hb hts hinX5 tyX5 tyX5_ok nmX5 hown hK hP hD hS 0 rfl rfl 1 (by decide) k_0 (fun _ h9 => h9) rfl (by decide +kernel) rfl rfl (Nat.le_of_ble_eq_true rfl) dX5_addNumber_39 (fun H locs hP hD hS => ?_)
  have hP : va_P (dC, dI) vwCl [(xt, .inr (5, [.ref b0, .int 4, .int 0])), (b0, .inl (cI, 100, .inl (upd (upd (upd (upd ft 0 (((Int32.toUInt32 p1 >>> (Int32.toUInt32 24 &&& Int32.toUInt32 31)).toInt32) &&& 255)) 1 (((Int32.toUInt32 p1 >>> (Int32.toUInt32 16 &&& Int32.toUInt32 31)).toInt32) &&& 255)) 2 (((Int32.toUInt32 p1 >>> (Int32.toUInt32 8 &&& Int32.toUInt32 31)).toInt32) &&& 255)) 3 (((Int32.toUInt32 p1 >>> (Int32.toUInt32 0 &&& Int32.toUInt32 31)).toInt32) &&& 255))))] H := hP
  have hD : va_D A [(xt, .inr (5, [.ref b0, .int 4, .int 0])), (b0, .inl (cI, 100, .inl (upd (upd (upd (upd ft 0 (((Int32.toUInt32 p1 >>> (Int32.toUInt32 24 &&& Int32.toUInt32 31)).toInt32) &&& 255)) 1 (((Int32.toUInt32 p1 >>> (Int32.toUInt32 16 &&& Int32.toUInt32 31)).toInt32) &&& 255)) 2 (((Int32.toUInt32 p1 >>> (Int32.toUInt32 8 &&& Int32.toUInt32 31)).toInt32) &&& 255)) 3 (((Int32.toUInt32 p1 >>> (Int32.toUInt32 0 &&& Int32.toUInt32 31)).toInt32) &&& 255))))] := hD
  refine lv_iinc (v := (-8)) (lv' := [(2, .int (-8)), (0, .ref xt), (1, .int p1)]) hx hb dX5_addNumber_42 hl (k := 0) rfl (by decide) (by decide) rfl (fun ls hl => ?_)
  refine lv_goto (tgt := 3) hx hb dX5_addNumber_45 (by decide) ?_
  refine lv_iload_n hx hb dX5_addNumber_3 rfl (lv_at hl 0 rfl) ?_
  refine lv_if_lt (tgt := 48) hx hb dX5_addNumber_4 (by decide) (fun _ => ?_) (fun c => absurd (by decide) c)
  have hP9 := hP.sub (ws' := [(xt, .inr (5, [.ref b0, .int 4, .int 0])), (b0, .inl (cI, 100, .inl (upd (upd (upd (upd ft 0 (((Int32.toUInt32 p1 >>> (Int32.toUInt32 24 &&& Int32.toUInt32 31)).toInt32) &&& 255)) 1 (((Int32.toUInt32 p1 >>> (Int32.toUInt32 16 &&& Int32.toUInt32 31)).toInt32) &&& 255)) 2 (((Int32.toUInt32 p1 >>> (Int32.toUInt32 8 &&& Int32.toUInt32 31)).toInt32) &&& 255)) 3 (((Int32.toUInt32 p1 >>> (Int32.toUInt32 0 &&& Int32.toUInt32 31)).toInt32) &&& 255))))]) [0, 1] rfl
  have hD9 := hD.sub (ws' := [(xt, .inr (5, [.ref b0, .int 4, .int 0])), (b0, .inl (cI, 100, .inl (upd (upd (upd (upd ft 0 (((Int32.toUInt32 p1 >>> (Int32.toUInt32 24 &&& Int32.toUInt32 31)).toInt32) &&& 255)) 1 (((Int32.toUInt32 p1 >>> (Int32.toUInt32 16 &&& Int32.toUInt32 31)).toInt32) &&& 255)) 2 (((Int32.toUInt32 p1 >>> (Int32.toUInt32 8 &&& Int32.toUInt32 31)).toInt32) &&& 255)) 3 (((Int32.toUInt32 p1 >>> (Int32.toUInt32 0 &&& Int32.toUInt32 31)).toInt32) &&& 255))))]) [0, 1] (by decide) rfl
  exact W.vret hx hb hr (fun t ht hW => ⟨⟨(), rfl, trivial, by rw [ht]; exact hP9, va_K.moved hW.alike hK, hD9⟩, hS.F ht⟩) hS.2.2 dX5_addNumber_48

set_option maxHeartbeats 4000000 in
set_option maxRecDepth 100000 in
theorem kkX5_addNumber_4 (l : Launch) (dC : Nat → ClassId) (dI : Nat → Nat → Nat) (cI cB cZ cR : ClassId) (sz : Nat) (xt : Nat) (b0 : Nat) (ft : Nat → Int32) (p1 : Int32) : Met l yX5_addNumber (.code yX5_addNumber cX5_addNumber 3 none :: wsL_law) ({ frames := 0, cells := 0, slots := 0, locals := 0 }) (zPc dC dI (zT cI cB cZ cR) [.ref xt, .int p1] sz [(xt, .inr (5, [.ref b0, .int 4, .int 0])), (b0, .inl (cI, 100, .inl ft))]) (va_Qv (fun _ : Unit => True) (fun _ : Unit => zB dC dI (zT cI cB cZ cR) (va_A [(xt, .inr (5, [.ref b0, .int 4, .int 0])), (b0, .inl (cI, 100, .inl ft))] sz) [(xt, .inr (5, [.ref b0, .int 8, .int 0])), (b0, .inl (cI, 100, .inl (upd (upd (upd (upd ft 4 (((Int32.toUInt32 p1 >>> (Int32.toUInt32 24 &&& Int32.toUInt32 31)).toInt32) &&& 255)) 5 (((Int32.toUInt32 p1 >>> (Int32.toUInt32 16 &&& Int32.toUInt32 31)).toInt32) &&& 255)) 6 (((Int32.toUInt32 p1 >>> (Int32.toUInt32 8 &&& Int32.toUInt32 31)).toInt32) &&& 255)) 7 (((Int32.toUInt32 p1 >>> (Int32.toUInt32 0 &&& Int32.toUInt32 31)).toInt32) &&& 255))))]) (va_A [(xt, .inr (5, [.ref b0, .int 4, .int 0])), (b0, .inl (cI, 100, .inl ft))] sz)) 0 0 (va_A [(xt, .inr (5, [.ref b0, .int 4, .int 0])), (b0, .inl (cI, 100, .inl ft))] sz) := by
  refine Met.ofW (cc := cX5_addNumber) (maxL := 3) (ret := none) (by decide) rfl ?_
  intro p e s m args below meth c s₁ B hml hv
  obtain ⟨rfl, hsz, hP, hK, hD0, hN⟩ := hv
  have hx := B.exec
  have hb := B.bytes
  have hr := B.returns
  have hts := atoms_spec (ws := (.code yX5_addNumber cX5_addNumber 3 none :: wsL_law)) B.pre
  have hown : s.vm.findClass RX5 = some m.cls := findClass_of_methodNamed B.named
  have hlocks := B.notSynchronized
  have hinX5 : ∀ w ∈ u_ws RX5 TX5 3, w ∈ (.code yX5_addNumber cX5_addNumber 3 none :: wsL_law) := fun w h => List.mem_cons_of_mem _ (inlX5 w h)
  have k_0 := hts (.fieldLink RX5 15 "RingMarks$Tape" "size" "I") (List.mem_cons_of_mem _ wm_48)
  have k_1 := hts (.fieldLink RX5 11 "RingMarks$Tape" "bytes" "[I") (List.mem_cons_of_mem _ wm_47)
  subst hsz
  have hD := hD0.self (sz := s.heap.size)
  generalize hAe : va_A [(xt, .inr (5, [.ref b0, .int 4, .int 0])), (b0, .inl (cI, 100, .inl ft))] s.heap.size = A at hD ⊢
  have hA : ∀ q : Nat, s.heap.size ≤ q → A q := fun q h => by rw [← hAe]; exact Or.inr h
  have hP : va_P (dC, dI) vwCl [(xt, .inr (5, [.ref b0, .int 4, .int 0])), (b0, .inl (cI, 100, .inl ft))] s.heap := hP
  have hl := lv_entry ([.ref xt, .int p1]) (n := 3) (Nat.le_of_ble_eq_true rfl)
  rw [lg_entry_eq]
  generalize (lg_sl ([.ref xt, .int p1]) ++ List.replicate (3 - (lg_sl ([.ref xt, .int p1])).length) Slot.unset).toArray = ls at hl ⊢
  have hl : lv_has ls 3 [(0, .ref xt), (1, .int p1)] := hl
  obtain ⟨H, hH⟩ : ∃ H, H = s.heap := ⟨_, rfl⟩
  rw [← hH] at hP ⊢
  have hS : va_S A s.heap H [] := by rw [hH]; exact va_S.rf
  refine lv_bipush (v := 24) hx hb dX5_addNumber_0 (by decide) ?_
  refine lv_istore_n (lv' := [(2, .int 24), (0, .ref xt), (1, .int p1)]) hx hb dX5_addNumber_2 rfl hl (by decide) rfl (fun ls hl => ?_)
  refine lv_iload_n hx hb dX5_addNumber_3 rfl (lv_at hl 0 rfl) ?_
  refine lv_if_lt (tgt := 48) hx hb dX5_addNumber_4 (by decide) (fun c => absurd c (by decide)) (fun _ => ?_)
  refine lv_aload_n hx hb dX5_addNumber_7 rfl (lv_at hl 1 rfl) ?_
  refine va_get (D := (dC, dI)) (ci := 5) (v := .int 4) (C := RX5) (T := TX5) (N := 3) hx hb hts hinX5 hown hK hP 0 rfl rfl 1 (by decide) k_0 (fun _ h9 => h9) rfl dX5_addNumber_8 ?_
  refine lv_bipush (v := 100) hx hb dX5_addNumber_11 (by decide) ?_
  refine lv_icmp_ge (tgt := 48) hx hb dX5_addNumber_13 (by decide) (fun c => absurd c (by decide)) (fun _ => ?_)
  refine lv_aload_n hx hb dX5_addNumber_16 rfl (lv_at hl 1 rfl) ?_
  refine va_get (D := (dC, dI)) (ci := 5) (v := .ref b0) (C := RX5) (T := TX5) (N := 3) hx hb hts hinX5 hown hK hP 0 rfl rfl 0 (by decide) k_1 (fun _ h9 => h9) rfl dX5_addNumber_17 ?_
  refine lv_aload_n hx hb dX5_addNumber_20 rfl (lv_at hl 1 rfl) ?_
  refine va_get (D := (dC, dI)) (ci := 5) (v := .int 4) (C := RX5) (T := TX5) (N := 3) hx hb hts hinX5 hown hK hP 0 rfl rfl 1 (by decide) k_0 (fun _ h9 => h9) rfl dX5_addNumber_21 ?_
  refine lv_iload_n hx hb dX5_addNumber_24 rfl (lv_at hl 2 rfl) ?_
  refine lv_iload_n hx hb dX5_addNumber_25 rfl (lv_at hl 0 rfl) ?_
  refine lv_iushr (v := ((Int32.toUInt32 p1 >>> (Int32.toUInt32 24 &&& Int32.toUInt32 31)).toInt32)) hx hb dX5_addNumber_26 rfl ?_
  refine lv_sipush (v := 255) hx hb dX5_addNumber_27 (by decide) ?_
  refine lv_iand hx hb dX5_addNumber_30 ?_
  refine za_iast (f' := (upd ft 4 (((Int32.toUInt32 p1 >>> (Int32.toUInt32 24 &&& Int32.toUInt32 31)).toInt32) &&& 255))) hx hb hK hP hD hS 1 0 rfl rfl (zin tn_4 (Nat.le_of_ble_eq_true rfl)) (congrArg (fun z => upd _ z _) tn_4.1) dX5_addNumber_31 (fun H locs hP hD hS => ?_)
  have hP : va_P (dC, dI) vwCl [(xt, .inr (5, [.ref b0, .int 4, .int 0])), (b0, .inl (cI, 100, .inl (upd ft 4 (((Int32.toUInt32 p1 >>> (Int32.toUInt32 24 &&& Int32.toUInt32 31)).toInt32) &&& 255))))] H := hP
  have hD : va_D A [(xt, .inr (5, [.ref b0, .int 4, .int 0])), (b0, .inl (cI, 100, .inl (upd ft 4 (((Int32.toUInt32 p1 >>> (Int32.toUInt32 24 &&& Int32.toUInt32 31)).toInt32) &&& 255))))] := hD
  refine lv_aload_n hx hb dX5_addNumber_32 rfl (lv_at hl 1 rfl) ?_
  refine lv_dup hx hb dX5_addNumber_33 rfl ?_
  refine va_get (D := (dC, dI)) (ci := 5) (v := .int 4) (C := RX5) (T := TX5) (N := 3) hx hb hts hinX5 hown hK hP 0 rfl rfl 1 (by decide) k_0 (fun _ h9 => h9) rfl dX5_addNumber_34 ?_
  refine lv_iconst (v := 1) hx hb dX5_addNumber_37 (by decide) ?_
  refine lv_iadd hx hb dX5_addNumber_38 ?_
  refine tp (y := 5) (by decide) ?_
  refine va_put (D := (dC, dI)) (ci := 5) (v := .int 5) (ty := tyX5 1) (C := RX5) (T := TX5) (N := 3) hx hb hts hinX5 tyX5 tyX5_ok nmX5 hown hK hP hD hS 0 rfl rfl 1 (by decide) k_0 (fun _ h9 => h9) rfl (by decide +kernel) rfl rfl (Nat.le_of_ble_eq_true rfl) dX5_addNumber_39 (fun H locs hP hD hS => ?_)
  have hP : va_P (dC, dI) vwCl [(xt, .inr (5, [.ref b0, .int 5, .int 0])), (b0, .inl (cI, 100, .inl (upd ft 4 (((Int32.toUInt32 p1 >>> (Int32.toUInt32 24 &&& Int32.toUInt32 31)).toInt32) &&& 255))))] H := hP
  have hD : va_D A [(xt, .inr (5, [.ref b0, .int 5, .int 0])), (b0, .inl (cI, 100, .inl (upd ft 4 (((Int32.toUInt32 p1 >>> (Int32.toUInt32 24 &&& Int32.toUInt32 31)).toInt32) &&& 255))))] := hD
  refine lv_iinc (v := 16) (lv' := [(2, .int 16), (0, .ref xt), (1, .int p1)]) hx hb dX5_addNumber_42 hl (k := 0) rfl (by decide) (by decide) rfl (fun ls hl => ?_)
  refine lv_goto (tgt := 3) hx hb dX5_addNumber_45 (by decide) ?_
  refine lv_iload_n hx hb dX5_addNumber_3 rfl (lv_at hl 0 rfl) ?_
  refine lv_if_lt (tgt := 48) hx hb dX5_addNumber_4 (by decide) (fun c => absurd c (by decide)) (fun _ => ?_)
  refine lv_aload_n hx hb dX5_addNumber_7 rfl (lv_at hl 1 rfl) ?_
  refine va_get (D := (dC, dI)) (ci := 5) (v := .int 5) (C := RX5) (T := TX5) (N := 3) hx hb hts hinX5 hown hK hP 0 rfl rfl 1 (by decide) k_0 (fun _ h9 => h9) rfl dX5_addNumber_8 ?_
  refine lv_bipush (v := 100) hx hb dX5_addNumber_11 (by decide) ?_
  refine lv_icmp_ge (tgt := 48) hx hb dX5_addNumber_13 (by decide) (fun c => absurd c (by decide)) (fun _ => ?_)
  refine lv_aload_n hx hb dX5_addNumber_16 rfl (lv_at hl 1 rfl) ?_
  refine va_get (D := (dC, dI)) (ci := 5) (v := .ref b0) (C := RX5) (T := TX5) (N := 3) hx hb hts hinX5 hown hK hP 0 rfl rfl 0 (by decide) k_1 (fun _ h9 => h9) rfl dX5_addNumber_17 ?_
  refine lv_aload_n hx hb dX5_addNumber_20 rfl (lv_at hl 1 rfl) ?_
  refine va_get (D := (dC, dI)) (ci := 5) (v := .int 5) (C := RX5) (T := TX5) (N := 3) hx hb hts hinX5 hown hK hP 0 rfl rfl 1 (by decide) k_0 (fun _ h9 => h9) rfl dX5_addNumber_21 ?_
  refine lv_iload_n hx hb dX5_addNumber_24 rfl (lv_at hl 2 rfl) ?_
  refine lv_iload_n hx hb dX5_addNumber_25 rfl (lv_at hl 0 rfl) ?_
  refine lv_iushr (v := ((Int32.toUInt32 p1 >>> (Int32.toUInt32 16 &&& Int32.toUInt32 31)).toInt32)) hx hb dX5_addNumber_26 rfl ?_
  refine lv_sipush (v := 255) hx hb dX5_addNumber_27 (by decide) ?_
  refine lv_iand hx hb dX5_addNumber_30 ?_
  refine za_iast (f' := (upd (upd ft 4 (((Int32.toUInt32 p1 >>> (Int32.toUInt32 24 &&& Int32.toUInt32 31)).toInt32) &&& 255)) 5 (((Int32.toUInt32 p1 >>> (Int32.toUInt32 16 &&& Int32.toUInt32 31)).toInt32) &&& 255))) hx hb hK hP hD hS 1 0 rfl rfl (zin tn_5 (Nat.le_of_ble_eq_true rfl)) (congrArg (fun z => upd _ z _) tn_5.1) dX5_addNumber_31 (fun H locs hP hD hS => ?_)
  have hP : va_P (dC, dI) vwCl [(xt, .inr (5, [.ref b0, .int 5, .int 0])), (b0, .inl (cI, 100, .inl (upd (upd ft 4 (((Int32.toUInt32 p1 >>> (Int32.toUInt32 24 &&& Int32.toUInt32 31)).toInt32) &&& 255)) 5 (((Int32.toUInt32 p1 >>> (Int32.toUInt32 16 &&& Int32.toUInt32 31)).toInt32) &&& 255))))] H := hP
  have hD : va_D A [(xt, .inr (5, [.ref b0, .int 5, .int 0])), (b0, .inl (cI, 100, .inl (upd (upd ft 4 (((Int32.toUInt32 p1 >>> (Int32.toUInt32 24 &&& Int32.toUInt32 31)).toInt32) &&& 255)) 5 (((Int32.toUInt32 p1 >>> (Int32.toUInt32 16 &&& Int32.toUInt32 31)).toInt32) &&& 255))))] := hD
  refine lv_aload_n hx hb dX5_addNumber_32 rfl (lv_at hl 1 rfl) ?_
  refine lv_dup hx hb dX5_addNumber_33 rfl ?_
  refine va_get (D := (dC, dI)) (ci := 5) (v := .int 5) (C := RX5) (T := TX5) (N := 3) hx hb hts hinX5 hown hK hP 0 rfl rfl 1 (by decide) k_0 (fun _ h9 => h9) rfl dX5_addNumber_34 ?_
  refine lv_iconst (v := 1) hx hb dX5_addNumber_37 (by decide) ?_
  refine lv_iadd hx hb dX5_addNumber_38 ?_
  refine tp (y := 6) (by decide) ?_
  refine va_put (D := (dC, dI)) (ci := 5) (v := .int 6) (ty := tyX5 1) (C := RX5) (T := TX5) (N := 3) hx hb hts hinX5 tyX5 tyX5_ok nmX5 hown hK hP hD hS 0 rfl rfl 1 (by decide) k_0 (fun _ h9 => h9) rfl (by decide +kernel) rfl rfl (Nat.le_of_ble_eq_true rfl) dX5_addNumber_39 (fun H locs hP hD hS => ?_)
  have hP : va_P (dC, dI) vwCl [(xt, .inr (5, [.ref b0, .int 6, .int 0])), (b0, .inl (cI, 100, .inl (upd (upd ft 4 (((Int32.toUInt32 p1 >>> (Int32.toUInt32 24 &&& Int32.toUInt32 31)).toInt32) &&& 255)) 5 (((Int32.toUInt32 p1 >>> (Int32.toUInt32 16 &&& Int32.toUInt32 31)).toInt32) &&& 255))))] H := hP
  have hD : va_D A [(xt, .inr (5, [.ref b0, .int 6, .int 0])), (b0, .inl (cI, 100, .inl (upd (upd ft 4 (((Int32.toUInt32 p1 >>> (Int32.toUInt32 24 &&& Int32.toUInt32 31)).toInt32) &&& 255)) 5 (((Int32.toUInt32 p1 >>> (Int32.toUInt32 16 &&& Int32.toUInt32 31)).toInt32) &&& 255))))] := hD
  refine lv_iinc (v := 8) (lv' := [(2, .int 8), (0, .ref xt), (1, .int p1)]) hx hb dX5_addNumber_42 hl (k := 0) rfl (by decide) (by decide) rfl (fun ls hl => ?_)
  refine lv_goto (tgt := 3) hx hb dX5_addNumber_45 (by decide) ?_
  refine lv_iload_n hx hb dX5_addNumber_3 rfl (lv_at hl 0 rfl) ?_
  refine lv_if_lt (tgt := 48) hx hb dX5_addNumber_4 (by decide) (fun c => absurd c (by decide)) (fun _ => ?_)
  refine lv_aload_n hx hb dX5_addNumber_7 rfl (lv_at hl 1 rfl) ?_
  refine va_get (D := (dC, dI)) (ci := 5) (v := .int 6) (C := RX5) (T := TX5) (N := 3) hx hb hts hinX5 hown hK hP 0 rfl rfl 1 (by decide) k_0 (fun _ h9 => h9) rfl dX5_addNumber_8 ?_
  refine lv_bipush (v := 100) hx hb dX5_addNumber_11 (by decide) ?_
  refine lv_icmp_ge (tgt := 48) hx hb dX5_addNumber_13 (by decide) (fun c => absurd c (by decide)) (fun _ => ?_)
  refine lv_aload_n hx hb dX5_addNumber_16 rfl (lv_at hl 1 rfl) ?_
  refine va_get (D := (dC, dI)) (ci := 5) (v := .ref b0) (C := RX5) (T := TX5) (N := 3) hx hb hts hinX5 hown hK hP 0 rfl rfl 0 (by decide) k_1 (fun _ h9 => h9) rfl dX5_addNumber_17 ?_
  refine lv_aload_n hx hb dX5_addNumber_20 rfl (lv_at hl 1 rfl) ?_
  refine va_get (D := (dC, dI)) (ci := 5) (v := .int 6) (C := RX5) (T := TX5) (N := 3) hx hb hts hinX5 hown hK hP 0 rfl rfl 1 (by decide) k_0 (fun _ h9 => h9) rfl dX5_addNumber_21 ?_
  refine lv_iload_n hx hb dX5_addNumber_24 rfl (lv_at hl 2 rfl) ?_
  refine lv_iload_n hx hb dX5_addNumber_25 rfl (lv_at hl 0 rfl) ?_
  refine lv_iushr (v := ((Int32.toUInt32 p1 >>> (Int32.toUInt32 8 &&& Int32.toUInt32 31)).toInt32)) hx hb dX5_addNumber_26 rfl ?_
  refine lv_sipush (v := 255) hx hb dX5_addNumber_27 (by decide) ?_
  refine lv_iand hx hb dX5_addNumber_30 ?_
  refine za_iast (f' := (upd (upd (upd ft 4 (((Int32.toUInt32 p1 >>> (Int32.toUInt32 24 &&& Int32.toUInt32 31)).toInt32) &&& 255)) 5 (((Int32.toUInt32 p1 >>> (Int32.toUInt32 16 &&& Int32.toUInt32 31)).toInt32) &&& 255)) 6 (((Int32.toUInt32 p1 >>> (Int32.toUInt32 8 &&& Int32.toUInt32 31)).toInt32) &&& 255))) hx hb hK hP hD hS 1 0 rfl rfl (zin tn_6 (Nat.le_of_ble_eq_true rfl)) (congrArg (fun z => upd _ z _) tn_6.1) dX5_addNumber_31 (fun H locs hP hD hS => ?_)
  have hP : va_P (dC, dI) vwCl [(xt, .inr (5, [.ref b0, .int 6, .int 0])), (b0, .inl (cI, 100, .inl (upd (upd (upd ft 4 (((Int32.toUInt32 p1 >>> (Int32.toUInt32 24 &&& Int32.toUInt32 31)).toInt32) &&& 255)) 5 (((Int32.toUInt32 p1 >>> (Int32.toUInt32 16 &&& Int32.toUInt32 31)).toInt32) &&& 255)) 6 (((Int32.toUInt32 p1 >>> (Int32.toUInt32 8 &&& Int32.toUInt32 31)).toInt32) &&& 255))))] H := hP
  have hD : va_D A [(xt, .inr (5, [.ref b0, .int 6, .int 0])), (b0, .inl (cI, 100, .inl (upd (upd (upd ft 4 (((Int32.toUInt32 p1 >>> (Int32.toUInt32 24 &&& Int32.toUInt32 31)).toInt32) &&& 255)) 5 (((Int32.toUInt32 p1 >>> (Int32.toUInt32 16 &&& Int32.toUInt32 31)).toInt32) &&& 255)) 6 (((Int32.toUInt32 p1 >>> (Int32.toUInt32 8 &&& Int32.toUInt32 31)).toInt32) &&& 255))))] := hD
  refine lv_aload_n hx hb dX5_addNumber_32 rfl (lv_at hl 1 rfl) ?_
  refine lv_dup hx hb dX5_addNumber_33 rfl ?_
  refine va_get (D := (dC, dI)) (ci := 5) (v := .int 6) (C := RX5) (T := TX5) (N := 3) hx hb hts hinX5 hown hK hP 0 rfl rfl 1 (by decide) k_0 (fun _ h9 => h9) rfl dX5_addNumber_34 ?_
  refine lv_iconst (v := 1) hx hb dX5_addNumber_37 (by decide) ?_
  refine lv_iadd hx hb dX5_addNumber_38 ?_
  refine tp (y := 7) (by decide) ?_
  refine va_put (D := (dC, dI)) (ci := 5) (v := .int 7) (ty := tyX5 1) (C := RX5) (T := TX5) (N := 3) hx hb hts hinX5 tyX5 tyX5_ok nmX5 hown hK hP hD hS 0 rfl rfl 1 (by decide) k_0 (fun _ h9 => h9) rfl (by decide +kernel) rfl rfl (Nat.le_of_ble_eq_true rfl) dX5_addNumber_39 (fun H locs hP hD hS => ?_)
  have hP : va_P (dC, dI) vwCl [(xt, .inr (5, [.ref b0, .int 7, .int 0])), (b0, .inl (cI, 100, .inl (upd (upd (upd ft 4 (((Int32.toUInt32 p1 >>> (Int32.toUInt32 24 &&& Int32.toUInt32 31)).toInt32) &&& 255)) 5 (((Int32.toUInt32 p1 >>> (Int32.toUInt32 16 &&& Int32.toUInt32 31)).toInt32) &&& 255)) 6 (((Int32.toUInt32 p1 >>> (Int32.toUInt32 8 &&& Int32.toUInt32 31)).toInt32) &&& 255))))] H := hP
  have hD : va_D A [(xt, .inr (5, [.ref b0, .int 7, .int 0])), (b0, .inl (cI, 100, .inl (upd (upd (upd ft 4 (((Int32.toUInt32 p1 >>> (Int32.toUInt32 24 &&& Int32.toUInt32 31)).toInt32) &&& 255)) 5 (((Int32.toUInt32 p1 >>> (Int32.toUInt32 16 &&& Int32.toUInt32 31)).toInt32) &&& 255)) 6 (((Int32.toUInt32 p1 >>> (Int32.toUInt32 8 &&& Int32.toUInt32 31)).toInt32) &&& 255))))] := hD
  refine lv_iinc (v := 0) (lv' := [(2, .int 0), (0, .ref xt), (1, .int p1)]) hx hb dX5_addNumber_42 hl (k := 0) rfl (by decide) (by decide) rfl (fun ls hl => ?_)
  refine lv_goto (tgt := 3) hx hb dX5_addNumber_45 (by decide) ?_
  refine lv_iload_n hx hb dX5_addNumber_3 rfl (lv_at hl 0 rfl) ?_
  refine lv_if_lt (tgt := 48) hx hb dX5_addNumber_4 (by decide) (fun c => absurd c (by decide)) (fun _ => ?_)
  refine lv_aload_n hx hb dX5_addNumber_7 rfl (lv_at hl 1 rfl) ?_
  refine va_get (D := (dC, dI)) (ci := 5) (v := .int 7) (C := RX5) (T := TX5) (N := 3) hx hb hts hinX5 hown hK hP 0 rfl rfl 1 (by decide) k_0 (fun _ h9 => h9) rfl dX5_addNumber_8 ?_
  refine lv_bipush (v := 100) hx hb dX5_addNumber_11 (by decide) ?_
  refine lv_icmp_ge (tgt := 48) hx hb dX5_addNumber_13 (by decide) (fun c => absurd c (by decide)) (fun _ => ?_)
  refine lv_aload_n hx hb dX5_addNumber_16 rfl (lv_at hl 1 rfl) ?_
  refine va_get (D := (dC, dI)) (ci := 5) (v := .ref b0) (C := RX5) (T := TX5) (N := 3) hx hb hts hinX5 hown hK hP 0 rfl rfl 0 (by decide) k_1 (fun _ h9 => h9) rfl dX5_addNumber_17 ?_
  refine lv_aload_n hx hb dX5_addNumber_20 rfl (lv_at hl 1 rfl) ?_
  refine va_get (D := (dC, dI)) (ci := 5) (v := .int 7) (C := RX5) (T := TX5) (N := 3) hx hb hts hinX5 hown hK hP 0 rfl rfl 1 (by decide) k_0 (fun _ h9 => h9) rfl dX5_addNumber_21 ?_
  refine lv_iload_n hx hb dX5_addNumber_24 rfl (lv_at hl 2 rfl) ?_
  refine lv_iload_n hx hb dX5_addNumber_25 rfl (lv_at hl 0 rfl) ?_
  refine lv_iushr (v := ((Int32.toUInt32 p1 >>> (Int32.toUInt32 0 &&& Int32.toUInt32 31)).toInt32)) hx hb dX5_addNumber_26 rfl ?_
  refine lv_sipush (v := 255) hx hb dX5_addNumber_27 (by decide) ?_
  refine lv_iand hx hb dX5_addNumber_30 ?_
  refine za_iast (f' := (upd (upd (upd (upd ft 4 (((Int32.toUInt32 p1 >>> (Int32.toUInt32 24 &&& Int32.toUInt32 31)).toInt32) &&& 255)) 5 (((Int32.toUInt32 p1 >>> (Int32.toUInt32 16 &&& Int32.toUInt32 31)).toInt32) &&& 255)) 6 (((Int32.toUInt32 p1 >>> (Int32.toUInt32 8 &&& Int32.toUInt32 31)).toInt32) &&& 255)) 7 (((Int32.toUInt32 p1 >>> (Int32.toUInt32 0 &&& Int32.toUInt32 31)).toInt32) &&& 255))) hx hb hK hP hD hS 1 0 rfl rfl (zin tn_7 (Nat.le_of_ble_eq_true rfl)) (congrArg (fun z => upd _ z _) tn_7.1) dX5_addNumber_31 (fun H locs hP hD hS => ?_)
  have hP : va_P (dC, dI) vwCl [(xt, .inr (5, [.ref b0, .int 7, .int 0])), (b0, .inl (cI, 100, .inl (upd (upd (upd (upd ft 4 (((Int32.toUInt32 p1 >>> (Int32.toUInt32 24 &&& Int32.toUInt32 31)).toInt32) &&& 255)) 5 (((Int32.toUInt32 p1 >>> (Int32.toUInt32 16 &&& Int32.toUInt32 31)).toInt32) &&& 255)) 6 (((Int32.toUInt32 p1 >>> (Int32.toUInt32 8 &&& Int32.toUInt32 31)).toInt32) &&& 255)) 7 (((Int32.toUInt32 p1 >>> (Int32.toUInt32 0 &&& Int32.toUInt32 31)).toInt32) &&& 255))))] H := hP
  have hD : va_D A [(xt, .inr (5, [.ref b0, .int 7, .int 0])), (b0, .inl (cI, 100, .inl (upd (upd (upd (upd ft 4 (((Int32.toUInt32 p1 >>> (Int32.toUInt32 24 &&& Int32.toUInt32 31)).toInt32) &&& 255)) 5 (((Int32.toUInt32 p1 >>> (Int32.toUInt32 16 &&& Int32.toUInt32 31)).toInt32) &&& 255)) 6 (((Int32.toUInt32 p1 >>> (Int32.toUInt32 8 &&& Int32.toUInt32 31)).toInt32) &&& 255)) 7 (((Int32.toUInt32 p1 >>> (Int32.toUInt32 0 &&& Int32.toUInt32 31)).toInt32) &&& 255))))] := hD
  refine lv_aload_n hx hb dX5_addNumber_32 rfl (lv_at hl 1 rfl) ?_
  refine lv_dup hx hb dX5_addNumber_33 rfl ?_
  refine va_get (D := (dC, dI)) (ci := 5) (v := .int 7) (C := RX5) (T := TX5) (N := 3) hx hb hts hinX5 hown hK hP 0 rfl rfl 1 (by decide) k_0 (fun _ h9 => h9) rfl dX5_addNumber_34 ?_
  refine lv_iconst (v := 1) hx hb dX5_addNumber_37 (by decide) ?_
  refine lv_iadd hx hb dX5_addNumber_38 ?_
  refine tp (y := 8) (by decide) ?_
  refine va_put (D := (dC, dI)) (ci := 5) (v := .int 8) (ty := tyX5 1) (C := RX5) (T := TX5) (N := 3) hx hb hts hinX5 tyX5 tyX5_ok nmX5 hown hK hP hD hS 0 rfl rfl 1 (by decide) k_0 (fun _ h9 => h9) rfl (by decide +kernel) rfl rfl (Nat.le_of_ble_eq_true rfl) dX5_addNumber_39 (fun H locs hP hD hS => ?_)
  have hP : va_P (dC, dI) vwCl [(xt, .inr (5, [.ref b0, .int 8, .int 0])), (b0, .inl (cI, 100, .inl (upd (upd (upd (upd ft 4 (((Int32.toUInt32 p1 >>> (Int32.toUInt32 24 &&& Int32.toUInt32 31)).toInt32) &&& 255)) 5 (((Int32.toUInt32 p1 >>> (Int32.toUInt32 16 &&& Int32.toUInt32 31)).toInt32) &&& 255)) 6 (((Int32.toUInt32 p1 >>> (Int32.toUInt32 8 &&& Int32.toUInt32 31)).toInt32) &&& 255)) 7 (((Int32.toUInt32 p1 >>> (Int32.toUInt32 0 &&& Int32.toUInt32 31)).toInt32) &&& 255))))] H := hP
  have hD : va_D A [(xt, .inr (5, [.ref b0, .int 8, .int 0])), (b0, .inl (cI, 100, .inl (upd (upd (upd (upd ft 4 (((Int32.toUInt32 p1 >>> (Int32.toUInt32 24 &&& Int32.toUInt32 31)).toInt32) &&& 255)) 5 (((Int32.toUInt32 p1 >>> (Int32.toUInt32 16 &&& Int32.toUInt32 31)).toInt32) &&& 255)) 6 (((Int32.toUInt32 p1 >>> (Int32.toUInt32 8 &&& Int32.toUInt32 31)).toInt32) &&& 255)) 7 (((Int32.toUInt32 p1 >>> (Int32.toUInt32 0 &&& Int32.toUInt32 31)).toInt32) &&& 255))))] := hD
  refine lv_iinc (v := (-8)) (lv' := [(2, .int (-8)), (0, .ref xt), (1, .int p1)]) hx hb dX5_addNumber_42 hl (k := 0) rfl (by decide) (by decide) rfl (fun ls hl => ?_)
  refine lv_goto (tgt := 3) hx hb dX5_addNumber_45 (by decide) ?_
  refine lv_iload_n hx hb dX5_addNumber_3 rfl (lv_at hl 0 rfl) ?_
  refine lv_if_lt (tgt := 48) hx hb dX5_addNumber_4 (by decide) (fun _ => ?_) (fun c => absurd (by decide) c)
  have hP9 := hP.sub (ws' := [(xt, .inr (5, [.ref b0, .int 8, .int 0])), (b0, .inl (cI, 100, .inl (upd (upd (upd (upd ft 4 (((Int32.toUInt32 p1 >>> (Int32.toUInt32 24 &&& Int32.toUInt32 31)).toInt32) &&& 255)) 5 (((Int32.toUInt32 p1 >>> (Int32.toUInt32 16 &&& Int32.toUInt32 31)).toInt32) &&& 255)) 6 (((Int32.toUInt32 p1 >>> (Int32.toUInt32 8 &&& Int32.toUInt32 31)).toInt32) &&& 255)) 7 (((Int32.toUInt32 p1 >>> (Int32.toUInt32 0 &&& Int32.toUInt32 31)).toInt32) &&& 255))))]) [0, 1] rfl
  have hD9 := hD.sub (ws' := [(xt, .inr (5, [.ref b0, .int 8, .int 0])), (b0, .inl (cI, 100, .inl (upd (upd (upd (upd ft 4 (((Int32.toUInt32 p1 >>> (Int32.toUInt32 24 &&& Int32.toUInt32 31)).toInt32) &&& 255)) 5 (((Int32.toUInt32 p1 >>> (Int32.toUInt32 16 &&& Int32.toUInt32 31)).toInt32) &&& 255)) 6 (((Int32.toUInt32 p1 >>> (Int32.toUInt32 8 &&& Int32.toUInt32 31)).toInt32) &&& 255)) 7 (((Int32.toUInt32 p1 >>> (Int32.toUInt32 0 &&& Int32.toUInt32 31)).toInt32) &&& 255))))]) [0, 1] (by decide) rfl
  exact W.vret hx hb hr (fun t ht hW => ⟨⟨(), rfl, trivial, by rw [ht]; exact hP9, va_K.moved hW.alike hK, hD9⟩, hS.F ht⟩) hS.2.2 dX5_addNumber_48

set_option maxHeartbeats 4000000 in
set_option maxRecDepth 100000 in
theorem kkX5_addNumber_8 (l : Launch) (dC : Nat → ClassId) (dI : Nat → Nat → Nat) (cI cB cZ cR : ClassId) (sz : Nat) (xt : Nat) (b0 : Nat) (ft : Nat → Int32) (p1 : Int32) : Met l yX5_addNumber (.code yX5_addNumber cX5_addNumber 3 none :: wsL_law) ({ frames := 0, cells := 0, slots := 0, locals := 0 }) (zPc dC dI (zT cI cB cZ cR) [.ref xt, .int p1] sz [(xt, .inr (5, [.ref b0, .int 8, .int 0])), (b0, .inl (cI, 100, .inl ft))]) (va_Qv (fun _ : Unit => True) (fun _ : Unit => zB dC dI (zT cI cB cZ cR) (va_A [(xt, .inr (5, [.ref b0, .int 8, .int 0])), (b0, .inl (cI, 100, .inl ft))] sz) [(xt, .inr (5, [.ref b0, .int 12, .int 0])), (b0, .inl (cI, 100, .inl (upd (upd (upd (upd ft 8 (((Int32.toUInt32 p1 >>> (Int32.toUInt32 24 &&& Int32.toUInt32 31)).toInt32) &&& 255)) 9 (((Int32.toUInt32 p1 >>> (Int32.toUInt32 16 &&& Int32.toUInt32 31)).toInt32) &&& 255)) 10 (((Int32.toUInt32 p1 >>> (Int32.toUInt32 8 &&& Int32.toUInt32 31)).toInt32) &&& 255)) 11 (((Int32.toUInt32 p1 >>> (Int32.toUInt32 0 &&& Int32.toUInt32 31)).toInt32) &&& 255))))]) (va_A [(xt, .inr (5, [.ref b0, .int 8, .int 0])), (b0, .inl (cI, 100, .inl ft))] sz)) 0 0 (va_A [(xt, .inr (5, [.ref b0, .int 8, .int 0])), (b0, .inl (cI, 100, .inl ft))] sz) := by
  refine Met.ofW (cc := cX5_addNumber) (maxL := 3) (ret := none) (by decide) rfl ?_
  intro p e s m args below meth c s₁ B hml hv
  obtain ⟨rfl, hsz, hP, hK, hD0, hN⟩ := hv
  have hx := B.exec
  have hb := B.bytes
  have hr := B.returns
  have hts := atoms_spec (ws := (.code yX5_addNumber cX5_addNumber 3 none :: wsL_law)) B.pre
  have hown : s.vm.findClass RX5 = some m.cls := findClass_of_methodNamed B.named
  have hlocks := B.notSynchronized
  have hinX5 : ∀ w ∈ u_ws RX5 TX5 3, w ∈ (.code yX5_addNumber cX5_addNumber 3 none :: wsL_law) := fun w h => List.mem_cons_of_mem _ (inlX5 w h)
  have k_0 := hts (.fieldLink RX5 15 "RingMarks$Tape" "size" "I") (List.mem_cons_of_mem _ wm_48)
  have k_1 := hts (.fieldLink RX5 11 "RingMarks$Tape" "bytes" "[I") (List.mem_cons_of_mem _ wm_47)
  subst hsz
  have hD := hD0.self (sz := s.heap.size)
  generalize hAe : va_A [(xt, .inr (5, [.ref b0, .int 8, .int 0])), (b0, .inl (cI, 100, .inl ft))] s.heap.size = A at hD ⊢
  have hA : ∀ q : Nat, s.heap.size ≤ q → A q := fun q h => by rw [← hAe]; exact Or.inr h
  have hP : va_P (dC, dI) vwCl [(xt, .inr (5, [.ref b0, .int 8, .int 0])), (b0, .inl (cI, 100, .inl ft))] s.heap := hP
  have hl := lv_entry ([.ref xt, .int p1]) (n := 3) (Nat.le_of_ble_eq_true rfl)
  rw [lg_entry_eq]
  generalize (lg_sl ([.ref xt, .int p1]) ++ List.replicate (3 - (lg_sl ([.ref xt, .int p1])).length) Slot.unset).toArray = ls at hl ⊢
  have hl : lv_has ls 3 [(0, .ref xt), (1, .int p1)] := hl
  obtain ⟨H, hH⟩ : ∃ H, H = s.heap := ⟨_, rfl⟩
  rw [← hH] at hP ⊢
  have hS : va_S A s.heap H [] := by rw [hH]; exact va_S.rf
  refine lv_bipush (v := 24) hx hb dX5_addNumber_0 (by decide) ?_
  refine lv_istore_n (lv' := [(2, .int 24), (0, .ref xt), (1, .int p1)]) hx hb dX5_addNumber_2 rfl hl (by decide) rfl (fun ls hl => ?_)
  refine lv_iload_n hx hb dX5_addNumber_3 rfl (lv_at hl 0 rfl) ?_
  refine lv_if_lt (tgt := 48) hx hb dX5_addNumber_4 (by decide) (fun c => absurd c (by decide)) (fun _ => ?_)
  refine lv_aload_n hx hb dX5_addNumber_7 rfl (lv_at hl 1 rfl) ?_
  refine va_get (D := (dC, dI)) (ci := 5) (v := .int 8) (C := RX5) (T := TX5) (N := 3) hx hb hts hinX5 hown hK hP 0 rfl rfl 1 (by decide) k_0 (fun _ h9 => h9) rfl dX5_addNumber_8 ?_
  refine lv_bipush (v := 100) hx hb dX5_addNumber_11 (by decide) ?_
  refine lv_icmp_ge (tgt := 48) hx hb dX5_addNumber_13 (by decide) (fun c => absurd c (by decide)) (fun _ => ?_)
  refine lv_aload_n hx hb dX5_addNumber_16 rfl (lv_at hl 1 rfl) ?_
  refine va_get (D := (dC, dI)) (ci := 5) (v := .ref b0) (C := RX5) (T := TX5) (N := 3) hx hb hts hinX5 hown hK hP 0 rfl rfl 0 (by decide) k_1 (fun _ h9 => h9) rfl dX5_addNumber_17 ?_
  refine lv_aload_n hx hb dX5_addNumber_20 rfl (lv_at hl 1 rfl) ?_
  refine va_get (D := (dC, dI)) (ci := 5) (v := .int 8) (C := RX5) (T := TX5) (N := 3) hx hb hts hinX5 hown hK hP 0 rfl rfl 1 (by decide) k_0 (fun _ h9 => h9) rfl dX5_addNumber_21 ?_
  refine lv_iload_n hx hb dX5_addNumber_24 rfl (lv_at hl 2 rfl) ?_
  refine lv_iload_n hx hb dX5_addNumber_25 rfl (lv_at hl 0 rfl) ?_
  refine lv_iushr (v := ((Int32.toUInt32 p1 >>> (Int32.toUInt32 24 &&& Int32.toUInt32 31)).toInt32)) hx hb dX5_addNumber_26 rfl ?_
  refine lv_sipush (v := 255) hx hb dX5_addNumber_27 (by decide) ?_
  refine lv_iand hx hb dX5_addNumber_30 ?_
  refine za_iast (f' := (upd ft 8 (((Int32.toUInt32 p1 >>> (Int32.toUInt32 24 &&& Int32.toUInt32 31)).toInt32) &&& 255))) hx hb hK hP hD hS 1 0 rfl rfl (zin tn_8 (Nat.le_of_ble_eq_true rfl)) (congrArg (fun z => upd _ z _) tn_8.1) dX5_addNumber_31 (fun H locs hP hD hS => ?_)
  have hP : va_P (dC, dI) vwCl [(xt, .inr (5, [.ref b0, .int 8, .int 0])), (b0, .inl (cI, 100, .inl (upd ft 8 (((Int32.toUInt32 p1 >>> (Int32.toUInt32 24 &&& Int32.toUInt32 31)).toInt32) &&& 255))))] H := hP
  have hD : va_D A [(xt, .inr (5, [.ref b0, .int 8, .int 0])), (b0, .inl (cI, 100, .inl (upd ft 8 (((Int32.toUInt32 p1 >>> (Int32.toUInt32 24 &&& Int32.toUInt32 31)).toInt32) &&& 255))))] := hD
  refine lv_aload_n hx hb dX5_addNumber_32 rfl (lv_at hl 1 rfl) ?_
  refine lv_dup hx hb dX5_addNumber_33 rfl ?_
  refine va_get (D := (dC, dI)) (ci := 5) (v := .int 8) (C := RX5) (T := TX5) (N := 3) hx hb hts hinX5 hown hK hP 0 rfl rfl 1 (by decide) k_0 (fun _ h9 => h9) rfl dX5_addNumber_34 ?_
  refine lv_iconst (v := 1) hx hb dX5_addNumber_37 (by decide) ?_
  refine lv_iadd hx hb dX5_addNumber_38 ?_
  refine tp (y := 9) (by decide) ?_
  refine va_put (D := (dC, dI)) (ci := 5) (v := .int 9) (ty := tyX5 1) (C := RX5) (T := TX5) (N := 3) hx hb hts hinX5 tyX5 tyX5_ok nmX5 hown hK hP hD hS 0 rfl rfl 1 (by decide) k_0 (fun _ h9 => h9) rfl (by decide +kernel) rfl rfl (Nat.le_of_ble_eq_true rfl) dX5_addNumber_39 (fun H locs hP hD hS => ?_)
  have hP : va_P (dC, dI) vwCl [(xt, .inr (5, [.ref b0, .int 9, .int 0])), (b0, .inl (cI, 100, .inl (upd ft 8 (((Int32.toUInt32 p1 >>> (Int32.toUInt32 24 &&& Int32.toUInt32 31)).toInt32) &&& 255))))] H := hP
  have hD : va_D A [(xt, .inr (5, [.ref b0, .int 9, .int 0])), (b0, .inl (cI, 100, .inl (upd ft 8 (((Int32.toUInt32 p1 >>> (Int32.toUInt32 24 &&& Int32.toUInt32 31)).toInt32) &&& 255))))] := hD
  refine lv_iinc (v := 16) (lv' := [(2, .int 16), (0, .ref xt), (1, .int p1)]) hx hb dX5_addNumber_42 hl (k := 0) rfl (by decide) (by decide) rfl (fun ls hl => ?_)
  refine lv_goto (tgt := 3) hx hb dX5_addNumber_45 (by decide) ?_
  refine lv_iload_n hx hb dX5_addNumber_3 rfl (lv_at hl 0 rfl) ?_
  refine lv_if_lt (tgt := 48) hx hb dX5_addNumber_4 (by decide) (fun c => absurd c (by decide)) (fun _ => ?_)
  refine lv_aload_n hx hb dX5_addNumber_7 rfl (lv_at hl 1 rfl) ?_
  refine va_get (D := (dC, dI)) (ci := 5) (v := .int 9) (C := RX5) (T := TX5) (N := 3) hx hb hts hinX5 hown hK hP 0 rfl rfl 1 (by decide) k_0 (fun _ h9 => h9) rfl dX5_addNumber_8 ?_
  refine lv_bipush (v := 100) hx hb dX5_addNumber_11 (by decide) ?_
  refine lv_icmp_ge (tgt := 48) hx hb dX5_addNumber_13 (by decide) (fun c => absurd c (by decide)) (fun _ => ?_)
  refine lv_aload_n hx hb dX5_addNumber_16 rfl (lv_at hl 1 rfl) ?_
  refine va_get (D := (dC, dI)) (ci := 5) (v := .ref b0) (C := RX5) (T := TX5) (N := 3) hx hb hts hinX5 hown hK hP 0 rfl rfl 0 (by decide) k_1 (fun _ h9 => h9) rfl dX5_addNumber_17 ?_
  refine lv_aload_n hx hb dX5_addNumber_20 rfl (lv_at hl 1 rfl) ?_
  refine va_get (D := (dC, dI)) (ci := 5) (v := .int 9) (C := RX5) (T := TX5) (N := 3) hx hb hts hinX5 hown hK hP 0 rfl rfl 1 (by decide) k_0 (fun _ h9 => h9) rfl dX5_addNumber_21 ?_
  refine lv_iload_n hx hb dX5_addNumber_24 rfl (lv_at hl 2 rfl) ?_
  refine lv_iload_n hx hb dX5_addNumber_25 rfl (lv_at hl 0 rfl) ?_
  refine lv_iushr (v := ((Int32.toUInt32 p1 >>> (Int32.toUInt32 16 &&& Int32.toUInt32 31)).toInt32)) hx hb dX5_addNumber_26 rfl ?_
  refine lv_sipush (v := 255) hx hb dX5_addNumber_27 (by decide) ?_
  refine lv_iand hx hb dX5_addNumber_30 ?_
  refine za_iast (f' := (upd (upd ft 8 (((Int32.toUInt32 p1 >>> (Int32.toUInt32 24 &&& Int32.toUInt32 31)).toInt32) &&& 255)) 9 (((Int32.toUInt32 p1 >>> (Int32.toUInt32 16 &&& Int32.toUInt32 31)).toInt32) &&& 255))) hx hb hK hP hD hS 1 0 rfl rfl (zin tn_9 (Nat.le_of_ble_eq_true rfl)) (congrArg (fun z => upd _ z _) tn_9.1) dX5_addNumber_31 (fun H locs hP hD hS => ?_)
  have hP : va_P (dC, dI) vwCl [(xt, .inr (5, [.ref b0, .int 9, .int 0])), (b0, .inl (cI, 100, .inl (upd (upd ft 8 (((Int32.toUInt32 p1 >>> (Int32.toUInt32 24 &&& Int32.toUInt32 31)).toInt32) &&& 255)) 9 (((Int32.toUInt32 p1 >>> (Int32.toUInt32 16 &&& Int32.toUInt32 31)).toInt32) &&& 255))))] H := hP
  have hD : va_D A [(xt, .inr (5, [.ref b0, .int 9, .int 0])), (b0, .inl (cI, 100, .inl (upd (upd ft 8 (((Int32.toUInt32 p1 >>> (Int32.toUInt32 24 &&& Int32.toUInt32 31)).toInt32) &&& 255)) 9 (((Int32.toUInt32 p1 >>> (Int32.toUInt32 16 &&& Int32.toUInt32 31)).toInt32) &&& 255))))] := hD
  refine lv_aload_n hx hb dX5_addNumber_32 rfl (lv_at hl 1 rfl) ?_
  refine lv_dup hx hb dX5_addNumber_33 rfl ?_
  refine va_get (D := (dC, dI)) (ci := 5) (v := .int 9) (C := RX5) (T := TX5) (N := 3) hx hb hts hinX5 hown hK hP 0 rfl rfl 1 (by decide) k_0 (fun _ h9 => h9) rfl dX5_addNumber_34 ?_
  refine lv_iconst (v := 1) hx hb dX5_addNumber_37 (by decide) ?_
  refine lv_iadd hx hb dX5_addNumber_38 ?_
  refine tp (y := 10) (by decide) ?_
  refine va_put (D := (dC, dI)) (ci := 5) (v := .int 10) (ty := tyX5 1) (C := RX5) (T := TX5) (N := 3) hx hb hts hinX5 tyX5 tyX5_ok nmX5 hown hK hP hD hS 0 rfl rfl 1 (by decide) k_0 (fun _ h9 => h9) rfl (by decide +kernel) rfl rfl (Nat.le_of_ble_eq_true rfl) dX5_addNumber_39 (fun H locs hP hD hS => ?_)
  have hP : va_P (dC, dI) vwCl [(xt, .inr (5, [.ref b0, .int 10, .int 0])), (b0, .inl (cI, 100, .inl (upd (upd ft 8 (((Int32.toUInt32 p1 >>> (Int32.toUInt32 24 &&& Int32.toUInt32 31)).toInt32) &&& 255)) 9 (((Int32.toUInt32 p1 >>> (Int32.toUInt32 16 &&& Int32.toUInt32 31)).toInt32) &&& 255))))] H := hP
  have hD : va_D A [(xt, .inr (5, [.ref b0, .int 10, .int 0])), (b0, .inl (cI, 100, .inl (upd (upd ft 8 (((Int32.toUInt32 p1 >>> (Int32.toUInt32 24 &&& Int32.toUInt32 31)).toInt32) &&& 255)) 9 (((Int32.toUInt32 p1 >>> (Int32.toUInt32 16 &&& Int32.toUInt32 31)).toInt32) &&& 255))))] := hD
  refine lv_iinc (v := 8) (lv' := [(2, .int 8), (0, .ref xt), (1, .int p1)]) hx hb dX5_addNumber_42 hl (k := 0) rfl (by decide) (by decide) rfl (fun ls hl => ?_)
  refine lv_goto (tgt := 3) hx hb dX5_addNumber_45 (by decide) ?_
  refine lv_iload_n hx hb dX5_addNumber_3 rfl (lv_at hl 0 rfl) ?_
  refine lv_if_lt (tgt := 48) hx hb dX5_addNumber_4 (by decide) (fun c => absurd c (by decide)) (fun _ => ?_)
  refine lv_aload_n hx hb dX5_addNumber_7 rfl (lv_at hl 1 rfl) ?_
  refine va_get (D := (dC, dI)) (ci := 5) (v := .int 10) (C := RX5) (T := TX5) (N := 3) hx hb hts hinX5 hown hK hP 0 rfl rfl 1 (by decide) k_0 (fun _ h9 => h9) rfl dX5_addNumber_8 ?_
  refine lv_bipush (v := 100) hx hb dX5_addNumber_11 (by decide) ?_
  refine lv_icmp_ge (tgt := 48) hx hb dX5_addNumber_13 (by decide) (fun c => absurd c (by decide)) (fun _ => ?_)
  refine lv_aload_n hx hb dX5_addNumber_16 rfl (lv_at hl 1 rfl) ?_
  refine va_get (D := (dC, dI)) (ci := 5) (v := .ref b0) (C := RX5) (T := TX5) (N := 3) hx hb hts hinX5 hown hK hP 0 rfl rfl 0 (by decide) k_1 (fun _ h9 => h9) rfl dX5_addNumber_17 ?_
  refine lv_aload_n hx hb dX5_addNumber_20 rfl (lv_at hl 1 rfl) ?_
  refine va_get (D := (dC, dI)) (ci := 5) (v := .int 10) (C := RX5) (T := TX5) (N := 3) hx hb hts hinX5 hown hK hP 0 rfl rfl 1 (by decide) k_0 (fun _ h9 => h9) rfl dX5_addNumber_21 ?_
  refine lv_iload_n hx hb dX5_addNumber_24 rfl (lv_at hl 2 rfl) ?_
  refine lv_iload_n hx hb dX5_addNumber_25 rfl (lv_at hl 0 rfl) ?_
  refine lv_iushr (v := ((Int32.toUInt32 p1 >>> (Int32.toUInt32 8 &&& Int32.toUInt32 31)).toInt32)) hx hb dX5_addNumber_26 rfl ?_
  refine lv_sipush (v := 255) hx hb dX5_addNumber_27 (by decide) ?_
  refine lv_iand hx hb dX5_addNumber_30 ?_
  refine za_iast (f' := (upd (upd (upd ft 8 (((Int32.toUInt32 p1 >>> (Int32.toUInt32 24 &&& Int32.toUInt32 31)).toInt32) &&& 255)) 9 (((Int32.toUInt32 p1 >>> (Int32.toUInt32 16 &&& Int32.toUInt32 31)).toInt32) &&& 255)) 10 (((Int32.toUInt32 p1 >>> (Int32.toUInt32 8 &&& Int32.toUInt32 31)).toInt32) &&& 255))) hx hb hK hP hD hS 1 0 rfl rfl (zin tn_10 (Nat.le_of_ble_eq_true rfl)) (congrArg (fun z => upd _ z _) tn_10.1) dX5_addNumber_31 (fun H locs hP hD hS => ?_)
  have hP : va_P (dC, dI) vwCl [(xt, .inr (5, [.ref b0, .int 10, .int 0])), (b0, .inl (cI, 100, .inl (upd (upd (upd ft 8 (((Int32.toUInt32 p1 >>> (Int32.toUInt32 24 &&& Int32.toUInt32 31)).toInt32) &&& 255)) 9 (((Int32.toUInt32 p1 >>> (Int32.toUInt32 16 &&& Int32.toUInt32 31)).toInt32) &&& 255)) 10 (((Int32.toUInt32 p1 >>> (Int32.toUInt32 8 &&& Int32.toUInt32 31)).toInt32) &&& 255))))] H := hP
  have hD : va_D A [(xt, .inr (5, [.ref b0, .int 10, .int 0])), (b0, .inl (cI, 100, .inl (upd (upd (upd ft 8 (((Int32.toUInt32 p1 >>> (Int32.toUInt32 24 &&& Int32.toUInt32 31)).toInt32) &&& 255)) 9 (((Int32.toUInt32 p1 >>> (Int32.toUInt32 16 &&& Int32.toUInt32 31)).toInt32) &&& 255)) 10 (((Int32.toUInt32 p1 >>> (Int32.toUInt32 8 &&& Int32.toUInt32 31)).toInt32) &&& 255))))] := hD
  refine lv_aload_n hx hb dX5_addNumber_32 rfl (lv_at hl 1 rfl) ?_
  refine lv_dup hx hb dX5_addNumber_33 rfl ?_
  refine va_get (D := (dC, dI)) (ci := 5) (v := .int 10) (C := RX5) (T := TX5) (N := 3) hx hb hts hinX5 hown hK hP 0 rfl rfl 1 (by decide) k_0 (fun _ h9 => h9) rfl dX5_addNumber_34 ?_
  refine lv_iconst (v := 1) hx hb dX5_addNumber_37 (by decide) ?_
  refine lv_iadd hx hb dX5_addNumber_38 ?_
  refine tp (y := 11) (by decide) ?_
  refine va_put (D := (dC, dI)) (ci := 5) (v := .int 11) (ty := tyX5 1) (C := RX5) (T := TX5) (N := 3) hx hb hts hinX5 tyX5 tyX5_ok nmX5 hown hK hP hD hS 0 rfl rfl 1 (by decide) k_0 (fun _ h9 => h9) rfl (by decide +kernel) rfl rfl (Nat.le_of_ble_eq_true rfl) dX5_addNumber_39 (fun H locs hP hD hS => ?_)
  have hP : va_P (dC, dI) vwCl [(xt, .inr (5, [.ref b0, .int 11, .int 0])), (b0, .inl (cI, 100, .inl (upd (upd (upd ft 8 (((Int32.toUInt32 p1 >>> (Int32.toUInt32 24 &&& Int32.toUInt32 31)).toInt32) &&& 255)) 9 (((Int32.toUInt32 p1 >>> (Int32.toUInt32 16 &&& Int32.toUInt32 31)).toInt32) &&& 255)) 10 (((Int32.toUInt32 p1 >>> (Int32.toUInt32 8 &&& Int32.toUInt32 31)).toInt32) &&& 255))))] H := hP
  have hD : va_D A [(xt, .inr (5, [.ref b0, .int 11, .int 0])), (b0, .inl (cI, 100, .inl (upd (upd (upd ft 8 (((Int32.toUInt32 p1 >>> (Int32.toUInt32 24 &&& Int32.toUInt32 31)).toInt32) &&& 255)) 9 (((Int32.toUInt32 p1 >>> (Int32.toUInt32 16 &&& Int32.toUInt32 31)).toInt32) &&& 255)) 10 (((Int32.toUInt32 p1 >>> (Int32.toUInt32 8 &&& Int32.toUInt32 31)).toInt32) &&& 255))))] := hD
  refine lv_iinc (v := 0) (lv' := [(2, .int 0), (0, .ref xt), (1, .int p1)]) hx hb dX5_addNumber_42 hl (k := 0) rfl (by decide) (by decide) rfl (fun ls hl => ?_)
  refine lv_goto (tgt := 3) hx hb dX5_addNumber_45 (by decide) ?_
  refine lv_iload_n hx hb dX5_addNumber_3 rfl (lv_at hl 0 rfl) ?_
  refine lv_if_lt (tgt := 48) hx hb dX5_addNumber_4 (by decide) (fun c => absurd c (by decide)) (fun _ => ?_)
  refine lv_aload_n hx hb dX5_addNumber_7 rfl (lv_at hl 1 rfl) ?_
  refine va_get (D := (dC, dI)) (ci := 5) (v := .int 11) (C := RX5) (T := TX5) (N := 3) hx hb hts hinX5 hown hK hP 0 rfl rfl 1 (by decide) k_0 (fun _ h9 => h9) rfl dX5_addNumber_8 ?_
  refine lv_bipush (v := 100) hx hb dX5_addNumber_11 (by decide) ?_
  refine lv_icmp_ge (tgt := 48) hx hb dX5_addNumber_13 (by decide) (fun c => absurd c (by decide)) (fun _ => ?_)
  refine lv_aload_n hx hb dX5_addNumber_16 rfl (lv_at hl 1 rfl) ?_
  refine va_get (D := (dC, dI)) (ci := 5) (v := .ref b0) (C := RX5) (T := TX5) (N := 3) hx hb hts hinX5 hown hK hP 0 rfl rfl 0 (by decide) k_1 (fun _ h9 => h9) rfl dX5_addNumber_17 ?_
  refine lv_aload_n hx hb dX5_addNumber_20 rfl (lv_at hl 1 rfl) ?_
  refine va_get (D := (dC, dI)) (ci := 5) (v := .int 11) (C := RX5) (T := TX5) (N := 3) hx hb hts hinX5 hown hK hP 0 rfl rfl 1 (by decide) k_0 (fun _ h9 => h9) rfl dX5_addNumber_21 ?_
  refine lv_iload_n hx hb dX5_addNumber_24 rfl (lv_at hl 2 rfl) ?_
  refine lv_iload_n hx hb dX5_addNumber_25 rfl (lv_at hl 0 rfl) ?_
  refine lv_iushr (v := ((Int32.toUInt32 p1 >>> (Int32.toUInt32 0 &&& Int32.toUInt32 31)).toInt32)) hx hb dX5_addNumber_26 rfl ?_
  refine lv_sipush (v := 255) hx hb dX5_addNumber_27 (by decide) ?_
  refine lv_iand hx hb dX5_addNumber_30 ?_
  refine za_iast (f' := (upd (upd (upd (upd ft 8 (((Int32.toUInt32 p1 >>> (Int32.toUInt32 24 &&& Int32.toUInt32 31)).toInt32) &&& 255)) 9 (((Int32.toUInt32 p1 >>> (Int32.toUInt32 16 &&& Int32.toUInt32 31)).toInt32) &&& 255)) 10 (((Int32.toUInt32 p1 >>> (Int32.toUInt32 8 &&& Int32.toUInt32 31)).toInt32) &&& 255)) 11 (((Int32.toUInt32 p1 >>> (Int32.toUInt32 0 &&& Int32.toUInt32 31)).toInt32) &&& 255))) hx hb hK hP hD hS 1 0 rfl rfl (zin tn_11 (Nat.le_of_ble_eq_true rfl)) (congrArg (fun z => upd _ z _) tn_11.1) dX5_addNumber_31 (fun H locs hP hD hS => ?_)
  have hP : va_P (dC, dI) vwCl [(xt, .inr (5, [.ref b0, .int 11, .int 0])), (b0, .inl (cI, 100, .inl (upd (upd (upd (upd ft 8 (((Int32.toUInt32 p1 >>> (Int32.toUInt32 24 &&& Int32.toUInt32 31)).toInt32) &&& 255)) 9 (((Int32.toUInt32 p1 >>> (Int32.toUInt32 16 &&& Int32.toUInt32 31)).toInt32) &&& 255)) 10 (((Int32.toUInt32 p1 >>> (Int32.toUInt32 8 &&& Int32.toUInt32 31)).toInt32) &&& 255)) 11 (((Int32.toUInt32 p1 >>> (Int32.toUInt32 0 &&& Int32.toUInt32 31)).toInt32) &&& 255))))] H := hP
  have hD : va_D A [(xt, .inr (5, [.ref b0, .int 11, .int 0])), (b0, .inl (cI, 100, .inl (upd (upd (upd (upd ft 8 (((Int32.toUInt32 p1 >>> (Int32.toUInt32 24 &&& Int32.toUInt32 31)).toInt32) &&& 255)) 9 (((Int32.toUInt32 p1 >>> (Int32.toUInt32 16 &&& Int32.toUInt32 31)).toInt32) &&& 255)) 10 (((Int32.toUInt32 p1 >>> (Int32.toUInt32 8 &&& Int32.toUInt32 31)).toInt32) &&& 255)) 11 (((Int32.toUInt32 p1 >>> (Int32.toUInt32 0 &&& Int32.toUInt32 31)).toInt32) &&& 255))))] := hD
  refine lv_aload_n hx hb dX5_addNumber_32 rfl (lv_at hl 1 rfl) ?_
  refine lv_dup hx hb dX5_addNumber_33 rfl ?_
  refine va_get (D := (dC, dI)) (ci := 5) (v := .int 11) (C := RX5) (T := TX5) (N := 3) hx hb hts hinX5 hown hK hP 0 rfl rfl 1 (by decide) k_0 (fun _ h9 => h9) rfl dX5_addNumber_34 ?_
  refine lv_iconst (v := 1) hx hb dX5_addNumber_37 (by decide) ?_
  refine lv_iadd hx hb dX5_addNumber_38 ?_
  refine tp (y := 12) (by decide) ?_
  refine va_put (D := (dC, dI)) (ci := 5) (v := .int 12) (ty := tyX5 1) (C := RX5) (T := TX5) (N := 3) hx hb hts hinX5 tyX5 tyX5_ok nmX5 hown hK hP hD hS 0 rfl rfl 1 (by decide) k_0 (fun _ h9 => h9) rfl (by decide +kernel) rfl rfl (Nat.le_of_ble_eq_true rfl) dX5_addNumber_39 (fun H locs hP hD hS => ?_)
  have hP : va_P (dC, dI) vwCl [(xt, .inr (5, [.ref b0, .int 12, .int 0])), (b0, .inl (cI, 100, .inl (upd (upd (upd (upd ft 8 (((Int32.toUInt32 p1 >>> (Int32.toUInt32 24 &&& Int32.toUInt32 31)).toInt32) &&& 255)) 9 (((Int32.toUInt32 p1 >>> (Int32.toUInt32 16 &&& Int32.toUInt32 31)).toInt32) &&& 255)) 10 (((Int32.toUInt32 p1 >>> (Int32.toUInt32 8 &&& Int32.toUInt32 31)).toInt32) &&& 255)) 11 (((Int32.toUInt32 p1 >>> (Int32.toUInt32 0 &&& Int32.toUInt32 31)).toInt32) &&& 255))))] H := hP
  have hD : va_D A [(xt, .inr (5, [.ref b0, .int 12, .int 0])), (b0, .inl (cI, 100, .inl (upd (upd (upd (upd ft 8 (((Int32.toUInt32 p1 >>> (Int32.toUInt32 24 &&& Int32.toUInt32 31)).toInt32) &&& 255)) 9 (((Int32.toUInt32 p1 >>> (Int32.toUInt32 16 &&& Int32.toUInt32 31)).toInt32) &&& 255)) 10 (((Int32.toUInt32 p1 >>> (Int32.toUInt32 8 &&& Int32.toUInt32 31)).toInt32) &&& 255)) 11 (((Int32.toUInt32 p1 >>> (Int32.toUInt32 0 &&& Int32.toUInt32 31)).toInt32) &&& 255))))] := hD
  refine lv_iinc (v := (-8)) (lv' := [(2, .int (-8)), (0, .ref xt), (1, .int p1)]) hx hb dX5_addNumber_42 hl (k := 0) rfl (by decide) (by decide) rfl (fun ls hl => ?_)
  refine lv_goto (tgt := 3) hx hb dX5_addNumber_45 (by decide) ?_
  refine lv_iload_n hx hb dX5_addNumber_3 rfl (lv_at hl 0 rfl) ?_
  refine lv_if_lt (tgt := 48) hx hb dX5_addNumber_4 (by decide) (fun _ => ?_) (fun c => absurd (by decide) c)
  have hP9 := hP.sub (ws' := [(xt, .inr (5, [.ref b0, .int 12, .int 0])), (b0, .inl (cI, 100, .inl (upd (upd (upd (upd ft 8 (((Int32.toUInt32 p1 >>> (Int32.toUInt32 24 &&& Int32.toUInt32 31)).toInt32) &&& 255)) 9 (((Int32.toUInt32 p1 >>> (Int32.toUInt32 16 &&& Int32.toUInt32 31)).toInt32) &&& 255)) 10 (((Int32.toUInt32 p1 >>> (Int32.toUInt32 8 &&& Int32.toUInt32 31)).toInt32) &&& 255)) 11 (((Int32.toUInt32 p1 >>> (Int32.toUInt32 0 &&& Int32.toUInt32 31)).toInt32) &&& 255))))]) [0, 1] rfl
  have hD9 := hD.sub (ws' := [(xt, .inr (5, [.ref b0, .int 12, .int 0])), (b0, .inl (cI, 100, .inl (upd (upd (upd (upd ft 8 (((Int32.toUInt32 p1 >>> (Int32.toUInt32 24 &&& Int32.toUInt32 31)).toInt32) &&& 255)) 9 (((Int32.toUInt32 p1 >>> (Int32.toUInt32 16 &&& Int32.toUInt32 31)).toInt32) &&& 255)) 10 (((Int32.toUInt32 p1 >>> (Int32.toUInt32 8 &&& Int32.toUInt32 31)).toInt32) &&& 255)) 11 (((Int32.toUInt32 p1 >>> (Int32.toUInt32 0 &&& Int32.toUInt32 31)).toInt32) &&& 255))))]) [0, 1] (by decide) rfl
  exact W.vret hx hb hr (fun t ht hW => ⟨⟨(), rfl, trivial, by rw [ht]; exact hP9, va_K.moved hW.alike hK, hD9⟩, hS.F ht⟩) hS.2.2 dX5_addNumber_48

set_option maxHeartbeats 4000000 in
set_option maxRecDepth 100000 in
theorem kkX5_addNumber_12 (l : Launch) (dC : Nat → ClassId) (dI : Nat → Nat → Nat) (cI cB cZ cR : ClassId) (sz : Nat) (xt : Nat) (b0 : Nat) (ft : Nat → Int32) (p1 : Int32) : Met l yX5_addNumber (.code yX5_addNumber cX5_addNumber 3 none :: wsL_law) ({ frames := 0, cells := 0, slots := 0, locals := 0 }) (zPc dC dI (zT cI cB cZ cR) [.ref xt, .int p1] sz [(xt, .inr (5, [.ref b0, .int 12, .int 0])), (b0, .inl (cI, 100, .inl ft))]) (va_Qv (fun _ : Unit => True) (fun _ : Unit => zB dC dI (zT cI cB cZ cR) (va_A [(xt, .inr (5, [.ref b0, .int 12, .int 0])), (b0, .inl (cI, 100, .inl ft))] sz) [(xt, .inr (5, [.ref b0, .int 16, .int 0])), (b0, .inl (cI, 100, .inl (upd (upd (upd (upd ft 12 (((Int32.toUInt32 p1 >>> (Int32.toUInt32 24 &&& Int32.toUInt32 31)).toInt32) &&& 255)) 13 (((Int32.toUInt32 p1 >>> (Int32.toUInt32 16 &&& Int32.toUInt32 31)).toInt32) &&& 255)) 14 (((Int32.toUInt32 p1 >>> (Int32.toUInt32 8 &&& Int32.toUInt32 31)).toInt32) &&& 255)) 15 (((Int32.toUInt32 p1 >>> (Int32.toUInt32 0 &&& Int32.toUInt32 31)).toInt32) &&& 255))))]) (va_A [(xt, .inr (5, [.ref b0, .int 12, .int 0])), (b0, .inl (cI, 100, .inl ft))] sz)) 0 0 (va_A [(xt, .inr (5, [.ref b0, .int 12, .int 0])), (b0, .inl (cI, 100, .inl ft))] sz) := by
  refine Met.ofW (cc := cX5_addNumber) (maxL := 3) (ret := none) (by decide) rfl ?_
  intro p e s m args below meth c s₁ B hml hv
  obtain ⟨rfl, hsz, hP, hK, hD0, hN⟩ := hv
  have hx := B.exec
  have hb := B.bytes
  have hr := B.returns
  have hts := atoms_spec (ws := (.code yX5_addNumber cX5_addNumber 3 none :: wsL_law)) B.pre
  have hown : s.vm.findClass RX5 = some m.cls := findClass_of_methodNamed B.named
  have hlocks := B.notSynchronized
  have hinX5 : ∀ w ∈ u_ws RX5 TX5 3, w ∈ (.code yX5_addNumber cX5_addNumber 3 none :: wsL_law) := fun w h => List.mem_cons_of_mem _ (inlX5 w h)
  have k_0 := hts (.fieldLink RX5 15 "RingMarks$Tape" "size" "I") (List.mem_cons_of_mem _ wm_48)
  have k_1 := hts (.fieldLink RX5 11 "RingMarks$Tape" "bytes" "[I") (List.mem_cons_of_mem _ wm_47)
  subst hsz
  have hD := hD0.self (sz := s.heap.size)
  generalize hAe : va_A [(xt, .inr (5, [.ref b0, .int 12, .int 0])), (b0, .inl (cI, 100, .inl ft))] s.heap.size = A at hD ⊢
  have hA : ∀ q : Nat, s.heap.size ≤ q → A q := fun q h => by rw [← hAe]; exact Or.inr h
  have hP : va_P (dC, dI) vwCl [(xt, .inr (5, [.ref b0, .int 12, .int 0])), (b0, .inl (cI, 100, .inl ft))] s.heap := hP
  have hl := lv_entry ([.ref xt, .int p1]) (n := 3) (Nat.le_of_ble_eq_true rfl)
  rw [lg_entry_eq]
  generalize (lg_sl ([.ref xt, .int p1]) ++ List.replicate (3 - (lg_sl ([.ref xt, .int p1])).length) Slot.unset).toArray = ls at hl ⊢
  have hl : lv_has ls 3 [(0, .ref xt), (1, .int p1)] := hl
  obtain ⟨H, hH⟩ : ∃ H, H = s.heap := ⟨_, rfl⟩
  rw [← hH] at hP ⊢
  have hS : va_S A s.heap H [] := by rw [hH]; exact va_S.rf
  refine lv_bipush (v := 24) hx hb dX5_addNumber_0 (by decide) ?_
  refine lv_istore_n (lv' := [(2, .int 24), (0, .ref xt), (1, .int p1)]) hx hb dX5_addNumber_2 rfl hl (by decide) rfl (fun ls hl => ?_)
  refine lv_iload_n hx hb dX5_addNumber_3 rfl (lv_at hl 0 rfl) ?_
  refine lv_if_lt (tgt := 48) hx hb dX5_addNumber_4 (by decide) (fun c => absurd c (by decide)) (fun _ => ?_)
  refine lv_aload_n hx hb dX5_addNumber_7 rfl (lv_at hl 1 rfl) ?_
  refine va_get (D := (dC, dI)) (ci := 5) (v := .int 12) (C := RX5) (T := TX5) (N := 3) hx hb hts hinX5 hown hK hP 0 rfl rfl 1 (by decide) k_0 (fun _ h9 => h9) rfl dX5_addNumber_8 ?_
  refine lv_bipush (v := 100) hx hb dX5_addNumber_11 (by decide) ?_
  refine lv_icmp_ge (tgt := 48) hx hb dX5_addNumber_13 (by decide) (fun c => absurd c (by decide)) (fun _ => ?_)
  refine lv_aload_n hx hb dX5_addNumber_16 rfl (lv_at hl 1 rfl) ?_
  refine va_get (D := (dC, dI)) (ci := 5) (v := .ref b0) (C := RX5) (T := TX5) (N := 3) hx hb hts hinX5 hown hK hP 0 rfl rfl 0 (by decide) k_1 (fun _ h9 => h9) rfl dX5_addNumber_17 ?_
  refine lv_aload_n hx hb dX5_addNumber_20 rfl (lv_at hl 1 rfl) ?_
  refine va_get (D := (dC, dI)) (ci := 5) (v := .int 12) (C := RX5) (T := TX5) (N := 3) hx hb hts hinX5 hown hK hP 0 rfl rfl 1 (by decide) k_0 (fun _ h9 => h9) rfl dX5_addNumber_21 ?_
  refine lv_iload_n hx hb dX5_addNumber_24 rfl (lv_at hl 2 rfl) ?_
  refine lv_iload_n hx hb dX5_addNumber_25 rfl (lv_at hl 0 rfl) ?_
  refine lv_iushr (v := ((Int32.toUInt32 p1 >>> (Int32.toUInt32 24 &&& Int32.toUInt32 31)).toInt32)) hx hb dX5_addNumber_26 rfl ?_
  refine lv_sipush (v := 255) hx hb dX5_addNumber_27 (by decide) ?_
  refine lv_iand hx hb dX5_addNumber_30 ?_
  refine za_iast (f' := (upd ft 12 (((Int32.toUInt32 p1 >>> (Int32.toUInt32 24 &&& Int32.toUInt32 31)).toInt32) &&& 255))) hx hb hK hP hD hS 1 0 rfl rfl (zin tn_12 (Nat.le_of_ble_eq_true rfl)) (congrArg (fun z => upd _ z _) tn_12.1) dX5_addNumber_31 (fun H locs hP hD hS => ?_)
  have hP : va_P (dC, dI) vwCl [(xt, .inr (5, [.ref b0, .int 12, .int 0])), (b0, .inl (cI, 100, .inl (upd ft 12 (((Int32.toUInt32 p1 >>> (Int32.toUInt32 24 &&& Int32.toUInt32 31)).toInt32) &&& 255))))] H := hP
  have hD : va_D A [(xt, .inr (5, [.ref b0, .int 12, .int 0])), (b0, .inl (cI, 100, .inl (upd ft 12 (((Int32.toUInt32 p1 >>> (Int32.toUInt32 24 &&& Int32.toUInt32 31)).toInt32) &&& 255))))] := hD
  refine lv_aload_n hx hb dX5_addNumber_32 rfl (lv_at hl 1 rfl) ?_
  refine lv_dup hx hb dX5_addNumber_33 rfl ?_
  refine va_get (D := (dC, dI)) (ci := 5) (v := .int 12) (C := RX5) (T := TX5) (N := 3) hx hb hts hinX5 hown hK hP 0 rfl rfl 1 (by decide) k_0 (fun _ h9 => h9) rfl dX5_addNumber_34 ?_
  refine lv_iconst (v := 1) hx hb dX5_addNumber_37 (by decide) ?_
  refine lv_iadd hx hb dX5_addNumber_38 ?_
  refine tp (y := 13) (by decide) ?_
  refine va_put (D := (dC, dI)) (ci := 5) (v := .int 13) (ty := tyX5 1) (C := RX5) (T := TX5) (N := 3) hx hb hts hinX5 tyX5 tyX5_ok nmX5 hown hK hP hD hS 0 rfl rfl 1 (by decide) k_0 (fun _ h9 => h9) rfl (by decide +kernel) rfl rfl (Nat.le_of_ble_eq_true rfl) dX5_addNumber_39 (fun H locs hP hD hS => ?_)
  have hP : va_P (dC, dI) vwCl [(xt, .inr (5, [.ref b0, .int 13, .int 0])), (b0, .inl (cI, 100, .inl (upd ft 12 (((Int32.toUInt32 p1 >>> (Int32.toUInt32 24 &&& Int32.toUInt32 31)).toInt32) &&& 255))))] H := hP
  have hD : va_D A [(xt, .inr (5, [.ref b0, .int 13, .int 0])), (b0, .inl (cI, 100, .inl (upd ft 12 (((Int32.toUInt32 p1 >>> (Int32.toUInt32 24 &&& Int32.toUInt32 31)).toInt32) &&& 255))))] := hD
  refine lv_iinc (v := 16) (lv' := [(2, .int 16), (0, .ref xt), (1, .int p1)]) hx hb dX5_addNumber_42 hl (k := 0) rfl (by decide) (by decide) rfl (fun ls hl => ?_)
  refine lv_goto (tgt := 3) hx hb dX5_addNumber_45 (by decide) ?_
  refine lv_iload_n hx hb dX5_addNumber_3 rfl (lv_at hl 0 rfl) ?_
  refine lv_if_lt (tgt := 48) hx hb dX5_addNumber_4 (by decide) (fun c => absurd c (by decide)) (fun _ => ?_)
  refine lv_aload_n hx hb dX5_addNumber_7 rfl (lv_at hl 1 rfl) ?_
  refine va_get (D := (dC, dI)) (ci := 5) (v := .int 13) (C := RX5) (T := TX5) (N := 3) hx hb hts hinX5 hown hK hP 0 rfl rfl 1 (by decide) k_0 (fun _ h9 => h9) rfl dX5_addNumber_8 ?_
  refine lv_bipush (v := 100) hx hb dX5_addNumber_11 (by decide) ?_
  refine lv_icmp_ge (tgt := 48) hx hb dX5_addNumber_13 (by decide) (fun c => absurd c (by decide)) (fun _ => ?_)
  refine lv_aload_n hx hb dX5_addNumber_16 rfl (lv_at hl 1 rfl) ?_
  refine va_get (D := (dC, dI)) (ci := 5) (v := .ref b0) (C := RX5) (T := TX5) (N := 3) hx hb hts hinX5 hown hK hP 0 rfl rfl 0 (by decide) k_1 (fun _ h9 => h9) rfl dX5_addNumber_17 ?_
  refine lv_aload_n hx hb dX5_addNumber_20 rfl (lv_at hl 1 rfl) ?_
  refine va_get (D := (dC, dI)) (ci := 5) (v := .int 13) (C := RX5) (T := TX5) (N := 3) hx hb hts hinX5 hown hK hP 0 rfl rfl 1 (by decide) k_0 (fun _ h9 => h9) rfl dX5_addNumber_21 ?_
  refine lv_iload_n hx hb dX5_addNumber_24 rfl (lv_at hl 2 rfl) ?_
  refine lv_iload_n hx hb dX5_addNumber_25 rfl (lv_at hl 0 rfl) ?_
  refine lv_iushr (v := ((Int32.toUInt32 p1 >>> (Int32.toUInt32 16 &&& Int32.toUInt32 31)).toInt32)) hx hb dX5_addNumber_26 rfl ?_
  refine lv_sipush (v := 255) hx hb dX5_addNumber_27 (by decide) ?_
  refine lv_iand hx hb dX5_addNumber_30 ?_
  refine za_iast (f' := (upd (upd ft 12 (((Int32.toUInt32 p1 >>> (Int32.toUInt32 24 &&& Int32.toUInt32 31)).toInt32) &&& 255)) 13 (((Int32.toUInt32 p1 >>> (Int32.toUInt32 16 &&& Int32.toUInt32 31)).toInt32) &&& 255))) hx hb hK hP hD hS 1 0 rfl rfl (zin tn_13 (Nat.le_of_ble_eq_true rfl)) (congrArg (fun z => upd _ z _) tn_13.1) dX5_addNumber_31 (fun H locs hP hD hS => ?_)
  have hP : va_P (dC, dI) vwCl [(xt, .inr (5, [.ref b0, .int 13, .int 0])), (b0, .inl (cI, 100, .inl (upd (upd ft 12 (((Int32.toUInt32 p1 >>> (Int32.toUInt32 24 &&& Int32.toUInt32 31)).toInt32) &&& 255)) 13 (((Int32.toUInt32 p1 >>> (Int32.toUInt32 16 &&& Int32.toUInt32 31)).toInt32) &&& 255))))] H := hP
  have hD : va_D A [(xt, .inr (5, [.ref b0, .int 13, .int 0])), (b0, .inl (cI, 100, .inl (upd (upd ft 12 (((Int32.toUInt32 p1 >>> (Int32.toUInt32 24 &&& Int32.toUInt32 31)).toInt32) &&& 255)) 13 (((Int32.toUInt32 p1 >>> (Int32.toUInt32 16 &&& Int32.toUInt32 31)).toInt32) &&& 255))))] := hD
  refine lv_aload_n hx hb dX5_addNumber_32 rfl (lv_at hl 1 rfl) ?_
  refine lv_dup hx hb dX5_addNumber_33 rfl ?_
  refine va_get (D := (dC, dI)) (ci := 5) (v := .int 13) (C := RX5) (T := TX5) (N := 3) hx hb hts hinX5 hown hK hP 0 rfl rfl 1 (by decide) k_0 (fun _ h9 => h9) rfl dX5_addNumber_34 ?_
  refine lv_iconst (v := 1) hx hb dX5_addNumber_37 (by decide) ?_
  refine lv_iadd hx hb dX5_addNumber_38 ?_
  refine tp (y := 14) (by decide) ?_
  refine va_put (D := (dC, dI)) (ci := 5) (v := .int 14) (ty := tyX5 1) (C := RX5) (T := TX5) (N := 3) hx hb hts hinX5 tyX5 tyX5_ok nmX5 hown hK hP hD hS 0 rfl rfl 1 (by decide) k_0 (fun _ h9 => h9) rfl (by decide +kernel) rfl rfl (Nat.le_of_ble_eq_true rfl) dX5_addNumber_39 (fun H locs hP hD hS => ?_)
  have hP : va_P (dC, dI) vwCl [(xt, .inr (5, [.ref b0, .int 14, .int 0])), (b0, .inl (cI, 100, .inl (upd (upd ft 12 (((Int32.toUInt32 p1 >>> (Int32.toUInt32 24 &&& Int32.toUInt32 31)).toInt32) &&& 255)) 13 (((Int32.toUInt32 p1 >>> (Int32.toUInt32 16 &&& Int32.toUInt32 31)).toInt32) &&& 255))))] H := hP
  have hD : va_D A [(xt, .inr (5, [.ref b0, .int 14, .int 0])), (b0, .inl (cI, 100, .inl (upd (upd ft 12 (((Int32.toUInt32 p1 >>> (Int32.toUInt32 24 &&& Int32.toUInt32 31)).toInt32) &&& 255)) 13 (((Int32.toUInt32 p1 >>> (Int32.toUInt32 16 &&& Int32.toUInt32 31)).toInt32) &&& 255))))] := hD
  refine lv_iinc (v := 8) (lv' := [(2, .int 8), (0, .ref xt), (1, .int p1)]) hx hb dX5_addNumber_42 hl (k := 0) rfl (by decide) (by decide) rfl (fun ls hl => ?_)
  refine lv_goto (tgt := 3) hx hb dX5_addNumber_45 (by decide) ?_
  refine lv_iload_n hx hb dX5_addNumber_3 rfl (lv_at hl 0 rfl) ?_
  refine lv_if_lt (tgt := 48) hx hb dX5_addNumber_4 (by decide) (fun c => absurd c (by decide)) (fun _ => ?_)
  refine lv_aload_n hx hb dX5_addNumber_7 rfl (lv_at hl 1 rfl) ?_
  refine va_get (D := (dC, dI)) (ci := 5) (v := .int 14) (C := RX5) (T := TX5) (N := 3) hx hb hts hinX5 hown hK hP 0 rfl rfl 1 (by decide) k_0 (fun _ h9 => h9) rfl dX5_addNumber_8 ?_
  refine lv_bipush (v := 100) hx hb dX5_addNumber_11 (by decide) ?_
  refine lv_icmp_ge (tgt := 48) hx hb dX5_addNumber_13 (by decide) (fun c => absurd c (by decide)) (fun _ => ?_)
  refine lv_aload_n hx hb dX5_addNumber_16 rfl (lv_at hl 1 rfl) ?_
  refine va_get (D := (dC, dI)) (ci := 5) (v := .ref b0) (C := RX5) (T := TX5) (N := 3) hx hb hts hinX5 hown hK hP 0 rfl rfl 0 (by decide) k_1 (fun _ h9 => h9) rfl dX5_addNumber_17 ?_
  refine lv_aload_n hx hb dX5_addNumber_20 rfl (lv_at hl 1 rfl) ?_
  refine va_get (D := (dC, dI)) (ci := 5) (v := .int 14) (C := RX5) (T := TX5) (N := 3) hx hb hts hinX5 hown hK hP 0 rfl rfl 1 (by decide) k_0 (fun _ h9 => h9) rfl dX5_addNumber_21 ?_
  refine lv_iload_n hx hb dX5_addNumber_24 rfl (lv_at hl 2 rfl) ?_
  refine lv_iload_n hx hb dX5_addNumber_25 rfl (lv_at hl 0 rfl) ?_
  refine lv_iushr (v := ((Int32.toUInt32 p1 >>> (Int32.toUInt32 8 &&& Int32.toUInt32 31)).toInt32)) hx hb dX5_addNumber_26 rfl ?_
  refine lv_sipush (v := 255) hx hb dX5_addNumber_27 (by decide) ?_
  refine lv_iand hx hb dX5_addNumber_30 ?_
  refine za_iast (f' := (upd (upd (upd ft 12 (((Int32.toUInt32 p1 >>> (Int32.toUInt32 24 &&& Int32.toUInt32 31)).toInt32) &&& 255)) 13 (((Int32.toUInt32 p1 >>> (Int32.toUInt32 16 &&& Int32.toUInt32 31)).toInt32) &&& 255)) 14 (((Int32.toUInt32 p1 >>> (Int32.toUInt32 8 &&& Int32.toUInt32 31)).toInt32) &&& 255))) hx hb hK hP hD hS 1 0 rfl rfl (zin tn_14 (Nat.le_of_ble_eq_true rfl)) (congrArg (fun z => upd _ z _) tn_14.1) dX5_addNumber_31 (fun H locs hP hD hS => ?_)
  have hP : va_P (dC, dI) vwCl [(xt, .inr (5, [.ref b0, .int 14, .int 0])), (b0, .inl (cI, 100, .inl (upd (upd (upd ft 12 (((Int32.toUInt32 p1 >>> (Int32.toUInt32 24 &&& Int32.toUInt32 31)).toInt32) &&& 255)) 13 (((Int32.toUInt32 p1 >>> (Int32.toUInt32 16 &&& Int32.toUInt32 31)).toInt32) &&& 255)) 14 (((Int32.toUInt32 p1 >>> (Int32.toUInt32 8 &&& Int32.toUInt32 31)).toInt32) &&& 255))))] H := hP
  have hD : va_D A [(xt, .inr (5, [.ref b0, .int 14, .int 0])), (b0, .inl (cI, 100, .inl (upd (upd (upd ft 12 (((Int32.toUInt32 p1 >>> (Int32.toUInt32 24 &&& Int32.toUInt32 31)).toInt32) &&& 255)) 13 (((Int32.toUInt32 p1 >>> (Int32.toUInt32 16 &&& Int32.toUInt32 31)).toInt32) &&& 255)) 14 (((Int32.toUInt32 p1 >>> (Int32.toUInt32 8 &&& Int32.toUInt32 31)).toInt32) &&& 255))))] := hD
  refine lv_aload_n hx hb dX5_addNumber_32 rfl (lv_at hl 1 rfl) ?_
  refine lv_dup hx hb dX5_addNumber_33 rfl ?_
  refine va_get (D := (dC, dI)) (ci := 5) (v := .int 14) (C := RX5) (T := TX5) (N := 3) hx hb hts hinX5 hown hK hP 0 rfl rfl 1 (by decide) k_0 (fun _ h9 => h9) rfl dX5_addNumber_34 ?_
  refine lv_iconst (v := 1) hx hb dX5_addNumber_37 (by decide) ?_
  refine lv_iadd hx hb dX5_addNumber_38 ?_
  refine tp (y := 15) (by decide) ?_
  refine va_put (D := (dC, dI)) (ci := 5) (v := .int 15) (ty := tyX5 1) (C := RX5) (T := TX5) (N := 3) hx hb hts hinX5 tyX5 tyX5_ok nmX5 hown hK hP hD hS 0 rfl rfl 1 (by decide) k_0 (fun _ h9 => h9) rfl (by decide +kernel) rfl rfl (Nat.le_of_ble_eq_true rfl) dX5_addNumber_39 (fun H locs hP hD hS => ?_)
  have hP : va_P (dC, dI) vwCl [(xt, .inr (5, [.ref b0, .int 15, .int 0])), (b0, .inl (cI, 100, .inl (upd (upd (upd ft 12 (((Int32.toUInt32 p1 >>> (Int32.toUInt32 24 &&& Int32.toUInt32 31)).toInt32) &&& 255)) 13 (((Int32.toUInt32 p1 >>> (Int32.toUInt32 16 &&& Int32.toUInt32 31)).toInt32) &&& 255)) 14 (((Int32.toUInt32 p1 >>> (Int32.toUInt32 8 &&& Int32.toUInt32 31)).toInt32) &&& 255))))] H := hP
  have hD : va_D A [(xt, .inr (5, [.ref b0, .int 15, .int 0])), (b0, .inl (cI, 100, .inl (upd (upd (upd ft 12 (((Int32.toUInt32 p1 >>> (Int32.toUInt32 24 &&& Int32.toUInt32 31)).toInt32) &&& 255)) 13 (((Int32.toUInt32 p1 >>> (Int32.toUInt32 16 &&& Int32.toUInt32 31)).toInt32) &&& 255)) 14 (((Int32.toUInt32 p1 >>> (Int32.toUInt32 8 &&& Int32.toUInt32 31)).toInt32) &&& 255))))] := hD
  refine lv_iinc (v := 0) (lv' := [(2, .int 0), (0, .ref xt), (1, .int p1)]) hx hb dX5_addNumber_42 hl (k := 0) rfl (by decide) (by decide) rfl (fun ls hl => ?_)
  refine lv_goto (tgt := 3) hx hb dX5_addNumber_45 (by decide) ?_
  refine lv_iload_n hx hb dX5_addNumber_3 rfl (lv_at hl 0 rfl) ?_
  refine lv_if_lt (tgt := 48) hx hb dX5_addNumber_4 (by decide) (fun c => absurd c (by decide)) (fun _ => ?_)
  refine lv_aload_n hx hb dX5_addNumber_7 rfl (lv_at hl 1 rfl) ?_
  refine va_get (D := (dC, dI)) (ci := 5) (v := .int 15) (C := RX5) (T := TX5) (N := 3) hx hb hts hinX5 hown hK hP 0 rfl rfl 1 (by decide) k_0 (fun _ h9 => h9) rfl dX5_addNumber_8 ?_
  refine lv_bipush (v := 100) hx hb dX5_addNumber_11 (by decide) ?_
  refine lv_icmp_ge (tgt := 48) hx hb dX5_addNumber_13 (by decide) (fun c => absurd c (by decide)) (fun _ => ?_)
  refine lv_aload_n hx hb dX5_addNumber_16 rfl (lv_at hl 1 rfl) ?_
  refine va_get (D := (dC, dI)) (ci := 5) (v := .ref b0) (C := RX5) (T := TX5) (N := 3) hx hb hts hinX5 hown hK hP 0 rfl rfl 0 (by decide) k_1 (fun _ h9 => h9) rfl dX5_addNumber_17 ?_
  refine lv_aload_n hx hb dX5_addNumber_20 rfl (lv_at hl 1 rfl) ?_
  refine va_get (D := (dC, dI)) (ci := 5) (v := .int 15) (C := RX5) (T := TX5) (N := 3) hx hb hts hinX5 hown hK hP 0 rfl rfl 1 (by decide) k_0 (fun _ h9 => h9) rfl dX5_addNumber_21 ?_
  refine lv_iload_n hx hb dX5_addNumber_24 rfl (lv_at hl 2 rfl) ?_
  refine lv_iload_n hx hb dX5_addNumber_25 rfl (lv_at hl 0 rfl) ?_
  refine lv_iushr (v := ((Int32.toUInt32 p1 >>> (Int32.toUInt32 0 &&& Int32.toUInt32 31)).toInt32)) hx hb dX5_addNumber_26 rfl ?_
  refine lv_sipush (v := 255) hx hb dX5_addNumber_27 (by decide) ?_
  refine lv_iand hx hb dX5_addNumber_30 ?_
  refine za_iast (f' := (upd (upd (upd (upd ft 12 (((Int32.toUInt32 p1 >>> (Int32.toUInt32 24 &&& Int32.toUInt32 31)).toInt32) &&& 255)) 13 (((Int32.toUInt32 p1 >>> (Int32.toUInt32 16 &&& Int32.toUInt32 31)).toInt32) &&& 255)) 14 (((Int32.toUInt32 p1 >>> (Int32.toUInt32 8 &&& Int32.toUInt32 31)).toInt32) &&& 255)) 15 (((Int32.toUInt32 p1 >>> (Int32.toUInt32 0 &&& Int32.toUInt32 31)).toInt32) &&& 255))) hx hb hK hP hD hS 1 0 rfl rfl (zin tn_15 (Nat.le_of_ble_eq_true rfl)) (congrArg (fun z => upd _ z _) tn_15.1) dX5_addNumber_31 (fun H locs hP hD hS => ?_)
  have hP : va_P (dC, dI) vwCl [(xt, .inr (5, [.ref b0, .int 15, .int 0])), (b0, .inl (cI, 100, .inl (upd (upd (upd (upd ft 12 (((Int32.toUInt32 p1 >>> (Int32.toUInt32 24 &&& Int32.toUInt32 31)).toInt32) &&& 255)) 13 (((Int32.toUInt32 p1 >>> (Int32.toUInt32 16 &&& Int32.toUInt32 31)).toInt32) &&& 255)) 14 (((Int32.toUInt32 p1 >>> (Int32.toUInt32 8 &&& Int32.toUInt32 31)).toInt32) &&& 255)) 15 (((Int32.toUInt32 p1 >>> (Int32.toUInt32 0 &&& Int32.toUInt32 31)).toInt32) &&& 255))))] H := hP
  have hD : va_D A [(xt, .inr (5, [.ref b0, .int 15, .int 0])), (b0, .inl (cI, 100, .inl (upd (upd (upd (upd ft 12 (((Int32.toUInt32 p1 >>> (Int32.toUInt32 24 &&& Int32.toUInt32 31)).toInt32) &&& 255)) 13 (((Int32.toUInt32 p1 >>> (Int32.toUInt32 16 &&& Int32.toUInt32 31)).toInt32) &&& 255)) 14 (((Int32.toUInt32 p1 >>> (Int32.toUInt32 8 &&& Int32.toUInt32 31)).toInt32) &&& 255)) 15 (((Int32.toUInt32 p1 >>> (Int32.toUInt32 0 &&& Int32.toUInt32 31)).toInt32) &&& 255))))] := hD
  refine lv_aload_n hx hb dX5_addNumber_32 rfl (lv_at hl 1 rfl) ?_
  refine lv_dup hx hb dX5_addNumber_33 rfl ?_
  refine va_get (D := (dC, dI)) (ci := 5) (v := .int 15) (C := RX5) (T := TX5) (N := 3) hx hb hts hinX5 hown hK hP 0 rfl rfl 1 (by decide) k_0 (fun _ h9 => h9) rfl dX5_addNumber_34 ?_
  refine lv_iconst (v := 1) hx hb dX5_addNumber_37 (by decide) ?_
  refine lv_iadd hx hb dX5_addNumber_38 ?_
  refine tp (y := 16) (by decide) ?_
  refine va_put (D := (dC, dI)) (ci := 5) (v := .int 16) (ty := tyX5 1) (C := RX5) (T := TX5) (N := 3) hx hb hts hinX5 tyX5 tyX5_ok nmX5 hown hK hP hD hS 0 rfl rfl 1 (by decide) k_0 (fun _ h9 => h9) rfl (by decide +kernel) rfl rfl (Nat.le_of_ble_eq_true rfl) dX5_addNumber_39 (fun H locs hP hD hS => ?_)
  have hP : va_P (dC, dI) vwCl [(xt, .inr (5, [.ref b0, .int 16, .int 0])), (b0, .inl (cI, 100, .inl (upd (upd (upd (upd ft 12 (((Int32.toUInt32 p1 >>> (Int32.toUInt32 24 &&& Int32.toUInt32 31)).toInt32) &&& 255)) 13 (((Int32.toUInt32 p1 >>> (Int32.toUInt32 16 &&& Int32.toUInt32 31)).toInt32) &&& 255)) 14 (((Int32.toUInt32 p1 >>> (Int32.toUInt32 8 &&& Int32.toUInt32 31)).toInt32) &&& 255)) 15 (((Int32.toUInt32 p1 >>> (Int32.toUInt32 0 &&& Int32.toUInt32 31)).toInt32) &&& 255))))] H := hP
  have hD : va_D A [(xt, .inr (5, [.ref b0, .int 16, .int 0])), (b0, .inl (cI, 100, .inl (upd (upd (upd (upd ft 12 (((Int32.toUInt32 p1 >>> (Int32.toUInt32 24 &&& Int32.toUInt32 31)).toInt32) &&& 255)) 13 (((Int32.toUInt32 p1 >>> (Int32.toUInt32 16 &&& Int32.toUInt32 31)).toInt32) &&& 255)) 14 (((Int32.toUInt32 p1 >>> (Int32.toUInt32 8 &&& Int32.toUInt32 31)).toInt32) &&& 255)) 15 (((Int32.toUInt32 p1 >>> (Int32.toUInt32 0 &&& Int32.toUInt32 31)).toInt32) &&& 255))))] := hD
  refine lv_iinc (v := (-8)) (lv' := [(2, .int (-8)), (0, .ref xt), (1, .int p1)]) hx hb dX5_addNumber_42 hl (k := 0) rfl (by decide) (by decide) rfl (fun ls hl => ?_)
  refine lv_goto (tgt := 3) hx hb dX5_addNumber_45 (by decide) ?_
  refine lv_iload_n hx hb dX5_addNumber_3 rfl (lv_at hl 0 rfl) ?_
  refine lv_if_lt (tgt := 48) hx hb dX5_addNumber_4 (by decide) (fun _ => ?_) (fun c => absurd (by decide) c)
  have hP9 := hP.sub (ws' := [(xt, .inr (5, [.ref b0, .int 16, .int 0])), (b0, .inl (cI, 100, .inl (upd (upd (upd (upd ft 12 (((Int32.toUInt32 p1 >>> (Int32.toUInt32 24 &&& Int32.toUInt32 31)).toInt32) &&& 255)) 13 (((Int32.toUInt32 p1 >>> (Int32.toUInt32 16 &&& Int32.toUInt32 31)).toInt32) &&& 255)) 14 (((Int32.toUInt32 p1 >>> (Int32.toUInt32 8 &&& Int32.toUInt32 31)).toInt32) &&& 255)) 15 (((Int32.toUInt32 p1 >>> (Int32.toUInt32 0 &&& Int32.toUInt32 31)).toInt32) &&& 255))))]) [0, 1] rfl
  have hD9 := hD.sub (ws' := [(xt, .inr (5, [.ref b0, .int 16, .int 0])), (b0, .inl (cI, 100, .inl (upd (upd (upd (upd ft 12 (((Int32.toUInt32 p1 >>> (Int32.toUInt32 24 &&& Int32.toUInt32 31)).toInt32) &&& 255)) 13 (((Int32.toUInt32 p1 >>> (Int32.toUInt32 16 &&& Int32.toUInt32 31)).toInt32) &&& 255)) 14 (((Int32.toUInt32 p1 >>> (Int32.toUInt32 8 &&& Int32.toUInt32 31)).toInt32) &&& 255)) 15 (((Int32.toUInt32 p1 >>> (Int32.toUInt32 0 &&& Int32.toUInt32 31)).toInt32) &&& 255))))]) [0, 1] (by decide) rfl
  exact W.vret hx hb hr (fun t ht hW => ⟨⟨(), rfl, trivial, by rw [ht]; exact hP9, va_K.moved hW.alike hK, hD9⟩, hS.F ht⟩) hS.2.2 dX5_addNumber_48

set_option maxHeartbeats 4000000 in
set_option maxRecDepth 100000 in
theorem kkX5_addNumber_16 (l : Launch) (dC : Nat → ClassId) (dI : Nat → Nat → Nat) (cI cB cZ cR : ClassId) (sz : Nat) (xt : Nat) (b0 : Nat) (ft : Nat → Int32) (p1 : Int32) : Met l yX5_addNumber (.code yX5_addNumber cX5_addNumber 3 none :: wsL_law) ({ frames := 0, cells := 0, slots := 0, locals := 0 }) (zPc dC dI (zT cI cB cZ cR) [.ref xt, .int p1] sz [(xt, .inr (5, [.ref b0, .int 16, .int 0])), (b0, .inl (cI, 100, .inl ft))]) (va_Qv (fun _ : Unit => True) (fun _ : Unit => zB dC dI (zT cI cB cZ cR) (va_A [(xt, .inr (5, [.ref b0, .int 16, .int 0])), (b0, .inl (cI, 100, .inl ft))] sz) [(xt, .inr (5, [.ref b0, .int 20, .int 0])), (b0, .inl (cI, 100, .inl (upd (upd (upd (upd ft 16 (((Int32.toUInt32 p1 >>> (Int32.toUInt32 24 &&& Int32.toUInt32 31)).toInt32) &&& 255)) 17 (((Int32.toUInt32 p1 >>> (Int32.toUInt32 16 &&& Int32.toUInt32 31)).toInt32) &&& 255)) 18 (((Int32.toUInt32 p1 >>> (Int32.toUInt32 8 &&& Int32.toUInt32 31)).toInt32) &&& 255)) 19 (((Int32.toUInt32 p1 >>> (Int32.toUInt32 0 &&& Int32.toUInt32 31)).toInt32) &&& 255))))]) (va_A [(xt, .inr (5, [.ref b0, .int 16, .int 0])), (b0, .inl (cI, 100, .inl ft))] sz)) 0 0 (va_A [(xt, .inr (5, [.ref b0, .int 16, .int 0])), (b0, .inl (cI, 100, .inl ft))] sz) := by
  refine Met.ofW (cc := cX5_addNumber) (maxL := 3) (ret := none) (by decide) rfl ?_
  intro p e s m args below meth c s₁ B hml hv
  obtain ⟨rfl, hsz, hP, hK, hD0, hN⟩ := hv
  have hx := B.exec
  have hb := B.bytes
  have hr := B.returns
  have hts := atoms_spec (ws := (.code yX5_addNumber cX5_addNumber 3 none :: wsL_law)) B.pre
  have hown : s.vm.findClass RX5 = some m.cls := findClass_of_methodNamed B.named
  have hlocks := B.notSynchronized
  have hinX5 : ∀ w ∈ u_ws RX5 TX5 3, w ∈ (.code yX5_addNumber cX5_addNumber 3 none :: wsL_law) := fun w h => List.mem_cons_of_mem _ (inlX5 w h)
  have k_0 := hts (.fieldLink RX5 15 "RingMarks$Tape" "size" "I") (List.mem_cons_of_mem _ wm_48)
  have k_1 := hts (.fieldLink RX5 11 "RingMarks$Tape" "bytes" "[I") (List.mem_cons_of_mem _ wm_47)
  subst hsz
  have hD := hD0.self (sz := s.heap.size)
  generalize hAe : va_A [(xt, .inr (5, [.ref b0, .int 16, .int 0])), (b0, .inl (cI, 100, .inl ft))] s.heap.size = A at hD ⊢
  have hA : ∀ q : Nat, s.heap.size ≤ q → A q := fun q h => by rw [← hAe]; exact Or.inr h
  have hP : va_P (dC, dI) vwCl [(xt, .inr (5, [.ref b0, .int 16, .int 0])), (b0, .inl (cI, 100, .inl ft))] s.heap := hP
  have hl := lv_entry ([.ref xt, .int p1]) (n := 3) (Nat.le_of_ble_eq_true rfl)
  rw [lg_entry_eq]
  generalize (lg_sl ([.ref xt, .int p1]) ++ List.replicate (3 - (lg_sl ([.ref xt, .int p1])).length) Slot.unset).toArray = ls at hl ⊢
  have hl : lv_has ls 3 [(0, .ref xt), (1, .int p1)] := hl
  obtain ⟨H, hH⟩ : ∃ H, H = s.heap := ⟨_, rfl⟩
  rw [← hH] at hP ⊢
  have hS : va_S A s.heap H [] := by rw [hH]; exact va_S.rf
  refine lv_bipush (v := 24) hx hb dX5_addNumber_0 (by decide) ?_
  refine lv_istore_n (lv' := [(2, .int 24), (0, .ref xt), (1, .int p1)]) hx hb dX5_addNumber_2 rfl hl (by decide) rfl (fun ls hl => ?_)
  refine lv_iload_n hx hb dX5_addNumber_3 rfl (lv_at hl 0 rfl) ?_
  refine lv_if_lt (tgt := 48) hx hb dX5_addNumber_4 (by decide) (fun c => absurd c (by decide)) (fun _ => ?_)
  refine lv_aload_n hx hb dX5_addNumber_7 rfl (lv_at hl 1 rfl) ?_
  refine va_get (D := (dC, dI)) (ci := 5) (v := .int 16) (C := RX5) (T := TX5) (N := 3) hx hb hts hinX5 hown hK hP 0 rfl rfl 1 (by decide) k_0 (fun _ h9 => h9) rfl dX5_addNumber_8 ?_
  refine lv_bipush (v := 100) hx hb dX5_addNumber_11 (by decide) ?_
  refine lv_icmp_ge (tgt := 48) hx hb dX5_addNumber_13 (by decide) (fun c => absurd c (by decide)) (fun _ => ?_)
  refine lv_aload_n hx hb dX5_addNumber_16 rfl (lv_at hl 1 rfl) ?_
  refine va_get (D := (dC, dI)) (ci := 5) (v := .ref b0) (C := RX5) (T := TX5) (N := 3) hx hb hts hinX5 hown hK hP 0 rfl rfl 0 (by decide) k_1 (fun _ h9 => h9) rfl dX5_addNumber_17 ?_
  refine lv_aload_n hx hb dX5_addNumber_20 rfl (lv_at hl 1 rfl) ?_
  refine va_get (D := (dC, dI)) (ci := 5) (v := .int 16) (C := RX5) (T := TX5) (N := 3) hx hb hts hinX5 hown hK hP 0 rfl rfl 1 (by decide) k_0 (fun _ h9 => h9) rfl dX5_addNumber_21 ?_
  refine lv_iload_n hx hb dX5_addNumber_24 rfl (lv_at hl 2 rfl) ?_
  refine lv_iload_n hx hb dX5_addNumber_25 rfl (lv_at hl 0 rfl) ?_
  refine lv_iushr (v := ((Int32.toUInt32 p1 >>> (Int32.toUInt32 24 &&& Int32.toUInt32 31)).toInt32)) hx hb dX5_addNumber_26 rfl ?_
  refine lv_sipush (v := 255) hx hb dX5_addNumber_27 (by decide) ?_
  refine lv_iand hx hb dX5_addNumber_30 ?_
  refine za_iast (f' := (upd ft 16 (((Int32.toUInt32 p1 >>> (Int32.toUInt32 24 &&& Int32.toUInt32 31)).toInt32) &&& 255))) hx hb hK hP hD hS 1 0 rfl rfl (zin tn_16 (Nat.le_of_ble_eq_true rfl)) (congrArg (fun z => upd _ z _) tn_16.1) dX5_addNumber_31 (fun H locs hP hD hS => ?_)
  have hP : va_P (dC, dI) vwCl [(xt, .inr (5, [.ref b0, .int 16, .int 0])), (b0, .inl (cI, 100, .inl (upd ft 16 (((Int32.toUInt32 p1 >>> (Int32.toUInt32 24 &&& Int32.toUInt32 31)).toInt32) &&& 255))))] H := hP
  have hD : va_D A [(xt, .inr (5, [.ref b0, .int 16, .int 0])), (b0, .inl (cI, 100, .inl (upd ft 16 (((Int32.toUInt32 p1 >>> (Int32.toUInt32 24 &&& Int32.toUInt32 31)).toInt32) &&& 255))))] := hD
  refine lv_aload_n hx hb dX5_addNumber_32 rfl (lv_at hl 1 rfl) ?_
  refine lv_dup hx hb dX5_addNumber_33 rfl ?_
  refine va_get (D := (dC, dI)) (ci := 5) (v := .int 16) (C := RX5) (T := TX5) (N := 3) hx hb hts hinX5 hown hK hP 0 rfl rfl 1 (by decide) k_0 (fun _ h9 => h9) rfl dX5_addNumber_34 ?_
  refine lv_iconst (v := 1) hx hb dX5_addNumber_37 (by decide) ?_
  refine lv_iadd hx hb dX5_addNumber_38 ?_
  refine tp (y := 17) (by decide) ?_
  refine va_put (D := (dC, dI)) (ci := 5) (v := .int 17) (ty := tyX5 1) (C := RX5) (T := TX5) (N := 3) hx hb hts hinX5 tyX5 tyX5_ok nmX5 hown hK hP hD hS 0 rfl rfl 1 (by decide) k_0 (fun _ h9 => h9) rfl (by decide +kernel) rfl rfl (Nat.le_of_ble_eq_true rfl) dX5_addNumber_39 (fun H locs hP hD hS => ?_)
  have hP : va_P (dC, dI) vwCl [(xt, .inr (5, [.ref b0, .int 17, .int 0])), (b0, .inl (cI, 100, .inl (upd ft 16 (((Int32.toUInt32 p1 >>> (Int32.toUInt32 24 &&& Int32.toUInt32 31)).toInt32) &&& 255))))] H := hP
  have hD : va_D A [(xt, .inr (5, [.ref b0, .int 17, .int 0])), (b0, .inl (cI, 100, .inl (upd ft 16 (((Int32.toUInt32 p1 >>> (Int32.toUInt32 24 &&& Int32.toUInt32 31)).toInt32) &&& 255))))] := hD
  refine lv_iinc (v := 16) (lv' := [(2, .int 16), (0, .ref xt), (1, .int p1)]) hx hb dX5_addNumber_42 hl (k := 0) rfl (by decide) (by decide) rfl (fun ls hl => ?_)
  refine lv_goto (tgt := 3) hx hb dX5_addNumber_45 (by decide) ?_
  refine lv_iload_n hx hb dX5_addNumber_3 rfl (lv_at hl 0 rfl) ?_
  refine lv_if_lt (tgt := 48) hx hb dX5_addNumber_4 (by decide) (fun c => absurd c (by decide)) (fun _ => ?_)
  refine lv_aload_n hx hb dX5_addNumber_7 rfl (lv_at hl 1 rfl) ?_
  refine va_get (D := (dC, dI)) (ci := 5) (v := .int 17) (C := RX5) (T := TX5) (N := 3) hx hb hts hinX5 hown hK hP 0 rfl rfl 1 (by decide) k_0 (fun _ h9 => h9) rfl dX5_addNumber_8 ?_
  refine lv_bipush (v := 100) hx hb dX5_addNumber_11 (by decide) ?_
  refine lv_icmp_ge (tgt := 48) hx hb dX5_addNumber_13 (by decide) (fun c => absurd c (by decide)) (fun _ => ?_)
  refine lv_aload_n hx hb dX5_addNumber_16 rfl (lv_at hl 1 rfl) ?_
  refine va_get (D := (dC, dI)) (ci := 5) (v := .ref b0) (C := RX5) (T := TX5) (N := 3) hx hb hts hinX5 hown hK hP 0 rfl rfl 0 (by decide) k_1 (fun _ h9 => h9) rfl dX5_addNumber_17 ?_
  refine lv_aload_n hx hb dX5_addNumber_20 rfl (lv_at hl 1 rfl) ?_
  refine va_get (D := (dC, dI)) (ci := 5) (v := .int 17) (C := RX5) (T := TX5) (N := 3) hx hb hts hinX5 hown hK hP 0 rfl rfl 1 (by decide) k_0 (fun _ h9 => h9) rfl dX5_addNumber_21 ?_
  refine lv_iload_n hx hb dX5_addNumber_24 rfl (lv_at hl 2 rfl) ?_
  refine lv_iload_n hx hb dX5_addNumber_25 rfl (lv_at hl 0 rfl) ?_
  refine lv_iushr (v := ((Int32.toUInt32 p1 >>> (Int32.toUInt32 16 &&& Int32.toUInt32 31)).toInt32)) hx hb dX5_addNumber_26 rfl ?_
  refine lv_sipush (v := 255) hx hb dX5_addNumber_27 (by decide) ?_
  refine lv_iand hx hb dX5_addNumber_30 ?_
  refine za_iast (f' := (upd (upd ft 16 (((Int32.toUInt32 p1 >>> (Int32.toUInt32 24 &&& Int32.toUInt32 31)).toInt32) &&& 255)) 17 (((Int32.toUInt32 p1 >>> (Int32.toUInt32 16 &&& Int32.toUInt32 31)).toInt32) &&& 255))) hx hb hK hP hD hS 1 0 rfl rfl (zin tn_17 (Nat.le_of_ble_eq_true rfl)) (congrArg (fun z => upd _ z _) tn_17.1) dX5_addNumber_31 (fun H locs hP hD hS => ?_)
  have hP : va_P (dC, dI) vwCl [(xt, .inr (5, [.ref b0, .int 17, .int 0])), (b0, .inl (cI, 100, .inl (upd (upd ft 16 (((Int32.toUInt32 p1 >>> (Int32.toUInt32 24 &&& Int32.toUInt32 31)).toInt32) &&& 255)) 17 (((Int32.toUInt32 p1 >>> (Int32.toUInt32 16 &&& Int32.toUInt32 31)).toInt32) &&& 255))))] H := hP
  have hD : va_D A [(xt, .inr (5, [.ref b0, .int 17, .int 0])), (b0, .inl (cI, 100, .inl (upd (upd ft 16 (((Int32.toUInt32 p1 >>> (Int32.toUInt32 24 &&& Int32.toUInt32 31)).toInt32) &&& 255)) 17 (((Int32.toUInt32 p1 >>> (Int32.toUInt32 16 &&& Int32.toUInt32 31)).toInt32) &&& 255))))] := hD
  refine lv_aload_n hx hb dX5_addNumber_32 rfl (lv_at hl 1 rfl) ?_
  refine lv_dup hx hb dX5_addNumber_33 rfl ?_
  refine va_get (D := (dC, dI)) (ci := 5) (v := .int 17) (C := RX5) (T := TX5) (N := 3) hx hb hts hinX5 hown hK hP 0 rfl rfl 1 (by decide) k_0 (fun _ h9 => h9) rfl dX5_addNumber_34 ?_
  refine lv_iconst (v := 1) hx hb dX5_addNumber_37 (by decide) ?_
  refine lv_iadd hx hb dX5_addNumber_38 ?_
  refine tp (y := 18) (by decide) ?_
  refine va_put (D := (dC, dI)) (ci := 5) (v := .int 18) (ty := tyX5 1) (C := RX5) (T := TX5) (N := 3) hx hb hts hinX5 tyX5 tyX5_ok nmX5 hown hK hP hD hS 0 rfl rfl 1 (by decide) k_0 (fun _ h9 => h9) rfl (by decide +kernel) rfl rfl (Nat.le_of_ble_eq_true rfl) dX5_addNumber_39 (fun H locs hP hD hS => ?_)
  have hP : va_P (dC, dI) vwCl [(xt, .inr (5, [.ref b0, .int 18, .int 0])), (b0, .inl (cI, 100, .inl (upd (upd ft 16 (((Int32.toUInt32 p1 >>> (Int32.toUInt32 24 &&& Int32.toUInt32 31)).toInt32) &&& 255)) 17 (((Int32.toUInt32 p1 >>> (Int32.toUInt32 16 &&& Int32.toUInt32 31)).toInt32) &&& 255))))] H := hP
  have hD : va_D A [(xt, .inr (5, [.ref b0, .int 18, .int 0])), (b0, .inl (cI, 100, .inl (upd (upd ft 16 (((Int32.toUInt32 p1 >>> (Int32.toUInt32 24 &&& Int32.toUInt32 31)).toInt32) &&& 255)) 17 (((Int32.toUInt32 p1 >>> (Int32.toUInt32 16 &&& Int32.toUInt32 31)).toInt32) &&& 255))))] := hD
  refine lv_iinc (v := 8) (lv' := [(2, .int 8), (0, .ref xt), (1, .int p1)]) hx hb dX5_addNumber_42 hl (k := 0) rfl (by decide) (by decide) rfl (fun ls hl => ?_)
  refine lv_goto (tgt := 3) hx hb dX5_addNumber_45 (by decide) ?_
  refine lv_iload_n hx hb dX5_addNumber_3 rfl (lv_at hl 0 rfl) ?_
  refine lv_if_lt (tgt := 48) hx hb dX5_addNumber_4 (by decide) (fun c => absurd c (by decide)) (fun _ => ?_)
  refine lv_aload_n hx hb dX5_addNumber_7 rfl (lv_at hl 1 rfl) ?_
  refine va_get (D := (dC, dI)) (ci := 5) (v := .int 18) (C := RX5) (T := TX5) (N := 3) hx hb hts hinX5 hown hK hP 0 rfl rfl 1 (by decide) k_0 (fun _ h9 => h9) rfl dX5_addNumber_8 ?_
  refine lv_bipush (v := 100) hx hb dX5_addNumber_11 (by decide) ?_
  refine lv_icmp_ge (tgt := 48) hx hb dX5_addNumber_13 (by decide) (fun c => absurd c (by decide)) (fun _ => ?_)
  refine lv_aload_n hx hb dX5_addNumber_16 rfl (lv_at hl 1 rfl) ?_
  refine va_get (D := (dC, dI)) (ci := 5) (v := .ref b0) (C := RX5) (T := TX5) (N := 3) hx hb hts hinX5 hown hK hP 0 rfl rfl 0 (by decide) k_1 (fun _ h9 => h9) rfl dX5_addNumber_17 ?_
  refine lv_aload_n hx hb dX5_addNumber_20 rfl (lv_at hl 1 rfl) ?_
  refine va_get (D := (dC, dI)) (ci := 5) (v := .int 18) (C := RX5) (T := TX5) (N := 3) hx hb hts hinX5 hown hK hP 0 rfl rfl 1 (by decide) k_0 (fun _ h9 => h9) rfl dX5_addNumber_21 ?_
  refine lv_iload_n hx hb dX5_addNumber_24 rfl (lv_at hl 2 rfl) ?_
  refine lv_iload_n hx hb dX5_addNumber_25 rfl (lv_at hl 0 rfl) ?_
  refine lv_iushr (v := ((Int32.toUInt32 p1 >>> (Int32.toUInt32 8 &&& Int32.toUInt32 31)).toInt32)) hx hb dX5_addNumber_26 rfl ?_
  refine lv_sipush (v := 255) hx hb dX5_addNumber_27 (by decide) ?_
  refine lv_iand hx hb dX5_addNumber_30 ?_
  refine za_iast (f' := (upd (upd (upd ft 16 (((Int32.toUInt32 p1 >>> (Int32.toUInt32 24 &&& Int32.toUInt32 31)).toInt32) &&& 255)) 17 (((Int32.toUInt32 p1 >>> (Int32.toUInt32 16 &&& Int32.toUInt32 31)).toInt32) &&& 255)) 18 (((Int32.toUInt32 p1 >>> (Int32.toUInt32 8 &&& Int32.toUInt32 31)).toInt32) &&& 255))) hx hb hK hP hD hS 1 0 rfl rfl (zin tn_18 (Nat.le_of_ble_eq_true rfl)) (congrArg (fun z => upd _ z _) tn_18.1) dX5_addNumber_31 (fun H locs hP hD hS => ?_)
  have hP : va_P (dC, dI) vwCl [(xt, .inr (5, [.ref b0, .int 18, .int 0])), (b0, .inl (cI, 100, .inl (upd (upd (upd ft 16 (((Int32.toUInt32 p1 >>> (Int32.toUInt32 24 &&& Int32.toUInt32 31)).toInt32) &&& 255)) 17 (((Int32.toUInt32 p1 >>> (Int32.toUInt32 16 &&& Int32.toUInt32 31)).toInt32) &&& 255)) 18 (((Int32.toUInt32 p1 >>> (Int32.toUInt32 8 &&& Int32.toUInt32 31)).toInt32) &&& 255))))] H := hP
  have hD : va_D A [(xt, .inr (5, [.ref b0, .int 18, .int 0])), (b0, .inl (cI, 100, .inl (upd (upd (upd ft 16 (((Int32.toUInt32 p1 >>> (Int32.toUInt32 24 &&& Int32.toUInt32 31)).toInt32) &&& 255)) 17 (((Int32.toUInt32 p1 >>> (Int32.toUInt32 16 &&& Int32.toUInt32 31)).toInt32) &&& 255)) 18 (((Int32.toUInt32 p1 >>> (Int32.toUInt32 8 &&& Int32.toUInt32 31)).toInt32) &&& 255))))] := hD
  refine lv_aload_n hx hb dX5_addNumber_32 rfl (lv_at hl 1 rfl) ?_
  refine lv_dup hx hb dX5_addNumber_33 rfl ?_
  refine va_get (D := (dC, dI)) (ci := 5) (v := .int 18) (C := RX5) (T := TX5) (N := 3) hx hb hts hinX5 hown hK hP 0 rfl rfl 1 (by decide) k_0 (fun _ h9 => h9) rfl dX5_addNumber_34 ?_
  refine lv_iconst (v := 1) hx hb dX5_addNumber_37 (by decide) ?_
  refine lv_iadd hx hb dX5_addNumber_38 ?_
  refine tp (y := 19) (by decide) ?_
  refine va_put (D := (dC, dI)) (ci := 5) (v := .int 19) (ty := tyX5 1) (C := RX5) (T := TX5) (N := 3) hx hb hts hinX5 tyX5 tyX5_ok nmX5 hown hK hP hD hS 0 rfl rfl 1 (by decide) k_0 (fun _ h9 => h9) rfl (by decide +kernel) rfl rfl (Nat.le_of_ble_eq_true rfl) dX5_addNumber_39 (fun H locs hP hD hS => ?_)
  have hP : va_P (dC, dI) vwCl [(xt, .inr (5, [.ref b0, .int 19, .int 0])), (b0, .inl (cI, 100, .inl (upd (upd (upd ft 16 (((Int32.toUInt32 p1 >>> (Int32.toUInt32 24 &&& Int32.toUInt32 31)).toInt32) &&& 255)) 17 (((Int32.toUInt32 p1 >>> (Int32.toUInt32 16 &&& Int32.toUInt32 31)).toInt32) &&& 255)) 18 (((Int32.toUInt32 p1 >>> (Int32.toUInt32 8 &&& Int32.toUInt32 31)).toInt32) &&& 255))))] H := hP
  have hD : va_D A [(xt, .inr (5, [.ref b0, .int 19, .int 0])), (b0, .inl (cI, 100, .inl (upd (upd (upd ft 16 (((Int32.toUInt32 p1 >>> (Int32.toUInt32 24 &&& Int32.toUInt32 31)).toInt32) &&& 255)) 17 (((Int32.toUInt32 p1 >>> (Int32.toUInt32 16 &&& Int32.toUInt32 31)).toInt32) &&& 255)) 18 (((Int32.toUInt32 p1 >>> (Int32.toUInt32 8 &&& Int32.toUInt32 31)).toInt32) &&& 255))))] := hD
  refine lv_iinc (v := 0) (lv' := [(2, .int 0), (0, .ref xt), (1, .int p1)]) hx hb dX5_addNumber_42 hl (k := 0) rfl (by decide) (by decide) rfl (fun ls hl => ?_)
  refine lv_goto (tgt := 3) hx hb dX5_addNumber_45 (by decide) ?_
  refine lv_iload_n hx hb dX5_addNumber_3 rfl (lv_at hl 0 rfl) ?_
  refine lv_if_lt (tgt := 48) hx hb dX5_addNumber_4 (by decide) (fun c => absurd c (by decide)) (fun _ => ?_)
  refine lv_aload_n hx hb dX5_addNumber_7 rfl (lv_at hl 1 rfl) ?_
  refine va_get (D := (dC, dI)) (ci := 5) (v := .int 19) (C := RX5) (T := TX5) (N := 3) hx hb hts hinX5 hown hK hP 0 rfl rfl 1 (by decide) k_0 (fun _ h9 => h9) rfl dX5_addNumber_8 ?_
  refine lv_bipush (v := 100) hx hb dX5_addNumber_11 (by decide) ?_
  refine lv_icmp_ge (tgt := 48) hx hb dX5_addNumber_13 (by decide) (fun c => absurd c (by decide)) (fun _ => ?_)
  refine lv_aload_n hx hb dX5_addNumber_16 rfl (lv_at hl 1 rfl) ?_
  refine va_get (D := (dC, dI)) (ci := 5) (v := .ref b0) (C := RX5) (T := TX5) (N := 3) hx hb hts hinX5 hown hK hP 0 rfl rfl 0 (by decide) k_1 (fun _ h9 => h9) rfl dX5_addNumber_17 ?_
  refine lv_aload_n hx hb dX5_addNumber_20 rfl (lv_at hl 1 rfl) ?_
  refine va_get (D := (dC, dI)) (ci := 5) (v := .int 19) (C := RX5) (T := TX5) (N := 3) hx hb hts hinX5 hown hK hP 0 rfl rfl 1 (by decide) k_0 (fun _ h9 => h9) rfl dX5_addNumber_21 ?_
  refine lv_iload_n hx hb dX5_addNumber_24 rfl (lv_at hl 2 rfl) ?_
  refine lv_iload_n hx hb dX5_addNumber_25 rfl (lv_at hl 0 rfl) ?_
  refine lv_iushr (v := ((Int32.toUInt32 p1 >>> (Int32.toUInt32 0 &&& Int32.toUInt32 31)).toInt32)) hx hb dX5_addNumber_26 rfl ?_
  refine lv_sipush (v := 255) hx hb dX5_addNumber_27 (by decide) ?_
  refine lv_iand hx hb dX5_addNumber_30 ?_
  refine za_iast (f' := (upd (upd (upd (upd ft 16 (((Int32.toUInt32 p1 >>> (Int32.toUInt32 24 &&& Int32.toUInt32 31)).toInt32) &&& 255)) 17 (((Int32.toUInt32 p1 >>> (Int32.toUInt32 16 &&& Int32.toUInt32 31)).toInt32) &&& 255)) 18 (((Int32.toUInt32 p1 >>> (Int32.toUInt32 8 &&& Int32.toUInt32 31)).toInt32) &&& 255)) 19 (((Int32.toUInt32 p1 >>> (Int32.toUInt32 0 &&& Int32.toUInt32 31)).toInt32) &&& 255))) hx hb hK hP hD hS 1 0 rfl rfl (zin tn_19 (Nat.le_of_ble_eq_true rfl)) (congrArg (fun z => upd _ z _) tn_19.1) dX5_addNumber_31 (fun H locs hP hD hS => ?_)
  have hP : va_P (dC, dI) vwCl [(xt, .inr (5, [.ref b0, .int 19, .int 0])), (b0, .inl (cI, 100, .inl (upd (upd (upd (upd ft 16 (((Int32.toUInt32 p1 >>> (Int32.toUInt32 24 &&& Int32.toUInt32 31)).toInt32) &&& 255)) 17 (((Int32.toUInt32 p1 >>> (Int32.toUInt32 16 &&& Int32.toUInt32 31)).toInt32) &&& 255)) 18 (((Int32.toUInt32 p1 >>> (Int32.toUInt32 8 &&& Int32.toUInt32 31)).toInt32) &&& 255)) 19 (((Int32.toUInt32 p1 >>> (Int32.toUInt32 0 &&& Int32.toUInt32 31)).toInt32) &&& 255))))] H := hP
  have hD : va_D A [(xt, .inr (5, [.ref b0, .int 19, .int 0])), (b0, .inl (cI, 100, .inl (upd (upd (upd (upd ft 16 (((Int32.toUInt32 p1 >>> (Int32.toUInt32 24 &&& Int32.toUInt32 31)).toInt32) &&& 255)) 17 (((Int32.toUInt32 p1 >>> (Int32.toUInt32 16 &&& Int32.toUInt32 31)).toInt32) &&& 255)) 18 (((Int32.toUInt32 p1 >>> (Int32.toUInt32 8 &&& Int32.toUInt32 31)).toInt32) &&& 255)) 19 (((Int32.toUInt32 p1 >>> (Int32.toUInt32 0 &&& Int32.toUInt32 31)).toInt32) &&& 255))))] := hD
  refine lv_aload_n hx hb dX5_addNumber_32 rfl (lv_at hl 1 rfl) ?_
  refine lv_dup hx hb dX5_addNumber_33 rfl ?_
  refine va_get (D := (dC, dI)) (ci := 5) (v := .int 19) (C := RX5) (T := TX5) (N := 3) hx hb hts hinX5 hown hK hP 0 rfl rfl 1 (by decide) k_0 (fun _ h9 => h9) rfl dX5_addNumber_34 ?_
  refine lv_iconst (v := 1) hx hb dX5_addNumber_37 (by decide) ?_
  refine lv_iadd hx hb dX5_addNumber_38 ?_
  refine tp (y := 20) (by decide) ?_
  refine va_put (D := (dC, dI)) (ci := 5) (v := .int 20) (ty := tyX5 1) (C := RX5) (T := TX5) (N := 3) hx hb hts hinX5 tyX5 tyX5_ok nmX5 hown hK hP hD hS 0 rfl rfl 1 (by decide) k_0 (fun _ h9 => h9) rfl (by decide +kernel) rfl rfl (Nat.le_of_ble_eq_true rfl) dX5_addNumber_39 (fun H locs hP hD hS => ?_)
  have hP : va_P (dC, dI) vwCl [(xt, .inr (5, [.ref b0, .int 20, .int 0])), (b0, .inl (cI, 100, .inl (upd (upd (upd (upd ft 16 (((Int32.toUInt32 p1 >>> (Int32.toUInt32 24 &&& Int32.toUInt32 31)).toInt32) &&& 255)) 17 (((Int32.toUInt32 p1 >>> (Int32.toUInt32 16 &&& Int32.toUInt32 31)).toInt32) &&& 255)) 18 (((Int32.toUInt32 p1 >>> (Int32.toUInt32 8 &&& Int32.toUInt32 31)).toInt32) &&& 255)) 19 (((Int32.toUInt32 p1 >>> (Int32.toUInt32 0 &&& Int32.toUInt32 31)).toInt32) &&& 255))))] H := hP
  have hD : va_D A [(xt, .inr (5, [.ref b0, .int 20, .int 0])), (b0, .inl (cI, 100, .inl (upd (upd (upd (upd ft 16 (((Int32.toUInt32 p1 >>> (Int32.toUInt32 24 &&& Int32.toUInt32 31)).toInt32) &&& 255)) 17 (((Int32.toUInt32 p1 >>> (Int32.toUInt32 16 &&& Int32.toUInt32 31)).toInt32) &&& 255)) 18 (((Int32.toUInt32 p1 >>> (Int32.toUInt32 8 &&& Int32.toUInt32 31)).toInt32) &&& 255)) 19 (((Int32.toUInt32 p1 >>> (Int32.toUInt32 0 &&& Int32.toUInt32 31)).toInt32) &&& 255))))] := hD
  refine lv_iinc (v := (-8)) (lv' := [(2, .int (-8)), (0, .ref xt), (1, .int p1)]) hx hb dX5_addNumber_42 hl (k := 0) rfl (by decide) (by decide) rfl (fun ls hl => ?_)
  refine lv_goto (tgt := 3) hx hb dX5_addNumber_45 (by decide) ?_
  refine lv_iload_n hx hb dX5_addNumber_3 rfl (lv_at hl 0 rfl) ?_
  refine lv_if_lt (tgt := 48) hx hb dX5_addNumber_4 (by decide) (fun _ => ?_) (fun c => absurd (by decide) c)
  have hP9 := hP.sub (ws' := [(xt, .inr (5, [.ref b0, .int 20, .int 0])), (b0, .inl (cI, 100, .inl (upd (upd (upd (upd ft 16 (((Int32.toUInt32 p1 >>> (Int32.toUInt32 24 &&& Int32.toUInt32 31)).toInt32) &&& 255)) 17 (((Int32.toUInt32 p1 >>> (Int32.toUInt32 16 &&& Int32.toUInt32 31)).toInt32) &&& 255)) 18 (((Int32.toUInt32 p1 >>> (Int32.toUInt32 8 &&& Int32.toUInt32 31)).toInt32) &&& 255)) 19 (((Int32.toUInt32 p1 >>> (Int32.toUInt32 0 &&& Int32.toUInt32 31)).toInt32) &&& 255))))]) [0, 1] rfl
  have hD9 := hD.sub (ws' := [(xt, .inr (5, [.ref b0, .int 20, .int 0])), (b0, .inl (cI, 100, .inl (upd (upd (upd (upd ft 16 (((Int32.toUInt32 p1 >>> (Int32.toUInt32 24 &&& Int32.toUInt32 31)).toInt32) &&& 255)) 17 (((Int32.toUInt32 p1 >>> (Int32.toUInt32 16 &&& Int32.toUInt32 31)).toInt32) &&& 255)) 18 (((Int32.toUInt32 p1 >>> (Int32.toUInt32 8 &&& Int32.toUInt32 31)).toInt32) &&& 255)) 19 (((Int32.toUInt32 p1 >>> (Int32.toUInt32 0 &&& Int32.toUInt32 31)).toInt32) &&& 255))))]) [0, 1] (by decide) rfl
  exact W.vret hx hb hr (fun t ht hW => ⟨⟨(), rfl, trivial, by rw [ht]; exact hP9, va_K.moved hW.alike hK, hD9⟩, hS.F ht⟩) hS.2.2 dX5_addNumber_48

set_option maxHeartbeats 4000000 in
set_option maxRecDepth 100000 in
theorem kkX7_feed (l : Launch) (dC : Nat → ClassId) (dI : Nat → Nat → Nat) (cI cB cZ cR : ClassId) (sz : Nat) (x : Nat) (xt : Nat) (xd : Nat) (h : Nat) (xk : Nat) (xl : Nat) (xw : Nat) (xp : Nat) (xs : Nat) (xr : Nat) (b0 : Nat) (ft : Nat → Int32) (p1 : Int32) (p2 : Int32) (p3 : Int32) (p4 : Int32) (p5 : Int32) : Met l yX7_feed (.code yX7_feed cX7_feed 6 (some .int) :: wsL_law) ({ frames := 1, cells := 0, slots := 0, locals := 22 }) (zPc dC dI (zT cI cB cZ cR) [.ref x, .int p1, .int p2, .int p3, .int p4, .int p5] sz [(x, .inr (7, [.ref xt, .ref xd, .ref h, .ref xk, .ref xl, .ref xw, .ref xp, .ref xs, .ref xr, .int 0, .int (-1), .int 0, .null])), (xt, .inr (5, [.ref b0, .int 0, .int 0])), (b0, .inl (cI, 100, .inl ft))]) (va_Qi (fun (r : Int32) (_ : Unit) => r = 20) (fun _ : Unit => zB dC dI (zT cI cB cZ cR) (va_A [(x, .inr (7, [.ref xt, .ref xd, .ref h, .ref xk, .ref xl, .ref xw, .ref xp, .ref xs, .ref xr, .int 0, .int (-1), .int 0, .null])), (xt, .inr (5, [.ref b0, .int 0, .int 0])), (b0, .inl (cI, 100, .inl ft))] sz) [(x, .inr (7, [.ref xt, .ref xd, .ref h, .ref xk, .ref xl, .ref xw, .ref xp, .ref xs, .ref xr, .int 0, .int (-1), .int 0, .null])), (xt, .inr (5, [.ref b0, .int 20, .int 0])), (b0, .inl (cI, 100, .inl (upd (upd (upd (upd (upd (upd (upd (upd (upd (upd (upd (upd (upd (upd (upd (upd (upd (upd (upd (upd ft 0 (((Int32.toUInt32 p1 >>> (Int32.toUInt32 24 &&& Int32.toUInt32 31)).toInt32) &&& 255)) 1 (((Int32.toUInt32 p1 >>> (Int32.toUInt32 16 &&& Int32.toUInt32 31)).toInt32) &&& 255)) 2 (((Int32.toUInt32 p1 >>> (Int32.toUInt32 8 &&& Int32.toUInt32 31)).toInt32) &&& 255)) 3 (((Int32.toUInt32 p1 >>> (Int32.toUInt32 0 &&& Int32.toUInt32 31)).toInt32) &&& 255)) 4 (((Int32.toUInt32 p2 >>> (Int32.toUInt32 24 &&& Int32.toUInt32 31)).toInt32) &&& 255)) 5 (((Int32.toUInt32 p2 >>> (Int32.toUInt32 16 &&& Int32.toUInt32 31)).toInt32) &&& 255)) 6 (((Int32.toUInt32 p2 >>> (Int32.toUInt32 8 &&& Int32.toUInt32 31)).toInt32) &&& 255)) 7 (((Int32.toUInt32 p2 >>> (Int32.toUInt32 0 &&& Int32.toUInt32 31)).toInt32) &&& 255)) 8 (((Int32.toUInt32 p3 >>> (Int32.toUInt32 24 &&& Int32.toUInt32 31)).toInt32) &&& 255)) 9 (((Int32.toUInt32 p3 >>> (Int32.toUInt32 16 &&& Int32.toUInt32 31)).toInt32) &&& 255)) 10 (((Int32.toUInt32 p3 >>> (Int32.toUInt32 8 &&& Int32.toUInt32 31)).toInt32) &&& 255)) 11 (((Int32.toUInt32 p3 >>> (Int32.toUInt32 0 &&& Int32.toUInt32 31)).toInt32) &&& 255)) 12 (((Int32.toUInt32 p4 >>> (Int32.toUInt32 24 &&& Int32.toUInt32 31)).toInt32) &&& 255)) 13 (((Int32.toUInt32 p4 >>> (Int32.toUInt32 16 &&& Int32.toUInt32 31)).toInt32) &&& 255)) 14 (((Int32.toUInt32 p4 >>> (Int32.toUInt32 8 &&& Int32.toUInt32 31)).toInt32) &&& 255)) 15 (((Int32.toUInt32 p4 >>> (Int32.toUInt32 0 &&& Int32.toUInt32 31)).toInt32) &&& 255)) 16 (((Int32.toUInt32 p5 >>> (Int32.toUInt32 24 &&& Int32.toUInt32 31)).toInt32) &&& 255)) 17 (((Int32.toUInt32 p5 >>> (Int32.toUInt32 16 &&& Int32.toUInt32 31)).toInt32) &&& 255)) 18 (((Int32.toUInt32 p5 >>> (Int32.toUInt32 8 &&& Int32.toUInt32 31)).toInt32) &&& 255)) 19 (((Int32.toUInt32 p5 >>> (Int32.toUInt32 0 &&& Int32.toUInt32 31)).toInt32) &&& 255))))]) (va_A [(x, .inr (7, [.ref xt, .ref xd, .ref h, .ref xk, .ref xl, .ref xw, .ref xp, .ref xs, .ref xr, .int 0, .int (-1), .int 0, .null])), (xt, .inr (5, [.ref b0, .int 0, .int 0])), (b0, .inl (cI, 100, .inl ft))] sz)) 0 0 (va_A [(x, .inr (7, [.ref xt, .ref xd, .ref h, .ref xk, .ref xl, .ref xw, .ref xp, .ref xs, .ref xr, .int 0, .int (-1), .int 0, .null])), (xt, .inr (5, [.ref b0, .int 0, .int 0])), (b0, .inl (cI, 100, .inl ft))] sz) := by
  refine Met.ofW (cc := cX7_feed) (maxL := 6) (ret := (some .int)) (by decide) rfl ?_
  intro p e s m args below meth c s₁ B hml hv
  obtain ⟨rfl, hsz, hP, hK, hD0, hN⟩ := hv
  have hx := B.exec
  have hb := B.bytes
  have hr := B.returns
  have hts := atoms_spec (ws := (.code yX7_feed cX7_feed 6 (some .int) :: wsL_law)) B.pre
  have hown : s.vm.findClass RX7 = some m.cls := findClass_of_methodNamed B.named
  have hlocks := B.notSynchronized
  have hinX7 : ∀ w ∈ u_ws RX7 TX7 13, w ∈ (.code yX7_feed cX7_feed 6 (some .int) :: wsL_law) := fun w h => List.mem_cons_of_mem _ (inlX7 w h)
  have hinX5 : ∀ w ∈ u_ws RX5 TX5 3, w ∈ (.code yX7_feed cX7_feed 6 (some .int) :: wsL_law) := fun w h => List.mem_cons_of_mem _ (inlX5 w h)
  have k_0 := hts (.fieldLink RX7 10 "RingMarks" "tape" "LRingMarks$Tape;") (List.mem_cons_of_mem _ wm_15)
  have k_1 := hts (.fieldLink RX7 84 "RingMarks$Tape" "size" "I") (List.mem_cons_of_mem _ wm_156)
  subst hsz
  have hD := hD0.self (sz := s.heap.size)
  generalize hAe : va_A [(x, .inr (7, [.ref xt, .ref xd, .ref h, .ref xk, .ref xl, .ref xw, .ref xp, .ref xs, .ref xr, .int 0, .int (-1), .int 0, .null])), (xt, .inr (5, [.ref b0, .int 0, .int 0])), (b0, .inl (cI, 100, .inl ft))] s.heap.size = A at hD ⊢
  have hA : ∀ q : Nat, s.heap.size ≤ q → A q := fun q h => by rw [← hAe]; exact Or.inr h
  have hP : va_P (dC, dI) vwCl [(x, .inr (7, [.ref xt, .ref xd, .ref h, .ref xk, .ref xl, .ref xw, .ref xp, .ref xs, .ref xr, .int 0, .int (-1), .int 0, .null])), (xt, .inr (5, [.ref b0, .int 0, .int 0])), (b0, .inl (cI, 100, .inl ft))] s.heap := hP
  have hl := lv_entry ([.ref x, .int p1, .int p2, .int p3, .int p4, .int p5]) (n := 6) (Nat.le_of_ble_eq_true rfl)
  rw [lg_entry_eq]
  generalize (lg_sl ([.ref x, .int p1, .int p2, .int p3, .int p4, .int p5]) ++ List.replicate (6 - (lg_sl ([.ref x, .int p1, .int p2, .int p3, .int p4, .int p5])).length) Slot.unset).toArray = ls at hl ⊢
  have hl : lv_has ls 6 [(0, .ref x), (1, .int p1), (2, .int p2), (3, .int p3), (4, .int p4), (5, .int p5)] := hl
  obtain ⟨H, hH⟩ : ∃ H, H = s.heap := ⟨_, rfl⟩
  rw [← hH] at hP ⊢
  have hS : va_S A s.heap H [] := by rw [hH]; exact va_S.rf
  refine lv_aload_n hx hb dX7_feed_0 rfl (lv_at hl 0 rfl) ?_
  refine va_get (D := (dC, dI)) (ci := 7) (v := .ref xt) (C := RX7) (T := TX7) (N := 13) hx hb hts hinX7 hown hK hP 0 rfl rfl 0 (by decide) k_0 (fun _ h9 => h9) rfl dX7_feed_1 ?_
  refine lv_bipush (v := 20) hx hb dX7_feed_4 (by decide) ?_
  refine zcVi (As := [.int 20]) (rest := []) (wr := [(x, .inr (7, [.ref xt, .ref xd, .ref h, .ref xk, .ref xl, .ref xw, .ref xp, .ref xs, .ref xr, .int 0, .int (-1), .int 0, .null])), (b0, .inl (cI, 100, .inl ft))]) ⟨hx, hb, hml, hown, hts⟩ (kkX5_hasRoomFor l dC dI cI cB cZ cR H.size xt b0 ) (cwV 1 hts (zgV wm_157 wm_158 wm_159 wm_14 wm_160) rfl rfl rfl (by decide +kernel) ⟨Nat.le_of_ble_eq_true rfl, Nat.le_of_ble_eq_true rfl⟩) hN hK hP hD hS hA [1] [0, 2] rfl rfl ⟨rfl, rfl⟩ (by decide) (ci := 5) rfl rfl rfl rfl hl.1 rfl (Nat.le_of_ble_eq_true rfl) dX7_feed_6 ⟨Nat.le_of_ble_eq_true rfl, Nat.le_of_ble_eq_true rfl⟩ (fun r u hu H locs hP hD hS => ?_)
  have hu : r = 1 := hu
  subst hu
  have hP : va_P (dC, dI) vwCl [(x, .inr (7, [.ref xt, .ref xd, .ref h, .ref xk, .ref xl, .ref xw, .ref xp, .ref xs, .ref xr, .int 0, .int (-1), .int 0, .null])), (b0, .inl (cI, 100, .inl ft)), (xt, .inr (5, [.ref b0, .int 0, .int 0]))] H := hP
  have hD : va_D A [(x, .inr (7, [.ref xt, .ref xd, .ref h, .ref xk, .ref xl, .ref xw, .ref xp, .ref xs, .ref xr, .int 0, .int (-1), .int 0, .null])), (b0, .inl (cI, 100, .inl ft)), (xt, .inr (5, [.ref b0, .int 0, .int 0]))] := hD
  refine lv_if_ne (tgt := 14) hx hb dX7_feed_9 (by decide) (fun _ => ?_) (fun c => absurd c (by decide))
  refine lv_aload_n hx hb dX7_feed_14 rfl (lv_at hl 0 rfl) ?_
  refine va_get (D := (dC, dI)) (ci := 7) (v := .ref xt) (C := RX7) (T := TX7) (N := 13) hx hb hts hinX7 hown hK hP 0 rfl rfl 0 (by decide) k_0 (fun _ h9 => h9) rfl dX7_feed_15 ?_
  refine lv_iload_n hx hb dX7_feed_18 rfl (lv_at hl 1 rfl) ?_
  refine zcVv (As := [.int p1]) (rest := []) (wr := [(x, .inr (7, [.ref xt, .ref xd, .ref h, .ref xk, .ref xl, .ref xw, .ref xp, .ref xs, .ref xr, .int 0, .int (-1), .int 0, .null]))]) ⟨hx, hb, hml, hown, hts⟩ (kkX5_addNumber_0 l dC dI cI cB cZ cR H.size xt b0 ft p1 ) (cwV 1 hts (zgV wm_161 wm_162 wm_163 wm_14 wm_164) rfl rfl rfl (by decide +kernel) ⟨Nat.le_of_ble_eq_true rfl, Nat.le_of_ble_eq_true rfl⟩) hN hK hP hD hS hA [2, 1] [0] rfl rfl ⟨rfl, rfl⟩ (by decide) (ci := 5) rfl rfl rfl rfl hl.1 rfl (Nat.le_of_ble_eq_true rfl) dX7_feed_19 ⟨Nat.le_of_ble_eq_true rfl, Nat.le_of_ble_eq_true rfl⟩ (fun u hu H locs hP hD hS => ?_)
  have hP : va_P (dC, dI) vwCl [(x, .inr (7, [.ref xt, .ref xd, .ref h, .ref xk, .ref xl, .ref xw, .ref xp, .ref xs, .ref xr, .int 0, .int (-1), .int 0, .null])), (xt, .inr (5, [.ref b0, .int 4, .int 0])), (b0, .inl (cI, 100, .inl (upd (upd (upd (upd ft 0 (((Int32.toUInt32 p1 >>> (Int32.toUInt32 24 &&& Int32.toUInt32 31)).toInt32) &&& 255)) 1 (((Int32.toUInt32 p1 >>> (Int32.toUInt32 16 &&& Int32.toUInt32 31)).toInt32) &&& 255)) 2 (((Int32.toUInt32 p1 >>> (Int32.toUInt32 8 &&& Int32.toUInt32 31)).toInt32) &&& 255)) 3 (((Int32.toUInt32 p1 >>> (Int32.toUInt32 0 &&& Int32.toUInt32 31)).toInt32) &&& 255))))] H := hP
  have hD : va_D A [(x, .inr (7, [.ref xt, .ref xd, .ref h, .ref xk, .ref xl, .ref xw, .ref xp, .ref xs, .ref xr, .int 0, .int (-1), .int 0, .null])), (xt, .inr (5, [.ref b0, .int 4, .int 0])), (b0, .inl (cI, 100, .inl (upd (upd (upd (upd ft 0 (((Int32.toUInt32 p1 >>> (Int32.toUInt32 24 &&& Int32.toUInt32 31)).toInt32) &&& 255)) 1 (((Int32.toUInt32 p1 >>> (Int32.toUInt32 16 &&& Int32.toUInt32 31)).toInt32) &&& 255)) 2 (((Int32.toUInt32 p1 >>> (Int32.toUInt32 8 &&& Int32.toUInt32 31)).toInt32) &&& 255)) 3 (((Int32.toUInt32 p1 >>> (Int32.toUInt32 0 &&& Int32.toUInt32 31)).toInt32) &&& 255))))] := hD
  refine lv_aload_n hx hb dX7_feed_22 rfl (lv_at hl 0 rfl) ?_
  refine va_get (D := (dC, dI)) (ci := 7) (v := .ref xt) (C := RX7) (T := TX7) (N := 13) hx hb hts hinX7 hown hK hP 0 rfl rfl 0 (by decide) k_0 (fun _ h9 => h9) rfl dX7_feed_23 ?_
  refine lv_iload_n hx hb dX7_feed_26 rfl (lv_at hl 2 rfl) ?_
  refine zcVv (As := [.int p2]) (rest := []) (wr := [(x, .inr (7, [.ref xt, .ref xd, .ref h, .ref xk, .ref xl, .ref xw, .ref xp, .ref xs, .ref xr, .int 0, .int (-1), .int 0, .null]))]) ⟨hx, hb, hml, hown, hts⟩ (kkX5_addNumber_4 l dC dI cI cB cZ cR H.size xt b0 (upd (upd (upd (upd ft 0 (((Int32.toUInt32 p1 >>> (Int32.toUInt32 24 &&& Int32.toUInt32 31)).toInt32) &&& 255)) 1 (((Int32.toUInt32 p1 >>> (Int32.toUInt32 16 &&& Int32.toUInt32 31)).toInt32) &&& 255)) 2 (((Int32.toUInt32 p1 >>> (Int32.toUInt32 8 &&& Int32.toUInt32 31)).toInt32) &&& 255)) 3 (((Int32.toUInt32 p1 >>> (Int32.toUInt32 0 &&& Int32.toUInt32 31)).toInt32) &&& 255)) p2 ) (cwV 1 hts (zgV wm_161 wm_162 wm_163 wm_14 wm_164) rfl rfl rfl (by decide +kernel) ⟨Nat.le_of_ble_eq_true rfl, Nat.le_of_ble_eq_true rfl⟩) hN hK hP hD hS hA [1, 2] [0] rfl rfl ⟨rfl, rfl⟩ (by decide) (ci := 5) rfl rfl rfl rfl hl.1 rfl (Nat.le_of_ble_eq_true rfl) dX7_feed_27 ⟨Nat.le_of_ble_eq_true rfl, Nat.le_of_ble_eq_true rfl⟩ (fun u hu H locs hP hD hS => ?_)
  have hP : va_P (dC, dI) vwCl [(x, .inr (7, [.ref xt, .ref xd, .ref h, .ref xk, .ref xl, .ref xw, .ref xp, .ref xs, .ref xr, .int 0, .int (-1), .int 0, .null])), (xt, .inr (5, [.ref b0, .int 8, .int 0])), (b0, .inl (cI, 100, .inl (upd (upd (upd (upd (upd (upd (upd (upd ft 0 (((Int32.toUInt32 p1 >>> (Int32.toUInt32 24 &&& Int32.toUInt32 31)).toInt32) &&& 255)) 1 (((Int32.toUInt32 p1 >>> (Int32.toUInt32 16 &&& Int32.toUInt32 31)).toInt32) &&& 255)) 2 (((Int32.toUInt32 p1 >>> (Int32.toUInt32 8 &&& Int32.toUInt32 31)).toInt32) &&& 255)) 3 (((Int32.toUInt32 p1 >>> (Int32.toUInt32 0 &&& Int32.toUInt32 31)).toInt32) &&& 255)) 4 (((Int32.toUInt32 p2 >>> (Int32.toUInt32 24 &&& Int32.toUInt32 31)).toInt32) &&& 255)) 5 (((Int32.toUInt32 p2 >>> (Int32.toUInt32 16 &&& Int32.toUInt32 31)).toInt32) &&& 255)) 6 (((Int32.toUInt32 p2 >>> (Int32.toUInt32 8 &&& Int32.toUInt32 31)).toInt32) &&& 255)) 7 (((Int32.toUInt32 p2 >>> (Int32.toUInt32 0 &&& Int32.toUInt32 31)).toInt32) &&& 255))))] H := hP
  have hD : va_D A [(x, .inr (7, [.ref xt, .ref xd, .ref h, .ref xk, .ref xl, .ref xw, .ref xp, .ref xs, .ref xr, .int 0, .int (-1), .int 0, .null])), (xt, .inr (5, [.ref b0, .int 8, .int 0])), (b0, .inl (cI, 100, .inl (upd (upd (upd (upd (upd (upd (upd (upd ft 0 (((Int32.toUInt32 p1 >>> (Int32.toUInt32 24 &&& Int32.toUInt32 31)).toInt32) &&& 255)) 1 (((Int32.toUInt32 p1 >>> (Int32.toUInt32 16 &&& Int32.toUInt32 31)).toInt32) &&& 255)) 2 (((Int32.toUInt32 p1 >>> (Int32.toUInt32 8 &&& Int32.toUInt32 31)).toInt32) &&& 255)) 3 (((Int32.toUInt32 p1 >>> (Int32.toUInt32 0 &&& Int32.toUInt32 31)).toInt32) &&& 255)) 4 (((Int32.toUInt32 p2 >>> (Int32.toUInt32 24 &&& Int32.toUInt32 31)).toInt32) &&& 255)) 5 (((Int32.toUInt32 p2 >>> (Int32.toUInt32 16 &&& Int32.toUInt32 31)).toInt32) &&& 255)) 6 (((Int32.toUInt32 p2 >>> (Int32.toUInt32 8 &&& Int32.toUInt32 31)).toInt32) &&& 255)) 7 (((Int32.toUInt32 p2 >>> (Int32.toUInt32 0 &&& Int32.toUInt32 31)).toInt32) &&& 255))))] := hD
  refine lv_aload_n hx hb dX7_feed_30 rfl (lv_at hl 0 rfl) ?_
  refine va_get (D := (dC, dI)) (ci := 7) (v := .ref xt) (C := RX7) (T := TX7) (N := 13) hx hb hts hinX7 hown hK hP 0 rfl rfl 0 (by decide) k_0 (fun _ h9 => h9) rfl dX7_feed_31 ?_
  refine lv_iload_n hx hb dX7_feed_34 rfl (lv_at hl 3 rfl) ?_
  refine zcVv (As := [.int p3]) (rest := []) (wr := [(x, .inr (7, [.ref xt, .ref xd, .ref h, .ref xk, .ref xl, .ref xw, .ref xp, .ref xs, .ref xr, .int 0, .int (-1), .int 0, .null]))]) ⟨hx, hb, hml, hown, hts⟩ (kkX5_addNumber_8 l dC dI cI cB cZ cR H.size xt b0 (upd (upd (upd (upd (upd (upd (upd (upd ft 0 (((Int32.toUInt32 p1 >>> (Int32.toUInt32 24 &&& Int32.toUInt32 31)).toInt32) &&& 255)) 1 (((Int32.toUInt32 p1 >>> (Int32.toUInt32 16 &&& Int32.toUInt32 31)).toInt32) &&& 255)) 2 (((Int32.toUInt32 p1 >>> (Int32.toUInt32 8 &&& Int32.toUInt32 31)).toInt32) &&& 255)) 3 (((Int32.toUInt32 p1 >>> (Int32.toUInt32 0 &&& Int32.toUInt32 31)).toInt32) &&& 255)) 4 (((Int32.toUInt32 p2 >>> (Int32.toUInt32 24 &&& Int32.toUInt32 31)).toInt32) &&& 255)) 5 (((Int32.toUInt32 p2 >>> (Int32.toUInt32 16 &&& Int32.toUInt32 31)).toInt32) &&& 255)) 6 (((Int32.toUInt32 p2 >>> (Int32.toUInt32 8 &&& Int32.toUInt32 31)).toInt32) &&& 255)) 7 (((Int32.toUInt32 p2 >>> (Int32.toUInt32 0 &&& Int32.toUInt32 31)).toInt32) &&& 255)) p3 ) (cwV 1 hts (zgV wm_161 wm_162 wm_163 wm_14 wm_164) rfl rfl rfl (by decide +kernel) ⟨Nat.le_of_ble_eq_true rfl, Nat.le_of_ble_eq_true rfl⟩) hN hK hP hD hS hA [1, 2] [0] rfl rfl ⟨rfl, rfl⟩ (by decide) (ci := 5) rfl rfl rfl rfl hl.1 rfl (Nat.le_of_ble_eq_true rfl) dX7_feed_35 ⟨Nat.le_of_ble_eq_true rfl, Nat.le_of_ble_eq_true rfl⟩ (fun u hu H locs hP hD hS => ?_)
  have hP : va_P (dC, dI) vwCl [(x, .inr (7, [.ref xt, .ref xd, .ref h, .ref xk, .ref xl, .ref xw, .ref xp, .ref xs, .ref xr, .int 0, .int (-1), .int 0, .null])), (xt, .inr (5, [.ref b0, .int 12, .int 0])), (b0, .inl (cI, 100, .inl (upd (upd (upd (upd (upd (upd (upd (upd (upd (upd (upd (upd ft 0 (((Int32.toUInt32 p1 >>> (Int32.toUInt32 24 &&& Int32.toUInt32 31)).toInt32) &&& 255)) 1 (((Int32.toUInt32 p1 >>> (Int32.toUInt32 16 &&& Int32.toUInt32 31)).toInt32) &&& 255)) 2 (((Int32.toUInt32 p1 >>> (Int32.toUInt32 8 &&& Int32.toUInt32 31)).toInt32) &&& 255)) 3 (((Int32.toUInt32 p1 >>> (Int32.toUInt32 0 &&& Int32.toUInt32 31)).toInt32) &&& 255)) 4 (((Int32.toUInt32 p2 >>> (Int32.toUInt32 24 &&& Int32.toUInt32 31)).toInt32) &&& 255)) 5 (((Int32.toUInt32 p2 >>> (Int32.toUInt32 16 &&& Int32.toUInt32 31)).toInt32) &&& 255)) 6 (((Int32.toUInt32 p2 >>> (Int32.toUInt32 8 &&& Int32.toUInt32 31)).toInt32) &&& 255)) 7 (((Int32.toUInt32 p2 >>> (Int32.toUInt32 0 &&& Int32.toUInt32 31)).toInt32) &&& 255)) 8 (((Int32.toUInt32 p3 >>> (Int32.toUInt32 24 &&& Int32.toUInt32 31)).toInt32) &&& 255)) 9 (((Int32.toUInt32 p3 >>> (Int32.toUInt32 16 &&& Int32.toUInt32 31)).toInt32) &&& 255)) 10 (((Int32.toUInt32 p3 >>> (Int32.toUInt32 8 &&& Int32.toUInt32 31)).toInt32) &&& 255)) 11 (((Int32.toUInt32 p3 >>> (Int32.toUInt32 0 &&& Int32.toUInt32 31)).toInt32) &&& 255))))] H := hP
  have hD : va_D A [(x, .inr (7, [.ref xt, .ref xd, .ref h, .ref xk, .ref xl, .ref xw, .ref xp, .ref xs, .ref xr, .int 0, .int (-1), .int 0, .null])), (xt, .inr (5, [.ref b0, .int 12, .int 0])), (b0, .inl (cI, 100, .inl (upd (upd (upd (upd (upd (upd (upd (upd (upd (upd (upd (upd ft 0 (((Int32.toUInt32 p1 >>> (Int32.toUInt32 24 &&& Int32.toUInt32 31)).toInt32) &&& 255)) 1 (((Int32.toUInt32 p1 >>> (Int32.toUInt32 16 &&& Int32.toUInt32 31)).toInt32) &&& 255)) 2 (((Int32.toUInt32 p1 >>> (Int32.toUInt32 8 &&& Int32.toUInt32 31)).toInt32) &&& 255)) 3 (((Int32.toUInt32 p1 >>> (Int32.toUInt32 0 &&& Int32.toUInt32 31)).toInt32) &&& 255)) 4 (((Int32.toUInt32 p2 >>> (Int32.toUInt32 24 &&& Int32.toUInt32 31)).toInt32) &&& 255)) 5 (((Int32.toUInt32 p2 >>> (Int32.toUInt32 16 &&& Int32.toUInt32 31)).toInt32) &&& 255)) 6 (((Int32.toUInt32 p2 >>> (Int32.toUInt32 8 &&& Int32.toUInt32 31)).toInt32) &&& 255)) 7 (((Int32.toUInt32 p2 >>> (Int32.toUInt32 0 &&& Int32.toUInt32 31)).toInt32) &&& 255)) 8 (((Int32.toUInt32 p3 >>> (Int32.toUInt32 24 &&& Int32.toUInt32 31)).toInt32) &&& 255)) 9 (((Int32.toUInt32 p3 >>> (Int32.toUInt32 16 &&& Int32.toUInt32 31)).toInt32) &&& 255)) 10 (((Int32.toUInt32 p3 >>> (Int32.toUInt32 8 &&& Int32.toUInt32 31)).toInt32) &&& 255)) 11 (((Int32.toUInt32 p3 >>> (Int32.toUInt32 0 &&& Int32.toUInt32 31)).toInt32) &&& 255))))] := hD
  refine lv_aload_n hx hb dX7_feed_38 rfl (lv_at hl 0 rfl) ?_
  refine va_get (D := (dC, dI)) (ci := 7) (v := .ref xt) (C := RX7) (T := TX7) (N := 13) hx hb hts hinX7 hown hK hP 0 rfl rfl 0 (by decide) k_0 (fun _ h9 => h9) rfl dX7_feed_39 ?_
  refine lv_iload hx hb dX7_feed_42 (lv_at hl 4 rfl) ?_
  refine zcVv (As := [.int p4]) (rest := []) (wr := [(x, .inr (7, [.ref xt, .ref xd, .ref h, .ref xk, .ref xl, .ref xw, .ref xp, .ref xs, .ref xr, .int 0, .int (-1), .int 0, .null]))]) ⟨hx, hb, hml, hown, hts⟩ (kkX5_addNumber_12 l dC dI cI cB cZ cR H.size xt b0 (upd (upd (upd (upd (upd (upd (upd (upd (upd (upd (upd (upd ft 0 (((Int32.toUInt32 p1 >>> (Int32.toUInt32 24 &&& Int32.toUInt32 31)).toInt32) &&& 255)) 1 (((Int32.toUInt32 p1 >>> (Int32.toUInt32 16 &&& Int32.toUInt32 31)).toInt32) &&& 255)) 2 (((Int32.toUInt32 p1 >>> (Int32.toUInt32 8 &&& Int32.toUInt32 31)).toInt32) &&& 255)) 3 (((Int32.toUInt32 p1 >>> (Int32.toUInt32 0 &&& Int32.toUInt32 31)).toInt32) &&& 255)) 4 (((Int32.toUInt32 p2 >>> (Int32.toUInt32 24 &&& Int32.toUInt32 31)).toInt32) &&& 255)) 5 (((Int32.toUInt32 p2 >>> (Int32.toUInt32 16 &&& Int32.toUInt32 31)).toInt32) &&& 255)) 6 (((Int32.toUInt32 p2 >>> (Int32.toUInt32 8 &&& Int32.toUInt32 31)).toInt32) &&& 255)) 7 (((Int32.toUInt32 p2 >>> (Int32.toUInt32 0 &&& Int32.toUInt32 31)).toInt32) &&& 255)) 8 (((Int32.toUInt32 p3 >>> (Int32.toUInt32 24 &&& Int32.toUInt32 31)).toInt32) &&& 255)) 9 (((Int32.toUInt32 p3 >>> (Int32.toUInt32 16 &&& Int32.toUInt32 31)).toInt32) &&& 255)) 10 (((Int32.toUInt32 p3 >>> (Int32.toUInt32 8 &&& Int32.toUInt32 31)).toInt32) &&& 255)) 11 (((Int32.toUInt32 p3 >>> (Int32.toUInt32 0 &&& Int32.toUInt32 31)).toInt32) &&& 255)) p4 ) (cwV 1 hts (zgV wm_161 wm_162 wm_163 wm_14 wm_164) rfl rfl rfl (by decide +kernel) ⟨Nat.le_of_ble_eq_true rfl, Nat.le_of_ble_eq_true rfl⟩) hN hK hP hD hS hA [1, 2] [0] rfl rfl ⟨rfl, rfl⟩ (by decide) (ci := 5) rfl rfl rfl rfl hl.1 rfl (Nat.le_of_ble_eq_true rfl) dX7_feed_44 ⟨Nat.le_of_ble_eq_true rfl, Nat.le_of_ble_eq_true rfl⟩ (fun u hu H locs hP hD hS => ?_)
  have hP : va_P (dC, dI) vwCl [(x, .inr (7, [.ref xt, .ref xd, .ref h, .ref xk, .ref xl, .ref xw, .ref xp, .ref xs, .ref xr, .int 0, .int (-1), .int 0, .null])), (xt, .inr (5, [.ref b0, .int 16, .int 0])), (b0, .inl (cI, 100, .inl (upd (upd (upd (upd (upd (upd (upd (upd (upd (upd (upd (upd (upd (upd (upd (upd ft 0 (((Int32.toUInt32 p1 >>> (Int32.toUInt32 24 &&& Int32.toUInt32 31)).toInt32) &&& 255)) 1 (((Int32.toUInt32 p1 >>> (Int32.toUInt32 16 &&& Int32.toUInt32 31)).toInt32) &&& 255)) 2 (((Int32.toUInt32 p1 >>> (Int32.toUInt32 8 &&& Int32.toUInt32 31)).toInt32) &&& 255)) 3 (((Int32.toUInt32 p1 >>> (Int32.toUInt32 0 &&& Int32.toUInt32 31)).toInt32) &&& 255)) 4 (((Int32.toUInt32 p2 >>> (Int32.toUInt32 24 &&& Int32.toUInt32 31)).toInt32) &&& 255)) 5 (((Int32.toUInt32 p2 >>> (Int32.toUInt32 16 &&& Int32.toUInt32 31)).toInt32) &&& 255)) 6 (((Int32.toUInt32 p2 >>> (Int32.toUInt32 8 &&& Int32.toUInt32 31)).toInt32) &&& 255)) 7 (((Int32.toUInt32 p2 >>> (Int32.toUInt32 0 &&& Int32.toUInt32 31)).toInt32) &&& 255)) 8 (((Int32.toUInt32 p3 >>> (Int32.toUInt32 24 &&& Int32.toUInt32 31)).toInt32) &&& 255)) 9 (((Int32.toUInt32 p3 >>> (Int32.toUInt32 16 &&& Int32.toUInt32 31)).toInt32) &&& 255)) 10 (((Int32.toUInt32 p3 >>> (Int32.toUInt32 8 &&& Int32.toUInt32 31)).toInt32) &&& 255)) 11 (((Int32.toUInt32 p3 >>> (Int32.toUInt32 0 &&& Int32.toUInt32 31)).toInt32) &&& 255)) 12 (((Int32.toUInt32 p4 >>> (Int32.toUInt32 24 &&& Int32.toUInt32 31)).toInt32) &&& 255)) 13 (((Int32.toUInt32 p4 >>> (Int32.toUInt32 16 &&& Int32.toUInt32 31)).toInt32) &&& 255)) 14 (((Int32.toUInt32 p4 >>> (Int32.toUInt32 8 &&& Int32.toUInt32 31)).toInt32) &&& 255)) 15 (((Int32.toUInt32 p4 >>> (Int32.toUInt32 0 &&& Int32.toUInt32 31)).toInt32) &&& 255))))] H := hP
  have hD : va_D A [(x, .inr (7, [.ref xt, .ref xd, .ref h, .ref xk, .ref xl, .ref xw, .ref xp, .ref xs, .ref xr, .int 0, .int (-1), .int 0, .null])), (xt, .inr (5, [.ref b0, .int 16, .int 0])), (b0, .inl (cI, 100, .inl (upd (upd (upd (upd (upd (upd (upd (upd (upd (upd (upd (upd (upd (upd (upd (upd ft 0 (((Int32.toUInt32 p1 >>> (Int32.toUInt32 24 &&& Int32.toUInt32 31)).toInt32) &&& 255)) 1 (((Int32.toUInt32 p1 >>> (Int32.toUInt32 16 &&& Int32.toUInt32 31)).toInt32) &&& 255)) 2 (((Int32.toUInt32 p1 >>> (Int32.toUInt32 8 &&& Int32.toUInt32 31)).toInt32) &&& 255)) 3 (((Int32.toUInt32 p1 >>> (Int32.toUInt32 0 &&& Int32.toUInt32 31)).toInt32) &&& 255)) 4 (((Int32.toUInt32 p2 >>> (Int32.toUInt32 24 &&& Int32.toUInt32 31)).toInt32) &&& 255)) 5 (((Int32.toUInt32 p2 >>> (Int32.toUInt32 16 &&& Int32.toUInt32 31)).toInt32) &&& 255)) 6 (((Int32.toUInt32 p2 >>> (Int32.toUInt32 8 &&& Int32.toUInt32 31)).toInt32) &&& 255)) 7 (((Int32.toUInt32 p2 >>> (Int32.toUInt32 0 &&& Int32.toUInt32 31)).toInt32) &&& 255)) 8 (((Int32.toUInt32 p3 >>> (Int32.toUInt32 24 &&& Int32.toUInt32 31)).toInt32) &&& 255)) 9 (((Int32.toUInt32 p3 >>> (Int32.toUInt32 16 &&& Int32.toUInt32 31)).toInt32) &&& 255)) 10 (((Int32.toUInt32 p3 >>> (Int32.toUInt32 8 &&& Int32.toUInt32 31)).toInt32) &&& 255)) 11 (((Int32.toUInt32 p3 >>> (Int32.toUInt32 0 &&& Int32.toUInt32 31)).toInt32) &&& 255)) 12 (((Int32.toUInt32 p4 >>> (Int32.toUInt32 24 &&& Int32.toUInt32 31)).toInt32) &&& 255)) 13 (((Int32.toUInt32 p4 >>> (Int32.toUInt32 16 &&& Int32.toUInt32 31)).toInt32) &&& 255)) 14 (((Int32.toUInt32 p4 >>> (Int32.toUInt32 8 &&& Int32.toUInt32 31)).toInt32) &&& 255)) 15 (((Int32.toUInt32 p4 >>> (Int32.toUInt32 0 &&& Int32.toUInt32 31)).toInt32) &&& 255))))] := hD
  refine lv_aload_n hx hb dX7_feed_47 rfl (lv_at hl 0 rfl) ?_
  refine va_get (D := (dC, dI)) (ci := 7) (v := .ref xt) (C := RX7) (T := TX7) (N := 13) hx hb hts hinX7 hown hK hP 0 rfl rfl 0 (by decide) k_0 (fun _ h9 => h9) rfl dX7_feed_48 ?_
  refine lv_iload hx hb dX7_feed_51 (lv_at hl 5 rfl) ?_
  refine zcVv (As := [.int p5]) (rest := []) (wr := [(x, .inr (7, [.ref xt, .ref xd, .ref h, .ref xk, .ref xl, .ref xw, .ref xp, .ref xs, .ref xr, .int 0, .int (-1), .int 0, .null]))]) ⟨hx, hb, hml, hown, hts⟩ (kkX5_addNumber_16 l dC dI cI cB cZ cR H.size xt b0 (upd (upd (upd (upd (upd (upd (upd (upd (upd (upd (upd (upd (upd (upd (upd (upd ft 0 (((Int32.toUInt32 p1 >>> (Int32.toUInt32 24 &&& Int32.toUInt32 31)).toInt32) &&& 255)) 1 (((Int32.toUInt32 p1 >>> (Int32.toUInt32 16 &&& Int32.toUInt32 31)).toInt32) &&& 255)) 2 (((Int32.toUInt32 p1 >>> (Int32.toUInt32 8 &&& Int32.toUInt32 31)).toInt32) &&& 255)) 3 (((Int32.toUInt32 p1 >>> (Int32.toUInt32 0 &&& Int32.toUInt32 31)).toInt32) &&& 255)) 4 (((Int32.toUInt32 p2 >>> (Int32.toUInt32 24 &&& Int32.toUInt32 31)).toInt32) &&& 255)) 5 (((Int32.toUInt32 p2 >>> (Int32.toUInt32 16 &&& Int32.toUInt32 31)).toInt32) &&& 255)) 6 (((Int32.toUInt32 p2 >>> (Int32.toUInt32 8 &&& Int32.toUInt32 31)).toInt32) &&& 255)) 7 (((Int32.toUInt32 p2 >>> (Int32.toUInt32 0 &&& Int32.toUInt32 31)).toInt32) &&& 255)) 8 (((Int32.toUInt32 p3 >>> (Int32.toUInt32 24 &&& Int32.toUInt32 31)).toInt32) &&& 255)) 9 (((Int32.toUInt32 p3 >>> (Int32.toUInt32 16 &&& Int32.toUInt32 31)).toInt32) &&& 255)) 10 (((Int32.toUInt32 p3 >>> (Int32.toUInt32 8 &&& Int32.toUInt32 31)).toInt32) &&& 255)) 11 (((Int32.toUInt32 p3 >>> (Int32.toUInt32 0 &&& Int32.toUInt32 31)).toInt32) &&& 255)) 12 (((Int32.toUInt32 p4 >>> (Int32.toUInt32 24 &&& Int32.toUInt32 31)).toInt32) &&& 255)) 13 (((Int32.toUInt32 p4 >>> (Int32.toUInt32 16 &&& Int32.toUInt32 31)).toInt32) &&& 255)) 14 (((Int32.toUInt32 p4 >>> (Int32.toUInt32 8 &&& Int32.toUInt32 31)).toInt32) &&& 255)) 15 (((Int32.toUInt32 p4 >>> (Int32.toUInt32 0 &&& Int32.toUInt32 31)).toInt32) &&& 255)) p5 ) (cwV 1 hts (zgV wm_161 wm_162 wm_163 wm_14 wm_164) rfl rfl rfl (by decide +kernel) ⟨Nat.le_of_ble_eq_true rfl, Nat.le_of_ble_eq_true rfl⟩) hN hK hP hD hS hA [1, 2] [0] rfl rfl ⟨rfl, rfl⟩ (by decide) (ci := 5) rfl rfl rfl rfl hl.1 rfl (Nat.le_of_ble_eq_true rfl) dX7_feed_53 ⟨Nat.le_of_ble_eq_true rfl, Nat.le_of_ble_eq_true rfl⟩ (fun u hu H locs hP hD hS => ?_)
  have hP : va_P (dC, dI) vwCl [(x, .inr (7, [.ref xt, .ref xd, .ref h, .ref xk, .ref xl, .ref xw, .ref xp, .ref xs, .ref xr, .int 0, .int (-1), .int 0, .null])), (xt, .inr (5, [.ref b0, .int 20, .int 0])), (b0, .inl (cI, 100, .inl (upd (upd (upd (upd (upd (upd (upd (upd (upd (upd (upd (upd (upd (upd (upd (upd (upd (upd (upd (upd ft 0 (((Int32.toUInt32 p1 >>> (Int32.toUInt32 24 &&& Int32.toUInt32 31)).toInt32) &&& 255)) 1 (((Int32.toUInt32 p1 >>> (Int32.toUInt32 16 &&& Int32.toUInt32 31)).toInt32) &&& 255)) 2 (((Int32.toUInt32 p1 >>> (Int32.toUInt32 8 &&& Int32.toUInt32 31)).toInt32) &&& 255)) 3 (((Int32.toUInt32 p1 >>> (Int32.toUInt32 0 &&& Int32.toUInt32 31)).toInt32) &&& 255)) 4 (((Int32.toUInt32 p2 >>> (Int32.toUInt32 24 &&& Int32.toUInt32 31)).toInt32) &&& 255)) 5 (((Int32.toUInt32 p2 >>> (Int32.toUInt32 16 &&& Int32.toUInt32 31)).toInt32) &&& 255)) 6 (((Int32.toUInt32 p2 >>> (Int32.toUInt32 8 &&& Int32.toUInt32 31)).toInt32) &&& 255)) 7 (((Int32.toUInt32 p2 >>> (Int32.toUInt32 0 &&& Int32.toUInt32 31)).toInt32) &&& 255)) 8 (((Int32.toUInt32 p3 >>> (Int32.toUInt32 24 &&& Int32.toUInt32 31)).toInt32) &&& 255)) 9 (((Int32.toUInt32 p3 >>> (Int32.toUInt32 16 &&& Int32.toUInt32 31)).toInt32) &&& 255)) 10 (((Int32.toUInt32 p3 >>> (Int32.toUInt32 8 &&& Int32.toUInt32 31)).toInt32) &&& 255)) 11 (((Int32.toUInt32 p3 >>> (Int32.toUInt32 0 &&& Int32.toUInt32 31)).toInt32) &&& 255)) 12 (((Int32.toUInt32 p4 >>> (Int32.toUInt32 24 &&& Int32.toUInt32 31)).toInt32) &&& 255)) 13 (((Int32.toUInt32 p4 >>> (Int32.toUInt32 16 &&& Int32.toUInt32 31)).toInt32) &&& 255)) 14 (((Int32.toUInt32 p4 >>> (Int32.toUInt32 8 &&& Int32.toUInt32 31)).toInt32) &&& 255)) 15 (((Int32.toUInt32 p4 >>> (Int32.toUInt32 0 &&& Int32.toUInt32 31)).toInt32) &&& 255)) 16 (((Int32.toUInt32 p5 >>> (Int32.toUInt32 24 &&& Int32.toUInt32 31)).toInt32) &&& 255)) 17 (((Int32.toUInt32 p5 >>> (Int32.toUInt32 16 &&& Int32.toUInt32 31)).toInt32) &&& 255)) 18 (((Int32.toUInt32 p5 >>> (Int32.toUInt32 8 &&& Int32.toUInt32 31)).toInt32) &&& 255)) 19 (((Int32.toUInt32 p5 >>> (Int32.toUInt32 0 &&& Int32.toUInt32 31)).toInt32) &&& 255))))] H := hP
  have hD : va_D A [(x, .inr (7, [.ref xt, .ref xd, .ref h, .ref xk, .ref xl, .ref xw, .ref xp, .ref xs, .ref xr, .int 0, .int (-1), .int 0, .null])), (xt, .inr (5, [.ref b0, .int 20, .int 0])), (b0, .inl (cI, 100, .inl (upd (upd (upd (upd (upd (upd (upd (upd (upd (upd (upd (upd (upd (upd (upd (upd (upd (upd (upd (upd ft 0 (((Int32.toUInt32 p1 >>> (Int32.toUInt32 24 &&& Int32.toUInt32 31)).toInt32) &&& 255)) 1 (((Int32.toUInt32 p1 >>> (Int32.toUInt32 16 &&& Int32.toUInt32 31)).toInt32) &&& 255)) 2 (((Int32.toUInt32 p1 >>> (Int32.toUInt32 8 &&& Int32.toUInt32 31)).toInt32) &&& 255)) 3 (((Int32.toUInt32 p1 >>> (Int32.toUInt32 0 &&& Int32.toUInt32 31)).toInt32) &&& 255)) 4 (((Int32.toUInt32 p2 >>> (Int32.toUInt32 24 &&& Int32.toUInt32 31)).toInt32) &&& 255)) 5 (((Int32.toUInt32 p2 >>> (Int32.toUInt32 16 &&& Int32.toUInt32 31)).toInt32) &&& 255)) 6 (((Int32.toUInt32 p2 >>> (Int32.toUInt32 8 &&& Int32.toUInt32 31)).toInt32) &&& 255)) 7 (((Int32.toUInt32 p2 >>> (Int32.toUInt32 0 &&& Int32.toUInt32 31)).toInt32) &&& 255)) 8 (((Int32.toUInt32 p3 >>> (Int32.toUInt32 24 &&& Int32.toUInt32 31)).toInt32) &&& 255)) 9 (((Int32.toUInt32 p3 >>> (Int32.toUInt32 16 &&& Int32.toUInt32 31)).toInt32) &&& 255)) 10 (((Int32.toUInt32 p3 >>> (Int32.toUInt32 8 &&& Int32.toUInt32 31)).toInt32) &&& 255)) 11 (((Int32.toUInt32 p3 >>> (Int32.toUInt32 0 &&& Int32.toUInt32 31)).toInt32) &&& 255)) 12 (((Int32.toUInt32 p4 >>> (Int32.toUInt32 24 &&& Int32.toUInt32 31)).toInt32) &&& 255)) 13 (((Int32.toUInt32 p4 >>> (Int32.toUInt32 16 &&& Int32.toUInt32 31)).toInt32) &&& 255)) 14 (((Int32.toUInt32 p4 >>> (Int32.toUInt32 8 &&& Int32.toUInt32 31)).toInt32) &&& 255)) 15 (((Int32.toUInt32 p4 >>> (Int32.toUInt32 0 &&& Int32.toUInt32 31)).toInt32) &&& 255)) 16 (((Int32.toUInt32 p5 >>> (Int32.toUInt32 24 &&& Int32.toUInt32 31)).toInt32) &&& 255)) 17 (((Int32.toUInt32 p5 >>> (Int32.toUInt32 16 &&& Int32.toUInt32 31)).toInt32) &&& 255)) 18 (((Int32.toUInt32 p5 >>> (Int32.toUInt32 8 &&& Int32.toUInt32 31)).toInt32) &&& 255)) 19 (((Int32.toUInt32 p5 >>> (Int32.toUInt32 0 &&& Int32.toUInt32 31)).toInt32) &&& 255))))] := hD
  refine lv_aload_n hx hb dX7_feed_56 rfl (lv_at hl 0 rfl) ?_
  refine va_get (D := (dC, dI)) (ci := 7) (v := .ref xt) (C := RX7) (T := TX7) (N := 13) hx hb hts hinX7 hown hK hP 0 rfl rfl 0 (by decide) k_0 (fun _ h9 => h9) rfl dX7_feed_57 ?_
  refine va_get (D := (dC, dI)) (ci := 5) (v := .int 20) (C := RX5) (T := TX5) (N := 3) hx hb hts hinX5 hown hK hP 1 rfl rfl 1 (by decide) k_1 (fun _ h9 => h9) rfl dX7_feed_60 ?_
  have hP9 := hP.sub (ws' := [(x, .inr (7, [.ref xt, .ref xd, .ref h, .ref xk, .ref xl, .ref xw, .ref xp, .ref xs, .ref xr, .int 0, .int (-1), .int 0, .null])), (xt, .inr (5, [.ref b0, .int 20, .int 0])), (b0, .inl (cI, 100, .inl (upd (upd (upd (upd (upd (upd (upd (upd (upd (upd (upd (upd (upd (upd (upd (upd (upd (upd (upd (upd ft 0 (((Int32.toUInt32 p1 >>> (Int32.toUInt32 24 &&& Int32.toUInt32 31)).toInt32) &&& 255)) 1 (((Int32.toUInt32 p1 >>> (Int32.toUInt32 16 &&& Int32.toUInt32 31)).toInt32) &&& 255)) 2 (((Int32.toUInt32 p1 >>> (Int32.toUInt32 8 &&& Int32.toUInt32 31)).toInt32) &&& 255)) 3 (((Int32.toUInt32 p1 >>> (Int32.toUInt32 0 &&& Int32.toUInt32 31)).toInt32) &&& 255)) 4 (((Int32.toUInt32 p2 >>> (Int32.toUInt32 24 &&& Int32.toUInt32 31)).toInt32) &&& 255)) 5 (((Int32.toUInt32 p2 >>> (Int32.toUInt32 16 &&& Int32.toUInt32 31)).toInt32) &&& 255)) 6 (((Int32.toUInt32 p2 >>> (Int32.toUInt32 8 &&& Int32.toUInt32 31)).toInt32) &&& 255)) 7 (((Int32.toUInt32 p2 >>> (Int32.toUInt32 0 &&& Int32.toUInt32 31)).toInt32) &&& 255)) 8 (((Int32.toUInt32 p3 >>> (Int32.toUInt32 24 &&& Int32.toUInt32 31)).toInt32) &&& 255)) 9 (((Int32.toUInt32 p3 >>> (Int32.toUInt32 16 &&& Int32.toUInt32 31)).toInt32) &&& 255)) 10 (((Int32.toUInt32 p3 >>> (Int32.toUInt32 8 &&& Int32.toUInt32 31)).toInt32) &&& 255)) 11 (((Int32.toUInt32 p3 >>> (Int32.toUInt32 0 &&& Int32.toUInt32 31)).toInt32) &&& 255)) 12 (((Int32.toUInt32 p4 >>> (Int32.toUInt32 24 &&& Int32.toUInt32 31)).toInt32) &&& 255)) 13 (((Int32.toUInt32 p4 >>> (Int32.toUInt32 16 &&& Int32.toUInt32 31)).toInt32) &&& 255)) 14 (((Int32.toUInt32 p4 >>> (Int32.toUInt32 8 &&& Int32.toUInt32 31)).toInt32) &&& 255)) 15 (((Int32.toUInt32 p4 >>> (Int32.toUInt32 0 &&& Int32.toUInt32 31)).toInt32) &&& 255)) 16 (((Int32.toUInt32 p5 >>> (Int32.toUInt32 24 &&& Int32.toUInt32 31)).toInt32) &&& 255)) 17 (((Int32.toUInt32 p5 >>> (Int32.toUInt32 16 &&& Int32.toUInt32 31)).toInt32) &&& 255)) 18 (((Int32.toUInt32 p5 >>> (Int32.toUInt32 8 &&& Int32.toUInt32 31)).toInt32) &&& 255)) 19 (((Int32.toUInt32 p5 >>> (Int32.toUInt32 0 &&& Int32.toUInt32 31)).toInt32) &&& 255))))]) [0, 1, 2] rfl
  have hD9 := hD.sub (ws' := [(x, .inr (7, [.ref xt, .ref xd, .ref h, .ref xk, .ref xl, .ref xw, .ref xp, .ref xs, .ref xr, .int 0, .int (-1), .int 0, .null])), (xt, .inr (5, [.ref b0, .int 20, .int 0])), (b0, .inl (cI, 100, .inl (upd (upd (upd (upd (upd (upd (upd (upd (upd (upd (upd (upd (upd (upd (upd (upd (upd (upd (upd (upd ft 0 (((Int32.toUInt32 p1 >>> (Int32.toUInt32 24 &&& Int32.toUInt32 31)).toInt32) &&& 255)) 1 (((Int32.toUInt32 p1 >>> (Int32.toUInt32 16 &&& Int32.toUInt32 31)).toInt32) &&& 255)) 2 (((Int32.toUInt32 p1 >>> (Int32.toUInt32 8 &&& Int32.toUInt32 31)).toInt32) &&& 255)) 3 (((Int32.toUInt32 p1 >>> (Int32.toUInt32 0 &&& Int32.toUInt32 31)).toInt32) &&& 255)) 4 (((Int32.toUInt32 p2 >>> (Int32.toUInt32 24 &&& Int32.toUInt32 31)).toInt32) &&& 255)) 5 (((Int32.toUInt32 p2 >>> (Int32.toUInt32 16 &&& Int32.toUInt32 31)).toInt32) &&& 255)) 6 (((Int32.toUInt32 p2 >>> (Int32.toUInt32 8 &&& Int32.toUInt32 31)).toInt32) &&& 255)) 7 (((Int32.toUInt32 p2 >>> (Int32.toUInt32 0 &&& Int32.toUInt32 31)).toInt32) &&& 255)) 8 (((Int32.toUInt32 p3 >>> (Int32.toUInt32 24 &&& Int32.toUInt32 31)).toInt32) &&& 255)) 9 (((Int32.toUInt32 p3 >>> (Int32.toUInt32 16 &&& Int32.toUInt32 31)).toInt32) &&& 255)) 10 (((Int32.toUInt32 p3 >>> (Int32.toUInt32 8 &&& Int32.toUInt32 31)).toInt32) &&& 255)) 11 (((Int32.toUInt32 p3 >>> (Int32.toUInt32 0 &&& Int32.toUInt32 31)).toInt32) &&& 255)) 12 (((Int32.toUInt32 p4 >>> (Int32.toUInt32 24 &&& Int32.toUInt32 31)).toInt32) &&& 255)) 13 (((Int32.toUInt32 p4 >>> (Int32.toUInt32 16 &&& Int32.toUInt32 31)).toInt32) &&& 255)) 14 (((Int32.toUInt32 p4 >>> (Int32.toUInt32 8 &&& Int32.toUInt32 31)).toInt32) &&& 255)) 15 (((Int32.toUInt32 p4 >>> (Int32.toUInt32 0 &&& Int32.toUInt32 31)).toInt32) &&& 255)) 16 (((Int32.toUInt32 p5 >>> (Int32.toUInt32 24 &&& Int32.toUInt32 31)).toInt32) &&& 255)) 17 (((Int32.toUInt32 p5 >>> (Int32.toUInt32 16 &&& Int32.toUInt32 31)).toInt32) &&& 255)) 18 (((Int32.toUInt32 p5 >>> (Int32.toUInt32 8 &&& Int32.toUInt32 31)).toInt32) &&& 255)) 19 (((Int32.toUInt32 p5 >>> (Int32.toUInt32 0 &&& Int32.toUInt32 31)).toInt32) &&& 255))))]) [0, 1, 2] (by decide) rfl
  exact W.iret (v := 20) hx hb hr (fun t ht hW => ⟨⟨20, (), rfl, rfl, by rw [ht]; exact hP9, va_K.moved hW.alike hK, hD9⟩, hS.F ht⟩) hS.2.2 dX7_feed_63

def pfX7_end_r (p1 : Int32) : Int32 := if p1 < 0 then 0 else (if p1 ≤ 0 then 1 else 0)
def pfX7_end_xt_1 (p1 : Int32) : Int32 := if p1 < 0 then 0 else (if p1 ≤ 0 then p1 else 0)
set_option maxHeartbeats 4000000 in
set_option maxRecDepth 100000 in
theorem kkX7_end (l : Launch) (dC : Nat → ClassId) (dI : Nat → Nat → Nat) (cI cB cZ cR : ClassId) (sz : Nat) (x : Nat) (xt : Nat) (xd : Nat) (h : Nat) (xk : Nat) (xl : Nat) (xw : Nat) (xp : Nat) (xs : Nat) (xr : Nat) (b0 : Nat) (p1 : Int32) : Met l yX7_end (.code yX7_end cX7_end 2 (some .boolean) :: wsL_law) ({ frames := 0, cells := 0, slots := 0, locals := 0 }) (zPc dC dI (zT cI cB cZ cR) [.ref x, .int p1] sz [(x, .inr (7, [.ref xt, .ref xd, .ref h, .ref xk, .ref xl, .ref xw, .ref xp, .ref xs, .ref xr, .int 0, .int (-1), .int 0, .null])), (xt, .inr (5, [.ref b0, .int 0, .int 0]))]) (va_Qi (fun (r : Int32) (_ : Unit) => r = (pfX7_end_r p1)) (fun _ : Unit => zB dC dI (zT cI cB cZ cR) (va_A [(x, .inr (7, [.ref xt, .ref xd, .ref h, .ref xk, .ref xl, .ref xw, .ref xp, .ref xs, .ref xr, .int 0, .int (-1), .int 0, .null])), (xt, .inr (5, [.ref b0, .int 0, .int 0]))] sz) [(x, .inr (7, [.ref xt, .ref xd, .ref h, .ref xk, .ref xl, .ref xw, .ref xp, .ref xs, .ref xr, .int 0, .int (-1), .int 0, .null])), (xt, .inr (5, [.ref b0, .int (pfX7_end_xt_1 p1), .int 0]))]) (va_A [(x, .inr (7, [.ref xt, .ref xd, .ref h, .ref xk, .ref xl, .ref xw, .ref xp, .ref xs, .ref xr, .int 0, .int (-1), .int 0, .null])), (xt, .inr (5, [.ref b0, .int 0, .int 0]))] sz)) 0 0 (va_A [(x, .inr (7, [.ref xt, .ref xd, .ref h, .ref xk, .ref xl, .ref xw, .ref xp, .ref xs, .ref xr, .int 0, .int (-1), .int 0, .null])), (xt, .inr (5, [.ref b0, .int 0, .int 0]))] sz) := by
  refine Met.ofW (cc := cX7_end) (maxL := 2) (ret := (some .boolean)) (by decide) rfl ?_
  intro p e s m args below meth c s₁ B hml hv
  obtain ⟨rfl, hsz, hP, hK, hD0, hN⟩ := hv
  have hx := B.exec
  have hb := B.bytes
  have hr := B.returns
  have hts := atoms_spec (ws := (.code yX7_end cX7_end 2 (some .boolean) :: wsL_law)) B.pre
  have hown : s.vm.findClass RX7 = some m.cls := findClass_of_methodNamed B.named
  have hlocks := B.notSynchronized
  have hinX7 : ∀ w ∈ u_ws RX7 TX7 13, w ∈ (.code yX7_end cX7_end 2 (some .boolean) :: wsL_law) := fun w h => List.mem_cons_of_mem _ (inlX7 w h)
  have hinX5 : ∀ w ∈ u_ws RX5 TX5 3, w ∈ (.code yX7_end cX7_end 2 (some .boolean) :: wsL_law) := fun w h => List.mem_cons_of_mem _ (inlX5 w h)
  have k_0 := hts (.fieldLink RX7 10 "RingMarks" "tape" "LRingMarks$Tape;") (List.mem_cons_of_mem _ wm_15)
  have k_1 := hts (.fieldLink RX7 84 "RingMarks$Tape" "size" "I") (List.mem_cons_of_mem _ wm_156)
  subst hsz
  have hD := hD0.self (sz := s.heap.size)
  generalize hAe : va_A [(x, .inr (7, [.ref xt, .ref xd, .ref h, .ref xk, .ref xl, .ref xw, .ref xp, .ref xs, .ref xr, .int 0, .int (-1), .int 0, .null])), (xt, .inr (5, [.ref b0, .int 0, .int 0]))] s.heap.size = A at hD ⊢
  have hA : ∀ q : Nat, s.heap.size ≤ q → A q := fun q h => by rw [← hAe]; exact Or.inr h
  have hP : va_P (dC, dI) vwCl [(x, .inr (7, [.ref xt, .ref xd, .ref h, .ref xk, .ref xl, .ref xw, .ref xp, .ref xs, .ref xr, .int 0, .int (-1), .int 0, .null])), (xt, .inr (5, [.ref b0, .int 0, .int 0]))] s.heap := hP
  have hl := lv_entry ([.ref x, .int p1]) (n := 2) (Nat.le_of_ble_eq_true rfl)
  rw [lg_entry_eq]
  generalize (lg_sl ([.ref x, .int p1]) ++ List.replicate (2 - (lg_sl ([.ref x, .int p1])).length) Slot.unset).toArray = ls at hl ⊢
  have hl : lv_has ls 2 [(0, .ref x), (1, .int p1)] := hl
  obtain ⟨H, hH⟩ : ∃ H, H = s.heap := ⟨_, rfl⟩
  rw [← hH] at hP ⊢
  have hS : va_S A s.heap H [] := by rw [hH]; exact va_S.rf
  refine lv_iload_n hx hb dX7_end_0 rfl (lv_at hl 1 rfl) ?_
  refine lv_if_lt (tgt := 15) hx hb dX7_end_1 (by decide) (fun c_1 => ?_) (fun c_1 => ?_)
  · refine lv_iconst (v := 0) hx hb dX7_end_15 (by decide) ?_
    have e_0 : (pfX7_end_r p1) = 0 := by rw [pfX7_end_r, if_pos c_1]
    have e_1 : (pfX7_end_xt_1 p1) = 0 := by rw [pfX7_end_xt_1, if_pos c_1]
    have hP9 := hP.sub (ws' := [(x, .inr (7, [.ref xt, .ref xd, .ref h, .ref xk, .ref xl, .ref xw, .ref xp, .ref xs, .ref xr, .int 0, .int (-1), .int 0, .null])), (xt, .inr (5, [.ref b0, .int 0, .int 0]))]) [0, 1] rfl
    have hD9 := hD.sub (ws' := [(x, .inr (7, [.ref xt, .ref xd, .ref h, .ref xk, .ref xl, .ref xw, .ref xp, .ref xs, .ref xr, .int 0, .int (-1), .int 0, .null])), (xt, .inr (5, [.ref b0, .int 0, .int 0]))]) [0, 1] (by decide) rfl
    exact W.zret (v := 0) hx hb hr rfl (fun t ht hW => ⟨⟨0, (), rfl, e_0.symm, by rw [ht, e_1]; exact hP9, va_K.moved hW.alike hK, (by rw [e_1]; exact hD9)⟩, hS.F ht⟩) hS.2.2 dX7_end_16
  · refine lv_iload_n hx hb dX7_end_4 rfl (lv_at hl 1 rfl) ?_
    refine lv_aload_n hx hb dX7_end_5 rfl (lv_at hl 0 rfl) ?_
    refine va_get (D := (dC, dI)) (ci := 7) (v := .ref xt) (C := RX7) (T := TX7) (N := 13) hx hb hts hinX7 hown hK hP 0 rfl rfl 0 (by decide) k_0 (fun _ h9 => h9) rfl dX7_end_6 ?_
    refine va_get (D := (dC, dI)) (ci := 5) (v := .int 0) (C := RX5) (T := TX5) (N := 3) hx hb hts hinX5 hown hK hP 1 rfl rfl 1 (by decide) k_1 (fun _ h9 => h9) rfl dX7_end_9 ?_
    refine lv_icmp_le (tgt := 17) hx hb dX7_end_12 (by decide) (fun c_2 => ?_) (fun c_2 => ?_)
    · refine lv_aload_n hx hb dX7_end_17 rfl (lv_at hl 0 rfl) ?_
      refine va_get (D := (dC, dI)) (ci := 7) (v := .ref xt) (C := RX7) (T := TX7) (N := 13) hx hb hts hinX7 hown hK hP 0 rfl rfl 0 (by decide) k_0 (fun _ h9 => h9) rfl dX7_end_18 ?_
      refine lv_iload_n hx hb dX7_end_21 rfl (lv_at hl 1 rfl) ?_
      refine va_put (D := (dC, dI)) (ci := 5) (v := .int p1) (ty := tyX5 1) (C := RX5) (T := TX5) (N := 3) hx hb hts hinX5 tyX5 tyX5_ok nmX5 hown hK hP hD hS 1 rfl rfl 1 (by decide) k_1 (fun _ h9 => h9) rfl (by decide +kernel) rfl rfl (Nat.le_of_ble_eq_true rfl) dX7_end_22 (fun H locs hP hD hS => ?_)
      have hP : va_P (dC, dI) vwCl [(x, .inr (7, [.ref xt, .ref xd, .ref h, .ref xk, .ref xl, .ref xw, .ref xp, .ref xs, .ref xr, .int 0, .int (-1), .int 0, .null])), (xt, .inr (5, [.ref b0, .int p1, .int 0]))] H := hP
      have hD : va_D A [(x, .inr (7, [.ref xt, .ref xd, .ref h, .ref xk, .ref xl, .ref xw, .ref xp, .ref xs, .ref xr, .int 0, .int (-1), .int 0, .null])), (xt, .inr (5, [.ref b0, .int p1, .int 0]))] := hD
      refine lv_iconst (v := 1) hx hb dX7_end_25 (by decide) ?_
      have e_0 : (pfX7_end_r p1) = 1 := by rw [pfX7_end_r, if_neg c_1, if_pos c_2]
      have e_1 : (pfX7_end_xt_1 p1) = p1 := by rw [pfX7_end_xt_1, if_neg c_1, if_pos c_2]
      have hP9 := hP.sub (ws' := [(x, .inr (7, [.ref xt, .ref xd, .ref h, .ref xk, .ref xl, .ref xw, .ref xp, .ref xs, .ref xr, .int 0, .int (-1), .int 0, .null])), (xt, .inr (5, [.ref b0, .int p1, .int 0]))]) [0, 1] rfl
      have hD9 := hD.sub (ws' := [(x, .inr (7, [.ref xt, .ref xd, .ref h, .ref xk, .ref xl, .ref xw, .ref xp, .ref xs, .ref xr, .int 0, .int (-1), .int 0, .null])), (xt, .inr (5, [.ref b0, .int p1, .int 0]))]) [0, 1] (by decide) rfl
      exact W.zret (v := 1) hx hb hr rfl (fun t ht hW => ⟨⟨1, (), rfl, e_0.symm, by rw [ht, e_1]; exact hP9, va_K.moved hW.alike hK, (by rw [e_1]; exact hD9)⟩, hS.F ht⟩) hS.2.2 dX7_end_26
    · refine lv_iconst (v := 0) hx hb dX7_end_15 (by decide) ?_
      have e_0 : (pfX7_end_r p1) = 0 := by rw [pfX7_end_r, if_neg c_1, if_neg c_2]
      have e_1 : (pfX7_end_xt_1 p1) = 0 := by rw [pfX7_end_xt_1, if_neg c_1, if_neg c_2]
      have hP9 := hP.sub (ws' := [(x, .inr (7, [.ref xt, .ref xd, .ref h, .ref xk, .ref xl, .ref xw, .ref xp, .ref xs, .ref xr, .int 0, .int (-1), .int 0, .null])), (xt, .inr (5, [.ref b0, .int 0, .int 0]))]) [0, 1] rfl
      have hD9 := hD.sub (ws' := [(x, .inr (7, [.ref xt, .ref xd, .ref h, .ref xk, .ref xl, .ref xw, .ref xp, .ref xs, .ref xr, .int 0, .int (-1), .int 0, .null])), (xt, .inr (5, [.ref b0, .int 0, .int 0]))]) [0, 1] (by decide) rfl
      exact W.zret (v := 0) hx hb hr rfl (fun t ht hW => ⟨⟨0, (), rfl, e_0.symm, by rw [ht, e_1]; exact hP9, va_K.moved hW.alike hK, (by rw [e_1]; exact hD9)⟩, hS.F ht⟩) hS.2.2 dX7_end_16

set_option maxHeartbeats 4000000 in
set_option maxRecDepth 100000 in
theorem kkX0_clear (l : Launch) (dC : Nat → ClassId) (dI : Nat → Nat → Nat) (cI cB cZ cR : ClassId) (sz : Nat) (xd : Nat) (l0 : Nat) (z0 : Nat) : Met l yX0_clear (.code yX0_clear cX0_clear 1 none :: wsL_law) ({ frames := 0, cells := 0, slots := 0, locals := 0 }) (zPc dC dI (zT cI cB cZ cR) [.ref xd] sz [(xd, .inr (0, [.ref l0, .ref z0, .int 0]))]) (va_Qv (fun _ : Unit => True) (fun _ : Unit => zB dC dI (zT cI cB cZ cR) (va_A [(xd, .inr (0, [.ref l0, .ref z0, .int 0]))] sz) [(xd, .inr (0, [.ref l0, .ref z0, .int 0]))]) (va_A [(xd, .inr (0, [.ref l0, .ref z0, .int 0]))] sz)) 0 0 (va_A [(xd, .inr (0, [.ref l0, .ref z0, .int 0]))] sz) := by
  refine Met.ofW (cc := cX0_clear) (maxL := 1) (ret := none) (by decide) rfl ?_
  intro p e s m args below meth c s₁ B hml hv
  obtain ⟨rfl, hsz, hP, hK, hD0, hN⟩ := hv
  have hx := B.exec
  have hb := B.bytes
  have hr := B.returns
  have hts := atoms_spec (ws := (.code yX0_clear cX0_clear 1 none :: wsL_law)) B.pre
  have hown : s.vm.findClass RX0 = some m.cls := findClass_of_methodNamed B.named
  have hlocks := B.notSynchronized
  have hinX0 : ∀ w ∈ u_ws RX0 TX0 3, w ∈ (.code yX0_clear cX0_clear 1 none :: wsL_law) := fun w h => List.mem_cons_of_mem _ (inlX0 w h)
  have k_0 := hts (.fieldLink RX0 19 "RingMarks$Chain" "size" "I") (List.mem_cons_of_mem _ wm_56)
  subst hsz
  have hD := hD0.self (sz := s.heap.size)
  generalize hAe : va_A [(xd, .inr (0, [.ref l0, .ref z0, .int 0]))] s.heap.size = A at hD ⊢
  have hA : ∀ q : Nat, s.heap.size ≤ q → A q := fun q h => by rw [← hAe]; exact Or.inr h
  have hP : va_P (dC, dI) vwCl [(xd, .inr (0, [.ref l0, .ref z0, .int 0]))] s.heap := hP
  have hl := lv_entry ([.ref xd]) (n := 1) (Nat.le_of_ble_eq_true rfl)
  rw [lg_entry_eq]
  generalize (lg_sl ([.ref xd]) ++ List.replicate (1 - (lg_sl ([.ref xd])).length) Slot.unset).toArray = ls at hl ⊢
  have hl : lv_has ls 1 [(0, .ref xd)] := hl
  obtain ⟨H, hH⟩ : ∃ H, H = s.heap := ⟨_, rfl⟩
  rw [← hH] at hP ⊢
  have hS : va_S A s.heap H [] := by rw [hH]; exact va_S.rf
  refine lv_aload_n hx hb dX0_clear_0 rfl (lv_at hl 0 rfl) ?_
  refine lv_iconst (v := 0) hx hb dX0_clear_1 (by decide) ?_
  refine va_put (D := (dC, dI)) (ci := 0) (v := .int 0) (ty := tyX0 2) (C := RX0) (T := TX0) (N := 3) hx hb hts hinX0 tyX0 tyX0_ok nmX0 hown hK hP hD hS 0 rfl rfl 2 (by decide) k_0 (fun _ h9 => h9) rfl (by decide +kernel) rfl rfl (Nat.le_of_ble_eq_true rfl) dX0_clear_2 (fun H locs hP hD hS => ?_)
  have hP : va_P (dC, dI) vwCl [(xd, .inr (0, [.ref l0, .ref z0, .int 0]))] H := hP
  have hD : va_D A [(xd, .inr (0, [.ref l0, .ref z0, .int 0]))] := hD
  have hP9 := hP.sub (ws' := [(xd, .inr (0, [.ref l0, .ref z0, .int 0]))]) [0] rfl
  have hD9 := hD.sub (ws' := [(xd, .inr (0, [.ref l0, .ref z0, .int 0]))]) [0] (by decide) rfl
  exact W.vret hx hb hr (fun t ht hW => ⟨⟨(), rfl, trivial, by rw [ht]; exact hP9, va_K.moved hW.alike hK, hD9⟩, hS.F ht⟩) hS.2.2 dX0_clear_5

set_option maxHeartbeats 4000000 in
set_option maxRecDepth 100000 in
theorem kkX5_byteAt_0 (l : Launch) (dC : Nat → ClassId) (dI : Nat → Nat → Nat) (cI cB cZ cR : ClassId) (sz : Nat) (xt : Nat) (b0 : Nat) : Met l yX5_byteAt (.code yX5_byteAt cX5_byteAt 2 (some .int) :: wsL_law) ({ frames := 0, cells := 0, slots := 0, locals := 0 }) (zPc dC dI (zT cI cB cZ cR) [.ref xt, .int 0] sz [(xt, .inr (5, [.ref b0, .int 0, .int 0]))]) (va_Qi (fun (r : Int32) (_ : Unit) => r = (-1)) (fun _ : Unit => zB dC dI (zT cI cB cZ cR) (va_A [(xt, .inr (5, [.ref b0, .int 0, .int 0]))] sz) [(xt, .inr (5, [.ref b0, .int 0, .int 0]))]) (va_A [(xt, .inr (5, [.ref b0, .int 0, .int 0]))] sz)) 0 0 (va_A [(xt, .inr (5, [.ref b0, .int 0, .int 0]))] sz) := by
  refine Met.ofW (cc := cX5_byteAt) (maxL := 2) (ret := (some .int)) (by decide) rfl ?_
  intro p e s m args below meth c s₁ B hml hv
  obtain ⟨rfl, hsz, hP, hK, hD0, hN⟩ := hv
  have hx := B.exec
  have hb := B.bytes
  have hr := B.returns
  have hts := atoms_spec (ws := (.code yX5_byteAt cX5_byteAt 2 (some .int) :: wsL_law)) B.pre
  have hown : s.vm.findClass RX5 = some m.cls := findClass_of_methodNamed B.named
  have hlocks := B.notSynchronized
  have hinX5 : ∀ w ∈ u_ws RX5 TX5 3, w ∈ (.code yX5_byteAt cX5_byteAt 2 (some .int) :: wsL_law) := fun w h => List.mem_cons_of_mem _ (inlX5 w h)
  have k_0 := hts (.fieldLink RX5 15 "RingMarks$Tape" "size" "I") (List.mem_cons_of_mem _ wm_48)
  subst hsz
  have hD := hD0.self (sz := s.heap.size)
  generalize hAe : va_A [(xt, .inr (5, [.ref b0, .int 0, .int 0]))] s.heap.size = A at hD ⊢
  have hA : ∀ q : Nat, s.heap.size ≤ q → A q := fun q h => by rw [← hAe]; exact Or.inr h
  have hP : va_P (dC, dI) vwCl [(xt, .inr (5, [.ref b0, .int 0, .int 0]))] s.heap := hP
  have hl := lv_entry ([.ref xt, .int 0]) (n := 2) (Nat.le_of_ble_eq_true rfl)
  rw [lg_entry_eq]
  generalize (lg_sl ([.ref xt, .int 0]) ++ List.replicate (2 - (lg_sl ([.ref xt, .int 0])).length) Slot.unset).toArray = ls at hl ⊢
  have hl : lv_has ls 2 [(0, .ref xt), (1, .int 0)] := hl
  obtain ⟨H, hH⟩ : ∃ H, H = s.heap := ⟨_, rfl⟩
  rw [← hH] at hP ⊢
  have hS : va_S A s.heap H [] := by rw [hH]; exact va_S.rf
  refine lv_iload_n hx hb dX5_byteAt_0 rfl (lv_at hl 1 rfl) ?_
  refine lv_if_lt (tgt := 27) hx hb dX5_byteAt_1 (by decide) (fun c => absurd c (by decide)) (fun _ => ?_)
  refine lv_iload_n hx hb dX5_byteAt_4 rfl (lv_at hl 1 rfl) ?_
  refine lv_aload_n hx hb dX5_byteAt_5 rfl (lv_at hl 0 rfl) ?_
  refine va_get (D := (dC, dI)) (ci := 5) (v := .int 0) (C := RX5) (T := TX5) (N := 3) hx hb hts hinX5 hown hK hP 0 rfl rfl 1 (by decide) k_0 (fun _ h9 => h9) rfl dX5_byteAt_6 ?_
  refine lv_icmp_ge (tgt := 27) hx hb dX5_byteAt_9 (by decide) (fun _ => ?_) (fun c => absurd (by decide) c)
  refine lv_iconst (v := (-1)) hx hb dX5_byteAt_27 (by decide) ?_
  have hP9 := hP.sub (ws' := [(xt, .inr (5, [.ref b0, .int 0, .int 0]))]) [0] rfl
  have hD9 := hD.sub (ws' := [(xt, .inr (5, [.ref b0, .int 0, .int 0]))]) [0] (by decide) rfl
  exact W.iret (v := (-1)) hx hb hr (fun t ht hW => ⟨⟨(-1), (), rfl, rfl, by rw [ht]; exact hP9, va_K.moved hW.alike hK, hD9⟩, hS.F ht⟩) hS.2.2 dX5_byteAt_28

set_option maxHeartbeats 4000000 in
set_option maxRecDepth 100000 in
theorem kkX5_peek_0 (l : Launch) (dC : Nat → ClassId) (dI : Nat → Nat → Nat) (cI cB cZ cR : ClassId) (sz : Nat) (xt : Nat) (b0 : Nat) : Met l yX5_peek (.code yX5_peek cX5_peek 1 (some .int) :: wsL_law) ({ frames := 1, cells := 0, slots := 0, locals := 21 }) (zPc dC dI (zT cI cB cZ cR) [.ref xt] sz [(xt, .inr (5, [.ref b0, .int 0, .int 0]))]) (va_Qi (fun (r : Int32) (_ : Unit) => r = (-1)) (fun _ : Unit => zB dC dI (zT cI cB cZ cR) (va_A [(xt, .inr (5, [.ref b0, .int 0, .int 0]))] sz) [(xt, .inr (5, [.ref b0, .int 0, .int 0]))]) (va_A [(xt, .inr (5, [.ref b0, .int 0, .int 0]))] sz)) 0 0 (va_A [(xt, .inr (5, [.ref b0, .int 0, .int 0]))] sz) := by
  refine Met.ofW (cc := cX5_peek) (maxL := 1) (ret := (some .int)) (by decide) rfl ?_
  intro p e s m args below meth c s₁ B hml hv
  obtain ⟨rfl, hsz, hP, hK, hD0, hN⟩ := hv
  have hx := B.exec
  have hb := B.bytes
  have hr := B.returns
  have hts := atoms_spec (ws := (.code yX5_peek cX5_peek 1 (some .int) :: wsL_law)) B.pre
  have hown : s.vm.findClass RX5 = some m.cls := findClass_of_methodNamed B.named
  have hlocks := B.notSynchronized
  have hinX5 : ∀ w ∈ u_ws RX5 TX5 3, w ∈ (.code yX5_peek cX5_peek 1 (some .int) :: wsL_law) := fun w h => List.mem_cons_of_mem _ (inlX5 w h)
  have k_0 := hts (.fieldLink RX5 19 "RingMarks$Tape" "at" "I") (List.mem_cons_of_mem _ wm_49)
  subst hsz
  have hD := hD0.self (sz := s.heap.size)
  generalize hAe : va_A [(xt, .inr (5, [.ref b0, .int 0, .int 0]))] s.heap.size = A at hD ⊢
  have hA : ∀ q : Nat, s.heap.size ≤ q → A q := fun q h => by rw [← hAe]; exact Or.inr h
  have hP : va_P (dC, dI) vwCl [(xt, .inr (5, [.ref b0, .int 0, .int 0]))] s.heap := hP
  have hl := lv_entry ([.ref xt]) (n := 1) (Nat.le_of_ble_eq_true rfl)
  rw [lg_entry_eq]
  generalize (lg_sl ([.ref xt]) ++ List.replicate (1 - (lg_sl ([.ref xt])).length) Slot.unset).toArray = ls at hl ⊢
  have hl : lv_has ls 1 [(0, .ref xt)] := hl
  obtain ⟨H, hH⟩ : ∃ H, H = s.heap := ⟨_, rfl⟩
  rw [← hH] at hP ⊢
  have hS : va_S A s.heap H [] := by rw [hH]; exact va_S.rf
  refine lv_aload_n hx hb dX5_peek_0 rfl (lv_at hl 0 rfl) ?_
  refine lv_aload_n hx hb dX5_peek_1 rfl (lv_at hl 0 rfl) ?_
  refine va_get (D := (dC, dI)) (ci := 5) (v := .int 0) (C := RX5) (T := TX5) (N := 3) hx hb hts hinX5 hown hK hP 0 rfl rfl 2 (by decide) k_0 (fun _ h9 => h9) rfl dX5_peek_2 ?_
  refine zcVi (As := [.int 0]) (rest := []) (wr := []) ⟨hx, hb, hml, hown, hts⟩ (kkX5_byteAt_0 l dC dI cI cB cZ cR H.size xt b0 ) (cwV 1 hts (zgV wm_216 wm_217 wm_218 wm_14 wm_219) rfl rfl rfl (by decide +kernel) ⟨Nat.le_of_ble_eq_true rfl, Nat.le_of_ble_eq_true rfl⟩) hN hK hP hD hS hA [0] [] rfl rfl ⟨rfl, rfl⟩ (by decide) (ci := 5) rfl rfl rfl rfl hl.1 rfl (Nat.le_of_ble_eq_true rfl) dX5_peek_5 ⟨Nat.le_of_ble_eq_true rfl, Nat.le_of_ble_eq_true rfl⟩ (fun r u hu H locs hP hD hS => ?_)
  have hu : r = (-1) := hu
  subst hu
  have hP : va_P (dC, dI) vwCl [(xt, .inr (5, [.ref b0, .int 0, .int 0]))] H := hP
  have hD : va_D A [(xt, .inr (5, [.ref b0, .int 0, .int 0]))] := hD
  have hP9 := hP.sub (ws' := [(xt, .inr (5, [.ref b0, .int 0, .int 0]))]) [0] rfl
  have hD9 := hD.sub (ws' := [(xt, .inr (5, [.ref b0, .int 0, .int 0]))]) [0] (by decide) rfl
  exact W.iret (v := (-1)) hx hb hr (fun t ht hW => ⟨⟨(-1), (), rfl, rfl, by rw [ht]; exact hP9, va_K.moved hW.alike hK, hD9⟩, hS.F ht⟩) hS.2.2 dX5_peek_8

set_option maxHeartbeats 4000000 in
set_option maxRecDepth 100000 in
theorem kkX5_skipBlanks_0 (l : Launch) (dC : Nat → ClassId) (dI : Nat → Nat → Nat) (cI cB cZ cR : ClassId) (sz : Nat) (xt : Nat) (b0 : Nat) : Met l yX5_skipBlanks (.code yX5_skipBlanks cX5_skipBlanks 1 none :: wsL_law) ({ frames := 0, cells := 0, slots := 0, locals := 0 }) (zPc dC dI (zT cI cB cZ cR) [.ref xt] sz [(xt, .inr (5, [.ref b0, .int 0, .int 0]))]) (va_Qv (fun _ : Unit => True) (fun _ : Unit => zB dC dI (zT cI cB cZ cR) (va_A [(xt, .inr (5, [.ref b0, .int 0, .int 0]))] sz) [(xt, .inr (5, [.ref b0, .int 0, .int 0]))]) (va_A [(xt, .inr (5, [.ref b0, .int 0, .int 0]))] sz)) 0 0 (va_A [(xt, .inr (5, [.ref b0, .int 0, .int 0]))] sz) := by
  refine Met.ofW (cc := cX5_skipBlanks) (maxL := 1) (ret := none) (by decide) rfl ?_
  intro p e s m args below meth c s₁ B hml hv
  obtain ⟨rfl, hsz, hP, hK, hD0, hN⟩ := hv
  have hx := B.exec
  have hb := B.bytes
  have hr := B.returns
  have hts := atoms_spec (ws := (.code yX5_skipBlanks cX5_skipBlanks 1 none :: wsL_law)) B.pre
  have hown : s.vm.findClass RX5 = some m.cls := findClass_of_methodNamed B.named
  have hlocks := B.notSynchronized
  have hinX5 : ∀ w ∈ u_ws RX5 TX5 3, w ∈ (.code yX5_skipBlanks cX5_skipBlanks 1 none :: wsL_law) := fun w h => List.mem_cons_of_mem _ (inlX5 w h)
  have k_0 := hts (.fieldLink RX5 19 "RingMarks$Tape" "at" "I") (List.mem_cons_of_mem _ wm_49)
  have k_1 := hts (.fieldLink RX5 15 "RingMarks$Tape" "size" "I") (List.mem_cons_of_mem _ wm_48)
  subst hsz
  have hD := hD0.self (sz := s.heap.size)
  generalize hAe : va_A [(xt, .inr (5, [.ref b0, .int 0, .int 0]))] s.heap.size = A at hD ⊢
  have hA : ∀ q : Nat, s.heap.size ≤ q → A q := fun q h => by rw [← hAe]; exact Or.inr h
  have hP : va_P (dC, dI) vwCl [(xt, .inr (5, [.ref b0, .int 0, .int 0]))] s.heap := hP
  have hl := lv_entry ([.ref xt]) (n := 1) (Nat.le_of_ble_eq_true rfl)
  rw [lg_entry_eq]
  generalize (lg_sl ([.ref xt]) ++ List.replicate (1 - (lg_sl ([.ref xt])).length) Slot.unset).toArray = ls at hl ⊢
  have hl : lv_has ls 1 [(0, .ref xt)] := hl
  obtain ⟨H, hH⟩ : ∃ H, H = s.heap := ⟨_, rfl⟩
  rw [← hH] at hP ⊢
  have hS : va_S A s.heap H [] := by rw [hH]; exact va_S.rf
  refine lv_aload_n hx hb dX5_skipBlanks_0 rfl (lv_at hl 0 rfl) ?_
  refine va_get (D := (dC, dI)) (ci := 5) (v := .int 0) (C := RX5) (T := TX5) (N := 3) hx hb hts hinX5 hown hK hP 0 rfl rfl 2 (by decide) k_0 (fun _ h9 => h9) rfl dX5_skipBlanks_1 ?_
  refine lv_aload_n hx hb dX5_skipBlanks_4 rfl (lv_at hl 0 rfl) ?_
  refine va_get (D := (dC, dI)) (ci := 5) (v := .int 0) (C := RX5) (T := TX5) (N := 3) hx hb hts hinX5 hown hK hP 0 rfl rfl 1 (by decide) k_1 (fun _ h9 => h9) rfl dX5_skipBlanks_5 ?_
  refine lv_icmp_ge (tgt := 33) hx hb dX5_skipBlanks_8 (by decide) (fun _ => ?_) (fun c => absurd (by decide) c)
  have hP9 := hP.sub (ws' := [(xt, .inr (5, [.ref b0, .int 0, .int 0]))]) [0] rfl
  have hD9 := hD.sub (ws' := [(xt, .inr (5, [.ref b0, .int 0, .int 0]))]) [0] (by decide) rfl
  exact W.vret hx hb hr (fun t ht hW => ⟨⟨(), rfl, trivial, by rw [ht]; exact hP9, va_K.moved hW.alike hK, hD9⟩, hS.F ht⟩) hS.2.2 dX5_skipBlanks_33

set_option maxHeartbeats 4000000 in
set_option maxRecDepth 100000 in
theorem kkX5_isAtEnd_0 (l : Launch) (dC : Nat → ClassId) (dI : Nat → Nat → Nat) (cI cB cZ cR : ClassId) (sz : Nat) (xt : Nat) (b0 : Nat) : Met l yX5_isAtEnd (.code yX5_isAtEnd cX5_isAtEnd 1 (some .boolean) :: wsL_law) ({ frames := 0, cells := 0, slots := 0, locals := 0 }) (zPc dC dI (zT cI cB cZ cR) [.ref xt] sz [(xt, .inr (5, [.ref b0, .int 0, .int 0]))]) (va_Qi (fun (r : Int32) (_ : Unit) => r = 1) (fun _ : Unit => zB dC dI (zT cI cB cZ cR) (va_A [(xt, .inr (5, [.ref b0, .int 0, .int 0]))] sz) [(xt, .inr (5, [.ref b0, .int 0, .int 0]))]) (va_A [(xt, .inr (5, [.ref b0, .int 0, .int 0]))] sz)) 0 0 (va_A [(xt, .inr (5, [.ref b0, .int 0, .int 0]))] sz) := by
  refine Met.ofW (cc := cX5_isAtEnd) (maxL := 1) (ret := (some .boolean)) (by decide) rfl ?_
  intro p e s m args below meth c s₁ B hml hv
  obtain ⟨rfl, hsz, hP, hK, hD0, hN⟩ := hv
  have hx := B.exec
  have hb := B.bytes
  have hr := B.returns
  have hts := atoms_spec (ws := (.code yX5_isAtEnd cX5_isAtEnd 1 (some .boolean) :: wsL_law)) B.pre
  have hown : s.vm.findClass RX5 = some m.cls := findClass_of_methodNamed B.named
  have hlocks := B.notSynchronized
  have hinX5 : ∀ w ∈ u_ws RX5 TX5 3, w ∈ (.code yX5_isAtEnd cX5_isAtEnd 1 (some .boolean) :: wsL_law) := fun w h => List.mem_cons_of_mem _ (inlX5 w h)
  have k_0 := hts (.fieldLink RX5 19 "RingMarks$Tape" "at" "I") (List.mem_cons_of_mem _ wm_49)
  have k_1 := hts (.fieldLink RX5 15 "RingMarks$Tape" "size" "I") (List.mem_cons_of_mem _ wm_48)
  subst hsz
  have hD := hD0.self (sz := s.heap.size)
  generalize hAe : va_A [(xt, .inr (5, [.ref b0, .int 0, .int 0]))] s.heap.size = A at hD ⊢
  have hA : ∀ q : Nat, s.heap.size ≤ q → A q := fun q h => by rw [← hAe]; exact Or.inr h
  have hP : va_P (dC, dI) vwCl [(xt, .inr (5, [.ref b0, .int 0, .int 0]))] s.heap := hP
  have hl := lv_entry ([.ref xt]) (n := 1) (Nat.le_of_ble_eq_true rfl)
  rw [lg_entry_eq]
  generalize (lg_sl ([.ref xt]) ++ List.replicate (1 - (lg_sl ([.ref xt])).length) Slot.unset).toArray = ls at hl ⊢
  have hl : lv_has ls 1 [(0, .ref xt)] := hl
  obtain ⟨H, hH⟩ : ∃ H, H = s.heap := ⟨_, rfl⟩
  rw [← hH] at hP ⊢
  have hS : va_S A s.heap H [] := by rw [hH]; exact va_S.rf
  refine lv_aload_n hx hb dX5_isAtEnd_0 rfl (lv_at hl 0 rfl) ?_
  refine va_get (D := (dC, dI)) (ci := 5) (v := .int 0) (C := RX5) (T := TX5) (N := 3) hx hb hts hinX5 hown hK hP 0 rfl rfl 2 (by decide) k_0 (fun _ h9 => h9) rfl dX5_isAtEnd_1 ?_
  refine lv_aload_n hx hb dX5_isAtEnd_4 rfl (lv_at hl 0 rfl) ?_
  refine va_get (D := (dC, dI)) (ci := 5) (v := .int 0) (C := RX5) (T := TX5) (N := 3) hx hb hts hinX5 hown hK hP 0 rfl rfl 1 (by decide) k_1 (fun _ h9 => h9) rfl dX5_isAtEnd_5 ?_
  refine lv_icmp_lt (tgt := 15) hx hb dX5_isAtEnd_8 (by decide) (fun c => absurd c (by decide)) (fun _ => ?_)
  refine lv_iconst (v := 1) hx hb dX5_isAtEnd_11 (by decide) ?_
  refine lv_goto (tgt := 16) hx hb dX5_isAtEnd_12 (by decide) ?_
  have hP9 := hP.sub (ws' := [(xt, .inr (5, [.ref b0, .int 0, .int 0]))]) [0] rfl
  have hD9 := hD.sub (ws' := [(xt, .inr (5, [.ref b0, .int 0, .int 0]))]) [0] (by decide) rfl
  exact W.zret (v := 1) hx hb hr rfl (fun t ht hW => ⟨⟨1, (), rfl, rfl, by rw [ht]; exact hP9, va_K.moved hW.alike hK, hD9⟩, hS.F ht⟩) hS.2.2 dX5_isAtEnd_16

set_option maxHeartbeats 4000000 in
set_option maxRecDepth 100000 in
theorem kkX0_readPart_0 (l : Launch) (dC : Nat → ClassId) (dI : Nat → Nat → Nat) (cI cB cZ cR : ClassId) (sz : Nat) (xd : Nat) (l0 : Nat) (z0 : Nat) (xt : Nat) (b0 : Nat) : Met l yX0_readPart (.code yX0_readPart cX0_readPart 5 (some .int) :: wsL_law) ({ frames := 2, cells := 0, slots := 0, locals := 41 }) (zPc dC dI (zT cI cB cZ cR) [.ref xd, .ref xt] sz [(xd, .inr (0, [.ref l0, .ref z0, .int 0])), (xt, .inr (5, [.ref b0, .int 0, .int 0]))]) (va_Qi (fun (r : Int32) (_ : Unit) => r = 0) (fun _ : Unit => zB dC dI (zT cI cB cZ cR) (va_A [(xd, .inr (0, [.ref l0, .ref z0, .int 0])), (xt, .inr (5, [.ref b0, .int 0, .int 0]))] sz) [(xd, .inr (0, [.ref l0, .ref z0, .int 0])), (xt, .inr (5, [.ref b0, .int 0, .int 0]))]) (va_A [(xd, .inr (0, [.ref l0, .ref z0, .int 0])), (xt, .inr (5, [.ref b0, .int 0, .int 0]))] sz)) 0 0 (va_A [(xd, .inr (0, [.ref l0, .ref z0, .int 0])), (xt, .inr (5, [.ref b0, .int 0, .int 0]))] sz) := by
  refine Met.ofW (cc := cX0_readPart) (maxL := 5) (ret := (some .int)) (by decide) rfl ?_
  intro p e s m args below meth c s₁ B hml hv
  obtain ⟨rfl, hsz, hP, hK, hD0, hN⟩ := hv
  have hx := B.exec
  have hb := B.bytes
  have hr := B.returns
  have hts := atoms_spec (ws := (.code yX0_readPart cX0_readPart 5 (some .int) :: wsL_law)) B.pre
  have hown : s.vm.findClass RX0 = some m.cls := findClass_of_methodNamed B.named
  have hlocks := B.notSynchronized
  have hinX5 : ∀ w ∈ u_ws RX5 TX5 3, w ∈ (.code yX0_readPart cX0_readPart 5 (some .int) :: wsL_law) := fun w h => List.mem_cons_of_mem _ (inlX5 w h)
  have k_0 := hts (.fieldLink RX0 31 "RingMarks$Tape" "at" "I") (List.mem_cons_of_mem _ wm_203)
  subst hsz
  have hD := hD0.self (sz := s.heap.size)
  generalize hAe : va_A [(xd, .inr (0, [.ref l0, .ref z0, .int 0])), (xt, .inr (5, [.ref b0, .int 0, .int 0]))] s.heap.size = A at hD ⊢
  have hA : ∀ q : Nat, s.heap.size ≤ q → A q := fun q h => by rw [← hAe]; exact Or.inr h
  have hP : va_P (dC, dI) vwCl [(xd, .inr (0, [.ref l0, .ref z0, .int 0])), (xt, .inr (5, [.ref b0, .int 0, .int 0]))] s.heap := hP
  have hl := lv_entry ([.ref xd, .ref xt]) (n := 5) (Nat.le_of_ble_eq_true rfl)
  rw [lg_entry_eq]
  generalize (lg_sl ([.ref xd, .ref xt]) ++ List.replicate (5 - (lg_sl ([.ref xd, .ref xt])).length) Slot.unset).toArray = ls at hl ⊢
  have hl : lv_has ls 5 [(0, .ref xd), (1, .ref xt)] := hl
  obtain ⟨H, hH⟩ : ∃ H, H = s.heap := ⟨_, rfl⟩
  rw [← hH] at hP ⊢
  have hS : va_S A s.heap H [] := by rw [hH]; exact va_S.rf
  refine lv_aload_n hx hb dX0_readPart_0 rfl (lv_at hl 1 rfl) ?_
  refine zcVi (As := []) (rest := []) (wr := [(xd, .inr (0, [.ref l0, .ref z0, .int 0]))]) ⟨hx, hb, hml, hown, hts⟩ (kkX5_peek_0 l dC dI cI cB cZ cR H.size xt b0 ) (cwV 0 hts (zgV wm_228 wm_213 wm_214 wm_14 wm_215) rfl rfl rfl (by decide +kernel) ⟨Nat.le_of_ble_eq_true rfl, Nat.le_of_ble_eq_true rfl⟩) hN hK hP hD hS hA [1] [0] rfl rfl ⟨rfl, rfl⟩ (by decide) (ci := 5) rfl rfl rfl rfl hl.1 rfl (Nat.le_of_ble_eq_true rfl) dX0_readPart_1 ⟨Nat.le_of_ble_eq_true rfl, Nat.le_of_ble_eq_true rfl⟩ (fun r u hu H locs hP hD hS => ?_)
  have hu : r = (-1) := hu
  subst hu
  have hP : va_P (dC, dI) vwCl [(xd, .inr (0, [.ref l0, .ref z0, .int 0])), (xt, .inr (5, [.ref b0, .int 0, .int 0]))] H := hP
  have hD : va_D A [(xd, .inr (0, [.ref l0, .ref z0, .int 0])), (xt, .inr (5, [.ref b0, .int 0, .int 0]))] := hD
  refine lv_bipush (v := 119) hx hb dX0_readPart_4 (by decide) ?_
  refine lv_icmp_ne (tgt := 13) hx hb dX0_readPart_6 (by decide) (fun _ => ?_) (fun c => absurd c (by decide))
  refine lv_iconst (v := 0) hx hb dX0_readPart_13 (by decide) ?_
  refine lv_istore_n (lv' := [(2, .int 0), (0, .ref xd), (1, .ref xt)]) hx hb dX0_readPart_14 rfl hl (by decide) rfl (fun ls hl => ?_)
  refine lv_iload_n hx hb dX0_readPart_15 rfl (lv_at hl 0 rfl) ?_
  refine lv_if_ne (tgt := 33) hx hb dX0_readPart_16 (by decide) (fun c => absurd (by decide) c) (fun _ => ?_)
  refine lv_aload_n hx hb dX0_readPart_19 rfl (lv_at hl 2 rfl) ?_
  refine zcVi (As := []) (rest := []) (wr := [(xd, .inr (0, [.ref l0, .ref z0, .int 0]))]) ⟨hx, hb, hml, hown, hts⟩ (kkX5_peek_0 l dC dI cI cB cZ cR H.size xt b0 ) (cwV 0 hts (zgV wm_228 wm_213 wm_214 wm_14 wm_215) rfl rfl rfl (by decide +kernel) ⟨Nat.le_of_ble_eq_true rfl, Nat.le_of_ble_eq_true rfl⟩) hN hK hP hD hS hA [1] [0] rfl rfl ⟨rfl, rfl⟩ (by decide) (ci := 5) rfl rfl rfl rfl hl.1 rfl (Nat.le_of_ble_eq_true rfl) dX0_readPart_20 ⟨Nat.le_of_ble_eq_true rfl, Nat.le_of_ble_eq_true rfl⟩ (fun r u hu H locs hP hD hS => ?_)
  have hu : r = (-1) := hu
  subst hu
  have hP : va_P (dC, dI) vwCl [(xd, .inr (0, [.ref l0, .ref z0, .int 0])), (xt, .inr (5, [.ref b0, .int 0, .int 0]))] H := hP
  have hD : va_D A [(xd, .inr (0, [.ref l0, .ref z0, .int 0])), (xt, .inr (5, [.ref b0, .int 0, .int 0]))] := hD
  refine lv_bipush (v := 114) hx hb dX0_readPart_23 (by decide) ?_
  refine lv_icmp_eq (tgt := 33) hx hb dX0_readPart_25 (by decide) (fun c => absurd c (by decide)) (fun _ => ?_)
  refine lv_aload_n hx hb dX0_readPart_28 rfl (lv_at hl 2 rfl) ?_
  refine va_get (D := (dC, dI)) (ci := 5) (v := .int 0) (C := RX5) (T := TX5) (N := 3) hx hb hts hinX5 hown hK hP 1 rfl rfl 2 (by decide) k_0 (fun _ h9 => h9) rfl dX0_readPart_29 ?_
  have hP9 := hP.sub (ws' := [(xd, .inr (0, [.ref l0, .ref z0, .int 0])), (xt, .inr (5, [.ref b0, .int 0, .int 0]))]) [0, 1] rfl
  have hD9 := hD.sub (ws' := [(xd, .inr (0, [.ref l0, .ref z0, .int 0])), (xt, .inr (5, [.ref b0, .int 0, .int 0]))]) [0, 1] (by decide) rfl
  exact W.iret (v := 0) hx hb hr (fun t ht hW => ⟨⟨0, (), rfl, rfl, by rw [ht]; exact hP9, va_K.moved hW.alike hK, hD9⟩, hS.F ht⟩) hS.2.2 dX0_readPart_32

set_option maxHeartbeats 4000000 in
set_option maxRecDepth 100000 in
theorem kkX0_readFrom_0 (l : Launch) (dC : Nat → ClassId) (dI : Nat → Nat → Nat) (cI cB cZ cR : ClassId) (sz : Nat) (xd : Nat) (l0 : Nat) (z0 : Nat) (xt : Nat) (b0 : Nat) : Met l yX0_readFrom (.code yX0_readFrom cX0_readFrom 4 (some .int) :: wsL_law) ({ frames := 3, cells := 0, slots := 0, locals := 65 }) (zPc dC dI (zT cI cB cZ cR) [.ref xd, .ref xt] sz [(xd, .inr (0, [.ref l0, .ref z0, .int 0])), (xt, .inr (5, [.ref b0, .int 0, .int 0]))]) (va_Qi (fun (r : Int32) (_ : Unit) => r = 0) (fun _ : Unit => zB dC dI (zT cI cB cZ cR) (va_A [(xd, .inr (0, [.ref l0, .ref z0, .int 0])), (xt, .inr (5, [.ref b0, .int 0, .int 0]))] sz) [(xd, .inr (0, [.ref l0, .ref z0, .int 0])), (xt, .inr (5, [.ref b0, .int 0, .int 0]))]) (va_A [(xd, .inr (0, [.ref l0, .ref z0, .int 0])), (xt, .inr (5, [.ref b0, .int 0, .int 0]))] sz)) 0 0 (va_A [(xd, .inr (0, [.ref l0, .ref z0, .int 0])), (xt, .inr (5, [.ref b0, .int 0, .int 0]))] sz) := by
  refine Met.ofW (cc := cX0_readFrom) (maxL := 4) (ret := (some .int)) (by decide) rfl ?_
  intro p e s m args below meth c s₁ B hml hv
  obtain ⟨rfl, hsz, hP, hK, hD0, hN⟩ := hv
  have hx := B.exec
  have hb := B.bytes
  have hr := B.returns
  have hts := atoms_spec (ws := (.code yX0_readFrom cX0_readFrom 4 (some .int) :: wsL_law)) B.pre
  have hown : s.vm.findClass RX0 = some m.cls := findClass_of_methodNamed B.named
  have hlocks := B.notSynchronized
  have hinX5 : ∀ w ∈ u_ws RX5 TX5 3, w ∈ (.code yX0_readFrom cX0_readFrom 4 (some .int) :: wsL_law) := fun w h => List.mem_cons_of_mem _ (inlX5 w h)
  have k_0 := hts (.fieldLink RX0 28 "RingMarks$Tape" "size" "I") (List.mem_cons_of_mem _ wm_202)
  have k_1 := hts (.fieldLink RX0 31 "RingMarks$Tape" "at" "I") (List.mem_cons_of_mem _ wm_203)
  subst hsz
  have hD := hD0.self (sz := s.heap.size)
  generalize hAe : va_A [(xd, .inr (0, [.ref l0, .ref z0, .int 0])), (xt, .inr (5, [.ref b0, .int 0, .int 0]))] s.heap.size = A at hD ⊢
  have hA : ∀ q : Nat, s.heap.size ≤ q → A q := fun q h => by rw [← hAe]; exact Or.inr h
  have hP : va_P (dC, dI) vwCl [(xd, .inr (0, [.ref l0, .ref z0, .int 0])), (xt, .inr (5, [.ref b0, .int 0, .int 0]))] s.heap := hP
  have hl := lv_entry ([.ref xd, .ref xt]) (n := 4) (Nat.le_of_ble_eq_true rfl)
  rw [lg_entry_eq]
  generalize (lg_sl ([.ref xd, .ref xt]) ++ List.replicate (4 - (lg_sl ([.ref xd, .ref xt])).length) Slot.unset).toArray = ls at hl ⊢
  have hl : lv_has ls 4 [(0, .ref xd), (1, .ref xt)] := hl
  obtain ⟨H, hH⟩ : ∃ H, H = s.heap := ⟨_, rfl⟩
  rw [← hH] at hP ⊢
  have hS : va_S A s.heap H [] := by rw [hH]; exact va_S.rf
  refine lv_aload_n hx hb dX0_readFrom_0 rfl (lv_at hl 0 rfl) ?_
  refine zcVv (As := []) (rest := []) (wr := [(xt, .inr (5, [.ref b0, .int 0, .int 0]))]) ⟨hx, hb, hml, hown, hts⟩ (kkX0_clear l dC dI cI cB cZ cR H.size xd l0 z0 ) (cwV 0 hts (zgV wm_204 wm_205 wm_206 wm_18 wm_207) rfl rfl rfl (by decide +kernel) ⟨Nat.le_of_ble_eq_true rfl, Nat.le_of_ble_eq_true rfl⟩) hN hK hP hD hS hA [0] [1] rfl rfl ⟨rfl, rfl⟩ (by decide) (ci := 0) rfl rfl rfl rfl hl.1 rfl (Nat.le_of_ble_eq_true rfl) dX0_readFrom_1 ⟨Nat.le_of_ble_eq_true rfl, Nat.le_of_ble_eq_true rfl⟩ (fun u hu H locs hP hD hS => ?_)
  have hP : va_P (dC, dI) vwCl [(xt, .inr (5, [.ref b0, .int 0, .int 0])), (xd, .inr (0, [.ref l0, .ref z0, .int 0]))] H := hP
  have hD : va_D A [(xt, .inr (5, [.ref b0, .int 0, .int 0])), (xd, .inr (0, [.ref l0, .ref z0, .int 0]))] := hD
  refine lv_aload_n hx hb dX0_readFrom_4 rfl (lv_at hl 1 rfl) ?_
  refine va_get (D := (dC, dI)) (ci := 5) (v := .int 0) (C := RX5) (T := TX5) (N := 3) hx hb hts hinX5 hown hK hP 0 rfl rfl 1 (by decide) k_0 (fun _ h9 => h9) rfl dX0_readFrom_5 ?_
  refine lv_bipush (v := 60) hx hb dX0_readFrom_8 (by decide) ?_
  refine lv_icmp_le (tgt := 16) hx hb dX0_readFrom_10 (by decide) (fun _ => ?_) (fun c => absurd (by decide) c)
  refine lv_aload_n hx hb dX0_readFrom_16 rfl (lv_at hl 1 rfl) ?_
  refine lv_iconst (v := 0) hx hb dX0_readFrom_17 (by decide) ?_
  refine va_put (D := (dC, dI)) (ci := 5) (v := .int 0) (ty := tyX5 2) (C := RX5) (T := TX5) (N := 3) hx hb hts hinX5 tyX5 tyX5_ok nmX5 hown hK hP hD hS 0 rfl rfl 2 (by decide) k_1 (fun _ h9 => h9) rfl (by decide +kernel) rfl rfl (Nat.le_of_ble_eq_true rfl) dX0_readFrom_18 (fun H locs hP hD hS => ?_)
  have hP : va_P (dC, dI) vwCl [(xt, .inr (5, [.ref b0, .int 0, .int 0])), (xd, .inr (0, [.ref l0, .ref z0, .int 0]))] H := hP
  have hD : va_D A [(xt, .inr (5, [.ref b0, .int 0, .int 0])), (xd, .inr (0, [.ref l0, .ref z0, .int 0]))] := hD
  refine lv_iconst (v := 0) hx hb dX0_readFrom_21 (by decide) ?_
  refine lv_istore_n (lv' := [(2, .int 0), (0, .ref xd), (1, .ref xt)]) hx hb dX0_readFrom_22 rfl hl (by decide) rfl (fun ls hl => ?_)
  refine lv_iload_n hx hb dX0_readFrom_23 rfl (lv_at hl 0 rfl) ?_
  refine lv_bipush (v := 8) hx hb dX0_readFrom_24 (by decide) ?_
  refine lv_icmp_gt (tgt := 78) hx hb dX0_readFrom_26 (by decide) (fun c => absurd c (by decide)) (fun _ => ?_)
  refine lv_aload_n hx hb dX0_readFrom_29 rfl (lv_at hl 2 rfl) ?_
  refine zcVv (As := []) (rest := []) (wr := [(xd, .inr (0, [.ref l0, .ref z0, .int 0]))]) ⟨hx, hb, hml, hown, hts⟩ (kkX5_skipBlanks_0 l dC dI cI cB cZ cR H.size xt b0 ) (cwV 0 hts (zgV wm_208 wm_209 wm_210 wm_14 wm_211) rfl rfl rfl (by decide +kernel) ⟨Nat.le_of_ble_eq_true rfl, Nat.le_of_ble_eq_true rfl⟩) hN hK hP hD hS hA [0] [1] rfl rfl ⟨rfl, rfl⟩ (by decide) (ci := 5) rfl rfl rfl rfl hl.1 rfl (Nat.le_of_ble_eq_true rfl) dX0_readFrom_30 ⟨Nat.le_of_ble_eq_true rfl, Nat.le_of_ble_eq_true rfl⟩ (fun u hu H locs hP hD hS => ?_)
  have hP : va_P (dC, dI) vwCl [(xd, .inr (0, [.ref l0, .ref z0, .int 0])), (xt, .inr (5, [.ref b0, .int 0, .int 0]))] H := hP
  have hD : va_D A [(xd, .inr (0, [.ref l0, .ref z0, .int 0])), (xt, .inr (5, [.ref b0, .int 0, .int 0]))] := hD
  refine lv_iload_n hx hb dX0_readFrom_33 rfl (lv_at hl 0 rfl) ?_
  refine lv_if_le (tgt := 46) hx hb dX0_readFrom_34 (by decide) (fun _ => ?_) (fun c => absurd (by decide) c)
  refine lv_iload_n hx hb dX0_readFrom_46 rfl (lv_at hl 0 rfl) ?_
  refine lv_bipush (v := 8) hx hb dX0_readFrom_47 (by decide) ?_
  refine lv_icmp_ge (tgt := 60) hx hb dX0_readFrom_49 (by decide) (fun c => absurd c (by decide)) (fun _ => ?_)
  refine lv_aload_n hx hb dX0_readFrom_52 rfl (lv_at hl 1 rfl) ?_
  refine lv_aload_n hx hb dX0_readFrom_53 rfl (lv_at hl 2 rfl) ?_
  refine zcVi (As := [.ref xt]) (rest := []) (wr := []) ⟨hx, hb, hml, hown, hts⟩ (kkX0_readPart_0 l dC dI cI cB cZ cR H.size xd l0 z0 xt b0 ) (cwV 1 hts (zgV wm_224 wm_225 wm_226 wm_18 wm_227) rfl rfl rfl (by decide +kernel) ⟨Nat.le_of_ble_eq_true rfl, Nat.le_of_ble_eq_true rfl⟩) hN hK hP hD hS hA [0, 1] [] rfl rfl ⟨rfl, rfl⟩ (by decide) (ci := 0) rfl rfl rfl rfl hl.1 rfl (Nat.le_of_ble_eq_true rfl) dX0_readFrom_54 ⟨Nat.le_of_ble_eq_true rfl, Nat.le_of_ble_eq_true rfl⟩ (fun r u hu H locs hP hD hS => ?_)
  have hu : r = 0 := hu
  subst hu
  have hP : va_P (dC, dI) vwCl [(xd, .inr (0, [.ref l0, .ref z0, .int 0])), (xt, .inr (5, [.ref b0, .int 0, .int 0]))] H := hP
  have hD : va_D A [(xd, .inr (0, [.ref l0, .ref z0, .int 0])), (xt, .inr (5, [.ref b0, .int 0, .int 0]))] := hD
  refine lv_goto (tgt := 64) hx hb dX0_readFrom_57 (by decide) ?_
  refine lv_istore_n (lv' := [(3, .int 0), (2, .int 0), (0, .ref xd), (1, .ref xt)]) hx hb dX0_readFrom_64 rfl hl (by decide) rfl (fun ls hl => ?_)
  refine lv_iload_n hx hb dX0_readFrom_65 rfl (lv_at hl 0 rfl) ?_
  refine lv_iconst (v := (-1)) hx hb dX0_readFrom_66 (by decide) ?_
  refine lv_icmp_eq (tgt := 72) hx hb dX0_readFrom_67 (by decide) (fun c => absurd c (by decide)) (fun _ => ?_)
  refine lv_iload_n hx hb dX0_readFrom_70 rfl (lv_at hl 0 rfl) ?_
  have hP9 := hP.sub (ws' := [(xd, .inr (0, [.ref l0, .ref z0, .int 0])), (xt, .inr (5, [.ref b0, .int 0, .int 0]))]) [0, 1] rfl
  have hD9 := hD.sub (ws' := [(xd, .inr (0, [.ref l0, .ref z0, .int 0])), (xt, .inr (5, [.ref b0, .int 0, .int 0]))]) [0, 1] (by decide) rfl
  exact W.iret (v := 0) hx hb hr (fun t ht hW => ⟨⟨0, (), rfl, rfl, by rw [ht]; exact hP9, va_K.moved hW.alike hK, hD9⟩, hS.F ht⟩) hS.2.2 dX0_readFrom_71

def pfX7_offer_r (p1 : Int32) : Int32 := if p1 = 0 then (-1000) else (if p1 = 1 then (-1000) else (-2))
set_option maxHeartbeats 4000000 in
set_option maxRecDepth 100000 in
theorem kkX7_offer (l : Launch) (dC : Nat → ClassId) (dI : Nat → Nat → Nat) (cI cB cZ cR : ClassId) (sz : Nat) (x : Nat) (xt : Nat) (xd : Nat) (h : Nat) (xk : Nat) (xl : Nat) (xw : Nat) (xp : Nat) (xs : Nat) (xr : Nat) (b0 : Nat) (l0 : Nat) (z0 : Nat) (p1 : Int32) : Met l yX7_offer (.code yX7_offer cX7_offer 3 (some .int) :: wsL_law) ({ frames := 4, cells := 0, slots := 0, locals := 88 }) (zPc dC dI (zT cI cB cZ cR) [.ref x, .int p1] sz [(x, .inr (7, [.ref xt, .ref xd, .ref h, .ref xk, .ref xl, .ref xw, .ref xp, .ref xs, .ref xr, .int 0, .int (-1), .int 0, .null])), (xt, .inr (5, [.ref b0, .int 0, .int 0])), (xd, .inr (0, [.ref l0, .ref z0, .int 0]))]) (va_Qi (fun (r : Int32) (_ : Unit) => r = (pfX7_offer_r p1)) (fun _ : Unit => zB dC dI (zT cI cB cZ cR) (va_A [(x, .inr (7, [.ref xt, .ref xd, .ref h, .ref xk, .ref xl, .ref xw, .ref xp, .ref xs, .ref xr, .int 0, .int (-1), .int 0, .null])), (xt, .inr (5, [.ref b0, .int 0, .int 0])), (xd, .inr (0, [.ref l0, .ref z0, .int 0]))] sz) [(x, .inr (7, [.ref xt, .ref xd, .ref h, .ref xk, .ref xl, .ref xw, .ref xp, .ref xs, .ref xr, .int 0, .int (-1), .int 0, .null])), (xt, .inr (5, [.ref b0, .int 0, .int 0])), (xd, .inr (0, [.ref l0, .ref z0, .int 0]))]) (va_A [(x, .inr (7, [.ref xt, .ref xd, .ref h, .ref xk, .ref xl, .ref xw, .ref xp, .ref xs, .ref xr, .int 0, .int (-1), .int 0, .null])), (xt, .inr (5, [.ref b0, .int 0, .int 0])), (xd, .inr (0, [.ref l0, .ref z0, .int 0]))] sz)) 0 0 (va_A [(x, .inr (7, [.ref xt, .ref xd, .ref h, .ref xk, .ref xl, .ref xw, .ref xp, .ref xs, .ref xr, .int 0, .int (-1), .int 0, .null])), (xt, .inr (5, [.ref b0, .int 0, .int 0])), (xd, .inr (0, [.ref l0, .ref z0, .int 0]))] sz) := by
  refine Met.ofW (cc := cX7_offer) (maxL := 3) (ret := (some .int)) (by decide) rfl ?_
  intro p e s m args below meth c s₁ B hml hv
  obtain ⟨rfl, hsz, hP, hK, hD0, hN⟩ := hv
  have hx := B.exec
  have hb := B.bytes
  have hr := B.returns
  have hts := atoms_spec (ws := (.code yX7_offer cX7_offer 3 (some .int) :: wsL_law)) B.pre
  have hown : s.vm.findClass RX7 = some m.cls := findClass_of_methodNamed B.named
  have hlocks := B.notSynchronized
  have hinX7 : ∀ w ∈ u_ws RX7 TX7 13, w ∈ (.code yX7_offer cX7_offer 3 (some .int) :: wsL_law) := fun w h => List.mem_cons_of_mem _ (inlX7 w h)
  have hinX5 : ∀ w ∈ u_ws RX5 TX5 3, w ∈ (.code yX7_offer cX7_offer 3 (some .int) :: wsL_law) := fun w h => List.mem_cons_of_mem _ (inlX5 w h)
  have k_0 := hts (.fieldLink RX7 19 "RingMarks" "read" "LRingMarks$Chain;") (List.mem_cons_of_mem _ wm_19)
  have k_1 := hts (.fieldLink RX7 10 "RingMarks" "tape" "LRingMarks$Tape;") (List.mem_cons_of_mem _ wm_15)
  have k_2 := hts (.fieldLink RX7 84 "RingMarks$Tape" "size" "I") (List.mem_cons_of_mem _ wm_156)
  subst hsz
  have hD := hD0.self (sz := s.heap.size)
  generalize hAe : va_A [(x, .inr (7, [.ref xt, .ref xd, .ref h, .ref xk, .ref xl, .ref xw, .ref xp, .ref xs, .ref xr, .int 0, .int (-1), .int 0, .null])), (xt, .inr (5, [.ref b0, .int 0, .int 0])), (xd, .inr (0, [.ref l0, .ref z0, .int 0]))] s.heap.size = A at hD ⊢
  have hA : ∀ q : Nat, s.heap.size ≤ q → A q := fun q h => by rw [← hAe]; exact Or.inr h
  have hP : va_P (dC, dI) vwCl [(x, .inr (7, [.ref xt, .ref xd, .ref h, .ref xk, .ref xl, .ref xw, .ref xp, .ref xs, .ref xr, .int 0, .int (-1), .int 0, .null])), (xt, .inr (5, [.ref b0, .int 0, .int 0])), (xd, .inr (0, [.ref l0, .ref z0, .int 0]))] s.heap := hP
  have hl := lv_entry ([.ref x, .int p1]) (n := 3) (Nat.le_of_ble_eq_true rfl)
  rw [lg_entry_eq]
  generalize (lg_sl ([.ref x, .int p1]) ++ List.replicate (3 - (lg_sl ([.ref x, .int p1])).length) Slot.unset).toArray = ls at hl ⊢
  have hl : lv_has ls 3 [(0, .ref x), (1, .int p1)] := hl
  obtain ⟨H, hH⟩ : ∃ H, H = s.heap := ⟨_, rfl⟩
  rw [← hH] at hP ⊢
  have hS : va_S A s.heap H [] := by rw [hH]; exact va_S.rf
  refine lv_iload_n hx hb dX7_offer_0 rfl (lv_at hl 1 rfl) ?_
  refine lv_if_eq (tgt := 9) hx hb dX7_offer_1 (by decide) (fun c_1 => ?_) (fun c_1 => ?_)
  · refine lv_aload_n hx hb dX7_offer_9 rfl (lv_at hl 0 rfl) ?_
    refine va_get (D := (dC, dI)) (ci := 7) (v := .ref xd) (C := RX7) (T := TX7) (N := 13) hx hb hts hinX7 hown hK hP 0 rfl rfl 1 (by decide) k_0 (fun _ h9 => h9) rfl dX7_offer_10 ?_
    refine lv_aload_n hx hb dX7_offer_13 rfl (lv_at hl 0 rfl) ?_
    refine va_get (D := (dC, dI)) (ci := 7) (v := .ref xt) (C := RX7) (T := TX7) (N := 13) hx hb hts hinX7 hown hK hP 0 rfl rfl 0 (by decide) k_1 (fun _ h9 => h9) rfl dX7_offer_14 ?_
    refine zcVi (As := [.ref xt]) (rest := []) (wr := [(x, .inr (7, [.ref xt, .ref xd, .ref h, .ref xk, .ref xl, .ref xw, .ref xp, .ref xs, .ref xr, .int 0, .int (-1), .int 0, .null]))]) ⟨hx, hb, hml, hown, hts⟩ (kkX0_readFrom_0 l dC dI cI cB cZ cR H.size xd l0 z0 xt b0 ) (cwV 1 hts (zgV wm_198 wm_199 wm_200 wm_18 wm_201) rfl rfl rfl (by decide +kernel) ⟨Nat.le_of_ble_eq_true rfl, Nat.le_of_ble_eq_true rfl⟩) hN hK hP hD hS hA [2, 1] [0] rfl rfl ⟨rfl, rfl⟩ (by decide) (ci := 0) rfl rfl rfl rfl hl.1 rfl (Nat.le_of_ble_eq_true rfl) dX7_offer_17 ⟨Nat.le_of_ble_eq_true rfl, Nat.le_of_ble_eq_true rfl⟩ (fun r u hu H locs hP hD hS => ?_)
    have hu : r = 0 := hu
    subst hu
    have hP : va_P (dC, dI) vwCl [(x, .inr (7, [.ref xt, .ref xd, .ref h, .ref xk, .ref xl, .ref xw, .ref xp, .ref xs, .ref xr, .int 0, .int (-1), .int 0, .null])), (xd, .inr (0, [.ref l0, .ref z0, .int 0])), (xt, .inr (5, [.ref b0, .int 0, .int 0]))] H := hP
    have hD : va_D A [(x, .inr (7, [.ref xt, .ref xd, .ref h, .ref xk, .ref xl, .ref xw, .ref xp, .ref xs, .ref xr, .int 0, .int (-1), .int 0, .null])), (xd, .inr (0, [.ref l0, .ref z0, .int 0])), (xt, .inr (5, [.ref b0, .int 0, .int 0]))] := hD
    refine lv_goto (tgt := 24) hx hb dX7_offer_20 (by decide) ?_
    refine lv_istore_n (lv' := [(2, .int 0), (0, .ref x), (1, .int p1)]) hx hb dX7_offer_24 rfl hl (by decide) rfl (fun ls hl => ?_)
    refine lv_aload_n hx hb dX7_offer_25 rfl (lv_at hl 1 rfl) ?_
    refine va_get (D := (dC, dI)) (ci := 7) (v := .ref xt) (C := RX7) (T := TX7) (N := 13) hx hb hts hinX7 hown hK hP 0 rfl rfl 0 (by decide) k_1 (fun _ h9 => h9) rfl dX7_offer_26 ?_
    refine lv_iconst (v := 0) hx hb dX7_offer_29 (by decide) ?_
    refine va_put (D := (dC, dI)) (ci := 5) (v := .int 0) (ty := tyX5 1) (C := RX5) (T := TX5) (N := 3) hx hb hts hinX5 tyX5 tyX5_ok nmX5 hown hK hP hD hS 2 rfl rfl 1 (by decide) k_2 (fun _ h9 => h9) rfl (by decide +kernel) rfl rfl (Nat.le_of_ble_eq_true rfl) dX7_offer_30 (fun H locs hP hD hS => ?_)
    have hP : va_P (dC, dI) vwCl [(x, .inr (7, [.ref xt, .ref xd, .ref h, .ref xk, .ref xl, .ref xw, .ref xp, .ref xs, .ref xr, .int 0, .int (-1), .int 0, .null])), (xd, .inr (0, [.ref l0, .ref z0, .int 0])), (xt, .inr (5, [.ref b0, .int 0, .int 0]))] H := hP
    have hD : va_D A [(x, .inr (7, [.ref xt, .ref xd, .ref h, .ref xk, .ref xl, .ref xw, .ref xp, .ref xs, .ref xr, .int 0, .int (-1), .int 0, .null])), (xd, .inr (0, [.ref l0, .ref z0, .int 0])), (xt, .inr (5, [.ref b0, .int 0, .int 0]))] := hD
    refine lv_iload_n hx hb dX7_offer_33 rfl (lv_at hl 2 rfl) ?_
    refine lv_if_eq (tgt := 45) hx hb dX7_offer_34 (by decide) (fun _ => ?_) (fun c => absurd c_1 c)
    refine lv_iload_n hx hb dX7_offer_45 rfl (lv_at hl 0 rfl) ?_
    refine lv_iconst (v := (-1)) hx hb dX7_offer_46 (by decide) ?_
    refine lv_icmp_eq (tgt := 58) hx hb dX7_offer_47 (by decide) (fun c => absurd c (by decide)) (fun _ => ?_)
    refine lv_sipush (v := (-1000)) hx hb dX7_offer_50 (by decide) ?_
    refine lv_iload_n hx hb dX7_offer_53 rfl (lv_at hl 0 rfl) ?_
    refine lv_isub hx hb dX7_offer_54 ?_
    refine tp (y := (-1000)) (by decide) ?_
    refine lv_goto (tgt := 79) hx hb dX7_offer_55 (by decide) ?_
    have e_0 : (pfX7_offer_r p1) = (-1000) := by rw [pfX7_offer_r, if_pos c_1]
    have hP9 := hP.sub (ws' := [(x, .inr (7, [.ref xt, .ref xd, .ref h, .ref xk, .ref xl, .ref xw, .ref xp, .ref xs, .ref xr, .int 0, .int (-1), .int 0, .null])), (xt, .inr (5, [.ref b0, .int 0, .int 0])), (xd, .inr (0, [.ref l0, .ref z0, .int 0]))]) [0, 2, 1] rfl
    have hD9 := hD.sub (ws' := [(x, .inr (7, [.ref xt, .ref xd, .ref h, .ref xk, .ref xl, .ref xw, .ref xp, .ref xs, .ref xr, .int 0, .int (-1), .int 0, .null])), (xt, .inr (5, [.ref b0, .int 0, .int 0])), (xd, .inr (0, [.ref l0, .ref z0, .int 0]))]) [0, 2, 1] (by decide) rfl
    exact W.iret (v := (-1000)) hx hb hr (fun t ht hW => ⟨⟨(-1000), (), rfl, e_0.symm, by rw [ht]; exact hP9, va_K.moved hW.alike hK, hD9⟩, hS.F ht⟩) hS.2.2 dX7_offer_79
  · refine lv_iload_n hx hb dX7_offer_4 rfl (lv_at hl 1 rfl) ?_
    refine lv_iconst (v := 1) hx hb dX7_offer_5 (by decide) ?_
    refine lv_icmp_ne (tgt := 23) hx hb dX7_offer_6 (by decide) (fun c_2 => ?_) (fun c_2 => ?_)
    · refine lv_iconst (v := (-1)) hx hb dX7_offer_23 (by decide) ?_
      refine lv_istore_n (lv' := [(2, .int (-1)), (0, .ref x), (1, .int p1)]) hx hb dX7_offer_24 rfl hl (by decide) rfl (fun ls hl => ?_)
      refine lv_aload_n hx hb dX7_offer_25 rfl (lv_at hl 1 rfl) ?_
      refine va_get (D := (dC, dI)) (ci := 7) (v := .ref xt) (C := RX7) (T := TX7) (N := 13) hx hb hts hinX7 hown hK hP 0 rfl rfl 0 (by decide) k_1 (fun _ h9 => h9) rfl dX7_offer_26 ?_
      refine lv_iconst (v := 0) hx hb dX7_offer_29 (by decide) ?_
      refine va_put (D := (dC, dI)) (ci := 5) (v := .int 0) (ty := tyX5 1) (C := RX5) (T := TX5) (N := 3) hx hb hts hinX5 tyX5 tyX5_ok nmX5 hown hK hP hD hS 1 rfl rfl 1 (by decide) k_2 (fun _ h9 => h9) rfl (by decide +kernel) rfl rfl (Nat.le_of_ble_eq_true rfl) dX7_offer_30 (fun H locs hP hD hS => ?_)
      have hP : va_P (dC, dI) vwCl [(x, .inr (7, [.ref xt, .ref xd, .ref h, .ref xk, .ref xl, .ref xw, .ref xp, .ref xs, .ref xr, .int 0, .int (-1), .int 0, .null])), (xt, .inr (5, [.ref b0, .int 0, .int 0])), (xd, .inr (0, [.ref l0, .ref z0, .int 0]))] H := hP
      have hD : va_D A [(x, .inr (7, [.ref xt, .ref xd, .ref h, .ref xk, .ref xl, .ref xw, .ref xp, .ref xs, .ref xr, .int 0, .int (-1), .int 0, .null])), (xt, .inr (5, [.ref b0, .int 0, .int 0])), (xd, .inr (0, [.ref l0, .ref z0, .int 0]))] := hD
      refine lv_iload_n hx hb dX7_offer_33 rfl (lv_at hl 2 rfl) ?_
      refine lv_if_eq (tgt := 45) hx hb dX7_offer_34 (by decide) (fun c => absurd c c_1) (fun _ => ?_)
      refine lv_iload_n hx hb dX7_offer_37 rfl (lv_at hl 2 rfl) ?_
      refine lv_iconst (v := 1) hx hb dX7_offer_38 (by decide) ?_
      refine lv_icmp_eq (tgt := 45) hx hb dX7_offer_39 (by decide) (fun c => absurd c c_2) (fun _ => ?_)
      refine lv_bipush (v := (-2)) hx hb dX7_offer_42 (by decide) ?_
      have e_0 : (pfX7_offer_r p1) = (-2) := by rw [pfX7_offer_r, if_neg c_1, if_neg c_2]
      have hP9 := hP.sub (ws' := [(x, .inr (7, [.ref xt, .ref xd, .ref h, .ref xk, .ref xl, .ref xw, .ref xp, .ref xs, .ref xr, .int 0, .int (-1), .int 0, .null])), (xt, .inr (5, [.ref b0, .int 0, .int 0])), (xd, .inr (0, [.ref l0, .ref z0, .int 0]))]) [0, 1, 2] rfl
      have hD9 := hD.sub (ws' := [(x, .inr (7, [.ref xt, .ref xd, .ref h, .ref xk, .ref xl, .ref xw, .ref xp, .ref xs, .ref xr, .int 0, .int (-1), .int 0, .null])), (xt, .inr (5, [.ref b0, .int 0, .int 0])), (xd, .inr (0, [.ref l0, .ref z0, .int 0]))]) [0, 1, 2] (by decide) rfl
      exact W.iret (v := (-2)) hx hb hr (fun t ht hW => ⟨⟨(-2), (), rfl, e_0.symm, by rw [ht]; exact hP9, va_K.moved hW.alike hK, hD9⟩, hS.F ht⟩) hS.2.2 dX7_offer_44
    · refine lv_aload_n hx hb dX7_offer_9 rfl (lv_at hl 0 rfl) ?_
      refine va_get (D := (dC, dI)) (ci := 7) (v := .ref xd) (C := RX7) (T := TX7) (N := 13) hx hb hts hinX7 hown hK hP 0 rfl rfl 1 (by decide) k_0 (fun _ h9 => h9) rfl dX7_offer_10 ?_
      refine lv_aload_n hx hb dX7_offer_13 rfl (lv_at hl 0 rfl) ?_
      refine va_get (D := (dC, dI)) (ci := 7) (v := .ref xt) (C := RX7) (T := TX7) (N := 13) hx hb hts hinX7 hown hK hP 0 rfl rfl 0 (by decide) k_1 (fun _ h9 => h9) rfl dX7_offer_14 ?_
      refine zcVi (As := [.ref xt]) (rest := []) (wr := [(x, .inr (7, [.ref xt, .ref xd, .ref h, .ref xk, .ref xl, .ref xw, .ref xp, .ref xs, .ref xr, .int 0, .int (-1), .int 0, .null]))]) ⟨hx, hb, hml, hown, hts⟩ (kkX0_readFrom_0 l dC dI cI cB cZ cR H.size xd l0 z0 xt b0 ) (cwV 1 hts (zgV wm_198 wm_199 wm_200 wm_18 wm_201) rfl rfl rfl (by decide +kernel) ⟨Nat.le_of_ble_eq_true rfl, Nat.le_of_ble_eq_true rfl⟩) hN hK hP hD hS hA [2, 1] [0] rfl rfl ⟨rfl, rfl⟩ (by decide) (ci := 0) rfl rfl rfl rfl hl.1 rfl (Nat.le_of_ble_eq_true rfl) dX7_offer_17 ⟨Nat.le_of_ble_eq_true rfl, Nat.le_of_ble_eq_true rfl⟩ (fun r u hu H locs hP hD hS => ?_)
      have hu : r = 0 := hu
      subst hu
      have hP : va_P (dC, dI) vwCl [(x, .inr (7, [.ref xt, .ref xd, .ref h, .ref xk, .ref xl, .ref xw, .ref xp, .ref xs, .ref xr, .int 0, .int (-1), .int 0, .null])), (xd, .inr (0, [.ref l0, .ref z0, .int 0])), (xt, .inr (5, [.ref b0, .int 0, .int 0]))] H := hP
      have hD : va_D A [(x, .inr (7, [.ref xt, .ref xd, .ref h, .ref xk, .ref xl, .ref xw, .ref xp, .ref xs, .ref xr, .int 0, .int (-1), .int 0, .null])), (xd, .inr (0, [.ref l0, .ref z0, .int 0])), (xt, .inr (5, [.ref b0, .int 0, .int 0]))] := hD
      refine lv_goto (tgt := 24) hx hb dX7_offer_20 (by decide) ?_
      refine lv_istore_n (lv' := [(2, .int 0), (0, .ref x), (1, .int p1)]) hx hb dX7_offer_24 rfl hl (by decide) rfl (fun ls hl => ?_)
      refine lv_aload_n hx hb dX7_offer_25 rfl (lv_at hl 1 rfl) ?_
      refine va_get (D := (dC, dI)) (ci := 7) (v := .ref xt) (C := RX7) (T := TX7) (N := 13) hx hb hts hinX7 hown hK hP 0 rfl rfl 0 (by decide) k_1 (fun _ h9 => h9) rfl dX7_offer_26 ?_
      refine lv_iconst (v := 0) hx hb dX7_offer_29 (by decide) ?_
      refine va_put (D := (dC, dI)) (ci := 5) (v := .int 0) (ty := tyX5 1) (C := RX5) (T := TX5) (N := 3) hx hb hts hinX5 tyX5 tyX5_ok nmX5 hown hK hP hD hS 2 rfl rfl 1 (by decide) k_2 (fun _ h9 => h9) rfl (by decide +kernel) rfl rfl (Nat.le_of_ble_eq_true rfl) dX7_offer_30 (fun H locs hP hD hS => ?_)
      have hP : va_P (dC, dI) vwCl [(x, .inr (7, [.ref xt, .ref xd, .ref h, .ref xk, .ref xl, .ref xw, .ref xp, .ref xs, .ref xr, .int 0, .int (-1), .int 0, .null])), (xd, .inr (0, [.ref l0, .ref z0, .int 0])), (xt, .inr (5, [.ref b0, .int 0, .int 0]))] H := hP
      have hD : va_D A [(x, .inr (7, [.ref xt, .ref xd, .ref h, .ref xk, .ref xl, .ref xw, .ref xp, .ref xs, .ref xr, .int 0, .int (-1), .int 0, .null])), (xd, .inr (0, [.ref l0, .ref z0, .int 0])), (xt, .inr (5, [.ref b0, .int 0, .int 0]))] := hD
      refine lv_iload_n hx hb dX7_offer_33 rfl (lv_at hl 2 rfl) ?_
      refine lv_if_eq (tgt := 45) hx hb dX7_offer_34 (by decide) (fun c => absurd c c_1) (fun _ => ?_)
      refine lv_iload_n hx hb dX7_offer_37 rfl (lv_at hl 2 rfl) ?_
      refine lv_iconst (v := 1) hx hb dX7_offer_38 (by decide) ?_
      refine lv_icmp_eq (tgt := 45) hx hb dX7_offer_39 (by decide) (fun _ => ?_) (fun c => absurd c_2 c)
      refine lv_iload_n hx hb dX7_offer_45 rfl (lv_at hl 0 rfl) ?_
      refine lv_iconst (v := (-1)) hx hb dX7_offer_46 (by decide) ?_
      refine lv_icmp_eq (tgt := 58) hx hb dX7_offer_47 (by decide) (fun c => absurd c (by decide)) (fun _ => ?_)
      refine lv_sipush (v := (-1000)) hx hb dX7_offer_50 (by decide) ?_
      refine lv_iload_n hx hb dX7_offer_53 rfl (lv_at hl 0 rfl) ?_
      refine lv_isub hx hb dX7_offer_54 ?_
      refine tp (y := (-1000)) (by decide) ?_
      refine lv_goto (tgt := 79) hx hb dX7_offer_55 (by decide) ?_
      have e_0 : (pfX7_offer_r p1) = (-1000) := by rw [pfX7_offer_r, if_neg c_1, if_pos c_2]
      have hP9 := hP.sub (ws' := [(x, .inr (7, [.ref xt, .ref xd, .ref h, .ref xk, .ref xl, .ref xw, .ref xp, .ref xs, .ref xr, .int 0, .int (-1), .int 0, .null])), (xt, .inr (5, [.ref b0, .int 0, .int 0])), (xd, .inr (0, [.ref l0, .ref z0, .int 0]))]) [0, 2, 1] rfl
      have hD9 := hD.sub (ws' := [(x, .inr (7, [.ref xt, .ref xd, .ref h, .ref xk, .ref xl, .ref xw, .ref xp, .ref xs, .ref xr, .int 0, .int (-1), .int 0, .null])), (xt, .inr (5, [.ref b0, .int 0, .int 0])), (xd, .inr (0, [.ref l0, .ref z0, .int 0]))]) [0, 2, 1] (by decide) rfl
      exact W.iret (v := (-1000)) hx hb hr (fun t ht hW => ⟨⟨(-1000), (), rfl, e_0.symm, by rw [ht]; exact hP9, va_K.moved hW.alike hK, hD9⟩, hS.F ht⟩) hS.2.2 dX7_offer_79

set_option maxHeartbeats 4000000 in
set_option maxRecDepth 100000 in
theorem kkX2_take_0 (l : Launch) (dC : Nat → ClassId) (dI : Nat → Nat → Nat) (cI cB cZ cR : ClassId) (sz : Nat) (h : Nat) (a0 : Nat) (a1 : Nat) (a2 : Nat) (a3 : Nat) (a4 : Nat) (a5 : Nat) (a6 : Nat) (xl : Nat) : Met l yX2_take (.code yX2_take cX2_take 6 (some .int) :: wsL_law) ({ frames := 1, cells := 0, slots := 0, locals := 20 }) (zPc dC dI (zT cI cB cZ cR) [.ref h, .ref xl] sz [(h, .inr (2, [.ref a0, .ref a1, .ref a2, .ref a3, .ref a4, .ref a5, .ref a6])), (a0, .inl (cI, 22, .inl (gl [0, 0, 0, 0, 4, 0, 0, 0, 0, 0, 0, 0, (-1), (-1), 0, 0, 0, 0, 0, 4, 0, 16])))]) (va_Qi (fun (r : Int32) (_ : Unit) => r = (-1)) (fun _ : Unit => zB dC dI (zT cI cB cZ cR) (va_A [(h, .inr (2, [.ref a0, .ref a1, .ref a2, .ref a3, .ref a4, .ref a5, .ref a6])), (a0, .inl (cI, 22, .inl (gl [0, 0, 0, 0, 4, 0, 0, 0, 0, 0, 0, 0, (-1), (-1), 0, 0, 0, 0, 0, 4, 0, 16])))] sz) [(h, .inr (2, [.ref a0, .ref a1, .ref a2, .ref a3, .ref a4, .ref a5, .ref a6])), (a0, .inl (cI, 22, .inl (gl [0, 0, 0, 0, 4, 0, 0, 0, 0, 0, 0, 0, (-1), (-1), 0, 0, 0, 0, 0, 4, 0, 16])))]) (va_A [(h, .inr (2, [.ref a0, .ref a1, .ref a2, .ref a3, .ref a4, .ref a5, .ref a6])), (a0, .inl (cI, 22, .inl (gl [0, 0, 0, 0, 4, 0, 0, 0, 0, 0, 0, 0, (-1), (-1), 0, 0, 0, 0, 0, 4, 0, 16])))] sz)) 0 0 (va_A [(h, .inr (2, [.ref a0, .ref a1, .ref a2, .ref a3, .ref a4, .ref a5, .ref a6])), (a0, .inl (cI, 22, .inl (gl [0, 0, 0, 0, 4, 0, 0, 0, 0, 0, 0, 0, (-1), (-1), 0, 0, 0, 0, 0, 4, 0, 16])))] sz) := by
  refine Met.ofW (cc := cX2_take) (maxL := 6) (ret := (some .int)) (by decide) rfl ?_
  intro p e s m args below meth c s₁ B hml hv
  obtain ⟨rfl, hsz, hP, hK, hD0, hN⟩ := hv
  have hx := B.exec
  have hb := B.bytes
  have hr := B.returns
  have hts := atoms_spec (ws := (.code yX2_take cX2_take 6 (some .int) :: wsL_law)) B.pre
  have hown : s.vm.findClass RX2 = some m.cls := findClass_of_methodNamed B.named
  have hlocks := B.notSynchronized
  have hinX2 : ∀ w ∈ u_ws RX2 TX2 7, w ∈ (.code yX2_take cX2_take 6 (some .int) :: wsL_law) := fun w h => List.mem_cons_of_mem _ (inlX2 w h)
  have k_0 := hts (.fieldLink RX2 11 "RingMarks$Ring" "marks" "[I") (List.mem_cons_of_mem _ wm_61)
  subst hsz
  have hD := hD0.self (sz := s.heap.size)
  generalize hAe : va_A [(h, .inr (2, [.ref a0, .ref a1, .ref a2, .ref a3, .ref a4, .ref a5, .ref a6])), (a0, .inl (cI, 22, .inl (gl [0, 0, 0, 0, 4, 0, 0, 0, 0, 0, 0, 0, (-1), (-1), 0, 0, 0, 0, 0, 4, 0, 16])))] s.heap.size = A at hD ⊢
  have hA : ∀ q : Nat, s.heap.size ≤ q → A q := fun q h => by rw [← hAe]; exact Or.inr h
  have hP : va_P (dC, dI) vwCl [(h, .inr (2, [.ref a0, .ref a1, .ref a2, .ref a3, .ref a4, .ref a5, .ref a6])), (a0, .inl (cI, 22, .inl (gl [0, 0, 0, 0, 4, 0, 0, 0, 0, 0, 0, 0, (-1), (-1), 0, 0, 0, 0, 0, 4, 0, 16])))] s.heap := hP
  have hl := lv_entry ([.ref h, .ref xl]) (n := 6) (Nat.le_of_ble_eq_true rfl)
  rw [lg_entry_eq]
  generalize (lg_sl ([.ref h, .ref xl]) ++ List.replicate (6 - (lg_sl ([.ref h, .ref xl])).length) Slot.unset).toArray = ls at hl ⊢
  have hl : lv_has ls 6 [(0, .ref h), (1, .ref xl)] := hl
  obtain ⟨H, hH⟩ : ∃ H, H = s.heap := ⟨_, rfl⟩
  rw [← hH] at hP ⊢
  have hS : va_S A s.heap H [] := by rw [hH]; exact va_S.rf
  refine lv_aload_n hx hb dX2_take_0 rfl (lv_at hl 0 rfl) ?_
  refine va_get (D := (dC, dI)) (ci := 2) (v := .ref a0) (C := RX2) (T := TX2) (N := 7) hx hb hts hinX2 hown hK hP 0 rfl rfl 0 (by decide) k_0 (fun _ h9 => h9) rfl dX2_take_1 ?_
  refine lv_bipush (v := 7) hx hb dX2_take_4 (by decide) ?_
  refine za_iald (v := 0) hx hb hK hP 1 0 rfl rfl (zin tn_7 (Nat.le_of_ble_eq_true rfl)) (zrd _ tn_7 rfl) dX2_take_6 ?_
  refine lv_if_eq (tgt := 13) hx hb dX2_take_7 (by decide) (fun _ => ?_) (fun c => absurd (by decide) c)
  refine lv_aload_n hx hb dX2_take_13 rfl (lv_at hl 0 rfl) ?_
  refine zcVi (As := []) (rest := []) (wr := []) ⟨hx, hb, hml, hown, hts⟩ (kkX2_isPacked l dC dI cI cB cZ cR H.size h a0 a1 a2 a3 a4 a5 a6 0 0 0 0 4 0 0 0 0 0 0 0 (-1) (-1) 0 0 0 0 ) (cwV 0 hts (zgV wm_267 wm_268 wm_269 wm_22 wm_270) rfl rfl rfl (by decide +kernel) ⟨Nat.le_of_ble_eq_true rfl, Nat.le_of_ble_eq_true rfl⟩) hN hK hP hD hS hA [0, 1] [] rfl rfl ⟨rfl, rfl⟩ (by decide) (ci := 2) rfl rfl rfl rfl hl.1 rfl (Nat.le_of_ble_eq_true rfl) dX2_take_14 ⟨Nat.le_of_ble_eq_true rfl, Nat.le_of_ble_eq_true rfl⟩ (fun r u hu H locs hP hD hS => ?_)
  have hu : r = 0 := hu
  subst hu
  have hP : va_P (dC, dI) vwCl [(h, .inr (2, [.ref a0, .ref a1, .ref a2, .ref a3, .ref a4, .ref a5, .ref a6])), (a0, .inl (cI, 22, .inl (gl [0, 0, 0, 0, 4, 0, 0, 0, 0, 0, 0, 0, (-1), (-1), 0, 0, 0, 0, 0, 4, 0, 16])))] H := hP
  have hD : va_D A [(h, .inr (2, [.ref a0, .ref a1, .ref a2, .ref a3, .ref a4, .ref a5, .ref a6])), (a0, .inl (cI, 22, .inl (gl [0, 0, 0, 0, 4, 0, 0, 0, 0, 0, 0, 0, (-1), (-1), 0, 0, 0, 0, 0, 4, 0, 16])))] := hD
  refine lv_if_eq (tgt := 34) hx hb dX2_take_17 (by decide) (fun _ => ?_) (fun c => absurd (by decide) c)
  refine lv_aload_n hx hb dX2_take_34 rfl (lv_at hl 0 rfl) ?_
  refine va_get (D := (dC, dI)) (ci := 2) (v := .ref a0) (C := RX2) (T := TX2) (N := 7) hx hb hts hinX2 hown hK hP 0 rfl rfl 0 (by decide) k_0 (fun _ h9 => h9) rfl dX2_take_35 ?_
  refine lv_iconst (v := 1) hx hb dX2_take_38 (by decide) ?_
  refine za_iald (v := 0) hx hb hK hP 1 0 rfl rfl (zin tn_1 (Nat.le_of_ble_eq_true rfl)) (zrd _ tn_1 rfl) dX2_take_39 ?_
  refine lv_aload_n hx hb dX2_take_40 rfl (lv_at hl 0 rfl) ?_
  refine va_get (D := (dC, dI)) (ci := 2) (v := .ref a0) (C := RX2) (T := TX2) (N := 7) hx hb hts hinX2 hown hK hP 0 rfl rfl 0 (by decide) k_0 (fun _ h9 => h9) rfl dX2_take_41 ?_
  refine lv_iconst (v := 0) hx hb dX2_take_44 (by decide) ?_
  refine za_iald (v := 0) hx hb hK hP 1 0 rfl rfl (zin tn_0 (Nat.le_of_ble_eq_true rfl)) (zrd _ tn_0 rfl) dX2_take_45 ?_
  refine lv_icmp_eq (tgt := 53) hx hb dX2_take_46 (by decide) (fun _ => ?_) (fun c => absurd (by decide) c)
  refine lv_iconst (v := 0) hx hb dX2_take_53 (by decide) ?_
  refine lv_istore_n (lv' := [(2, .int 0), (0, .ref h), (1, .ref xl)]) hx hb dX2_take_54 rfl hl (by decide) rfl (fun ls hl => ?_)
  refine lv_iload_n hx hb dX2_take_55 rfl (lv_at hl 0 rfl) ?_
  refine lv_if_ne (tgt := 61) hx hb dX2_take_56 (by decide) (fun c => absurd (by decide) c) (fun _ => ?_)
  refine lv_iconst (v := (-1)) hx hb dX2_take_59 (by decide) ?_
  have hP9 := hP.sub (ws' := [(h, .inr (2, [.ref a0, .ref a1, .ref a2, .ref a3, .ref a4, .ref a5, .ref a6])), (a0, .inl (cI, 22, .inl (gl [0, 0, 0, 0, 4, 0, 0, 0, 0, 0, 0, 0, (-1), (-1), 0, 0, 0, 0, 0, 4, 0, 16])))]) [0, 1] rfl
  have hD9 := hD.sub (ws' := [(h, .inr (2, [.ref a0, .ref a1, .ref a2, .ref a3, .ref a4, .ref a5, .ref a6])), (a0, .inl (cI, 22, .inl (gl [0, 0, 0, 0, 4, 0, 0, 0, 0, 0, 0, 0, (-1), (-1), 0, 0, 0, 0, 0, 4, 0, 16])))]) [0, 1] (by decide) rfl
  exact W.iret (v := (-1)) hx hb hr (fun t ht hW => ⟨⟨(-1), (), rfl, rfl, by rw [ht]; exact hP9, va_K.moved hW.alike hK, hD9⟩, hS.F ht⟩) hS.2.2 dX2_take_60

set_option maxHeartbeats 4000000 in
set_option maxRecDepth 100000 in
theorem kkX7_fetch (l : Launch) (dC : Nat → ClassId) (dI : Nat → Nat → Nat) (cI cB cZ cR : ClassId) (sz : Nat) (x : Nat) (xt : Nat) (xd : Nat) (h : Nat) (xk : Nat) (xl : Nat) (xw : Nat) (xp : Nat) (xs : Nat) (xr : Nat) (a0 : Nat) (a1 : Nat) (a2 : Nat) (a3 : Nat) (a4 : Nat) (a5 : Nat) (a6 : Nat) : Met l yX7_fetch (.code yX7_fetch cX7_fetch 1 (some .int) :: wsL_law) ({ frames := 2, cells := 0, slots := 0, locals := 45 }) (zPc dC dI (zT cI cB cZ cR) [.ref x] sz [(x, .inr (7, [.ref xt, .ref xd, .ref h, .ref xk, .ref xl, .ref xw, .ref xp, .ref xs, .ref xr, .int 0, .int (-1), .int 0, .null])), (h, .inr (2, [.ref a0, .ref a1, .ref a2, .ref a3, .ref a4, .ref a5, .ref a6])), (a0, .inl (cI, 22, .inl (gl [0, 0, 0, 0, 4, 0, 0, 0, 0, 0, 0, 0, (-1), (-1), 0, 0, 0, 0, 0, 4, 0, 16])))]) (va_Qi (fun (r : Int32) (_ : Unit) => r = (-1)) (fun _ : Unit => zB dC dI (zT cI cB cZ cR) (va_A [(x, .inr (7, [.ref xt, .ref xd, .ref h, .ref xk, .ref xl, .ref xw, .ref xp, .ref xs, .ref xr, .int 0, .int (-1), .int 0, .null])), (h, .inr (2, [.ref a0, .ref a1, .ref a2, .ref a3, .ref a4, .ref a5, .ref a6])), (a0, .inl (cI, 22, .inl (gl [0, 0, 0, 0, 4, 0, 0, 0, 0, 0, 0, 0, (-1), (-1), 0, 0, 0, 0, 0, 4, 0, 16])))] sz) [(x, .inr (7, [.ref xt, .ref xd, .ref h, .ref xk, .ref xl, .ref xw, .ref xp, .ref xs, .ref xr, .int 0, .int (-1), .int 0, .null])), (h, .inr (2, [.ref a0, .ref a1, .ref a2, .ref a3, .ref a4, .ref a5, .ref a6])), (a0, .inl (cI, 22, .inl (gl [0, 0, 0, 0, 4, 0, 0, 0, 0, 0, 0, 0, (-1), (-1), 0, 0, 0, 0, 0, 4, 0, 16])))]) (va_A [(x, .inr (7, [.ref xt, .ref xd, .ref h, .ref xk, .ref xl, .ref xw, .ref xp, .ref xs, .ref xr, .int 0, .int (-1), .int 0, .null])), (h, .inr (2, [.ref a0, .ref a1, .ref a2, .ref a3, .ref a4, .ref a5, .ref a6])), (a0, .inl (cI, 22, .inl (gl [0, 0, 0, 0, 4, 0, 0, 0, 0, 0, 0, 0, (-1), (-1), 0, 0, 0, 0, 0, 4, 0, 16])))] sz)) 0 0 (va_A [(x, .inr (7, [.ref xt, .ref xd, .ref h, .ref xk, .ref xl, .ref xw, .ref xp, .ref xs, .ref xr, .int 0, .int (-1), .int 0, .null])), (h, .inr (2, [.ref a0, .ref a1, .ref a2, .ref a3, .ref a4, .ref a5, .ref a6])), (a0, .inl (cI, 22, .inl (gl [0, 0, 0, 0, 4, 0, 0, 0, 0, 0, 0, 0, (-1), (-1), 0, 0, 0, 0, 0, 4, 0, 16])))] sz) := by
  refine Met.ofW (cc := cX7_fetch) (maxL := 1) (ret := (some .int)) (by decide) rfl ?_
  intro p e s m args below meth c s₁ B hml hv
  obtain ⟨rfl, hsz, hP, hK, hD0, hN⟩ := hv
  have hx := B.exec
  have hb := B.bytes
  have hr := B.returns
  have hts := atoms_spec (ws := (.code yX7_fetch cX7_fetch 1 (some .int) :: wsL_law)) B.pre
  have hown : s.vm.findClass RX7 = some m.cls := findClass_of_methodNamed B.named
  have hlocks := B.notSynchronized
  have hinX7 : ∀ w ∈ u_ws RX7 TX7 13, w ∈ (.code yX7_fetch cX7_fetch 1 (some .int) :: wsL_law) := fun w h => List.mem_cons_of_mem _ (inlX7 w h)
  have k_0 := hts (.fieldLink RX7 26 "RingMarks" "ring" "LRingMarks$Ring;") (List.mem_cons_of_mem _ wm_23)
  have k_1 := hts (.fieldLink RX7 37 "RingMarks" "latestWalk" "LRingMarks$Walk;") (List.mem_cons_of_mem _ wm_28)
  subst hsz
  have hD := hD0.self (sz := s.heap.size)
  generalize hAe : va_A [(x, .inr (7, [.ref xt, .ref xd, .ref h, .ref xk, .ref xl, .ref xw, .ref xp, .ref xs, .ref xr, .int 0, .int (-1), .int 0, .null])), (h, .inr (2, [.ref a0, .ref a1, .ref a2, .ref a3, .ref a4, .ref a5, .ref a6])), (a0, .inl (cI, 22, .inl (gl [0, 0, 0, 0, 4, 0, 0, 0, 0, 0, 0, 0, (-1), (-1), 0, 0, 0, 0, 0, 4, 0, 16])))] s.heap.size = A at hD ⊢
  have hA : ∀ q : Nat, s.heap.size ≤ q → A q := fun q h => by rw [← hAe]; exact Or.inr h
  have hP : va_P (dC, dI) vwCl [(x, .inr (7, [.ref xt, .ref xd, .ref h, .ref xk, .ref xl, .ref xw, .ref xp, .ref xs, .ref xr, .int 0, .int (-1), .int 0, .null])), (h, .inr (2, [.ref a0, .ref a1, .ref a2, .ref a3, .ref a4, .ref a5, .ref a6])), (a0, .inl (cI, 22, .inl (gl [0, 0, 0, 0, 4, 0, 0, 0, 0, 0, 0, 0, (-1), (-1), 0, 0, 0, 0, 0, 4, 0, 16])))] s.heap := hP
  have hl := lv_entry ([.ref x]) (n := 1) (Nat.le_of_ble_eq_true rfl)
  rw [lg_entry_eq]
  generalize (lg_sl ([.ref x]) ++ List.replicate (1 - (lg_sl ([.ref x])).length) Slot.unset).toArray = ls at hl ⊢
  have hl : lv_has ls 1 [(0, .ref x)] := hl
  obtain ⟨H, hH⟩ : ∃ H, H = s.heap := ⟨_, rfl⟩
  rw [← hH] at hP ⊢
  have hS : va_S A s.heap H [] := by rw [hH]; exact va_S.rf
  refine lv_aload_n hx hb dX7_fetch_0 rfl (lv_at hl 0 rfl) ?_
  refine va_get (D := (dC, dI)) (ci := 7) (v := .ref h) (C := RX7) (T := TX7) (N := 13) hx hb hts hinX7 hown hK hP 0 rfl rfl 2 (by decide) k_0 (fun _ h9 => h9) rfl dX7_fetch_1 ?_
  refine lv_aload_n hx hb dX7_fetch_4 rfl (lv_at hl 0 rfl) ?_
  refine va_get (D := (dC, dI)) (ci := 7) (v := .ref xl) (C := RX7) (T := TX7) (N := 13) hx hb hts hinX7 hown hK hP 0 rfl rfl 4 (by decide) k_1 (fun _ h9 => h9) rfl dX7_fetch_5 ?_
  refine zcVi (As := [.ref xl]) (rest := []) (wr := [(x, .inr (7, [.ref xt, .ref xd, .ref h, .ref xk, .ref xl, .ref xw, .ref xp, .ref xs, .ref xr, .int 0, .int (-1), .int 0, .null]))]) ⟨hx, hb, hml, hown, hts⟩ (kkX2_take_0 l dC dI cI cB cZ cR H.size h a0 a1 a2 a3 a4 a5 a6 xl ) (cwV 1 hts (zgV wm_431 wm_432 wm_433 wm_22 wm_434) rfl rfl rfl (by decide +kernel) ⟨Nat.le_of_ble_eq_true rfl, Nat.le_of_ble_eq_true rfl⟩) hN hK hP hD hS hA [1, 2] [0] rfl rfl ⟨rfl, rfl⟩ (by decide) (ci := 2) rfl rfl rfl rfl hl.1 rfl (Nat.le_of_ble_eq_true rfl) dX7_fetch_8 ⟨Nat.le_of_ble_eq_true rfl, Nat.le_of_ble_eq_true rfl⟩ (fun r u hu H locs hP hD hS => ?_)
  have hu : r = (-1) := hu
  subst hu
  have hP : va_P (dC, dI) vwCl [(x, .inr (7, [.ref xt, .ref xd, .ref h, .ref xk, .ref xl, .ref xw, .ref xp, .ref xs, .ref xr, .int 0, .int (-1), .int 0, .null])), (h, .inr (2, [.ref a0, .ref a1, .ref a2, .ref a3, .ref a4, .ref a5, .ref a6])), (a0, .inl (cI, 22, .inl (gl [0, 0, 0, 0, 4, 0, 0, 0, 0, 0, 0, 0, (-1), (-1), 0, 0, 0, 0, 0, 4, 0, 16])))] H := hP
  have hD : va_D A [(x, .inr (7, [.ref xt, .ref xd, .ref h, .ref xk, .ref xl, .ref xw, .ref xp, .ref xs, .ref xr, .int 0, .int (-1), .int 0, .null])), (h, .inr (2, [.ref a0, .ref a1, .ref a2, .ref a3, .ref a4, .ref a5, .ref a6])), (a0, .inl (cI, 22, .inl (gl [0, 0, 0, 0, 4, 0, 0, 0, 0, 0, 0, 0, (-1), (-1), 0, 0, 0, 0, 0, 4, 0, 16])))] := hD
  have hP9 := hP.sub (ws' := [(x, .inr (7, [.ref xt, .ref xd, .ref h, .ref xk, .ref xl, .ref xw, .ref xp, .ref xs, .ref xr, .int 0, .int (-1), .int 0, .null])), (h, .inr (2, [.ref a0, .ref a1, .ref a2, .ref a3, .ref a4, .ref a5, .ref a6])), (a0, .inl (cI, 22, .inl (gl [0, 0, 0, 0, 4, 0, 0, 0, 0, 0, 0, 0, (-1), (-1), 0, 0, 0, 0, 0, 4, 0, 16])))]) [0, 1, 2] rfl
  have hD9 := hD.sub (ws' := [(x, .inr (7, [.ref xt, .ref xd, .ref h, .ref xk, .ref xl, .ref xw, .ref xp, .ref xs, .ref xr, .int 0, .int (-1), .int 0, .null])), (h, .inr (2, [.ref a0, .ref a1, .ref a2, .ref a3, .ref a4, .ref a5, .ref a6])), (a0, .inl (cI, 22, .inl (gl [0, 0, 0, 0, 4, 0, 0, 0, 0, 0, 0, 0, (-1), (-1), 0, 0, 0, 0, 0, 4, 0, 16])))]) [0, 1, 2] (by decide) rfl
  exact W.iret (v := (-1)) hx hb hr (fun t ht hW => ⟨⟨(-1), (), rfl, rfl, by rw [ht]; exact hP9, va_K.moved hW.alike hK, hD9⟩, hS.F ht⟩) hS.2.2 dX7_fetch_11

set_option maxHeartbeats 4000000 in
set_option maxRecDepth 100000 in
theorem kkX2_ofBuffer_0 (l : Launch) (dC : Nat → ClassId) (dI : Nat → Nat → Nat) (cI cB cZ cR : ClassId) (sz : Nat) (h : Nat) (a0 : Nat) (a1 : Nat) (a2 : Nat) (a3 : Nat) (a4 : Nat) (a5 : Nat) (a6 : Nat) (p1 : Int32) : Met l yX2_ofBuffer (.code yX2_ofBuffer cX2_ofBuffer 4 (some .int) :: wsL_law) ({ frames := 0, cells := 0, slots := 0, locals := 0 }) (zPc dC dI (zT cI cB cZ cR) [.ref h, .int p1, .int 0] sz [(h, .inr (2, [.ref a0, .ref a1, .ref a2, .ref a3, .ref a4, .ref a5, .ref a6])), (a0, .inl (cI, 22, .inl (gl [0, 0, 0, 0, 4, 0, 0, 0, 0, 0, 0, 0, (-1), (-1), 0, 0, 0, 0, 0, 4, 0, 16])))]) (va_Qi (fun (r : Int32) (_ : Unit) => r = (-1)) (fun _ : Unit => zB dC dI (zT cI cB cZ cR) (va_A [(h, .inr (2, [.ref a0, .ref a1, .ref a2, .ref a3, .ref a4, .ref a5, .ref a6])), (a0, .inl (cI, 22, .inl (gl [0, 0, 0, 0, 4, 0, 0, 0, 0, 0, 0, 0, (-1), (-1), 0, 0, 0, 0, 0, 4, 0, 16])))] sz) [(h, .inr (2, [.ref a0, .ref a1, .ref a2, .ref a3, .ref a4, .ref a5, .ref a6])), (a0, .inl (cI, 22, .inl (gl [0, 0, 0, 0, 4, 0, 0, 0, 0, 0, 0, 0, (-1), (-1), 0, 0, 0, 0, 0, 4, 0, 16])))]) (va_A [(h, .inr (2, [.ref a0, .ref a1, .ref a2, .ref a3, .ref a4, .ref a5, .ref a6])), (a0, .inl (cI, 22, .inl (gl [0, 0, 0, 0, 4, 0, 0, 0, 0, 0, 0, 0, (-1), (-1), 0, 0, 0, 0, 0, 4, 0, 16])))] sz)) 0 0 (va_A [(h, .inr (2, [.ref a0, .ref a1, .ref a2, .ref a3, .ref a4, .ref a5, .ref a6])), (a0, .inl (cI, 22, .inl (gl [0, 0, 0, 0, 4, 0, 0, 0, 0, 0, 0, 0, (-1), (-1), 0, 0, 0, 0, 0, 4, 0, 16])))] sz) := by
  refine Met.ofW (cc := cX2_ofBuffer) (maxL := 4) (ret := (some .int)) (by decide) rfl ?_
  intro p e s m args below meth c s₁ B hml hv
  obtain ⟨rfl, hsz, hP, hK, hD0, hN⟩ := hv
  have hx := B.exec
  have hb := B.bytes
  have hr := B.returns
  have hts := atoms_spec (ws := (.code yX2_ofBuffer cX2_ofBuffer 4 (some .int) :: wsL_law)) B.pre
  have hown : s.vm.findClass RX2 = some m.cls := findClass_of_methodNamed B.named
  have hlocks := B.notSynchronized
  have hinX2 : ∀ w ∈ u_ws RX2 TX2 7, w ∈ (.code yX2_ofBuffer cX2_ofBuffer 4 (some .int) :: wsL_law) := fun w h => List.mem_cons_of_mem _ (inlX2 w h)
  have k_0 := hts (.fieldLink RX2 11 "RingMarks$Ring" "marks" "[I") (List.mem_cons_of_mem _ wm_61)
  subst hsz
  have hD := hD0.self (sz := s.heap.size)
  generalize hAe : va_A [(h, .inr (2, [.ref a0, .ref a1, .ref a2, .ref a3, .ref a4, .ref a5, .ref a6])), (a0, .inl (cI, 22, .inl (gl [0, 0, 0, 0, 4, 0, 0, 0, 0, 0, 0, 0, (-1), (-1), 0, 0, 0, 0, 0, 4, 0, 16])))] s.heap.size = A at hD ⊢
  have hA : ∀ q : Nat, s.heap.size ≤ q → A q := fun q h => by rw [← hAe]; exact Or.inr h
  have hP : va_P (dC, dI) vwCl [(h, .inr (2, [.ref a0, .ref a1, .ref a2, .ref a3, .ref a4, .ref a5, .ref a6])), (a0, .inl (cI, 22, .inl (gl [0, 0, 0, 0, 4, 0, 0, 0, 0, 0, 0, 0, (-1), (-1), 0, 0, 0, 0, 0, 4, 0, 16])))] s.heap := hP
  have hl := lv_entry ([.ref h, .int p1, .int 0]) (n := 4) (Nat.le_of_ble_eq_true rfl)
  rw [lg_entry_eq]
  generalize (lg_sl ([.ref h, .int p1, .int 0]) ++ List.replicate (4 - (lg_sl ([.ref h, .int p1, .int 0])).length) Slot.unset).toArray = ls at hl ⊢
  have hl : lv_has ls 4 [(0, .ref h), (1, .int p1), (2, .int 0)] := hl
  obtain ⟨H, hH⟩ : ∃ H, H = s.heap := ⟨_, rfl⟩
  rw [← hH] at hP ⊢
  have hS : va_S A s.heap H [] := by rw [hH]; exact va_S.rf
  refine lv_iload_n hx hb dX2_ofBuffer_0 rfl (lv_at hl 1 rfl) ?_
  refine lv_if_lt (tgt := 35) hx hb dX2_ofBuffer_1 (by decide) (fun c_1 => ?_) (fun c_1 => ?_)
  · refine lv_iconst (v := 0) hx hb dX2_ofBuffer_35 (by decide) ?_
    refine lv_istore_n (lv' := [(3, .int 0), (0, .ref h), (1, .int p1), (2, .int 0)]) hx hb dX2_ofBuffer_36 rfl hl (by decide) rfl (fun ls hl => ?_)
    refine lv_iload_n hx hb dX2_ofBuffer_37 rfl (lv_at hl 0 rfl) ?_
    refine lv_if_eq (tgt := 55) hx hb dX2_ofBuffer_38 (by decide) (fun _ => ?_) (fun c => absurd (by decide) c)
    refine lv_iconst (v := (-1)) hx hb dX2_ofBuffer_55 (by decide) ?_
    have hP9 := hP.sub (ws' := [(h, .inr (2, [.ref a0, .ref a1, .ref a2, .ref a3, .ref a4, .ref a5, .ref a6])), (a0, .inl (cI, 22, .inl (gl [0, 0, 0, 0, 4, 0, 0, 0, 0, 0, 0, 0, (-1), (-1), 0, 0, 0, 0, 0, 4, 0, 16])))]) [0, 1] rfl
    have hD9 := hD.sub (ws' := [(h, .inr (2, [.ref a0, .ref a1, .ref a2, .ref a3, .ref a4, .ref a5, .ref a6])), (a0, .inl (cI, 22, .inl (gl [0, 0, 0, 0, 4, 0, 0, 0, 0, 0, 0, 0, (-1), (-1), 0, 0, 0, 0, 0, 4, 0, 16])))]) [0, 1] (by decide) rfl
    exact W.iret (v := (-1)) hx hb hr (fun t ht hW => ⟨⟨(-1), (), rfl, rfl, by rw [ht]; exact hP9, va_K.moved hW.alike hK, hD9⟩, hS.F ht⟩) hS.2.2 dX2_ofBuffer_56
  · refine lv_iload_n hx hb dX2_ofBuffer_4 rfl (lv_at hl 1 rfl) ?_
    refine lv_aload_n hx hb dX2_ofBuffer_5 rfl (lv_at hl 0 rfl) ?_
    refine va_get (D := (dC, dI)) (ci := 2) (v := .ref a0) (C := RX2) (T := TX2) (N := 7) hx hb hts hinX2 hown hK hP 0 rfl rfl 0 (by decide) k_0 (fun _ h9 => h9) rfl dX2_ofBuffer_6 ?_
    refine lv_iconst (v := 5) hx hb dX2_ofBuffer_9 (by decide) ?_
    refine za_iald (v := 0) hx hb hK hP 1 0 rfl rfl (zin tn_5 (Nat.le_of_ble_eq_true rfl)) (zrd _ tn_5 rfl) dX2_ofBuffer_10 ?_
    refine lv_icmp_ge (tgt := 35) hx hb dX2_ofBuffer_11 (by decide) (fun _ => ?_) (fun c => absurd (znl c_1) c)
    refine lv_iconst (v := 0) hx hb dX2_ofBuffer_35 (by decide) ?_
    refine lv_istore_n (lv' := [(3, .int 0), (0, .ref h), (1, .int p1), (2, .int 0)]) hx hb dX2_ofBuffer_36 rfl hl (by decide) rfl (fun ls hl => ?_)
    refine lv_iload_n hx hb dX2_ofBuffer_37 rfl (lv_at hl 0 rfl) ?_
    refine lv_if_eq (tgt := 55) hx hb dX2_ofBuffer_38 (by decide) (fun _ => ?_) (fun c => absurd (by decide) c)
    refine lv_iconst (v := (-1)) hx hb dX2_ofBuffer_55 (by decide) ?_
    have hP9 := hP.sub (ws' := [(h, .inr (2, [.ref a0, .ref a1, .ref a2, .ref a3, .ref a4, .ref a5, .ref a6])), (a0, .inl (cI, 22, .inl (gl [0, 0, 0, 0, 4, 0, 0, 0, 0, 0, 0, 0, (-1), (-1), 0, 0, 0, 0, 0, 4, 0, 16])))]) [0, 1] rfl
    have hD9 := hD.sub (ws' := [(h, .inr (2, [.ref a0, .ref a1, .ref a2, .ref a3, .ref a4, .ref a5, .ref a6])), (a0, .inl (cI, 22, .inl (gl [0, 0, 0, 0, 4, 0, 0, 0, 0, 0, 0, 0, (-1), (-1), 0, 0, 0, 0, 0, 4, 0, 16])))]) [0, 1] (by decide) rfl
    exact W.iret (v := (-1)) hx hb hr (fun t ht hW => ⟨⟨(-1), (), rfl, rfl, by rw [ht]; exact hP9, va_K.moved hW.alike hK, hD9⟩, hS.F ht⟩) hS.2.2 dX2_ofBuffer_56

set_option maxHeartbeats 4000000 in
set_option maxRecDepth 100000 in
theorem kkX2_use_0 (l : Launch) (dC : Nat → ClassId) (dI : Nat → Nat → Nat) (cI cB cZ cR : ClassId) (sz : Nat) (h : Nat) (a0 : Nat) (a1 : Nat) (a2 : Nat) (a3 : Nat) (a4 : Nat) (a5 : Nat) (a6 : Nat) (p1 : Int32) (p2 : Int32) : Met l yX2_use (.code yX2_use cX2_use 6 (some .int) :: wsL_law) ({ frames := 1, cells := 0, slots := 0, locals := 23 }) (zPc dC dI (zT cI cB cZ cR) [.ref h, .int p1, .int p2, .int 0] sz [(h, .inr (2, [.ref a0, .ref a1, .ref a2, .ref a3, .ref a4, .ref a5, .ref a6])), (a0, .inl (cI, 22, .inl (gl [0, 0, 0, 0, 4, 0, 0, 0, 0, 0, 0, 0, (-1), (-1), 0, 0, 0, 0, 0, 4, 0, 16])))]) (va_Qi (fun (r : Int32) (_ : Unit) => r = (-1)) (fun _ : Unit => zB dC dI (zT cI cB cZ cR) (va_A [(h, .inr (2, [.ref a0, .ref a1, .ref a2, .ref a3, .ref a4, .ref a5, .ref a6])), (a0, .inl (cI, 22, .inl (gl [0, 0, 0, 0, 4, 0, 0, 0, 0, 0, 0, 0, (-1), (-1), 0, 0, 0, 0, 0, 4, 0, 16])))] sz) [(h, .inr (2, [.ref a0, .ref a1, .ref a2, .ref a3, .ref a4, .ref a5, .ref a6])), (a0, .inl (cI, 22, .inl (gl [0, 0, 0, 0, 4, 0, 0, 0, 0, 0, 0, 0, (-1), (-1), 0, 0, 0, 0, 0, 4, 0, 16])))]) (va_A [(h, .inr (2, [.ref a0, .ref a1, .ref a2, .ref a3, .ref a4, .ref a5, .ref a6])), (a0, .inl (cI, 22, .inl (gl [0, 0, 0, 0, 4, 0, 0, 0, 0, 0, 0, 0, (-1), (-1), 0, 0, 0, 0, 0, 4, 0, 16])))] sz)) 0 0 (va_A [(h, .inr (2, [.ref a0, .ref a1, .ref a2, .ref a3, .ref a4, .ref a5, .ref a6])), (a0, .inl (cI, 22, .inl (gl [0, 0, 0, 0, 4, 0, 0, 0, 0, 0, 0, 0, (-1), (-1), 0, 0, 0, 0, 0, 4, 0, 16])))] sz) := by
  refine Met.ofW (cc := cX2_use) (maxL := 6) (ret := (some .int)) (by decide) rfl ?_
  intro p e s m args below meth c s₁ B hml hv
  obtain ⟨rfl, hsz, hP, hK, hD0, hN⟩ := hv
  have hx := B.exec
  have hb := B.bytes
  have hr := B.returns
  have hts := atoms_spec (ws := (.code yX2_use cX2_use 6 (some .int) :: wsL_law)) B.pre
  have hown : s.vm.findClass RX2 = some m.cls := findClass_of_methodNamed B.named
  have hlocks := B.notSynchronized
  subst hsz
  have hD := hD0.self (sz := s.heap.size)
  generalize hAe : va_A [(h, .inr (2, [.ref a0, .ref a1, .ref a2, .ref a3, .ref a4, .ref a5, .ref a6])), (a0, .inl (cI, 22, .inl (gl [0, 0, 0, 0, 4, 0, 0, 0, 0, 0, 0, 0, (-1), (-1), 0, 0, 0, 0, 0, 4, 0, 16])))] s.heap.size = A at hD ⊢
  have hA : ∀ q : Nat, s.heap.size ≤ q → A q := fun q h => by rw [← hAe]; exact Or.inr h
  have hP : va_P (dC, dI) vwCl [(h, .inr (2, [.ref a0, .ref a1, .ref a2, .ref a3, .ref a4, .ref a5, .ref a6])), (a0, .inl (cI, 22, .inl (gl [0, 0, 0, 0, 4, 0, 0, 0, 0, 0, 0, 0, (-1), (-1), 0, 0, 0, 0, 0, 4, 0, 16])))] s.heap := hP
  have hl := lv_entry ([.ref h, .int p1, .int p2, .int 0]) (n := 6) (Nat.le_of_ble_eq_true rfl)
  rw [lg_entry_eq]
  generalize (lg_sl ([.ref h, .int p1, .int p2, .int 0]) ++ List.replicate (6 - (lg_sl ([.ref h, .int p1, .int p2, .int 0])).length) Slot.unset).toArray = ls at hl ⊢
  have hl : lv_has ls 6 [(0, .ref h), (1, .int p1), (2, .int p2), (3, .int 0)] := hl
  obtain ⟨H, hH⟩ : ∃ H, H = s.heap := ⟨_, rfl⟩
  rw [← hH] at hP ⊢
  have hS : va_S A s.heap H [] := by rw [hH]; exact va_S.rf
  refine lv_aload_n hx hb dX2_use_0 rfl (lv_at hl 0 rfl) ?_
  refine lv_iconst (v := 1) hx hb dX2_use_1 (by decide) ?_
  refine zcVi (As := [.int 1]) (rest := []) (wr := []) ⟨hx, hb, hml, hown, hts⟩ (kkX2_hasFeature_1 l dC dI cI cB cZ cR H.size h a0 a1 a2 a3 a4 a5 a6 0 0 0 0 4 0 0 0 0 0 0 0 (-1) (-1) 0 0 0 0 ) (cwV 1 hts (zgV wm_251 wm_252 wm_253 wm_22 wm_254) rfl rfl rfl (by decide +kernel) ⟨Nat.le_of_ble_eq_true rfl, Nat.le_of_ble_eq_true rfl⟩) hN hK hP hD hS hA [0, 1] [] rfl rfl ⟨rfl, rfl⟩ (by decide) (ci := 2) rfl rfl rfl rfl hl.1 rfl (Nat.le_of_ble_eq_true rfl) dX2_use_2 ⟨Nat.le_of_ble_eq_true rfl, Nat.le_of_ble_eq_true rfl⟩ (fun r u hu H locs hP hD hS => ?_)
  have hu : r = 0 := hu
  subst hu
  have hP : va_P (dC, dI) vwCl [(h, .inr (2, [.ref a0, .ref a1, .ref a2, .ref a3, .ref a4, .ref a5, .ref a6])), (a0, .inl (cI, 22, .inl (gl [0, 0, 0, 0, 4, 0, 0, 0, 0, 0, 0, 0, (-1), (-1), 0, 0, 0, 0, 0, 4, 0, 16])))] H := hP
  have hD : va_D A [(h, .inr (2, [.ref a0, .ref a1, .ref a2, .ref a3, .ref a4, .ref a5, .ref a6])), (a0, .inl (cI, 22, .inl (gl [0, 0, 0, 0, 4, 0, 0, 0, 0, 0, 0, 0, (-1), (-1), 0, 0, 0, 0, 0, 4, 0, 16])))] := hD
  refine lv_istore (lv' := [(4, .int 0), (0, .ref h), (1, .int p1), (2, .int p2), (3, .int 0)]) hx hb dX2_use_5 hl (by decide) rfl (fun ls hl => ?_)
  refine lv_aload_n hx hb dX2_use_7 rfl (lv_at hl 1 rfl) ?_
  refine lv_iload_n hx hb dX2_use_8 rfl (lv_at hl 2 rfl) ?_
  refine lv_iconst (v := 0) hx hb dX2_use_9 (by decide) ?_
  refine zcVi (As := [.int p1, .int 0]) (rest := []) (wr := []) ⟨hx, hb, hml, hown, hts⟩ (kkX2_ofBuffer_0 l dC dI cI cB cZ cR H.size h a0 a1 a2 a3 a4 a5 a6 p1 ) (cwV 2 hts (zgV wm_298 wm_299 wm_300 wm_22 wm_301) rfl rfl rfl (by decide +kernel) ⟨Nat.le_of_ble_eq_true rfl, Nat.le_of_ble_eq_true rfl⟩) hN hK hP hD hS hA [0, 1] [] rfl rfl ⟨rfl, rfl⟩ (by decide) (ci := 2) rfl rfl rfl rfl hl.1 rfl (Nat.le_of_ble_eq_true rfl) dX2_use_10 ⟨Nat.le_of_ble_eq_true rfl, Nat.le_of_ble_eq_true rfl⟩ (fun r u hu H locs hP hD hS => ?_)
  have hu : r = (-1) := hu
  subst hu
  have hP : va_P (dC, dI) vwCl [(h, .inr (2, [.ref a0, .ref a1, .ref a2, .ref a3, .ref a4, .ref a5, .ref a6])), (a0, .inl (cI, 22, .inl (gl [0, 0, 0, 0, 4, 0, 0, 0, 0, 0, 0, 0, (-1), (-1), 0, 0, 0, 0, 0, 4, 0, 16])))] H := hP
  have hD : va_D A [(h, .inr (2, [.ref a0, .ref a1, .ref a2, .ref a3, .ref a4, .ref a5, .ref a6])), (a0, .inl (cI, 22, .inl (gl [0, 0, 0, 0, 4, 0, 0, 0, 0, 0, 0, 0, (-1), (-1), 0, 0, 0, 0, 0, 4, 0, 16])))] := hD
  refine lv_iconst (v := 1) hx hb dX2_use_13 (by decide) ?_
  refine lv_icmp_eq (tgt := 19) hx hb dX2_use_14 (by decide) (fun c => absurd c (by decide)) (fun _ => ?_)
  refine lv_iconst (v := (-1)) hx hb dX2_use_17 (by decide) ?_
  have hP9 := hP.sub (ws' := [(h, .inr (2, [.ref a0, .ref a1, .ref a2, .ref a3, .ref a4, .ref a5, .ref a6])), (a0, .inl (cI, 22, .inl (gl [0, 0, 0, 0, 4, 0, 0, 0, 0, 0, 0, 0, (-1), (-1), 0, 0, 0, 0, 0, 4, 0, 16])))]) [0, 1] rfl
  have hD9 := hD.sub (ws' := [(h, .inr (2, [.ref a0, .ref a1, .ref a2, .ref a3, .ref a4, .ref a5, .ref a6])), (a0, .inl (cI, 22, .inl (gl [0, 0, 0, 0, 4, 0, 0, 0, 0, 0, 0, 0, (-1), (-1), 0, 0, 0, 0, 0, 4, 0, 16])))]) [0, 1] (by decide) rfl
  exact W.iret (v := (-1)) hx hb hr (fun t ht hW => ⟨⟨(-1), (), rfl, rfl, by rw [ht]; exact hP9, va_K.moved hW.alike hK, hD9⟩, hS.F ht⟩) hS.2.2 dX2_use_18

set_option maxHeartbeats 4000000 in
set_option maxRecDepth 100000 in
theorem kkX2_use_1 (l : Launch) (dC : Nat → ClassId) (dI : Nat → Nat → Nat) (cI cB cZ cR : ClassId) (sz : Nat) (h : Nat) (a0 : Nat) (a1 : Nat) (a2 : Nat) (a3 : Nat) (a4 : Nat) (a5 : Nat) (a6 : Nat) (p1 : Int32) (p2 : Int32) : Met l yX2_use (.code yX2_use cX2_use 6 (some .int) :: wsL_law) ({ frames := 1, cells := 0, slots := 0, locals := 23 }) (zPc dC dI (zT cI cB cZ cR) [.ref h, .int p1, .int p2, .int 1] sz [(h, .inr (2, [.ref a0, .ref a1, .ref a2, .ref a3, .ref a4, .ref a5, .ref a6])), (a0, .inl (cI, 22, .inl (gl [0, 0, 0, 0, 4, 0, 0, 0, 0, 0, 0, 0, (-1), (-1), 0, 0, 0, 0, 0, 4, 0, 16])))]) (va_Qi (fun (r : Int32) (_ : Unit) => r = (-1)) (fun _ : Unit => zB dC dI (zT cI cB cZ cR) (va_A [(h, .inr (2, [.ref a0, .ref a1, .ref a2, .ref a3, .ref a4, .ref a5, .ref a6])), (a0, .inl (cI, 22, .inl (gl [0, 0, 0, 0, 4, 0, 0, 0, 0, 0, 0, 0, (-1), (-1), 0, 0, 0, 0, 0, 4, 0, 16])))] sz) [(h, .inr (2, [.ref a0, .ref a1, .ref a2, .ref a3, .ref a4, .ref a5, .ref a6])), (a0, .inl (cI, 22, .inl (gl [0, 0, 0, 0, 4, 0, 0, 0, 0, 0, 0, 0, (-1), (-1), 0, 0, 0, 0, 0, 4, 0, 16])))]) (va_A [(h, .inr (2, [.ref a0, .ref a1, .ref a2, .ref a3, .ref a4, .ref a5, .ref a6])), (a0, .inl (cI, 22, .inl (gl [0, 0, 0, 0, 4, 0, 0, 0, 0, 0, 0, 0, (-1), (-1), 0, 0, 0, 0, 0, 4, 0, 16])))] sz)) 0 0 (va_A [(h, .inr (2, [.ref a0, .ref a1, .ref a2, .ref a3, .ref a4, .ref a5, .ref a6])), (a0, .inl (cI, 22, .inl (gl [0, 0, 0, 0, 4, 0, 0, 0, 0, 0, 0, 0, (-1), (-1), 0, 0, 0, 0, 0, 4, 0, 16])))] sz) := by
  refine Met.ofW (cc := cX2_use) (maxL := 6) (ret := (some .int)) (by decide) rfl ?_
  intro p e s m args below meth c s₁ B hml hv
  obtain ⟨rfl, hsz, hP, hK, hD0, hN⟩ := hv
  have hx := B.exec
  have hb := B.bytes
  have hr := B.returns
  have hts := atoms_spec (ws := (.code yX2_use cX2_use 6 (some .int) :: wsL_law)) B.pre
  have hown : s.vm.findClass RX2 = some m.cls := findClass_of_methodNamed B.named
  have hlocks := B.notSynchronized
  subst hsz
  have hD := hD0.self (sz := s.heap.size)
  generalize hAe : va_A [(h, .inr (2, [.ref a0, .ref a1, .ref a2, .ref a3, .ref a4, .ref a5, .ref a6])), (a0, .inl (cI, 22, .inl (gl [0, 0, 0, 0, 4, 0, 0, 0, 0, 0, 0, 0, (-1), (-1), 0, 0, 0, 0, 0, 4, 0, 16])))] s.heap.size = A at hD ⊢
  have hA : ∀ q : Nat, s.heap.size ≤ q → A q := fun q h => by rw [← hAe]; exact Or.inr h
  have hP : va_P (dC, dI) vwCl [(h, .inr (2, [.ref a0, .ref a1, .ref a2, .ref a3, .ref a4, .ref a5, .ref a6])), (a0, .inl (cI, 22, .inl (gl [0, 0, 0, 0, 4, 0, 0, 0, 0, 0, 0, 0, (-1), (-1), 0, 0, 0, 0, 0, 4, 0, 16])))] s.heap := hP
  have hl := lv_entry ([.ref h, .int p1, .int p2, .int 1]) (n := 6) (Nat.le_of_ble_eq_true rfl)
  rw [lg_entry_eq]
  generalize (lg_sl ([.ref h, .int p1, .int p2, .int 1]) ++ List.replicate (6 - (lg_sl ([.ref h, .int p1, .int p2, .int 1])).length) Slot.unset).toArray = ls at hl ⊢
  have hl : lv_has ls 6 [(0, .ref h), (1, .int p1), (2, .int p2), (3, .int 1)] := hl
  obtain ⟨H, hH⟩ : ∃ H, H = s.heap := ⟨_, rfl⟩
  rw [← hH] at hP ⊢
  have hS : va_S A s.heap H [] := by rw [hH]; exact va_S.rf
  refine lv_aload_n hx hb dX2_use_0 rfl (lv_at hl 0 rfl) ?_
  refine lv_iconst (v := 1) hx hb dX2_use_1 (by decide) ?_
  refine zcVi (As := [.int 1]) (rest := []) (wr := []) ⟨hx, hb, hml, hown, hts⟩ (kkX2_hasFeature_1 l dC dI cI cB cZ cR H.size h a0 a1 a2 a3 a4 a5 a6 0 0 0 0 4 0 0 0 0 0 0 0 (-1) (-1) 0 0 0 0 ) (cwV 1 hts (zgV wm_251 wm_252 wm_253 wm_22 wm_254) rfl rfl rfl (by decide +kernel) ⟨Nat.le_of_ble_eq_true rfl, Nat.le_of_ble_eq_true rfl⟩) hN hK hP hD hS hA [0, 1] [] rfl rfl ⟨rfl, rfl⟩ (by decide) (ci := 2) rfl rfl rfl rfl hl.1 rfl (Nat.le_of_ble_eq_true rfl) dX2_use_2 ⟨Nat.le_of_ble_eq_true rfl, Nat.le_of_ble_eq_true rfl⟩ (fun r u hu H locs hP hD hS => ?_)
  have hu : r = 0 := hu
  subst hu
  have hP : va_P (dC, dI) vwCl [(h, .inr (2, [.ref a0, .ref a1, .ref a2, .ref a3, .ref a4, .ref a5, .ref a6])), (a0, .inl (cI, 22, .inl (gl [0, 0, 0, 0, 4, 0, 0, 0, 0, 0, 0, 0, (-1), (-1), 0, 0, 0, 0, 0, 4, 0, 16])))] H := hP
  have hD : va_D A [(h, .inr (2, [.ref a0, .ref a1, .ref a2, .ref a3, .ref a4, .ref a5, .ref a6])), (a0, .inl (cI, 22, .inl (gl [0, 0, 0, 0, 4, 0, 0, 0, 0, 0, 0, 0, (-1), (-1), 0, 0, 0, 0, 0, 4, 0, 16])))] := hD
  refine lv_istore (lv' := [(4, .int 0), (0, .ref h), (1, .int p1), (2, .int p2), (3, .int 1)]) hx hb dX2_use_5 hl (by decide) rfl (fun ls hl => ?_)
  refine lv_aload_n hx hb dX2_use_7 rfl (lv_at hl 1 rfl) ?_
  refine lv_iload_n hx hb dX2_use_8 rfl (lv_at hl 2 rfl) ?_
  refine lv_iconst (v := 0) hx hb dX2_use_9 (by decide) ?_
  refine zcVi (As := [.int p1, .int 0]) (rest := []) (wr := []) ⟨hx, hb, hml, hown, hts⟩ (kkX2_ofBuffer_0 l dC dI cI cB cZ cR H.size h a0 a1 a2 a3 a4 a5 a6 p1 ) (cwV 2 hts (zgV wm_298 wm_299 wm_300 wm_22 wm_301) rfl rfl rfl (by decide +kernel) ⟨Nat.le_of_ble_eq_true rfl, Nat.le_of_ble_eq_true rfl⟩) hN hK hP hD hS hA [0, 1] [] rfl rfl ⟨rfl, rfl⟩ (by decide) (ci := 2) rfl rfl rfl rfl hl.1 rfl (Nat.le_of_ble_eq_true rfl) dX2_use_10 ⟨Nat.le_of_ble_eq_true rfl, Nat.le_of_ble_eq_true rfl⟩ (fun r u hu H locs hP hD hS => ?_)
  have hu : r = (-1) := hu
  subst hu
  have hP : va_P (dC, dI) vwCl [(h, .inr (2, [.ref a0, .ref a1, .ref a2, .ref a3, .ref a4, .ref a5, .ref a6])), (a0, .inl (cI, 22, .inl (gl [0, 0, 0, 0, 4, 0, 0, 0, 0, 0, 0, 0, (-1), (-1), 0, 0, 0, 0, 0, 4, 0, 16])))] H := hP
  have hD : va_D A [(h, .inr (2, [.ref a0, .ref a1, .ref a2, .ref a3, .ref a4, .ref a5, .ref a6])), (a0, .inl (cI, 22, .inl (gl [0, 0, 0, 0, 4, 0, 0, 0, 0, 0, 0, 0, (-1), (-1), 0, 0, 0, 0, 0, 4, 0, 16])))] := hD
  refine lv_iconst (v := 1) hx hb dX2_use_13 (by decide) ?_
  refine lv_icmp_eq (tgt := 19) hx hb dX2_use_14 (by decide) (fun c => absurd c (by decide)) (fun _ => ?_)
  refine lv_iconst (v := (-1)) hx hb dX2_use_17 (by decide) ?_
  have hP9 := hP.sub (ws' := [(h, .inr (2, [.ref a0, .ref a1, .ref a2, .ref a3, .ref a4, .ref a5, .ref a6])), (a0, .inl (cI, 22, .inl (gl [0, 0, 0, 0, 4, 0, 0, 0, 0, 0, 0, 0, (-1), (-1), 0, 0, 0, 0, 0, 4, 0, 16])))]) [0, 1] rfl
  have hD9 := hD.sub (ws' := [(h, .inr (2, [.ref a0, .ref a1, .ref a2, .ref a3, .ref a4, .ref a5, .ref a6])), (a0, .inl (cI, 22, .inl (gl [0, 0, 0, 0, 4, 0, 0, 0, 0, 0, 0, 0, (-1), (-1), 0, 0, 0, 0, 0, 4, 0, 16])))]) [0, 1] (by decide) rfl
  exact W.iret (v := (-1)) hx hb hr (fun t ht hW => ⟨⟨(-1), (), rfl, rfl, by rw [ht]; exact hP9, va_K.moved hW.alike hK, hD9⟩, hS.F ht⟩) hS.2.2 dX2_use_18

set_option maxHeartbeats 4000000 in
set_option maxRecDepth 100000 in
theorem kkX7_finish (l : Launch) (dC : Nat → ClassId) (dI : Nat → Nat → Nat) (cI cB cZ cR : ClassId) (sz : Nat) (x : Nat) (xt : Nat) (xd : Nat) (h : Nat) (xk : Nat) (xl : Nat) (xw : Nat) (xp : Nat) (xs : Nat) (xr : Nat) (a0 : Nat) (a1 : Nat) (a2 : Nat) (a3 : Nat) (a4 : Nat) (a5 : Nat) (a6 : Nat) (p1 : Int32) (p2 : Int32) : Met l yX7_finish (.code yX7_finish cX7_finish 3 (some .int) :: wsL_law) ({ frames := 2, cells := 0, slots := 0, locals := 48 }) (zPc dC dI (zT cI cB cZ cR) [.ref x, .int p1, .int p2] sz [(x, .inr (7, [.ref xt, .ref xd, .ref h, .ref xk, .ref xl, .ref xw, .ref xp, .ref xs, .ref xr, .int 0, .int (-1), .int 0, .null])), (h, .inr (2, [.ref a0, .ref a1, .ref a2, .ref a3, .ref a4, .ref a5, .ref a6])), (a0, .inl (cI, 22, .inl (gl [0, 0, 0, 0, 4, 0, 0, 0, 0, 0, 0, 0, (-1), (-1), 0, 0, 0, 0, 0, 4, 0, 16])))]) (va_Qi (fun (r : Int32) (_ : Unit) => r = (-1)) (fun _ : Unit => zB dC dI (zT cI cB cZ cR) (va_A [(x, .inr (7, [.ref xt, .ref xd, .ref h, .ref xk, .ref xl, .ref xw, .ref xp, .ref xs, .ref xr, .int 0, .int (-1), .int 0, .null])), (h, .inr (2, [.ref a0, .ref a1, .ref a2, .ref a3, .ref a4, .ref a5, .ref a6])), (a0, .inl (cI, 22, .inl (gl [0, 0, 0, 0, 4, 0, 0, 0, 0, 0, 0, 0, (-1), (-1), 0, 0, 0, 0, 0, 4, 0, 16])))] sz) [(x, .inr (7, [.ref xt, .ref xd, .ref h, .ref xk, .ref xl, .ref xw, .ref xp, .ref xs, .ref xr, .int 0, .int (-1), .int 0, .null])), (h, .inr (2, [.ref a0, .ref a1, .ref a2, .ref a3, .ref a4, .ref a5, .ref a6])), (a0, .inl (cI, 22, .inl (gl [0, 0, 0, 0, 4, 0, 0, 0, 0, 0, 0, 0, (-1), (-1), 0, 0, 0, 0, 0, 4, 0, 16])))]) (va_A [(x, .inr (7, [.ref xt, .ref xd, .ref h, .ref xk, .ref xl, .ref xw, .ref xp, .ref xs, .ref xr, .int 0, .int (-1), .int 0, .null])), (h, .inr (2, [.ref a0, .ref a1, .ref a2, .ref a3, .ref a4, .ref a5, .ref a6])), (a0, .inl (cI, 22, .inl (gl [0, 0, 0, 0, 4, 0, 0, 0, 0, 0, 0, 0, (-1), (-1), 0, 0, 0, 0, 0, 4, 0, 16])))] sz)) 0 0 (va_A [(x, .inr (7, [.ref xt, .ref xd, .ref h, .ref xk, .ref xl, .ref xw, .ref xp, .ref xs, .ref xr, .int 0, .int (-1), .int 0, .null])), (h, .inr (2, [.ref a0, .ref a1, .ref a2, .ref a3, .ref a4, .ref a5, .ref a6])), (a0, .inl (cI, 22, .inl (gl [0, 0, 0, 0, 4, 0, 0, 0, 0, 0, 0, 0, (-1), (-1), 0, 0, 0, 0, 0, 4, 0, 16])))] sz) := by
  refine Met.ofW (cc := cX7_finish) (maxL := 3) (ret := (some .int)) (by decide) rfl ?_
  intro p e s m args below meth c s₁ B hml hv
  obtain ⟨rfl, hsz, hP, hK, hD0, hN⟩ := hv
  have hx := B.exec
  have hb := B.bytes
  have hr := B.returns
  have hts := atoms_spec (ws := (.code yX7_finish cX7_finish 3 (some .int) :: wsL_law)) B.pre
  have hown : s.vm.findClass RX7 = some m.cls := findClass_of_methodNamed B.named
  have hlocks := B.notSynchronized
  have hinX7 : ∀ w ∈ u_ws RX7 TX7 13, w ∈ (.code yX7_finish cX7_finish 3 (some .int) :: wsL_law) := fun w h => List.mem_cons_of_mem _ (inlX7 w h)
  have k_0 := hts (.fieldLink RX7 26 "RingMarks" "ring" "LRingMarks$Ring;") (List.mem_cons_of_mem _ wm_23)
  subst hsz
  have hD := hD0.self (sz := s.heap.size)
  generalize hAe : va_A [(x, .inr (7, [.ref xt, .ref xd, .ref h, .ref xk, .ref xl, .ref xw, .ref xp, .ref xs, .ref xr, .int 0, .int (-1), .int 0, .null])), (h, .inr (2, [.ref a0, .ref a1, .ref a2, .ref a3, .ref a4, .ref a5, .ref a6])), (a0, .inl (cI, 22, .inl (gl [0, 0, 0, 0, 4, 0, 0, 0, 0, 0, 0, 0, (-1), (-1), 0, 0, 0, 0, 0, 4, 0, 16])))] s.heap.size = A at hD ⊢
  have hA : ∀ q : Nat, s.heap.size ≤ q → A q := fun q h => by rw [← hAe]; exact Or.inr h
  have hP : va_P (dC, dI) vwCl [(x, .inr (7, [.ref xt, .ref xd, .ref h, .ref xk, .ref xl, .ref xw, .ref xp, .ref xs, .ref xr, .int 0, .int (-1), .int 0, .null])), (h, .inr (2, [.ref a0, .ref a1, .ref a2, .ref a3, .ref a4, .ref a5, .ref a6])), (a0, .inl (cI, 22, .inl (gl [0, 0, 0, 0, 4, 0, 0, 0, 0, 0, 0, 0, (-1), (-1), 0, 0, 0, 0, 0, 4, 0, 16])))] s.heap := hP
  have hl := lv_entry ([.ref x, .int p1, .int p2]) (n := 3) (Nat.le_of_ble_eq_true rfl)
  rw [lg_entry_eq]
  generalize (lg_sl ([.ref x, .int p1, .int p2]) ++ List.replicate (3 - (lg_sl ([.ref x, .int p1, .int p2])).length) Slot.unset).toArray = ls at hl ⊢
  have hl : lv_has ls 3 [(0, .ref x), (1, .int p1), (2, .int p2)] := hl
  obtain ⟨H, hH⟩ : ∃ H, H = s.heap := ⟨_, rfl⟩
  rw [← hH] at hP ⊢
  have hS : va_S A s.heap H [] := by rw [hH]; exact va_S.rf
  refine lv_aload_n hx hb dX7_finish_0 rfl (lv_at hl 0 rfl) ?_
  refine va_get (D := (dC, dI)) (ci := 7) (v := .ref h) (C := RX7) (T := TX7) (N := 13) hx hb hts hinX7 hown hK hP 0 rfl rfl 2 (by decide) k_0 (fun _ h9 => h9) rfl dX7_finish_1 ?_
  refine lv_iload_n hx hb dX7_finish_4 rfl (lv_at hl 1 rfl) ?_
  refine lv_iload_n hx hb dX7_finish_5 rfl (lv_at hl 2 rfl) ?_
  refine lv_iconst (v := 0) hx hb dX7_finish_6 (by decide) ?_
  refine zcVi (As := [.int p1, .int p2, .int 0]) (rest := []) (wr := [(x, .inr (7, [.ref xt, .ref xd, .ref h, .ref xk, .ref xl, .ref xw, .ref xp, .ref xs, .ref xr, .int 0, .int (-1), .int 0, .null]))]) ⟨hx, hb, hml, hown, hts⟩ (kkX2_use_0 l dC dI cI cB cZ cR H.size h a0 a1 a2 a3 a4 a5 a6 p1 p2 ) (cwV 3 hts (zgV wm_548 wm_549 wm_550 wm_22 wm_551) rfl rfl rfl (by decide +kernel) ⟨Nat.le_of_ble_eq_true rfl, Nat.le_of_ble_eq_true rfl⟩) hN hK hP hD hS hA [1, 2] [0] rfl rfl ⟨rfl, rfl⟩ (by decide) (ci := 2) rfl rfl rfl rfl hl.1 rfl (Nat.le_of_ble_eq_true rfl) dX7_finish_7 ⟨Nat.le_of_ble_eq_true rfl, Nat.le_of_ble_eq_true rfl⟩ (fun r u hu H locs hP hD hS => ?_)
  have hu : r = (-1) := hu
  subst hu
  have hP : va_P (dC, dI) vwCl [(x, .inr (7, [.ref xt, .ref xd, .ref h, .ref xk, .ref xl, .ref xw, .ref xp, .ref xs, .ref xr, .int 0, .int (-1), .int 0, .null])), (h, .inr (2, [.ref a0, .ref a1, .ref a2, .ref a3, .ref a4, .ref a5, .ref a6])), (a0, .inl (cI, 22, .inl (gl [0, 0, 0, 0, 4, 0, 0, 0, 0, 0, 0, 0, (-1), (-1), 0, 0, 0, 0, 0, 4, 0, 16])))] H := hP
  have hD : va_D A [(x, .inr (7, [.ref xt, .ref xd, .ref h, .ref xk, .ref xl, .ref xw, .ref xp, .ref xs, .ref xr, .int 0, .int (-1), .int 0, .null])), (h, .inr (2, [.ref a0, .ref a1, .ref a2, .ref a3, .ref a4, .ref a5, .ref a6])), (a0, .inl (cI, 22, .inl (gl [0, 0, 0, 0, 4, 0, 0, 0, 0, 0, 0, 0, (-1), (-1), 0, 0, 0, 0, 0, 4, 0, 16])))] := hD
  have hP9 := hP.sub (ws' := [(x, .inr (7, [.ref xt, .ref xd, .ref h, .ref xk, .ref xl, .ref xw, .ref xp, .ref xs, .ref xr, .int 0, .int (-1), .int 0, .null])), (h, .inr (2, [.ref a0, .ref a1, .ref a2, .ref a3, .ref a4, .ref a5, .ref a6])), (a0, .inl (cI, 22, .inl (gl [0, 0, 0, 0, 4, 0, 0, 0, 0, 0, 0, 0, (-1), (-1), 0, 0, 0, 0, 0, 4, 0, 16])))]) [0, 1, 2] rfl
  have hD9 := hD.sub (ws' := [(x, .inr (7, [.ref xt, .ref xd, .ref h, .ref xk, .ref xl, .ref xw, .ref xp, .ref xs, .ref xr, .int 0, .int (-1), .int 0, .null])), (h, .inr (2, [.ref a0, .ref a1, .ref a2, .ref a3, .ref a4, .ref a5, .ref a6])), (a0, .inl (cI, 22, .inl (gl [0, 0, 0, 0, 4, 0, 0, 0, 0, 0, 0, 0, (-1), (-1), 0, 0, 0, 0, 0, 4, 0, 16])))]) [0, 1, 2] (by decide) rfl
  exact W.iret (v := (-1)) hx hb hr (fun t ht hW => ⟨⟨(-1), (), rfl, rfl, by rw [ht]; exact hP9, va_K.moved hW.alike hK, hD9⟩, hS.F ht⟩) hS.2.2 dX7_finish_10

set_option maxHeartbeats 4000000 in
set_option maxRecDepth 100000 in
theorem kkX7_batch (l : Launch) (dC : Nat → ClassId) (dI : Nat → Nat → Nat) (cI cB cZ cR : ClassId) (sz : Nat) (x : Nat) (xt : Nat) (xd : Nat) (h : Nat) (xk : Nat) (xl : Nat) (xw : Nat) (xp : Nat) (xs : Nat) (xr : Nat) (a0 : Nat) (a1 : Nat) (a2 : Nat) (a3 : Nat) (a4 : Nat) (a5 : Nat) (a6 : Nat) (p1 : Int32) (p2 : Int32) : Met l yX7_batch (.code yX7_batch cX7_batch 3 (some .int) :: wsL_law) ({ frames := 2, cells := 0, slots := 0, locals := 48 }) (zPc dC dI (zT cI cB cZ cR) [.ref x, .int p1, .int p2] sz [(x, .inr (7, [.ref xt, .ref xd, .ref h, .ref xk, .ref xl, .ref xw, .ref xp, .ref xs, .ref xr, .int 0, .int (-1), .int 0, .null])), (h, .inr (2, [.ref a0, .ref a1, .ref a2, .ref a3, .ref a4, .ref a5, .ref a6])), (a0, .inl (cI, 22, .inl (gl [0, 0, 0, 0, 4, 0, 0, 0, 0, 0, 0, 0, (-1), (-1), 0, 0, 0, 0, 0, 4, 0, 16])))]) (va_Qi (fun (r : Int32) (_ : Unit) => r = (-1)) (fun _ : Unit => zB dC dI (zT cI cB cZ cR) (va_A [(x, .inr (7, [.ref xt, .ref xd, .ref h, .ref xk, .ref xl, .ref xw, .ref xp, .ref xs, .ref xr, .int 0, .int (-1), .int 0, .null])), (h, .inr (2, [.ref a0, .ref a1, .ref a2, .ref a3, .ref a4, .ref a5, .ref a6])), (a0, .inl (cI, 22, .inl (gl [0, 0, 0, 0, 4, 0, 0, 0, 0, 0, 0, 0, (-1), (-1), 0, 0, 0, 0, 0, 4, 0, 16])))] sz) [(x, .inr (7, [.ref xt, .ref xd, .ref h, .ref xk, .ref xl, .ref xw, .ref xp, .ref xs, .ref xr, .int 0, .int (-1), .int 0, .null])), (h, .inr (2, [.ref a0, .ref a1, .ref a2, .ref a3, .ref a4, .ref a5, .ref a6])), (a0, .inl (cI, 22, .inl (gl [0, 0, 0, 0, 4, 0, 0, 0, 0, 0, 0, 0, (-1), (-1), 0, 0, 0, 0, 0, 4, 0, 16])))]) (va_A [(x, .inr (7, [.ref xt, .ref xd, .ref h, .ref xk, .ref xl, .ref xw, .ref xp, .ref xs, .ref xr, .int 0, .int (-1), .int 0, .null])), (h, .inr (2, [.ref a0, .ref a1, .ref a2, .ref a3, .ref a4, .ref a5, .ref a6])), (a0, .inl (cI, 22, .inl (gl [0, 0, 0, 0, 4, 0, 0, 0, 0, 0, 0, 0, (-1), (-1), 0, 0, 0, 0, 0, 4, 0, 16])))] sz)) 0 0 (va_A [(x, .inr (7, [.ref xt, .ref xd, .ref h, .ref xk, .ref xl, .ref xw, .ref xp, .ref xs, .ref xr, .int 0, .int (-1), .int 0, .null])), (h, .inr (2, [.ref a0, .ref a1, .ref a2, .ref a3, .ref a4, .ref a5, .ref a6])), (a0, .inl (cI, 22, .inl (gl [0, 0, 0, 0, 4, 0, 0, 0, 0, 0, 0, 0, (-1), (-1), 0, 0, 0, 0, 0, 4, 0, 16])))] sz) := by
  refine Met.ofW (cc := cX7_batch) (maxL := 3) (ret := (some .int)) (by decide) rfl ?_
  intro p e s m args below meth c s₁ B hml hv
  obtain ⟨rfl, hsz, hP, hK, hD0, hN⟩ := hv
  have hx := B.exec
  have hb := B.bytes
  have hr := B.returns
  have hts := atoms_spec (ws := (.code yX7_batch cX7_batch 3 (some .int) :: wsL_law)) B.pre
  have hown : s.vm.findClass RX7 = some m.cls := findClass_of_methodNamed B.named
  have hlocks := B.notSynchronized
  have hinX7 : ∀ w ∈ u_ws RX7 TX7 13, w ∈ (.code yX7_batch cX7_batch 3 (some .int) :: wsL_law) := fun w h => List.mem_cons_of_mem _ (inlX7 w h)
  have k_0 := hts (.fieldLink RX7 26 "RingMarks" "ring" "LRingMarks$Ring;") (List.mem_cons_of_mem _ wm_23)
  subst hsz
  have hD := hD0.self (sz := s.heap.size)
  generalize hAe : va_A [(x, .inr (7, [.ref xt, .ref xd, .ref h, .ref xk, .ref xl, .ref xw, .ref xp, .ref xs, .ref xr, .int 0, .int (-1), .int 0, .null])), (h, .inr (2, [.ref a0, .ref a1, .ref a2, .ref a3, .ref a4, .ref a5, .ref a6])), (a0, .inl (cI, 22, .inl (gl [0, 0, 0, 0, 4, 0, 0, 0, 0, 0, 0, 0, (-1), (-1), 0, 0, 0, 0, 0, 4, 0, 16])))] s.heap.size = A at hD ⊢
  have hA : ∀ q : Nat, s.heap.size ≤ q → A q := fun q h => by rw [← hAe]; exact Or.inr h
  have hP : va_P (dC, dI) vwCl [(x, .inr (7, [.ref xt, .ref xd, .ref h, .ref xk, .ref xl, .ref xw, .ref xp, .ref xs, .ref xr, .int 0, .int (-1), .int 0, .null])), (h, .inr (2, [.ref a0, .ref a1, .ref a2, .ref a3, .ref a4, .ref a5, .ref a6])), (a0, .inl (cI, 22, .inl (gl [0, 0, 0, 0, 4, 0, 0, 0, 0, 0, 0, 0, (-1), (-1), 0, 0, 0, 0, 0, 4, 0, 16])))] s.heap := hP
  have hl := lv_entry ([.ref x, .int p1, .int p2]) (n := 3) (Nat.le_of_ble_eq_true rfl)
  rw [lg_entry_eq]
  generalize (lg_sl ([.ref x, .int p1, .int p2]) ++ List.replicate (3 - (lg_sl ([.ref x, .int p1, .int p2])).length) Slot.unset).toArray = ls at hl ⊢
  have hl : lv_has ls 3 [(0, .ref x), (1, .int p1), (2, .int p2)] := hl
  obtain ⟨H, hH⟩ : ∃ H, H = s.heap := ⟨_, rfl⟩
  rw [← hH] at hP ⊢
  have hS : va_S A s.heap H [] := by rw [hH]; exact va_S.rf
  refine lv_aload_n hx hb dX7_batch_0 rfl (lv_at hl 0 rfl) ?_
  refine va_get (D := (dC, dI)) (ci := 7) (v := .ref h) (C := RX7) (T := TX7) (N := 13) hx hb hts hinX7 hown hK hP 0 rfl rfl 2 (by decide) k_0 (fun _ h9 => h9) rfl dX7_batch_1 ?_
  refine lv_iload_n hx hb dX7_batch_4 rfl (lv_at hl 1 rfl) ?_
  refine lv_iload_n hx hb dX7_batch_5 rfl (lv_at hl 2 rfl) ?_
  refine lv_iconst (v := 1) hx hb dX7_batch_6 (by decide) ?_
  refine zcVi (As := [.int p1, .int p2, .int 1]) (rest := []) (wr := [(x, .inr (7, [.ref xt, .ref xd, .ref h, .ref xk, .ref xl, .ref xw, .ref xp, .ref xs, .ref xr, .int 0, .int (-1), .int 0, .null]))]) ⟨hx, hb, hml, hown, hts⟩ (kkX2_use_1 l dC dI cI cB cZ cR H.size h a0 a1 a2 a3 a4 a5 a6 p1 p2 ) (cwV 3 hts (zgV wm_548 wm_549 wm_550 wm_22 wm_551) rfl rfl rfl (by decide +kernel) ⟨Nat.le_of_ble_eq_true rfl, Nat.le_of_ble_eq_true rfl⟩) hN hK hP hD hS hA [1, 2] [0] rfl rfl ⟨rfl, rfl⟩ (by decide) (ci := 2) rfl rfl rfl rfl hl.1 rfl (Nat.le_of_ble_eq_true rfl) dX7_batch_7 ⟨Nat.le_of_ble_eq_true rfl, Nat.le_of_ble_eq_true rfl⟩ (fun r u hu H locs hP hD hS => ?_)
  have hu : r = (-1) := hu
  subst hu
  have hP : va_P (dC, dI) vwCl [(x, .inr (7, [.ref xt, .ref xd, .ref h, .ref xk, .ref xl, .ref xw, .ref xp, .ref xs, .ref xr, .int 0, .int (-1), .int 0, .null])), (h, .inr (2, [.ref a0, .ref a1, .ref a2, .ref a3, .ref a4, .ref a5, .ref a6])), (a0, .inl (cI, 22, .inl (gl [0, 0, 0, 0, 4, 0, 0, 0, 0, 0, 0, 0, (-1), (-1), 0, 0, 0, 0, 0, 4, 0, 16])))] H := hP
  have hD : va_D A [(x, .inr (7, [.ref xt, .ref xd, .ref h, .ref xk, .ref xl, .ref xw, .ref xp, .ref xs, .ref xr, .int 0, .int (-1), .int 0, .null])), (h, .inr (2, [.ref a0, .ref a1, .ref a2, .ref a3, .ref a4, .ref a5, .ref a6])), (a0, .inl (cI, 22, .inl (gl [0, 0, 0, 0, 4, 0, 0, 0, 0, 0, 0, 0, (-1), (-1), 0, 0, 0, 0, 0, 4, 0, 16])))] := hD
  have hP9 := hP.sub (ws' := [(x, .inr (7, [.ref xt, .ref xd, .ref h, .ref xk, .ref xl, .ref xw, .ref xp, .ref xs, .ref xr, .int 0, .int (-1), .int 0, .null])), (h, .inr (2, [.ref a0, .ref a1, .ref a2, .ref a3, .ref a4, .ref a5, .ref a6])), (a0, .inl (cI, 22, .inl (gl [0, 0, 0, 0, 4, 0, 0, 0, 0, 0, 0, 0, (-1), (-1), 0, 0, 0, 0, 0, 4, 0, 16])))]) [0, 1, 2] rfl
  have hD9 := hD.sub (ws' := [(x, .inr (7, [.ref xt, .ref xd, .ref h, .ref xk, .ref xl, .ref xw, .ref xp, .ref xs, .ref xr, .int 0, .int (-1), .int 0, .null])), (h, .inr (2, [.ref a0, .ref a1, .ref a2, .ref a3, .ref a4, .ref a5, .ref a6])), (a0, .inl (cI, 22, .inl (gl [0, 0, 0, 0, 4, 0, 0, 0, 0, 0, 0, 0, (-1), (-1), 0, 0, 0, 0, 0, 4, 0, 16])))]) [0, 1, 2] (by decide) rfl
  exact W.iret (v := (-1)) hx hb hr (fun t ht hW => ⟨⟨(-1), (), rfl, rfl, by rw [ht]; exact hP9, va_K.moved hW.alike hK, hD9⟩, hS.F ht⟩) hS.2.2 dX7_batch_10

set_option maxHeartbeats 4000000 in
set_option maxRecDepth 100000 in
theorem kkX2_gather_0 (l : Launch) (dC : Nat → ClassId) (dI : Nat → Nat → Nat) (cI cB cZ cR : ClassId) (sz : Nat) (h : Nat) (a0 : Nat) (a1 : Nat) (a2 : Nat) (a3 : Nat) (a4 : Nat) (a5 : Nat) (a6 : Nat) : Met l yX2_gather (.code yX2_gather cX2_gather 5 (some .int) :: wsL_law) ({ frames := 1, cells := 0, slots := 0, locals := 21 }) (zPc dC dI (zT cI cB cZ cR) [.ref h] sz [(h, .inr (2, [.ref a0, .ref a1, .ref a2, .ref a3, .ref a4, .ref a5, .ref a6])), (a0, .inl (cI, 22, .inl (gl [0, 0, 0, 0, 4, 0, 0, 0, 0, 0, 0, 0, (-1), (-1), 0, 0, 0, 0, 0, 4, 0, 16])))]) (va_Qi (fun (r : Int32) (_ : Unit) => r = (-1)) (fun _ : Unit => zB dC dI (zT cI cB cZ cR) (va_A [(h, .inr (2, [.ref a0, .ref a1, .ref a2, .ref a3, .ref a4, .ref a5, .ref a6])), (a0, .inl (cI, 22, .inl (gl [0, 0, 0, 0, 4, 0, 0, 0, 0, 0, 0, 0, (-1), (-1), 0, 0, 0, 0, 0, 4, 0, 16])))] sz) [(h, .inr (2, [.ref a0, .ref a1, .ref a2, .ref a3, .ref a4, .ref a5, .ref a6])), (a0, .inl (cI, 22, .inl (gl [0, 0, 0, 0, 4, 0, 0, 0, 0, 0, 0, 0, (-1), (-1), 0, 0, 0, 0, 0, 4, 0, 16])))]) (va_A [(h, .inr (2, [.ref a0, .ref a1, .ref a2, .ref a3, .ref a4, .ref a5, .ref a6])), (a0, .inl (cI, 22, .inl (gl [0, 0, 0, 0, 4, 0, 0, 0, 0, 0, 0, 0, (-1), (-1), 0, 0, 0, 0, 0, 4, 0, 16])))] sz)) 0 0 (va_A [(h, .inr (2, [.ref a0, .ref a1, .ref a2, .ref a3, .ref a4, .ref a5, .ref a6])), (a0, .inl (cI, 22, .inl (gl [0, 0, 0, 0, 4, 0, 0, 0, 0, 0, 0, 0, (-1), (-1), 0, 0, 0, 0, 0, 4, 0, 16])))] sz) := by
  refine Met.ofW (cc := cX2_gather) (maxL := 5) (ret := (some .int)) (by decide) rfl ?_
  intro p e s m args below meth c s₁ B hml hv
  obtain ⟨rfl, hsz, hP, hK, hD0, hN⟩ := hv
  have hx := B.exec
  have hb := B.bytes
  have hr := B.returns
  have hts := atoms_spec (ws := (.code yX2_gather cX2_gather 5 (some .int) :: wsL_law)) B.pre
  have hown : s.vm.findClass RX2 = some m.cls := findClass_of_methodNamed B.named
  have hlocks := B.notSynchronized
  have hinX2 : ∀ w ∈ u_ws RX2 TX2 7, w ∈ (.code yX2_gather cX2_gather 5 (some .int) :: wsL_law) := fun w h => List.mem_cons_of_mem _ (inlX2 w h)
  have k_0 := hts (.fieldLink RX2 11 "RingMarks$Ring" "marks" "[I") (List.mem_cons_of_mem _ wm_61)
  subst hsz
  have hD := hD0.self (sz := s.heap.size)
  generalize hAe : va_A [(h, .inr (2, [.ref a0, .ref a1, .ref a2, .ref a3, .ref a4, .ref a5, .ref a6])), (a0, .inl (cI, 22, .inl (gl [0, 0, 0, 0, 4, 0, 0, 0, 0, 0, 0, 0, (-1), (-1), 0, 0, 0, 0, 0, 4, 0, 16])))] s.heap.size = A at hD ⊢
  have hA : ∀ q : Nat, s.heap.size ≤ q → A q := fun q h => by rw [← hAe]; exact Or.inr h
  have hP : va_P (dC, dI) vwCl [(h, .inr (2, [.ref a0, .ref a1, .ref a2, .ref a3, .ref a4, .ref a5, .ref a6])), (a0, .inl (cI, 22, .inl (gl [0, 0, 0, 0, 4, 0, 0, 0, 0, 0, 0, 0, (-1), (-1), 0, 0, 0, 0, 0, 4, 0, 16])))] s.heap := hP
  have hl := lv_entry ([.ref h]) (n := 5) (Nat.le_of_ble_eq_true rfl)
  rw [lg_entry_eq]
  generalize (lg_sl ([.ref h]) ++ List.replicate (5 - (lg_sl ([.ref h])).length) Slot.unset).toArray = ls at hl ⊢
  have hl : lv_has ls 5 [(0, .ref h)] := hl
  obtain ⟨H, hH⟩ : ∃ H, H = s.heap := ⟨_, rfl⟩
  rw [← hH] at hP ⊢
  have hS : va_S A s.heap H [] := by rw [hH]; exact va_S.rf
  refine lv_aload_n hx hb dX2_gather_0 rfl (lv_at hl 0 rfl) ?_
  refine va_get (D := (dC, dI)) (ci := 2) (v := .ref a0) (C := RX2) (T := TX2) (N := 7) hx hb hts hinX2 hown hK hP 0 rfl rfl 0 (by decide) k_0 (fun _ h9 => h9) rfl dX2_gather_1 ?_
  refine lv_bipush (v := 12) hx hb dX2_gather_4 (by decide) ?_
  refine za_iald (v := (-1)) hx hb hK hP 1 0 rfl rfl (zin tn_12 (Nat.le_of_ble_eq_true rfl)) (zrd _ tn_12 rfl) dX2_gather_6 ?_
  refine lv_iconst (v := (-1)) hx hb dX2_gather_7 (by decide) ?_
  refine lv_icmp_ne (tgt := 140) hx hb dX2_gather_8 (by decide) (fun c => absurd (by decide) c) (fun _ => ?_)
  refine lv_aload_n hx hb dX2_gather_11 rfl (lv_at hl 0 rfl) ?_
  refine va_get (D := (dC, dI)) (ci := 2) (v := .ref a0) (C := RX2) (T := TX2) (N := 7) hx hb hts hinX2 hown hK hP 0 rfl rfl 0 (by decide) k_0 (fun _ h9 => h9) rfl dX2_gather_12 ?_
  refine lv_iconst (v := 3) hx hb dX2_gather_15 (by decide) ?_
  refine za_iald (v := 0) hx hb hK hP 1 0 rfl rfl (zin tn_3 (Nat.le_of_ble_eq_true rfl)) (zrd _ tn_3 rfl) dX2_gather_16 ?_
  refine lv_istore_n (lv' := [(1, .int 0), (0, .ref h)]) hx hb dX2_gather_17 rfl hl (by decide) rfl (fun ls hl => ?_)
  refine lv_aload_n hx hb dX2_gather_18 rfl (lv_at hl 1 rfl) ?_
  refine lv_iload_n hx hb dX2_gather_19 rfl (lv_at hl 0 rfl) ?_
  refine zcVi (As := [.int 0]) (rest := []) (wr := []) ⟨hx, hb, hml, hown, hts⟩ (kkX2_placeOf l dC dI cI cB cZ cR H.size h a0 a1 a2 a3 a4 a5 a6 0 0 0 0 4 0 0 0 0 0 0 0 (-1) (-1) 0 0 0 0 0 ) (cwV 1 hts (zgV wm_310 wm_311 wm_312 wm_22 wm_313) rfl rfl rfl (by decide +kernel) ⟨Nat.le_of_ble_eq_true rfl, Nat.le_of_ble_eq_true rfl⟩) hN hK hP hD hS hA [0, 1] [] rfl rfl ⟨rfl, rfl⟩ (by decide) (ci := 2) rfl rfl rfl rfl hl.1 rfl (Nat.le_of_ble_eq_true rfl) dX2_gather_20 ⟨Nat.le_of_ble_eq_true rfl, Nat.le_of_ble_eq_true rfl⟩ (fun r u hu H locs hP hD hS => ?_)
  have hu : r = (0 &&& 3) := hu
  subst hu
  have hP : va_P (dC, dI) vwCl [(h, .inr (2, [.ref a0, .ref a1, .ref a2, .ref a3, .ref a4, .ref a5, .ref a6])), (a0, .inl (cI, 22, .inl (gl [0, 0, 0, 0, 4, 0, 0, 0, 0, 0, 0, 0, (-1), (-1), 0, 0, 0, 0, 0, 4, 0, 16])))] H := hP
  have hD : va_D A [(h, .inr (2, [.ref a0, .ref a1, .ref a2, .ref a3, .ref a4, .ref a5, .ref a6])), (a0, .inl (cI, 22, .inl (gl [0, 0, 0, 0, 4, 0, 0, 0, 0, 0, 0, 0, (-1), (-1), 0, 0, 0, 0, 0, 4, 0, 16])))] := hD
  refine lv_istore_n (lv' := [(2, .int (0 &&& 3)), (1, .int 0), (0, .ref h)]) hx hb dX2_gather_23 rfl hl (by decide) rfl (fun ls hl => ?_)
  refine lv_aload_n hx hb dX2_gather_24 rfl (lv_at hl 2 rfl) ?_
  refine zcVi (As := []) (rest := []) (wr := []) ⟨hx, hb, hml, hown, hts⟩ (kkX2_isPacked l dC dI cI cB cZ cR H.size h a0 a1 a2 a3 a4 a5 a6 0 0 0 0 4 0 0 0 0 0 0 0 (-1) (-1) 0 0 0 0 ) (cwV 0 hts (zgV wm_267 wm_268 wm_269 wm_22 wm_270) rfl rfl rfl (by decide +kernel) ⟨Nat.le_of_ble_eq_true rfl, Nat.le_of_ble_eq_true rfl⟩) hN hK hP hD hS hA [0, 1] [] rfl rfl ⟨rfl, rfl⟩ (by decide) (ci := 2) rfl rfl rfl rfl hl.1 rfl (Nat.le_of_ble_eq_true rfl) dX2_gather_25 ⟨Nat.le_of_ble_eq_true rfl, Nat.le_of_ble_eq_true rfl⟩ (fun r u hu H locs hP hD hS => ?_)
  have hu : r = 0 := hu
  subst hu
  have hP : va_P (dC, dI) vwCl [(h, .inr (2, [.ref a0, .ref a1, .ref a2, .ref a3, .ref a4, .ref a5, .ref a6])), (a0, .inl (cI, 22, .inl (gl [0, 0, 0, 0, 4, 0, 0, 0, 0, 0, 0, 0, (-1), (-1), 0, 0, 0, 0, 0, 4, 0, 16])))] H := hP
  have hD : va_D A [(h, .inr (2, [.ref a0, .ref a1, .ref a2, .ref a3, .ref a4, .ref a5, .ref a6])), (a0, .inl (cI, 22, .inl (gl [0, 0, 0, 0, 4, 0, 0, 0, 0, 0, 0, 0, (-1), (-1), 0, 0, 0, 0, 0, 4, 0, 16])))] := hD
  refine lv_if_eq (tgt := 40) hx hb dX2_gather_28 (by decide) (fun _ => ?_) (fun c => absurd (by decide) c)
  refine lv_iload_n hx hb dX2_gather_40 rfl (lv_at hl 1 rfl) ?_
  refine lv_aload_n hx hb dX2_gather_41 rfl (lv_at hl 2 rfl) ?_
  refine va_get (D := (dC, dI)) (ci := 2) (v := .ref a0) (C := RX2) (T := TX2) (N := 7) hx hb hts hinX2 hown hK hP 0 rfl rfl 0 (by decide) k_0 (fun _ h9 => h9) rfl dX2_gather_42 ?_
  refine lv_iconst (v := 2) hx hb dX2_gather_45 (by decide) ?_
  refine za_iald (v := 0) hx hb hK hP 1 0 rfl rfl (zin tn_2 (Nat.le_of_ble_eq_true rfl)) (zrd _ tn_2 rfl) dX2_gather_46 ?_
  refine lv_icmp_eq (tgt := 54) hx hb dX2_gather_47 (by decide) (fun _ => ?_) (fun c => absurd (by decide) c)
  refine lv_iconst (v := 0) hx hb dX2_gather_54 (by decide) ?_
  refine lv_istore_n (lv' := [(3, .int 0), (2, .int (0 &&& 3)), (1, .int 0), (0, .ref h)]) hx hb dX2_gather_55 rfl hl (by decide) rfl (fun ls hl => ?_)
  refine lv_iload_n hx hb dX2_gather_56 rfl (lv_at hl 0 rfl) ?_
  refine lv_if_ne (tgt := 62) hx hb dX2_gather_57 (by decide) (fun c => absurd (by decide) c) (fun _ => ?_)
  refine lv_iconst (v := (-1)) hx hb dX2_gather_60 (by decide) ?_
  have hP9 := hP.sub (ws' := [(h, .inr (2, [.ref a0, .ref a1, .ref a2, .ref a3, .ref a4, .ref a5, .ref a6])), (a0, .inl (cI, 22, .inl (gl [0, 0, 0, 0, 4, 0, 0, 0, 0, 0, 0, 0, (-1), (-1), 0, 0, 0, 0, 0, 4, 0, 16])))]) [0, 1] rfl
  have hD9 := hD.sub (ws' := [(h, .inr (2, [.ref a0, .ref a1, .ref a2, .ref a3, .ref a4, .ref a5, .ref a6])), (a0, .inl (cI, 22, .inl (gl [0, 0, 0, 0, 4, 0, 0, 0, 0, 0, 0, 0, (-1), (-1), 0, 0, 0, 0, 0, 4, 0, 16])))]) [0, 1] (by decide) rfl
  exact W.iret (v := (-1)) hx hb hr (fun t ht hW => ⟨⟨(-1), (), rfl, rfl, by rw [ht]; exact hP9, va_K.moved hW.alike hK, hD9⟩, hS.F ht⟩) hS.2.2 dX2_gather_61

set_option maxHeartbeats 4000000 in
set_option maxRecDepth 100000 in
theorem kkX7_reap (l : Launch) (dC : Nat → ClassId) (dI : Nat → Nat → Nat) (cI cB cZ cR : ClassId) (sz : Nat) (x : Nat) (xt : Nat) (xd : Nat) (h : Nat) (xk : Nat) (xl : Nat) (xw : Nat) (xp : Nat) (xs : Nat) (xr : Nat) (a0 : Nat) (a1 : Nat) (a2 : Nat) (a3 : Nat) (a4 : Nat) (a5 : Nat) (a6 : Nat) : Met l yX7_reap (.code yX7_reap cX7_reap 2 (some .int) :: wsL_law) ({ frames := 2, cells := 0, slots := 0, locals := 45 }) (zPc dC dI (zT cI cB cZ cR) [.ref x] sz [(x, .inr (7, [.ref xt, .ref xd, .ref h, .ref xk, .ref xl, .ref xw, .ref xp, .ref xs, .ref xr, .int 0, .int (-1), .int 0, .null])), (h, .inr (2, [.ref a0, .ref a1, .ref a2, .ref a3, .ref a4, .ref a5, .ref a6])), (a0, .inl (cI, 22, .inl (gl [0, 0, 0, 0, 4, 0, 0, 0, 0, 0, 0, 0, (-1), (-1), 0, 0, 0, 0, 0, 4, 0, 16])))]) (va_Qi (fun (r : Int32) (_ : Unit) => r = (-1)) (fun _ : Unit => zB dC dI (zT cI cB cZ cR) (va_A [(x, .inr (7, [.ref xt, .ref xd, .ref h, .ref xk, .ref xl, .ref xw, .ref xp, .ref xs, .ref xr, .int 0, .int (-1), .int 0, .null])), (h, .inr (2, [.ref a0, .ref a1, .ref a2, .ref a3, .ref a4, .ref a5, .ref a6])), (a0, .inl (cI, 22, .inl (gl [0, 0, 0, 0, 4, 0, 0, 0, 0, 0, 0, 0, (-1), (-1), 0, 0, 0, 0, 0, 4, 0, 16])))] sz) [(x, .inr (7, [.ref xt, .ref xd, .ref h, .ref xk, .ref xl, .ref xw, .ref xp, .ref xs, .ref xr, .int 0, .int (-1), .int 0, .null])), (h, .inr (2, [.ref a0, .ref a1, .ref a2, .ref a3, .ref a4, .ref a5, .ref a6])), (a0, .inl (cI, 22, .inl (gl [0, 0, 0, 0, 4, 0, 0, 0, 0, 0, 0, 0, (-1), (-1), 0, 0, 0, 0, 0, 4, 0, 16])))]) (va_A [(x, .inr (7, [.ref xt, .ref xd, .ref h, .ref xk, .ref xl, .ref xw, .ref xp, .ref xs, .ref xr, .int 0, .int (-1), .int 0, .null])), (h, .inr (2, [.ref a0, .ref a1, .ref a2, .ref a3, .ref a4, .ref a5, .ref a6])), (a0, .inl (cI, 22, .inl (gl [0, 0, 0, 0, 4, 0, 0, 0, 0, 0, 0, 0, (-1), (-1), 0, 0, 0, 0, 0, 4, 0, 16])))] sz)) 0 0 (va_A [(x, .inr (7, [.ref xt, .ref xd, .ref h, .ref xk, .ref xl, .ref xw, .ref xp, .ref xs, .ref xr, .int 0, .int (-1), .int 0, .null])), (h, .inr (2, [.ref a0, .ref a1, .ref a2, .ref a3, .ref a4, .ref a5, .ref a6])), (a0, .inl (cI, 22, .inl (gl [0, 0, 0, 0, 4, 0, 0, 0, 0, 0, 0, 0, (-1), (-1), 0, 0, 0, 0, 0, 4, 0, 16])))] sz) := by
  refine Met.ofW (cc := cX7_reap) (maxL := 2) (ret := (some .int)) (by decide) rfl ?_
  intro p e s m args below meth c s₁ B hml hv
  obtain ⟨rfl, hsz, hP, hK, hD0, hN⟩ := hv
  have hx := B.exec
  have hb := B.bytes
  have hr := B.returns
  have hts := atoms_spec (ws := (.code yX7_reap cX7_reap 2 (some .int) :: wsL_law)) B.pre
  have hown : s.vm.findClass RX7 = some m.cls := findClass_of_methodNamed B.named
  have hlocks := B.notSynchronized
  have hinX7 : ∀ w ∈ u_ws RX7 TX7 13, w ∈ (.code yX7_reap cX7_reap 2 (some .int) :: wsL_law) := fun w h => List.mem_cons_of_mem _ (inlX7 w h)
  have k_0 := hts (.fieldLink RX7 26 "RingMarks" "ring" "LRingMarks$Ring;") (List.mem_cons_of_mem _ wm_23)
  subst hsz
  have hD := hD0.self (sz := s.heap.size)
  generalize hAe : va_A [(x, .inr (7, [.ref xt, .ref xd, .ref h, .ref xk, .ref xl, .ref xw, .ref xp, .ref xs, .ref xr, .int 0, .int (-1), .int 0, .null])), (h, .inr (2, [.ref a0, .ref a1, .ref a2, .ref a3, .ref a4, .ref a5, .ref a6])), (a0, .inl (cI, 22, .inl (gl [0, 0, 0, 0, 4, 0, 0, 0, 0, 0, 0, 0, (-1), (-1), 0, 0, 0, 0, 0, 4, 0, 16])))] s.heap.size = A at hD ⊢
  have hA : ∀ q : Nat, s.heap.size ≤ q → A q := fun q h => by rw [← hAe]; exact Or.inr h
  have hP : va_P (dC, dI) vwCl [(x, .inr (7, [.ref xt, .ref xd, .ref h, .ref xk, .ref xl, .ref xw, .ref xp, .ref xs, .ref xr, .int 0, .int (-1), .int 0, .null])), (h, .inr (2, [.ref a0, .ref a1, .ref a2, .ref a3, .ref a4, .ref a5, .ref a6])), (a0, .inl (cI, 22, .inl (gl [0, 0, 0, 0, 4, 0, 0, 0, 0, 0, 0, 0, (-1), (-1), 0, 0, 0, 0, 0, 4, 0, 16])))] s.heap := hP
  have hl := lv_entry ([.ref x]) (n := 2) (Nat.le_of_ble_eq_true rfl)
  rw [lg_entry_eq]
  generalize (lg_sl ([.ref x]) ++ List.replicate (2 - (lg_sl ([.ref x])).length) Slot.unset).toArray = ls at hl ⊢
  have hl : lv_has ls 2 [(0, .ref x)] := hl
  obtain ⟨H, hH⟩ : ∃ H, H = s.heap := ⟨_, rfl⟩
  rw [← hH] at hP ⊢
  have hS : va_S A s.heap H [] := by rw [hH]; exact va_S.rf
  refine lv_aload_n hx hb dX7_reap_0 rfl (lv_at hl 0 rfl) ?_
  refine va_get (D := (dC, dI)) (ci := 7) (v := .ref h) (C := RX7) (T := TX7) (N := 13) hx hb hts hinX7 hown hK hP 0 rfl rfl 2 (by decide) k_0 (fun _ h9 => h9) rfl dX7_reap_1 ?_
  refine zcVi (As := []) (rest := []) (wr := [(x, .inr (7, [.ref xt, .ref xd, .ref h, .ref xk, .ref xl, .ref xw, .ref xp, .ref xs, .ref xr, .int 0, .int (-1), .int 0, .null]))]) ⟨hx, hb, hml, hown, hts⟩ (kkX2_gather_0 l dC dI cI cB cZ cR H.size h a0 a1 a2 a3 a4 a5 a6 ) (cwV 0 hts (zgV wm_604 wm_605 wm_606 wm_22 wm_607) rfl rfl rfl (by decide +kernel) ⟨Nat.le_of_ble_eq_true rfl, Nat.le_of_ble_eq_true rfl⟩) hN hK hP hD hS hA [1, 2] [0] rfl rfl ⟨rfl, rfl⟩ (by decide) (ci := 2) rfl rfl rfl rfl hl.1 rfl (Nat.le_of_ble_eq_true rfl) dX7_reap_4 ⟨Nat.le_of_ble_eq_true rfl, Nat.le_of_ble_eq_true rfl⟩ (fun r u hu H locs hP hD hS => ?_)
  have hu : r = (-1) := hu
  subst hu
  have hP : va_P (dC, dI) vwCl [(x, .inr (7, [.ref xt, .ref xd, .ref h, .ref xk, .ref xl, .ref xw, .ref xp, .ref xs, .ref xr, .int 0, .int (-1), .int 0, .null])), (h, .inr (2, [.ref a0, .ref a1, .ref a2, .ref a3, .ref a4, .ref a5, .ref a6])), (a0, .inl (cI, 22, .inl (gl [0, 0, 0, 0, 4, 0, 0, 0, 0, 0, 0, 0, (-1), (-1), 0, 0, 0, 0, 0, 4, 0, 16])))] H := hP
  have hD : va_D A [(x, .inr (7, [.ref xt, .ref xd, .ref h, .ref xk, .ref xl, .ref xw, .ref xp, .ref xs, .ref xr, .int 0, .int (-1), .int 0, .null])), (h, .inr (2, [.ref a0, .ref a1, .ref a2, .ref a3, .ref a4, .ref a5, .ref a6])), (a0, .inl (cI, 22, .inl (gl [0, 0, 0, 0, 4, 0, 0, 0, 0, 0, 0, 0, (-1), (-1), 0, 0, 0, 0, 0, 4, 0, 16])))] := hD
  refine lv_istore_n (lv' := [(1, .int (-1)), (0, .ref x)]) hx hb dX7_reap_7 rfl hl (by decide) rfl (fun ls hl => ?_)
  refine lv_iload_n hx hb dX7_reap_8 rfl (lv_at hl 0 rfl) ?_
  refine lv_if_lt (tgt := 23) hx hb dX7_reap_9 (by decide) (fun _ => ?_) (fun c => absurd (by decide) c)
  refine lv_iload_n hx hb dX7_reap_23 rfl (lv_at hl 0 rfl) ?_
  have hP9 := hP.sub (ws' := [(x, .inr (7, [.ref xt, .ref xd, .ref h, .ref xk, .ref xl, .ref xw, .ref xp, .ref xs, .ref xr, .int 0, .int (-1), .int 0, .null])), (h, .inr (2, [.ref a0, .ref a1, .ref a2, .ref a3, .ref a4, .ref a5, .ref a6])), (a0, .inl (cI, 22, .inl (gl [0, 0, 0, 0, 4, 0, 0, 0, 0, 0, 0, 0, (-1), (-1), 0, 0, 0, 0, 0, 4, 0, 16])))]) [0, 1, 2] rfl
  have hD9 := hD.sub (ws' := [(x, .inr (7, [.ref xt, .ref xd, .ref h, .ref xk, .ref xl, .ref xw, .ref xp, .ref xs, .ref xr, .int 0, .int (-1), .int 0, .null])), (h, .inr (2, [.ref a0, .ref a1, .ref a2, .ref a3, .ref a4, .ref a5, .ref a6])), (a0, .inl (cI, 22, .inl (gl [0, 0, 0, 0, 4, 0, 0, 0, 0, 0, 0, 0, (-1), (-1), 0, 0, 0, 0, 0, 4, 0, 16])))]) [0, 1, 2] (by decide) rfl
  exact W.iret (v := (-1)) hx hb hr (fun t ht hW => ⟨⟨(-1), (), rfl, rfl, by rw [ht]; exact hP9, va_K.moved hW.alike hK, hD9⟩, hS.F ht⟩) hS.2.2 dX7_reap_24

set_option maxHeartbeats 4000000 in
set_option maxRecDepth 100000 in
theorem kkX7_length (l : Launch) (dC : Nat → ClassId) (dI : Nat → Nat → Nat) (cI cB cZ cR : ClassId) (sz : Nat) (x : Nat) (xt : Nat) (xd : Nat) (h : Nat) (xk : Nat) (xl : Nat) (xw : Nat) (xp : Nat) (xs : Nat) (xr : Nat) : Met l yX7_length (.code yX7_length cX7_length 1 (some .int) :: wsL_law) ({ frames := 0, cells := 0, slots := 0, locals := 0 }) (zPc dC dI (zT cI cB cZ cR) [.ref x] sz [(x, .inr (7, [.ref xt, .ref xd, .ref h, .ref xk, .ref xl, .ref xw, .ref xp, .ref xs, .ref xr, .int 0, .int (-1), .int 0, .null]))]) (va_Qi (fun (r : Int32) (_ : Unit) => r = (-1)) (fun _ : Unit => zB dC dI (zT cI cB cZ cR) (va_A [(x, .inr (7, [.ref xt, .ref xd, .ref h, .ref xk, .ref xl, .ref xw, .ref xp, .ref xs, .ref xr, .int 0, .int (-1), .int 0, .null]))] sz) [(x, .inr (7, [.ref xt, .ref xd, .ref h, .ref xk, .ref xl, .ref xw, .ref xp, .ref xs, .ref xr, .int 0, .int (-1), .int 0, .null]))]) (va_A [(x, .inr (7, [.ref xt, .ref xd, .ref h, .ref xk, .ref xl, .ref xw, .ref xp, .ref xs, .ref xr, .int 0, .int (-1), .int 0, .null]))] sz)) 0 0 (va_A [(x, .inr (7, [.ref xt, .ref xd, .ref h, .ref xk, .ref xl, .ref xw, .ref xp, .ref xs, .ref xr, .int 0, .int (-1), .int 0, .null]))] sz) := by
  refine Met.ofW (cc := cX7_length) (maxL := 1) (ret := (some .int)) (by decide) rfl ?_
  intro p e s m args below meth c s₁ B hml hv
  obtain ⟨rfl, hsz, hP, hK, hD0, hN⟩ := hv
  have hx := B.exec
  have hb := B.bytes
  have hr := B.returns
  have hts := atoms_spec (ws := (.code yX7_length cX7_length 1 (some .int) :: wsL_law)) B.pre
  have hown : s.vm.findClass RX7 = some m.cls := findClass_of_methodNamed B.named
  have hlocks := B.notSynchronized
  have hinX7 : ∀ w ∈ u_ws RX7 TX7 13, w ∈ (.code yX7_length cX7_length 1 (some .int) :: wsL_law) := fun w h => List.mem_cons_of_mem _ (inlX7 w h)
  have k_0 := hts (.fieldLink RX7 66 "RingMarks" "toldLength" "I") (List.mem_cons_of_mem _ wm_41)
  subst hsz
  have hD := hD0.self (sz := s.heap.size)
  generalize hAe : va_A [(x, .inr (7, [.ref xt, .ref xd, .ref h, .ref xk, .ref xl, .ref xw, .ref xp, .ref xs, .ref xr, .int 0, .int (-1), .int 0, .null]))] s.heap.size = A at hD ⊢
  have hA : ∀ q : Nat, s.heap.size ≤ q → A q := fun q h => by rw [← hAe]; exact Or.inr h
  have hP : va_P (dC, dI) vwCl [(x, .inr (7, [.ref xt, .ref xd, .ref h, .ref xk, .ref xl, .ref xw, .ref xp, .ref xs, .ref xr, .int 0, .int (-1), .int 0, .null]))] s.heap := hP
  have hl := lv_entry ([.ref x]) (n := 1) (Nat.le_of_ble_eq_true rfl)
  rw [lg_entry_eq]
  generalize (lg_sl ([.ref x]) ++ List.replicate (1 - (lg_sl ([.ref x])).length) Slot.unset).toArray = ls at hl ⊢
  have hl : lv_has ls 1 [(0, .ref x)] := hl
  obtain ⟨H, hH⟩ : ∃ H, H = s.heap := ⟨_, rfl⟩
  rw [← hH] at hP ⊢
  have hS : va_S A s.heap H [] := by rw [hH]; exact va_S.rf
  refine lv_aload_n hx hb dX7_length_0 rfl (lv_at hl 0 rfl) ?_
  refine va_get (D := (dC, dI)) (ci := 7) (v := .int (-1)) (C := RX7) (T := TX7) (N := 13) hx hb hts hinX7 hown hK hP 0 rfl rfl 10 (by decide) k_0 (fun _ h9 => h9) rfl dX7_length_1 ?_
  have hP9 := hP.sub (ws' := [(x, .inr (7, [.ref xt, .ref xd, .ref h, .ref xk, .ref xl, .ref xw, .ref xp, .ref xs, .ref xr, .int 0, .int (-1), .int 0, .null]))]) [0] rfl
  have hD9 := hD.sub (ws' := [(x, .inr (7, [.ref xt, .ref xd, .ref h, .ref xk, .ref xl, .ref xw, .ref xp, .ref xs, .ref xr, .int 0, .int (-1), .int 0, .null]))]) [0] (by decide) rfl
  exact W.iret (v := (-1)) hx hb hr (fun t ht hW => ⟨⟨(-1), (), rfl, rfl, by rw [ht]; exact hP9, va_K.moved hW.alike hK, hD9⟩, hS.F ht⟩) hS.2.2 dX7_length_4

set_option maxHeartbeats 4000000 in
set_option maxRecDepth 100000 in
theorem kkX2_isNoticeDue_0 (l : Launch) (dC : Nat → ClassId) (dI : Nat → Nat → Nat) (cI cB cZ cR : ClassId) (sz : Nat) (h : Nat) (a0 : Nat) (a1 : Nat) (a2 : Nat) (a3 : Nat) (a4 : Nat) (a5 : Nat) (a6 : Nat) : Met l yX2_isNoticeDue (.code yX2_isNoticeDue cX2_isNoticeDue 5 (some .boolean) :: wsL_law) ({ frames := 1, cells := 0, slots := 0, locals := 21 }) (zPc dC dI (zT cI cB cZ cR) [.ref h, .int 0, .int 0, .int 0, .int 0] sz [(h, .inr (2, [.ref a0, .ref a1, .ref a2, .ref a3, .ref a4, .ref a5, .ref a6])), (a0, .inl (cI, 22, .inl (gl [0, 0, 0, 0, 4, 0, 0, 0, 0, 0, 0, 0, (-1), (-1), 0, 0, 0, 0, 0, 4, 0, 16])))]) (va_Qi (fun (r : Int32) (_ : Unit) => r = 0) (fun _ : Unit => zB dC dI (zT cI cB cZ cR) (va_A [(h, .inr (2, [.ref a0, .ref a1, .ref a2, .ref a3, .ref a4, .ref a5, .ref a6])), (a0, .inl (cI, 22, .inl (gl [0, 0, 0, 0, 4, 0, 0, 0, 0, 0, 0, 0, (-1), (-1), 0, 0, 0, 0, 0, 4, 0, 16])))] sz) [(h, .inr (2, [.ref a0, .ref a1, .ref a2, .ref a3, .ref a4, .ref a5, .ref a6])), (a0, .inl (cI, 22, .inl (gl [0, 0, 0, 0, 4, 0, 0, 0, 0, 0, 0, 0, (-1), (-1), 0, 0, 0, 0, 0, 4, 0, 16])))]) (va_A [(h, .inr (2, [.ref a0, .ref a1, .ref a2, .ref a3, .ref a4, .ref a5, .ref a6])), (a0, .inl (cI, 22, .inl (gl [0, 0, 0, 0, 4, 0, 0, 0, 0, 0, 0, 0, (-1), (-1), 0, 0, 0, 0, 0, 4, 0, 16])))] sz)) 0 0 (va_A [(h, .inr (2, [.ref a0, .ref a1, .ref a2, .ref a3, .ref a4, .ref a5, .ref a6])), (a0, .inl (cI, 22, .inl (gl [0, 0, 0, 0, 4, 0, 0, 0, 0, 0, 0, 0, (-1), (-1), 0, 0, 0, 0, 0, 4, 0, 16])))] sz) := by
  refine Met.ofW (cc := cX2_isNoticeDue) (maxL := 5) (ret := (some .boolean)) (by decide) rfl ?_
  intro p e s m args below meth c s₁ B hml hv
  obtain ⟨rfl, hsz, hP, hK, hD0, hN⟩ := hv
  have hx := B.exec
  have hb := B.bytes
  have hr := B.returns
  have hts := atoms_spec (ws := (.code yX2_isNoticeDue cX2_isNoticeDue 5 (some .boolean) :: wsL_law)) B.pre
  have hown : s.vm.findClass RX2 = some m.cls := findClass_of_methodNamed B.named
  have hlocks := B.notSynchronized
  subst hsz
  have hD := hD0.self (sz := s.heap.size)
  generalize hAe : va_A [(h, .inr (2, [.ref a0, .ref a1, .ref a2, .ref a3, .ref a4, .ref a5, .ref a6])), (a0, .inl (cI, 22, .inl (gl [0, 0, 0, 0, 4, 0, 0, 0, 0, 0, 0, 0, (-1), (-1), 0, 0, 0, 0, 0, 4, 0, 16])))] s.heap.size = A at hD ⊢
  have hA : ∀ q : Nat, s.heap.size ≤ q → A q := fun q h => by rw [← hAe]; exact Or.inr h
  have hP : va_P (dC, dI) vwCl [(h, .inr (2, [.ref a0, .ref a1, .ref a2, .ref a3, .ref a4, .ref a5, .ref a6])), (a0, .inl (cI, 22, .inl (gl [0, 0, 0, 0, 4, 0, 0, 0, 0, 0, 0, 0, (-1), (-1), 0, 0, 0, 0, 0, 4, 0, 16])))] s.heap := hP
  have hl := lv_entry ([.ref h, .int 0, .int 0, .int 0, .int 0]) (n := 5) (Nat.le_of_ble_eq_true rfl)
  rw [lg_entry_eq]
  generalize (lg_sl ([.ref h, .int 0, .int 0, .int 0, .int 0]) ++ List.replicate (5 - (lg_sl ([.ref h, .int 0, .int 0, .int 0, .int 0])).length) Slot.unset).toArray = ls at hl ⊢
  have hl : lv_has ls 5 [(0, .ref h), (1, .int 0), (2, .int 0), (3, .int 0), (4, .int 0)] := hl
  obtain ⟨H, hH⟩ : ∃ H, H = s.heap := ⟨_, rfl⟩
  rw [← hH] at hP ⊢
  have hS : va_S A s.heap H [] := by rw [hH]; exact va_S.rf
  refine lv_aload_n hx hb dX2_isNoticeDue_0 rfl (lv_at hl 0 rfl) ?_
  refine lv_iconst (v := 4) hx hb dX2_isNoticeDue_1 (by decide) ?_
  refine zcVi (As := [.int 4]) (rest := []) (wr := []) ⟨hx, hb, hml, hown, hts⟩ (kkX2_hasFeature_4 l dC dI cI cB cZ cR H.size h a0 a1 a2 a3 a4 a5 a6 0 0 0 0 4 0 0 0 0 0 0 0 (-1) (-1) 0 0 0 0 ) (cwV 1 hts (zgV wm_251 wm_252 wm_253 wm_22 wm_254) rfl rfl rfl (by decide +kernel) ⟨Nat.le_of_ble_eq_true rfl, Nat.le_of_ble_eq_true rfl⟩) hN hK hP hD hS hA [0, 1] [] rfl rfl ⟨rfl, rfl⟩ (by decide) (ci := 2) rfl rfl rfl rfl hl.1 rfl (Nat.le_of_ble_eq_true rfl) dX2_isNoticeDue_2 ⟨Nat.le_of_ble_eq_true rfl, Nat.le_of_ble_eq_true rfl⟩ (fun r u hu H locs hP hD hS => ?_)
  have hu : r = 0 := hu
  subst hu
  have hP : va_P (dC, dI) vwCl [(h, .inr (2, [.ref a0, .ref a1, .ref a2, .ref a3, .ref a4, .ref a5, .ref a6])), (a0, .inl (cI, 22, .inl (gl [0, 0, 0, 0, 4, 0, 0, 0, 0, 0, 0, 0, (-1), (-1), 0, 0, 0, 0, 0, 4, 0, 16])))] H := hP
  have hD : va_D A [(h, .inr (2, [.ref a0, .ref a1, .ref a2, .ref a3, .ref a4, .ref a5, .ref a6])), (a0, .inl (cI, 22, .inl (gl [0, 0, 0, 0, 4, 0, 0, 0, 0, 0, 0, 0, (-1), (-1), 0, 0, 0, 0, 0, 4, 0, 16])))] := hD
  refine lv_if_eq (tgt := 19) hx hb dX2_isNoticeDue_5 (by decide) (fun _ => ?_) (fun c => absurd (by decide) c)
  refine lv_iload_n hx hb dX2_isNoticeDue_19 rfl (lv_at hl 1 rfl) ?_
  refine lv_iload_n hx hb dX2_isNoticeDue_20 rfl (lv_at hl 2 rfl) ?_
  refine lv_icmp_eq (tgt := 33) hx hb dX2_isNoticeDue_21 (by decide) (fun _ => ?_) (fun c => absurd (by decide) c)
  refine lv_iconst (v := 0) hx hb dX2_isNoticeDue_33 (by decide) ?_
  have hP9 := hP.sub (ws' := [(h, .inr (2, [.ref a0, .ref a1, .ref a2, .ref a3, .ref a4, .ref a5, .ref a6])), (a0, .inl (cI, 22, .inl (gl [0, 0, 0, 0, 4, 0, 0, 0, 0, 0, 0, 0, (-1), (-1), 0, 0, 0, 0, 0, 4, 0, 16])))]) [0, 1] rfl
  have hD9 := hD.sub (ws' := [(h, .inr (2, [.ref a0, .ref a1, .ref a2, .ref a3, .ref a4, .ref a5, .ref a6])), (a0, .inl (cI, 22, .inl (gl [0, 0, 0, 0, 4, 0, 0, 0, 0, 0, 0, 0, (-1), (-1), 0, 0, 0, 0, 0, 4, 0, 16])))]) [0, 1] (by decide) rfl
  exact W.zret (v := 0) hx hb hr rfl (fun t ht hW => ⟨⟨0, (), rfl, rfl, by rw [ht]; exact hP9, va_K.moved hW.alike hK, hD9⟩, hS.F ht⟩) hS.2.2 dX2_isNoticeDue_34

set_option maxHeartbeats 4000000 in
set_option maxRecDepth 100000 in
theorem kkX2_notifyDevice_0 (l : Launch) (dC : Nat → ClassId) (dI : Nat → Nat → Nat) (cI cB cZ cR : ClassId) (sz : Nat) (h : Nat) (a0 : Nat) (a1 : Nat) (a2 : Nat) (a3 : Nat) (a4 : Nat) (a5 : Nat) (a6 : Nat) : Met l yX2_notifyDevice (.code yX2_notifyDevice cX2_notifyDevice 2 (some .int) :: wsL_law) ({ frames := 2, cells := 0, slots := 0, locals := 45 }) (zPc dC dI (zT cI cB cZ cR) [.ref h] sz [(h, .inr (2, [.ref a0, .ref a1, .ref a2, .ref a3, .ref a4, .ref a5, .ref a6])), (a0, .inl (cI, 22, .inl (gl [0, 0, 0, 0, 4, 0, 0, 0, 0, 0, 0, 0, (-1), (-1), 0, 0, 0, 0, 0, 4, 0, 16])))]) (va_Qi (fun (r : Int32) (_ : Unit) => r = 0) (fun _ : Unit => zB dC dI (zT cI cB cZ cR) (va_A [(h, .inr (2, [.ref a0, .ref a1, .ref a2, .ref a3, .ref a4, .ref a5, .ref a6])), (a0, .inl (cI, 22, .inl (gl [0, 0, 0, 0, 4, 0, 0, 0, 0, 0, 0, 0, (-1), (-1), 0, 0, 0, 0, 0, 4, 0, 16])))] sz) [(h, .inr (2, [.ref a0, .ref a1, .ref a2, .ref a3, .ref a4, .ref a5, .ref a6])), (a0, .inl (cI, 22, .inl (gl [0, 0, 0, 0, 4, 0, 0, 0, 0, 0, 0, 0, (-1), (-1), 0, 0, 0, 0, 0, 4, 0, 16])))]) (va_A [(h, .inr (2, [.ref a0, .ref a1, .ref a2, .ref a3, .ref a4, .ref a5, .ref a6])), (a0, .inl (cI, 22, .inl (gl [0, 0, 0, 0, 4, 0, 0, 0, 0, 0, 0, 0, (-1), (-1), 0, 0, 0, 0, 0, 4, 0, 16])))] sz)) 0 0 (va_A [(h, .inr (2, [.ref a0, .ref a1, .ref a2, .ref a3, .ref a4, .ref a5, .ref a6])), (a0, .inl (cI, 22, .inl (gl [0, 0, 0, 0, 4, 0, 0, 0, 0, 0, 0, 0, (-1), (-1), 0, 0, 0, 0, 0, 4, 0, 16])))] sz) := by
  refine Met.ofW (cc := cX2_notifyDevice) (maxL := 2) (ret := (some .int)) (by decide) rfl ?_
  intro p e s m args below meth c s₁ B hml hv
  obtain ⟨rfl, hsz, hP, hK, hD0, hN⟩ := hv
  have hx := B.exec
  have hb := B.bytes
  have hr := B.returns
  have hts := atoms_spec (ws := (.code yX2_notifyDevice cX2_notifyDevice 2 (some .int) :: wsL_law)) B.pre
  have hown : s.vm.findClass RX2 = some m.cls := findClass_of_methodNamed B.named
  have hlocks := B.notSynchronized
  have hinX2 : ∀ w ∈ u_ws RX2 TX2 7, w ∈ (.code yX2_notifyDevice cX2_notifyDevice 2 (some .int) :: wsL_law) := fun w h => List.mem_cons_of_mem _ (inlX2 w h)
  have k_0 := hts (.fieldLink RX2 11 "RingMarks$Ring" "marks" "[I") (List.mem_cons_of_mem _ wm_61)
  subst hsz
  have hD := hD0.self (sz := s.heap.size)
  generalize hAe : va_A [(h, .inr (2, [.ref a0, .ref a1, .ref a2, .ref a3, .ref a4, .ref a5, .ref a6])), (a0, .inl (cI, 22, .inl (gl [0, 0, 0, 0, 4, 0, 0, 0, 0, 0, 0, 0, (-1), (-1), 0, 0, 0, 0, 0, 4, 0, 16])))] s.heap.size = A at hD ⊢
  have hA : ∀ q : Nat, s.heap.size ≤ q → A q := fun q h => by rw [← hAe]; exact Or.inr h
  have hP : va_P (dC, dI) vwCl [(h, .inr (2, [.ref a0, .ref a1, .ref a2, .ref a3, .ref a4, .ref a5, .ref a6])), (a0, .inl (cI, 22, .inl (gl [0, 0, 0, 0, 4, 0, 0, 0, 0, 0, 0, 0, (-1), (-1), 0, 0, 0, 0, 0, 4, 0, 16])))] s.heap := hP
  have hl := lv_entry ([.ref h]) (n := 2) (Nat.le_of_ble_eq_true rfl)
  rw [lg_entry_eq]
  generalize (lg_sl ([.ref h]) ++ List.replicate (2 - (lg_sl ([.ref h])).length) Slot.unset).toArray = ls at hl ⊢
  have hl : lv_has ls 2 [(0, .ref h)] := hl
  obtain ⟨H, hH⟩ : ∃ H, H = s.heap := ⟨_, rfl⟩
  rw [← hH] at hP ⊢
  have hS : va_S A s.heap H [] := by rw [hH]; exact va_S.rf
  refine lv_aload_n hx hb dX2_notifyDevice_0 rfl (lv_at hl 0 rfl) ?_
  refine lv_aload_n hx hb dX2_notifyDevice_1 rfl (lv_at hl 0 rfl) ?_
  refine va_get (D := (dC, dI)) (ci := 2) (v := .ref a0) (C := RX2) (T := TX2) (N := 7) hx hb hts hinX2 hown hK hP 0 rfl rfl 0 (by decide) k_0 (fun _ h9 => h9) rfl dX2_notifyDevice_2 ?_
  refine lv_bipush (v := 14) hx hb dX2_notifyDevice_5 (by decide) ?_
  refine za_iald (v := 0) hx hb hK hP 1 0 rfl rfl (zin tn_14 (Nat.le_of_ble_eq_true rfl)) (zrd _ tn_14 rfl) dX2_notifyDevice_7 ?_
  refine lv_aload_n hx hb dX2_notifyDevice_8 rfl (lv_at hl 0 rfl) ?_
  refine va_get (D := (dC, dI)) (ci := 2) (v := .ref a0) (C := RX2) (T := TX2) (N := 7) hx hb hts hinX2 hown hK hP 0 rfl rfl 0 (by decide) k_0 (fun _ h9 => h9) rfl dX2_notifyDevice_9 ?_
  refine lv_iconst (v := 0) hx hb dX2_notifyDevice_12 (by decide) ?_
  refine za_iald (v := 0) hx hb hK hP 1 0 rfl rfl (zin tn_0 (Nat.le_of_ble_eq_true rfl)) (zrd _ tn_0 rfl) dX2_notifyDevice_13 ?_
  refine lv_aload_n hx hb dX2_notifyDevice_14 rfl (lv_at hl 0 rfl) ?_
  refine va_get (D := (dC, dI)) (ci := 2) (v := .ref a0) (C := RX2) (T := TX2) (N := 7) hx hb hts hinX2 hown hK hP 0 rfl rfl 0 (by decide) k_0 (fun _ h9 => h9) rfl dX2_notifyDevice_15 ?_
  refine lv_bipush (v := 10) hx hb dX2_notifyDevice_18 (by decide) ?_
  refine za_iald (v := 0) hx hb hK hP 1 0 rfl rfl (zin tn_10 (Nat.le_of_ble_eq_true rfl)) (zrd _ tn_10 rfl) dX2_notifyDevice_20 ?_
  refine lv_aload_n hx hb dX2_notifyDevice_21 rfl (lv_at hl 0 rfl) ?_
  refine va_get (D := (dC, dI)) (ci := 2) (v := .ref a0) (C := RX2) (T := TX2) (N := 7) hx hb hts hinX2 hown hK hP 0 rfl rfl 0 (by decide) k_0 (fun _ h9 => h9) rfl dX2_notifyDevice_22 ?_
  refine lv_bipush (v := 17) hx hb dX2_notifyDevice_25 (by decide) ?_
  refine za_iald (v := 0) hx hb hK hP 1 0 rfl rfl (zin tn_17 (Nat.le_of_ble_eq_true rfl)) (zrd _ tn_17 rfl) dX2_notifyDevice_27 ?_
  refine zcVi (As := [.int 0, .int 0, .int 0, .int 0]) (rest := []) (wr := []) ⟨hx, hb, hml, hown, hts⟩ (kkX2_isNoticeDue_0 l dC dI cI cB cZ cR H.size h a0 a1 a2 a3 a4 a5 a6 ) (cwV 4 hts (zgV wm_648 wm_649 wm_650 wm_22 wm_651) rfl rfl rfl (by decide +kernel) ⟨Nat.le_of_ble_eq_true rfl, Nat.le_of_ble_eq_true rfl⟩) hN hK hP hD hS hA [0, 1] [] rfl rfl ⟨rfl, rfl⟩ (by decide) (ci := 2) rfl rfl rfl rfl hl.1 rfl (Nat.le_of_ble_eq_true rfl) dX2_notifyDevice_28 ⟨Nat.le_of_ble_eq_true rfl, Nat.le_of_ble_eq_true rfl⟩ (fun r u hu H locs hP hD hS => ?_)
  have hu : r = 0 := hu
  subst hu
  have hP : va_P (dC, dI) vwCl [(h, .inr (2, [.ref a0, .ref a1, .ref a2, .ref a3, .ref a4, .ref a5, .ref a6])), (a0, .inl (cI, 22, .inl (gl [0, 0, 0, 0, 4, 0, 0, 0, 0, 0, 0, 0, (-1), (-1), 0, 0, 0, 0, 0, 4, 0, 16])))] H := hP
  have hD : va_D A [(h, .inr (2, [.ref a0, .ref a1, .ref a2, .ref a3, .ref a4, .ref a5, .ref a6])), (a0, .inl (cI, 22, .inl (gl [0, 0, 0, 0, 4, 0, 0, 0, 0, 0, 0, 0, (-1), (-1), 0, 0, 0, 0, 0, 4, 0, 16])))] := hD
  refine lv_istore_n (lv' := [(1, .int 0), (0, .ref h)]) hx hb dX2_notifyDevice_31 rfl hl (by decide) rfl (fun ls hl => ?_)
  refine lv_aload_n hx hb dX2_notifyDevice_32 rfl (lv_at hl 1 rfl) ?_
  refine va_get (D := (dC, dI)) (ci := 2) (v := .ref a0) (C := RX2) (T := TX2) (N := 7) hx hb hts hinX2 hown hK hP 0 rfl rfl 0 (by decide) k_0 (fun _ h9 => h9) rfl dX2_notifyDevice_33 ?_
  refine lv_bipush (v := 14) hx hb dX2_notifyDevice_36 (by decide) ?_
  refine lv_aload_n hx hb dX2_notifyDevice_38 rfl (lv_at hl 1 rfl) ?_
  refine va_get (D := (dC, dI)) (ci := 2) (v := .ref a0) (C := RX2) (T := TX2) (N := 7) hx hb hts hinX2 hown hK hP 0 rfl rfl 0 (by decide) k_0 (fun _ h9 => h9) rfl dX2_notifyDevice_39 ?_
  refine lv_iconst (v := 0) hx hb dX2_notifyDevice_42 (by decide) ?_
  refine za_iald (v := 0) hx hb hK hP 1 0 rfl rfl (zin tn_0 (Nat.le_of_ble_eq_true rfl)) (zrd _ tn_0 rfl) dX2_notifyDevice_43 ?_
  refine za_iast (f' := (gl [0, 0, 0, 0, 4, 0, 0, 0, 0, 0, 0, 0, (-1), (-1), 0, 0, 0, 0, 0, 4, 0, 16])) hx hb hK hP hD hS 1 0 rfl rfl (zin tn_14 (Nat.le_of_ble_eq_true rfl)) (zup_gl tn_14 (Nat.le_of_ble_eq_true rfl) rfl) dX2_notifyDevice_44 (fun H locs hP hD hS => ?_)
  have hP : va_P (dC, dI) vwCl [(h, .inr (2, [.ref a0, .ref a1, .ref a2, .ref a3, .ref a4, .ref a5, .ref a6])), (a0, .inl (cI, 22, .inl (gl [0, 0, 0, 0, 4, 0, 0, 0, 0, 0, 0, 0, (-1), (-1), 0, 0, 0, 0, 0, 4, 0, 16])))] H := hP
  have hD : va_D A [(h, .inr (2, [.ref a0, .ref a1, .ref a2, .ref a3, .ref a4, .ref a5, .ref a6])), (a0, .inl (cI, 22, .inl (gl [0, 0, 0, 0, 4, 0, 0, 0, 0, 0, 0, 0, (-1), (-1), 0, 0, 0, 0, 0, 4, 0, 16])))] := hD
  refine lv_aload_n hx hb dX2_notifyDevice_45 rfl (lv_at hl 1 rfl) ?_
  refine va_get (D := (dC, dI)) (ci := 2) (v := .ref a0) (C := RX2) (T := TX2) (N := 7) hx hb hts hinX2 hown hK hP 0 rfl rfl 0 (by decide) k_0 (fun _ h9 => h9) rfl dX2_notifyDevice_46 ?_
  refine lv_bipush (v := 8) hx hb dX2_notifyDevice_49 (by decide) ?_
  refine lv_dup2_11 hx hb dX2_notifyDevice_51 rfl rfl ?_
  refine za_iald (v := 0) hx hb hK hP 1 0 rfl rfl (zin tn_8 (Nat.le_of_ble_eq_true rfl)) (zrd _ tn_8 rfl) dX2_notifyDevice_52 ?_
  refine lv_iload_n hx hb dX2_notifyDevice_53 rfl (lv_at hl 0 rfl) ?_
  refine lv_if_eq (tgt := 61) hx hb dX2_notifyDevice_54 (by decide) (fun _ => ?_) (fun c => absurd (by decide) c)
  refine lv_iconst (v := 0) hx hb dX2_notifyDevice_61 (by decide) ?_
  refine lv_iadd hx hb dX2_notifyDevice_62 ?_
  refine tp (y := 0) (by decide) ?_
  refine za_iast (f' := (gl [0, 0, 0, 0, 4, 0, 0, 0, 0, 0, 0, 0, (-1), (-1), 0, 0, 0, 0, 0, 4, 0, 16])) hx hb hK hP hD hS 1 0 rfl rfl (zin tn_8 (Nat.le_of_ble_eq_true rfl)) (zup_gl tn_8 (Nat.le_of_ble_eq_true rfl) rfl) dX2_notifyDevice_63 (fun H locs hP hD hS => ?_)
  have hP : va_P (dC, dI) vwCl [(h, .inr (2, [.ref a0, .ref a1, .ref a2, .ref a3, .ref a4, .ref a5, .ref a6])), (a0, .inl (cI, 22, .inl (gl [0, 0, 0, 0, 4, 0, 0, 0, 0, 0, 0, 0, (-1), (-1), 0, 0, 0, 0, 0, 4, 0, 16])))] H := hP
  have hD : va_D A [(h, .inr (2, [.ref a0, .ref a1, .ref a2, .ref a3, .ref a4, .ref a5, .ref a6])), (a0, .inl (cI, 22, .inl (gl [0, 0, 0, 0, 4, 0, 0, 0, 0, 0, 0, 0, (-1), (-1), 0, 0, 0, 0, 0, 4, 0, 16])))] := hD
  refine lv_iload_n hx hb dX2_notifyDevice_64 rfl (lv_at hl 0 rfl) ?_
  refine lv_if_eq (tgt := 72) hx hb dX2_notifyDevice_65 (by decide) (fun _ => ?_) (fun c => absurd (by decide) c)
  refine lv_iconst (v := 0) hx hb dX2_notifyDevice_72 (by decide) ?_
  have hP9 := hP.sub (ws' := [(h, .inr (2, [.ref a0, .ref a1, .ref a2, .ref a3, .ref a4, .ref a5, .ref a6])), (a0, .inl (cI, 22, .inl (gl [0, 0, 0, 0, 4, 0, 0, 0, 0, 0, 0, 0, (-1), (-1), 0, 0, 0, 0, 0, 4, 0, 16])))]) [0, 1] rfl
  have hD9 := hD.sub (ws' := [(h, .inr (2, [.ref a0, .ref a1, .ref a2, .ref a3, .ref a4, .ref a5, .ref a6])), (a0, .inl (cI, 22, .inl (gl [0, 0, 0, 0, 4, 0, 0, 0, 0, 0, 0, 0, (-1), (-1), 0, 0, 0, 0, 0, 4, 0, 16])))]) [0, 1] (by decide) rfl
  exact W.iret (v := 0) hx hb hr (fun t ht hW => ⟨⟨0, (), rfl, rfl, by rw [ht]; exact hP9, va_K.moved hW.alike hK, hD9⟩, hS.F ht⟩) hS.2.2 dX2_notifyDevice_73

set_option maxHeartbeats 4000000 in
set_option maxRecDepth 100000 in
theorem kkX2_notifyDriver_0 (l : Launch) (dC : Nat → ClassId) (dI : Nat → Nat → Nat) (cI cB cZ cR : ClassId) (sz : Nat) (h : Nat) (a0 : Nat) (a1 : Nat) (a2 : Nat) (a3 : Nat) (a4 : Nat) (a5 : Nat) (a6 : Nat) : Met l yX2_notifyDriver (.code yX2_notifyDriver cX2_notifyDriver 2 (some .int) :: wsL_law) ({ frames := 2, cells := 0, slots := 0, locals := 45 }) (zPc dC dI (zT cI cB cZ cR) [.ref h] sz [(h, .inr (2, [.ref a0, .ref a1, .ref a2, .ref a3, .ref a4, .ref a5, .ref a6])), (a0, .inl (cI, 22, .inl (gl [0, 0, 0, 0, 4, 0, 0, 0, 0, 0, 0, 0, (-1), (-1), 0, 0, 0, 0, 0, 4, 0, 16])))]) (va_Qi (fun (r : Int32) (_ : Unit) => r = 0) (fun _ : Unit => zB dC dI (zT cI cB cZ cR) (va_A [(h, .inr (2, [.ref a0, .ref a1, .ref a2, .ref a3, .ref a4, .ref a5, .ref a6])), (a0, .inl (cI, 22, .inl (gl [0, 0, 0, 0, 4, 0, 0, 0, 0, 0, 0, 0, (-1), (-1), 0, 0, 0, 0, 0, 4, 0, 16])))] sz) [(h, .inr (2, [.ref a0, .ref a1, .ref a2, .ref a3, .ref a4, .ref a5, .ref a6])), (a0, .inl (cI, 22, .inl (gl [0, 0, 0, 0, 4, 0, 0, 0, 0, 0, 0, 0, (-1), (-1), 0, 0, 0, 0, 0, 4, 0, 16])))]) (va_A [(h, .inr (2, [.ref a0, .ref a1, .ref a2, .ref a3, .ref a4, .ref a5, .ref a6])), (a0, .inl (cI, 22, .inl (gl [0, 0, 0, 0, 4, 0, 0, 0, 0, 0, 0, 0, (-1), (-1), 0, 0, 0, 0, 0, 4, 0, 16])))] sz)) 0 0 (va_A [(h, .inr (2, [.ref a0, .ref a1, .ref a2, .ref a3, .ref a4, .ref a5, .ref a6])), (a0, .inl (cI, 22, .inl (gl [0, 0, 0, 0, 4, 0, 0, 0, 0, 0, 0, 0, (-1), (-1), 0, 0, 0, 0, 0, 4, 0, 16])))] sz) := by
  refine Met.ofW (cc := cX2_notifyDriver) (maxL := 2) (ret := (some .int)) (by decide) rfl ?_
  intro p e s m args below meth c s₁ B hml hv
  obtain ⟨rfl, hsz, hP, hK, hD0, hN⟩ := hv
  have hx := B.exec
  have hb := B.bytes
  have hr := B.returns
  have hts := atoms_spec (ws := (.code yX2_notifyDriver cX2_notifyDriver 2 (some .int) :: wsL_law)) B.pre
  have hown : s.vm.findClass RX2 = some m.cls := findClass_of_methodNamed B.named
  have hlocks := B.notSynchronized
  have hinX2 : ∀ w ∈ u_ws RX2 TX2 7, w ∈ (.code yX2_notifyDriver cX2_notifyDriver 2 (some .int) :: wsL_law) := fun w h => List.mem_cons_of_mem _ (inlX2 w h)
  have k_0 := hts (.fieldLink RX2 11 "RingMarks$Ring" "marks" "[I") (List.mem_cons_of_mem _ wm_61)
  subst hsz
  have hD := hD0.self (sz := s.heap.size)
  generalize hAe : va_A [(h, .inr (2, [.ref a0, .ref a1, .ref a2, .ref a3, .ref a4, .ref a5, .ref a6])), (a0, .inl (cI, 22, .inl (gl [0, 0, 0, 0, 4, 0, 0, 0, 0, 0, 0, 0, (-1), (-1), 0, 0, 0, 0, 0, 4, 0, 16])))] s.heap.size = A at hD ⊢
  have hA : ∀ q : Nat, s.heap.size ≤ q → A q := fun q h => by rw [← hAe]; exact Or.inr h
  have hP : va_P (dC, dI) vwCl [(h, .inr (2, [.ref a0, .ref a1, .ref a2, .ref a3, .ref a4, .ref a5, .ref a6])), (a0, .inl (cI, 22, .inl (gl [0, 0, 0, 0, 4, 0, 0, 0, 0, 0, 0, 0, (-1), (-1), 0, 0, 0, 0, 0, 4, 0, 16])))] s.heap := hP
  have hl := lv_entry ([.ref h]) (n := 2) (Nat.le_of_ble_eq_true rfl)
  rw [lg_entry_eq]
  generalize (lg_sl ([.ref h]) ++ List.replicate (2 - (lg_sl ([.ref h])).length) Slot.unset).toArray = ls at hl ⊢
  have hl : lv_has ls 2 [(0, .ref h)] := hl
  obtain ⟨H, hH⟩ : ∃ H, H = s.heap := ⟨_, rfl⟩
  rw [← hH] at hP ⊢
  have hS : va_S A s.heap H [] := by rw [hH]; exact va_S.rf
  refine lv_aload_n hx hb dX2_notifyDriver_0 rfl (lv_at hl 0 rfl) ?_
  refine lv_aload_n hx hb dX2_notifyDriver_1 rfl (lv_at hl 0 rfl) ?_
  refine va_get (D := (dC, dI)) (ci := 2) (v := .ref a0) (C := RX2) (T := TX2) (N := 7) hx hb hts hinX2 hown hK hP 0 rfl rfl 0 (by decide) k_0 (fun _ h9 => h9) rfl dX2_notifyDriver_2 ?_
  refine lv_bipush (v := 15) hx hb dX2_notifyDriver_5 (by decide) ?_
  refine za_iald (v := 0) hx hb hK hP 1 0 rfl rfl (zin tn_15 (Nat.le_of_ble_eq_true rfl)) (zrd _ tn_15 rfl) dX2_notifyDriver_7 ?_
  refine lv_aload_n hx hb dX2_notifyDriver_8 rfl (lv_at hl 0 rfl) ?_
  refine va_get (D := (dC, dI)) (ci := 2) (v := .ref a0) (C := RX2) (T := TX2) (N := 7) hx hb hts hinX2 hown hK hP 0 rfl rfl 0 (by decide) k_0 (fun _ h9 => h9) rfl dX2_notifyDriver_9 ?_
  refine lv_iconst (v := 2) hx hb dX2_notifyDriver_12 (by decide) ?_
  refine za_iald (v := 0) hx hb hK hP 1 0 rfl rfl (zin tn_2 (Nat.le_of_ble_eq_true rfl)) (zrd _ tn_2 rfl) dX2_notifyDriver_13 ?_
  refine lv_aload_n hx hb dX2_notifyDriver_14 rfl (lv_at hl 0 rfl) ?_
  refine va_get (D := (dC, dI)) (ci := 2) (v := .ref a0) (C := RX2) (T := TX2) (N := 7) hx hb hts hinX2 hown hK hP 0 rfl rfl 0 (by decide) k_0 (fun _ h9 => h9) rfl dX2_notifyDriver_15 ?_
  refine lv_bipush (v := 11) hx hb dX2_notifyDriver_18 (by decide) ?_
  refine za_iald (v := 0) hx hb hK hP 1 0 rfl rfl (zin tn_11 (Nat.le_of_ble_eq_true rfl)) (zrd _ tn_11 rfl) dX2_notifyDriver_20 ?_
  refine lv_aload_n hx hb dX2_notifyDriver_21 rfl (lv_at hl 0 rfl) ?_
  refine va_get (D := (dC, dI)) (ci := 2) (v := .ref a0) (C := RX2) (T := TX2) (N := 7) hx hb hts hinX2 hown hK hP 0 rfl rfl 0 (by decide) k_0 (fun _ h9 => h9) rfl dX2_notifyDriver_22 ?_
  refine lv_bipush (v := 16) hx hb dX2_notifyDriver_25 (by decide) ?_
  refine za_iald (v := 0) hx hb hK hP 1 0 rfl rfl (zin tn_16 (Nat.le_of_ble_eq_true rfl)) (zrd _ tn_16 rfl) dX2_notifyDriver_27 ?_
  refine zcVi (As := [.int 0, .int 0, .int 0, .int 0]) (rest := []) (wr := []) ⟨hx, hb, hml, hown, hts⟩ (kkX2_isNoticeDue_0 l dC dI cI cB cZ cR H.size h a0 a1 a2 a3 a4 a5 a6 ) (cwV 4 hts (zgV wm_648 wm_649 wm_650 wm_22 wm_651) rfl rfl rfl (by decide +kernel) ⟨Nat.le_of_ble_eq_true rfl, Nat.le_of_ble_eq_true rfl⟩) hN hK hP hD hS hA [0, 1] [] rfl rfl ⟨rfl, rfl⟩ (by decide) (ci := 2) rfl rfl rfl rfl hl.1 rfl (Nat.le_of_ble_eq_true rfl) dX2_notifyDriver_28 ⟨Nat.le_of_ble_eq_true rfl, Nat.le_of_ble_eq_true rfl⟩ (fun r u hu H locs hP hD hS => ?_)
  have hu : r = 0 := hu
  subst hu
  have hP : va_P (dC, dI) vwCl [(h, .inr (2, [.ref a0, .ref a1, .ref a2, .ref a3, .ref a4, .ref a5, .ref a6])), (a0, .inl (cI, 22, .inl (gl [0, 0, 0, 0, 4, 0, 0, 0, 0, 0, 0, 0, (-1), (-1), 0, 0, 0, 0, 0, 4, 0, 16])))] H := hP
  have hD : va_D A [(h, .inr (2, [.ref a0, .ref a1, .ref a2, .ref a3, .ref a4, .ref a5, .ref a6])), (a0, .inl (cI, 22, .inl (gl [0, 0, 0, 0, 4, 0, 0, 0, 0, 0, 0, 0, (-1), (-1), 0, 0, 0, 0, 0, 4, 0, 16])))] := hD
  refine lv_istore_n (lv' := [(1, .int 0), (0, .ref h)]) hx hb dX2_notifyDriver_31 rfl hl (by decide) rfl (fun ls hl => ?_)
  refine lv_aload_n hx hb dX2_notifyDriver_32 rfl (lv_at hl 1 rfl) ?_
  refine va_get (D := (dC, dI)) (ci := 2) (v := .ref a0) (C := RX2) (T := TX2) (N := 7) hx hb hts hinX2 hown hK hP 0 rfl rfl 0 (by decide) k_0 (fun _ h9 => h9) rfl dX2_notifyDriver_33 ?_
  refine lv_bipush (v := 15) hx hb dX2_notifyDriver_36 (by decide) ?_
  refine lv_aload_n hx hb dX2_notifyDriver_38 rfl (lv_at hl 1 rfl) ?_
  refine va_get (D := (dC, dI)) (ci := 2) (v := .ref a0) (C := RX2) (T := TX2) (N := 7) hx hb hts hinX2 hown hK hP 0 rfl rfl 0 (by decide) k_0 (fun _ h9 => h9) rfl dX2_notifyDriver_39 ?_
  refine lv_iconst (v := 2) hx hb dX2_notifyDriver_42 (by decide) ?_
  refine za_iald (v := 0) hx hb hK hP 1 0 rfl rfl (zin tn_2 (Nat.le_of_ble_eq_true rfl)) (zrd _ tn_2 rfl) dX2_notifyDriver_43 ?_
  refine za_iast (f' := (gl [0, 0, 0, 0, 4, 0, 0, 0, 0, 0, 0, 0, (-1), (-1), 0, 0, 0, 0, 0, 4, 0, 16])) hx hb hK hP hD hS 1 0 rfl rfl (zin tn_15 (Nat.le_of_ble_eq_true rfl)) (zup_gl tn_15 (Nat.le_of_ble_eq_true rfl) rfl) dX2_notifyDriver_44 (fun H locs hP hD hS => ?_)
  have hP : va_P (dC, dI) vwCl [(h, .inr (2, [.ref a0, .ref a1, .ref a2, .ref a3, .ref a4, .ref a5, .ref a6])), (a0, .inl (cI, 22, .inl (gl [0, 0, 0, 0, 4, 0, 0, 0, 0, 0, 0, 0, (-1), (-1), 0, 0, 0, 0, 0, 4, 0, 16])))] H := hP
  have hD : va_D A [(h, .inr (2, [.ref a0, .ref a1, .ref a2, .ref a3, .ref a4, .ref a5, .ref a6])), (a0, .inl (cI, 22, .inl (gl [0, 0, 0, 0, 4, 0, 0, 0, 0, 0, 0, 0, (-1), (-1), 0, 0, 0, 0, 0, 4, 0, 16])))] := hD
  refine lv_aload_n hx hb dX2_notifyDriver_45 rfl (lv_at hl 1 rfl) ?_
  refine va_get (D := (dC, dI)) (ci := 2) (v := .ref a0) (C := RX2) (T := TX2) (N := 7) hx hb hts hinX2 hown hK hP 0 rfl rfl 0 (by decide) k_0 (fun _ h9 => h9) rfl dX2_notifyDriver_46 ?_
  refine lv_bipush (v := 9) hx hb dX2_notifyDriver_49 (by decide) ?_
  refine lv_dup2_11 hx hb dX2_notifyDriver_51 rfl rfl ?_
  refine za_iald (v := 0) hx hb hK hP 1 0 rfl rfl (zin tn_9 (Nat.le_of_ble_eq_true rfl)) (zrd _ tn_9 rfl) dX2_notifyDriver_52 ?_
  refine lv_iload_n hx hb dX2_notifyDriver_53 rfl (lv_at hl 0 rfl) ?_
  refine lv_if_eq (tgt := 61) hx hb dX2_notifyDriver_54 (by decide) (fun _ => ?_) (fun c => absurd (by decide) c)
  refine lv_iconst (v := 0) hx hb dX2_notifyDriver_61 (by decide) ?_
  refine lv_iadd hx hb dX2_notifyDriver_62 ?_
  refine tp (y := 0) (by decide) ?_
  refine za_iast (f' := (gl [0, 0, 0, 0, 4, 0, 0, 0, 0, 0, 0, 0, (-1), (-1), 0, 0, 0, 0, 0, 4, 0, 16])) hx hb hK hP hD hS 1 0 rfl rfl (zin tn_9 (Nat.le_of_ble_eq_true rfl)) (zup_gl tn_9 (Nat.le_of_ble_eq_true rfl) rfl) dX2_notifyDriver_63 (fun H locs hP hD hS => ?_)
  have hP : va_P (dC, dI) vwCl [(h, .inr (2, [.ref a0, .ref a1, .ref a2, .ref a3, .ref a4, .ref a5, .ref a6])), (a0, .inl (cI, 22, .inl (gl [0, 0, 0, 0, 4, 0, 0, 0, 0, 0, 0, 0, (-1), (-1), 0, 0, 0, 0, 0, 4, 0, 16])))] H := hP
  have hD : va_D A [(h, .inr (2, [.ref a0, .ref a1, .ref a2, .ref a3, .ref a4, .ref a5, .ref a6])), (a0, .inl (cI, 22, .inl (gl [0, 0, 0, 0, 4, 0, 0, 0, 0, 0, 0, 0, (-1), (-1), 0, 0, 0, 0, 0, 4, 0, 16])))] := hD
  refine lv_iload_n hx hb dX2_notifyDriver_64 rfl (lv_at hl 0 rfl) ?_
  refine lv_if_eq (tgt := 72) hx hb dX2_notifyDriver_65 (by decide) (fun _ => ?_) (fun c => absurd (by decide) c)
  refine lv_iconst (v := 0) hx hb dX2_notifyDriver_72 (by decide) ?_
  have hP9 := hP.sub (ws' := [(h, .inr (2, [.ref a0, .ref a1, .ref a2, .ref a3, .ref a4, .ref a5, .ref a6])), (a0, .inl (cI, 22, .inl (gl [0, 0, 0, 0, 4, 0, 0, 0, 0, 0, 0, 0, (-1), (-1), 0, 0, 0, 0, 0, 4, 0, 16])))]) [0, 1] rfl
  have hD9 := hD.sub (ws' := [(h, .inr (2, [.ref a0, .ref a1, .ref a2, .ref a3, .ref a4, .ref a5, .ref a6])), (a0, .inl (cI, 22, .inl (gl [0, 0, 0, 0, 4, 0, 0, 0, 0, 0, 0, 0, (-1), (-1), 0, 0, 0, 0, 0, 4, 0, 16])))]) [0, 1] (by decide) rfl
  exact W.iret (v := 0) hx hb hr (fun t ht hW => ⟨⟨0, (), rfl, rfl, by rw [ht]; exact hP9, va_K.moved hW.alike hK, hD9⟩, hS.F ht⟩) hS.2.2 dX2_notifyDriver_73

set_option maxHeartbeats 4000000 in
set_option maxRecDepth 100000 in
theorem kkX7_kick (l : Launch) (dC : Nat → ClassId) (dI : Nat → Nat → Nat) (cI cB cZ cR : ClassId) (sz : Nat) (x : Nat) (xt : Nat) (xd : Nat) (h : Nat) (xk : Nat) (xl : Nat) (xw : Nat) (xp : Nat) (xs : Nat) (xr : Nat) (a0 : Nat) (a1 : Nat) (a2 : Nat) (a3 : Nat) (a4 : Nat) (a5 : Nat) (a6 : Nat) : Met l yX7_kick (.code yX7_kick cX7_kick 1 (some .int) :: wsL_law) ({ frames := 3, cells := 0, slots := 0, locals := 66 }) (zPc dC dI (zT cI cB cZ cR) [.ref x] sz [(x, .inr (7, [.ref xt, .ref xd, .ref h, .ref xk, .ref xl, .ref xw, .ref xp, .ref xs, .ref xr, .int 0, .int (-1), .int 0, .null])), (h, .inr (2, [.ref a0, .ref a1, .ref a2, .ref a3, .ref a4, .ref a5, .ref a6])), (a0, .inl (cI, 22, .inl (gl [0, 0, 0, 0, 4, 0, 0, 0, 0, 0, 0, 0, (-1), (-1), 0, 0, 0, 0, 0, 4, 0, 16])))]) (va_Qi (fun (r : Int32) (_ : Unit) => r = 0) (fun _ : Unit => zB dC dI (zT cI cB cZ cR) (va_A [(x, .inr (7, [.ref xt, .ref xd, .ref h, .ref xk, .ref xl, .ref xw, .ref xp, .ref xs, .ref xr, .int 0, .int (-1), .int 0, .null])), (h, .inr (2, [.ref a0, .ref a1, .ref a2, .ref a3, .ref a4, .ref a5, .ref a6])), (a0, .inl (cI, 22, .inl (gl [0, 0, 0, 0, 4, 0, 0, 0, 0, 0, 0, 0, (-1), (-1), 0, 0, 0, 0, 0, 4, 0, 16])))] sz) [(x, .inr (7, [.ref xt, .ref xd, .ref h, .ref xk, .ref xl, .ref xw, .ref xp, .ref xs, .ref xr, .int 0, .int (-1), .int 0, .null])), (h, .inr (2, [.ref a0, .ref a1, .ref a2, .ref a3, .ref a4, .ref a5, .ref a6])), (a0, .inl (cI, 22, .inl (gl [0, 0, 0, 0, 4, 0, 0, 0, 0, 0, 0, 0, (-1), (-1), 0, 0, 0, 0, 0, 4, 0, 16])))]) (va_A [(x, .inr (7, [.ref xt, .ref xd, .ref h, .ref xk, .ref xl, .ref xw, .ref xp, .ref xs, .ref xr, .int 0, .int (-1), .int 0, .null])), (h, .inr (2, [.ref a0, .ref a1, .ref a2, .ref a3, .ref a4, .ref a5, .ref a6])), (a0, .inl (cI, 22, .inl (gl [0, 0, 0, 0, 4, 0, 0, 0, 0, 0, 0, 0, (-1), (-1), 0, 0, 0, 0, 0, 4, 0, 16])))] sz)) 0 0 (va_A [(x, .inr (7, [.ref xt, .ref xd, .ref h, .ref xk, .ref xl, .ref xw, .ref xp, .ref xs, .ref xr, .int 0, .int (-1), .int 0, .null])), (h, .inr (2, [.ref a0, .ref a1, .ref a2, .ref a3, .ref a4, .ref a5, .ref a6])), (a0, .inl (cI, 22, .inl (gl [0, 0, 0, 0, 4, 0, 0, 0, 0, 0, 0, 0, (-1), (-1), 0, 0, 0, 0, 0, 4, 0, 16])))] sz) := by
  refine Met.ofW (cc := cX7_kick) (maxL := 1) (ret := (some .int)) (by decide) rfl ?_
  intro p e s m args below meth c s₁ B hml hv
  obtain ⟨rfl, hsz, hP, hK, hD0, hN⟩ := hv
  have hx := B.exec
  have hb := B.bytes
  have hr := B.returns
  have hts := atoms_spec (ws := (.code yX7_kick cX7_kick 1 (some .int) :: wsL_law)) B.pre
  have hown : s.vm.findClass RX7 = some m.cls := findClass_of_methodNamed B.named
  have hlocks := B.notSynchronized
  have hinX7 : ∀ w ∈ u_ws RX7 TX7 13, w ∈ (.code yX7_kick cX7_kick 1 (some .int) :: wsL_law) := fun w h => List.mem_cons_of_mem _ (inlX7 w h)
  have k_0 := hts (.fieldLink RX7 26 "RingMarks" "ring" "LRingMarks$Ring;") (List.mem_cons_of_mem _ wm_23)
  subst hsz
  have hD := hD0.self (sz := s.heap.size)
  generalize hAe : va_A [(x, .inr (7, [.ref xt, .ref xd, .ref h, .ref xk, .ref xl, .ref xw, .ref xp, .ref xs, .ref xr, .int 0, .int (-1), .int 0, .null])), (h, .inr (2, [.ref a0, .ref a1, .ref a2, .ref a3, .ref a4, .ref a5, .ref a6])), (a0, .inl (cI, 22, .inl (gl [0, 0, 0, 0, 4, 0, 0, 0, 0, 0, 0, 0, (-1), (-1), 0, 0, 0, 0, 0, 4, 0, 16])))] s.heap.size = A at hD ⊢
  have hA : ∀ q : Nat, s.heap.size ≤ q → A q := fun q h => by rw [← hAe]; exact Or.inr h
  have hP : va_P (dC, dI) vwCl [(x, .inr (7, [.ref xt, .ref xd, .ref h, .ref xk, .ref xl, .ref xw, .ref xp, .ref xs, .ref xr, .int 0, .int (-1), .int 0, .null])), (h, .inr (2, [.ref a0, .ref a1, .ref a2, .ref a3, .ref a4, .ref a5, .ref a6])), (a0, .inl (cI, 22, .inl (gl [0, 0, 0, 0, 4, 0, 0, 0, 0, 0, 0, 0, (-1), (-1), 0, 0, 0, 0, 0, 4, 0, 16])))] s.heap := hP
  have hl := lv_entry ([.ref x]) (n := 1) (Nat.le_of_ble_eq_true rfl)
  rw [lg_entry_eq]
  generalize (lg_sl ([.ref x]) ++ List.replicate (1 - (lg_sl ([.ref x])).length) Slot.unset).toArray = ls at hl ⊢
  have hl : lv_has ls 1 [(0, .ref x)] := hl
  obtain ⟨H, hH⟩ : ∃ H, H = s.heap := ⟨_, rfl⟩
  rw [← hH] at hP ⊢
  have hS : va_S A s.heap H [] := by rw [hH]; exact va_S.rf
  refine lv_aload_n hx hb dX7_kick_0 rfl (lv_at hl 0 rfl) ?_
  refine va_get (D := (dC, dI)) (ci := 7) (v := .ref h) (C := RX7) (T := TX7) (N := 13) hx hb hts hinX7 hown hK hP 0 rfl rfl 2 (by decide) k_0 (fun _ h9 => h9) rfl dX7_kick_1 ?_
  refine zcVi (As := []) (rest := []) (wr := [(x, .inr (7, [.ref xt, .ref xd, .ref h, .ref xk, .ref xl, .ref xw, .ref xp, .ref xs, .ref xr, .int 0, .int (-1), .int 0, .null]))]) ⟨hx, hb, hml, hown, hts⟩ (kkX2_notifyDevice_0 l dC dI cI cB cZ cR H.size h a0 a1 a2 a3 a4 a5 a6 ) (cwV 0 hts (zgV wm_644 wm_645 wm_646 wm_22 wm_647) rfl rfl rfl (by decide +kernel) ⟨Nat.le_of_ble_eq_true rfl, Nat.le_of_ble_eq_true rfl⟩) hN hK hP hD hS hA [1, 2] [0] rfl rfl ⟨rfl, rfl⟩ (by decide) (ci := 2) rfl rfl rfl rfl hl.1 rfl (Nat.le_of_ble_eq_true rfl) dX7_kick_4 ⟨Nat.le_of_ble_eq_true rfl, Nat.le_of_ble_eq_true rfl⟩ (fun r u hu H locs hP hD hS => ?_)
  have hu : r = 0 := hu
  subst hu
  have hP : va_P (dC, dI) vwCl [(x, .inr (7, [.ref xt, .ref xd, .ref h, .ref xk, .ref xl, .ref xw, .ref xp, .ref xs, .ref xr, .int 0, .int (-1), .int 0, .null])), (h, .inr (2, [.ref a0, .ref a1, .ref a2, .ref a3, .ref a4, .ref a5, .ref a6])), (a0, .inl (cI, 22, .inl (gl [0, 0, 0, 0, 4, 0, 0, 0, 0, 0, 0, 0, (-1), (-1), 0, 0, 0, 0, 0, 4, 0, 16])))] H := hP
  have hD : va_D A [(x, .inr (7, [.ref xt, .ref xd, .ref h, .ref xk, .ref xl, .ref xw, .ref xp, .ref xs, .ref xr, .int 0, .int (-1), .int 0, .null])), (h, .inr (2, [.ref a0, .ref a1, .ref a2, .ref a3, .ref a4, .ref a5, .ref a6])), (a0, .inl (cI, 22, .inl (gl [0, 0, 0, 0, 4, 0, 0, 0, 0, 0, 0, 0, (-1), (-1), 0, 0, 0, 0, 0, 4, 0, 16])))] := hD
  have hP9 := hP.sub (ws' := [(x, .inr (7, [.ref xt, .ref xd, .ref h, .ref xk, .ref xl, .ref xw, .ref xp, .ref xs, .ref xr, .int 0, .int (-1), .int 0, .null])), (h, .inr (2, [.ref a0, .ref a1, .ref a2, .ref a3, .ref a4, .ref a5, .ref a6])), (a0, .inl (cI, 22, .inl (gl [0, 0, 0, 0, 4, 0, 0, 0, 0, 0, 0, 0, (-1), (-1), 0, 0, 0, 0, 0, 4, 0, 16])))]) [0, 1, 2] rfl
  have hD9 := hD.sub (ws' := [(x, .inr (7, [.ref xt, .ref xd, .ref h, .ref xk, .ref xl, .ref xw, .ref xp, .ref xs, .ref xr, .int 0, .int (-1), .int 0, .null])), (h, .inr (2, [.ref a0, .ref a1, .ref a2, .ref a3, .ref a4, .ref a5, .ref a6])), (a0, .inl (cI, 22, .inl (gl [0, 0, 0, 0, 4, 0, 0, 0, 0, 0, 0, 0, (-1), (-1), 0, 0, 0, 0, 0, 4, 0, 16])))]) [0, 1, 2] (by decide) rfl
  exact W.iret (v := 0) hx hb hr (fun t ht hW => ⟨⟨0, (), rfl, rfl, by rw [ht]; exact hP9, va_K.moved hW.alike hK, hD9⟩, hS.F ht⟩) hS.2.2 dX7_kick_7

set_option maxHeartbeats 4000000 in
set_option maxRecDepth 100000 in
theorem kkX7_signal (l : Launch) (dC : Nat → ClassId) (dI : Nat → Nat → Nat) (cI cB cZ cR : ClassId) (sz : Nat) (x : Nat) (xt : Nat) (xd : Nat) (h : Nat) (xk : Nat) (xl : Nat) (xw : Nat) (xp : Nat) (xs : Nat) (xr : Nat) (a0 : Nat) (a1 : Nat) (a2 : Nat) (a3 : Nat) (a4 : Nat) (a5 : Nat) (a6 : Nat) : Met l yX7_signal (.code yX7_signal cX7_signal 1 (some .int) :: wsL_law) ({ frames := 3, cells := 0, slots := 0, locals := 66 }) (zPc dC dI (zT cI cB cZ cR) [.ref x] sz [(x, .inr (7, [.ref xt, .ref xd, .ref h, .ref xk, .ref xl, .ref xw, .ref xp, .ref xs, .ref xr, .int 0, .int (-1), .int 0, .null])), (h, .inr (2, [.ref a0, .ref a1, .ref a2, .ref a3, .ref a4, .ref a5, .ref a6])), (a0, .inl (cI, 22, .inl (gl [0, 0, 0, 0, 4, 0, 0, 0, 0, 0, 0, 0, (-1), (-1), 0, 0, 0, 0, 0, 4, 0, 16])))]) (va_Qi (fun (r : Int32) (_ : Unit) => r = 0) (fun _ : Unit => zB dC dI (zT cI cB cZ cR) (va_A [(x, .inr (7, [.ref xt, .ref xd, .ref h, .ref xk, .ref xl, .ref xw, .ref xp, .ref xs, .ref xr, .int 0, .int (-1), .int 0, .null])), (h, .inr (2, [.ref a0, .ref a1, .ref a2, .ref a3, .ref a4, .ref a5, .ref a6])), (a0, .inl (cI, 22, .inl (gl [0, 0, 0, 0, 4, 0, 0, 0, 0, 0, 0, 0, (-1), (-1), 0, 0, 0, 0, 0, 4, 0, 16])))] sz) [(x, .inr (7, [.ref xt, .ref xd, .ref h, .ref xk, .ref xl, .ref xw, .ref xp, .ref xs, .ref xr, .int 0, .int (-1), .int 0, .null])), (h, .inr (2, [.ref a0, .ref a1, .ref a2, .ref a3, .ref a4, .ref a5, .ref a6])), (a0, .inl (cI, 22, .inl (gl [0, 0, 0, 0, 4, 0, 0, 0, 0, 0, 0, 0, (-1), (-1), 0, 0, 0, 0, 0, 4, 0, 16])))]) (va_A [(x, .inr (7, [.ref xt, .ref xd, .ref h, .ref xk, .ref xl, .ref xw, .ref xp, .ref xs, .ref xr, .int 0, .int (-1), .int 0, .null])), (h, .inr (2, [.ref a0, .ref a1, .ref a2, .ref a3, .ref a4, .ref a5, .ref a6])), (a0, .inl (cI, 22, .inl (gl [0, 0, 0, 0, 4, 0, 0, 0, 0, 0, 0, 0, (-1), (-1), 0, 0, 0, 0, 0, 4, 0, 16])))] sz)) 0 0 (va_A [(x, .inr (7, [.ref xt, .ref xd, .ref h, .ref xk, .ref xl, .ref xw, .ref xp, .ref xs, .ref xr, .int 0, .int (-1), .int 0, .null])), (h, .inr (2, [.ref a0, .ref a1, .ref a2, .ref a3, .ref a4, .ref a5, .ref a6])), (a0, .inl (cI, 22, .inl (gl [0, 0, 0, 0, 4, 0, 0, 0, 0, 0, 0, 0, (-1), (-1), 0, 0, 0, 0, 0, 4, 0, 16])))] sz) := by
  refine Met.ofW (cc := cX7_signal) (maxL := 1) (ret := (some .int)) (by decide) rfl ?_
  intro p e s m args below meth c s₁ B hml hv
  obtain ⟨rfl, hsz, hP, hK, hD0, hN⟩ := hv
  have hx := B.exec
  have hb := B.bytes
  have hr := B.returns
  have hts := atoms_spec (ws := (.code yX7_signal cX7_signal 1 (some .int) :: wsL_law)) B.pre
  have hown : s.vm.findClass RX7 = some m.cls := findClass_of_methodNamed B.named
  have hlocks := B.notSynchronized
  have hinX7 : ∀ w ∈ u_ws RX7 TX7 13, w ∈ (.code yX7_signal cX7_signal 1 (some .int) :: wsL_law) := fun w h => List.mem_cons_of_mem _ (inlX7 w h)
  have k_0 := hts (.fieldLink RX7 26 "RingMarks" "ring" "LRingMarks$Ring;") (List.mem_cons_of_mem _ wm_23)
  subst hsz
  have hD := hD0.self (sz := s.heap.size)
  generalize hAe : va_A [(x, .inr (7, [.ref xt, .ref xd, .ref h, .ref xk, .ref xl, .ref xw, .ref xp, .ref xs, .ref xr, .int 0, .int (-1), .int 0, .null])), (h, .inr (2, [.ref a0, .ref a1, .ref a2, .ref a3, .ref a4, .ref a5, .ref a6])), (a0, .inl (cI, 22, .inl (gl [0, 0, 0, 0, 4, 0, 0, 0, 0, 0, 0, 0, (-1), (-1), 0, 0, 0, 0, 0, 4, 0, 16])))] s.heap.size = A at hD ⊢
  have hA : ∀ q : Nat, s.heap.size ≤ q → A q := fun q h => by rw [← hAe]; exact Or.inr h
  have hP : va_P (dC, dI) vwCl [(x, .inr (7, [.ref xt, .ref xd, .ref h, .ref xk, .ref xl, .ref xw, .ref xp, .ref xs, .ref xr, .int 0, .int (-1), .int 0, .null])), (h, .inr (2, [.ref a0, .ref a1, .ref a2, .ref a3, .ref a4, .ref a5, .ref a6])), (a0, .inl (cI, 22, .inl (gl [0, 0, 0, 0, 4, 0, 0, 0, 0, 0, 0, 0, (-1), (-1), 0, 0, 0, 0, 0, 4, 0, 16])))] s.heap := hP
  have hl := lv_entry ([.ref x]) (n := 1) (Nat.le_of_ble_eq_true rfl)
  rw [lg_entry_eq]
  generalize (lg_sl ([.ref x]) ++ List.replicate (1 - (lg_sl ([.ref x])).length) Slot.unset).toArray = ls at hl ⊢
  have hl : lv_has ls 1 [(0, .ref x)] := hl
  obtain ⟨H, hH⟩ : ∃ H, H = s.heap := ⟨_, rfl⟩
  rw [← hH] at hP ⊢
  have hS : va_S A s.heap H [] := by rw [hH]; exact va_S.rf
  refine lv_aload_n hx hb dX7_signal_0 rfl (lv_at hl 0 rfl) ?_
  refine va_get (D := (dC, dI)) (ci := 7) (v := .ref h) (C := RX7) (T := TX7) (N := 13) hx hb hts hinX7 hown hK hP 0 rfl rfl 2 (by decide) k_0 (fun _ h9 => h9) rfl dX7_signal_1 ?_
  refine zcVi (As := []) (rest := []) (wr := [(x, .inr (7, [.ref xt, .ref xd, .ref h, .ref xk, .ref xl, .ref xw, .ref xp, .ref xs, .ref xr, .int 0, .int (-1), .int 0, .null]))]) ⟨hx, hb, hml, hown, hts⟩ (kkX2_notifyDriver_0 l dC dI cI cB cZ cR H.size h a0 a1 a2 a3 a4 a5 a6 ) (cwV 0 hts (zgV wm_674 wm_675 wm_676 wm_22 wm_677) rfl rfl rfl (by decide +kernel) ⟨Nat.le_of_ble_eq_true rfl, Nat.le_of_ble_eq_true rfl⟩) hN hK hP hD hS hA [1, 2] [0] rfl rfl ⟨rfl, rfl⟩ (by decide) (ci := 2) rfl rfl rfl rfl hl.1 rfl (Nat.le_of_ble_eq_true rfl) dX7_signal_4 ⟨Nat.le_of_ble_eq_true rfl, Nat.le_of_ble_eq_true rfl⟩ (fun r u hu H locs hP hD hS => ?_)
  have hu : r = 0 := hu
  subst hu
  have hP : va_P (dC, dI) vwCl [(x, .inr (7, [.ref xt, .ref xd, .ref h, .ref xk, .ref xl, .ref xw, .ref xp, .ref xs, .ref xr, .int 0, .int (-1), .int 0, .null])), (h, .inr (2, [.ref a0, .ref a1, .ref a2, .ref a3, .ref a4, .ref a5, .ref a6])), (a0, .inl (cI, 22, .inl (gl [0, 0, 0, 0, 4, 0, 0, 0, 0, 0, 0, 0, (-1), (-1), 0, 0, 0, 0, 0, 4, 0, 16])))] H := hP
  have hD : va_D A [(x, .inr (7, [.ref xt, .ref xd, .ref h, .ref xk, .ref xl, .ref xw, .ref xp, .ref xs, .ref xr, .int 0, .int (-1), .int 0, .null])), (h, .inr (2, [.ref a0, .ref a1, .ref a2, .ref a3, .ref a4, .ref a5, .ref a6])), (a0, .inl (cI, 22, .inl (gl [0, 0, 0, 0, 4, 0, 0, 0, 0, 0, 0, 0, (-1), (-1), 0, 0, 0, 0, 0, 4, 0, 16])))] := hD
  have hP9 := hP.sub (ws' := [(x, .inr (7, [.ref xt, .ref xd, .ref h, .ref xk, .ref xl, .ref xw, .ref xp, .ref xs, .ref xr, .int 0, .int (-1), .int 0, .null])), (h, .inr (2, [.ref a0, .ref a1, .ref a2, .ref a3, .ref a4, .ref a5, .ref a6])), (a0, .inl (cI, 22, .inl (gl [0, 0, 0, 0, 4, 0, 0, 0, 0, 0, 0, 0, (-1), (-1), 0, 0, 0, 0, 0, 4, 0, 16])))]) [0, 1, 2] rfl
  have hD9 := hD.sub (ws' := [(x, .inr (7, [.ref xt, .ref xd, .ref h, .ref xk, .ref xl, .ref xw, .ref xp, .ref xs, .ref xr, .int 0, .int (-1), .int 0, .null])), (h, .inr (2, [.ref a0, .ref a1, .ref a2, .ref a3, .ref a4, .ref a5, .ref a6])), (a0, .inl (cI, 22, .inl (gl [0, 0, 0, 0, 4, 0, 0, 0, 0, 0, 0, 0, (-1), (-1), 0, 0, 0, 0, 0, 4, 0, 16])))]) [0, 1, 2] (by decide) rfl
  exact W.iret (v := 0) hx hb hr (fun t ht hW => ⟨⟨0, (), rfl, rfl, by rw [ht]; exact hP9, va_K.moved hW.alike hK, hD9⟩, hS.F ht⟩) hS.2.2 dX7_signal_7
