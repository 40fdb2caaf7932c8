set_option maxHeartbeats 4000000 in
set_option maxRecDepth 100000 in
theorem kkX2_putCell_000 (l : Launch) (dC : Nat → ClassId) (dI : Nat → Nat → Nat) (cI cB cZ cR : ClassId) (sz : Nat) (h : Nat) (a0 : Nat) (a1 : Nat) (a2 : Nat) (a3 : Nat) (a4 : Nat) (a5 : Nat) (a6 : Nat) (fc : Nat → Int32) (p4 : Int32) : Met l yX2_putCell (.code yX2_putCell cX2_putCell 6 none :: wsL_law) ({ frames := 0, cells := 0, slots := 0, locals := 0 }) (zPc dC dI (zT cI cB cZ cR) [.ref h, .int 0, .int 0, .int 0, .int p4] sz [(h, .inr (2, [.ref a0, .ref a1, .ref a2, .ref a3, .ref a4, .ref a5, .ref a6])), (a1, .inl (cI, 120, .inl fc)), (a2, .inl (cI, 5, .inl (gl [4, 0, 0, 0, 0])))]) (va_Qv (fun _ : Unit => True) (fun _ : Unit => zB dC dI (zT cI cB cZ cR) (va_A [(h, .inr (2, [.ref a0, .ref a1, .ref a2, .ref a3, .ref a4, .ref a5, .ref a6])), (a1, .inl (cI, 120, .inl fc)), (a2, .inl (cI, 5, .inl (gl [4, 0, 0, 0, 0])))] sz) [(h, .inr (2, [.ref a0, .ref a1, .ref a2, .ref a3, .ref a4, .ref a5, .ref a6])), (a1, .inl (cI, 120, .inl (upd fc 0 p4))), (a2, .inl (cI, 5, .inl (gl [4, 0, 0, 0, 0])))]) (va_A [(h, .inr (2, [.ref a0, .ref a1, .ref a2, .ref a3, .ref a4, .ref a5, .ref a6])), (a1, .inl (cI, 120, .inl fc)), (a2, .inl (cI, 5, .inl (gl [4, 0, 0, 0, 0])))] sz)) 0 0 (va_A [(h, .inr (2, [.ref a0, .ref a1, .ref a2, .ref a3, .ref a4, .ref a5, .ref a6])), (a1, .inl (cI, 120, .inl fc)), (a2, .inl (cI, 5, .inl (gl [4, 0, 0, 0, 0])))] sz) := by
  refine Met.ofW (cc := cX2_putCell) (maxL := 6) (ret := none) (by decide) rfl ?_
  intro p e s m args below meth c s₁ B hml hv
  obtain ⟨rfl, hsz, hP, hK, hD0, hN⟩ := hv
  have hx := B.exec
  have hb := B.bytes
  have hr := B.returns
  have hts := atoms_spec (ws := (.code yX2_putCell cX2_putCell 6 none :: wsL_law)) B.pre
  have hown : s.vm.findClass RX2 = some m.cls := findClass_of_methodNamed B.named
  have hlocks := B.notSynchronized
  have hinX2 : ∀ w ∈ u_ws RX2 TX2 7, w ∈ (.code yX2_putCell cX2_putCell 6 none :: wsL_law) := fun w h => List.mem_cons_of_mem _ (inlX2 w h)
  have k_0 := hts (.fieldLink RX2 18 "RingMarks$Ring" "sizes" "[I") (List.mem_cons_of_mem _ wm_63)
  have k_1 := hts (.fieldLink RX2 15 "RingMarks$Ring" "cells" "[I") (List.mem_cons_of_mem _ wm_62)
  subst hsz
  have hD := hD0.self (sz := s.heap.size)
  generalize hAe : va_A [(h, .inr (2, [.ref a0, .ref a1, .ref a2, .ref a3, .ref a4, .ref a5, .ref a6])), (a1, .inl (cI, 120, .inl fc)), (a2, .inl (cI, 5, .inl (gl [4, 0, 0, 0, 0])))] s.heap.size = A at hD ⊢
  have hA : ∀ q : Nat, s.heap.size ≤ q → A q := fun q h => by rw [← hAe]; exact Or.inr h
  have hP : va_P (dC, dI) vwCl [(h, .inr (2, [.ref a0, .ref a1, .ref a2, .ref a3, .ref a4, .ref a5, .ref a6])), (a1, .inl (cI, 120, .inl fc)), (a2, .inl (cI, 5, .inl (gl [4, 0, 0, 0, 0])))] s.heap := hP
  have hl := lv_entry ([.ref h, .int 0, .int 0, .int 0, .int p4]) (n := 6) (Nat.le_of_ble_eq_true rfl)
  rw [lg_entry_eq]
  generalize (lg_sl ([.ref h, .int 0, .int 0, .int 0, .int p4]) ++ List.replicate (6 - (lg_sl ([.ref h, .int 0, .int 0, .int 0, .int p4])).length) Slot.unset).toArray = ls at hl ⊢
  have hl : lv_has ls 6 [(0, .ref h), (1, .int 0), (2, .int 0), (3, .int 0), (4, .int p4)] := hl
  obtain ⟨H, hH⟩ : ∃ H, H = s.heap := ⟨_, rfl⟩
  rw [← hH] at hP ⊢
  have hS : va_S A s.heap H [] := by rw [hH]; exact va_S.rf
  refine lv_iload_n hx hb dX2_putCell_0 rfl (lv_at hl 1 rfl) ?_
  refine lv_if_lt (tgt := 32) hx hb dX2_putCell_1 (by decide) (fun c => absurd c (by decide)) (fun _ => ?_)
  refine lv_iload_n hx hb dX2_putCell_4 rfl (lv_at hl 1 rfl) ?_
  refine lv_iconst (v := 5) hx hb dX2_putCell_5 (by decide) ?_
  refine lv_icmp_ge (tgt := 32) hx hb dX2_putCell_6 (by decide) (fun c => absurd c (by decide)) (fun _ => ?_)
  refine lv_iload_n hx hb dX2_putCell_9 rfl (lv_at hl 2 rfl) ?_
  refine lv_if_lt (tgt := 32) hx hb dX2_putCell_10 (by decide) (fun c => absurd c (by decide)) (fun _ => ?_)
  refine lv_iload_n hx hb dX2_putCell_13 rfl (lv_at hl 2 rfl) ?_
  refine lv_bipush (v := 8) hx hb dX2_putCell_14 (by decide) ?_
  refine lv_icmp_ge (tgt := 32) hx hb dX2_putCell_16 (by decide) (fun c => absurd c (by decide)) (fun _ => ?_)
  refine lv_iload_n hx hb dX2_putCell_19 rfl (lv_at hl 3 rfl) ?_
  refine lv_if_lt (tgt := 32) hx hb dX2_putCell_20 (by decide) (fun c => absurd c (by decide)) (fun _ => ?_)
  refine lv_iload_n hx hb dX2_putCell_23 rfl (lv_at hl 3 rfl) ?_
  refine lv_iconst (v := 2) hx hb dX2_putCell_24 (by decide) ?_
  refine lv_icmp_gt (tgt := 32) hx hb dX2_putCell_25 (by decide) (fun c => absurd c (by decide)) (fun _ => ?_)
  refine lv_iconst (v := 1) hx hb dX2_putCell_28 (by decide) ?_
  refine lv_goto (tgt := 33) hx hb dX2_putCell_29 (by decide) ?_
  refine lv_istore (lv' := [(5, .int 1), (0, .ref h), (1, .int 0), (2, .int 0), (3, .int 0), (4, .int p4)]) hx hb dX2_putCell_33 hl (by decide) rfl (fun ls hl => ?_)
  refine lv_iload hx hb dX2_putCell_35 (lv_at hl 0 rfl) ?_
  refine lv_if_eq (tgt := 67) hx hb dX2_putCell_37 (by decide) (fun c => absurd c (by decide)) (fun _ => ?_)
  refine lv_iload_n hx hb dX2_putCell_40 rfl (lv_at hl 3 rfl) ?_
  refine lv_aload_n hx hb dX2_putCell_41 rfl (lv_at hl 1 rfl) ?_
  refine va_get (D := (dC, dI)) (ci := 2) (v := .ref a2) (C := RX2) (T := TX2) (N := 7) hx hb hts hinX2 hown hK hP 0 rfl rfl 2 (by decide) k_0 (fun _ h9 => h9) rfl dX2_putCell_42 ?_
  refine lv_iload_n hx hb dX2_putCell_45 rfl (lv_at hl 2 rfl) ?_
  refine za_iald (v := 4) hx hb hK hP 2 0 rfl rfl (zin tn_0 (Nat.le_of_ble_eq_true rfl)) (zrd _ tn_0 rfl) dX2_putCell_46 ?_
  refine lv_icmp_ge (tgt := 67) hx hb dX2_putCell_47 (by decide) (fun c => absurd c (by decide)) (fun _ => ?_)
  refine lv_aload_n hx hb dX2_putCell_50 rfl (lv_at hl 1 rfl) ?_
  refine va_get (D := (dC, dI)) (ci := 2) (v := .ref a1) (C := RX2) (T := TX2) (N := 7) hx hb hts hinX2 hown hK hP 0 rfl rfl 1 (by decide) k_1 (fun _ h9 => h9) rfl dX2_putCell_51 ?_
  refine lv_iload_n hx hb dX2_putCell_54 rfl (lv_at hl 2 rfl) ?_
  refine lv_bipush (v := 8) hx hb dX2_putCell_55 (by decide) ?_
  refine lv_imul hx hb dX2_putCell_57 ?_
  refine tp (y := 0) (by decide) ?_
  refine lv_iload_n hx hb dX2_putCell_58 rfl (lv_at hl 3 rfl) ?_
  refine lv_iadd hx hb dX2_putCell_59 ?_
  refine tp (y := 0) (by decide) ?_
  refine lv_iconst (v := 3) hx hb dX2_putCell_60 (by decide) ?_
  refine lv_imul hx hb dX2_putCell_61 ?_
  refine tp (y := 0) (by decide) ?_
  refine lv_iload_n hx hb dX2_putCell_62 rfl (lv_at hl 4 rfl) ?_
  refine lv_iadd hx hb dX2_putCell_63 ?_
  refine tp (y := 0) (by decide) ?_
  refine lv_iload hx hb dX2_putCell_64 (lv_at hl 5 rfl) ?_
  refine za_iast (f' := (upd fc 0 p4)) hx hb hK hP hD hS 1 0 rfl rfl (zin tn_0 (Nat.le_of_ble_eq_true rfl)) (congrArg (fun z => upd _ z _) tn_0.1) dX2_putCell_66 (fun H locs hP hD hS => ?_)
  have hP : va_P (dC, dI) vwCl [(h, .inr (2, [.ref a0, .ref a1, .ref a2, .ref a3, .ref a4, .ref a5, .ref a6])), (a1, .inl (cI, 120, .inl (upd fc 0 p4))), (a2, .inl (cI, 5, .inl (gl [4, 0, 0, 0, 0])))] H := hP
  have hD : va_D A [(h, .inr (2, [.ref a0, .ref a1, .ref a2, .ref a3, .ref a4, .ref a5, .ref a6])), (a1, .inl (cI, 120, .inl (upd fc 0 p4))), (a2, .inl (cI, 5, .inl (gl [4, 0, 0, 0, 0])))] := hD
  have hP9 := hP.sub (ws' := [(h, .inr (2, [.ref a0, .ref a1, .ref a2, .ref a3, .ref a4, .ref a5, .ref a6])), (a1, .inl (cI, 120, .inl (upd fc 0 p4))), (a2, .inl (cI, 5, .inl (gl [4, 0, 0, 0, 0])))]) [0, 1, 2] rfl
  have hD9 := hD.sub (ws' := [(h, .inr (2, [.ref a0, .ref a1, .ref a2, .ref a3, .ref a4, .ref a5, .ref a6])), (a1, .inl (cI, 120, .inl (upd fc 0 p4))), (a2, .inl (cI, 5, .inl (gl [4, 0, 0, 0, 0])))]) [0, 1, 2] (by decide) rfl
  exact W.vret hx hb hr (fun t ht hW => ⟨⟨(), rfl, trivial, by rw [ht]; exact hP9, va_K.moved hW.alike hK, hD9⟩, hS.F ht⟩) hS.2.2 dX2_putCell_67

set_option maxHeartbeats 4000000 in
set_option maxRecDepth 100000 in
theorem kkX2_putCell_001 (l : Launch) (dC : Nat → ClassId) (dI : Nat → Nat → Nat) (cI cB cZ cR : ClassId) (sz : Nat) (h : Nat) (a0 : Nat) (a1 : Nat) (a2 : Nat) (a3 : Nat) (a4 : Nat) (a5 : Nat) (a6 : Nat) (fc : Nat → Int32) (p4 : Int32) : Met l yX2_putCell (.code yX2_putCell cX2_putCell 6 none :: wsL_law) ({ frames := 0, cells := 0, slots := 0, locals := 0 }) (zPc dC dI (zT cI cB cZ cR) [.ref h, .int 0, .int 0, .int 1, .int p4] sz [(h, .inr (2, [.ref a0, .ref a1, .ref a2, .ref a3, .ref a4, .ref a5, .ref a6])), (a1, .inl (cI, 120, .inl fc)), (a2, .inl (cI, 5, .inl (gl [4, 0, 0, 0, 0])))]) (va_Qv (fun _ : Unit => True) (fun _ : Unit => zB dC dI (zT cI cB cZ cR) (va_A [(h, .inr (2, [.ref a0, .ref a1, .ref a2, .ref a3, .ref a4, .ref a5, .ref a6])), (a1, .inl (cI, 120, .inl fc)), (a2, .inl (cI, 5, .inl (gl [4, 0, 0, 0, 0])))] sz) [(h, .inr (2, [.ref a0, .ref a1, .ref a2, .ref a3, .ref a4, .ref a5, .ref a6])), (a1, .inl (cI, 120, .inl (upd fc 1 p4))), (a2, .inl (cI, 5, .inl (gl [4, 0, 0, 0, 0])))]) (va_A [(h, .inr (2, [.ref a0, .ref a1, .ref a2, .ref a3, .ref a4, .ref a5, .ref a6])), (a1, .inl (cI, 120, .inl fc)), (a2, .inl (cI, 5, .inl (gl [4, 0, 0, 0, 0])))] sz)) 0 0 (va_A [(h, .inr (2, [.ref a0, .ref a1, .ref a2, .ref a3, .ref a4, .ref a5, .ref a6])), (a1, .inl (cI, 120, .inl fc)), (a2, .inl (cI, 5, .inl (gl [4, 0, 0, 0, 0])))] sz) := by
  refine Met.ofW (cc := cX2_putCell) (maxL := 6) (ret := none) (by decide) rfl ?_
  intro p e s m args below meth c s₁ B hml hv
  obtain ⟨rfl, hsz, hP, hK, hD0, hN⟩ := hv
  have hx := B.exec
  have hb := B.bytes
  have hr := B.returns
  have hts := atoms_spec (ws := (.code yX2_putCell cX2_putCell 6 none :: wsL_law)) B.pre
  have hown : s.vm.findClass RX2 = some m.cls := findClass_of_methodNamed B.named
  have hlocks := B.notSynchronized
  have hinX2 : ∀ w ∈ u_ws RX2 TX2 7, w ∈ (.code yX2_putCell cX2_putCell 6 none :: wsL_law) := fun w h => List.mem_cons_of_mem _ (inlX2 w h)
  have k_0 := hts (.fieldLink RX2 18 "RingMarks$Ring" "sizes" "[I") (List.mem_cons_of_mem _ wm_63)
  have k_1 := hts (.fieldLink RX2 15 "RingMarks$Ring" "cells" "[I") (List.mem_cons_of_mem _ wm_62)
  subst hsz
  have hD := hD0.self (sz := s.heap.size)
  generalize hAe : va_A [(h, .inr (2, [.ref a0, .ref a1, .ref a2, .ref a3, .ref a4, .ref a5, .ref a6])), (a1, .inl (cI, 120, .inl fc)), (a2, .inl (cI, 5, .inl (gl [4, 0, 0, 0, 0])))] s.heap.size = A at hD ⊢
  have hA : ∀ q : Nat, s.heap.size ≤ q → A q := fun q h => by rw [← hAe]; exact Or.inr h
  have hP : va_P (dC, dI) vwCl [(h, .inr (2, [.ref a0, .ref a1, .ref a2, .ref a3, .ref a4, .ref a5, .ref a6])), (a1, .inl (cI, 120, .inl fc)), (a2, .inl (cI, 5, .inl (gl [4, 0, 0, 0, 0])))] s.heap := hP
  have hl := lv_entry ([.ref h, .int 0, .int 0, .int 1, .int p4]) (n := 6) (Nat.le_of_ble_eq_true rfl)
  rw [lg_entry_eq]
  generalize (lg_sl ([.ref h, .int 0, .int 0, .int 1, .int p4]) ++ List.replicate (6 - (lg_sl ([.ref h, .int 0, .int 0, .int 1, .int p4])).length) Slot.unset).toArray = ls at hl ⊢
  have hl : lv_has ls 6 [(0, .ref h), (1, .int 0), (2, .int 0), (3, .int 1), (4, .int p4)] := hl
  obtain ⟨H, hH⟩ : ∃ H, H = s.heap := ⟨_, rfl⟩
  rw [← hH] at hP ⊢
  have hS : va_S A s.heap H [] := by rw [hH]; exact va_S.rf
  refine lv_iload_n hx hb dX2_putCell_0 rfl (lv_at hl 1 rfl) ?_
  refine lv_if_lt (tgt := 32) hx hb dX2_putCell_1 (by decide) (fun c => absurd c (by decide)) (fun _ => ?_)
  refine lv_iload_n hx hb dX2_putCell_4 rfl (lv_at hl 1 rfl) ?_
  refine lv_iconst (v := 5) hx hb dX2_putCell_5 (by decide) ?_
  refine lv_icmp_ge (tgt := 32) hx hb dX2_putCell_6 (by decide) (fun c => absurd c (by decide)) (fun _ => ?_)
  refine lv_iload_n hx hb dX2_putCell_9 rfl (lv_at hl 2 rfl) ?_
  refine lv_if_lt (tgt := 32) hx hb dX2_putCell_10 (by decide) (fun c => absurd c (by decide)) (fun _ => ?_)
  refine lv_iload_n hx hb dX2_putCell_13 rfl (lv_at hl 2 rfl) ?_
  refine lv_bipush (v := 8) hx hb dX2_putCell_14 (by decide) ?_
  refine lv_icmp_ge (tgt := 32) hx hb dX2_putCell_16 (by decide) (fun c => absurd c (by decide)) (fun _ => ?_)
  refine lv_iload_n hx hb dX2_putCell_19 rfl (lv_at hl 3 rfl) ?_
  refine lv_if_lt (tgt := 32) hx hb dX2_putCell_20 (by decide) (fun c => absurd c (by decide)) (fun _ => ?_)
  refine lv_iload_n hx hb dX2_putCell_23 rfl (lv_at hl 3 rfl) ?_
  refine lv_iconst (v := 2) hx hb dX2_putCell_24 (by decide) ?_
  refine lv_icmp_gt (tgt := 32) hx hb dX2_putCell_25 (by decide) (fun c => absurd c (by decide)) (fun _ => ?_)
  refine lv_iconst (v := 1) hx hb dX2_putCell_28 (by decide) ?_
  refine lv_goto (tgt := 33) hx hb dX2_putCell_29 (by decide) ?_
  refine lv_istore (lv' := [(5, .int 1), (0, .ref h), (1, .int 0), (2, .int 0), (3, .int 1), (4, .int p4)]) hx hb dX2_putCell_33 hl (by decide) rfl (fun ls hl => ?_)
  refine lv_iload hx hb dX2_putCell_35 (lv_at hl 0 rfl) ?_
  refine lv_if_eq (tgt := 67) hx hb dX2_putCell_37 (by decide) (fun c => absurd c (by decide)) (fun _ => ?_)
  refine lv_iload_n hx hb dX2_putCell_40 rfl (lv_at hl 3 rfl) ?_
  refine lv_aload_n hx hb dX2_putCell_41 rfl (lv_at hl 1 rfl) ?_
  refine va_get (D := (dC, dI)) (ci := 2) (v := .ref a2) (C := RX2) (T := TX2) (N := 7) hx hb hts hinX2 hown hK hP 0 rfl rfl 2 (by decide) k_0 (fun _ h9 => h9) rfl dX2_putCell_42 ?_
  refine lv_iload_n hx hb dX2_putCell_45 rfl (lv_at hl 2 rfl) ?_
  refine za_iald (v := 4) hx hb hK hP 2 0 rfl rfl (zin tn_0 (Nat.le_of_ble_eq_true rfl)) (zrd _ tn_0 rfl) dX2_putCell_46 ?_
  refine lv_icmp_ge (tgt := 67) hx hb dX2_putCell_47 (by decide) (fun c => absurd c (by decide)) (fun _ => ?_)
  refine lv_aload_n hx hb dX2_putCell_50 rfl (lv_at hl 1 rfl) ?_
  refine va_get (D := (dC, dI)) (ci := 2) (v := .ref a1) (C := RX2) (T := TX2) (N := 7) hx hb hts hinX2 hown hK hP 0 rfl rfl 1 (by decide) k_1 (fun _ h9 => h9) rfl dX2_putCell_51 ?_
  refine lv_iload_n hx hb dX2_putCell_54 rfl (lv_at hl 2 rfl) ?_
  refine lv_bipush (v := 8) hx hb dX2_putCell_55 (by decide) ?_
  refine lv_imul hx hb dX2_putCell_57 ?_
  refine tp (y := 0) (by decide) ?_
  refine lv_iload_n hx hb dX2_putCell_58 rfl (lv_at hl 3 rfl) ?_
  refine lv_iadd hx hb dX2_putCell_59 ?_
  refine tp (y := 0) (by decide) ?_
  refine lv_iconst (v := 3) hx hb dX2_putCell_60 (by decide) ?_
  refine lv_imul hx hb dX2_putCell_61 ?_
  refine tp (y := 0) (by decide) ?_
  refine lv_iload_n hx hb dX2_putCell_62 rfl (lv_at hl 4 rfl) ?_
  refine lv_iadd hx hb dX2_putCell_63 ?_
  refine tp (y := 1) (by decide) ?_
  refine lv_iload hx hb dX2_putCell_64 (lv_at hl 5 rfl) ?_
  refine za_iast (f' := (upd fc 1 p4)) hx hb hK hP hD hS 1 0 rfl rfl (zin tn_1 (Nat.le_of_ble_eq_true rfl)) (congrArg (fun z => upd _ z _) tn_1.1) dX2_putCell_66 (fun H locs hP hD hS => ?_)
  have hP : va_P (dC, dI) vwCl [(h, .inr (2, [.ref a0, .ref a1, .ref a2, .ref a3, .ref a4, .ref a5, .ref a6])), (a1, .inl (cI, 120, .inl (upd fc 1 p4))), (a2, .inl (cI, 5, .inl (gl [4, 0, 0, 0, 0])))] H := hP
  have hD : va_D A [(h, .inr (2, [.ref a0, .ref a1, .ref a2, .ref a3, .ref a4, .ref a5, .ref a6])), (a1, .inl (cI, 120, .inl (upd fc 1 p4))), (a2, .inl (cI, 5, .inl (gl [4, 0, 0, 0, 0])))] := hD
  have hP9 := hP.sub (ws' := [(h, .inr (2, [.ref a0, .ref a1, .ref a2, .ref a3, .ref a4, .ref a5, .ref a6])), (a1, .inl (cI, 120, .inl (upd fc 1 p4))), (a2, .inl (cI, 5, .inl (gl [4, 0, 0, 0, 0])))]) [0, 1, 2] rfl
  have hD9 := hD.sub (ws' := [(h, .inr (2, [.ref a0, .ref a1, .ref a2, .ref a3, .ref a4, .ref a5, .ref a6])), (a1, .inl (cI, 120, .inl (upd fc 1 p4))), (a2, .inl (cI, 5, .inl (gl [4, 0, 0, 0, 0])))]) [0, 1, 2] (by decide) rfl
  exact W.vret hx hb hr (fun t ht hW => ⟨⟨(), rfl, trivial, by rw [ht]; exact hP9, va_K.moved hW.alike hK, hD9⟩, hS.F ht⟩) hS.2.2 dX2_putCell_67

set_option maxHeartbeats 4000000 in
set_option maxRecDepth 100000 in
theorem kkX2_putCell_002 (l : Launch) (dC : Nat → ClassId) (dI : Nat → Nat → Nat) (cI cB cZ cR : ClassId) (sz : Nat) (h : Nat) (a0 : Nat) (a1 : Nat) (a2 : Nat) (a3 : Nat) (a4 : Nat) (a5 : Nat) (a6 : Nat) (fc : Nat → Int32) (p4 : Int32) : Met l yX2_putCell (.code yX2_putCell cX2_putCell 6 none :: wsL_law) ({ frames := 0, cells := 0, slots := 0, locals := 0 }) (zPc dC dI (zT cI cB cZ cR) [.ref h, .int 0, .int 0, .int 2, .int p4] sz [(h, .inr (2, [.ref a0, .ref a1, .ref a2, .ref a3, .ref a4, .ref a5, .ref a6])), (a1, .inl (cI, 120, .inl fc)), (a2, .inl (cI, 5, .inl (gl [4, 0, 0, 0, 0])))]) (va_Qv (fun _ : Unit => True) (fun _ : Unit => zB dC dI (zT cI cB cZ cR) (va_A [(h, .inr (2, [.ref a0, .ref a1, .ref a2, .ref a3, .ref a4, .ref a5, .ref a6])), (a1, .inl (cI, 120, .inl fc)), (a2, .inl (cI, 5, .inl (gl [4, 0, 0, 0, 0])))] sz) [(h, .inr (2, [.ref a0, .ref a1, .ref a2, .ref a3, .ref a4, .ref a5, .ref a6])), (a1, .inl (cI, 120, .inl (upd fc 2 p4))), (a2, .inl (cI, 5, .inl (gl [4, 0, 0, 0, 0])))]) (va_A [(h, .inr (2, [.ref a0, .ref a1, .ref a2, .ref a3, .ref a4, .ref a5, .ref a6])), (a1, .inl (cI, 120, .inl fc)), (a2, .inl (cI, 5, .inl (gl [4, 0, 0, 0, 0])))] sz)) 0 0 (va_A [(h, .inr (2, [.ref a0, .ref a1, .ref a2, .ref a3, .ref a4, .ref a5, .ref a6])), (a1, .inl (cI, 120, .inl fc)), (a2, .inl (cI, 5, .inl (gl [4, 0, 0, 0, 0])))] sz) := by
  refine Met.ofW (cc := cX2_putCell) (maxL := 6) (ret := none) (by decide) rfl ?_
  intro p e s m args below meth c s₁ B hml hv
  obtain ⟨rfl, hsz, hP, hK, hD0, hN⟩ := hv
  have hx := B.exec
  have hb := B.bytes
  have hr := B.returns
  have hts := atoms_spec (ws := (.code yX2_putCell cX2_putCell 6 none :: wsL_law)) B.pre
  have hown : s.vm.findClass RX2 = some m.cls := findClass_of_methodNamed B.named
  have hlocks := B.notSynchronized
  have hinX2 : ∀ w ∈ u_ws RX2 TX2 7, w ∈ (.code yX2_putCell cX2_putCell 6 none :: wsL_law) := fun w h => List.mem_cons_of_mem _ (inlX2 w h)
  have k_0 := hts (.fieldLink RX2 18 "RingMarks$Ring" "sizes" "[I") (List.mem_cons_of_mem _ wm_63)
  have k_1 := hts (.fieldLink RX2 15 "RingMarks$Ring" "cells" "[I") (List.mem_cons_of_mem _ wm_62)
  subst hsz
  have hD := hD0.self (sz := s.heap.size)
  generalize hAe : va_A [(h, .inr (2, [.ref a0, .ref a1, .ref a2, .ref a3, .ref a4, .ref a5, .ref a6])), (a1, .inl (cI, 120, .inl fc)), (a2, .inl (cI, 5, .inl (gl [4, 0, 0, 0, 0])))] s.heap.size = A at hD ⊢
  have hA : ∀ q : Nat, s.heap.size ≤ q → A q := fun q h => by rw [← hAe]; exact Or.inr h
  have hP : va_P (dC, dI) vwCl [(h, .inr (2, [.ref a0, .ref a1, .ref a2, .ref a3, .ref a4, .ref a5, .ref a6])), (a1, .inl (cI, 120, .inl fc)), (a2, .inl (cI, 5, .inl (gl [4, 0, 0, 0, 0])))] s.heap := hP
  have hl := lv_entry ([.ref h, .int 0, .int 0, .int 2, .int p4]) (n := 6) (Nat.le_of_ble_eq_true rfl)
  rw [lg_entry_eq]
  generalize (lg_sl ([.ref h, .int 0, .int 0, .int 2, .int p4]) ++ List.replicate (6 - (lg_sl ([.ref h, .int 0, .int 0, .int 2, .int p4])).length) Slot.unset).toArray = ls at hl ⊢
  have hl : lv_has ls 6 [(0, .ref h), (1, .int 0), (2, .int 0), (3, .int 2), (4, .int p4)] := hl
  obtain ⟨H, hH⟩ : ∃ H, H = s.heap := ⟨_, rfl⟩
  rw [← hH] at hP ⊢
  have hS : va_S A s.heap H [] := by rw [hH]; exact va_S.rf
  refine lv_iload_n hx hb dX2_putCell_0 rfl (lv_at hl 1 rfl) ?_
  refine lv_if_lt (tgt := 32) hx hb dX2_putCell_1 (by decide) (fun c => absurd c (by decide)) (fun _ => ?_)
  refine lv_iload_n hx hb dX2_putCell_4 rfl (lv_at hl 1 rfl) ?_
  refine lv_iconst (v := 5) hx hb dX2_putCell_5 (by decide) ?_
  refine lv_icmp_ge (tgt := 32) hx hb dX2_putCell_6 (by decide) (fun c => absurd c (by decide)) (fun _ => ?_)
  refine lv_iload_n hx hb dX2_putCell_9 rfl (lv_at hl 2 rfl) ?_
  refine lv_if_lt (tgt := 32) hx hb dX2_putCell_10 (by decide) (fun c => absurd c (by decide)) (fun _ => ?_)
  refine lv_iload_n hx hb dX2_putCell_13 rfl (lv_at hl 2 rfl) ?_
  refine lv_bipush (v := 8) hx hb dX2_putCell_14 (by decide) ?_
  refine lv_icmp_ge (tgt := 32) hx hb dX2_putCell_16 (by decide) (fun c => absurd c (by decide)) (fun _ => ?_)
  refine lv_iload_n hx hb dX2_putCell_19 rfl (lv_at hl 3 rfl) ?_
  refine lv_if_lt (tgt := 32) hx hb dX2_putCell_20 (by decide) (fun c => absurd c (by decide)) (fun _ => ?_)
  refine lv_iload_n hx hb dX2_putCell_23 rfl (lv_at hl 3 rfl) ?_
  refine lv_iconst (v := 2) hx hb dX2_putCell_24 (by decide) ?_
  refine lv_icmp_gt (tgt := 32) hx hb dX2_putCell_25 (by decide) (fun c => absurd c (by decide)) (fun _ => ?_)
  refine lv_iconst (v := 1) hx hb dX2_putCell_28 (by decide) ?_
  refine lv_goto (tgt := 33) hx hb dX2_putCell_29 (by decide) ?_
  refine lv_istore (lv' := [(5, .int 1), (0, .ref h), (1, .int 0), (2, .int 0), (3, .int 2), (4, .int p4)]) hx hb dX2_putCell_33 hl (by decide) rfl (fun ls hl => ?_)
  refine lv_iload hx hb dX2_putCell_35 (lv_at hl 0 rfl) ?_
  refine lv_if_eq (tgt := 67) hx hb dX2_putCell_37 (by decide) (fun c => absurd c (by decide)) (fun _ => ?_)
  refine lv_iload_n hx hb dX2_putCell_40 rfl (lv_at hl 3 rfl) ?_
  refine lv_aload_n hx hb dX2_putCell_41 rfl (lv_at hl 1 rfl) ?_
  refine va_get (D := (dC, dI)) (ci := 2) (v := .ref a2) (C := RX2) (T := TX2) (N := 7) hx hb hts hinX2 hown hK hP 0 rfl rfl 2 (by decide) k_0 (fun _ h9 => h9) rfl dX2_putCell_42 ?_
  refine lv_iload_n hx hb dX2_putCell_45 rfl (lv_at hl 2 rfl) ?_
  refine za_iald (v := 4) hx hb hK hP 2 0 rfl rfl (zin tn_0 (Nat.le_of_ble_eq_true rfl)) (zrd _ tn_0 rfl) dX2_putCell_46 ?_
  refine lv_icmp_ge (tgt := 67) hx hb dX2_putCell_47 (by decide) (fun c => absurd c (by decide)) (fun _ => ?_)
  refine lv_aload_n hx hb dX2_putCell_50 rfl (lv_at hl 1 rfl) ?_
  refine va_get (D := (dC, dI)) (ci := 2) (v := .ref a1) (C := RX2) (T := TX2) (N := 7) hx hb hts hinX2 hown hK hP 0 rfl rfl 1 (by decide) k_1 (fun _ h9 => h9) rfl dX2_putCell_51 ?_
  refine lv_iload_n hx hb dX2_putCell_54 rfl (lv_at hl 2 rfl) ?_
  refine lv_bipush (v := 8) hx hb dX2_putCell_55 (by decide) ?_
  refine lv_imul hx hb dX2_putCell_57 ?_
  refine tp (y := 0) (by decide) ?_
  refine lv_iload_n hx hb dX2_putCell_58 rfl (lv_at hl 3 rfl) ?_
  refine lv_iadd hx hb dX2_putCell_59 ?_
  refine tp (y := 0) (by decide) ?_
  refine lv_iconst (v := 3) hx hb dX2_putCell_60 (by decide) ?_
  refine lv_imul hx hb dX2_putCell_61 ?_
  refine tp (y := 0) (by decide) ?_
  refine lv_iload_n hx hb dX2_putCell_62 rfl (lv_at hl 4 rfl) ?_
  refine lv_iadd hx hb dX2_putCell_63 ?_
  refine tp (y := 2) (by decide) ?_
  refine lv_iload hx hb dX2_putCell_64 (lv_at hl 5 rfl) ?_
  refine za_iast (f' := (upd fc 2 p4)) hx hb hK hP hD hS 1 0 rfl rfl (zin tn_2 (Nat.le_of_ble_eq_true rfl)) (congrArg (fun z => upd _ z _) tn_2.1) dX2_putCell_66 (fun H locs hP hD hS => ?_)
  have hP : va_P (dC, dI) vwCl [(h, .inr (2, [.ref a0, .ref a1, .ref a2, .ref a3, .ref a4, .ref a5, .ref a6])), (a1, .inl (cI, 120, .inl (upd fc 2 p4))), (a2, .inl (cI, 5, .inl (gl [4, 0, 0, 0, 0])))] H := hP
  have hD : va_D A [(h, .inr (2, [.ref a0, .ref a1, .ref a2, .ref a3, .ref a4, .ref a5, .ref a6])), (a1, .inl (cI, 120, .inl (upd fc 2 p4))), (a2, .inl (cI, 5, .inl (gl [4, 0, 0, 0, 0])))] := hD
  have hP9 := hP.sub (ws' := [(h, .inr (2, [.ref a0, .ref a1, .ref a2, .ref a3, .ref a4, .ref a5, .ref a6])), (a1, .inl (cI, 120, .inl (upd fc 2 p4))), (a2, .inl (cI, 5, .inl (gl [4, 0, 0, 0, 0])))]) [0, 1, 2] rfl
  have hD9 := hD.sub (ws' := [(h, .inr (2, [.ref a0, .ref a1, .ref a2, .ref a3, .ref a4, .ref a5, .ref a6])), (a1, .inl (cI, 120, .inl (upd fc 2 p4))), (a2, .inl (cI, 5, .inl (gl [4, 0, 0, 0, 0])))]) [0, 1, 2] (by decide) rfl
  exact W.vret hx hb hr (fun t ht hW => ⟨⟨(), rfl, trivial, by rw [ht]; exact hP9, va_K.moved hW.alike hK, hD9⟩, hS.F ht⟩) hS.2.2 dX2_putCell_67

set_option maxHeartbeats 4000000 in
set_option maxRecDepth 100000 in
theorem kkX2_putCell_010 (l : Launch) (dC : Nat → ClassId) (dI : Nat → Nat → Nat) (cI cB cZ cR : ClassId) (sz : Nat) (h : Nat) (a0 : Nat) (a1 : Nat) (a2 : Nat) (a3 : Nat) (a4 : Nat) (a5 : Nat) (a6 : Nat) (fc : Nat → Int32) (p4 : Int32) : Met l yX2_putCell (.code yX2_putCell cX2_putCell 6 none :: wsL_law) ({ frames := 0, cells := 0, slots := 0, locals := 0 }) (zPc dC dI (zT cI cB cZ cR) [.ref h, .int 0, .int 1, .int 0, .int p4] sz [(h, .inr (2, [.ref a0, .ref a1, .ref a2, .ref a3, .ref a4, .ref a5, .ref a6])), (a1, .inl (cI, 120, .inl fc)), (a2, .inl (cI, 5, .inl (gl [4, 0, 0, 0, 0])))]) (va_Qv (fun _ : Unit => True) (fun _ : Unit => zB dC dI (zT cI cB cZ cR) (va_A [(h, .inr (2, [.ref a0, .ref a1, .ref a2, .ref a3, .ref a4, .ref a5, .ref a6])), (a1, .inl (cI, 120, .inl fc)), (a2, .inl (cI, 5, .inl (gl [4, 0, 0, 0, 0])))] sz) [(h, .inr (2, [.ref a0, .ref a1, .ref a2, .ref a3, .ref a4, .ref a5, .ref a6])), (a1, .inl (cI, 120, .inl (upd fc 3 p4))), (a2, .inl (cI, 5, .inl (gl [4, 0, 0, 0, 0])))]) (va_A [(h, .inr (2, [.ref a0, .ref a1, .ref a2, .ref a3, .ref a4, .ref a5, .ref a6])), (a1, .inl (cI, 120, .inl fc)), (a2, .inl (cI, 5, .inl (gl [4, 0, 0, 0, 0])))] sz)) 0 0 (va_A [(h, .inr (2, [.ref a0, .ref a1, .ref a2, .ref a3, .ref a4, .ref a5, .ref a6])), (a1, .inl (cI, 120, .inl fc)), (a2, .inl (cI, 5, .inl (gl [4, 0, 0, 0, 0])))] sz) := by
  refine Met.ofW (cc := cX2_putCell) (maxL := 6) (ret := none) (by decide) rfl ?_
  intro p e s m args below meth c s₁ B hml hv
  obtain ⟨rfl, hsz, hP, hK, hD0, hN⟩ := hv
  have hx := B.exec
  have hb := B.bytes
  have hr := B.returns
  have hts := atoms_spec (ws := (.code yX2_putCell cX2_putCell 6 none :: wsL_law)) B.pre
  have hown : s.vm.findClass RX2 = some m.cls := findClass_of_methodNamed B.named
  have hlocks := B.notSynchronized
  have hinX2 : ∀ w ∈ u_ws RX2 TX2 7, w ∈ (.code yX2_putCell cX2_putCell 6 none :: wsL_law) := fun w h => List.mem_cons_of_mem _ (inlX2 w h)
  have k_0 := hts (.fieldLink RX2 18 "RingMarks$Ring" "sizes" "[I") (List.mem_cons_of_mem _ wm_63)
  have k_1 := hts (.fieldLink RX2 15 "RingMarks$Ring" "cells" "[I") (List.mem_cons_of_mem _ wm_62)
  subst hsz
  have hD := hD0.self (sz := s.heap.size)
  generalize hAe : va_A [(h, .inr (2, [.ref a0, .ref a1, .ref a2, .ref a3, .ref a4, .ref a5, .ref a6])), (a1, .inl (cI, 120, .inl fc)), (a2, .inl (cI, 5, .inl (gl [4, 0, 0, 0, 0])))] s.heap.size = A at hD ⊢
  have hA : ∀ q : Nat, s.heap.size ≤ q → A q := fun q h => by rw [← hAe]; exact Or.inr h
  have hP : va_P (dC, dI) vwCl [(h, .inr (2, [.ref a0, .ref a1, .ref a2, .ref a3, .ref a4, .ref a5, .ref a6])), (a1, .inl (cI, 120, .inl fc)), (a2, .inl (cI, 5, .inl (gl [4, 0, 0, 0, 0])))] s.heap := hP
  have hl := lv_entry ([.ref h, .int 0, .int 1, .int 0, .int p4]) (n := 6) (Nat.le_of_ble_eq_true rfl)
  rw [lg_entry_eq]
  generalize (lg_sl ([.ref h, .int 0, .int 1, .int 0, .int p4]) ++ List.replicate (6 - (lg_sl ([.ref h, .int 0, .int 1, .int 0, .int p4])).length) Slot.unset).toArray = ls at hl ⊢
  have hl : lv_has ls 6 [(0, .ref h), (1, .int 0), (2, .int 1), (3, .int 0), (4, .int p4)] := hl
  obtain ⟨H, hH⟩ : ∃ H, H = s.heap := ⟨_, rfl⟩
  rw [← hH] at hP ⊢
  have hS : va_S A s.heap H [] := by rw [hH]; exact va_S.rf
  refine lv_iload_n hx hb dX2_putCell_0 rfl (lv_at hl 1 rfl) ?_
  refine lv_if_lt (tgt := 32) hx hb dX2_putCell_1 (by decide) (fun c => absurd c (by decide)) (fun _ => ?_)
  refine lv_iload_n hx hb dX2_putCell_4 rfl (lv_at hl 1 rfl) ?_
  refine lv_iconst (v := 5) hx hb dX2_putCell_5 (by decide) ?_
  refine lv_icmp_ge (tgt := 32) hx hb dX2_putCell_6 (by decide) (fun c => absurd c (by decide)) (fun _ => ?_)
  refine lv_iload_n hx hb dX2_putCell_9 rfl (lv_at hl 2 rfl) ?_
  refine lv_if_lt (tgt := 32) hx hb dX2_putCell_10 (by decide) (fun c => absurd c (by decide)) (fun _ => ?_)
  refine lv_iload_n hx hb dX2_putCell_13 rfl (lv_at hl 2 rfl) ?_
  refine lv_bipush (v := 8) hx hb dX2_putCell_14 (by decide) ?_
  refine lv_icmp_ge (tgt := 32) hx hb dX2_putCell_16 (by decide) (fun c => absurd c (by decide)) (fun _ => ?_)
  refine lv_iload_n hx hb dX2_putCell_19 rfl (lv_at hl 3 rfl) ?_
  refine lv_if_lt (tgt := 32) hx hb dX2_putCell_20 (by decide) (fun c => absurd c (by decide)) (fun _ => ?_)
  refine lv_iload_n hx hb dX2_putCell_23 rfl (lv_at hl 3 rfl) ?_
  refine lv_iconst (v := 2) hx hb dX2_putCell_24 (by decide) ?_
  refine lv_icmp_gt (tgt := 32) hx hb dX2_putCell_25 (by decide) (fun c => absurd c (by decide)) (fun _ => ?_)
  refine lv_iconst (v := 1) hx hb dX2_putCell_28 (by decide) ?_
  refine lv_goto (tgt := 33) hx hb dX2_putCell_29 (by decide) ?_
  refine lv_istore (lv' := [(5, .int 1), (0, .ref h), (1, .int 0), (2, .int 1), (3, .int 0), (4, .int p4)]) hx hb dX2_putCell_33 hl (by decide) rfl (fun ls hl => ?_)
  refine lv_iload hx hb dX2_putCell_35 (lv_at hl 0 rfl) ?_
  refine lv_if_eq (tgt := 67) hx hb dX2_putCell_37 (by decide) (fun c => absurd c (by decide)) (fun _ => ?_)
  refine lv_iload_n hx hb dX2_putCell_40 rfl (lv_at hl 3 rfl) ?_
  refine lv_aload_n hx hb dX2_putCell_41 rfl (lv_at hl 1 rfl) ?_
  refine va_get (D := (dC, dI)) (ci := 2) (v := .ref a2) (C := RX2) (T := TX2) (N := 7) hx hb hts hinX2 hown hK hP 0 rfl rfl 2 (by decide) k_0 (fun _ h9 => h9) rfl dX2_putCell_42 ?_
  refine lv_iload_n hx hb dX2_putCell_45 rfl (lv_at hl 2 rfl) ?_
  refine za_iald (v := 4) hx hb hK hP 2 0 rfl rfl (zin tn_0 (Nat.le_of_ble_eq_true rfl)) (zrd _ tn_0 rfl) dX2_putCell_46 ?_
  refine lv_icmp_ge (tgt := 67) hx hb dX2_putCell_47 (by decide) (fun c => absurd c (by decide)) (fun _ => ?_)
  refine lv_aload_n hx hb dX2_putCell_50 rfl (lv_at hl 1 rfl) ?_
  refine va_get (D := (dC, dI)) (ci := 2) (v := .ref a1) (C := RX2) (T := TX2) (N := 7) hx hb hts hinX2 hown hK hP 0 rfl rfl 1 (by decide) k_1 (fun _ h9 => h9) rfl dX2_putCell_51 ?_
  refine lv_iload_n hx hb dX2_putCell_54 rfl (lv_at hl 2 rfl) ?_
  refine lv_bipush (v := 8) hx hb dX2_putCell_55 (by decide) ?_
  refine lv_imul hx hb dX2_putCell_57 ?_
  refine tp (y := 0) (by decide) ?_
  refine lv_iload_n hx hb dX2_putCell_58 rfl (lv_at hl 3 rfl) ?_
  refine lv_iadd hx hb dX2_putCell_59 ?_
  refine tp (y := 1) (by decide) ?_
  refine lv_iconst (v := 3) hx hb dX2_putCell_60 (by decide) ?_
  refine lv_imul hx hb dX2_putCell_61 ?_
  refine tp (y := 3) (by decide) ?_
  refine lv_iload_n hx hb dX2_putCell_62 rfl (lv_at hl 4 rfl) ?_
  refine lv_iadd hx hb dX2_putCell_63 ?_
  refine tp (y := 3) (by decide) ?_
  refine lv_iload hx hb dX2_putCell_64 (lv_at hl 5 rfl) ?_
  refine za_iast (f' := (upd fc 3 p4)) hx hb hK hP hD hS 1 0 rfl rfl (zin tn_3 (Nat.le_of_ble_eq_true rfl)) (congrArg (fun z => upd _ z _) tn_3.1) dX2_putCell_66 (fun H locs hP hD hS => ?_)
  have hP : va_P (dC, dI) vwCl [(h, .inr (2, [.ref a0, .ref a1, .ref a2, .ref a3, .ref a4, .ref a5, .ref a6])), (a1, .inl (cI, 120, .inl (upd fc 3 p4))), (a2, .inl (cI, 5, .inl (gl [4, 0, 0, 0, 0])))] H := hP
  have hD : va_D A [(h, .inr (2, [.ref a0, .ref a1, .ref a2, .ref a3, .ref a4, .ref a5, .ref a6])), (a1, .inl (cI, 120, .inl (upd fc 3 p4))), (a2, .inl (cI, 5, .inl (gl [4, 0, 0, 0, 0])))] := hD
  have hP9 := hP.sub (ws' := [(h, .inr (2, [.ref a0, .ref a1, .ref a2, .ref a3, .ref a4, .ref a5, .ref a6])), (a1, .inl (cI, 120, .inl (upd fc 3 p4))), (a2, .inl (cI, 5, .inl (gl [4, 0, 0, 0, 0])))]) [0, 1, 2] rfl
  have hD9 := hD.sub (ws' := [(h, .inr (2, [.ref a0, .ref a1, .ref a2, .ref a3, .ref a4, .ref a5, .ref a6])), (a1, .inl (cI, 120, .inl (upd fc 3 p4))), (a2, .inl (cI, 5, .inl (gl [4, 0, 0, 0, 0])))]) [0, 1, 2] (by decide) rfl
  exact W.vret hx hb hr (fun t ht hW => ⟨⟨(), rfl, trivial, by rw [ht]; exact hP9, va_K.moved hW.alike hK, hD9⟩, hS.F ht⟩) hS.2.2 dX2_putCell_67

set_option maxHeartbeats 4000000 in
set_option maxRecDepth 100000 in
theorem kkX2_putCell_011 (l : Launch) (dC : Nat → ClassId) (dI : Nat → Nat → Nat) (cI cB cZ cR : ClassId) (sz : Nat) (h : Nat) (a0 : Nat) (a1 : Nat) (a2 : Nat) (a3 : Nat) (a4 : Nat) (a5 : Nat) (a6 : Nat) (fc : Nat → Int32) (p4 : Int32) : Met l yX2_putCell (.code yX2_putCell cX2_putCell 6 none :: wsL_law) ({ frames := 0, cells := 0, slots := 0, locals := 0 }) (zPc dC dI (zT cI cB cZ cR) [.ref h, .int 0, .int 1, .int 1, .int p4] sz [(h, .inr (2, [.ref a0, .ref a1, .ref a2, .ref a3, .ref a4, .ref a5, .ref a6])), (a1, .inl (cI, 120, .inl fc)), (a2, .inl (cI, 5, .inl (gl [4, 0, 0, 0, 0])))]) (va_Qv (fun _ : Unit => True) (fun _ : Unit => zB dC dI (zT cI cB cZ cR) (va_A [(h, .inr (2, [.ref a0, .ref a1, .ref a2, .ref a3, .ref a4, .ref a5, .ref a6])), (a1, .inl (cI, 120, .inl fc)), (a2, .inl (cI, 5, .inl (gl [4, 0, 0, 0, 0])))] sz) [(h, .inr (2, [.ref a0, .ref a1, .ref a2, .ref a3, .ref a4, .ref a5, .ref a6])), (a1, .inl (cI, 120, .inl (upd fc 4 p4))), (a2, .inl (cI, 5, .inl (gl [4, 0, 0, 0, 0])))]) (va_A [(h, .inr (2, [.ref a0, .ref a1, .ref a2, .ref a3, .ref a4, .ref a5, .ref a6])), (a1, .inl (cI, 120, .inl fc)), (a2, .inl (cI, 5, .inl (gl [4, 0, 0, 0, 0])))] sz)) 0 0 (va_A [(h, .inr (2, [.ref a0, .ref a1, .ref a2, .ref a3, .ref a4, .ref a5, .ref a6])), (a1, .inl (cI, 120, .inl fc)), (a2, .inl (cI, 5, .inl (gl [4, 0, 0, 0, 0])))] sz) := by
  refine Met.ofW (cc := cX2_putCell) (maxL := 6) (ret := none) (by decide) rfl ?_
  intro p e s m args below meth c s₁ B hml hv
  obtain ⟨rfl, hsz, hP, hK, hD0, hN⟩ := hv
  have hx := B.exec
  have hb := B.bytes
  have hr := B.returns
  have hts := atoms_spec (ws := (.code yX2_putCell cX2_putCell 6 none :: wsL_law)) B.pre
  have hown : s.vm.findClass RX2 = some m.cls := findClass_of_methodNamed B.named
  have hlocks := B.notSynchronized
  have hinX2 : ∀ w ∈ u_ws RX2 TX2 7, w ∈ (.code yX2_putCell cX2_putCell 6 none :: wsL_law) := fun w h => List.mem_cons_of_mem _ (inlX2 w h)
  have k_0 := hts (.fieldLink RX2 18 "RingMarks$Ring" "sizes" "[I") (List.mem_cons_of_mem _ wm_63)
  have k_1 := hts (.fieldLink RX2 15 "RingMarks$Ring" "cells" "[I") (List.mem_cons_of_mem _ wm_62)
  subst hsz
  have hD := hD0.self (sz := s.heap.size)
  generalize hAe : va_A [(h, .inr (2, [.ref a0, .ref a1, .ref a2, .ref a3, .ref a4, .ref a5, .ref a6])), (a1, .inl (cI, 120, .inl fc)), (a2, .inl (cI, 5, .inl (gl [4, 0, 0, 0, 0])))] s.heap.size = A at hD ⊢
  have hA : ∀ q : Nat, s.heap.size ≤ q → A q := fun q h => by rw [← hAe]; exact Or.inr h
  have hP : va_P (dC, dI) vwCl [(h, .inr (2, [.ref a0, .ref a1, .ref a2, .ref a3, .ref a4, .ref a5, .ref a6])), (a1, .inl (cI, 120, .inl fc)), (a2, .inl (cI, 5, .inl (gl [4, 0, 0, 0, 0])))] s.heap := hP
  have hl := lv_entry ([.ref h, .int 0, .int 1, .int 1, .int p4]) (n := 6) (Nat.le_of_ble_eq_true rfl)
  rw [lg_entry_eq]
  generalize (lg_sl ([.ref h, .int 0, .int 1, .int 1, .int p4]) ++ List.replicate (6 - (lg_sl ([.ref h, .int 0, .int 1, .int 1, .int p4])).length) Slot.unset).toArray = ls at hl ⊢
  have hl : lv_has ls 6 [(0, .ref h), (1, .int 0), (2, .int 1), (3, .int 1), (4, .int p4)] := hl
  obtain ⟨H, hH⟩ : ∃ H, H = s.heap := ⟨_, rfl⟩
  rw [← hH] at hP ⊢
  have hS : va_S A s.heap H [] := by rw [hH]; exact va_S.rf
  refine lv_iload_n hx hb dX2_putCell_0 rfl (lv_at hl 1 rfl) ?_
  refine lv_if_lt (tgt := 32) hx hb dX2_putCell_1 (by decide) (fun c => absurd c (by decide)) (fun _ => ?_)
  refine lv_iload_n hx hb dX2_putCell_4 rfl (lv_at hl 1 rfl) ?_
  refine lv_iconst (v := 5) hx hb dX2_putCell_5 (by decide) ?_
  refine lv_icmp_ge (tgt := 32) hx hb dX2_putCell_6 (by decide) (fun c => absurd c (by decide)) (fun _ => ?_)
  refine lv_iload_n hx hb dX2_putCell_9 rfl (lv_at hl 2 rfl) ?_
  refine lv_if_lt (tgt := 32) hx hb dX2_putCell_10 (by decide) (fun c => absurd c (by decide)) (fun _ => ?_)
  refine lv_iload_n hx hb dX2_putCell_13 rfl (lv_at hl 2 rfl) ?_
  refine lv_bipush (v := 8) hx hb dX2_putCell_14 (by decide) ?_
  refine lv_icmp_ge (tgt := 32) hx hb dX2_putCell_16 (by decide) (fun c => absurd c (by decide)) (fun _ => ?_)
  refine lv_iload_n hx hb dX2_putCell_19 rfl (lv_at hl 3 rfl) ?_
  refine lv_if_lt (tgt := 32) hx hb dX2_putCell_20 (by decide) (fun c => absurd c (by decide)) (fun _ => ?_)
  refine lv_iload_n hx hb dX2_putCell_23 rfl (lv_at hl 3 rfl) ?_
  refine lv_iconst (v := 2) hx hb dX2_putCell_24 (by decide) ?_
  refine lv_icmp_gt (tgt := 32) hx hb dX2_putCell_25 (by decide) (fun c => absurd c (by decide)) (fun _ => ?_)
  refine lv_iconst (v := 1) hx hb dX2_putCell_28 (by decide) ?_
  refine lv_goto (tgt := 33) hx hb dX2_putCell_29 (by decide) ?_
  refine lv_istore (lv' := [(5, .int 1), (0, .ref h), (1, .int 0), (2, .int 1), (3, .int 1), (4, .int p4)]) hx hb dX2_putCell_33 hl (by decide) rfl (fun ls hl => ?_)
  refine lv_iload hx hb dX2_putCell_35 (lv_at hl 0 rfl) ?_
  refine lv_if_eq (tgt := 67) hx hb dX2_putCell_37 (by decide) (fun c => absurd c (by decide)) (fun _ => ?_)
  refine lv_iload_n hx hb dX2_putCell_40 rfl (lv_at hl 3 rfl) ?_
  refine lv_aload_n hx hb dX2_putCell_41 rfl (lv_at hl 1 rfl) ?_
  refine va_get (D := (dC, dI)) (ci := 2) (v := .ref a2) (C := RX2) (T := TX2) (N := 7) hx hb hts hinX2 hown hK hP 0 rfl rfl 2 (by decide) k_0 (fun _ h9 => h9) rfl dX2_putCell_42 ?_
  refine lv_iload_n hx hb dX2_putCell_45 rfl (lv_at hl 2 rfl) ?_
  refine za_iald (v := 4) hx hb hK hP 2 0 rfl rfl (zin tn_0 (Nat.le_of_ble_eq_true rfl)) (zrd _ tn_0 rfl) dX2_putCell_46 ?_
  refine lv_icmp_ge (tgt := 67) hx hb dX2_putCell_47 (by decide) (fun c => absurd c (by decide)) (fun _ => ?_)
  refine lv_aload_n hx hb dX2_putCell_50 rfl (lv_at hl 1 rfl) ?_
  refine va_get (D := (dC, dI)) (ci := 2) (v := .ref a1) (C := RX2) (T := TX2) (N := 7) hx hb hts hinX2 hown hK hP 0 rfl rfl 1 (by decide) k_1 (fun _ h9 => h9) rfl dX2_putCell_51 ?_
  refine lv_iload_n hx hb dX2_putCell_54 rfl (lv_at hl 2 rfl) ?_
  refine lv_bipush (v := 8) hx hb dX2_putCell_55 (by decide) ?_
  refine lv_imul hx hb dX2_putCell_57 ?_
  refine tp (y := 0) (by decide) ?_
  refine lv_iload_n hx hb dX2_putCell_58 rfl (lv_at hl 3 rfl) ?_
  refine lv_iadd hx hb dX2_putCell_59 ?_
  refine tp (y := 1) (by decide) ?_
  refine lv_iconst (v := 3) hx hb dX2_putCell_60 (by decide) ?_
  refine lv_imul hx hb dX2_putCell_61 ?_
  refine tp (y := 3) (by decide) ?_
  refine lv_iload_n hx hb dX2_putCell_62 rfl (lv_at hl 4 rfl) ?_
  refine lv_iadd hx hb dX2_putCell_63 ?_
  refine tp (y := 4) (by decide) ?_
  refine lv_iload hx hb dX2_putCell_64 (lv_at hl 5 rfl) ?_
  refine za_iast (f' := (upd fc 4 p4)) hx hb hK hP hD hS 1 0 rfl rfl (zin tn_4 (Nat.le_of_ble_eq_true rfl)) (congrArg (fun z => upd _ z _) tn_4.1) dX2_putCell_66 (fun H locs hP hD hS => ?_)
  have hP : va_P (dC, dI) vwCl [(h, .inr (2, [.ref a0, .ref a1, .ref a2, .ref a3, .ref a4, .ref a5, .ref a6])), (a1, .inl (cI, 120, .inl (upd fc 4 p4))), (a2, .inl (cI, 5, .inl (gl [4, 0, 0, 0, 0])))] H := hP
  have hD : va_D A [(h, .inr (2, [.ref a0, .ref a1, .ref a2, .ref a3, .ref a4, .ref a5, .ref a6])), (a1, .inl (cI, 120, .inl (upd fc 4 p4))), (a2, .inl (cI, 5, .inl (gl [4, 0, 0, 0, 0])))] := hD
  have hP9 := hP.sub (ws' := [(h, .inr (2, [.ref a0, .ref a1, .ref a2, .ref a3, .ref a4, .ref a5, .ref a6])), (a1, .inl (cI, 120, .inl (upd fc 4 p4))), (a2, .inl (cI, 5, .inl (gl [4, 0, 0, 0, 0])))]) [0, 1, 2] rfl
  have hD9 := hD.sub (ws' := [(h, .inr (2, [.ref a0, .ref a1, .ref a2, .ref a3, .ref a4, .ref a5, .ref a6])), (a1, .inl (cI, 120, .inl (upd fc 4 p4))), (a2, .inl (cI, 5, .inl (gl [4, 0, 0, 0, 0])))]) [0, 1, 2] (by decide) rfl
  exact W.vret hx hb hr (fun t ht hW => ⟨⟨(), rfl, trivial, by rw [ht]; exact hP9, va_K.moved hW.alike hK, hD9⟩, hS.F ht⟩) hS.2.2 dX2_putCell_67

set_option maxHeartbeats 4000000 in
set_option maxRecDepth 100000 in
theorem kkX2_putCell_012 (l : Launch) (dC : Nat → ClassId) (dI : Nat → Nat → Nat) (cI cB cZ cR : ClassId) (sz : Nat) (h : Nat) (a0 : Nat) (a1 : Nat) (a2 : Nat) (a3 : Nat) (a4 : Nat) (a5 : Nat) (a6 : Nat) (fc : Nat → Int32) (p4 : Int32) : Met l yX2_putCell (.code yX2_putCell cX2_putCell 6 none :: wsL_law) ({ frames := 0, cells := 0, slots := 0, locals := 0 }) (zPc dC dI (zT cI cB cZ cR) [.ref h, .int 0, .int 1, .int 2, .int p4] sz [(h, .inr (2, [.ref a0, .ref a1, .ref a2, .ref a3, .ref a4, .ref a5, .ref a6])), (a1, .inl (cI, 120, .inl fc)), (a2, .inl (cI, 5, .inl (gl [4, 0, 0, 0, 0])))]) (va_Qv (fun _ : Unit => True) (fun _ : Unit => zB dC dI (zT cI cB cZ cR) (va_A [(h, .inr (2, [.ref a0, .ref a1, .ref a2, .ref a3, .ref a4, .ref a5, .ref a6])), (a1, .inl (cI, 120, .inl fc)), (a2, .inl (cI, 5, .inl (gl [4, 0, 0, 0, 0])))] sz) [(h, .inr (2, [.ref a0, .ref a1, .ref a2, .ref a3, .ref a4, .ref a5, .ref a6])), (a1, .inl (cI, 120, .inl (upd fc 5 p4))), (a2, .inl (cI, 5, .inl (gl [4, 0, 0, 0, 0])))]) (va_A [(h, .inr (2, [.ref a0, .ref a1, .ref a2, .ref a3, .ref a4, .ref a5, .ref a6])), (a1, .inl (cI, 120, .inl fc)), (a2, .inl (cI, 5, .inl (gl [4, 0, 0, 0, 0])))] sz)) 0 0 (va_A [(h, .inr (2, [.ref a0, .ref a1, .ref a2, .ref a3, .ref a4, .ref a5, .ref a6])), (a1, .inl (cI, 120, .inl fc)), (a2, .inl (cI, 5, .inl (gl [4, 0, 0, 0, 0])))] sz) := by
  refine Met.ofW (cc := cX2_putCell) (maxL := 6) (ret := none) (by decide) rfl ?_
  intro p e s m args below meth c s₁ B hml hv
  obtain ⟨rfl, hsz, hP, hK, hD0, hN⟩ := hv
  have hx := B.exec
  have hb := B.bytes
  have hr := B.returns
  have hts := atoms_spec (ws := (.code yX2_putCell cX2_putCell 6 none :: wsL_law)) B.pre
  have hown : s.vm.findClass RX2 = some m.cls := findClass_of_methodNamed B.named
  have hlocks := B.notSynchronized
  have hinX2 : ∀ w ∈ u_ws RX2 TX2 7, w ∈ (.code yX2_putCell cX2_putCell 6 none :: wsL_law) := fun w h => List.mem_cons_of_mem _ (inlX2 w h)
  have k_0 := hts (.fieldLink RX2 18 "RingMarks$Ring" "sizes" "[I") (List.mem_cons_of_mem _ wm_63)
  have k_1 := hts (.fieldLink RX2 15 "RingMarks$Ring" "cells" "[I") (List.mem_cons_of_mem _ wm_62)
  subst hsz
  have hD := hD0.self (sz := s.heap.size)
  generalize hAe : va_A [(h, .inr (2, [.ref a0, .ref a1, .ref a2, .ref a3, .ref a4, .ref a5, .ref a6])), (a1, .inl (cI, 120, .inl fc)), (a2, .inl (cI, 5, .inl (gl [4, 0, 0, 0, 0])))] s.heap.size = A at hD ⊢
  have hA : ∀ q : Nat, s.heap.size ≤ q → A q := fun q h => by rw [← hAe]; exact Or.inr h
  have hP : va_P (dC, dI) vwCl [(h, .inr (2, [.ref a0, .ref a1, .ref a2, .ref a3, .ref a4, .ref a5, .ref a6])), (a1, .inl (cI, 120, .inl fc)), (a2, .inl (cI, 5, .inl (gl [4, 0, 0, 0, 0])))] s.heap := hP
  have hl := lv_entry ([.ref h, .int 0, .int 1, .int 2, .int p4]) (n := 6) (Nat.le_of_ble_eq_true rfl)
  rw [lg_entry_eq]
  generalize (lg_sl ([.ref h, .int 0, .int 1, .int 2, .int p4]) ++ List.replicate (6 - (lg_sl ([.ref h, .int 0, .int 1, .int 2, .int p4])).length) Slot.unset).toArray = ls at hl ⊢
  have hl : lv_has ls 6 [(0, .ref h), (1, .int 0), (2, .int 1), (3, .int 2), (4, .int p4)] := hl
  obtain ⟨H, hH⟩ : ∃ H, H = s.heap := ⟨_, rfl⟩
  rw [← hH] at hP ⊢
  have hS : va_S A s.heap H [] := by rw [hH]; exact va_S.rf
  refine lv_iload_n hx hb dX2_putCell_0 rfl (lv_at hl 1 rfl) ?_
  refine lv_if_lt (tgt := 32) hx hb dX2_putCell_1 (by decide) (fun c => absurd c (by decide)) (fun _ => ?_)
  refine lv_iload_n hx hb dX2_putCell_4 rfl (lv_at hl 1 rfl) ?_
  refine lv_iconst (v := 5) hx hb dX2_putCell_5 (by decide) ?_
  refine lv_icmp_ge (tgt := 32) hx hb dX2_putCell_6 (by decide) (fun c => absurd c (by decide)) (fun _ => ?_)
  refine lv_iload_n hx hb dX2_putCell_9 rfl (lv_at hl 2 rfl) ?_
  refine lv_if_lt (tgt := 32) hx hb dX2_putCell_10 (by decide) (fun c => absurd c (by decide)) (fun _ => ?_)
  refine lv_iload_n hx hb dX2_putCell_13 rfl (lv_at hl 2 rfl) ?_
  refine lv_bipush (v := 8) hx hb dX2_putCell_14 (by decide) ?_
  refine lv_icmp_ge (tgt := 32) hx hb dX2_putCell_16 (by decide) (fun c => absurd c (by decide)) (fun _ => ?_)
  refine lv_iload_n hx hb dX2_putCell_19 rfl (lv_at hl 3 rfl) ?_
  refine lv_if_lt (tgt := 32) hx hb dX2_putCell_20 (by decide) (fun c => absurd c (by decide)) (fun _ => ?_)
  refine lv_iload_n hx hb dX2_putCell_23 rfl (lv_at hl 3 rfl) ?_
  refine lv_iconst (v := 2) hx hb dX2_putCell_24 (by decide) ?_
  refine lv_icmp_gt (tgt := 32) hx hb dX2_putCell_25 (by decide) (fun c => absurd c (by decide)) (fun _ => ?_)
  refine lv_iconst (v := 1) hx hb dX2_putCell_28 (by decide) ?_
  refine lv_goto (tgt := 33) hx hb dX2_putCell_29 (by decide) ?_
  refine lv_istore (lv' := [(5, .int 1), (0, .ref h), (1, .int 0), (2, .int 1), (3, .int 2), (4, .int p4)]) hx hb dX2_putCell_33 hl (by decide) rfl (fun ls hl => ?_)
  refine lv_iload hx hb dX2_putCell_35 (lv_at hl 0 rfl) ?_
  refine lv_if_eq (tgt := 67) hx hb dX2_putCell_37 (by decide) (fun c => absurd c (by decide)) (fun _ => ?_)
  refine lv_iload_n hx hb dX2_putCell_40 rfl (lv_at hl 3 rfl) ?_
  refine lv_aload_n hx hb dX2_putCell_41 rfl (lv_at hl 1 rfl) ?_
  refine va_get (D := (dC, dI)) (ci := 2) (v := .ref a2) (C := RX2) (T := TX2) (N := 7) hx hb hts hinX2 hown hK hP 0 rfl rfl 2 (by decide) k_0 (fun _ h9 => h9) rfl dX2_putCell_42 ?_
  refine lv_iload_n hx hb dX2_putCell_45 rfl (lv_at hl 2 rfl) ?_
  refine za_iald (v := 4) hx hb hK hP 2 0 rfl rfl (zin tn_0 (Nat.le_of_ble_eq_true rfl)) (zrd _ tn_0 rfl) dX2_putCell_46 ?_
  refine lv_icmp_ge (tgt := 67) hx hb dX2_putCell_47 (by decide) (fun c => absurd c (by decide)) (fun _ => ?_)
  refine lv_aload_n hx hb dX2_putCell_50 rfl (lv_at hl 1 rfl) ?_
  refine va_get (D := (dC, dI)) (ci := 2) (v := .ref a1) (C := RX2) (T := TX2) (N := 7) hx hb hts hinX2 hown hK hP 0 rfl rfl 1 (by decide) k_1 (fun _ h9 => h9) rfl dX2_putCell_51 ?_
  refine lv_iload_n hx hb dX2_putCell_54 rfl (lv_at hl 2 rfl) ?_
  refine lv_bipush (v := 8) hx hb dX2_putCell_55 (by decide) ?_
  refine lv_imul hx hb dX2_putCell_57 ?_
  refine tp (y := 0) (by decide) ?_
  refine lv_iload_n hx hb dX2_putCell_58 rfl (lv_at hl 3 rfl) ?_
  refine lv_iadd hx hb dX2_putCell_59 ?_
  refine tp (y := 1) (by decide) ?_
  refine lv_iconst (v := 3) hx hb dX2_putCell_60 (by decide) ?_
  refine lv_imul hx hb dX2_putCell_61 ?_
  refine tp (y := 3) (by decide) ?_
  refine lv_iload_n hx hb dX2_putCell_62 rfl (lv_at hl 4 rfl) ?_
  refine lv_iadd hx hb dX2_putCell_63 ?_
  refine tp (y := 5) (by decide) ?_
  refine lv_iload hx hb dX2_putCell_64 (lv_at hl 5 rfl) ?_
  refine za_iast (f' := (upd fc 5 p4)) hx hb hK hP hD hS 1 0 rfl rfl (zin tn_5 (Nat.le_of_ble_eq_true rfl)) (congrArg (fun z => upd _ z _) tn_5.1) dX2_putCell_66 (fun H locs hP hD hS => ?_)
  have hP : va_P (dC, dI) vwCl [(h, .inr (2, [.ref a0, .ref a1, .ref a2, .ref a3, .ref a4, .ref a5, .ref a6])), (a1, .inl (cI, 120, .inl (upd fc 5 p4))), (a2, .inl (cI, 5, .inl (gl [4, 0, 0, 0, 0])))] H := hP
  have hD : va_D A [(h, .inr (2, [.ref a0, .ref a1, .ref a2, .ref a3, .ref a4, .ref a5, .ref a6])), (a1, .inl (cI, 120, .inl (upd fc 5 p4))), (a2, .inl (cI, 5, .inl (gl [4, 0, 0, 0, 0])))] := hD
  have hP9 := hP.sub (ws' := [(h, .inr (2, [.ref a0, .ref a1, .ref a2, .ref a3, .ref a4, .ref a5, .ref a6])), (a1, .inl (cI, 120, .inl (upd fc 5 p4))), (a2, .inl (cI, 5, .inl (gl [4, 0, 0, 0, 0])))]) [0, 1, 2] rfl
  have hD9 := hD.sub (ws' := [(h, .inr (2, [.ref a0, .ref a1, .ref a2, .ref a3, .ref a4, .ref a5, .ref a6])), (a1, .inl (cI, 120, .inl (upd fc 5 p4))), (a2, .inl (cI, 5, .inl (gl [4, 0, 0, 0, 0])))]) [0, 1, 2] (by decide) rfl
  exact W.vret hx hb hr (fun t ht hW => ⟨⟨(), rfl, trivial, by rw [ht]; exact hP9, va_K.moved hW.alike hK, hD9⟩, hS.F ht⟩) hS.2.2 dX2_putCell_67

set_option maxHeartbeats 4000000 in
set_option maxRecDepth 100000 in
theorem kkX2_putCell_020 (l : Launch) (dC : Nat → ClassId) (dI : Nat → Nat → Nat) (cI cB cZ cR : ClassId) (sz : Nat) (h : Nat) (a0 : Nat) (a1 : Nat) (a2 : Nat) (a3 : Nat) (a4 : Nat) (a5 : Nat) (a6 : Nat) (fc : Nat → Int32) (p4 : Int32) : Met l yX2_putCell (.code yX2_putCell cX2_putCell 6 none :: wsL_law) ({ frames := 0, cells := 0, slots := 0, locals := 0 }) (zPc dC dI (zT cI cB cZ cR) [.ref h, .int 0, .int 2, .int 0, .int p4] sz [(h, .inr (2, [.ref a0, .ref a1, .ref a2, .ref a3, .ref a4, .ref a5, .ref a6])), (a1, .inl (cI, 120, .inl fc)), (a2, .inl (cI, 5, .inl (gl [4, 0, 0, 0, 0])))]) (va_Qv (fun _ : Unit => True) (fun _ : Unit => zB dC dI (zT cI cB cZ cR) (va_A [(h, .inr (2, [.ref a0, .ref a1, .ref a2, .ref a3, .ref a4, .ref a5, .ref a6])), (a1, .inl (cI, 120, .inl fc)), (a2, .inl (cI, 5, .inl (gl [4, 0, 0, 0, 0])))] sz) [(h, .inr (2, [.ref a0, .ref a1, .ref a2, .ref a3, .ref a4, .ref a5, .ref a6])), (a1, .inl (cI, 120, .inl (upd fc 6 p4))), (a2, .inl (cI, 5, .inl (gl [4, 0, 0, 0, 0])))]) (va_A [(h, .inr (2, [.ref a0, .ref a1, .ref a2, .ref a3, .ref a4, .ref a5, .ref a6])), (a1, .inl (cI, 120, .inl fc)), (a2, .inl (cI, 5, .inl (gl [4, 0, 0, 0, 0])))] sz)) 0 0 (va_A [(h, .inr (2, [.ref a0, .ref a1, .ref a2, .ref a3, .ref a4, .ref a5, .ref a6])), (a1, .inl (cI, 120, .inl fc)), (a2, .inl (cI, 5, .inl (gl [4, 0, 0, 0, 0])))] sz) := by
  refine Met.ofW (cc := cX2_putCell) (maxL := 6) (ret := none) (by decide) rfl ?_
  intro p e s m args below meth c s₁ B hml hv
  obtain ⟨rfl, hsz, hP, hK, hD0, hN⟩ := hv
  have hx := B.exec
  have hb := B.bytes
  have hr := B.returns
  have hts := atoms_spec (ws := (.code yX2_putCell cX2_putCell 6 none :: wsL_law)) B.pre
  have hown : s.vm.findClass RX2 = some m.cls := findClass_of_methodNamed B.named
  have hlocks := B.notSynchronized
  have hinX2 : ∀ w ∈ u_ws RX2 TX2 7, w ∈ (.code yX2_putCell cX2_putCell 6 none :: wsL_law) := fun w h => List.mem_cons_of_mem _ (inlX2 w h)
  have k_0 := hts (.fieldLink RX2 18 "RingMarks$Ring" "sizes" "[I") (List.mem_cons_of_mem _ wm_63)
  have k_1 := hts (.fieldLink RX2 15 "RingMarks$Ring" "cells" "[I") (List.mem_cons_of_mem _ wm_62)
  subst hsz
  have hD := hD0.self (sz := s.heap.size)
  generalize hAe : va_A [(h, .inr (2, [.ref a0, .ref a1, .ref a2, .ref a3, .ref a4, .ref a5, .ref a6])), (a1, .inl (cI, 120, .inl fc)), (a2, .inl (cI, 5, .inl (gl [4, 0, 0, 0, 0])))] s.heap.size = A at hD ⊢
  have hA : ∀ q : Nat, s.heap.size ≤ q → A q := fun q h => by rw [← hAe]; exact Or.inr h
  have hP : va_P (dC, dI) vwCl [(h, .inr (2, [.ref a0, .ref a1, .ref a2, .ref a3, .ref a4, .ref a5, .ref a6])), (a1, .inl (cI, 120, .inl fc)), (a2, .inl (cI, 5, .inl (gl [4, 0, 0, 0, 0])))] s.heap := hP
  have hl := lv_entry ([.ref h, .int 0, .int 2, .int 0, .int p4]) (n := 6) (Nat.le_of_ble_eq_true rfl)
  rw [lg_entry_eq]
  generalize (lg_sl ([.ref h, .int 0, .int 2, .int 0, .int p4]) ++ List.replicate (6 - (lg_sl ([.ref h, .int 0, .int 2, .int 0, .int p4])).length) Slot.unset).toArray = ls at hl ⊢
  have hl : lv_has ls 6 [(0, .ref h), (1, .int 0), (2, .int 2), (3, .int 0), (4, .int p4)] := hl
  obtain ⟨H, hH⟩ : ∃ H, H = s.heap := ⟨_, rfl⟩
  rw [← hH] at hP ⊢
  have hS : va_S A s.heap H [] := by rw [hH]; exact va_S.rf
  refine lv_iload_n hx hb dX2_putCell_0 rfl (lv_at hl 1 rfl) ?_
  refine lv_if_lt (tgt := 32) hx hb dX2_putCell_1 (by decide) (fun c => absurd c (by decide)) (fun _ => ?_)
  refine lv_iload_n hx hb dX2_putCell_4 rfl (lv_at hl 1 rfl) ?_
  refine lv_iconst (v := 5) hx hb dX2_putCell_5 (by decide) ?_
  refine lv_icmp_ge (tgt := 32) hx hb dX2_putCell_6 (by decide) (fun c => absurd c (by decide)) (fun _ => ?_)
  refine lv_iload_n hx hb dX2_putCell_9 rfl (lv_at hl 2 rfl) ?_
  refine lv_if_lt (tgt := 32) hx hb dX2_putCell_10 (by decide) (fun c => absurd c (by decide)) (fun _ => ?_)
  refine lv_iload_n hx hb dX2_putCell_13 rfl (lv_at hl 2 rfl) ?_
  refine lv_bipush (v := 8) hx hb dX2_putCell_14 (by decide) ?_
  refine lv_icmp_ge (tgt := 32) hx hb dX2_putCell_16 (by decide) (fun c => absurd c (by decide)) (fun _ => ?_)
  refine lv_iload_n hx hb dX2_putCell_19 rfl (lv_at hl 3 rfl) ?_
  refine lv_if_lt (tgt := 32) hx hb dX2_putCell_20 (by decide) (fun c => absurd c (by decide)) (fun _ => ?_)
  refine lv_iload_n hx hb dX2_putCell_23 rfl (lv_at hl 3 rfl) ?_
  refine lv_iconst (v := 2) hx hb dX2_putCell_24 (by decide) ?_
  refine lv_icmp_gt (tgt := 32) hx hb dX2_putCell_25 (by decide) (fun c => absurd c (by decide)) (fun _ => ?_)
  refine lv_iconst (v := 1) hx hb dX2_putCell_28 (by decide) ?_
  refine lv_goto (tgt := 33) hx hb dX2_putCell_29 (by decide) ?_
  refine lv_istore (lv' := [(5, .int 1), (0, .ref h), (1, .int 0), (2, .int 2), (3, .int 0), (4, .int p4)]) hx hb dX2_putCell_33 hl (by decide) rfl (fun ls hl => ?_)
  refine lv_iload hx hb dX2_putCell_35 (lv_at hl 0 rfl) ?_
  refine lv_if_eq (tgt := 67) hx hb dX2_putCell_37 (by decide) (fun c => absurd c (by decide)) (fun _ => ?_)
  refine lv_iload_n hx hb dX2_putCell_40 rfl (lv_at hl 3 rfl) ?_
  refine lv_aload_n hx hb dX2_putCell_41 rfl (lv_at hl 1 rfl) ?_
  refine va_get (D := (dC, dI)) (ci := 2) (v := .ref a2) (C := RX2) (T := TX2) (N := 7) hx hb hts hinX2 hown hK hP 0 rfl rfl 2 (by decide) k_0 (fun _ h9 => h9) rfl dX2_putCell_42 ?_
  refine lv_iload_n hx hb dX2_putCell_45 rfl (lv_at hl 2 rfl) ?_
  refine za_iald (v := 4) hx hb hK hP 2 0 rfl rfl (zin tn_0 (Nat.le_of_ble_eq_true rfl)) (zrd _ tn_0 rfl) dX2_putCell_46 ?_
  refine lv_icmp_ge (tgt := 67) hx hb dX2_putCell_47 (by decide) (fun c => absurd c (by decide)) (fun _ => ?_)
  refine lv_aload_n hx hb dX2_putCell_50 rfl (lv_at hl 1 rfl) ?_
  refine va_get (D := (dC, dI)) (ci := 2) (v := .ref a1) (C := RX2) (T := TX2) (N := 7) hx hb hts hinX2 hown hK hP 0 rfl rfl 1 (by decide) k_1 (fun _ h9 => h9) rfl dX2_putCell_51 ?_
  refine lv_iload_n hx hb dX2_putCell_54 rfl (lv_at hl 2 rfl) ?_
  refine lv_bipush (v := 8) hx hb dX2_putCell_55 (by decide) ?_
  refine lv_imul hx hb dX2_putCell_57 ?_
  refine tp (y := 0) (by decide) ?_
  refine lv_iload_n hx hb dX2_putCell_58 rfl (lv_at hl 3 rfl) ?_
  refine lv_iadd hx hb dX2_putCell_59 ?_
  refine tp (y := 2) (by decide) ?_
  refine lv_iconst (v := 3) hx hb dX2_putCell_60 (by decide) ?_
  refine lv_imul hx hb dX2_putCell_61 ?_
  refine tp (y := 6) (by decide) ?_
  refine lv_iload_n hx hb dX2_putCell_62 rfl (lv_at hl 4 rfl) ?_
  refine lv_iadd hx hb dX2_putCell_63 ?_
  refine tp (y := 6) (by decide) ?_
  refine lv_iload hx hb dX2_putCell_64 (lv_at hl 5 rfl) ?_
  refine za_iast (f' := (upd fc 6 p4)) hx hb hK hP hD hS 1 0 rfl rfl (zin tn_6 (Nat.le_of_ble_eq_true rfl)) (congrArg (fun z => upd _ z _) tn_6.1) dX2_putCell_66 (fun H locs hP hD hS => ?_)
  have hP : va_P (dC, dI) vwCl [(h, .inr (2, [.ref a0, .ref a1, .ref a2, .ref a3, .ref a4, .ref a5, .ref a6])), (a1, .inl (cI, 120, .inl (upd fc 6 p4))), (a2, .inl (cI, 5, .inl (gl [4, 0, 0, 0, 0])))] H := hP
  have hD : va_D A [(h, .inr (2, [.ref a0, .ref a1, .ref a2, .ref a3, .ref a4, .ref a5, .ref a6])), (a1, .inl (cI, 120, .inl (upd fc 6 p4))), (a2, .inl (cI, 5, .inl (gl [4, 0, 0, 0, 0])))] := hD
  have hP9 := hP.sub (ws' := [(h, .inr (2, [.ref a0, .ref a1, .ref a2, .ref a3, .ref a4, .ref a5, .ref a6])), (a1, .inl (cI, 120, .inl (upd fc 6 p4))), (a2, .inl (cI, 5, .inl (gl [4, 0, 0, 0, 0])))]) [0, 1, 2] rfl
  have hD9 := hD.sub (ws' := [(h, .inr (2, [.ref a0, .ref a1, .ref a2, .ref a3, .ref a4, .ref a5, .ref a6])), (a1, .inl (cI, 120, .inl (upd fc 6 p4))), (a2, .inl (cI, 5, .inl (gl [4, 0, 0, 0, 0])))]) [0, 1, 2] (by decide) rfl
  exact W.vret hx hb hr (fun t ht hW => ⟨⟨(), rfl, trivial, by rw [ht]; exact hP9, va_K.moved hW.alike hK, hD9⟩, hS.F ht⟩) hS.2.2 dX2_putCell_67

set_option maxHeartbeats 4000000 in
set_option maxRecDepth 100000 in
theorem kkX2_putCell_021 (l : Launch) (dC : Nat → ClassId) (dI : Nat → Nat → Nat) (cI cB cZ cR : ClassId) (sz : Nat) (h : Nat) (a0 : Nat) (a1 : Nat) (a2 : Nat) (a3 : Nat) (a4 : Nat) (a5 : Nat) (a6 : Nat) (fc : Nat → Int32) (p4 : Int32) : Met l yX2_putCell (.code yX2_putCell cX2_putCell 6 none :: wsL_law) ({ frames := 0, cells := 0, slots := 0, locals := 0 }) (zPc dC dI (zT cI cB cZ cR) [.ref h, .int 0, .int 2, .int 1, .int p4] sz [(h, .inr (2, [.ref a0, .ref a1, .ref a2, .ref a3, .ref a4, .ref a5, .ref a6])), (a1, .inl (cI, 120, .inl fc)), (a2, .inl (cI, 5, .inl (gl [4, 0, 0, 0, 0])))]) (va_Qv (fun _ : Unit => True) (fun _ : Unit => zB dC dI (zT cI cB cZ cR) (va_A [(h, .inr (2, [.ref a0, .ref a1, .ref a2, .ref a3, .ref a4, .ref a5, .ref a6])), (a1, .inl (cI, 120, .inl fc)), (a2, .inl (cI, 5, .inl (gl [4, 0, 0, 0, 0])))] sz) [(h, .inr (2, [.ref a0, .ref a1, .ref a2, .ref a3, .ref a4, .ref a5, .ref a6])), (a1, .inl (cI, 120, .inl (upd fc 7 p4))), (a2, .inl (cI, 5, .inl (gl [4, 0, 0, 0, 0])))]) (va_A [(h, .inr (2, [.ref a0, .ref a1, .ref a2, .ref a3, .ref a4, .ref a5, .ref a6])), (a1, .inl (cI, 120, .inl fc)), (a2, .inl (cI, 5, .inl (gl [4, 0, 0, 0, 0])))] sz)) 0 0 (va_A [(h, .inr (2, [.ref a0, .ref a1, .ref a2, .ref a3, .ref a4, .ref a5, .ref a6])), (a1, .inl (cI, 120, .inl fc)), (a2, .inl (cI, 5, .inl (gl [4, 0, 0, 0, 0])))] sz) := by
  refine Met.ofW (cc := cX2_putCell) (maxL := 6) (ret := none) (by decide) rfl ?_
  intro p e s m args below meth c s₁ B hml hv
  obtain ⟨rfl, hsz, hP, hK, hD0, hN⟩ := hv
  have hx := B.exec
  have hb := B.bytes
  have hr := B.returns
  have hts := atoms_spec (ws := (.code yX2_putCell cX2_putCell 6 none :: wsL_law)) B.pre
  have hown : s.vm.findClass RX2 = some m.cls := findClass_of_methodNamed B.named
  have hlocks := B.notSynchronized
  have hinX2 : ∀ w ∈ u_ws RX2 TX2 7, w ∈ (.code yX2_putCell cX2_putCell 6 none :: wsL_law) := fun w h => List.mem_cons_of_mem _ (inlX2 w h)
  have k_0 := hts (.fieldLink RX2 18 "RingMarks$Ring" "sizes" "[I") (List.mem_cons_of_mem _ wm_63)
  have k_1 := hts (.fieldLink RX2 15 "RingMarks$Ring" "cells" "[I") (List.mem_cons_of_mem _ wm_62)
  subst hsz
  have hD := hD0.self (sz := s.heap.size)
  generalize hAe : va_A [(h, .inr (2, [.ref a0, .ref a1, .ref a2, .ref a3, .ref a4, .ref a5, .ref a6])), (a1, .inl (cI, 120, .inl fc)), (a2, .inl (cI, 5, .inl (gl [4, 0, 0, 0, 0])))] s.heap.size = A at hD ⊢
  have hA : ∀ q : Nat, s.heap.size ≤ q → A q := fun q h => by rw [← hAe]; exact Or.inr h
  have hP : va_P (dC, dI) vwCl [(h, .inr (2, [.ref a0, .ref a1, .ref a2, .ref a3, .ref a4, .ref a5, .ref a6])), (a1, .inl (cI, 120, .inl fc)), (a2, .inl (cI, 5, .inl (gl [4, 0, 0, 0, 0])))] s.heap := hP
  have hl := lv_entry ([.ref h, .int 0, .int 2, .int 1, .int p4]) (n := 6) (Nat.le_of_ble_eq_true rfl)
  rw [lg_entry_eq]
  generalize (lg_sl ([.ref h, .int 0, .int 2, .int 1, .int p4]) ++ List.replicate (6 - (lg_sl ([.ref h, .int 0, .int 2, .int 1, .int p4])).length) Slot.unset).toArray = ls at hl ⊢
  have hl : lv_has ls 6 [(0, .ref h), (1, .int 0), (2, .int 2), (3, .int 1), (4, .int p4)] := hl
  obtain ⟨H, hH⟩ : ∃ H, H = s.heap := ⟨_, rfl⟩
  rw [← hH] at hP ⊢
  have hS : va_S A s.heap H [] := by rw [hH]; exact va_S.rf
  refine lv_iload_n hx hb dX2_putCell_0 rfl (lv_at hl 1 rfl) ?_
  refine lv_if_lt (tgt := 32) hx hb dX2_putCell_1 (by decide) (fun c => absurd c (by decide)) (fun _ => ?_)
  refine lv_iload_n hx hb dX2_putCell_4 rfl (lv_at hl 1 rfl) ?_
  refine lv_iconst (v := 5) hx hb dX2_putCell_5 (by decide) ?_
  refine lv_icmp_ge (tgt := 32) hx hb dX2_putCell_6 (by decide) (fun c => absurd c (by decide)) (fun _ => ?_)
  refine lv_iload_n hx hb dX2_putCell_9 rfl (lv_at hl 2 rfl) ?_
  refine lv_if_lt (tgt := 32) hx hb dX2_putCell_10 (by decide) (fun c => absurd c (by decide)) (fun _ => ?_)
  refine lv_iload_n hx hb dX2_putCell_13 rfl (lv_at hl 2 rfl) ?_
  refine lv_bipush (v := 8) hx hb dX2_putCell_14 (by decide) ?_
  refine lv_icmp_ge (tgt := 32) hx hb dX2_putCell_16 (by decide) (fun c => absurd c (by decide)) (fun _ => ?_)
  refine lv_iload_n hx hb dX2_putCell_19 rfl (lv_at hl 3 rfl) ?_
  refine lv_if_lt (tgt := 32) hx hb dX2_putCell_20 (by decide) (fun c => absurd c (by decide)) (fun _ => ?_)
  refine lv_iload_n hx hb dX2_putCell_23 rfl (lv_at hl 3 rfl) ?_
  refine lv_iconst (v := 2) hx hb dX2_putCell_24 (by decide) ?_
  refine lv_icmp_gt (tgt := 32) hx hb dX2_putCell_25 (by decide) (fun c => absurd c (by decide)) (fun _ => ?_)
  refine lv_iconst (v := 1) hx hb dX2_putCell_28 (by decide) ?_
  refine lv_goto (tgt := 33) hx hb dX2_putCell_29 (by decide) ?_
  refine lv_istore (lv' := [(5, .int 1), (0, .ref h), (1, .int 0), (2, .int 2), (3, .int 1), (4, .int p4)]) hx hb dX2_putCell_33 hl (by decide) rfl (fun ls hl => ?_)
  refine lv_iload hx hb dX2_putCell_35 (lv_at hl 0 rfl) ?_
  refine lv_if_eq (tgt := 67) hx hb dX2_putCell_37 (by decide) (fun c => absurd c (by decide)) (fun _ => ?_)
  refine lv_iload_n hx hb dX2_putCell_40 rfl (lv_at hl 3 rfl) ?_
  refine lv_aload_n hx hb dX2_putCell_41 rfl (lv_at hl 1 rfl) ?_
  refine va_get (D := (dC, dI)) (ci := 2) (v := .ref a2) (C := RX2) (T := TX2) (N := 7) hx hb hts hinX2 hown hK hP 0 rfl rfl 2 (by decide) k_0 (fun _ h9 => h9) rfl dX2_putCell_42 ?_
  refine lv_iload_n hx hb dX2_putCell_45 rfl (lv_at hl 2 rfl) ?_
  refine za_iald (v := 4) hx hb hK hP 2 0 rfl rfl (zin tn_0 (Nat.le_of_ble_eq_true rfl)) (zrd _ tn_0 rfl) dX2_putCell_46 ?_
  refine lv_icmp_ge (tgt := 67) hx hb dX2_putCell_47 (by decide) (fun c => absurd c (by decide)) (fun _ => ?_)
  refine lv_aload_n hx hb dX2_putCell_50 rfl (lv_at hl 1 rfl) ?_
  refine va_get (D := (dC, dI)) (ci := 2) (v := .ref a1) (C := RX2) (T := TX2) (N := 7) hx hb hts hinX2 hown hK hP 0 rfl rfl 1 (by decide) k_1 (fun _ h9 => h9) rfl dX2_putCell_51 ?_
  refine lv_iload_n hx hb dX2_putCell_54 rfl (lv_at hl 2 rfl) ?_
  refine lv_bipush (v := 8) hx hb dX2_putCell_55 (by decide) ?_
  refine lv_imul hx hb dX2_putCell_57 ?_
  refine tp (y := 0) (by decide) ?_
  refine lv_iload_n hx hb dX2_putCell_58 rfl (lv_at hl 3 rfl) ?_
  refine lv_iadd hx hb dX2_putCell_59 ?_
  refine tp (y := 2) (by decide) ?_
  refine lv_iconst (v := 3) hx hb dX2_putCell_60 (by decide) ?_
  refine lv_imul hx hb dX2_putCell_61 ?_
  refine tp (y := 6) (by decide) ?_
  refine lv_iload_n hx hb dX2_putCell_62 rfl (lv_at hl 4 rfl) ?_
  refine lv_iadd hx hb dX2_putCell_63 ?_
  refine tp (y := 7) (by decide) ?_
  refine lv_iload hx hb dX2_putCell_64 (lv_at hl 5 rfl) ?_
  refine za_iast (f' := (upd fc 7 p4)) hx hb hK hP hD hS 1 0 rfl rfl (zin tn_7 (Nat.le_of_ble_eq_true rfl)) (congrArg (fun z => upd _ z _) tn_7.1) dX2_putCell_66 (fun H locs hP hD hS => ?_)
  have hP : va_P (dC, dI) vwCl [(h, .inr (2, [.ref a0, .ref a1, .ref a2, .ref a3, .ref a4, .ref a5, .ref a6])), (a1, .inl (cI, 120, .inl (upd fc 7 p4))), (a2, .inl (cI, 5, .inl (gl [4, 0, 0, 0, 0])))] H := hP
  have hD : va_D A [(h, .inr (2, [.ref a0, .ref a1, .ref a2, .ref a3, .ref a4, .ref a5, .ref a6])), (a1, .inl (cI, 120, .inl (upd fc 7 p4))), (a2, .inl (cI, 5, .inl (gl [4, 0, 0, 0, 0])))] := hD
  have hP9 := hP.sub (ws' := [(h, .inr (2, [.ref a0, .ref a1, .ref a2, .ref a3, .ref a4, .ref a5, .ref a6])), (a1, .inl (cI, 120, .inl (upd fc 7 p4))), (a2, .inl (cI, 5, .inl (gl [4, 0, 0, 0, 0])))]) [0, 1, 2] rfl
  have hD9 := hD.sub (ws' := [(h, .inr (2, [.ref a0, .ref a1, .ref a2, .ref a3, .ref a4, .ref a5, .ref a6])), (a1, .inl (cI, 120, .inl (upd fc 7 p4))), (a2, .inl (cI, 5, .inl (gl [4, 0, 0, 0, 0])))]) [0, 1, 2] (by decide) rfl
  exact W.vret hx hb hr (fun t ht hW => ⟨⟨(), rfl, trivial, by rw [ht]; exact hP9, va_K.moved hW.alike hK, hD9⟩, hS.F ht⟩) hS.2.2 dX2_putCell_67

set_option maxHeartbeats 4000000 in
set_option maxRecDepth 100000 in
theorem kkX2_putCell_022 (l : Launch) (dC : Nat → ClassId) (dI : Nat → Nat → Nat) (cI cB cZ cR : ClassId) (sz : Nat) (h : Nat) (a0 : Nat) (a1 : Nat) (a2 : Nat) (a3 : Nat) (a4 : Nat) (a5 : Nat) (a6 : Nat) (fc : Nat → Int32) (p4 : Int32) : Met l yX2_putCell (.code yX2_putCell cX2_putCell 6 none :: wsL_law) ({ frames := 0, cells := 0, slots := 0, locals := 0 }) (zPc dC dI (zT cI cB cZ cR) [.ref h, .int 0, .int 2, .int 2, .int p4] sz [(h, .inr (2, [.ref a0, .ref a1, .ref a2, .ref a3, .ref a4, .ref a5, .ref a6])), (a1, .inl (cI, 120, .inl fc)), (a2, .inl (cI, 5, .inl (gl [4, 0, 0, 0, 0])))]) (va_Qv (fun _ : Unit => True) (fun _ : Unit => zB dC dI (zT cI cB cZ cR) (va_A [(h, .inr (2, [.ref a0, .ref a1, .ref a2, .ref a3, .ref a4, .ref a5, .ref a6])), (a1, .inl (cI, 120, .inl fc)), (a2, .inl (cI, 5, .inl (gl [4, 0, 0, 0, 0])))] sz) [(h, .inr (2, [.ref a0, .ref a1, .ref a2, .ref a3, .ref a4, .ref a5, .ref a6])), (a1, .inl (cI, 120, .inl (upd fc 8 p4))), (a2, .inl (cI, 5, .inl (gl [4, 0, 0, 0, 0])))]) (va_A [(h, .inr (2, [.ref a0, .ref a1, .ref a2, .ref a3, .ref a4, .ref a5, .ref a6])), (a1, .inl (cI, 120, .inl fc)), (a2, .inl (cI, 5, .inl (gl [4, 0, 0, 0, 0])))] sz)) 0 0 (va_A [(h, .inr (2, [.ref a0, .ref a1, .ref a2, .ref a3, .ref a4, .ref a5, .ref a6])), (a1, .inl (cI, 120, .inl fc)), (a2, .inl (cI, 5, .inl (gl [4, 0, 0, 0, 0])))] sz) := by
  refine Met.ofW (cc := cX2_putCell) (maxL := 6) (ret := none) (by decide) rfl ?_
  intro p e s m args below meth c s₁ B hml hv
  obtain ⟨rfl, hsz, hP, hK, hD0, hN⟩ := hv
  have hx := B.exec
  have hb := B.bytes
  have hr := B.returns
  have hts := atoms_spec (ws := (.code yX2_putCell cX2_putCell 6 none :: wsL_law)) B.pre
  have hown : s.vm.findClass RX2 = some m.cls := findClass_of_methodNamed B.named
  have hlocks := B.notSynchronized
  have hinX2 : ∀ w ∈ u_ws RX2 TX2 7, w ∈ (.code yX2_putCell cX2_putCell 6 none :: wsL_law) := fun w h => List.mem_cons_of_mem _ (inlX2 w h)
  have k_0 := hts (.fieldLink RX2 18 "RingMarks$Ring" "sizes" "[I") (List.mem_cons_of_mem _ wm_63)
  have k_1 := hts (.fieldLink RX2 15 "RingMarks$Ring" "cells" "[I") (List.mem_cons_of_mem _ wm_62)
  subst hsz
  have hD := hD0.self (sz := s.heap.size)
  generalize hAe : va_A [(h, .inr (2, [.ref a0, .ref a1, .ref a2, .ref a3, .ref a4, .ref a5, .ref a6])), (a1, .inl (cI, 120, .inl fc)), (a2, .inl (cI, 5, .inl (gl [4, 0, 0, 0, 0])))] s.heap.size = A at hD ⊢
  have hA : ∀ q : Nat, s.heap.size ≤ q → A q := fun q h => by rw [← hAe]; exact Or.inr h
  have hP : va_P (dC, dI) vwCl [(h, .inr (2, [.ref a0, .ref a1, .ref a2, .ref a3, .ref a4, .ref a5, .ref a6])), (a1, .inl (cI, 120, .inl fc)), (a2, .inl (cI, 5, .inl (gl [4, 0, 0, 0, 0])))] s.heap := hP
  have hl := lv_entry ([.ref h, .int 0, .int 2, .int 2, .int p4]) (n := 6) (Nat.le_of_ble_eq_true rfl)
  rw [lg_entry_eq]
  generalize (lg_sl ([.ref h, .int 0, .int 2, .int 2, .int p4]) ++ List.replicate (6 - (lg_sl ([.ref h, .int 0, .int 2, .int 2, .int p4])).length) Slot.unset).toArray = ls at hl ⊢
  have hl : lv_has ls 6 [(0, .ref h), (1, .int 0), (2, .int 2), (3, .int 2), (4, .int p4)] := hl
  obtain ⟨H, hH⟩ : ∃ H, H = s.heap := ⟨_, rfl⟩
  rw [← hH] at hP ⊢
  have hS : va_S A s.heap H [] := by rw [hH]; exact va_S.rf
  refine lv_iload_n hx hb dX2_putCell_0 rfl (lv_at hl 1 rfl) ?_
  refine lv_if_lt (tgt := 32) hx hb dX2_putCell_1 (by decide) (fun c => absurd c (by decide)) (fun _ => ?_)
  refine lv_iload_n hx hb dX2_putCell_4 rfl (lv_at hl 1 rfl) ?_
  refine lv_iconst (v := 5) hx hb dX2_putCell_5 (by decide) ?_
  refine lv_icmp_ge (tgt := 32) hx hb dX2_putCell_6 (by decide) (fun c => absurd c (by decide)) (fun _ => ?_)
  refine lv_iload_n hx hb dX2_putCell_9 rfl (lv_at hl 2 rfl) ?_
  refine lv_if_lt (tgt := 32) hx hb dX2_putCell_10 (by decide) (fun c => absurd c (by decide)) (fun _ => ?_)
  refine lv_iload_n hx hb dX2_putCell_13 rfl (lv_at hl 2 rfl) ?_
  refine lv_bipush (v := 8) hx hb dX2_putCell_14 (by decide) ?_
  refine lv_icmp_ge (tgt := 32) hx hb dX2_putCell_16 (by decide) (fun c => absurd c (by decide)) (fun _ => ?_)
  refine lv_iload_n hx hb dX2_putCell_19 rfl (lv_at hl 3 rfl) ?_
  refine lv_if_lt (tgt := 32) hx hb dX2_putCell_20 (by decide) (fun c => absurd c (by decide)) (fun _ => ?_)
  refine lv_iload_n hx hb dX2_putCell_23 rfl (lv_at hl 3 rfl) ?_
  refine lv_iconst (v := 2) hx hb dX2_putCell_24 (by decide) ?_
  refine lv_icmp_gt (tgt := 32) hx hb dX2_putCell_25 (by decide) (fun c => absurd c (by decide)) (fun _ => ?_)
  refine lv_iconst (v := 1) hx hb dX2_putCell_28 (by decide) ?_
  refine lv_goto (tgt := 33) hx hb dX2_putCell_29 (by decide) ?_
  refine lv_istore (lv' := [(5, .int 1), (0, .ref h), (1, .int 0), (2, .int 2), (3, .int 2), (4, .int p4)]) hx hb dX2_putCell_33 hl (by decide) rfl (fun ls hl => ?_)
  refine lv_iload hx hb dX2_putCell_35 (lv_at hl 0 rfl) ?_
  refine lv_if_eq (tgt := 67) hx hb dX2_putCell_37 (by decide) (fun c => absurd c (by decide)) (fun _ => ?_)
  refine lv_iload_n hx hb dX2_putCell_40 rfl (lv_at hl 3 rfl) ?_
  refine lv_aload_n hx hb dX2_putCell_41 rfl (lv_at hl 1 rfl) ?_
  refine va_get (D := (dC, dI)) (ci := 2) (v := .ref a2) (C := RX2) (T := TX2) (N := 7) hx hb hts hinX2 hown hK hP 0 rfl rfl 2 (by decide) k_0 (fun _ h9 => h9) rfl dX2_putCell_42 ?_
  refine lv_iload_n hx hb dX2_putCell_45 rfl (lv_at hl 2 rfl) ?_
  refine za_iald (v := 4) hx hb hK hP 2 0 rfl rfl (zin tn_0 (Nat.le_of_ble_eq_true rfl)) (zrd _ tn_0 rfl) dX2_putCell_46 ?_
  refine lv_icmp_ge (tgt := 67) hx hb dX2_putCell_47 (by decide) (fun c => absurd c (by decide)) (fun _ => ?_)
  refine lv_aload_n hx hb dX2_putCell_50 rfl (lv_at hl 1 rfl) ?_
  refine va_get (D := (dC, dI)) (ci := 2) (v := .ref a1) (C := RX2) (T := TX2) (N := 7) hx hb hts hinX2 hown hK hP 0 rfl rfl 1 (by decide) k_1 (fun _ h9 => h9) rfl dX2_putCell_51 ?_
  refine lv_iload_n hx hb dX2_putCell_54 rfl (lv_at hl 2 rfl) ?_
  refine lv_bipush (v := 8) hx hb dX2_putCell_55 (by decide) ?_
  refine lv_imul hx hb dX2_putCell_57 ?_
  refine tp (y := 0) (by decide) ?_
  refine lv_iload_n hx hb dX2_putCell_58 rfl (lv_at hl 3 rfl) ?_
  refine lv_iadd hx hb dX2_putCell_59 ?_
  refine tp (y := 2) (by decide) ?_
  refine lv_iconst (v := 3) hx hb dX2_putCell_60 (by decide) ?_
  refine lv_imul hx hb dX2_putCell_61 ?_
  refine tp (y := 6) (by decide) ?_
  refine lv_iload_n hx hb dX2_putCell_62 rfl (lv_at hl 4 rfl) ?_
  refine lv_iadd hx hb dX2_putCell_63 ?_
  refine tp (y := 8) (by decide) ?_
  refine lv_iload hx hb dX2_putCell_64 (lv_at hl 5 rfl) ?_
  refine za_iast (f' := (upd fc 8 p4)) hx hb hK hP hD hS 1 0 rfl rfl (zin tn_8 (Nat.le_of_ble_eq_true rfl)) (congrArg (fun z => upd _ z _) tn_8.1) dX2_putCell_66 (fun H locs hP hD hS => ?_)
  have hP : va_P (dC, dI) vwCl [(h, .inr (2, [.ref a0, .ref a1, .ref a2, .ref a3, .ref a4, .ref a5, .ref a6])), (a1, .inl (cI, 120, .inl (upd fc 8 p4))), (a2, .inl (cI, 5, .inl (gl [4, 0, 0, 0, 0])))] H := hP
  have hD : va_D A [(h, .inr (2, [.ref a0, .ref a1, .ref a2, .ref a3, .ref a4, .ref a5, .ref a6])), (a1, .inl (cI, 120, .inl (upd fc 8 p4))), (a2, .inl (cI, 5, .inl (gl [4, 0, 0, 0, 0])))] := hD
  have hP9 := hP.sub (ws' := [(h, .inr (2, [.ref a0, .ref a1, .ref a2, .ref a3, .ref a4, .ref a5, .ref a6])), (a1, .inl (cI, 120, .inl (upd fc 8 p4))), (a2, .inl (cI, 5, .inl (gl [4, 0, 0, 0, 0])))]) [0, 1, 2] rfl
  have hD9 := hD.sub (ws' := [(h, .inr (2, [.ref a0, .ref a1, .ref a2, .ref a3, .ref a4, .ref a5, .ref a6])), (a1, .inl (cI, 120, .inl (upd fc 8 p4))), (a2, .inl (cI, 5, .inl (gl [4, 0, 0, 0, 0])))]) [0, 1, 2] (by decide) rfl
  exact W.vret hx hb hr (fun t ht hW => ⟨⟨(), rfl, trivial, by rw [ht]; exact hP9, va_K.moved hW.alike hK, hD9⟩, hS.F ht⟩) hS.2.2 dX2_putCell_67

set_option maxHeartbeats 4000000 in
set_option maxRecDepth 100000 in
theorem kkX2_putCell_030 (l : Launch) (dC : Nat → ClassId) (dI : Nat → Nat → Nat) (cI cB cZ cR : ClassId) (sz : Nat) (h : Nat) (a0 : Nat) (a1 : Nat) (a2 : Nat) (a3 : Nat) (a4 : Nat) (a5 : Nat) (a6 : Nat) (fc : Nat → Int32) (p4 : Int32) : Met l yX2_putCell (.code yX2_putCell cX2_putCell 6 none :: wsL_law) ({ frames := 0, cells := 0, slots := 0, locals := 0 }) (zPc dC dI (zT cI cB cZ cR) [.ref h, .int 0, .int 3, .int 0, .int p4] sz [(h, .inr (2, [.ref a0, .ref a1, .ref a2, .ref a3, .ref a4, .ref a5, .ref a6])), (a1, .inl (cI, 120, .inl fc)), (a2, .inl (cI, 5, .inl (gl [4, 0, 0, 0, 0])))]) (va_Qv (fun _ : Unit => True) (fun _ : Unit => zB dC dI (zT cI cB cZ cR) (va_A [(h, .inr (2, [.ref a0, .ref a1, .ref a2, .ref a3, .ref a4, .ref a5, .ref a6])), (a1, .inl (cI, 120, .inl fc)), (a2, .inl (cI, 5, .inl (gl [4, 0, 0, 0, 0])))] sz) [(h, .inr (2, [.ref a0, .ref a1, .ref a2, .ref a3, .ref a4, .ref a5, .ref a6])), (a1, .inl (cI, 120, .inl (upd fc 9 p4))), (a2, .inl (cI, 5, .inl (gl [4, 0, 0, 0, 0])))]) (va_A [(h, .inr (2, [.ref a0, .ref a1, .ref a2, .ref a3, .ref a4, .ref a5, .ref a6])), (a1, .inl (cI, 120, .inl fc)), (a2, .inl (cI, 5, .inl (gl [4, 0, 0, 0, 0])))] sz)) 0 0 (va_A [(h, .inr (2, [.ref a0, .ref a1, .ref a2, .ref a3, .ref a4, .ref a5, .ref a6])), (a1, .inl (cI, 120, .inl fc)), (a2, .inl (cI, 5, .inl (gl [4, 0, 0, 0, 0])))] sz) := by
  refine Met.ofW (cc := cX2_putCell) (maxL := 6) (ret := none) (by decide) rfl ?_
  intro p e s m args below meth c s₁ B hml hv
  obtain ⟨rfl, hsz, hP, hK, hD0, hN⟩ := hv
  have hx := B.exec
  have hb := B.bytes
  have hr := B.returns
  have hts := atoms_spec (ws := (.code yX2_putCell cX2_putCell 6 none :: wsL_law)) B.pre
  have hown : s.vm.findClass RX2 = some m.cls := findClass_of_methodNamed B.named
  have hlocks := B.notSynchronized
  have hinX2 : ∀ w ∈ u_ws RX2 TX2 7, w ∈ (.code yX2_putCell cX2_putCell 6 none :: wsL_law) := fun w h => List.mem_cons_of_mem _ (inlX2 w h)
  have k_0 := hts (.fieldLink RX2 18 "RingMarks$Ring" "sizes" "[I") (List.mem_cons_of_mem _ wm_63)
  have k_1 := hts (.fieldLink RX2 15 "RingMarks$Ring" "cells" "[I") (List.mem_cons_of_mem _ wm_62)
  subst hsz
  have hD := hD0.self (sz := s.heap.size)
  generalize hAe : va_A [(h, .inr (2, [.ref a0, .ref a1, .ref a2, .ref a3, .ref a4, .ref a5, .ref a6])), (a1, .inl (cI, 120, .inl fc)), (a2, .inl (cI, 5, .inl (gl [4, 0, 0, 0, 0])))] s.heap.size = A at hD ⊢
  have hA : ∀ q : Nat, s.heap.size ≤ q → A q := fun q h => by rw [← hAe]; exact Or.inr h
  have hP : va_P (dC, dI) vwCl [(h, .inr (2, [.ref a0, .ref a1, .ref a2, .ref a3, .ref a4, .ref a5, .ref a6])), (a1, .inl (cI, 120, .inl fc)), (a2, .inl (cI, 5, .inl (gl [4, 0, 0, 0, 0])))] s.heap := hP
  have hl := lv_entry ([.ref h, .int 0, .int 3, .int 0, .int p4]) (n := 6) (Nat.le_of_ble_eq_true rfl)
  rw [lg_entry_eq]
  generalize (lg_sl ([.ref h, .int 0, .int 3, .int 0, .int p4]) ++ List.replicate (6 - (lg_sl ([.ref h, .int 0, .int 3, .int 0, .int p4])).length) Slot.unset).toArray = ls at hl ⊢
  have hl : lv_has ls 6 [(0, .ref h), (1, .int 0), (2, .int 3), (3, .int 0), (4, .int p4)] := hl
  obtain ⟨H, hH⟩ : ∃ H, H = s.heap := ⟨_, rfl⟩
  rw [← hH] at hP ⊢
  have hS : va_S A s.heap H [] := by rw [hH]; exact va_S.rf
  refine lv_iload_n hx hb dX2_putCell_0 rfl (lv_at hl 1 rfl) ?_
  refine lv_if_lt (tgt := 32) hx hb dX2_putCell_1 (by decide) (fun c => absurd c (by decide)) (fun _ => ?_)
  refine lv_iload_n hx hb dX2_putCell_4 rfl (lv_at hl 1 rfl) ?_
  refine lv_iconst (v := 5) hx hb dX2_putCell_5 (by decide) ?_
  refine lv_icmp_ge (tgt := 32) hx hb dX2_putCell_6 (by decide) (fun c => absurd c (by decide)) (fun _ => ?_)
  refine lv_iload_n hx hb dX2_putCell_9 rfl (lv_at hl 2 rfl) ?_
  refine lv_if_lt (tgt := 32) hx hb dX2_putCell_10 (by decide) (fun c => absurd c (by decide)) (fun _ => ?_)
  refine lv_iload_n hx hb dX2_putCell_13 rfl (lv_at hl 2 rfl) ?_
  refine lv_bipush (v := 8) hx hb dX2_putCell_14 (by decide) ?_
  refine lv_icmp_ge (tgt := 32) hx hb dX2_putCell_16 (by decide) (fun c => absurd c (by decide)) (fun _ => ?_)
  refine lv_iload_n hx hb dX2_putCell_19 rfl (lv_at hl 3 rfl) ?_
  refine lv_if_lt (tgt := 32) hx hb dX2_putCell_20 (by decide) (fun c => absurd c (by decide)) (fun _ => ?_)
  refine lv_iload_n hx hb dX2_putCell_23 rfl (lv_at hl 3 rfl) ?_
  refine lv_iconst (v := 2) hx hb dX2_putCell_24 (by decide) ?_
  refine lv_icmp_gt (tgt := 32) hx hb dX2_putCell_25 (by decide) (fun c => absurd c (by decide)) (fun _ => ?_)
  refine lv_iconst (v := 1) hx hb dX2_putCell_28 (by decide) ?_
  refine lv_goto (tgt := 33) hx hb dX2_putCell_29 (by decide) ?_
  refine lv_istore (lv' := [(5, .int 1), (0, .ref h), (1, .int 0), (2, .int 3), (3, .int 0), (4, .int p4)]) hx hb dX2_putCell_33 hl (by decide) rfl (fun ls hl => ?_)
  refine lv_iload hx hb dX2_putCell_35 (lv_at hl 0 rfl) ?_
  refine lv_if_eq (tgt := 67) hx hb dX2_putCell_37 (by decide) (fun c => absurd c (by decide)) (fun _ => ?_)
  refine lv_iload_n hx hb dX2_putCell_40 rfl (lv_at hl 3 rfl) ?_
  refine lv_aload_n hx hb dX2_putCell_41 rfl (lv_at hl 1 rfl) ?_
  refine va_get (D := (dC, dI)) (ci := 2) (v := .ref a2) (C := RX2) (T := TX2) (N := 7) hx hb hts hinX2 hown hK hP 0 rfl rfl 2 (by decide) k_0 (fun _ h9 => h9) rfl dX2_putCell_42 ?_
  refine lv_iload_n hx hb dX2_putCell_45 rfl (lv_at hl 2 rfl) ?_
  refine za_iald (v := 4) hx hb hK hP 2 0 rfl rfl (zin tn_0 (Nat.le_of_ble_eq_true rfl)) (zrd _ tn_0 rfl) dX2_putCell_46 ?_
  refine lv_icmp_ge (tgt := 67) hx hb dX2_putCell_47 (by decide) (fun c => absurd c (by decide)) (fun _ => ?_)
  refine lv_aload_n hx hb dX2_putCell_50 rfl (lv_at hl 1 rfl) ?_
  refine va_get (D := (dC, dI)) (ci := 2) (v := .ref a1) (C := RX2) (T := TX2) (N := 7) hx hb hts hinX2 hown hK hP 0 rfl rfl 1 (by decide) k_1 (fun _ h9 => h9) rfl dX2_putCell_51 ?_
  refine lv_iload_n hx hb dX2_putCell_54 rfl (lv_at hl 2 rfl) ?_
  refine lv_bipush (v := 8) hx hb dX2_putCell_55 (by decide) ?_
  refine lv_imul hx hb dX2_putCell_57 ?_
  refine tp (y := 0) (by decide) ?_
  refine lv_iload_n hx hb dX2_putCell_58 rfl (lv_at hl 3 rfl) ?_
  refine lv_iadd hx hb dX2_putCell_59 ?_
  refine tp (y := 3) (by decide) ?_
  refine lv_iconst (v := 3) hx hb dX2_putCell_60 (by decide) ?_
  refine lv_imul hx hb dX2_putCell_61 ?_
  refine tp (y := 9) (by decide) ?_
  refine lv_iload_n hx hb dX2_putCell_62 rfl (lv_at hl 4 rfl) ?_
  refine lv_iadd hx hb dX2_putCell_63 ?_
  refine tp (y := 9) (by decide) ?_
  refine lv_iload hx hb dX2_putCell_64 (lv_at hl 5 rfl) ?_
  refine za_iast (f' := (upd fc 9 p4)) hx hb hK hP hD hS 1 0 rfl rfl (zin tn_9 (Nat.le_of_ble_eq_true rfl)) (congrArg (fun z => upd _ z _) tn_9.1) dX2_putCell_66 (fun H locs hP hD hS => ?_)
  have hP : va_P (dC, dI) vwCl [(h, .inr (2, [.ref a0, .ref a1, .ref a2, .ref a3, .ref a4, .ref a5, .ref a6])), (a1, .inl (cI, 120, .inl (upd fc 9 p4))), (a2, .inl (cI, 5, .inl (gl [4, 0, 0, 0, 0])))] H := hP
  have hD : va_D A [(h, .inr (2, [.ref a0, .ref a1, .ref a2, .ref a3, .ref a4, .ref a5, .ref a6])), (a1, .inl (cI, 120, .inl (upd fc 9 p4))), (a2, .inl (cI, 5, .inl (gl [4, 0, 0, 0, 0])))] := hD
  have hP9 := hP.sub (ws' := [(h, .inr (2, [.ref a0, .ref a1, .ref a2, .ref a3, .ref a4, .ref a5, .ref a6])), (a1, .inl (cI, 120, .inl (upd fc 9 p4))), (a2, .inl (cI, 5, .inl (gl [4, 0, 0, 0, 0])))]) [0, 1, 2] rfl
  have hD9 := hD.sub (ws' := [(h, .inr (2, [.ref a0, .ref a1, .ref a2, .ref a3, .ref a4, .ref a5, .ref a6])), (a1, .inl (cI, 120, .inl (upd fc 9 p4))), (a2, .inl (cI, 5, .inl (gl [4, 0, 0, 0, 0])))]) [0, 1, 2] (by decide) rfl
  exact W.vret hx hb hr (fun t ht hW => ⟨⟨(), rfl, trivial, by rw [ht]; exact hP9, va_K.moved hW.alike hK, hD9⟩, hS.F ht⟩) hS.2.2 dX2_putCell_67

set_option maxHeartbeats 4000000 in
set_option maxRecDepth 100000 in
theorem kkX2_putCell_031 (l : Launch) (dC : Nat → ClassId) (dI : Nat → Nat → Nat) (cI cB cZ cR : ClassId) (sz : Nat) (h : Nat) (a0 : Nat) (a1 : Nat) (a2 : Nat) (a3 : Nat) (a4 : Nat) (a5 : Nat) (a6 : Nat) (fc : Nat → Int32) (p4 : Int32) : Met l yX2_putCell (.code yX2_putCell cX2_putCell 6 none :: wsL_law) ({ frames := 0, cells := 0, slots := 0, locals := 0 }) (zPc dC dI (zT cI cB cZ cR) [.ref h, .int 0, .int 3, .int 1, .int p4] sz [(h, .inr (2, [.ref a0, .ref a1, .ref a2, .ref a3, .ref a4, .ref a5, .ref a6])), (a1, .inl (cI, 120, .inl fc)), (a2, .inl (cI, 5, .inl (gl [4, 0, 0, 0, 0])))]) (va_Qv (fun _ : Unit => True) (fun _ : Unit => zB dC dI (zT cI cB cZ cR) (va_A [(h, .inr (2, [.ref a0, .ref a1, .ref a2, .ref a3, .ref a4, .ref a5, .ref a6])), (a1, .inl (cI, 120, .inl fc)), (a2, .inl (cI, 5, .inl (gl [4, 0, 0, 0, 0])))] sz) [(h, .inr (2, [.ref a0, .ref a1, .ref a2, .ref a3, .ref a4, .ref a5, .ref a6])), (a1, .inl (cI, 120, .inl (upd fc 10 p4))), (a2, .inl (cI, 5, .inl (gl [4, 0, 0, 0, 0])))]) (va_A [(h, .inr (2, [.ref a0, .ref a1, .ref a2, .ref a3, .ref a4, .ref a5, .ref a6])), (a1, .inl (cI, 120, .inl fc)), (a2, .inl (cI, 5, .inl (gl [4, 0, 0, 0, 0])))] sz)) 0 0 (va_A [(h, .inr (2, [.ref a0, .ref a1, .ref a2, .ref a3, .ref a4, .ref a5, .ref a6])), (a1, .inl (cI, 120, .inl fc)), (a2, .inl (cI, 5, .inl (gl [4, 0, 0, 0, 0])))] sz) := by
  refine Met.ofW (cc := cX2_putCell) (maxL := 6) (ret := none) (by decide) rfl ?_
  intro p e s m args below meth c s₁ B hml hv
  obtain ⟨rfl, hsz, hP, hK, hD0, hN⟩ := hv
  have hx := B.exec
  have hb := B.bytes
  have hr := B.returns
  have hts := atoms_spec (ws := (.code yX2_putCell cX2_putCell 6 none :: wsL_law)) B.pre
  have hown : s.vm.findClass RX2 = some m.cls := findClass_of_methodNamed B.named
  have hlocks := B.notSynchronized
  have hinX2 : ∀ w ∈ u_ws RX2 TX2 7, w ∈ (.code yX2_putCell cX2_putCell 6 none :: wsL_law) := fun w h => List.mem_cons_of_mem _ (inlX2 w h)
  have k_0 := hts (.fieldLink RX2 18 "RingMarks$Ring" "sizes" "[I") (List.mem_cons_of_mem _ wm_63)
  have k_1 := hts (.fieldLink RX2 15 "RingMarks$Ring" "cells" "[I") (List.mem_cons_of_mem _ wm_62)
  subst hsz
  have hD := hD0.self (sz := s.heap.size)
  generalize hAe : va_A [(h, .inr (2, [.ref a0, .ref a1, .ref a2, .ref a3, .ref a4, .ref a5, .ref a6])), (a1, .inl (cI, 120, .inl fc)), (a2, .inl (cI, 5, .inl (gl [4, 0, 0, 0, 0])))] s.heap.size = A at hD ⊢
  have hA : ∀ q : Nat, s.heap.size ≤ q → A q := fun q h => by rw [← hAe]; exact Or.inr h
  have hP : va_P (dC, dI) vwCl [(h, .inr (2, [.ref a0, .ref a1, .ref a2, .ref a3, .ref a4, .ref a5, .ref a6])), (a1, .inl (cI, 120, .inl fc)), (a2, .inl (cI, 5, .inl (gl [4, 0, 0, 0, 0])))] s.heap := hP
  have hl := lv_entry ([.ref h, .int 0, .int 3, .int 1, .int p4]) (n := 6) (Nat.le_of_ble_eq_true rfl)
  rw [lg_entry_eq]
  generalize (lg_sl ([.ref h, .int 0, .int 3, .int 1, .int p4]) ++ List.replicate (6 - (lg_sl ([.ref h, .int 0, .int 3, .int 1, .int p4])).length) Slot.unset).toArray = ls at hl ⊢
  have hl : lv_has ls 6 [(0, .ref h), (1, .int 0), (2, .int 3), (3, .int 1), (4, .int p4)] := hl
  obtain ⟨H, hH⟩ : ∃ H, H = s.heap := ⟨_, rfl⟩
  rw [← hH] at hP ⊢
  have hS : va_S A s.heap H [] := by rw [hH]; exact va_S.rf
  refine lv_iload_n hx hb dX2_putCell_0 rfl (lv_at hl 1 rfl) ?_
  refine lv_if_lt (tgt := 32) hx hb dX2_putCell_1 (by decide) (fun c => absurd c (by decide)) (fun _ => ?_)
  refine lv_iload_n hx hb dX2_putCell_4 rfl (lv_at hl 1 rfl) ?_
  refine lv_iconst (v := 5) hx hb dX2_putCell_5 (by decide) ?_
  refine lv_icmp_ge (tgt := 32) hx hb dX2_putCell_6 (by decide) (fun c => absurd c (by decide)) (fun _ => ?_)
  refine lv_iload_n hx hb dX2_putCell_9 rfl (lv_at hl 2 rfl) ?_
  refine lv_if_lt (tgt := 32) hx hb dX2_putCell_10 (by decide) (fun c => absurd c (by decide)) (fun _ => ?_)
  refine lv_iload_n hx hb dX2_putCell_13 rfl (lv_at hl 2 rfl) ?_
  refine lv_bipush (v := 8) hx hb dX2_putCell_14 (by decide) ?_
  refine lv_icmp_ge (tgt := 32) hx hb dX2_putCell_16 (by decide) (fun c => absurd c (by decide)) (fun _ => ?_)
  refine lv_iload_n hx hb dX2_putCell_19 rfl (lv_at hl 3 rfl) ?_
  refine lv_if_lt (tgt := 32) hx hb dX2_putCell_20 (by decide) (fun c => absurd c (by decide)) (fun _ => ?_)
  refine lv_iload_n hx hb dX2_putCell_23 rfl (lv_at hl 3 rfl) ?_
  refine lv_iconst (v := 2) hx hb dX2_putCell_24 (by decide) ?_
  refine lv_icmp_gt (tgt := 32) hx hb dX2_putCell_25 (by decide) (fun c => absurd c (by decide)) (fun _ => ?_)
  refine lv_iconst (v := 1) hx hb dX2_putCell_28 (by decide) ?_
  refine lv_goto (tgt := 33) hx hb dX2_putCell_29 (by decide) ?_
  refine lv_istore (lv' := [(5, .int 1), (0, .ref h), (1, .int 0), (2, .int 3), (3, .int 1), (4, .int p4)]) hx hb dX2_putCell_33 hl (by decide) rfl (fun ls hl => ?_)
  refine lv_iload hx hb dX2_putCell_35 (lv_at hl 0 rfl) ?_
  refine lv_if_eq (tgt := 67) hx hb dX2_putCell_37 (by decide) (fun c => absurd c (by decide)) (fun _ => ?_)
  refine lv_iload_n hx hb dX2_putCell_40 rfl (lv_at hl 3 rfl) ?_
  refine lv_aload_n hx hb dX2_putCell_41 rfl (lv_at hl 1 rfl) ?_
  refine va_get (D := (dC, dI)) (ci := 2) (v := .ref a2) (C := RX2) (T := TX2) (N := 7) hx hb hts hinX2 hown hK hP 0 rfl rfl 2 (by decide) k_0 (fun _ h9 => h9) rfl dX2_putCell_42 ?_
  refine lv_iload_n hx hb dX2_putCell_45 rfl (lv_at hl 2 rfl) ?_
  refine za_iald (v := 4) hx hb hK hP 2 0 rfl rfl (zin tn_0 (Nat.le_of_ble_eq_true rfl)) (zrd _ tn_0 rfl) dX2_putCell_46 ?_
  refine lv_icmp_ge (tgt := 67) hx hb dX2_putCell_47 (by decide) (fun c => absurd c (by decide)) (fun _ => ?_)
  refine lv_aload_n hx hb dX2_putCell_50 rfl (lv_at hl 1 rfl) ?_
  refine va_get (D := (dC, dI)) (ci := 2) (v := .ref a1) (C := RX2) (T := TX2) (N := 7) hx hb hts hinX2 hown hK hP 0 rfl rfl 1 (by decide) k_1 (fun _ h9 => h9) rfl dX2_putCell_51 ?_
  refine lv_iload_n hx hb dX2_putCell_54 rfl (lv_at hl 2 rfl) ?_
  refine lv_bipush (v := 8) hx hb dX2_putCell_55 (by decide) ?_
  refine lv_imul hx hb dX2_putCell_57 ?_
  refine tp (y := 0) (by decide) ?_
  refine lv_iload_n hx hb dX2_putCell_58 rfl (lv_at hl 3 rfl) ?_
  refine lv_iadd hx hb dX2_putCell_59 ?_
  refine tp (y := 3) (by decide) ?_
  refine lv_iconst (v := 3) hx hb dX2_putCell_60 (by decide) ?_
  refine lv_imul hx hb dX2_putCell_61 ?_
  refine tp (y := 9) (by decide) ?_
  refine lv_iload_n hx hb dX2_putCell_62 rfl (lv_at hl 4 rfl) ?_
  refine lv_iadd hx hb dX2_putCell_63 ?_
  refine tp (y := 10) (by decide) ?_
  refine lv_iload hx hb dX2_putCell_64 (lv_at hl 5 rfl) ?_
  refine za_iast (f' := (upd fc 10 p4)) hx hb hK hP hD hS 1 0 rfl rfl (zin tn_10 (Nat.le_of_ble_eq_true rfl)) (congrArg (fun z => upd _ z _) tn_10.1) dX2_putCell_66 (fun H locs hP hD hS => ?_)
  have hP : va_P (dC, dI) vwCl [(h, .inr (2, [.ref a0, .ref a1, .ref a2, .ref a3, .ref a4, .ref a5, .ref a6])), (a1, .inl (cI, 120, .inl (upd fc 10 p4))), (a2, .inl (cI, 5, .inl (gl [4, 0, 0, 0, 0])))] H := hP
  have hD : va_D A [(h, .inr (2, [.ref a0, .ref a1, .ref a2, .ref a3, .ref a4, .ref a5, .ref a6])), (a1, .inl (cI, 120, .inl (upd fc 10 p4))), (a2, .inl (cI, 5, .inl (gl [4, 0, 0, 0, 0])))] := hD
  have hP9 := hP.sub (ws' := [(h, .inr (2, [.ref a0, .ref a1, .ref a2, .ref a3, .ref a4, .ref a5, .ref a6])), (a1, .inl (cI, 120, .inl (upd fc 10 p4))), (a2, .inl (cI, 5, .inl (gl [4, 0, 0, 0, 0])))]) [0, 1, 2] rfl
  have hD9 := hD.sub (ws' := [(h, .inr (2, [.ref a0, .ref a1, .ref a2, .ref a3, .ref a4, .ref a5, .ref a6])), (a1, .inl (cI, 120, .inl (upd fc 10 p4))), (a2, .inl (cI, 5, .inl (gl [4, 0, 0, 0, 0])))]) [0, 1, 2] (by decide) rfl
  exact W.vret hx hb hr (fun t ht hW => ⟨⟨(), rfl, trivial, by rw [ht]; exact hP9, va_K.moved hW.alike hK, hD9⟩, hS.F ht⟩) hS.2.2 dX2_putCell_67

set_option maxHeartbeats 4000000 in
set_option maxRecDepth 100000 in
theorem kkX2_putCell_032 (l : Launch) (dC : Nat → ClassId) (dI : Nat → Nat → Nat) (cI cB cZ cR : ClassId) (sz : Nat) (h : Nat) (a0 : Nat) (a1 : Nat) (a2 : Nat) (a3 : Nat) (a4 : Nat) (a5 : Nat) (a6 : Nat) (fc : Nat → Int32) (p4 : Int32) : Met l yX2_putCell (.code yX2_putCell cX2_putCell 6 none :: wsL_law) ({ frames := 0, cells := 0, slots := 0, locals := 0 }) (zPc dC dI (zT cI cB cZ cR) [.ref h, .int 0, .int 3, .int 2, .int p4] sz [(h, .inr (2, [.ref a0, .ref a1, .ref a2, .ref a3, .ref a4, .ref a5, .ref a6])), (a1, .inl (cI, 120, .inl fc)), (a2, .inl (cI, 5, .inl (gl [4, 0, 0, 0, 0])))]) (va_Qv (fun _ : Unit => True) (fun _ : Unit => zB dC dI (zT cI cB cZ cR) (va_A [(h, .inr (2, [.ref a0, .ref a1, .ref a2, .ref a3, .ref a4, .ref a5, .ref a6])), (a1, .inl (cI, 120, .inl fc)), (a2, .inl (cI, 5, .inl (gl [4, 0, 0, 0, 0])))] sz) [(h, .inr (2, [.ref a0, .ref a1, .ref a2, .ref a3, .ref a4, .ref a5, .ref a6])), (a1, .inl (cI, 120, .inl (upd fc 11 p4))), (a2, .inl (cI, 5, .inl (gl [4, 0, 0, 0, 0])))]) (va_A [(h, .inr (2, [.ref a0, .ref a1, .ref a2, .ref a3, .ref a4, .ref a5, .ref a6])), (a1, .inl (cI, 120, .inl fc)), (a2, .inl (cI, 5, .inl (gl [4, 0, 0, 0, 0])))] sz)) 0 0 (va_A [(h, .inr (2, [.ref a0, .ref a1, .ref a2, .ref a3, .ref a4, .ref a5, .ref a6])), (a1, .inl (cI, 120, .inl fc)), (a2, .inl (cI, 5, .inl (gl [4, 0, 0, 0, 0])))] sz) := by
  refine Met.ofW (cc := cX2_putCell) (maxL := 6) (ret := none) (by decide) rfl ?_
  intro p e s m args below meth c s₁ B hml hv
  obtain ⟨rfl, hsz, hP, hK, hD0, hN⟩ := hv
  have hx := B.exec
  have hb := B.bytes
  have hr := B.returns
  have hts := atoms_spec (ws := (.code yX2_putCell cX2_putCell 6 none :: wsL_law)) B.pre
  have hown : s.vm.findClass RX2 = some m.cls := findClass_of_methodNamed B.named
  have hlocks := B.notSynchronized
  have hinX2 : ∀ w ∈ u_ws RX2 TX2 7, w ∈ (.code yX2_putCell cX2_putCell 6 none :: wsL_law) := fun w h => List.mem_cons_of_mem _ (inlX2 w h)
  have k_0 := hts (.fieldLink RX2 18 "RingMarks$Ring" "sizes" "[I") (List.mem_cons_of_mem _ wm_63)
  have k_1 := hts (.fieldLink RX2 15 "RingMarks$Ring" "cells" "[I") (List.mem_cons_of_mem _ wm_62)
  subst hsz
  have hD := hD0.self (sz := s.heap.size)
  generalize hAe : va_A [(h, .inr (2, [.ref a0, .ref a1, .ref a2, .ref a3, .ref a4, .ref a5, .ref a6])), (a1, .inl (cI, 120, .inl fc)), (a2, .inl (cI, 5, .inl (gl [4, 0, 0, 0, 0])))] s.heap.size = A at hD ⊢
  have hA : ∀ q : Nat, s.heap.size ≤ q → A q := fun q h => by rw [← hAe]; exact Or.inr h
  have hP : va_P (dC, dI) vwCl [(h, .inr (2, [.ref a0, .ref a1, .ref a2, .ref a3, .ref a4, .ref a5, .ref a6])), (a1, .inl (cI, 120, .inl fc)), (a2, .inl (cI, 5, .inl (gl [4, 0, 0, 0, 0])))] s.heap := hP
  have hl := lv_entry ([.ref h, .int 0, .int 3, .int 2, .int p4]) (n := 6) (Nat.le_of_ble_eq_true rfl)
  rw [lg_entry_eq]
  generalize (lg_sl ([.ref h, .int 0, .int 3, .int 2, .int p4]) ++ List.replicate (6 - (lg_sl ([.ref h, .int 0, .int 3, .int 2, .int p4])).length) Slot.unset).toArray = ls at hl ⊢
  have hl : lv_has ls 6 [(0, .ref h), (1, .int 0), (2, .int 3), (3, .int 2), (4, .int p4)] := hl
  obtain ⟨H, hH⟩ : ∃ H, H = s.heap := ⟨_, rfl⟩
  rw [← hH] at hP ⊢
  have hS : va_S A s.heap H [] := by rw [hH]; exact va_S.rf
  refine lv_iload_n hx hb dX2_putCell_0 rfl (lv_at hl 1 rfl) ?_
  refine lv_if_lt (tgt := 32) hx hb dX2_putCell_1 (by decide) (fun c => absurd c (by decide)) (fun _ => ?_)
  refine lv_iload_n hx hb dX2_putCell_4 rfl (lv_at hl 1 rfl) ?_
  refine lv_iconst (v := 5) hx hb dX2_putCell_5 (by decide) ?_
  refine lv_icmp_ge (tgt := 32) hx hb dX2_putCell_6 (by decide) (fun c => absurd c (by decide)) (fun _ => ?_)
  refine lv_iload_n hx hb dX2_putCell_9 rfl (lv_at hl 2 rfl) ?_
  refine lv_if_lt (tgt := 32) hx hb dX2_putCell_10 (by decide) (fun c => absurd c (by decide)) (fun _ => ?_)
  refine lv_iload_n hx hb dX2_putCell_13 rfl (lv_at hl 2 rfl) ?_
  refine lv_bipush (v := 8) hx hb dX2_putCell_14 (by decide) ?_
  refine lv_icmp_ge (tgt := 32) hx hb dX2_putCell_16 (by decide) (fun c => absurd c (by decide)) (fun _ => ?_)
  refine lv_iload_n hx hb dX2_putCell_19 rfl (lv_at hl 3 rfl) ?_
  refine lv_if_lt (tgt := 32) hx hb dX2_putCell_20 (by decide) (fun c => absurd c (by decide)) (fun _ => ?_)
  refine lv_iload_n hx hb dX2_putCell_23 rfl (lv_at hl 3 rfl) ?_
  refine lv_iconst (v := 2) hx hb dX2_putCell_24 (by decide) ?_
  refine lv_icmp_gt (tgt := 32) hx hb dX2_putCell_25 (by decide) (fun c => absurd c (by decide)) (fun _ => ?_)
  refine lv_iconst (v := 1) hx hb dX2_putCell_28 (by decide) ?_
  refine lv_goto (tgt := 33) hx hb dX2_putCell_29 (by decide) ?_
  refine lv_istore (lv' := [(5, .int 1), (0, .ref h), (1, .int 0), (2, .int 3), (3, .int 2), (4, .int p4)]) hx hb dX2_putCell_33 hl (by decide) rfl (fun ls hl => ?_)
  refine lv_iload hx hb dX2_putCell_35 (lv_at hl 0 rfl) ?_
  refine lv_if_eq (tgt := 67) hx hb dX2_putCell_37 (by decide) (fun c => absurd c (by decide)) (fun _ => ?_)
  refine lv_iload_n hx hb dX2_putCell_40 rfl (lv_at hl 3 rfl) ?_
  refine lv_aload_n hx hb dX2_putCell_41 rfl (lv_at hl 1 rfl) ?_
  refine va_get (D := (dC, dI)) (ci := 2) (v := .ref a2) (C := RX2) (T := TX2) (N := 7) hx hb hts hinX2 hown hK hP 0 rfl rfl 2 (by decide) k_0 (fun _ h9 => h9) rfl dX2_putCell_42 ?_
  refine lv_iload_n hx hb dX2_putCell_45 rfl (lv_at hl 2 rfl) ?_
  refine za_iald (v := 4) hx hb hK hP 2 0 rfl rfl (zin tn_0 (Nat.le_of_ble_eq_true rfl)) (zrd _ tn_0 rfl) dX2_putCell_46 ?_
  refine lv_icmp_ge (tgt := 67) hx hb dX2_putCell_47 (by decide) (fun c => absurd c (by decide)) (fun _ => ?_)
  refine lv_aload_n hx hb dX2_putCell_50 rfl (lv_at hl 1 rfl) ?_
  refine va_get (D := (dC, dI)) (ci := 2) (v := .ref a1) (C := RX2) (T := TX2) (N := 7) hx hb hts hinX2 hown hK hP 0 rfl rfl 1 (by decide) k_1 (fun _ h9 => h9) rfl dX2_putCell_51 ?_
  refine lv_iload_n hx hb dX2_putCell_54 rfl (lv_at hl 2 rfl) ?_
  refine lv_bipush (v := 8) hx hb dX2_putCell_55 (by decide) ?_
  refine lv_imul hx hb dX2_putCell_57 ?_
  refine tp (y := 0) (by decide) ?_
  refine lv_iload_n hx hb dX2_putCell_58 rfl (lv_at hl 3 rfl) ?_
  refine lv_iadd hx hb dX2_putCell_59 ?_
  refine tp (y := 3) (by decide) ?_
  refine lv_iconst (v := 3) hx hb dX2_putCell_60 (by decide) ?_
  refine lv_imul hx hb dX2_putCell_61 ?_
  refine tp (y := 9) (by decide) ?_
  refine lv_iload_n hx hb dX2_putCell_62 rfl (lv_at hl 4 rfl) ?_
  refine lv_iadd hx hb dX2_putCell_63 ?_
  refine tp (y := 11) (by decide) ?_
  refine lv_iload hx hb dX2_putCell_64 (lv_at hl 5 rfl) ?_
  refine za_iast (f' := (upd fc 11 p4)) hx hb hK hP hD hS 1 0 rfl rfl (zin tn_11 (Nat.le_of_ble_eq_true rfl)) (congrArg (fun z => upd _ z _) tn_11.1) dX2_putCell_66 (fun H locs hP hD hS => ?_)
  have hP : va_P (dC, dI) vwCl [(h, .inr (2, [.ref a0, .ref a1, .ref a2, .ref a3, .ref a4, .ref a5, .ref a6])), (a1, .inl (cI, 120, .inl (upd fc 11 p4))), (a2, .inl (cI, 5, .inl (gl [4, 0, 0, 0, 0])))] H := hP
  have hD : va_D A [(h, .inr (2, [.ref a0, .ref a1, .ref a2, .ref a3, .ref a4, .ref a5, .ref a6])), (a1, .inl (cI, 120, .inl (upd fc 11 p4))), (a2, .inl (cI, 5, .inl (gl [4, 0, 0, 0, 0])))] := hD
  have hP9 := hP.sub (ws' := [(h, .inr (2, [.ref a0, .ref a1, .ref a2, .ref a3, .ref a4, .ref a5, .ref a6])), (a1, .inl (cI, 120, .inl (upd fc 11 p4))), (a2, .inl (cI, 5, .inl (gl [4, 0, 0, 0, 0])))]) [0, 1, 2] rfl
  have hD9 := hD.sub (ws' := [(h, .inr (2, [.ref a0, .ref a1, .ref a2, .ref a3, .ref a4, .ref a5, .ref a6])), (a1, .inl (cI, 120, .inl (upd fc 11 p4))), (a2, .inl (cI, 5, .inl (gl [4, 0, 0, 0, 0])))]) [0, 1, 2] (by decide) rfl
  exact W.vret hx hb hr (fun t ht hW => ⟨⟨(), rfl, trivial, by rw [ht]; exact hP9, va_K.moved hW.alike hK, hD9⟩, hS.F ht⟩) hS.2.2 dX2_putCell_67

set_option maxHeartbeats 4000000 in
set_option maxRecDepth 100000 in
theorem kkX2_putCell_m (l : Launch) (dC : Nat → ClassId) (dI : Nat → Nat → Nat) (cI cB cZ cR : ClassId) (sz : Nat) (h : Nat) (a0 : Nat) (a1 : Nat) (a2 : Nat) (a3 : Nat) (a4 : Nat) (a5 : Nat) (a6 : Nat) (p4 : Int32) : Met l yX2_putCell (.code yX2_putCell cX2_putCell 6 none :: wsL_law) ({ frames := 0, cells := 0, slots := 0, locals := 0 }) (zPc dC dI (zT cI cB cZ cR) [.ref h, .int 0, .int (-1), .int 2, .int p4] sz [(h, .inr (2, [.ref a0, .ref a1, .ref a2, .ref a3, .ref a4, .ref a5, .ref a6]))]) (va_Qv (fun _ : Unit => True) (fun _ : Unit => zB dC dI (zT cI cB cZ cR) (va_A [(h, .inr (2, [.ref a0, .ref a1, .ref a2, .ref a3, .ref a4, .ref a5, .ref a6]))] sz) [(h, .inr (2, [.ref a0, .ref a1, .ref a2, .ref a3, .ref a4, .ref a5, .ref a6]))]) (va_A [(h, .inr (2, [.ref a0, .ref a1, .ref a2, .ref a3, .ref a4, .ref a5, .ref a6]))] sz)) 0 0 (va_A [(h, .inr (2, [.ref a0, .ref a1, .ref a2, .ref a3, .ref a4, .ref a5, .ref a6]))] sz) := by
  refine Met.ofW (cc := cX2_putCell) (maxL := 6) (ret := none) (by decide) rfl ?_
  intro p e s m args below meth c s₁ B hml hv
  obtain ⟨rfl, hsz, hP, hK, hD0, hN⟩ := hv
  have hx := B.exec
  have hb := B.bytes
  have hr := B.returns
  have hts := atoms_spec (ws := (.code yX2_putCell cX2_putCell 6 none :: wsL_law)) B.pre
  have hown : s.vm.findClass RX2 = some m.cls := findClass_of_methodNamed B.named
  have hlocks := B.notSynchronized
  subst hsz
  have hD := hD0.self (sz := s.heap.size)
  generalize hAe : va_A [(h, .inr (2, [.ref a0, .ref a1, .ref a2, .ref a3, .ref a4, .ref a5, .ref a6]))] s.heap.size = A at hD ⊢
  have hA : ∀ q : Nat, s.heap.size ≤ q → A q := fun q h => by rw [← hAe]; exact Or.inr h
  have hP : va_P (dC, dI) vwCl [(h, .inr (2, [.ref a0, .ref a1, .ref a2, .ref a3, .ref a4, .ref a5, .ref a6]))] s.heap := hP
  have hl := lv_entry ([.ref h, .int 0, .int (-1), .int 2, .int p4]) (n := 6) (Nat.le_of_ble_eq_true rfl)
  rw [lg_entry_eq]
  generalize (lg_sl ([.ref h, .int 0, .int (-1), .int 2, .int p4]) ++ List.replicate (6 - (lg_sl ([.ref h, .int 0, .int (-1), .int 2, .int p4])).length) Slot.unset).toArray = ls at hl ⊢
  have hl : lv_has ls 6 [(0, .ref h), (1, .int 0), (2, .int (-1)), (3, .int 2), (4, .int p4)] := hl
  obtain ⟨H, hH⟩ : ∃ H, H = s.heap := ⟨_, rfl⟩
  rw [← hH] at hP ⊢
  have hS : va_S A s.heap H [] := by rw [hH]; exact va_S.rf
  refine lv_iload_n hx hb dX2_putCell_0 rfl (lv_at hl 1 rfl) ?_
  refine lv_if_lt (tgt := 32) hx hb dX2_putCell_1 (by decide) (fun c => absurd c (by decide)) (fun _ => ?_)
  refine lv_iload_n hx hb dX2_putCell_4 rfl (lv_at hl 1 rfl) ?_
  refine lv_iconst (v := 5) hx hb dX2_putCell_5 (by decide) ?_
  refine lv_icmp_ge (tgt := 32) hx hb dX2_putCell_6 (by decide) (fun c => absurd c (by decide)) (fun _ => ?_)
  refine lv_iload_n hx hb dX2_putCell_9 rfl (lv_at hl 2 rfl) ?_
  refine lv_if_lt (tgt := 32) hx hb dX2_putCell_10 (by decide) (fun _ => ?_) (fun c => absurd (by decide) c)
  refine lv_iconst (v := 0) hx hb dX2_putCell_32 (by decide) ?_
  refine lv_istore (lv' := [(5, .int 0), (0, .ref h), (1, .int 0), (2, .int (-1)), (3, .int 2), (4, .int p4)]) hx hb dX2_putCell_33 hl (by decide) rfl (fun ls hl => ?_)
  refine lv_iload hx hb dX2_putCell_35 (lv_at hl 0 rfl) ?_
  refine lv_if_eq (tgt := 67) hx hb dX2_putCell_37 (by decide) (fun _ => ?_) (fun c => absurd (by decide) c)
  have hP9 := hP.sub (ws' := [(h, .inr (2, [.ref a0, .ref a1, .ref a2, .ref a3, .ref a4, .ref a5, .ref a6]))]) [0] rfl
  have hD9 := hD.sub (ws' := [(h, .inr (2, [.ref a0, .ref a1, .ref a2, .ref a3, .ref a4, .ref a5, .ref a6]))]) [0] (by decide) rfl
  exact W.vret hx hb hr (fun t ht hW => ⟨⟨(), rfl, trivial, by rw [ht]; exact hP9, va_K.moved hW.alike hK, hD9⟩, hS.F ht⟩) hS.2.2 dX2_putCell_67

set_option maxHeartbeats 4000000 in
set_option maxRecDepth 100000 in
theorem kkX2_putDescriptor_00 (l : Launch) (dC : Nat → ClassId) (dI : Nat → Nat → Nat) (cI cB cZ cR : ClassId) (sz : Nat) (h : Nat) (a0 : Nat) (a1 : Nat) (a2 : Nat) (a3 : Nat) (a4 : Nat) (a5 : Nat) (a6 : Nat) (fc : Nat → Int32) (p3 : Int32) (p4 : Int32) (p5 : Int32) : Met l yX2_putDescriptor (.code yX2_putDescriptor cX2_putDescriptor 6 none :: wsL_law) ({ frames := 1, cells := 0, slots := 0, locals := 25 }) (zPc dC dI (zT cI cB cZ cR) [.ref h, .int 0, .int 0, .int p3, .int p4, .int p5] sz [(h, .inr (2, [.ref a0, .ref a1, .ref a2, .ref a3, .ref a4, .ref a5, .ref a6])), (a1, .inl (cI, 120, .inl fc)), (a2, .inl (cI, 5, .inl (gl [4, 0, 0, 0, 0])))]) (va_Qv (fun _ : Unit => True) (fun _ : Unit => zB dC dI (zT cI cB cZ cR) (va_A [(h, .inr (2, [.ref a0, .ref a1, .ref a2, .ref a3, .ref a4, .ref a5, .ref a6])), (a1, .inl (cI, 120, .inl fc)), (a2, .inl (cI, 5, .inl (gl [4, 0, 0, 0, 0])))] sz) [(h, .inr (2, [.ref a0, .ref a1, .ref a2, .ref a3, .ref a4, .ref a5, .ref a6])), (a1, .inl (cI, 120, .inl (upd (upd (upd fc 0 p3) 1 p4) 2 p5))), (a2, .inl (cI, 5, .inl (gl [4, 0, 0, 0, 0])))]) (va_A [(h, .inr (2, [.ref a0, .ref a1, .ref a2, .ref a3, .ref a4, .ref a5, .ref a6])), (a1, .inl (cI, 120, .inl fc)), (a2, .inl (cI, 5, .inl (gl [4, 0, 0, 0, 0])))] sz)) 0 0 (va_A [(h, .inr (2, [.ref a0, .ref a1, .ref a2, .ref a3, .ref a4, .ref a5, .ref a6])), (a1, .inl (cI, 120, .inl fc)), (a2, .inl (cI, 5, .inl (gl [4, 0, 0, 0, 0])))] sz) := by
  refine Met.ofW (cc := cX2_putDescriptor) (maxL := 6) (ret := none) (by decide) rfl ?_
  intro p e s m args below meth c s₁ B hml hv
  obtain ⟨rfl, hsz, hP, hK, hD0, hN⟩ := hv
  have hx := B.exec
  have hb := B.bytes
  have hr := B.returns
  have hts := atoms_spec (ws := (.code yX2_putDescriptor cX2_putDescriptor 6 none :: wsL_law)) B.pre
  have hown : s.vm.findClass RX2 = some m.cls := findClass_of_methodNamed B.named
  have hlocks := B.notSynchronized
  subst hsz
  have hD := hD0.self (sz := s.heap.size)
  generalize hAe : va_A [(h, .inr (2, [.ref a0, .ref a1, .ref a2, .ref a3, .ref a4, .ref a5, .ref a6])), (a1, .inl (cI, 120, .inl fc)), (a2, .inl (cI, 5, .inl (gl [4, 0, 0, 0, 0])))] s.heap.size = A at hD ⊢
  have hA : ∀ q : Nat, s.heap.size ≤ q → A q := fun q h => by rw [← hAe]; exact Or.inr h
  have hP : va_P (dC, dI) vwCl [(h, .inr (2, [.ref a0, .ref a1, .ref a2, .ref a3, .ref a4, .ref a5, .ref a6])), (a1, .inl (cI, 120, .inl fc)), (a2, .inl (cI, 5, .inl (gl [4, 0, 0, 0, 0])))] s.heap := hP
  have hl := lv_entry ([.ref h, .int 0, .int 0, .int p3, .int p4, .int p5]) (n := 6) (Nat.le_of_ble_eq_true rfl)
  rw [lg_entry_eq]
  generalize (lg_sl ([.ref h, .int 0, .int 0, .int p3, .int p4, .int p5]) ++ List.replicate (6 - (lg_sl ([.ref h, .int 0, .int 0, .int p3, .int p4, .int p5])).length) Slot.unset).toArray = ls at hl ⊢
  have hl : lv_has ls 6 [(0, .ref h), (1, .int 0), (2, .int 0), (3, .int p3), (4, .int p4), (5, .int p5)] := hl
  obtain ⟨H, hH⟩ : ∃ H, H = s.heap := ⟨_, rfl⟩
  rw [← hH] at hP ⊢
  have hS : va_S A s.heap H [] := by rw [hH]; exact va_S.rf
  refine lv_aload_n hx hb dX2_putDescriptor_0 rfl (lv_at hl 0 rfl) ?_
  refine lv_iload_n hx hb dX2_putDescriptor_1 rfl (lv_at hl 1 rfl) ?_
  refine lv_iload_n hx hb dX2_putDescriptor_2 rfl (lv_at hl 2 rfl) ?_
  refine lv_iconst (v := 0) hx hb dX2_putDescriptor_3 (by decide) ?_
  refine lv_iload_n hx hb dX2_putDescriptor_4 rfl (lv_at hl 3 rfl) ?_
  refine zcVv (As := [.int 0, .int 0, .int 0, .int p3]) (rest := []) (wr := []) ⟨hx, hb, hml, hown, hts⟩ (kkX2_putCell_000 l dC dI cI cB cZ cR H.size h a0 a1 a2 a3 a4 a5 a6 fc p3 ) (cwV 4 hts (zgV wm_84 wm_85 wm_86 wm_22 wm_87) rfl rfl rfl (by decide +kernel) ⟨Nat.le_of_ble_eq_true rfl, Nat.le_of_ble_eq_true rfl⟩) hN hK hP hD hS hA [0, 1, 2] [] rfl rfl ⟨rfl, rfl⟩ (by decide) (ci := 2) rfl rfl rfl rfl hl.1 rfl (Nat.le_of_ble_eq_true rfl) dX2_putDescriptor_5 ⟨Nat.le_of_ble_eq_true rfl, Nat.le_of_ble_eq_true rfl⟩ (fun u hu H locs hP hD hS => ?_)
  have hP : va_P (dC, dI) vwCl [(h, .inr (2, [.ref a0, .ref a1, .ref a2, .ref a3, .ref a4, .ref a5, .ref a6])), (a1, .inl (cI, 120, .inl (upd fc 0 p3))), (a2, .inl (cI, 5, .inl (gl [4, 0, 0, 0, 0])))] H := hP
  have hD : va_D A [(h, .inr (2, [.ref a0, .ref a1, .ref a2, .ref a3, .ref a4, .ref a5, .ref a6])), (a1, .inl (cI, 120, .inl (upd fc 0 p3))), (a2, .inl (cI, 5, .inl (gl [4, 0, 0, 0, 0])))] := hD
  refine lv_aload_n hx hb dX2_putDescriptor_8 rfl (lv_at hl 0 rfl) ?_
  refine lv_iload_n hx hb dX2_putDescriptor_9 rfl (lv_at hl 1 rfl) ?_
  refine lv_iload_n hx hb dX2_putDescriptor_10 rfl (lv_at hl 2 rfl) ?_
  refine lv_iconst (v := 1) hx hb dX2_putDescriptor_11 (by decide) ?_
  refine lv_iload hx hb dX2_putDescriptor_12 (lv_at hl 4 rfl) ?_
  refine zcVv (As := [.int 0, .int 0, .int 1, .int p4]) (rest := []) (wr := []) ⟨hx, hb, hml, hown, hts⟩ (kkX2_putCell_001 l dC dI cI cB cZ cR H.size h a0 a1 a2 a3 a4 a5 a6 (upd fc 0 p3) p4 ) (cwV 4 hts (zgV wm_84 wm_85 wm_86 wm_22 wm_87) rfl rfl rfl (by decide +kernel) ⟨Nat.le_of_ble_eq_true rfl, Nat.le_of_ble_eq_true rfl⟩) hN hK hP hD hS hA [0, 1, 2] [] rfl rfl ⟨rfl, rfl⟩ (by decide) (ci := 2) rfl rfl rfl rfl hl.1 rfl (Nat.le_of_ble_eq_true rfl) dX2_putDescriptor_14 ⟨Nat.le_of_ble_eq_true rfl, Nat.le_of_ble_eq_true rfl⟩ (fun u hu H locs hP hD hS => ?_)
  have hP : va_P (dC, dI) vwCl [(h, .inr (2, [.ref a0, .ref a1, .ref a2, .ref a3, .ref a4, .ref a5, .ref a6])), (a1, .inl (cI, 120, .inl (upd (upd fc 0 p3) 1 p4))), (a2, .inl (cI, 5, .inl (gl [4, 0, 0, 0, 0])))] H := hP
  have hD : va_D A [(h, .inr (2, [.ref a0, .ref a1, .ref a2, .ref a3, .ref a4, .ref a5, .ref a6])), (a1, .inl (cI, 120, .inl (upd (upd fc 0 p3) 1 p4))), (a2, .inl (cI, 5, .inl (gl [4, 0, 0, 0, 0])))] := hD
  refine lv_aload_n hx hb dX2_putDescriptor_17 rfl (lv_at hl 0 rfl) ?_
  refine lv_iload_n hx hb dX2_putDescriptor_18 rfl (lv_at hl 1 rfl) ?_
  refine lv_iload_n hx hb dX2_putDescriptor_19 rfl (lv_at hl 2 rfl) ?_
  refine lv_iconst (v := 2) hx hb dX2_putDescriptor_20 (by decide) ?_
  refine lv_iload hx hb dX2_putDescriptor_21 (lv_at hl 5 rfl) ?_
  refine zcVv (As := [.int 0, .int 0, .int 2, .int p5]) (rest := []) (wr := []) ⟨hx, hb, hml, hown, hts⟩ (kkX2_putCell_002 l dC dI cI cB cZ cR H.size h a0 a1 a2 a3 a4 a5 a6 (upd (upd fc 0 p3) 1 p4) p5 ) (cwV 4 hts (zgV wm_84 wm_85 wm_86 wm_22 wm_87) rfl rfl rfl (by decide +kernel) ⟨Nat.le_of_ble_eq_true rfl, Nat.le_of_ble_eq_true rfl⟩) hN hK hP hD hS hA [0, 1, 2] [] rfl rfl ⟨rfl, rfl⟩ (by decide) (ci := 2) rfl rfl rfl rfl hl.1 rfl (Nat.le_of_ble_eq_true rfl) dX2_putDescriptor_23 ⟨Nat.le_of_ble_eq_true rfl, Nat.le_of_ble_eq_true rfl⟩ (fun u hu H locs hP hD hS => ?_)
  have hP : va_P (dC, dI) vwCl [(h, .inr (2, [.ref a0, .ref a1, .ref a2, .ref a3, .ref a4, .ref a5, .ref a6])), (a1, .inl (cI, 120, .inl (upd (upd (upd fc 0 p3) 1 p4) 2 p5))), (a2, .inl (cI, 5, .inl (gl [4, 0, 0, 0, 0])))] H := hP
  have hD : va_D A [(h, .inr (2, [.ref a0, .ref a1, .ref a2, .ref a3, .ref a4, .ref a5, .ref a6])), (a1, .inl (cI, 120, .inl (upd (upd (upd fc 0 p3) 1 p4) 2 p5))), (a2, .inl (cI, 5, .inl (gl [4, 0, 0, 0, 0])))] := hD
  have hP9 := hP.sub (ws' := [(h, .inr (2, [.ref a0, .ref a1, .ref a2, .ref a3, .ref a4, .ref a5, .ref a6])), (a1, .inl (cI, 120, .inl (upd (upd (upd fc 0 p3) 1 p4) 2 p5))), (a2, .inl (cI, 5, .inl (gl [4, 0, 0, 0, 0])))]) [0, 1, 2] rfl
  have hD9 := hD.sub (ws' := [(h, .inr (2, [.ref a0, .ref a1, .ref a2, .ref a3, .ref a4, .ref a5, .ref a6])), (a1, .inl (cI, 120, .inl (upd (upd (upd fc 0 p3) 1 p4) 2 p5))), (a2, .inl (cI, 5, .inl (gl [4, 0, 0, 0, 0])))]) [0, 1, 2] (by decide) rfl
  exact W.vret hx hb hr (fun t ht hW => ⟨⟨(), rfl, trivial, by rw [ht]; exact hP9, va_K.moved hW.alike hK, hD9⟩, hS.F ht⟩) hS.2.2 dX2_putDescriptor_26

set_option maxHeartbeats 4000000 in
set_option maxRecDepth 100000 in
theorem kkX2_putDescriptor_01 (l : Launch) (dC : Nat → ClassId) (dI : Nat → Nat → Nat) (cI cB cZ cR : ClassId) (sz : Nat) (h : Nat) (a0 : Nat) (a1 : Nat) (a2 : Nat) (a3 : Nat) (a4 : Nat) (a5 : Nat) (a6 : Nat) (fc : Nat → Int32) (p3 : Int32) (p4 : Int32) (p5 : Int32) : Met l yX2_putDescriptor (.code yX2_putDescriptor cX2_putDescriptor 6 none :: wsL_law) ({ frames := 1, cells := 0, slots := 0, locals := 25 }) (zPc dC dI (zT cI cB cZ cR) [.ref h, .int 0, .int 1, .int p3, .int p4, .int p5] sz [(h, .inr (2, [.ref a0, .ref a1, .ref a2, .ref a3, .ref a4, .ref a5, .ref a6])), (a1, .inl (cI, 120, .inl fc)), (a2, .inl (cI, 5, .inl (gl [4, 0, 0, 0, 0])))]) (va_Qv (fun _ : Unit => True) (fun _ : Unit => zB dC dI (zT cI cB cZ cR) (va_A [(h, .inr (2, [.ref a0, .ref a1, .ref a2, .ref a3, .ref a4, .ref a5, .ref a6])), (a1, .inl (cI, 120, .inl fc)), (a2, .inl (cI, 5, .inl (gl [4, 0, 0, 0, 0])))] sz) [(h, .inr (2, [.ref a0, .ref a1, .ref a2, .ref a3, .ref a4, .ref a5, .ref a6])), (a1, .inl (cI, 120, .inl (upd (upd (upd fc 3 p3) 4 p4) 5 p5))), (a2, .inl (cI, 5, .inl (gl [4, 0, 0, 0, 0])))]) (va_A [(h, .inr (2, [.ref a0, .ref a1, .ref a2, .ref a3, .ref a4, .ref a5, .ref a6])), (a1, .inl (cI, 120, .inl fc)), (a2, .inl (cI, 5, .inl (gl [4, 0, 0, 0, 0])))] sz)) 0 0 (va_A [(h, .inr (2, [.ref a0, .ref a1, .ref a2, .ref a3, .ref a4, .ref a5, .ref a6])), (a1, .inl (cI, 120, .inl fc)), (a2, .inl (cI, 5, .inl (gl [4, 0, 0, 0, 0])))] sz) := by
  refine Met.ofW (cc := cX2_putDescriptor) (maxL := 6) (ret := none) (by decide) rfl ?_
  intro p e s m args below meth c s₁ B hml hv
  obtain ⟨rfl, hsz, hP, hK, hD0, hN⟩ := hv
  have hx := B.exec
  have hb := B.bytes
  have hr := B.returns
  have hts := atoms_spec (ws := (.code yX2_putDescriptor cX2_putDescriptor 6 none :: wsL_law)) B.pre
  have hown : s.vm.findClass RX2 = some m.cls := findClass_of_methodNamed B.named
  have hlocks := B.notSynchronized
  subst hsz
  have hD := hD0.self (sz := s.heap.size)
  generalize hAe : va_A [(h, .inr (2, [.ref a0, .ref a1, .ref a2, .ref a3, .ref a4, .ref a5, .ref a6])), (a1, .inl (cI, 120, .inl fc)), (a2, .inl (cI, 5, .inl (gl [4, 0, 0, 0, 0])))] s.heap.size = A at hD ⊢
  have hA : ∀ q : Nat, s.heap.size ≤ q → A q := fun q h => by rw [← hAe]; exact Or.inr h
  have hP : va_P (dC, dI) vwCl [(h, .inr (2, [.ref a0, .ref a1, .ref a2, .ref a3, .ref a4, .ref a5, .ref a6])), (a1, .inl (cI, 120, .inl fc)), (a2, .inl (cI, 5, .inl (gl [4, 0, 0, 0, 0])))] s.heap := hP
  have hl := lv_entry ([.ref h, .int 0, .int 1, .int p3, .int p4, .int p5]) (n := 6) (Nat.le_of_ble_eq_true rfl)
  rw [lg_entry_eq]
  generalize (lg_sl ([.ref h, .int 0, .int 1, .int p3, .int p4, .int p5]) ++ List.replicate (6 - (lg_sl ([.ref h, .int 0, .int 1, .int p3, .int p4, .int p5])).length) Slot.unset).toArray = ls at hl ⊢
  have hl : lv_has ls 6 [(0, .ref h), (1, .int 0), (2, .int 1), (3, .int p3), (4, .int p4), (5, .int p5)] := hl
  obtain ⟨H, hH⟩ : ∃ H, H = s.heap := ⟨_, rfl⟩
  rw [← hH] at hP ⊢
  have hS : va_S A s.heap H [] := by rw [hH]; exact va_S.rf
  refine lv_aload_n hx hb dX2_putDescriptor_0 rfl (lv_at hl 0 rfl) ?_
  refine lv_iload_n hx hb dX2_putDescriptor_1 rfl (lv_at hl 1 rfl) ?_
  refine lv_iload_n hx hb dX2_putDescriptor_2 rfl (lv_at hl 2 rfl) ?_
  refine lv_iconst (v := 0) hx hb dX2_putDescriptor_3 (by decide) ?_
  refine lv_iload_n hx hb dX2_putDescriptor_4 rfl (lv_at hl 3 rfl) ?_
  refine zcVv (As := [.int 0, .int 1, .int 0, .int p3]) (rest := []) (wr := []) ⟨hx, hb, hml, hown, hts⟩ (kkX2_putCell_010 l dC dI cI cB cZ cR H.size h a0 a1 a2 a3 a4 a5 a6 fc p3 ) (cwV 4 hts (zgV wm_84 wm_85 wm_86 wm_22 wm_87) rfl rfl rfl (by decide +kernel) ⟨Nat.le_of_ble_eq_true rfl, Nat.le_of_ble_eq_true rfl⟩) hN hK hP hD hS hA [0, 1, 2] [] rfl rfl ⟨rfl, rfl⟩ (by decide) (ci := 2) rfl rfl rfl rfl hl.1 rfl (Nat.le_of_ble_eq_true rfl) dX2_putDescriptor_5 ⟨Nat.le_of_ble_eq_true rfl, Nat.le_of_ble_eq_true rfl⟩ (fun u hu H locs hP hD hS => ?_)
  have hP : va_P (dC, dI) vwCl [(h, .inr (2, [.ref a0, .ref a1, .ref a2, .ref a3, .ref a4, .ref a5, .ref a6])), (a1, .inl (cI, 120, .inl (upd fc 3 p3))), (a2, .inl (cI, 5, .inl (gl [4, 0, 0, 0, 0])))] H := hP
  have hD : va_D A [(h, .inr (2, [.ref a0, .ref a1, .ref a2, .ref a3, .ref a4, .ref a5, .ref a6])), (a1, .inl (cI, 120, .inl (upd fc 3 p3))), (a2, .inl (cI, 5, .inl (gl [4, 0, 0, 0, 0])))] := hD
  refine lv_aload_n hx hb dX2_putDescriptor_8 rfl (lv_at hl 0 rfl) ?_
  refine lv_iload_n hx hb dX2_putDescriptor_9 rfl (lv_at hl 1 rfl) ?_
  refine lv_iload_n hx hb dX2_putDescriptor_10 rfl (lv_at hl 2 rfl) ?_
  refine lv_iconst (v := 1) hx hb dX2_putDescriptor_11 (by decide) ?_
  refine lv_iload hx hb dX2_putDescriptor_12 (lv_at hl 4 rfl) ?_
  refine zcVv (As := [.int 0, .int 1, .int 1, .int p4]) (rest := []) (wr := []) ⟨hx, hb, hml, hown, hts⟩ (kkX2_putCell_011 l dC dI cI cB cZ cR H.size h a0 a1 a2 a3 a4 a5 a6 (upd fc 3 p3) p4 ) (cwV 4 hts (zgV wm_84 wm_85 wm_86 wm_22 wm_87) rfl rfl rfl (by decide +kernel) ⟨Nat.le_of_ble_eq_true rfl, Nat.le_of_ble_eq_true rfl⟩) hN hK hP hD hS hA [0, 1, 2] [] rfl rfl ⟨rfl, rfl⟩ (by decide) (ci := 2) rfl rfl rfl rfl hl.1 rfl (Nat.le_of_ble_eq_true rfl) dX2_putDescriptor_14 ⟨Nat.le_of_ble_eq_true rfl, Nat.le_of_ble_eq_true rfl⟩ (fun u hu H locs hP hD hS => ?_)
  have hP : va_P (dC, dI) vwCl [(h, .inr (2, [.ref a0, .ref a1, .ref a2, .ref a3, .ref a4, .ref a5, .ref a6])), (a1, .inl (cI, 120, .inl (upd (upd fc 3 p3) 4 p4))), (a2, .inl (cI, 5, .inl (gl [4, 0, 0, 0, 0])))] H := hP
  have hD : va_D A [(h, .inr (2, [.ref a0, .ref a1, .ref a2, .ref a3, .ref a4, .ref a5, .ref a6])), (a1, .inl (cI, 120, .inl (upd (upd fc 3 p3) 4 p4))), (a2, .inl (cI, 5, .inl (gl [4, 0, 0, 0, 0])))] := hD
  refine lv_aload_n hx hb dX2_putDescriptor_17 rfl (lv_at hl 0 rfl) ?_
  refine lv_iload_n hx hb dX2_putDescriptor_18 rfl (lv_at hl 1 rfl) ?_
  refine lv_iload_n hx hb dX2_putDescriptor_19 rfl (lv_at hl 2 rfl) ?_
  refine lv_iconst (v := 2) hx hb dX2_putDescriptor_20 (by decide) ?_
  refine lv_iload hx hb dX2_putDescriptor_21 (lv_at hl 5 rfl) ?_
  refine zcVv (As := [.int 0, .int 1, .int 2, .int p5]) (rest := []) (wr := []) ⟨hx, hb, hml, hown, hts⟩ (kkX2_putCell_012 l dC dI cI cB cZ cR H.size h a0 a1 a2 a3 a4 a5 a6 (upd (upd fc 3 p3) 4 p4) p5 ) (cwV 4 hts (zgV wm_84 wm_85 wm_86 wm_22 wm_87) rfl rfl rfl (by decide +kernel) ⟨Nat.le_of_ble_eq_true rfl, Nat.le_of_ble_eq_true rfl⟩) hN hK hP hD hS hA [0, 1, 2] [] rfl rfl ⟨rfl, rfl⟩ (by decide) (ci := 2) rfl rfl rfl rfl hl.1 rfl (Nat.le_of_ble_eq_true rfl) dX2_putDescriptor_23 ⟨Nat.le_of_ble_eq_true rfl, Nat.le_of_ble_eq_true rfl⟩ (fun u hu H locs hP hD hS => ?_)
  have hP : va_P (dC, dI) vwCl [(h, .inr (2, [.ref a0, .ref a1, .ref a2, .ref a3, .ref a4, .ref a5, .ref a6])), (a1, .inl (cI, 120, .inl (upd (upd (upd fc 3 p3) 4 p4) 5 p5))), (a2, .inl (cI, 5, .inl (gl [4, 0, 0, 0, 0])))] H := hP
  have hD : va_D A [(h, .inr (2, [.ref a0, .ref a1, .ref a2, .ref a3, .ref a4, .ref a5, .ref a6])), (a1, .inl (cI, 120, .inl (upd (upd (upd fc 3 p3) 4 p4) 5 p5))), (a2, .inl (cI, 5, .inl (gl [4, 0, 0, 0, 0])))] := hD
  have hP9 := hP.sub (ws' := [(h, .inr (2, [.ref a0, .ref a1, .ref a2, .ref a3, .ref a4, .ref a5, .ref a6])), (a1, .inl (cI, 120, .inl (upd (upd (upd fc 3 p3) 4 p4) 5 p5))), (a2, .inl (cI, 5, .inl (gl [4, 0, 0, 0, 0])))]) [0, 1, 2] rfl
  have hD9 := hD.sub (ws' := [(h, .inr (2, [.ref a0, .ref a1, .ref a2, .ref a3, .ref a4, .ref a5, .ref a6])), (a1, .inl (cI, 120, .inl (upd (upd (upd fc 3 p3) 4 p4) 5 p5))), (a2, .inl (cI, 5, .inl (gl [4, 0, 0, 0, 0])))]) [0, 1, 2] (by decide) rfl
  exact W.vret hx hb hr (fun t ht hW => ⟨⟨(), rfl, trivial, by rw [ht]; exact hP9, va_K.moved hW.alike hK, hD9⟩, hS.F ht⟩) hS.2.2 dX2_putDescriptor_26

set_option maxHeartbeats 4000000 in
set_option maxRecDepth 100000 in
theorem kkX2_putDescriptor_02 (l : Launch) (dC : Nat → ClassId) (dI : Nat → Nat → Nat) (cI cB cZ cR : ClassId) (sz : Nat) (h : Nat) (a0 : Nat) (a1 : Nat) (a2 : Nat) (a3 : Nat) (a4 : Nat) (a5 : Nat) (a6 : Nat) (fc : Nat → Int32) (p3 : Int32) (p4 : Int32) (p5 : Int32) : Met l yX2_putDescriptor (.code yX2_putDescriptor cX2_putDescriptor 6 none :: wsL_law) ({ frames := 1, cells := 0, slots := 0, locals := 25 }) (zPc dC dI (zT cI cB cZ cR) [.ref h, .int 0, .int 2, .int p3, .int p4, .int p5] sz [(h, .inr (2, [.ref a0, .ref a1, .ref a2, .ref a3, .ref a4, .ref a5, .ref a6])), (a1, .inl (cI, 120, .inl fc)), (a2, .inl (cI, 5, .inl (gl [4, 0, 0, 0, 0])))]) (va_Qv (fun _ : Unit => True) (fun _ : Unit => zB dC dI (zT cI cB cZ cR) (va_A [(h, .inr (2, [.ref a0, .ref a1, .ref a2, .ref a3, .ref a4, .ref a5, .ref a6])), (a1, .inl (cI, 120, .inl fc)), (a2, .inl (cI, 5, .inl (gl [4, 0, 0, 0, 0])))] sz) [(h, .inr (2, [.ref a0, .ref a1, .ref a2, .ref a3, .ref a4, .ref a5, .ref a6])), (a1, .inl (cI, 120, .inl (upd (upd (upd fc 6 p3) 7 p4) 8 p5))), (a2, .inl (cI, 5, .inl (gl [4, 0, 0, 0, 0])))]) (va_A [(h, .inr (2, [.ref a0, .ref a1, .ref a2, .ref a3, .ref a4, .ref a5, .ref a6])), (a1, .inl (cI, 120, .inl fc)), (a2, .inl (cI, 5, .inl (gl [4, 0, 0, 0, 0])))] sz)) 0 0 (va_A [(h, .inr (2, [.ref a0, .ref a1, .ref a2, .ref a3, .ref a4, .ref a5, .ref a6])), (a1, .inl (cI, 120, .inl fc)), (a2, .inl (cI, 5, .inl (gl [4, 0, 0, 0, 0])))] sz) := by
  refine Met.ofW (cc := cX2_putDescriptor) (maxL := 6) (ret := none) (by decide) rfl ?_
  intro p e s m args below meth c s₁ B hml hv
  obtain ⟨rfl, hsz, hP, hK, hD0, hN⟩ := hv
  have hx := B.exec
  have hb := B.bytes
  have hr := B.returns
  have hts := atoms_spec (ws := (.code yX2_putDescriptor cX2_putDescriptor 6 none :: wsL_law)) B.pre
  have hown : s.vm.findClass RX2 = some m.cls := findClass_of_methodNamed B.named
  have hlocks := B.notSynchronized
  subst hsz
  have hD := hD0.self (sz := s.heap.size)
  generalize hAe : va_A [(h, .inr (2, [.ref a0, .ref a1, .ref a2, .ref a3, .ref a4, .ref a5, .ref a6])), (a1, .inl (cI, 120, .inl fc)), (a2, .inl (cI, 5, .inl (gl [4, 0, 0, 0, 0])))] s.heap.size = A at hD ⊢
  have hA : ∀ q : Nat, s.heap.size ≤ q → A q := fun q h => by rw [← hAe]; exact Or.inr h
  have hP : va_P (dC, dI) vwCl [(h, .inr (2, [.ref a0, .ref a1, .ref a2, .ref a3, .ref a4, .ref a5, .ref a6])), (a1, .inl (cI, 120, .inl fc)), (a2, .inl (cI, 5, .inl (gl [4, 0, 0, 0, 0])))] s.heap := hP
  have hl := lv_entry ([.ref h, .int 0, .int 2, .int p3, .int p4, .int p5]) (n := 6) (Nat.le_of_ble_eq_true rfl)
  rw [lg_entry_eq]
  generalize (lg_sl ([.ref h, .int 0, .int 2, .int p3, .int p4, .int p5]) ++ List.replicate (6 - (lg_sl ([.ref h, .int 0, .int 2, .int p3, .int p4, .int p5])).length) Slot.unset).toArray = ls at hl ⊢
  have hl : lv_has ls 6 [(0, .ref h), (1, .int 0), (2, .int 2), (3, .int p3), (4, .int p4), (5, .int p5)] := hl
  obtain ⟨H, hH⟩ : ∃ H, H = s.heap := ⟨_, rfl⟩
  rw [← hH] at hP ⊢
  have hS : va_S A s.heap H [] := by rw [hH]; exact va_S.rf
  refine lv_aload_n hx hb dX2_putDescriptor_0 rfl (lv_at hl 0 rfl) ?_
  refine lv_iload_n hx hb dX2_putDescriptor_1 rfl (lv_at hl 1 rfl) ?_
  refine lv_iload_n hx hb dX2_putDescriptor_2 rfl (lv_at hl 2 rfl) ?_
  refine lv_iconst (v := 0) hx hb dX2_putDescriptor_3 (by decide) ?_
  refine lv_iload_n hx hb dX2_putDescriptor_4 rfl (lv_at hl 3 rfl) ?_
  refine zcVv (As := [.int 0, .int 2, .int 0, .int p3]) (rest := []) (wr := []) ⟨hx, hb, hml, hown, hts⟩ (kkX2_putCell_020 l dC dI cI cB cZ cR H.size h a0 a1 a2 a3 a4 a5 a6 fc p3 ) (cwV 4 hts (zgV wm_84 wm_85 wm_86 wm_22 wm_87) rfl rfl rfl (by decide +kernel) ⟨Nat.le_of_ble_eq_true rfl, Nat.le_of_ble_eq_true rfl⟩) hN hK hP hD hS hA [0, 1, 2] [] rfl rfl ⟨rfl, rfl⟩ (by decide) (ci := 2) rfl rfl rfl rfl hl.1 rfl (Nat.le_of_ble_eq_true rfl) dX2_putDescriptor_5 ⟨Nat.le_of_ble_eq_true rfl, Nat.le_of_ble_eq_true rfl⟩ (fun u hu H locs hP hD hS => ?_)
  have hP : va_P (dC, dI) vwCl [(h, .inr (2, [.ref a0, .ref a1, .ref a2, .ref a3, .ref a4, .ref a5, .ref a6])), (a1, .inl (cI, 120, .inl (upd fc 6 p3))), (a2, .inl (cI, 5, .inl (gl [4, 0, 0, 0, 0])))] H := hP
  have hD : va_D A [(h, .inr (2, [.ref a0, .ref a1, .ref a2, .ref a3, .ref a4, .ref a5, .ref a6])), (a1, .inl (cI, 120, .inl (upd fc 6 p3))), (a2, .inl (cI, 5, .inl (gl [4, 0, 0, 0, 0])))] := hD
  refine lv_aload_n hx hb dX2_putDescriptor_8 rfl (lv_at hl 0 rfl) ?_
  refine lv_iload_n hx hb dX2_putDescriptor_9 rfl (lv_at hl 1 rfl) ?_
  refine lv_iload_n hx hb dX2_putDescriptor_10 rfl (lv_at hl 2 rfl) ?_
  refine lv_iconst (v := 1) hx hb dX2_putDescriptor_11 (by decide) ?_
  refine lv_iload hx hb dX2_putDescriptor_12 (lv_at hl 4 rfl) ?_
  refine zcVv (As := [.int 0, .int 2, .int 1, .int p4]) (rest := []) (wr := []) ⟨hx, hb, hml, hown, hts⟩ (kkX2_putCell_021 l dC dI cI cB cZ cR H.size h a0 a1 a2 a3 a4 a5 a6 (upd fc 6 p3) p4 ) (cwV 4 hts (zgV wm_84 wm_85 wm_86 wm_22 wm_87) rfl rfl rfl (by decide +kernel) ⟨Nat.le_of_ble_eq_true rfl, Nat.le_of_ble_eq_true rfl⟩) hN hK hP hD hS hA [0, 1, 2] [] rfl rfl ⟨rfl, rfl⟩ (by decide) (ci := 2) rfl rfl rfl rfl hl.1 rfl (Nat.le_of_ble_eq_true rfl) dX2_putDescriptor_14 ⟨Nat.le_of_ble_eq_true rfl, Nat.le_of_ble_eq_true rfl⟩ (fun u hu H locs hP hD hS => ?_)
  have hP : va_P (dC, dI) vwCl [(h, .inr (2, [.ref a0, .ref a1, .ref a2, .ref a3, .ref a4, .ref a5, .ref a6])), (a1, .inl (cI, 120, .inl (upd (upd fc 6 p3) 7 p4))), (a2, .inl (cI, 5, .inl (gl [4, 0, 0, 0, 0])))] H := hP
  have hD : va_D A [(h, .inr (2, [.ref a0, .ref a1, .ref a2, .ref a3, .ref a4, .ref a5, .ref a6])), (a1, .inl (cI, 120, .inl (upd (upd fc 6 p3) 7 p4))), (a2, .inl (cI, 5, .inl (gl [4, 0, 0, 0, 0])))] := hD
  refine lv_aload_n hx hb dX2_putDescriptor_17 rfl (lv_at hl 0 rfl) ?_
  refine lv_iload_n hx hb dX2_putDescriptor_18 rfl (lv_at hl 1 rfl) ?_
  refine lv_iload_n hx hb dX2_putDescriptor_19 rfl (lv_at hl 2 rfl) ?_
  refine lv_iconst (v := 2) hx hb dX2_putDescriptor_20 (by decide) ?_
  refine lv_iload hx hb dX2_putDescriptor_21 (lv_at hl 5 rfl) ?_
  refine zcVv (As := [.int 0, .int 2, .int 2, .int p5]) (rest := []) (wr := []) ⟨hx, hb, hml, hown, hts⟩ (kkX2_putCell_022 l dC dI cI cB cZ cR H.size h a0 a1 a2 a3 a4 a5 a6 (upd (upd fc 6 p3) 7 p4) p5 ) (cwV 4 hts (zgV wm_84 wm_85 wm_86 wm_22 wm_87) rfl rfl rfl (by decide +kernel) ⟨Nat.le_of_ble_eq_true rfl, Nat.le_of_ble_eq_true rfl⟩) hN hK hP hD hS hA [0, 1, 2] [] rfl rfl ⟨rfl, rfl⟩ (by decide) (ci := 2) rfl rfl rfl rfl hl.1 rfl (Nat.le_of_ble_eq_true rfl) dX2_putDescriptor_23 ⟨Nat.le_of_ble_eq_true rfl, Nat.le_of_ble_eq_true rfl⟩ (fun u hu H locs hP hD hS => ?_)
  have hP : va_P (dC, dI) vwCl [(h, .inr (2, [.ref a0, .ref a1, .ref a2, .ref a3, .ref a4, .ref a5, .ref a6])), (a1, .inl (cI, 120, .inl (upd (upd (upd fc 6 p3) 7 p4) 8 p5))), (a2, .inl (cI, 5, .inl (gl [4, 0, 0, 0, 0])))] H := hP
  have hD : va_D A [(h, .inr (2, [.ref a0, .ref a1, .ref a2, .ref a3, .ref a4, .ref a5, .ref a6])), (a1, .inl (cI, 120, .inl (upd (upd (upd fc 6 p3) 7 p4) 8 p5))), (a2, .inl (cI, 5, .inl (gl [4, 0, 0, 0, 0])))] := hD
  have hP9 := hP.sub (ws' := [(h, .inr (2, [.ref a0, .ref a1, .ref a2, .ref a3, .ref a4, .ref a5, .ref a6])), (a1, .inl (cI, 120, .inl (upd (upd (upd fc 6 p3) 7 p4) 8 p5))), (a2, .inl (cI, 5, .inl (gl [4, 0, 0, 0, 0])))]) [0, 1, 2] rfl
  have hD9 := hD.sub (ws' := [(h, .inr (2, [.ref a0, .ref a1, .ref a2, .ref a3, .ref a4, .ref a5, .ref a6])), (a1, .inl (cI, 120, .inl (upd (upd (upd fc 6 p3) 7 p4) 8 p5))), (a2, .inl (cI, 5, .inl (gl [4, 0, 0, 0, 0])))]) [0, 1, 2] (by decide) rfl
  exact W.vret hx hb hr (fun t ht hW => ⟨⟨(), rfl, trivial, by rw [ht]; exact hP9, va_K.moved hW.alike hK, hD9⟩, hS.F ht⟩) hS.2.2 dX2_putDescriptor_26

set_option maxHeartbeats 4000000 in
set_option maxRecDepth 100000 in
theorem kkX2_putDescriptor_03 (l : Launch) (dC : Nat → ClassId) (dI : Nat → Nat → Nat) (cI cB cZ cR : ClassId) (sz : Nat) (h : Nat) (a0 : Nat) (a1 : Nat) (a2 : Nat) (a3 : Nat) (a4 : Nat) (a5 : Nat) (a6 : Nat) (fc : Nat → Int32) (p3 : Int32) (p4 : Int32) (p5 : Int32) : Met l yX2_putDescriptor (.code yX2_putDescriptor cX2_putDescriptor 6 none :: wsL_law) ({ frames := 1, cells := 0, slots := 0, locals := 25 }) (zPc dC dI (zT cI cB cZ cR) [.ref h, .int 0, .int 3, .int p3, .int p4, .int p5] sz [(h, .inr (2, [.ref a0, .ref a1, .ref a2, .ref a3, .ref a4, .ref a5, .ref a6])), (a1, .inl (cI, 120, .inl fc)), (a2, .inl (cI, 5, .inl (gl [4, 0, 0, 0, 0])))]) (va_Qv (fun _ : Unit => True) (fun _ : Unit => zB dC dI (zT cI cB cZ cR) (va_A [(h, .inr (2, [.ref a0, .ref a1, .ref a2, .ref a3, .ref a4, .ref a5, .ref a6])), (a1, .inl (cI, 120, .inl fc)), (a2, .inl (cI, 5, .inl (gl [4, 0, 0, 0, 0])))] sz) [(h, .inr (2, [.ref a0, .ref a1, .ref a2, .ref a3, .ref a4, .ref a5, .ref a6])), (a1, .inl (cI, 120, .inl (upd (upd (upd fc 9 p3) 10 p4) 11 p5))), (a2, .inl (cI, 5, .inl (gl [4, 0, 0, 0, 0])))]) (va_A [(h, .inr (2, [.ref a0, .ref a1, .ref a2, .ref a3, .ref a4, .ref a5, .ref a6])), (a1, .inl (cI, 120, .inl fc)), (a2, .inl (cI, 5, .inl (gl [4, 0, 0, 0, 0])))] sz)) 0 0 (va_A [(h, .inr (2, [.ref a0, .ref a1, .ref a2, .ref a3, .ref a4, .ref a5, .ref a6])), (a1, .inl (cI, 120, .inl fc)), (a2, .inl (cI, 5, .inl (gl [4, 0, 0, 0, 0])))] sz) := by
  refine Met.ofW (cc := cX2_putDescriptor) (maxL := 6) (ret := none) (by decide) rfl ?_
  intro p e s m args below meth c s₁ B hml hv
  obtain ⟨rfl, hsz, hP, hK, hD0, hN⟩ := hv
  have hx := B.exec
  have hb := B.bytes
  have hr := B.returns
  have hts := atoms_spec (ws := (.code yX2_putDescriptor cX2_putDescriptor 6 none :: wsL_law)) B.pre
  have hown : s.vm.findClass RX2 = some m.cls := findClass_of_methodNamed B.named
  have hlocks := B.notSynchronized
  subst hsz
  have hD := hD0.self (sz := s.heap.size)
  generalize hAe : va_A [(h, .inr (2, [.ref a0, .ref a1, .ref a2, .ref a3, .ref a4, .ref a5, .ref a6])), (a1, .inl (cI, 120, .inl fc)), (a2, .inl (cI, 5, .inl (gl [4, 0, 0, 0, 0])))] s.heap.size = A at hD ⊢
  have hA : ∀ q : Nat, s.heap.size ≤ q → A q := fun q h => by rw [← hAe]; exact Or.inr h
  have hP : va_P (dC, dI) vwCl [(h, .inr (2, [.ref a0, .ref a1, .ref a2, .ref a3, .ref a4, .ref a5, .ref a6])), (a1, .inl (cI, 120, .inl fc)), (a2, .inl (cI, 5, .inl (gl [4, 0, 0, 0, 0])))] s.heap := hP
  have hl := lv_entry ([.ref h, .int 0, .int 3, .int p3, .int p4, .int p5]) (n := 6) (Nat.le_of_ble_eq_true rfl)
  rw [lg_entry_eq]
  generalize (lg_sl ([.ref h, .int 0, .int 3, .int p3, .int p4, .int p5]) ++ List.replicate (6 - (lg_sl ([.ref h, .int 0, .int 3, .int p3, .int p4, .int p5])).length) Slot.unset).toArray = ls at hl ⊢
  have hl : lv_has ls 6 [(0, .ref h), (1, .int 0), (2, .int 3), (3, .int p3), (4, .int p4), (5, .int p5)] := hl
  obtain ⟨H, hH⟩ : ∃ H, H = s.heap := ⟨_, rfl⟩
  rw [← hH] at hP ⊢
  have hS : va_S A s.heap H [] := by rw [hH]; exact va_S.rf
  refine lv_aload_n hx hb dX2_putDescriptor_0 rfl (lv_at hl 0 rfl) ?_
  refine lv_iload_n hx hb dX2_putDescriptor_1 rfl (lv_at hl 1 rfl) ?_
  refine lv_iload_n hx hb dX2_putDescriptor_2 rfl (lv_at hl 2 rfl) ?_
  refine lv_iconst (v := 0) hx hb dX2_putDescriptor_3 (by decide) ?_
  refine lv_iload_n hx hb dX2_putDescriptor_4 rfl (lv_at hl 3 rfl) ?_
  refine zcVv (As := [.int 0, .int 3, .int 0, .int p3]) (rest := []) (wr := []) ⟨hx, hb, hml, hown, hts⟩ (kkX2_putCell_030 l dC dI cI cB cZ cR H.size h a0 a1 a2 a3 a4 a5 a6 fc p3 ) (cwV 4 hts (zgV wm_84 wm_85 wm_86 wm_22 wm_87) rfl rfl rfl (by decide +kernel) ⟨Nat.le_of_ble_eq_true rfl, Nat.le_of_ble_eq_true rfl⟩) hN hK hP hD hS hA [0, 1, 2] [] rfl rfl ⟨rfl, rfl⟩ (by decide) (ci := 2) rfl rfl rfl rfl hl.1 rfl (Nat.le_of_ble_eq_true rfl) dX2_putDescriptor_5 ⟨Nat.le_of_ble_eq_true rfl, Nat.le_of_ble_eq_true rfl⟩ (fun u hu H locs hP hD hS => ?_)
  have hP : va_P (dC, dI) vwCl [(h, .inr (2, [.ref a0, .ref a1, .ref a2, .ref a3, .ref a4, .ref a5, .ref a6])), (a1, .inl (cI, 120, .inl (upd fc 9 p3))), (a2, .inl (cI, 5, .inl (gl [4, 0, 0, 0, 0])))] H := hP
  have hD : va_D A [(h, .inr (2, [.ref a0, .ref a1, .ref a2, .ref a3, .ref a4, .ref a5, .ref a6])), (a1, .inl (cI, 120, .inl (upd fc 9 p3))), (a2, .inl (cI, 5, .inl (gl [4, 0, 0, 0, 0])))] := hD
  refine lv_aload_n hx hb dX2_putDescriptor_8 rfl (lv_at hl 0 rfl) ?_
  refine lv_iload_n hx hb dX2_putDescriptor_9 rfl (lv_at hl 1 rfl) ?_
  refine lv_iload_n hx hb dX2_putDescriptor_10 rfl (lv_at hl 2 rfl) ?_
  refine lv_iconst (v := 1) hx hb dX2_putDescriptor_11 (by decide) ?_
  refine lv_iload hx hb dX2_putDescriptor_12 (lv_at hl 4 rfl) ?_
  refine zcVv (As := [.int 0, .int 3, .int 1, .int p4]) (rest := []) (wr := []) ⟨hx, hb, hml, hown, hts⟩ (kkX2_putCell_031 l dC dI cI cB cZ cR H.size h a0 a1 a2 a3 a4 a5 a6 (upd fc 9 p3) p4 ) (cwV 4 hts (zgV wm_84 wm_85 wm_86 wm_22 wm_87) rfl rfl rfl (by decide +kernel) ⟨Nat.le_of_ble_eq_true rfl, Nat.le_of_ble_eq_true rfl⟩) hN hK hP hD hS hA [0, 1, 2] [] rfl rfl ⟨rfl, rfl⟩ (by decide) (ci := 2) rfl rfl rfl rfl hl.1 rfl (Nat.le_of_ble_eq_true rfl) dX2_putDescriptor_14 ⟨Nat.le_of_ble_eq_true rfl, Nat.le_of_ble_eq_true rfl⟩ (fun u hu H locs hP hD hS => ?_)
  have hP : va_P (dC, dI) vwCl [(h, .inr (2, [.ref a0, .ref a1, .ref a2, .ref a3, .ref a4, .ref a5, .ref a6])), (a1, .inl (cI, 120, .inl (upd (upd fc 9 p3) 10 p4))), (a2, .inl (cI, 5, .inl (gl [4, 0, 0, 0, 0])))] H := hP
  have hD : va_D A [(h, .inr (2, [.ref a0, .ref a1, .ref a2, .ref a3, .ref a4, .ref a5, .ref a6])), (a1, .inl (cI, 120, .inl (upd (upd fc 9 p3) 10 p4))), (a2, .inl (cI, 5, .inl (gl [4, 0, 0, 0, 0])))] := hD
  refine lv_aload_n hx hb dX2_putDescriptor_17 rfl (lv_at hl 0 rfl) ?_
  refine lv_iload_n hx hb dX2_putDescriptor_18 rfl (lv_at hl 1 rfl) ?_
  refine lv_iload_n hx hb dX2_putDescriptor_19 rfl (lv_at hl 2 rfl) ?_
  refine lv_iconst (v := 2) hx hb dX2_putDescriptor_20 (by decide) ?_
  refine lv_iload hx hb dX2_putDescriptor_21 (lv_at hl 5 rfl) ?_
  refine zcVv (As := [.int 0, .int 3, .int 2, .int p5]) (rest := []) (wr := []) ⟨hx, hb, hml, hown, hts⟩ (kkX2_putCell_032 l dC dI cI cB cZ cR H.size h a0 a1 a2 a3 a4 a5 a6 (upd (upd fc 9 p3) 10 p4) p5 ) (cwV 4 hts (zgV wm_84 wm_85 wm_86 wm_22 wm_87) rfl rfl rfl (by decide +kernel) ⟨Nat.le_of_ble_eq_true rfl, Nat.le_of_ble_eq_true rfl⟩) hN hK hP hD hS hA [0, 1, 2] [] rfl rfl ⟨rfl, rfl⟩ (by decide) (ci := 2) rfl rfl rfl rfl hl.1 rfl (Nat.le_of_ble_eq_true rfl) dX2_putDescriptor_23 ⟨Nat.le_of_ble_eq_true rfl, Nat.le_of_ble_eq_true rfl⟩ (fun u hu H locs hP hD hS => ?_)
  have hP : va_P (dC, dI) vwCl [(h, .inr (2, [.ref a0, .ref a1, .ref a2, .ref a3, .ref a4, .ref a5, .ref a6])), (a1, .inl (cI, 120, .inl (upd (upd (upd fc 9 p3) 10 p4) 11 p5))), (a2, .inl (cI, 5, .inl (gl [4, 0, 0, 0, 0])))] H := hP
  have hD : va_D A [(h, .inr (2, [.ref a0, .ref a1, .ref a2, .ref a3, .ref a4, .ref a5, .ref a6])), (a1, .inl (cI, 120, .inl (upd (upd (upd fc 9 p3) 10 p4) 11 p5))), (a2, .inl (cI, 5, .inl (gl [4, 0, 0, 0, 0])))] := hD
  have hP9 := hP.sub (ws' := [(h, .inr (2, [.ref a0, .ref a1, .ref a2, .ref a3, .ref a4, .ref a5, .ref a6])), (a1, .inl (cI, 120, .inl (upd (upd (upd fc 9 p3) 10 p4) 11 p5))), (a2, .inl (cI, 5, .inl (gl [4, 0, 0, 0, 0])))]) [0, 1, 2] rfl
  have hD9 := hD.sub (ws' := [(h, .inr (2, [.ref a0, .ref a1, .ref a2, .ref a3, .ref a4, .ref a5, .ref a6])), (a1, .inl (cI, 120, .inl (upd (upd (upd fc 9 p3) 10 p4) 11 p5))), (a2, .inl (cI, 5, .inl (gl [4, 0, 0, 0, 0])))]) [0, 1, 2] (by decide) rfl
  exact W.vret hx hb hr (fun t ht hW => ⟨⟨(), rfl, trivial, by rw [ht]; exact hP9, va_K.moved hW.alike hK, hD9⟩, hS.F ht⟩) hS.2.2 dX2_putDescriptor_26

set_option maxHeartbeats 4000000 in
set_option maxRecDepth 100000 in
theorem kkX0_lengthOf_10 (l : Launch) (dC : Nat → ClassId) (dI : Nat → Nat → Nat) (cI cB cZ cR : ClassId) (sz : Nat) (xd : Nat) (l0 : Nat) (z0 : Nat) (n0 : Int32) (n1 : Int32) (n2 : Int32) (n3 : Int32) (n4 : Int32) (n5 : Int32) (n6 : Int32) (n7 : Int32) : Met l yX0_lengthOf (.code yX0_lengthOf cX0_lengthOf 2 (some .int) :: wsL_law) ({ frames := 0, cells := 0, slots := 0, locals := 0 }) (zPc dC dI (zT cI cB cZ cR) [.ref xd, .int 0] sz [(xd, .inr (0, [.ref l0, .ref z0, .int 1])), (l0, .inl (cI, 8, .inl (gl [n0, n1, n2, n3, n4, n5, n6, n7])))]) (va_Qi (fun (r : Int32) (_ : Unit) => r = n0) (fun _ : Unit => zB dC dI (zT cI cB cZ cR) (va_A [(xd, .inr (0, [.ref l0, .ref z0, .int 1])), (l0, .inl (cI, 8, .inl (gl [n0, n1, n2, n3, n4, n5, n6, n7])))] sz) [(xd, .inr (0, [.ref l0, .ref z0, .int 1])), (l0, .inl (cI, 8, .inl (gl [n0, n1, n2, n3, n4, n5, n6, n7])))]) (va_A [(xd, .inr (0, [.ref l0, .ref z0, .int 1])), (l0, .inl (cI, 8, .inl (gl [n0, n1, n2, n3, n4, n5, n6, n7])))] sz)) 0 0 (va_A [(xd, .inr (0, [.ref l0, .ref z0, .int 1])), (l0, .inl (cI, 8, .inl (gl [n0, n1, n2, n3, n4, n5, n6, n7])))] sz) := by
  refine Met.ofW (cc := cX0_lengthOf) (maxL := 2) (ret := (some .int)) (by decide) rfl ?_
  intro p e s m args below meth c s₁ B hml hv
  obtain ⟨rfl, hsz, hP, hK, hD0, hN⟩ := hv
  have hx := B.exec
  have hb := B.bytes
  have hr := B.returns
  have hts := atoms_spec (ws := (.code yX0_lengthOf cX0_lengthOf 2 (some .int) :: wsL_law)) B.pre
  have hown : s.vm.findClass RX0 = some m.cls := findClass_of_methodNamed B.named
  have hlocks := B.notSynchronized
  have hinX0 : ∀ w ∈ u_ws RX0 TX0 3, w ∈ (.code yX0_lengthOf cX0_lengthOf 2 (some .int) :: wsL_law) := fun w h => List.mem_cons_of_mem _ (inlX0 w h)
  have k_0 := hts (.fieldLink RX0 19 "RingMarks$Chain" "size" "I") (List.mem_cons_of_mem _ wm_56)
  have k_1 := hts (.fieldLink RX0 11 "RingMarks$Chain" "lengths" "[I") (List.mem_cons_of_mem _ wm_53)
  subst hsz
  have hD := hD0.self (sz := s.heap.size)
  generalize hAe : va_A [(xd, .inr (0, [.ref l0, .ref z0, .int 1])), (l0, .inl (cI, 8, .inl (gl [n0, n1, n2, n3, n4, n5, n6, n7])))] s.heap.size = A at hD ⊢
  have hA : ∀ q : Nat, s.heap.size ≤ q → A q := fun q h => by rw [← hAe]; exact Or.inr h
  have hP : va_P (dC, dI) vwCl [(xd, .inr (0, [.ref l0, .ref z0, .int 1])), (l0, .inl (cI, 8, .inl (gl [n0, n1, n2, n3, n4, n5, n6, n7])))] s.heap := hP
  have hl := lv_entry ([.ref xd, .int 0]) (n := 2) (Nat.le_of_ble_eq_true rfl)
  rw [lg_entry_eq]
  generalize (lg_sl ([.ref xd, .int 0]) ++ List.replicate (2 - (lg_sl ([.ref xd, .int 0])).length) Slot.unset).toArray = ls at hl ⊢
  have hl : lv_has ls 2 [(0, .ref xd), (1, .int 0)] := hl
  obtain ⟨H, hH⟩ : ∃ H, H = s.heap := ⟨_, rfl⟩
  rw [← hH] at hP ⊢
  have hS : va_S A s.heap H [] := by rw [hH]; exact va_S.rf
  refine lv_iload_n hx hb dX0_lengthOf_0 rfl (lv_at hl 1 rfl) ?_
  refine lv_if_lt (tgt := 27) hx hb dX0_lengthOf_1 (by decide) (fun c => absurd c (by decide)) (fun _ => ?_)
  refine lv_iload_n hx hb dX0_lengthOf_4 rfl (lv_at hl 1 rfl) ?_
  refine lv_aload_n hx hb dX0_lengthOf_5 rfl (lv_at hl 0 rfl) ?_
  refine va_get (D := (dC, dI)) (ci := 0) (v := .int 1) (C := RX0) (T := TX0) (N := 3) hx hb hts hinX0 hown hK hP 0 rfl rfl 2 (by decide) k_0 (fun _ h9 => h9) rfl dX0_lengthOf_6 ?_
  refine lv_icmp_ge (tgt := 27) hx hb dX0_lengthOf_9 (by decide) (fun c => absurd c (by decide)) (fun _ => ?_)
  refine lv_iload_n hx hb dX0_lengthOf_12 rfl (lv_at hl 1 rfl) ?_
  refine lv_bipush (v := 8) hx hb dX0_lengthOf_13 (by decide) ?_
  refine lv_icmp_ge (tgt := 27) hx hb dX0_lengthOf_15 (by decide) (fun c => absurd c (by decide)) (fun _ => ?_)
  refine lv_aload_n hx hb dX0_lengthOf_18 rfl (lv_at hl 0 rfl) ?_
  refine va_get (D := (dC, dI)) (ci := 0) (v := .ref l0) (C := RX0) (T := TX0) (N := 3) hx hb hts hinX0 hown hK hP 0 rfl rfl 0 (by decide) k_1 (fun _ h9 => h9) rfl dX0_lengthOf_19 ?_
  refine lv_iload_n hx hb dX0_lengthOf_22 rfl (lv_at hl 1 rfl) ?_
  refine za_iald (v := n0) hx hb hK hP 1 0 rfl rfl (zin tn_0 (Nat.le_of_ble_eq_true rfl)) (zrd _ tn_0 rfl) dX0_lengthOf_23 ?_
  refine lv_goto (tgt := 28) hx hb dX0_lengthOf_24 (by decide) ?_
  have hP9 := hP.sub (ws' := [(xd, .inr (0, [.ref l0, .ref z0, .int 1])), (l0, .inl (cI, 8, .inl (gl [n0, n1, n2, n3, n4, n5, n6, n7])))]) [0, 1] rfl
  have hD9 := hD.sub (ws' := [(xd, .inr (0, [.ref l0, .ref z0, .int 1])), (l0, .inl (cI, 8, .inl (gl [n0, n1, n2, n3, n4, n5, n6, n7])))]) [0, 1] (by decide) rfl
  exact W.iret (v := n0) hx hb hr (fun t ht hW => ⟨⟨n0, (), rfl, rfl, by rw [ht]; exact hP9, va_K.moved hW.alike hK, hD9⟩, hS.F ht⟩) hS.2.2 dX0_lengthOf_28

set_option maxHeartbeats 4000000 in
set_option maxRecDepth 100000 in
theorem kkX0_flagsOf_100 (l : Launch) (dC : Nat → ClassId) (dI : Nat → Nat → Nat) (cI cB cZ cR : ClassId) (sz : Nat) (xd : Nat) (l0 : Nat) (z0 : Nat) (w1 : Int32) (w2 : Int32) (w3 : Int32) (w4 : Int32) (w5 : Int32) (w6 : Int32) (w7 : Int32) : Met l yX0_flagsOf (.code yX0_flagsOf cX0_flagsOf 3 (some .int) :: wsL_law) ({ frames := 0, cells := 0, slots := 0, locals := 0 }) (zPc dC dI (zT cI cB cZ cR) [.ref xd, .int 0] sz [(xd, .inr (0, [.ref l0, .ref z0, .int 1])), (z0, .inl (cZ, 8, .inl (gl [0, w1, w2, w3, w4, w5, w6, w7])))]) (va_Qi (fun (r : Int32) (_ : Unit) => r = 0) (fun _ : Unit => zB dC dI (zT cI cB cZ cR) (va_A [(xd, .inr (0, [.ref l0, .ref z0, .int 1])), (z0, .inl (cZ, 8, .inl (gl [0, w1, w2, w3, w4, w5, w6, w7])))] sz) [(xd, .inr (0, [.ref l0, .ref z0, .int 1])), (z0, .inl (cZ, 8, .inl (gl [0, w1, w2, w3, w4, w5, w6, w7])))]) (va_A [(xd, .inr (0, [.ref l0, .ref z0, .int 1])), (z0, .inl (cZ, 8, .inl (gl [0, w1, w2, w3, w4, w5, w6, w7])))] sz)) 0 0 (va_A [(xd, .inr (0, [.ref l0, .ref z0, .int 1])), (z0, .inl (cZ, 8, .inl (gl [0, w1, w2, w3, w4, w5, w6, w7])))] sz) := by
  refine Met.ofW (cc := cX0_flagsOf) (maxL := 3) (ret := (some .int)) (by decide) rfl ?_
  intro p e s m args below meth c s₁ B hml hv
  obtain ⟨rfl, hsz, hP, hK, hD0, hN⟩ := hv
  have hx := B.exec
  have hb := B.bytes
  have hr := B.returns
  have hts := atoms_spec (ws := (.code yX0_flagsOf cX0_flagsOf 3 (some .int) :: wsL_law)) B.pre
  have hown : s.vm.findClass RX0 = some m.cls := findClass_of_methodNamed B.named
  have hlocks := B.notSynchronized
  have hinX0 : ∀ w ∈ u_ws RX0 TX0 3, w ∈ (.code yX0_flagsOf cX0_flagsOf 3 (some .int) :: wsL_law) := fun w h => List.mem_cons_of_mem _ (inlX0 w h)
  have k_0 := hts (.fieldLink RX0 19 "RingMarks$Chain" "size" "I") (List.mem_cons_of_mem _ wm_56)
  have k_1 := hts (.fieldLink RX0 15 "RingMarks$Chain" "writes" "[Z") (List.mem_cons_of_mem _ wm_55)
  subst hsz
  have hD := hD0.self (sz := s.heap.size)
  generalize hAe : va_A [(xd, .inr (0, [.ref l0, .ref z0, .int 1])), (z0, .inl (cZ, 8, .inl (gl [0, w1, w2, w3, w4, w5, w6, w7])))] s.heap.size = A at hD ⊢
  have hA : ∀ q : Nat, s.heap.size ≤ q → A q := fun q h => by rw [← hAe]; exact Or.inr h
  have hP : va_P (dC, dI) vwCl [(xd, .inr (0, [.ref l0, .ref z0, .int 1])), (z0, .inl (cZ, 8, .inl (gl [0, w1, w2, w3, w4, w5, w6, w7])))] s.heap := hP
  have hl := lv_entry ([.ref xd, .int 0]) (n := 3) (Nat.le_of_ble_eq_true rfl)
  rw [lg_entry_eq]
  generalize (lg_sl ([.ref xd, .int 0]) ++ List.replicate (3 - (lg_sl ([.ref xd, .int 0])).length) Slot.unset).toArray = ls at hl ⊢
  have hl : lv_has ls 3 [(0, .ref xd), (1, .int 0)] := hl
  obtain ⟨H, hH⟩ : ∃ H, H = s.heap := ⟨_, rfl⟩
  rw [← hH] at hP ⊢
  have hS : va_S A s.heap H [] := by rw [hH]; exact va_S.rf
  refine lv_iload_n hx hb dX0_flagsOf_0 rfl (lv_at hl 1 rfl) ?_
  refine lv_if_lt (tgt := 31) hx hb dX0_flagsOf_1 (by decide) (fun c => absurd c (by decide)) (fun _ => ?_)
  refine lv_iload_n hx hb dX0_flagsOf_4 rfl (lv_at hl 1 rfl) ?_
  refine lv_aload_n hx hb dX0_flagsOf_5 rfl (lv_at hl 0 rfl) ?_
  refine va_get (D := (dC, dI)) (ci := 0) (v := .int 1) (C := RX0) (T := TX0) (N := 3) hx hb hts hinX0 hown hK hP 0 rfl rfl 2 (by decide) k_0 (fun _ h9 => h9) rfl dX0_flagsOf_6 ?_
  refine lv_icmp_ge (tgt := 31) hx hb dX0_flagsOf_9 (by decide) (fun c => absurd c (by decide)) (fun _ => ?_)
  refine lv_iload_n hx hb dX0_flagsOf_12 rfl (lv_at hl 1 rfl) ?_
  refine lv_bipush (v := 8) hx hb dX0_flagsOf_13 (by decide) ?_
  refine lv_icmp_ge (tgt := 31) hx hb dX0_flagsOf_15 (by decide) (fun c => absurd c (by decide)) (fun _ => ?_)
  refine lv_aload_n hx hb dX0_flagsOf_18 rfl (lv_at hl 0 rfl) ?_
  refine va_get (D := (dC, dI)) (ci := 0) (v := .ref z0) (C := RX0) (T := TX0) (N := 3) hx hb hts hinX0 hown hK hP 0 rfl rfl 1 (by decide) k_1 (fun _ h9 => h9) rfl dX0_flagsOf_19 ?_
  refine lv_iload_n hx hb dX0_flagsOf_22 rfl (lv_at hl 1 rfl) ?_
  refine za_zald (v := 0) hx hb hK hP 1 2 rfl rfl (zin tn_0 (Nat.le_of_ble_eq_true rfl)) (zrd _ tn_0 rfl) dX0_flagsOf_23 ?_
  refine lv_if_eq (tgt := 31) hx hb dX0_flagsOf_24 (by decide) (fun _ => ?_) (fun c => absurd (by decide) c)
  refine lv_iconst (v := 0) hx hb dX0_flagsOf_31 (by decide) ?_
  refine lv_istore_n (lv' := [(2, .int 0), (0, .ref xd), (1, .int 0)]) hx hb dX0_flagsOf_32 rfl hl (by decide) rfl (fun ls hl => ?_)
  refine lv_iload_n hx hb dX0_flagsOf_33 rfl (lv_at hl 0 rfl) ?_
  refine lv_if_eq (tgt := 41) hx hb dX0_flagsOf_34 (by decide) (fun _ => ?_) (fun c => absurd (by decide) c)
  refine lv_iconst (v := 0) hx hb dX0_flagsOf_41 (by decide) ?_
  refine lv_iload_n hx hb dX0_flagsOf_42 rfl (lv_at hl 2 rfl) ?_
  refine lv_aload_n hx hb dX0_flagsOf_43 rfl (lv_at hl 1 rfl) ?_
  refine va_get (D := (dC, dI)) (ci := 0) (v := .int 1) (C := RX0) (T := TX0) (N := 3) hx hb hts hinX0 hown hK hP 0 rfl rfl 2 (by decide) k_0 (fun _ h9 => h9) rfl dX0_flagsOf_44 ?_
  refine lv_iconst (v := 1) hx hb dX0_flagsOf_47 (by decide) ?_
  refine lv_isub hx hb dX0_flagsOf_48 ?_
  refine tp (y := 0) (by decide) ?_
  refine lv_icmp_ge (tgt := 56) hx hb dX0_flagsOf_49 (by decide) (fun _ => ?_) (fun c => absurd (by decide) c)
  refine lv_iconst (v := 0) hx hb dX0_flagsOf_56 (by decide) ?_
  refine lv_ior hx hb dX0_flagsOf_57 ?_
  refine tp (y := 0) (by decide) ?_
  have hP9 := hP.sub (ws' := [(xd, .inr (0, [.ref l0, .ref z0, .int 1])), (z0, .inl (cZ, 8, .inl (gl [0, w1, w2, w3, w4, w5, w6, w7])))]) [0, 1] rfl
  have hD9 := hD.sub (ws' := [(xd, .inr (0, [.ref l0, .ref z0, .int 1])), (z0, .inl (cZ, 8, .inl (gl [0, w1, w2, w3, w4, w5, w6, w7])))]) [0, 1] (by decide) rfl
  exact W.iret (v := 0) hx hb hr (fun t ht hW => ⟨⟨0, (), rfl, rfl, by rw [ht]; exact hP9, va_K.moved hW.alike hK, hD9⟩, hS.F ht⟩) hS.2.2 dX0_flagsOf_58

set_option maxHeartbeats 4000000 in
set_option maxRecDepth 100000 in
theorem kkX0_flagsOf_101 (l : Launch) (dC : Nat → ClassId) (dI : Nat → Nat → Nat) (cI cB cZ cR : ClassId) (sz : Nat) (xd : Nat) (l0 : Nat) (z0 : Nat) (w1 : Int32) (w2 : Int32) (w3 : Int32) (w4 : Int32) (w5 : Int32) (w6 : Int32) (w7 : Int32) : Met l yX0_flagsOf (.code yX0_flagsOf cX0_flagsOf 3 (some .int) :: wsL_law) ({ frames := 0, cells := 0, slots := 0, locals := 0 }) (zPc dC dI (zT cI cB cZ cR) [.ref xd, .int 0] sz [(xd, .inr (0, [.ref l0, .ref z0, .int 1])), (z0, .inl (cZ, 8, .inl (gl [1, w1, w2, w3, w4, w5, w6, w7])))]) (va_Qi (fun (r : Int32) (_ : Unit) => r = 2) (fun _ : Unit => zB dC dI (zT cI cB cZ cR) (va_A [(xd, .inr (0, [.ref l0, .ref z0, .int 1])), (z0, .inl (cZ, 8, .inl (gl [1, w1, w2, w3, w4, w5, w6, w7])))] sz) [(xd, .inr (0, [.ref l0, .ref z0, .int 1])), (z0, .inl (cZ, 8, .inl (gl [1, w1, w2, w3, w4, w5, w6, w7])))]) (va_A [(xd, .inr (0, [.ref l0, .ref z0, .int 1])), (z0, .inl (cZ, 8, .inl (gl [1, w1, w2, w3, w4, w5, w6, w7])))] sz)) 0 0 (va_A [(xd, .inr (0, [.ref l0, .ref z0, .int 1])), (z0, .inl (cZ, 8, .inl (gl [1, w1, w2, w3, w4, w5, w6, w7])))] sz) := by
  refine Met.ofW (cc := cX0_flagsOf) (maxL := 3) (ret := (some .int)) (by decide) rfl ?_
  intro p e s m args below meth c s₁ B hml hv
  obtain ⟨rfl, hsz, hP, hK, hD0, hN⟩ := hv
  have hx := B.exec
  have hb := B.bytes
  have hr := B.returns
  have hts := atoms_spec (ws := (.code yX0_flagsOf cX0_flagsOf 3 (some .int) :: wsL_law)) B.pre
  have hown : s.vm.findClass RX0 = some m.cls := findClass_of_methodNamed B.named
  have hlocks := B.notSynchronized
  have hinX0 : ∀ w ∈ u_ws RX0 TX0 3, w ∈ (.code yX0_flagsOf cX0_flagsOf 3 (some .int) :: wsL_law) := fun w h => List.mem_cons_of_mem _ (inlX0 w h)
  have k_0 := hts (.fieldLink RX0 19 "RingMarks$Chain" "size" "I") (List.mem_cons_of_mem _ wm_56)
  have k_1 := hts (.fieldLink RX0 15 "RingMarks$Chain" "writes" "[Z") (List.mem_cons_of_mem _ wm_55)
  subst hsz
  have hD := hD0.self (sz := s.heap.size)
  generalize hAe : va_A [(xd, .inr (0, [.ref l0, .ref z0, .int 1])), (z0, .inl (cZ, 8, .inl (gl [1, w1, w2, w3, w4, w5, w6, w7])))] s.heap.size = A at hD ⊢
  have hA : ∀ q : Nat, s.heap.size ≤ q → A q := fun q h => by rw [← hAe]; exact Or.inr h
  have hP : va_P (dC, dI) vwCl [(xd, .inr (0, [.ref l0, .ref z0, .int 1])), (z0, .inl (cZ, 8, .inl (gl [1, w1, w2, w3, w4, w5, w6, w7])))] s.heap := hP
  have hl := lv_entry ([.ref xd, .int 0]) (n := 3) (Nat.le_of_ble_eq_true rfl)
  rw [lg_entry_eq]
  generalize (lg_sl ([.ref xd, .int 0]) ++ List.replicate (3 - (lg_sl ([.ref xd, .int 0])).length) Slot.unset).toArray = ls at hl ⊢
  have hl : lv_has ls 3 [(0, .ref xd), (1, .int 0)] := hl
  obtain ⟨H, hH⟩ : ∃ H, H = s.heap := ⟨_, rfl⟩
  rw [← hH] at hP ⊢
  have hS : va_S A s.heap H [] := by rw [hH]; exact va_S.rf
  refine lv_iload_n hx hb dX0_flagsOf_0 rfl (lv_at hl 1 rfl) ?_
  refine lv_if_lt (tgt := 31) hx hb dX0_flagsOf_1 (by decide) (fun c => absurd c (by decide)) (fun _ => ?_)
  refine lv_iload_n hx hb dX0_flagsOf_4 rfl (lv_at hl 1 rfl) ?_
  refine lv_aload_n hx hb dX0_flagsOf_5 rfl (lv_at hl 0 rfl) ?_
  refine va_get (D := (dC, dI)) (ci := 0) (v := .int 1) (C := RX0) (T := TX0) (N := 3) hx hb hts hinX0 hown hK hP 0 rfl rfl 2 (by decide) k_0 (fun _ h9 => h9) rfl dX0_flagsOf_6 ?_
  refine lv_icmp_ge (tgt := 31) hx hb dX0_flagsOf_9 (by decide) (fun c => absurd c (by decide)) (fun _ => ?_)
  refine lv_iload_n hx hb dX0_flagsOf_12 rfl (lv_at hl 1 rfl) ?_
  refine lv_bipush (v := 8) hx hb dX0_flagsOf_13 (by decide) ?_
  refine lv_icmp_ge (tgt := 31) hx hb dX0_flagsOf_15 (by decide) (fun c => absurd c (by decide)) (fun _ => ?_)
  refine lv_aload_n hx hb dX0_flagsOf_18 rfl (lv_at hl 0 rfl) ?_
  refine va_get (D := (dC, dI)) (ci := 0) (v := .ref z0) (C := RX0) (T := TX0) (N := 3) hx hb hts hinX0 hown hK hP 0 rfl rfl 1 (by decide) k_1 (fun _ h9 => h9) rfl dX0_flagsOf_19 ?_
  refine lv_iload_n hx hb dX0_flagsOf_22 rfl (lv_at hl 1 rfl) ?_
  refine za_zald (v := 1) hx hb hK hP 1 2 rfl rfl (zin tn_0 (Nat.le_of_ble_eq_true rfl)) (zrd _ tn_0 rfl) dX0_flagsOf_23 ?_
  refine lv_if_eq (tgt := 31) hx hb dX0_flagsOf_24 (by decide) (fun c => absurd c (by decide)) (fun _ => ?_)
  refine lv_iconst (v := 1) hx hb dX0_flagsOf_27 (by decide) ?_
  refine lv_goto (tgt := 32) hx hb dX0_flagsOf_28 (by decide) ?_
  refine lv_istore_n (lv' := [(2, .int 1), (0, .ref xd), (1, .int 0)]) hx hb dX0_flagsOf_32 rfl hl (by decide) rfl (fun ls hl => ?_)
  refine lv_iload_n hx hb dX0_flagsOf_33 rfl (lv_at hl 0 rfl) ?_
  refine lv_if_eq (tgt := 41) hx hb dX0_flagsOf_34 (by decide) (fun c => absurd c (by decide)) (fun _ => ?_)
  refine lv_iconst (v := 2) hx hb dX0_flagsOf_37 (by decide) ?_
  refine lv_goto (tgt := 42) hx hb dX0_flagsOf_38 (by decide) ?_
  refine lv_iload_n hx hb dX0_flagsOf_42 rfl (lv_at hl 2 rfl) ?_
  refine lv_aload_n hx hb dX0_flagsOf_43 rfl (lv_at hl 1 rfl) ?_
  refine va_get (D := (dC, dI)) (ci := 0) (v := .int 1) (C := RX0) (T := TX0) (N := 3) hx hb hts hinX0 hown hK hP 0 rfl rfl 2 (by decide) k_0 (fun _ h9 => h9) rfl dX0_flagsOf_44 ?_
  refine lv_iconst (v := 1) hx hb dX0_flagsOf_47 (by decide) ?_
  refine lv_isub hx hb dX0_flagsOf_48 ?_
  refine tp (y := 0) (by decide) ?_
  refine lv_icmp_ge (tgt := 56) hx hb dX0_flagsOf_49 (by decide) (fun _ => ?_) (fun c => absurd (by decide) c)
  refine lv_iconst (v := 0) hx hb dX0_flagsOf_56 (by decide) ?_
  refine lv_ior hx hb dX0_flagsOf_57 ?_
  refine tp (y := 2) (by decide) ?_
  have hP9 := hP.sub (ws' := [(xd, .inr (0, [.ref l0, .ref z0, .int 1])), (z0, .inl (cZ, 8, .inl (gl [1, w1, w2, w3, w4, w5, w6, w7])))]) [0, 1] rfl
  have hD9 := hD.sub (ws' := [(xd, .inr (0, [.ref l0, .ref z0, .int 1])), (z0, .inl (cZ, 8, .inl (gl [1, w1, w2, w3, w4, w5, w6, w7])))]) [0, 1] (by decide) rfl
  exact W.iret (v := 2) hx hb hr (fun t ht hW => ⟨⟨2, (), rfl, rfl, by rw [ht]; exact hP9, va_K.moved hW.alike hK, hD9⟩, hS.F ht⟩) hS.2.2 dX0_flagsOf_58

set_option maxHeartbeats 4000000 in
set_option maxRecDepth 100000 in
theorem kkX0_lengthOf_20 (l : Launch) (dC : Nat → ClassId) (dI : Nat → Nat → Nat) (cI cB cZ cR : ClassId) (sz : Nat) (xd : Nat) (l0 : Nat) (z0 : Nat) (n0 : Int32) (n1 : Int32) (n2 : Int32) (n3 : Int32) (n4 : Int32) (n5 : Int32) (n6 : Int32) (n7 : Int32) : Met l yX0_lengthOf (.code yX0_lengthOf cX0_lengthOf 2 (some .int) :: wsL_law) ({ frames := 0, cells := 0, slots := 0, locals := 0 }) (zPc dC dI (zT cI cB cZ cR) [.ref xd, .int 0] sz [(xd, .inr (0, [.ref l0, .ref z0, .int 2])), (l0, .inl (cI, 8, .inl (gl [n0, n1, n2, n3, n4, n5, n6, n7])))]) (va_Qi (fun (r : Int32) (_ : Unit) => r = n0) (fun _ : Unit => zB dC dI (zT cI cB cZ cR) (va_A [(xd, .inr (0, [.ref l0, .ref z0, .int 2])), (l0, .inl (cI, 8, .inl (gl [n0, n1, n2, n3, n4, n5, n6, n7])))] sz) [(xd, .inr (0, [.ref l0, .ref z0, .int 2])), (l0, .inl (cI, 8, .inl (gl [n0, n1, n2, n3, n4, n5, n6, n7])))]) (va_A [(xd, .inr (0, [.ref l0, .ref z0, .int 2])), (l0, .inl (cI, 8, .inl (gl [n0, n1, n2, n3, n4, n5, n6, n7])))] sz)) 0 0 (va_A [(xd, .inr (0, [.ref l0, .ref z0, .int 2])), (l0, .inl (cI, 8, .inl (gl [n0, n1, n2, n3, n4, n5, n6, n7])))] sz) := by
  refine Met.ofW (cc := cX0_lengthOf) (maxL := 2) (ret := (some .int)) (by decide) rfl ?_
  intro p e s m args below meth c s₁ B hml hv
  obtain ⟨rfl, hsz, hP, hK, hD0, hN⟩ := hv
  have hx := B.exec
  have hb := B.bytes
  have hr := B.returns
  have hts := atoms_spec (ws := (.code yX0_lengthOf cX0_lengthOf 2 (some .int) :: wsL_law)) B.pre
  have hown : s.vm.findClass RX0 = some m.cls := findClass_of_methodNamed B.named
  have hlocks := B.notSynchronized
  have hinX0 : ∀ w ∈ u_ws RX0 TX0 3, w ∈ (.code yX0_lengthOf cX0_lengthOf 2 (some .int) :: wsL_law) := fun w h => List.mem_cons_of_mem _ (inlX0 w h)
  have k_0 := hts (.fieldLink RX0 19 "RingMarks$Chain" "size" "I") (List.mem_cons_of_mem _ wm_56)
  have k_1 := hts (.fieldLink RX0 11 "RingMarks$Chain" "lengths" "[I") (List.mem_cons_of_mem _ wm_53)
  subst hsz
  have hD := hD0.self (sz := s.heap.size)
  generalize hAe : va_A [(xd, .inr (0, [.ref l0, .ref z0, .int 2])), (l0, .inl (cI, 8, .inl (gl [n0, n1, n2, n3, n4, n5, n6, n7])))] s.heap.size = A at hD ⊢
  have hA : ∀ q : Nat, s.heap.size ≤ q → A q := fun q h => by rw [← hAe]; exact Or.inr h
  have hP : va_P (dC, dI) vwCl [(xd, .inr (0, [.ref l0, .ref z0, .int 2])), (l0, .inl (cI, 8, .inl (gl [n0, n1, n2, n3, n4, n5, n6, n7])))] s.heap := hP
  have hl := lv_entry ([.ref xd, .int 0]) (n := 2) (Nat.le_of_ble_eq_true rfl)
  rw [lg_entry_eq]
  generalize (lg_sl ([.ref xd, .int 0]) ++ List.replicate (2 - (lg_sl ([.ref xd, .int 0])).length) Slot.unset).toArray = ls at hl ⊢
  have hl : lv_has ls 2 [(0, .ref xd), (1, .int 0)] := hl
  obtain ⟨H, hH⟩ : ∃ H, H = s.heap := ⟨_, rfl⟩
  rw [← hH] at hP ⊢
  have hS : va_S A s.heap H [] := by rw [hH]; exact va_S.rf
  refine lv_iload_n hx hb dX0_lengthOf_0 rfl (lv_at hl 1 rfl) ?_
  refine lv_if_lt (tgt := 27) hx hb dX0_lengthOf_1 (by decide) (fun c => absurd c (by decide)) (fun _ => ?_)
  refine lv_iload_n hx hb dX0_lengthOf_4 rfl (lv_at hl 1 rfl) ?_
  refine lv_aload_n hx hb dX0_lengthOf_5 rfl (lv_at hl 0 rfl) ?_
  refine va_get (D := (dC, dI)) (ci := 0) (v := .int 2) (C := RX0) (T := TX0) (N := 3) hx hb hts hinX0 hown hK hP 0 rfl rfl 2 (by decide) k_0 (fun _ h9 => h9) rfl dX0_lengthOf_6 ?_
  refine lv_icmp_ge (tgt := 27) hx hb dX0_lengthOf_9 (by decide) (fun c => absurd c (by decide)) (fun _ => ?_)
  refine lv_iload_n hx hb dX0_lengthOf_12 rfl (lv_at hl 1 rfl) ?_
  refine lv_bipush (v := 8) hx hb dX0_lengthOf_13 (by decide) ?_
  refine lv_icmp_ge (tgt := 27) hx hb dX0_lengthOf_15 (by decide) (fun c => absurd c (by decide)) (fun _ => ?_)
  refine lv_aload_n hx hb dX0_lengthOf_18 rfl (lv_at hl 0 rfl) ?_
  refine va_get (D := (dC, dI)) (ci := 0) (v := .ref l0) (C := RX0) (T := TX0) (N := 3) hx hb hts hinX0 hown hK hP 0 rfl rfl 0 (by decide) k_1 (fun _ h9 => h9) rfl dX0_lengthOf_19 ?_
  refine lv_iload_n hx hb dX0_lengthOf_22 rfl (lv_at hl 1 rfl) ?_
  refine za_iald (v := n0) hx hb hK hP 1 0 rfl rfl (zin tn_0 (Nat.le_of_ble_eq_true rfl)) (zrd _ tn_0 rfl) dX0_lengthOf_23 ?_
  refine lv_goto (tgt := 28) hx hb dX0_lengthOf_24 (by decide) ?_
  have hP9 := hP.sub (ws' := [(xd, .inr (0, [.ref l0, .ref z0, .int 2])), (l0, .inl (cI, 8, .inl (gl [n0, n1, n2, n3, n4, n5, n6, n7])))]) [0, 1] rfl
  have hD9 := hD.sub (ws' := [(xd, .inr (0, [.ref l0, .ref z0, .int 2])), (l0, .inl (cI, 8, .inl (gl [n0, n1, n2, n3, n4, n5, n6, n7])))]) [0, 1] (by decide) rfl
  exact W.iret (v := n0) hx hb hr (fun t ht hW => ⟨⟨n0, (), rfl, rfl, by rw [ht]; exact hP9, va_K.moved hW.alike hK, hD9⟩, hS.F ht⟩) hS.2.2 dX0_lengthOf_28

set_option maxHeartbeats 4000000 in
set_option maxRecDepth 100000 in
theorem kkX0_flagsOf_200 (l : Launch) (dC : Nat → ClassId) (dI : Nat → Nat → Nat) (cI cB cZ cR : ClassId) (sz : Nat) (xd : Nat) (l0 : Nat) (z0 : Nat) (w1 : Int32) (w2 : Int32) (w3 : Int32) (w4 : Int32) (w5 : Int32) (w6 : Int32) (w7 : Int32) : Met l yX0_flagsOf (.code yX0_flagsOf cX0_flagsOf 3 (some .int) :: wsL_law) ({ frames := 0, cells := 0, slots := 0, locals := 0 }) (zPc dC dI (zT cI cB cZ cR) [.ref xd, .int 0] sz [(xd, .inr (0, [.ref l0, .ref z0, .int 2])), (z0, .inl (cZ, 8, .inl (gl [0, w1, w2, w3, w4, w5, w6, w7])))]) (va_Qi (fun (r : Int32) (_ : Unit) => r = 1) (fun _ : Unit => zB dC dI (zT cI cB cZ cR) (va_A [(xd, .inr (0, [.ref l0, .ref z0, .int 2])), (z0, .inl (cZ, 8, .inl (gl [0, w1, w2, w3, w4, w5, w6, w7])))] sz) [(xd, .inr (0, [.ref l0, .ref z0, .int 2])), (z0, .inl (cZ, 8, .inl (gl [0, w1, w2, w3, w4, w5, w6, w7])))]) (va_A [(xd, .inr (0, [.ref l0, .ref z0, .int 2])), (z0, .inl (cZ, 8, .inl (gl [0, w1, w2, w3, w4, w5, w6, w7])))] sz)) 0 0 (va_A [(xd, .inr (0, [.ref l0, .ref z0, .int 2])), (z0, .inl (cZ, 8, .inl (gl [0, w1, w2, w3, w4, w5, w6, w7])))] sz) := by
  refine Met.ofW (cc := cX0_flagsOf) (maxL := 3) (ret := (some .int)) (by decide) rfl ?_
  intro p e s m args below meth c s₁ B hml hv
  obtain ⟨rfl, hsz, hP, hK, hD0, hN⟩ := hv
  have hx := B.exec
  have hb := B.bytes
  have hr := B.returns
  have hts := atoms_spec (ws := (.code yX0_flagsOf cX0_flagsOf 3 (some .int) :: wsL_law)) B.pre
  have hown : s.vm.findClass RX0 = some m.cls := findClass_of_methodNamed B.named
  have hlocks := B.notSynchronized
  have hinX0 : ∀ w ∈ u_ws RX0 TX0 3, w ∈ (.code yX0_flagsOf cX0_flagsOf 3 (some .int) :: wsL_law) := fun w h => List.mem_cons_of_mem _ (inlX0 w h)
  have k_0 := hts (.fieldLink RX0 19 "RingMarks$Chain" "size" "I") (List.mem_cons_of_mem _ wm_56)
  have k_1 := hts (.fieldLink RX0 15 "RingMarks$Chain" "writes" "[Z") (List.mem_cons_of_mem _ wm_55)
  subst hsz
  have hD := hD0.self (sz := s.heap.size)
  generalize hAe : va_A [(xd, .inr (0, [.ref l0, .ref z0, .int 2])), (z0, .inl (cZ, 8, .inl (gl [0, w1, w2, w3, w4, w5, w6, w7])))] s.heap.size = A at hD ⊢
  have hA : ∀ q : Nat, s.heap.size ≤ q → A q := fun q h => by rw [← hAe]; exact Or.inr h
  have hP : va_P (dC, dI) vwCl [(xd, .inr (0, [.ref l0, .ref z0, .int 2])), (z0, .inl (cZ, 8, .inl (gl [0, w1, w2, w3, w4, w5, w6, w7])))] s.heap := hP
  have hl := lv_entry ([.ref xd, .int 0]) (n := 3) (Nat.le_of_ble_eq_true rfl)
  rw [lg_entry_eq]
  generalize (lg_sl ([.ref xd, .int 0]) ++ List.replicate (3 - (lg_sl ([.ref xd, .int 0])).length) Slot.unset).toArray = ls at hl ⊢
  have hl : lv_has ls 3 [(0, .ref xd), (1, .int 0)] := hl
  obtain ⟨H, hH⟩ : ∃ H, H = s.heap := ⟨_, rfl⟩
  rw [← hH] at hP ⊢
  have hS : va_S A s.heap H [] := by rw [hH]; exact va_S.rf
  refine lv_iload_n hx hb dX0_flagsOf_0 rfl (lv_at hl 1 rfl) ?_
  refine lv_if_lt (tgt := 31) hx hb dX0_flagsOf_1 (by decide) (fun c => absurd c (by decide)) (fun _ => ?_)
  refine lv_iload_n hx hb dX0_flagsOf_4 rfl (lv_at hl 1 rfl) ?_
  refine lv_aload_n hx hb dX0_flagsOf_5 rfl (lv_at hl 0 rfl) ?_
  refine va_get (D := (dC, dI)) (ci := 0) (v := .int 2) (C := RX0) (T := TX0) (N := 3) hx hb hts hinX0 hown hK hP 0 rfl rfl 2 (by decide) k_0 (fun _ h9 => h9) rfl dX0_flagsOf_6 ?_
  refine lv_icmp_ge (tgt := 31) hx hb dX0_flagsOf_9 (by decide) (fun c => absurd c (by decide)) (fun _ => ?_)
  refine lv_iload_n hx hb dX0_flagsOf_12 rfl (lv_at hl 1 rfl) ?_
  refine lv_bipush (v := 8) hx hb dX0_flagsOf_13 (by decide) ?_
  refine lv_icmp_ge (tgt := 31) hx hb dX0_flagsOf_15 (by decide) (fun c => absurd c (by decide)) (fun _ => ?_)
  refine lv_aload_n hx hb dX0_flagsOf_18 rfl (lv_at hl 0 rfl) ?_
  refine va_get (D := (dC, dI)) (ci := 0) (v := .ref z0) (C := RX0) (T := TX0) (N := 3) hx hb hts hinX0 hown hK hP 0 rfl rfl 1 (by decide) k_1 (fun _ h9 => h9) rfl dX0_flagsOf_19 ?_
  refine lv_iload_n hx hb dX0_flagsOf_22 rfl (lv_at hl 1 rfl) ?_
  refine za_zald (v := 0) hx hb hK hP 1 2 rfl rfl (zin tn_0 (Nat.le_of_ble_eq_true rfl)) (zrd _ tn_0 rfl) dX0_flagsOf_23 ?_
  refine lv_if_eq (tgt := 31) hx hb dX0_flagsOf_24 (by decide) (fun _ => ?_) (fun c => absurd (by decide) c)
  refine lv_iconst (v := 0) hx hb dX0_flagsOf_31 (by decide) ?_
  refine lv_istore_n (lv' := [(2, .int 0), (0, .ref xd), (1, .int 0)]) hx hb dX0_flagsOf_32 rfl hl (by decide) rfl (fun ls hl => ?_)
  refine lv_iload_n hx hb dX0_flagsOf_33 rfl (lv_at hl 0 rfl) ?_
  refine lv_if_eq (tgt := 41) hx hb dX0_flagsOf_34 (by decide) (fun _ => ?_) (fun c => absurd (by decide) c)
  refine lv_iconst (v := 0) hx hb dX0_flagsOf_41 (by decide) ?_
  refine lv_iload_n hx hb dX0_flagsOf_42 rfl (lv_at hl 2 rfl) ?_
  refine lv_aload_n hx hb dX0_flagsOf_43 rfl (lv_at hl 1 rfl) ?_
  refine va_get (D := (dC, dI)) (ci := 0) (v := .int 2) (C := RX0) (T := TX0) (N := 3) hx hb hts hinX0 hown hK hP 0 rfl rfl 2 (by decide) k_0 (fun _ h9 => h9) rfl dX0_flagsOf_44 ?_
  refine lv_iconst (v := 1) hx hb dX0_flagsOf_47 (by decide) ?_
  refine lv_isub hx hb dX0_flagsOf_48 ?_
  refine tp (y := 1) (by decide) ?_
  refine lv_icmp_ge (tgt := 56) hx hb dX0_flagsOf_49 (by decide) (fun c => absurd c (by decide)) (fun _ => ?_)
  refine lv_iconst (v := 1) hx hb dX0_flagsOf_52 (by decide) ?_
  refine lv_goto (tgt := 57) hx hb dX0_flagsOf_53 (by decide) ?_
  refine lv_ior hx hb dX0_flagsOf_57 ?_
  refine tp (y := 1) (by decide) ?_
  have hP9 := hP.sub (ws' := [(xd, .inr (0, [.ref l0, .ref z0, .int 2])), (z0, .inl (cZ, 8, .inl (gl [0, w1, w2, w3, w4, w5, w6, w7])))]) [0, 1] rfl
  have hD9 := hD.sub (ws' := [(xd, .inr (0, [.ref l0, .ref z0, .int 2])), (z0, .inl (cZ, 8, .inl (gl [0, w1, w2, w3, w4, w5, w6, w7])))]) [0, 1] (by decide) rfl
  exact W.iret (v := 1) hx hb hr (fun t ht hW => ⟨⟨1, (), rfl, rfl, by rw [ht]; exact hP9, va_K.moved hW.alike hK, hD9⟩, hS.F ht⟩) hS.2.2 dX0_flagsOf_58

set_option maxHeartbeats 4000000 in
set_option maxRecDepth 100000 in
theorem kkX0_flagsOf_201 (l : Launch) (dC : Nat → ClassId) (dI : Nat → Nat → Nat) (cI cB cZ cR : ClassId) (sz : Nat) (xd : Nat) (l0 : Nat) (z0 : Nat) (w1 : Int32) (w2 : Int32) (w3 : Int32) (w4 : Int32) (w5 : Int32) (w6 : Int32) (w7 : Int32) : Met l yX0_flagsOf (.code yX0_flagsOf cX0_flagsOf 3 (some .int) :: wsL_law) ({ frames := 0, cells := 0, slots := 0, locals := 0 }) (zPc dC dI (zT cI cB cZ cR) [.ref xd, .int 0] sz [(xd, .inr (0, [.ref l0, .ref z0, .int 2])), (z0, .inl (cZ, 8, .inl (gl [1, w1, w2, w3, w4, w5, w6, w7])))]) (va_Qi (fun (r : Int32) (_ : Unit) => r = 3) (fun _ : Unit => zB dC dI (zT cI cB cZ cR) (va_A [(xd, .inr (0, [.ref l0, .ref z0, .int 2])), (z0, .inl (cZ, 8, .inl (gl [1, w1, w2, w3, w4, w5, w6, w7])))] sz) [(xd, .inr (0, [.ref l0, .ref z0, .int 2])), (z0, .inl (cZ, 8, .inl (gl [1, w1, w2, w3, w4, w5, w6, w7])))]) (va_A [(xd, .inr (0, [.ref l0, .ref z0, .int 2])), (z0, .inl (cZ, 8, .inl (gl [1, w1, w2, w3, w4, w5, w6, w7])))] sz)) 0 0 (va_A [(xd, .inr (0, [.ref l0, .ref z0, .int 2])), (z0, .inl (cZ, 8, .inl (gl [1, w1, w2, w3, w4, w5, w6, w7])))] sz) := by
  refine Met.ofW (cc := cX0_flagsOf) (maxL := 3) (ret := (some .int)) (by decide) rfl ?_
  intro p e s m args below meth c s₁ B hml hv
  obtain ⟨rfl, hsz, hP, hK, hD0, hN⟩ := hv
  have hx := B.exec
  have hb := B.bytes
  have hr := B.returns
  have hts := atoms_spec (ws := (.code yX0_flagsOf cX0_flagsOf 3 (some .int) :: wsL_law)) B.pre
  have hown : s.vm.findClass RX0 = some m.cls := findClass_of_methodNamed B.named
  have hlocks := B.notSynchronized
  have hinX0 : ∀ w ∈ u_ws RX0 TX0 3, w ∈ (.code yX0_flagsOf cX0_flagsOf 3 (some .int) :: wsL_law) := fun w h => List.mem_cons_of_mem _ (inlX0 w h)
  have k_0 := hts (.fieldLink RX0 19 "RingMarks$Chain" "size" "I") (List.mem_cons_of_mem _ wm_56)
  have k_1 := hts (.fieldLink RX0 15 "RingMarks$Chain" "writes" "[Z") (List.mem_cons_of_mem _ wm_55)
  subst hsz
  have hD := hD0.self (sz := s.heap.size)
  generalize hAe : va_A [(xd, .inr (0, [.ref l0, .ref z0, .int 2])), (z0, .inl (cZ, 8, .inl (gl [1, w1, w2, w3, w4, w5, w6, w7])))] s.heap.size = A at hD ⊢
  have hA : ∀ q : Nat, s.heap.size ≤ q → A q := fun q h => by rw [← hAe]; exact Or.inr h
  have hP : va_P (dC, dI) vwCl [(xd, .inr (0, [.ref l0, .ref z0, .int 2])), (z0, .inl (cZ, 8, .inl (gl [1, w1, w2, w3, w4, w5, w6, w7])))] s.heap := hP
  have hl := lv_entry ([.ref xd, .int 0]) (n := 3) (Nat.le_of_ble_eq_true rfl)
  rw [lg_entry_eq]
  generalize (lg_sl ([.ref xd, .int 0]) ++ List.replicate (3 - (lg_sl ([.ref xd, .int 0])).length) Slot.unset).toArray = ls at hl ⊢
  have hl : lv_has ls 3 [(0, .ref xd), (1, .int 0)] := hl
  obtain ⟨H, hH⟩ : ∃ H, H = s.heap := ⟨_, rfl⟩
  rw [← hH] at hP ⊢
  have hS : va_S A s.heap H [] := by rw [hH]; exact va_S.rf
  refine lv_iload_n hx hb dX0_flagsOf_0 rfl (lv_at hl 1 rfl) ?_
  refine lv_if_lt (tgt := 31) hx hb dX0_flagsOf_1 (by decide) (fun c => absurd c (by decide)) (fun _ => ?_)
  refine lv_iload_n hx hb dX0_flagsOf_4 rfl (lv_at hl 1 rfl) ?_
  refine lv_aload_n hx hb dX0_flagsOf_5 rfl (lv_at hl 0 rfl) ?_
  refine va_get (D := (dC, dI)) (ci := 0) (v := .int 2) (C := RX0) (T := TX0) (N := 3) hx hb hts hinX0 hown hK hP 0 rfl rfl 2 (by decide) k_0 (fun _ h9 => h9) rfl dX0_flagsOf_6 ?_
  refine lv_icmp_ge (tgt := 31) hx hb dX0_flagsOf_9 (by decide) (fun c => absurd c (by decide)) (fun _ => ?_)
  refine lv_iload_n hx hb dX0_flagsOf_12 rfl (lv_at hl 1 rfl) ?_
  refine lv_bipush (v := 8) hx hb dX0_flagsOf_13 (by decide) ?_
  refine lv_icmp_ge (tgt := 31) hx hb dX0_flagsOf_15 (by decide) (fun c => absurd c (by decide)) (fun _ => ?_)
  refine lv_aload_n hx hb dX0_flagsOf_18 rfl (lv_at hl 0 rfl) ?_
  refine va_get (D := (dC, dI)) (ci := 0) (v := .ref z0) (C := RX0) (T := TX0) (N := 3) hx hb hts hinX0 hown hK hP 0 rfl rfl 1 (by decide) k_1 (fun _ h9 => h9) rfl dX0_flagsOf_19 ?_
  refine lv_iload_n hx hb dX0_flagsOf_22 rfl (lv_at hl 1 rfl) ?_
  refine za_zald (v := 1) hx hb hK hP 1 2 rfl rfl (zin tn_0 (Nat.le_of_ble_eq_true rfl)) (zrd _ tn_0 rfl) dX0_flagsOf_23 ?_
  refine lv_if_eq (tgt := 31) hx hb dX0_flagsOf_24 (by decide) (fun c => absurd c (by decide)) (fun _ => ?_)
  refine lv_iconst (v := 1) hx hb dX0_flagsOf_27 (by decide) ?_
  refine lv_goto (tgt := 32) hx hb dX0_flagsOf_28 (by decide) ?_
  refine lv_istore_n (lv' := [(2, .int 1), (0, .ref xd), (1, .int 0)]) hx hb dX0_flagsOf_32 rfl hl (by decide) rfl (fun ls hl => ?_)
  refine lv_iload_n hx hb dX0_flagsOf_33 rfl (lv_at hl 0 rfl) ?_
  refine lv_if_eq (tgt := 41) hx hb dX0_flagsOf_34 (by decide) (fun c => absurd c (by decide)) (fun _ => ?_)
  refine lv_iconst (v := 2) hx hb dX0_flagsOf_37 (by decide) ?_
  refine lv_goto (tgt := 42) hx hb dX0_flagsOf_38 (by decide) ?_
  refine lv_iload_n hx hb dX0_flagsOf_42 rfl (lv_at hl 2 rfl) ?_
  refine lv_aload_n hx hb dX0_flagsOf_43 rfl (lv_at hl 1 rfl) ?_
  refine va_get (D := (dC, dI)) (ci := 0) (v := .int 2) (C := RX0) (T := TX0) (N := 3) hx hb hts hinX0 hown hK hP 0 rfl rfl 2 (by decide) k_0 (fun _ h9 => h9) rfl dX0_flagsOf_44 ?_
  refine lv_iconst (v := 1) hx hb dX0_flagsOf_47 (by decide) ?_
  refine lv_isub hx hb dX0_flagsOf_48 ?_
  refine tp (y := 1) (by decide) ?_
  refine lv_icmp_ge (tgt := 56) hx hb dX0_flagsOf_49 (by decide) (fun c => absurd c (by decide)) (fun _ => ?_)
  refine lv_iconst (v := 1) hx hb dX0_flagsOf_52 (by decide) ?_
  refine lv_goto (tgt := 57) hx hb dX0_flagsOf_53 (by decide) ?_
  refine lv_ior hx hb dX0_flagsOf_57 ?_
  refine tp (y := 3) (by decide) ?_
  have hP9 := hP.sub (ws' := [(xd, .inr (0, [.ref l0, .ref z0, .int 2])), (z0, .inl (cZ, 8, .inl (gl [1, w1, w2, w3, w4, w5, w6, w7])))]) [0, 1] rfl
  have hD9 := hD.sub (ws' := [(xd, .inr (0, [.ref l0, .ref z0, .int 2])), (z0, .inl (cZ, 8, .inl (gl [1, w1, w2, w3, w4, w5, w6, w7])))]) [0, 1] (by decide) rfl
  exact W.iret (v := 3) hx hb hr (fun t ht hW => ⟨⟨3, (), rfl, rfl, by rw [ht]; exact hP9, va_K.moved hW.alike hK, hD9⟩, hS.F ht⟩) hS.2.2 dX0_flagsOf_58

set_option maxHeartbeats 4000000 in
set_option maxRecDepth 100000 in
theorem kkX0_lengthOf_21 (l : Launch) (dC : Nat → ClassId) (dI : Nat → Nat → Nat) (cI cB cZ cR : ClassId) (sz : Nat) (xd : Nat) (l0 : Nat) (z0 : Nat) (n0 : Int32) (n1 : Int32) (n2 : Int32) (n3 : Int32) (n4 : Int32) (n5 : Int32) (n6 : Int32) (n7 : Int32) : Met l yX0_lengthOf (.code yX0_lengthOf cX0_lengthOf 2 (some .int) :: wsL_law) ({ frames := 0, cells := 0, slots := 0, locals := 0 }) (zPc dC dI (zT cI cB cZ cR) [.ref xd, .int 1] sz [(xd, .inr (0, [.ref l0, .ref z0, .int 2])), (l0, .inl (cI, 8, .inl (gl [n0, n1, n2, n3, n4, n5, n6, n7])))]) (va_Qi (fun (r : Int32) (_ : Unit) => r = n1) (fun _ : Unit => zB dC dI (zT cI cB cZ cR) (va_A [(xd, .inr (0, [.ref l0, .ref z0, .int 2])), (l0, .inl (cI, 8, .inl (gl [n0, n1, n2, n3, n4, n5, n6, n7])))] sz) [(xd, .inr (0, [.ref l0, .ref z0, .int 2])), (l0, .inl (cI, 8, .inl (gl [n0, n1, n2, n3, n4, n5, n6, n7])))]) (va_A [(xd, .inr (0, [.ref l0, .ref z0, .int 2])), (l0, .inl (cI, 8, .inl (gl [n0, n1, n2, n3, n4, n5, n6, n7])))] sz)) 0 0 (va_A [(xd, .inr (0, [.ref l0, .ref z0, .int 2])), (l0, .inl (cI, 8, .inl (gl [n0, n1, n2, n3, n4, n5, n6, n7])))] sz) := by
  refine Met.ofW (cc := cX0_lengthOf) (maxL := 2) (ret := (some .int)) (by decide) rfl ?_
  intro p e s m args below meth c s₁ B hml hv
  obtain ⟨rfl, hsz, hP, hK, hD0, hN⟩ := hv
  have hx := B.exec
  have hb := B.bytes
  have hr := B.returns
  have hts := atoms_spec (ws := (.code yX0_lengthOf cX0_lengthOf 2 (some .int) :: wsL_law)) B.pre
  have hown : s.vm.findClass RX0 = some m.cls := findClass_of_methodNamed B.named
  have hlocks := B.notSynchronized
  have hinX0 : ∀ w ∈ u_ws RX0 TX0 3, w ∈ (.code yX0_lengthOf cX0_lengthOf 2 (some .int) :: wsL_law) := fun w h => List.mem_cons_of_mem _ (inlX0 w h)
  have k_0 := hts (.fieldLink RX0 19 "RingMarks$Chain" "size" "I") (List.mem_cons_of_mem _ wm_56)
  have k_1 := hts (.fieldLink RX0 11 "RingMarks$Chain" "lengths" "[I") (List.mem_cons_of_mem _ wm_53)
  subst hsz
  have hD := hD0.self (sz := s.heap.size)
  generalize hAe : va_A [(xd, .inr (0, [.ref l0, .ref z0, .int 2])), (l0, .inl (cI, 8, .inl (gl [n0, n1, n2, n3, n4, n5, n6, n7])))] s.heap.size = A at hD ⊢
  have hA : ∀ q : Nat, s.heap.size ≤ q → A q := fun q h => by rw [← hAe]; exact Or.inr h
  have hP : va_P (dC, dI) vwCl [(xd, .inr (0, [.ref l0, .ref z0, .int 2])), (l0, .inl (cI, 8, .inl (gl [n0, n1, n2, n3, n4, n5, n6, n7])))] s.heap := hP
  have hl := lv_entry ([.ref xd, .int 1]) (n := 2) (Nat.le_of_ble_eq_true rfl)
  rw [lg_entry_eq]
  generalize (lg_sl ([.ref xd, .int 1]) ++ List.replicate (2 - (lg_sl ([.ref xd, .int 1])).length) Slot.unset).toArray = ls at hl ⊢
  have hl : lv_has ls 2 [(0, .ref xd), (1, .int 1)] := hl
  obtain ⟨H, hH⟩ : ∃ H, H = s.heap := ⟨_, rfl⟩
  rw [← hH] at hP ⊢
  have hS : va_S A s.heap H [] := by rw [hH]; exact va_S.rf
  refine lv_iload_n hx hb dX0_lengthOf_0 rfl (lv_at hl 1 rfl) ?_
  refine lv_if_lt (tgt := 27) hx hb dX0_lengthOf_1 (by decide) (fun c => absurd c (by decide)) (fun _ => ?_)
  refine lv_iload_n hx hb dX0_lengthOf_4 rfl (lv_at hl 1 rfl) ?_
  refine lv_aload_n hx hb dX0_lengthOf_5 rfl (lv_at hl 0 rfl) ?_
  refine va_get (D := (dC, dI)) (ci := 0) (v := .int 2) (C := RX0) (T := TX0) (N := 3) hx hb hts hinX0 hown hK hP 0 rfl rfl 2 (by decide) k_0 (fun _ h9 => h9) rfl dX0_lengthOf_6 ?_
  refine lv_icmp_ge (tgt := 27) hx hb dX0_lengthOf_9 (by decide) (fun c => absurd c (by decide)) (fun _ => ?_)
  refine lv_iload_n hx hb dX0_lengthOf_12 rfl (lv_at hl 1 rfl) ?_
  refine lv_bipush (v := 8) hx hb dX0_lengthOf_13 (by decide) ?_
  refine lv_icmp_ge (tgt := 27) hx hb dX0_lengthOf_15 (by decide) (fun c => absurd c (by decide)) (fun _ => ?_)
  refine lv_aload_n hx hb dX0_lengthOf_18 rfl (lv_at hl 0 rfl) ?_
  refine va_get (D := (dC, dI)) (ci := 0) (v := .ref l0) (C := RX0) (T := TX0) (N := 3) hx hb hts hinX0 hown hK hP 0 rfl rfl 0 (by decide) k_1 (fun _ h9 => h9) rfl dX0_lengthOf_19 ?_
  refine lv_iload_n hx hb dX0_lengthOf_22 rfl (lv_at hl 1 rfl) ?_
  refine za_iald (v := n1) hx hb hK hP 1 0 rfl rfl (zin tn_1 (Nat.le_of_ble_eq_true rfl)) (zrd _ tn_1 rfl) dX0_lengthOf_23 ?_
  refine lv_goto (tgt := 28) hx hb dX0_lengthOf_24 (by decide) ?_
  have hP9 := hP.sub (ws' := [(xd, .inr (0, [.ref l0, .ref z0, .int 2])), (l0, .inl (cI, 8, .inl (gl [n0, n1, n2, n3, n4, n5, n6, n7])))]) [0, 1] rfl
  have hD9 := hD.sub (ws' := [(xd, .inr (0, [.ref l0, .ref z0, .int 2])), (l0, .inl (cI, 8, .inl (gl [n0, n1, n2, n3, n4, n5, n6, n7])))]) [0, 1] (by decide) rfl
  exact W.iret (v := n1) hx hb hr (fun t ht hW => ⟨⟨n1, (), rfl, rfl, by rw [ht]; exact hP9, va_K.moved hW.alike hK, hD9⟩, hS.F ht⟩) hS.2.2 dX0_lengthOf_28

set_option maxHeartbeats 4000000 in
set_option maxRecDepth 100000 in
theorem kkX0_flagsOf_210 (l : Launch) (dC : Nat → ClassId) (dI : Nat → Nat → Nat) (cI cB cZ cR : ClassId) (sz : Nat) (xd : Nat) (l0 : Nat) (z0 : Nat) (w0 : Int32) (w2 : Int32) (w3 : Int32) (w4 : Int32) (w5 : Int32) (w6 : Int32) (w7 : Int32) : Met l yX0_flagsOf (.code yX0_flagsOf cX0_flagsOf 3 (some .int) :: wsL_law) ({ frames := 0, cells := 0, slots := 0, locals := 0 }) (zPc dC dI (zT cI cB cZ cR) [.ref xd, .int 1] sz [(xd, .inr (0, [.ref l0, .ref z0, .int 2])), (z0, .inl (cZ, 8, .inl (gl [w0, 0, w2, w3, w4, w5, w6, w7])))]) (va_Qi (fun (r : Int32) (_ : Unit) => r = 0) (fun _ : Unit => zB dC dI (zT cI cB cZ cR) (va_A [(xd, .inr (0, [.ref l0, .ref z0, .int 2])), (z0, .inl (cZ, 8, .inl (gl [w0, 0, w2, w3, w4, w5, w6, w7])))] sz) [(xd, .inr (0, [.ref l0, .ref z0, .int 2])), (z0, .inl (cZ, 8, .inl (gl [w0, 0, w2, w3, w4, w5, w6, w7])))]) (va_A [(xd, .inr (0, [.ref l0, .ref z0, .int 2])), (z0, .inl (cZ, 8, .inl (gl [w0, 0, w2, w3, w4, w5, w6, w7])))] sz)) 0 0 (va_A [(xd, .inr (0, [.ref l0, .ref z0, .int 2])), (z0, .inl (cZ, 8, .inl (gl [w0, 0, w2, w3, w4, w5, w6, w7])))] sz) := by
  refine Met.ofW (cc := cX0_flagsOf) (maxL := 3) (ret := (some .int)) (by decide) rfl ?_
  intro p e s m args below meth c s₁ B hml hv
  obtain ⟨rfl, hsz, hP, hK, hD0, hN⟩ := hv
  have hx := B.exec
  have hb := B.bytes
  have hr := B.returns
  have hts := atoms_spec (ws := (.code yX0_flagsOf cX0_flagsOf 3 (some .int) :: wsL_law)) B.pre
  have hown : s.vm.findClass RX0 = some m.cls := findClass_of_methodNamed B.named
  have hlocks := B.notSynchronized
  have hinX0 : ∀ w ∈ u_ws RX0 TX0 3, w ∈ (.code yX0_flagsOf cX0_flagsOf 3 (some .int) :: wsL_law) := fun w h => List.mem_cons_of_mem _ (inlX0 w h)
  have k_0 := hts (.fieldLink RX0 19 "RingMarks$Chain" "size" "I") (List.mem_cons_of_mem _ wm_56)
  have k_1 := hts (.fieldLink RX0 15 "RingMarks$Chain" "writes" "[Z") (List.mem_cons_of_mem _ wm_55)
  subst hsz
  have hD := hD0.self (sz := s.heap.size)
  generalize hAe : va_A [(xd, .inr (0, [.ref l0, .ref z0, .int 2])), (z0, .inl (cZ, 8, .inl (gl [w0, 0, w2, w3, w4, w5, w6, w7])))] s.heap.size = A at hD ⊢
  have hA : ∀ q : Nat, s.heap.size ≤ q → A q := fun q h => by rw [← hAe]; exact Or.inr h
  have hP : va_P (dC, dI) vwCl [(xd, .inr (0, [.ref l0, .ref z0, .int 2])), (z0, .inl (cZ, 8, .inl (gl [w0, 0, w2, w3, w4, w5, w6, w7])))] s.heap := hP
  have hl := lv_entry ([.ref xd, .int 1]) (n := 3) (Nat.le_of_ble_eq_true rfl)
  rw [lg_entry_eq]
  generalize (lg_sl ([.ref xd, .int 1]) ++ List.replicate (3 - (lg_sl ([.ref xd, .int 1])).length) Slot.unset).toArray = ls at hl ⊢
  have hl : lv_has ls 3 [(0, .ref xd), (1, .int 1)] := hl
  obtain ⟨H, hH⟩ : ∃ H, H = s.heap := ⟨_, rfl⟩
  rw [← hH] at hP ⊢
  have hS : va_S A s.heap H [] := by rw [hH]; exact va_S.rf
  refine lv_iload_n hx hb dX0_flagsOf_0 rfl (lv_at hl 1 rfl) ?_
  refine lv_if_lt (tgt := 31) hx hb dX0_flagsOf_1 (by decide) (fun c => absurd c (by decide)) (fun _ => ?_)
  refine lv_iload_n hx hb dX0_flagsOf_4 rfl (lv_at hl 1 rfl) ?_
  refine lv_aload_n hx hb dX0_flagsOf_5 rfl (lv_at hl 0 rfl) ?_
  refine va_get (D := (dC, dI)) (ci := 0) (v := .int 2) (C := RX0) (T := TX0) (N := 3) hx hb hts hinX0 hown hK hP 0 rfl rfl 2 (by decide) k_0 (fun _ h9 => h9) rfl dX0_flagsOf_6 ?_
  refine lv_icmp_ge (tgt := 31) hx hb dX0_flagsOf_9 (by decide) (fun c => absurd c (by decide)) (fun _ => ?_)
  refine lv_iload_n hx hb dX0_flagsOf_12 rfl (lv_at hl 1 rfl) ?_
  refine lv_bipush (v := 8) hx hb dX0_flagsOf_13 (by decide) ?_
  refine lv_icmp_ge (tgt := 31) hx hb dX0_flagsOf_15 (by decide) (fun c => absurd c (by decide)) (fun _ => ?_)
  refine lv_aload_n hx hb dX0_flagsOf_18 rfl (lv_at hl 0 rfl) ?_
  refine va_get (D := (dC, dI)) (ci := 0) (v := .ref z0) (C := RX0) (T := TX0) (N := 3) hx hb hts hinX0 hown hK hP 0 rfl rfl 1 (by decide) k_1 (fun _ h9 => h9) rfl dX0_flagsOf_19 ?_
  refine lv_iload_n hx hb dX0_flagsOf_22 rfl (lv_at hl 1 rfl) ?_
  refine za_zald (v := 0) hx hb hK hP 1 2 rfl rfl (zin tn_1 (Nat.le_of_ble_eq_true rfl)) (zrd _ tn_1 rfl) dX0_flagsOf_23 ?_
  refine lv_if_eq (tgt := 31) hx hb dX0_flagsOf_24 (by decide) (fun _ => ?_) (fun c => absurd (by decide) c)
  refine lv_iconst (v := 0) hx hb dX0_flagsOf_31 (by decide) ?_
  refine lv_istore_n (lv' := [(2, .int 0), (0, .ref xd), (1, .int 1)]) hx hb dX0_flagsOf_32 rfl hl (by decide) rfl (fun ls hl => ?_)
  refine lv_iload_n hx hb dX0_flagsOf_33 rfl (lv_at hl 0 rfl) ?_
  refine lv_if_eq (tgt := 41) hx hb dX0_flagsOf_34 (by decide) (fun _ => ?_) (fun c => absurd (by decide) c)
  refine lv_iconst (v := 0) hx hb dX0_flagsOf_41 (by decide) ?_
  refine lv_iload_n hx hb dX0_flagsOf_42 rfl (lv_at hl 2 rfl) ?_
  refine lv_aload_n hx hb dX0_flagsOf_43 rfl (lv_at hl 1 rfl) ?_
  refine va_get (D := (dC, dI)) (ci := 0) (v := .int 2) (C := RX0) (T := TX0) (N := 3) hx hb hts hinX0 hown hK hP 0 rfl rfl 2 (by decide) k_0 (fun _ h9 => h9) rfl dX0_flagsOf_44 ?_
  refine lv_iconst (v := 1) hx hb dX0_flagsOf_47 (by decide) ?_
  refine lv_isub hx hb dX0_flagsOf_48 ?_
  refine tp (y := 1) (by decide) ?_
  refine lv_icmp_ge (tgt := 56) hx hb dX0_flagsOf_49 (by decide) (fun _ => ?_) (fun c => absurd (by decide) c)
  refine lv_iconst (v := 0) hx hb dX0_flagsOf_56 (by decide) ?_
  refine lv_ior hx hb dX0_flagsOf_57 ?_
  refine tp (y := 0) (by decide) ?_
  have hP9 := hP.sub (ws' := [(xd, .inr (0, [.ref l0, .ref z0, .int 2])), (z0, .inl (cZ, 8, .inl (gl [w0, 0, w2, w3, w4, w5, w6, w7])))]) [0, 1] rfl
  have hD9 := hD.sub (ws' := [(xd, .inr (0, [.ref l0, .ref z0, .int 2])), (z0, .inl (cZ, 8, .inl (gl [w0, 0, w2, w3, w4, w5, w6, w7])))]) [0, 1] (by decide) rfl
  exact W.iret (v := 0) hx hb hr (fun t ht hW => ⟨⟨0, (), rfl, rfl, by rw [ht]; exact hP9, va_K.moved hW.alike hK, hD9⟩, hS.F ht⟩) hS.2.2 dX0_flagsOf_58

set_option maxHeartbeats 4000000 in
set_option maxRecDepth 100000 in
theorem kkX0_flagsOf_211 (l : Launch) (dC : Nat → ClassId) (dI : Nat → Nat → Nat) (cI cB cZ cR : ClassId) (sz : Nat) (xd : Nat) (l0 : Nat) (z0 : Nat) (w0 : Int32) (w2 : Int32) (w3 : Int32) (w4 : Int32) (w5 : Int32) (w6 : Int32) (w7 : Int32) : Met l yX0_flagsOf (.code yX0_flagsOf cX0_flagsOf 3 (some .int) :: wsL_law) ({ frames := 0, cells := 0, slots := 0, locals := 0 }) (zPc dC dI (zT cI cB cZ cR) [.ref xd, .int 1] sz [(xd, .inr (0, [.ref l0, .ref z0, .int 2])), (z0, .inl (cZ, 8, .inl (gl [w0, 1, w2, w3, w4, w5, w6, w7])))]) (va_Qi (fun (r : Int32) (_ : Unit) => r = 2) (fun _ : Unit => zB dC dI (zT cI cB cZ cR) (va_A [(xd, .inr (0, [.ref l0, .ref z0, .int 2])), (z0, .inl (cZ, 8, .inl (gl [w0, 1, w2, w3, w4, w5, w6, w7])))] sz) [(xd, .inr (0, [.ref l0, .ref z0, .int 2])), (z0, .inl (cZ, 8, .inl (gl [w0, 1, w2, w3, w4, w5, w6, w7])))]) (va_A [(xd, .inr (0, [.ref l0, .ref z0, .int 2])), (z0, .inl (cZ, 8, .inl (gl [w0, 1, w2, w3, w4, w5, w6, w7])))] sz)) 0 0 (va_A [(xd, .inr (0, [.ref l0, .ref z0, .int 2])), (z0, .inl (cZ, 8, .inl (gl [w0, 1, w2, w3, w4, w5, w6, w7])))] sz) := by
  refine Met.ofW (cc := cX0_flagsOf) (maxL := 3) (ret := (some .int)) (by decide) rfl ?_
  intro p e s m args below meth c s₁ B hml hv
  obtain ⟨rfl, hsz, hP, hK, hD0, hN⟩ := hv
  have hx := B.exec
  have hb := B.bytes
  have hr := B.returns
  have hts := atoms_spec (ws := (.code yX0_flagsOf cX0_flagsOf 3 (some .int) :: wsL_law)) B.pre
  have hown : s.vm.findClass RX0 = some m.cls := findClass_of_methodNamed B.named
  have hlocks := B.notSynchronized
  have hinX0 : ∀ w ∈ u_ws RX0 TX0 3, w ∈ (.code yX0_flagsOf cX0_flagsOf 3 (some .int) :: wsL_law) := fun w h => List.mem_cons_of_mem _ (inlX0 w h)
  have k_0 := hts (.fieldLink RX0 19 "RingMarks$Chain" "size" "I") (List.mem_cons_of_mem _ wm_56)
  have k_1 := hts (.fieldLink RX0 15 "RingMarks$Chain" "writes" "[Z") (List.mem_cons_of_mem _ wm_55)
  subst hsz
  have hD := hD0.self (sz := s.heap.size)
  generalize hAe : va_A [(xd, .inr (0, [.ref l0, .ref z0, .int 2])), (z0, .inl (cZ, 8, .inl (gl [w0, 1, w2, w3, w4, w5, w6, w7])))] s.heap.size = A at hD ⊢
  have hA : ∀ q : Nat, s.heap.size ≤ q → A q := fun q h => by rw [← hAe]; exact Or.inr h
  have hP : va_P (dC, dI) vwCl [(xd, .inr (0, [.ref l0, .ref z0, .int 2])), (z0, .inl (cZ, 8, .inl (gl [w0, 1, w2, w3, w4, w5, w6, w7])))] s.heap := hP
  have hl := lv_entry ([.ref xd, .int 1]) (n := 3) (Nat.le_of_ble_eq_true rfl)
  rw [lg_entry_eq]
  generalize (lg_sl ([.ref xd, .int 1]) ++ List.replicate (3 - (lg_sl ([.ref xd, .int 1])).length) Slot.unset).toArray = ls at hl ⊢
  have hl : lv_has ls 3 [(0, .ref xd), (1, .int 1)] := hl
  obtain ⟨H, hH⟩ : ∃ H, H = s.heap := ⟨_, rfl⟩
  rw [← hH] at hP ⊢
  have hS : va_S A s.heap H [] := by rw [hH]; exact va_S.rf
  refine lv_iload_n hx hb dX0_flagsOf_0 rfl (lv_at hl 1 rfl) ?_
  refine lv_if_lt (tgt := 31) hx hb dX0_flagsOf_1 (by decide) (fun c => absurd c (by decide)) (fun _ => ?_)
  refine lv_iload_n hx hb dX0_flagsOf_4 rfl (lv_at hl 1 rfl) ?_
  refine lv_aload_n hx hb dX0_flagsOf_5 rfl (lv_at hl 0 rfl) ?_
  refine va_get (D := (dC, dI)) (ci := 0) (v := .int 2) (C := RX0) (T := TX0) (N := 3) hx hb hts hinX0 hown hK hP 0 rfl rfl 2 (by decide) k_0 (fun _ h9 => h9) rfl dX0_flagsOf_6 ?_
  refine lv_icmp_ge (tgt := 31) hx hb dX0_flagsOf_9 (by decide) (fun c => absurd c (by decide)) (fun _ => ?_)
  refine lv_iload_n hx hb dX0_flagsOf_12 rfl (lv_at hl 1 rfl) ?_
  refine lv_bipush (v := 8) hx hb dX0_flagsOf_13 (by decide) ?_
  refine lv_icmp_ge (tgt := 31) hx hb dX0_flagsOf_15 (by decide) (fun c => absurd c (by decide)) (fun _ => ?_)
  refine lv_aload_n hx hb dX0_flagsOf_18 rfl (lv_at hl 0 rfl) ?_
  refine va_get (D := (dC, dI)) (ci := 0) (v := .ref z0) (C := RX0) (T := TX0) (N := 3) hx hb hts hinX0 hown hK hP 0 rfl rfl 1 (by decide) k_1 (fun _ h9 => h9) rfl dX0_flagsOf_19 ?_
  refine lv_iload_n hx hb dX0_flagsOf_22 rfl (lv_at hl 1 rfl) ?_
  refine za_zald (v := 1) hx hb hK hP 1 2 rfl rfl (zin tn_1 (Nat.le_of_ble_eq_true rfl)) (zrd _ tn_1 rfl) dX0_flagsOf_23 ?_
  refine lv_if_eq (tgt := 31) hx hb dX0_flagsOf_24 (by decide) (fun c => absurd c (by decide)) (fun _ => ?_)
  refine lv_iconst (v := 1) hx hb dX0_flagsOf_27 (by decide) ?_
  refine lv_goto (tgt := 32) hx hb dX0_flagsOf_28 (by decide) ?_
  refine lv_istore_n (lv' := [(2, .int 1), (0, .ref xd), (1, .int 1)]) hx hb dX0_flagsOf_32 rfl hl (by decide) rfl (fun ls hl => ?_)
  refine lv_iload_n hx hb dX0_flagsOf_33 rfl (lv_at hl 0 rfl) ?_
  refine lv_if_eq (tgt := 41) hx hb dX0_flagsOf_34 (by decide) (fun c => absurd c (by decide)) (fun _ => ?_)
  refine lv_iconst (v := 2) hx hb dX0_flagsOf_37 (by decide) ?_
  refine lv_goto (tgt := 42) hx hb dX0_flagsOf_38 (by decide) ?_
  refine lv_iload_n hx hb dX0_flagsOf_42 rfl (lv_at hl 2 rfl) ?_
  refine lv_aload_n hx hb dX0_flagsOf_43 rfl (lv_at hl 1 rfl) ?_
  refine va_get (D := (dC, dI)) (ci := 0) (v := .int 2) (C := RX0) (T := TX0) (N := 3) hx hb hts hinX0 hown hK hP 0 rfl rfl 2 (by decide) k_0 (fun _ h9 => h9) rfl dX0_flagsOf_44 ?_
  refine lv_iconst (v := 1) hx hb dX0_flagsOf_47 (by decide) ?_
  refine lv_isub hx hb dX0_flagsOf_48 ?_
  refine tp (y := 1) (by decide) ?_
  refine lv_icmp_ge (tgt := 56) hx hb dX0_flagsOf_49 (by decide) (fun _ => ?_) (fun c => absurd (by decide) c)
  refine lv_iconst (v := 0) hx hb dX0_flagsOf_56 (by decide) ?_
  refine lv_ior hx hb dX0_flagsOf_57 ?_
  refine tp (y := 2) (by decide) ?_
  have hP9 := hP.sub (ws' := [(xd, .inr (0, [.ref l0, .ref z0, .int 2])), (z0, .inl (cZ, 8, .inl (gl [w0, 1, w2, w3, w4, w5, w6, w7])))]) [0, 1] rfl
  have hD9 := hD.sub (ws' := [(xd, .inr (0, [.ref l0, .ref z0, .int 2])), (z0, .inl (cZ, 8, .inl (gl [w0, 1, w2, w3, w4, w5, w6, w7])))]) [0, 1] (by decide) rfl
  exact W.iret (v := 2) hx hb hr (fun t ht hW => ⟨⟨2, (), rfl, rfl, by rw [ht]; exact hP9, va_K.moved hW.alike hK, hD9⟩, hS.F ht⟩) hS.2.2 dX0_flagsOf_58

set_option maxHeartbeats 4000000 in
set_option maxRecDepth 100000 in
theorem kkX0_lengthOf_30 (l : Launch) (dC : Nat → ClassId) (dI : Nat → Nat → Nat) (cI cB cZ cR : ClassId) (sz : Nat) (xd : Nat) (l0 : Nat) (z0 : Nat) (n0 : Int32) (n1 : Int32) (n2 : Int32) (n3 : Int32) (n4 : Int32) (n5 : Int32) (n6 : Int32) (n7 : Int32) : Met l yX0_lengthOf (.code yX0_lengthOf cX0_lengthOf 2 (some .int) :: wsL_law) ({ frames := 0, cells := 0, slots := 0, locals := 0 }) (zPc dC dI (zT cI cB cZ cR) [.ref xd, .int 0] sz [(xd, .inr (0, [.ref l0, .ref z0, .int 3])), (l0, .inl (cI, 8, .inl (gl [n0, n1, n2, n3, n4, n5, n6, n7])))]) (va_Qi (fun (r : Int32) (_ : Unit) => r = n0) (fun _ : Unit => zB dC dI (zT cI cB cZ cR) (va_A [(xd, .inr (0, [.ref l0, .ref z0, .int 3])), (l0, .inl (cI, 8, .inl (gl [n0, n1, n2, n3, n4, n5, n6, n7])))] sz) [(xd, .inr (0, [.ref l0, .ref z0, .int 3])), (l0, .inl (cI, 8, .inl (gl [n0, n1, n2, n3, n4, n5, n6, n7])))]) (va_A [(xd, .inr (0, [.ref l0, .ref z0, .int 3])), (l0, .inl (cI, 8, .inl (gl [n0, n1, n2, n3, n4, n5, n6, n7])))] sz)) 0 0 (va_A [(xd, .inr (0, [.ref l0, .ref z0, .int 3])), (l0, .inl (cI, 8, .inl (gl [n0, n1, n2, n3, n4, n5, n6, n7])))] sz) := by
  refine Met.ofW (cc := cX0_lengthOf) (maxL := 2) (ret := (some .int)) (by decide) rfl ?_
  intro p e s m args below meth c s₁ B hml hv
  obtain ⟨rfl, hsz, hP, hK, hD0, hN⟩ := hv
  have hx := B.exec
  have hb := B.bytes
  have hr := B.returns
  have hts := atoms_spec (ws := (.code yX0_lengthOf cX0_lengthOf 2 (some .int) :: wsL_law)) B.pre
  have hown : s.vm.findClass RX0 = some m.cls := findClass_of_methodNamed B.named
  have hlocks := B.notSynchronized
  have hinX0 : ∀ w ∈ u_ws RX0 TX0 3, w ∈ (.code yX0_lengthOf cX0_lengthOf 2 (some .int) :: wsL_law) := fun w h => List.mem_cons_of_mem _ (inlX0 w h)
  have k_0 := hts (.fieldLink RX0 19 "RingMarks$Chain" "size" "I") (List.mem_cons_of_mem _ wm_56)
  have k_1 := hts (.fieldLink RX0 11 "RingMarks$Chain" "lengths" "[I") (List.mem_cons_of_mem _ wm_53)
  subst hsz
  have hD := hD0.self (sz := s.heap.size)
  generalize hAe : va_A [(xd, .inr (0, [.ref l0, .ref z0, .int 3])), (l0, .inl (cI, 8, .inl (gl [n0, n1, n2, n3, n4, n5, n6, n7])))] s.heap.size = A at hD ⊢
  have hA : ∀ q : Nat, s.heap.size ≤ q → A q := fun q h => by rw [← hAe]; exact Or.inr h
  have hP : va_P (dC, dI) vwCl [(xd, .inr (0, [.ref l0, .ref z0, .int 3])), (l0, .inl (cI, 8, .inl (gl [n0, n1, n2, n3, n4, n5, n6, n7])))] s.heap := hP
  have hl := lv_entry ([.ref xd, .int 0]) (n := 2) (Nat.le_of_ble_eq_true rfl)
  rw [lg_entry_eq]
  generalize (lg_sl ([.ref xd, .int 0]) ++ List.replicate (2 - (lg_sl ([.ref xd, .int 0])).length) Slot.unset).toArray = ls at hl ⊢
  have hl : lv_has ls 2 [(0, .ref xd), (1, .int 0)] := hl
  obtain ⟨H, hH⟩ : ∃ H, H = s.heap := ⟨_, rfl⟩
  rw [← hH] at hP ⊢
  have hS : va_S A s.heap H [] := by rw [hH]; exact va_S.rf
  refine lv_iload_n hx hb dX0_lengthOf_0 rfl (lv_at hl 1 rfl) ?_
  refine lv_if_lt (tgt := 27) hx hb dX0_lengthOf_1 (by decide) (fun c => absurd c (by decide)) (fun _ => ?_)
  refine lv_iload_n hx hb dX0_lengthOf_4 rfl (lv_at hl 1 rfl) ?_
  refine lv_aload_n hx hb dX0_lengthOf_5 rfl (lv_at hl 0 rfl) ?_
  refine va_get (D := (dC, dI)) (ci := 0) (v := .int 3) (C := RX0) (T := TX0) (N := 3) hx hb hts hinX0 hown hK hP 0 rfl rfl 2 (by decide) k_0 (fun _ h9 => h9) rfl dX0_lengthOf_6 ?_
  refine lv_icmp_ge (tgt := 27) hx hb dX0_lengthOf_9 (by decide) (fun c => absurd c (by decide)) (fun _ => ?_)
  refine lv_iload_n hx hb dX0_lengthOf_12 rfl (lv_at hl 1 rfl) ?_
  refine lv_bipush (v := 8) hx hb dX0_lengthOf_13 (by decide) ?_
  refine lv_icmp_ge (tgt := 27) hx hb dX0_lengthOf_15 (by decide) (fun c => absurd c (by decide)) (fun _ => ?_)
  refine lv_aload_n hx hb dX0_lengthOf_18 rfl (lv_at hl 0 rfl) ?_
  refine va_get (D := (dC, dI)) (ci := 0) (v := .ref l0) (C := RX0) (T := TX0) (N := 3) hx hb hts hinX0 hown hK hP 0 rfl rfl 0 (by decide) k_1 (fun _ h9 => h9) rfl dX0_lengthOf_19 ?_
  refine lv_iload_n hx hb dX0_lengthOf_22 rfl (lv_at hl 1 rfl) ?_
  refine za_iald (v := n0) hx hb hK hP 1 0 rfl rfl (zin tn_0 (Nat.le_of_ble_eq_true rfl)) (zrd _ tn_0 rfl) dX0_lengthOf_23 ?_
  refine lv_goto (tgt := 28) hx hb dX0_lengthOf_24 (by decide) ?_
  have hP9 := hP.sub (ws' := [(xd, .inr (0, [.ref l0, .ref z0, .int 3])), (l0, .inl (cI, 8, .inl (gl [n0, n1, n2, n3, n4, n5, n6, n7])))]) [0, 1] rfl
  have hD9 := hD.sub (ws' := [(xd, .inr (0, [.ref l0, .ref z0, .int 3])), (l0, .inl (cI, 8, .inl (gl [n0, n1, n2, n3, n4, n5, n6, n7])))]) [0, 1] (by decide) rfl
  exact W.iret (v := n0) hx hb hr (fun t ht hW => ⟨⟨n0, (), rfl, rfl, by rw [ht]; exact hP9, va_K.moved hW.alike hK, hD9⟩, hS.F ht⟩) hS.2.2 dX0_lengthOf_28

set_option maxHeartbeats 4000000 in
set_option maxRecDepth 100000 in
theorem kkX0_flagsOf_300 (l : Launch) (dC : Nat → ClassId) (dI : Nat → Nat → Nat) (cI cB cZ cR : ClassId) (sz : Nat) (xd : Nat) (l0 : Nat) (z0 : Nat) (w1 : Int32) (w2 : Int32) (w3 : Int32) (w4 : Int32) (w5 : Int32) (w6 : Int32) (w7 : Int32) : Met l yX0_flagsOf (.code yX0_flagsOf cX0_flagsOf 3 (some .int) :: wsL_law) ({ frames := 0, cells := 0, slots := 0, locals := 0 }) (zPc dC dI (zT cI cB cZ cR) [.ref xd, .int 0] sz [(xd, .inr (0, [.ref l0, .ref z0, .int 3])), (z0, .inl (cZ, 8, .inl (gl [0, w1, w2, w3, w4, w5, w6, w7])))]) (va_Qi (fun (r : Int32) (_ : Unit) => r = 1) (fun _ : Unit => zB dC dI (zT cI cB cZ cR) (va_A [(xd, .inr (0, [.ref l0, .ref z0, .int 3])), (z0, .inl (cZ, 8, .inl (gl [0, w1, w2, w3, w4, w5, w6, w7])))] sz) [(xd, .inr (0, [.ref l0, .ref z0, .int 3])), (z0, .inl (cZ, 8, .inl (gl [0, w1, w2, w3, w4, w5, w6, w7])))]) (va_A [(xd, .inr (0, [.ref l0, .ref z0, .int 3])), (z0, .inl (cZ, 8, .inl (gl [0, w1, w2, w3, w4, w5, w6, w7])))] sz)) 0 0 (va_A [(xd, .inr (0, [.ref l0, .ref z0, .int 3])), (z0, .inl (cZ, 8, .inl (gl [0, w1, w2, w3, w4, w5, w6, w7])))] sz) := by
  refine Met.ofW (cc := cX0_flagsOf) (maxL := 3) (ret := (some .int)) (by decide) rfl ?_
  intro p e s m args below meth c s₁ B hml hv
  obtain ⟨rfl, hsz, hP, hK, hD0, hN⟩ := hv
  have hx := B.exec
  have hb := B.bytes
  have hr := B.returns
  have hts := atoms_spec (ws := (.code yX0_flagsOf cX0_flagsOf 3 (some .int) :: wsL_law)) B.pre
  have hown : s.vm.findClass RX0 = some m.cls := findClass_of_methodNamed B.named
  have hlocks := B.notSynchronized
  have hinX0 : ∀ w ∈ u_ws RX0 TX0 3, w ∈ (.code yX0_flagsOf cX0_flagsOf 3 (some .int) :: wsL_law) := fun w h => List.mem_cons_of_mem _ (inlX0 w h)
  have k_0 := hts (.fieldLink RX0 19 "RingMarks$Chain" "size" "I") (List.mem_cons_of_mem _ wm_56)
  have k_1 := hts (.fieldLink RX0 15 "RingMarks$Chain" "writes" "[Z") (List.mem_cons_of_mem _ wm_55)
  subst hsz
  have hD := hD0.self (sz := s.heap.size)
  generalize hAe : va_A [(xd, .inr (0, [.ref l0, .ref z0, .int 3])), (z0, .inl (cZ, 8, .inl (gl [0, w1, w2, w3, w4, w5, w6, w7])))] s.heap.size = A at hD ⊢
  have hA : ∀ q : Nat, s.heap.size ≤ q → A q := fun q h => by rw [← hAe]; exact Or.inr h
  have hP : va_P (dC, dI) vwCl [(xd, .inr (0, [.ref l0, .ref z0, .int 3])), (z0, .inl (cZ, 8, .inl (gl [0, w1, w2, w3, w4, w5, w6, w7])))] s.heap := hP
  have hl := lv_entry ([.ref xd, .int 0]) (n := 3) (Nat.le_of_ble_eq_true rfl)
  rw [lg_entry_eq]
  generalize (lg_sl ([.ref xd, .int 0]) ++ List.replicate (3 - (lg_sl ([.ref xd, .int 0])).length) Slot.unset).toArray = ls at hl ⊢
  have hl : lv_has ls 3 [(0, .ref xd), (1, .int 0)] := hl
  obtain ⟨H, hH⟩ : ∃ H, H = s.heap := ⟨_, rfl⟩
  rw [← hH] at hP ⊢
  have hS : va_S A s.heap H [] := by rw [hH]; exact va_S.rf
  refine lv_iload_n hx hb dX0_flagsOf_0 rfl (lv_at hl 1 rfl) ?_
  refine lv_if_lt (tgt := 31) hx hb dX0_flagsOf_1 (by decide) (fun c => absurd c (by decide)) (fun _ => ?_)
  refine lv_iload_n hx hb dX0_flagsOf_4 rfl (lv_at hl 1 rfl) ?_
  refine lv_aload_n hx hb dX0_flagsOf_5 rfl (lv_at hl 0 rfl) ?_
  refine va_get (D := (dC, dI)) (ci := 0) (v := .int 3) (C := RX0) (T := TX0) (N := 3) hx hb hts hinX0 hown hK hP 0 rfl rfl 2 (by decide) k_0 (fun _ h9 => h9) rfl dX0_flagsOf_6 ?_
  refine lv_icmp_ge (tgt := 31) hx hb dX0_flagsOf_9 (by decide) (fun c => absurd c (by decide)) (fun _ => ?_)
  refine lv_iload_n hx hb dX0_flagsOf_12 rfl (lv_at hl 1 rfl) ?_
  refine lv_bipush (v := 8) hx hb dX0_flagsOf_13 (by decide) ?_
  refine lv_icmp_ge (tgt := 31) hx hb dX0_flagsOf_15 (by decide) (fun c => absurd c (by decide)) (fun _ => ?_)
  refine lv_aload_n hx hb dX0_flagsOf_18 rfl (lv_at hl 0 rfl) ?_
  refine va_get (D := (dC, dI)) (ci := 0) (v := .ref z0) (C := RX0) (T := TX0) (N := 3) hx hb hts hinX0 hown hK hP 0 rfl rfl 1 (by decide) k_1 (fun _ h9 => h9) rfl dX0_flagsOf_19 ?_
  refine lv_iload_n hx hb dX0_flagsOf_22 rfl (lv_at hl 1 rfl) ?_
  refine za_zald (v := 0) hx hb hK hP 1 2 rfl rfl (zin tn_0 (Nat.le_of_ble_eq_true rfl)) (zrd _ tn_0 rfl) dX0_flagsOf_23 ?_
  refine lv_if_eq (tgt := 31) hx hb dX0_flagsOf_24 (by decide) (fun _ => ?_) (fun c => absurd (by decide) c)
  refine lv_iconst (v := 0) hx hb dX0_flagsOf_31 (by decide) ?_
  refine lv_istore_n (lv' := [(2, .int 0), (0, .ref xd), (1, .int 0)]) hx hb dX0_flagsOf_32 rfl hl (by decide) rfl (fun ls hl => ?_)
  refine lv_iload_n hx hb dX0_flagsOf_33 rfl (lv_at hl 0 rfl) ?_
  refine lv_if_eq (tgt := 41) hx hb dX0_flagsOf_34 (by decide) (fun _ => ?_) (fun c => absurd (by decide) c)
  refine lv_iconst (v := 0) hx hb dX0_flagsOf_41 (by decide) ?_
  refine lv_iload_n hx hb dX0_flagsOf_42 rfl (lv_at hl 2 rfl) ?_
  refine lv_aload_n hx hb dX0_flagsOf_43 rfl (lv_at hl 1 rfl) ?_
  refine va_get (D := (dC, dI)) (ci := 0) (v := .int 3) (C := RX0) (T := TX0) (N := 3) hx hb hts hinX0 hown hK hP 0 rfl rfl 2 (by decide) k_0 (fun _ h9 => h9) rfl dX0_flagsOf_44 ?_
  refine lv_iconst (v := 1) hx hb dX0_flagsOf_47 (by decide) ?_
  refine lv_isub hx hb dX0_flagsOf_48 ?_
  refine tp (y := 2) (by decide) ?_
  refine lv_icmp_ge (tgt := 56) hx hb dX0_flagsOf_49 (by decide) (fun c => absurd c (by decide)) (fun _ => ?_)
  refine lv_iconst (v := 1) hx hb dX0_flagsOf_52 (by decide) ?_
  refine lv_goto (tgt := 57) hx hb dX0_flagsOf_53 (by decide) ?_
  refine lv_ior hx hb dX0_flagsOf_57 ?_
  refine tp (y := 1) (by decide) ?_
  have hP9 := hP.sub (ws' := [(xd, .inr (0, [.ref l0, .ref z0, .int 3])), (z0, .inl (cZ, 8, .inl (gl [0, w1, w2, w3, w4, w5, w6, w7])))]) [0, 1] rfl
  have hD9 := hD.sub (ws' := [(xd, .inr (0, [.ref l0, .ref z0, .int 3])), (z0, .inl (cZ, 8, .inl (gl [0, w1, w2, w3, w4, w5, w6, w7])))]) [0, 1] (by decide) rfl
  exact W.iret (v := 1) hx hb hr (fun t ht hW => ⟨⟨1, (), rfl, rfl, by rw [ht]; exact hP9, va_K.moved hW.alike hK, hD9⟩, hS.F ht⟩) hS.2.2 dX0_flagsOf_58

set_option maxHeartbeats 4000000 in
set_option maxRecDepth 100000 in
theorem kkX0_flagsOf_301 (l : Launch) (dC : Nat → ClassId) (dI : Nat → Nat → Nat) (cI cB cZ cR : ClassId) (sz : Nat) (xd : Nat) (l0 : Nat) (z0 : Nat) (w1 : Int32) (w2 : Int32) (w3 : Int32) (w4 : Int32) (w5 : Int32) (w6 : Int32) (w7 : Int32) : Met l yX0_flagsOf (.code yX0_flagsOf cX0_flagsOf 3 (some .int) :: wsL_law) ({ frames := 0, cells := 0, slots := 0, locals := 0 }) (zPc dC dI (zT cI cB cZ cR) [.ref xd, .int 0] sz [(xd, .inr (0, [.ref l0, .ref z0, .int 3])), (z0, .inl (cZ, 8, .inl (gl [1, w1, w2, w3, w4, w5, w6, w7])))]) (va_Qi (fun (r : Int32) (_ : Unit) => r = 3) (fun _ : Unit => zB dC dI (zT cI cB cZ cR) (va_A [(xd, .inr (0, [.ref l0, .ref z0, .int 3])), (z0, .inl (cZ, 8, .inl (gl [1, w1, w2, w3, w4, w5, w6, w7])))] sz) [(xd, .inr (0, [.ref l0, .ref z0, .int 3])), (z0, .inl (cZ, 8, .inl (gl [1, w1, w2, w3, w4, w5, w6, w7])))]) (va_A [(xd, .inr (0, [.ref l0, .ref z0, .int 3])), (z0, .inl (cZ, 8, .inl (gl [1, w1, w2, w3, w4, w5, w6, w7])))] sz)) 0 0 (va_A [(xd, .inr (0, [.ref l0, .ref z0, .int 3])), (z0, .inl (cZ, 8, .inl (gl [1, w1, w2, w3, w4, w5, w6, w7])))] sz) := by
  refine Met.ofW (cc := cX0_flagsOf) (maxL := 3) (ret := (some .int)) (by decide) rfl ?_
  intro p e s m args below meth c s₁ B hml hv
  obtain ⟨rfl, hsz, hP, hK, hD0, hN⟩ := hv
  have hx := B.exec
  have hb := B.bytes
  have hr := B.returns
  have hts := atoms_spec (ws := (.code yX0_flagsOf cX0_flagsOf 3 (some .int) :: wsL_law)) B.pre
  have hown : s.vm.findClass RX0 = some m.cls := findClass_of_methodNamed B.named
  have hlocks := B.notSynchronized
  have hinX0 : ∀ w ∈ u_ws RX0 TX0 3, w ∈ (.code yX0_flagsOf cX0_flagsOf 3 (some .int) :: wsL_law) := fun w h => List.mem_cons_of_mem _ (inlX0 w h)
  have k_0 := hts (.fieldLink RX0 19 "RingMarks$Chain" "size" "I") (List.mem_cons_of_mem _ wm_56)
  have k_1 := hts (.fieldLink RX0 15 "RingMarks$Chain" "writes" "[Z") (List.mem_cons_of_mem _ wm_55)
  subst hsz
  have hD := hD0.self (sz := s.heap.size)
  generalize hAe : va_A [(xd, .inr (0, [.ref l0, .ref z0, .int 3])), (z0, .inl (cZ, 8, .inl (gl [1, w1, w2, w3, w4, w5, w6, w7])))] s.heap.size = A at hD ⊢
  have hA : ∀ q : Nat, s.heap.size ≤ q → A q := fun q h => by rw [← hAe]; exact Or.inr h
  have hP : va_P (dC, dI) vwCl [(xd, .inr (0, [.ref l0, .ref z0, .int 3])), (z0, .inl (cZ, 8, .inl (gl [1, w1, w2, w3, w4, w5, w6, w7])))] s.heap := hP
  have hl := lv_entry ([.ref xd, .int 0]) (n := 3) (Nat.le_of_ble_eq_true rfl)
  rw [lg_entry_eq]
  generalize (lg_sl ([.ref xd, .int 0]) ++ List.replicate (3 - (lg_sl ([.ref xd, .int 0])).length) Slot.unset).toArray = ls at hl ⊢
  have hl : lv_has ls 3 [(0, .ref xd), (1, .int 0)] := hl
  obtain ⟨H, hH⟩ : ∃ H, H = s.heap := ⟨_, rfl⟩
  rw [← hH] at hP ⊢
  have hS : va_S A s.heap H [] := by rw [hH]; exact va_S.rf
  refine lv_iload_n hx hb dX0_flagsOf_0 rfl (lv_at hl 1 rfl) ?_
  refine lv_if_lt (tgt := 31) hx hb dX0_flagsOf_1 (by decide) (fun c => absurd c (by decide)) (fun _ => ?_)
  refine lv_iload_n hx hb dX0_flagsOf_4 rfl (lv_at hl 1 rfl) ?_
  refine lv_aload_n hx hb dX0_flagsOf_5 rfl (lv_at hl 0 rfl) ?_
  refine va_get (D := (dC, dI)) (ci := 0) (v := .int 3) (C := RX0) (T := TX0) (N := 3) hx hb hts hinX0 hown hK hP 0 rfl rfl 2 (by decide) k_0 (fun _ h9 => h9) rfl dX0_flagsOf_6 ?_
  refine lv_icmp_ge (tgt := 31) hx hb dX0_flagsOf_9 (by decide) (fun c => absurd c (by decide)) (fun _ => ?_)
  refine lv_iload_n hx hb dX0_flagsOf_12 rfl (lv_at hl 1 rfl) ?_
  refine lv_bipush (v := 8) hx hb dX0_flagsOf_13 (by decide) ?_
  refine lv_icmp_ge (tgt := 31) hx hb dX0_flagsOf_15 (by decide) (fun c => absurd c (by decide)) (fun _ => ?_)
  refine lv_aload_n hx hb dX0_flagsOf_18 rfl (lv_at hl 0 rfl) ?_
  refine va_get (D := (dC, dI)) (ci := 0) (v := .ref z0) (C := RX0) (T := TX0) (N := 3) hx hb hts hinX0 hown hK hP 0 rfl rfl 1 (by decide) k_1 (fun _ h9 => h9) rfl dX0_flagsOf_19 ?_
  refine lv_iload_n hx hb dX0_flagsOf_22 rfl (lv_at hl 1 rfl) ?_
  refine za_zald (v := 1) hx hb hK hP 1 2 rfl rfl (zin tn_0 (Nat.le_of_ble_eq_true rfl)) (zrd _ tn_0 rfl) dX0_flagsOf_23 ?_
  refine lv_if_eq (tgt := 31) hx hb dX0_flagsOf_24 (by decide) (fun c => absurd c (by decide)) (fun _ => ?_)
  refine lv_iconst (v := 1) hx hb dX0_flagsOf_27 (by decide) ?_
  refine lv_goto (tgt := 32) hx hb dX0_flagsOf_28 (by decide) ?_
  refine lv_istore_n (lv' := [(2, .int 1), (0, .ref xd), (1, .int 0)]) hx hb dX0_flagsOf_32 rfl hl (by decide) rfl (fun ls hl => ?_)
  refine lv_iload_n hx hb dX0_flagsOf_33 rfl (lv_at hl 0 rfl) ?_
  refine lv_if_eq (tgt := 41) hx hb dX0_flagsOf_34 (by decide) (fun c => absurd c (by decide)) (fun _ => ?_)
  refine lv_iconst (v := 2) hx hb dX0_flagsOf_37 (by decide) ?_
  refine lv_goto (tgt := 42) hx hb dX0_flagsOf_38 (by decide) ?_
  refine lv_iload_n hx hb dX0_flagsOf_42 rfl (lv_at hl 2 rfl) ?_
  refine lv_aload_n hx hb dX0_flagsOf_43 rfl (lv_at hl 1 rfl) ?_
  refine va_get (D := (dC, dI)) (ci := 0) (v := .int 3) (C := RX0) (T := TX0) (N := 3) hx hb hts hinX0 hown hK hP 0 rfl rfl 2 (by decide) k_0 (fun _ h9 => h9) rfl dX0_flagsOf_44 ?_
  refine lv_iconst (v := 1) hx hb dX0_flagsOf_47 (by decide) ?_
  refine lv_isub hx hb dX0_flagsOf_48 ?_
  refine tp (y := 2) (by decide) ?_
  refine lv_icmp_ge (tgt := 56) hx hb dX0_flagsOf_49 (by decide) (fun c => absurd c (by decide)) (fun _ => ?_)
  refine lv_iconst (v := 1) hx hb dX0_flagsOf_52 (by decide) ?_
  refine lv_goto (tgt := 57) hx hb dX0_flagsOf_53 (by decide) ?_
  refine lv_ior hx hb dX0_flagsOf_57 ?_
  refine tp (y := 3) (by decide) ?_
  have hP9 := hP.sub (ws' := [(xd, .inr (0, [.ref l0, .ref z0, .int 3])), (z0, .inl (cZ, 8, .inl (gl [1, w1, w2, w3, w4, w5, w6, w7])))]) [0, 1] rfl
  have hD9 := hD.sub (ws' := [(xd, .inr (0, [.ref l0, .ref z0, .int 3])), (z0, .inl (cZ, 8, .inl (gl [1, w1, w2, w3, w4, w5, w6, w7])))]) [0, 1] (by decide) rfl
  exact W.iret (v := 3) hx hb hr (fun t ht hW => ⟨⟨3, (), rfl, rfl, by rw [ht]; exact hP9, va_K.moved hW.alike hK, hD9⟩, hS.F ht⟩) hS.2.2 dX0_flagsOf_58

set_option maxHeartbeats 4000000 in
set_option maxRecDepth 100000 in
theorem kkX0_lengthOf_31 (l : Launch) (dC : Nat → ClassId) (dI : Nat → Nat → Nat) (cI cB cZ cR : ClassId) (sz : Nat) (xd : Nat) (l0 : Nat) (z0 : Nat) (n0 : Int32) (n1 : Int32) (n2 : Int32) (n3 : Int32) (n4 : Int32) (n5 : Int32) (n6 : Int32) (n7 : Int32) : Met l yX0_lengthOf (.code yX0_lengthOf cX0_lengthOf 2 (some .int) :: wsL_law) ({ frames := 0, cells := 0, slots := 0, locals := 0 }) (zPc dC dI (zT cI cB cZ cR) [.ref xd, .int 1] sz [(xd, .inr (0, [.ref l0, .ref z0, .int 3])), (l0, .inl (cI, 8, .inl (gl [n0, n1, n2, n3, n4, n5, n6, n7])))]) (va_Qi (fun (r : Int32) (_ : Unit) => r = n1) (fun _ : Unit => zB dC dI (zT cI cB cZ cR) (va_A [(xd, .inr (0, [.ref l0, .ref z0, .int 3])), (l0, .inl (cI, 8, .inl (gl [n0, n1, n2, n3, n4, n5, n6, n7])))] sz) [(xd, .inr (0, [.ref l0, .ref z0, .int 3])), (l0, .inl (cI, 8, .inl (gl [n0, n1, n2, n3, n4, n5, n6, n7])))]) (va_A [(xd, .inr (0, [.ref l0, .ref z0, .int 3])), (l0, .inl (cI, 8, .inl (gl [n0, n1, n2, n3, n4, n5, n6, n7])))] sz)) 0 0 (va_A [(xd, .inr (0, [.ref l0, .ref z0, .int 3])), (l0, .inl (cI, 8, .inl (gl [n0, n1, n2, n3, n4, n5, n6, n7])))] sz) := by
  refine Met.ofW (cc := cX0_lengthOf) (maxL := 2) (ret := (some .int)) (by decide) rfl ?_
  intro p e s m args below meth c s₁ B hml hv
  obtain ⟨rfl, hsz, hP, hK, hD0, hN⟩ := hv
  have hx := B.exec
  have hb := B.bytes
  have hr := B.returns
  have hts := atoms_spec (ws := (.code yX0_lengthOf cX0_lengthOf 2 (some .int) :: wsL_law)) B.pre
  have hown : s.vm.findClass RX0 = some m.cls := findClass_of_methodNamed B.named
  have hlocks := B.notSynchronized
  have hinX0 : ∀ w ∈ u_ws RX0 TX0 3, w ∈ (.code yX0_lengthOf cX0_lengthOf 2 (some .int) :: wsL_law) := fun w h => List.mem_cons_of_mem _ (inlX0 w h)
  have k_0 := hts (.fieldLink RX0 19 "RingMarks$Chain" "size" "I") (List.mem_cons_of_mem _ wm_56)
  have k_1 := hts (.fieldLink RX0 11 "RingMarks$Chain" "lengths" "[I") (List.mem_cons_of_mem _ wm_53)
  subst hsz
  have hD := hD0.self (sz := s.heap.size)
  generalize hAe : va_A [(xd, .inr (0, [.ref l0, .ref z0, .int 3])), (l0, .inl (cI, 8, .inl (gl [n0, n1, n2, n3, n4, n5, n6, n7])))] s.heap.size = A at hD ⊢
  have hA : ∀ q : Nat, s.heap.size ≤ q → A q := fun q h => by rw [← hAe]; exact Or.inr h
  have hP : va_P (dC, dI) vwCl [(xd, .inr (0, [.ref l0, .ref z0, .int 3])), (l0, .inl (cI, 8, .inl (gl [n0, n1, n2, n3, n4, n5, n6, n7])))] s.heap := hP
  have hl := lv_entry ([.ref xd, .int 1]) (n := 2) (Nat.le_of_ble_eq_true rfl)
  rw [lg_entry_eq]
  generalize (lg_sl ([.ref xd, .int 1]) ++ List.replicate (2 - (lg_sl ([.ref xd, .int 1])).length) Slot.unset).toArray = ls at hl ⊢
  have hl : lv_has ls 2 [(0, .ref xd), (1, .int 1)] := hl
  obtain ⟨H, hH⟩ : ∃ H, H = s.heap := ⟨_, rfl⟩
  rw [← hH] at hP ⊢
  have hS : va_S A s.heap H [] := by rw [hH]; exact va_S.rf
  refine lv_iload_n hx hb dX0_lengthOf_0 rfl (lv_at hl 1 rfl) ?_
  refine lv_if_lt (tgt := 27) hx hb dX0_lengthOf_1 (by decide) (fun c => absurd c (by decide)) (fun _ => ?_)
  refine lv_iload_n hx hb dX0_lengthOf_4 rfl (lv_at hl 1 rfl) ?_
  refine lv_aload_n hx hb dX0_lengthOf_5 rfl (lv_at hl 0 rfl) ?_
  refine va_get (D := (dC, dI)) (ci := 0) (v := .int 3) (C := RX0) (T := TX0) (N := 3) hx hb hts hinX0 hown hK hP 0 rfl rfl 2 (by decide) k_0 (fun _ h9 => h9) rfl dX0_lengthOf_6 ?_
  refine lv_icmp_ge (tgt := 27) hx hb dX0_lengthOf_9 (by decide) (fun c => absurd c (by decide)) (fun _ => ?_)
  refine lv_iload_n hx hb dX0_lengthOf_12 rfl (lv_at hl 1 rfl) ?_
  refine lv_bipush (v := 8) hx hb dX0_lengthOf_13 (by decide) ?_
  refine lv_icmp_ge (tgt := 27) hx hb dX0_lengthOf_15 (by decide) (fun c => absurd c (by decide)) (fun _ => ?_)
  refine lv_aload_n hx hb dX0_lengthOf_18 rfl (lv_at hl 0 rfl) ?_
  refine va_get (D := (dC, dI)) (ci := 0) (v := .ref l0) (C := RX0) (T := TX0) (N := 3) hx hb hts hinX0 hown hK hP 0 rfl rfl 0 (by decide) k_1 (fun _ h9 => h9) rfl dX0_lengthOf_19 ?_
  refine lv_iload_n hx hb dX0_lengthOf_22 rfl (lv_at hl 1 rfl) ?_
  refine za_iald (v := n1) hx hb hK hP 1 0 rfl rfl (zin tn_1 (Nat.le_of_ble_eq_true rfl)) (zrd _ tn_1 rfl) dX0_lengthOf_23 ?_
  refine lv_goto (tgt := 28) hx hb dX0_lengthOf_24 (by decide) ?_
  have hP9 := hP.sub (ws' := [(xd, .inr (0, [.ref l0, .ref z0, .int 3])), (l0, .inl (cI, 8, .inl (gl [n0, n1, n2, n3, n4, n5, n6, n7])))]) [0, 1] rfl
  have hD9 := hD.sub (ws' := [(xd, .inr (0, [.ref l0, .ref z0, .int 3])), (l0, .inl (cI, 8, .inl (gl [n0, n1, n2, n3, n4, n5, n6, n7])))]) [0, 1] (by decide) rfl
  exact W.iret (v := n1) hx hb hr (fun t ht hW => ⟨⟨n1, (), rfl, rfl, by rw [ht]; exact hP9, va_K.moved hW.alike hK, hD9⟩, hS.F ht⟩) hS.2.2 dX0_lengthOf_28

set_option maxHeartbeats 4000000 in
set_option maxRecDepth 100000 in
theorem kkX0_flagsOf_310 (l : Launch) (dC : Nat → ClassId) (dI : Nat → Nat → Nat) (cI cB cZ cR : ClassId) (sz : Nat) (xd : Nat) (l0 : Nat) (z0 : Nat) (w0 : Int32) (w2 : Int32) (w3 : Int32) (w4 : Int32) (w5 : Int32) (w6 : Int32) (w7 : Int32) : Met l yX0_flagsOf (.code yX0_flagsOf cX0_flagsOf 3 (some .int) :: wsL_law) ({ frames := 0, cells := 0, slots := 0, locals := 0 }) (zPc dC dI (zT cI cB cZ cR) [.ref xd, .int 1] sz [(xd, .inr (0, [.ref l0, .ref z0, .int 3])), (z0, .inl (cZ, 8, .inl (gl [w0, 0, w2, w3, w4, w5, w6, w7])))]) (va_Qi (fun (r : Int32) (_ : Unit) => r = 1) (fun _ : Unit => zB dC dI (zT cI cB cZ cR) (va_A [(xd, .inr (0, [.ref l0, .ref z0, .int 3])), (z0, .inl (cZ, 8, .inl (gl [w0, 0, w2, w3, w4, w5, w6, w7])))] sz) [(xd, .inr (0, [.ref l0, .ref z0, .int 3])), (z0, .inl (cZ, 8, .inl (gl [w0, 0, w2, w3, w4, w5, w6, w7])))]) (va_A [(xd, .inr (0, [.ref l0, .ref z0, .int 3])), (z0, .inl (cZ, 8, .inl (gl [w0, 0, w2, w3, w4, w5, w6, w7])))] sz)) 0 0 (va_A [(xd, .inr (0, [.ref l0, .ref z0, .int 3])), (z0, .inl (cZ, 8, .inl (gl [w0, 0, w2, w3, w4, w5, w6, w7])))] sz) := by
  refine Met.ofW (cc := cX0_flagsOf) (maxL := 3) (ret := (some .int)) (by decide) rfl ?_
  intro p e s m args below meth c s₁ B hml hv
  obtain ⟨rfl, hsz, hP, hK, hD0, hN⟩ := hv
  have hx := B.exec
  have hb := B.bytes
  have hr := B.returns
  have hts := atoms_spec (ws := (.code yX0_flagsOf cX0_flagsOf 3 (some .int) :: wsL_law)) B.pre
  have hown : s.vm.findClass RX0 = some m.cls := findClass_of_methodNamed B.named
  have hlocks := B.notSynchronized
  have hinX0 : ∀ w ∈ u_ws RX0 TX0 3, w ∈ (.code yX0_flagsOf cX0_flagsOf 3 (some .int) :: wsL_law) := fun w h => List.mem_cons_of_mem _ (inlX0 w h)
  have k_0 := hts (.fieldLink RX0 19 "RingMarks$Chain" "size" "I") (List.mem_cons_of_mem _ wm_56)
  have k_1 := hts (.fieldLink RX0 15 "RingMarks$Chain" "writes" "[Z") (List.mem_cons_of_mem _ wm_55)
  subst hsz
  have hD := hD0.self (sz := s.heap.size)
  generalize hAe : va_A [(xd, .inr (0, [.ref l0, .ref z0, .int 3])), (z0, .inl (cZ, 8, .inl (gl [w0, 0, w2, w3, w4, w5, w6, w7])))] s.heap.size = A at hD ⊢
  have hA : ∀ q : Nat, s.heap.size ≤ q → A q := fun q h => by rw [← hAe]; exact Or.inr h
  have hP : va_P (dC, dI) vwCl [(xd, .inr (0, [.ref l0, .ref z0, .int 3])), (z0, .inl (cZ, 8, .inl (gl [w0, 0, w2, w3, w4, w5, w6, w7])))] s.heap := hP
  have hl := lv_entry ([.ref xd, .int 1]) (n := 3) (Nat.le_of_ble_eq_true rfl)
  rw [lg_entry_eq]
  generalize (lg_sl ([.ref xd, .int 1]) ++ List.replicate (3 - (lg_sl ([.ref xd, .int 1])).length) Slot.unset).toArray = ls at hl ⊢
  have hl : lv_has ls 3 [(0, .ref xd), (1, .int 1)] := hl
  obtain ⟨H, hH⟩ : ∃ H, H = s.heap := ⟨_, rfl⟩
  rw [← hH] at hP ⊢
  have hS : va_S A s.heap H [] := by rw [hH]; exact va_S.rf
  refine lv_iload_n hx hb dX0_flagsOf_0 rfl (lv_at hl 1 rfl) ?_
  refine lv_if_lt (tgt := 31) hx hb dX0_flagsOf_1 (by decide) (fun c => absurd c (by decide)) (fun _ => ?_)
  refine lv_iload_n hx hb dX0_flagsOf_4 rfl (lv_at hl 1 rfl) ?_
  refine lv_aload_n hx hb dX0_flagsOf_5 rfl (lv_at hl 0 rfl) ?_
  refine va_get (D := (dC, dI)) (ci := 0) (v := .int 3) (C := RX0) (T := TX0) (N := 3) hx hb hts hinX0 hown hK hP 0 rfl rfl 2 (by decide) k_0 (fun _ h9 => h9) rfl dX0_flagsOf_6 ?_
  refine lv_icmp_ge (tgt := 31) hx hb dX0_flagsOf_9 (by decide) (fun c => absurd c (by decide)) (fun _ => ?_)
  refine lv_iload_n hx hb dX0_flagsOf_12 rfl (lv_at hl 1 rfl) ?_
  refine lv_bipush (v := 8) hx hb dX0_flagsOf_13 (by decide) ?_
  refine lv_icmp_ge (tgt := 31) hx hb dX0_flagsOf_15 (by decide) (fun c => absurd c (by decide)) (fun _ => ?_)
  refine lv_aload_n hx hb dX0_flagsOf_18 rfl (lv_at hl 0 rfl) ?_
  refine va_get (D := (dC, dI)) (ci := 0) (v := .ref z0) (C := RX0) (T := TX0) (N := 3) hx hb hts hinX0 hown hK hP 0 rfl rfl 1 (by decide) k_1 (fun _ h9 => h9) rfl dX0_flagsOf_19 ?_
  refine lv_iload_n hx hb dX0_flagsOf_22 rfl (lv_at hl 1 rfl) ?_
  refine za_zald (v := 0) hx hb hK hP 1 2 rfl rfl (zin tn_1 (Nat.le_of_ble_eq_true rfl)) (zrd _ tn_1 rfl) dX0_flagsOf_23 ?_
  refine lv_if_eq (tgt := 31) hx hb dX0_flagsOf_24 (by decide) (fun _ => ?_) (fun c => absurd (by decide) c)
  refine lv_iconst (v := 0) hx hb dX0_flagsOf_31 (by decide) ?_
  refine lv_istore_n (lv' := [(2, .int 0), (0, .ref xd), (1, .int 1)]) hx hb dX0_flagsOf_32 rfl hl (by decide) rfl (fun ls hl => ?_)
  refine lv_iload_n hx hb dX0_flagsOf_33 rfl (lv_at hl 0 rfl) ?_
  refine lv_if_eq (tgt := 41) hx hb dX0_flagsOf_34 (by decide) (fun _ => ?_) (fun c => absurd (by decide) c)
  refine lv_iconst (v := 0) hx hb dX0_flagsOf_41 (by decide) ?_
  refine lv_iload_n hx hb dX0_flagsOf_42 rfl (lv_at hl 2 rfl) ?_
  refine lv_aload_n hx hb dX0_flagsOf_43 rfl (lv_at hl 1 rfl) ?_
  refine va_get (D := (dC, dI)) (ci := 0) (v := .int 3) (C := RX0) (T := TX0) (N := 3) hx hb hts hinX0 hown hK hP 0 rfl rfl 2 (by decide) k_0 (fun _ h9 => h9) rfl dX0_flagsOf_44 ?_
  refine lv_iconst (v := 1) hx hb dX0_flagsOf_47 (by decide) ?_
  refine lv_isub hx hb dX0_flagsOf_48 ?_
  refine tp (y := 2) (by decide) ?_
  refine lv_icmp_ge (tgt := 56) hx hb dX0_flagsOf_49 (by decide) (fun c => absurd c (by decide)) (fun _ => ?_)
  refine lv_iconst (v := 1) hx hb dX0_flagsOf_52 (by decide) ?_
  refine lv_goto (tgt := 57) hx hb dX0_flagsOf_53 (by decide) ?_
  refine lv_ior hx hb dX0_flagsOf_57 ?_
  refine tp (y := 1) (by decide) ?_
  have hP9 := hP.sub (ws' := [(xd, .inr (0, [.ref l0, .ref z0, .int 3])), (z0, .inl (cZ, 8, .inl (gl [w0, 0, w2, w3, w4, w5, w6, w7])))]) [0, 1] rfl
  have hD9 := hD.sub (ws' := [(xd, .inr (0, [.ref l0, .ref z0, .int 3])), (z0, .inl (cZ, 8, .inl (gl [w0, 0, w2, w3, w4, w5, w6, w7])))]) [0, 1] (by decide) rfl
  exact W.iret (v := 1) hx hb hr (fun t ht hW => ⟨⟨1, (), rfl, rfl, by rw [ht]; exact hP9, va_K.moved hW.alike hK, hD9⟩, hS.F ht⟩) hS.2.2 dX0_flagsOf_58

set_option maxHeartbeats 4000000 in
set_option maxRecDepth 100000 in
theorem kkX0_flagsOf_311 (l : Launch) (dC : Nat → ClassId) (dI : Nat → Nat → Nat) (cI cB cZ cR : ClassId) (sz : Nat) (xd : Nat) (l0 : Nat) (z0 : Nat) (w0 : Int32) (w2 : Int32) (w3 : Int32) (w4 : Int32) (w5 : Int32) (w6 : Int32) (w7 : Int32) : Met l yX0_flagsOf (.code yX0_flagsOf cX0_flagsOf 3 (some .int) :: wsL_law) ({ frames := 0, cells := 0, slots := 0, locals := 0 }) (zPc dC dI (zT cI cB cZ cR) [.ref xd, .int 1] sz [(xd, .inr (0, [.ref l0, .ref z0, .int 3])), (z0, .inl (cZ, 8, .inl (gl [w0, 1, w2, w3, w4, w5, w6, w7])))]) (va_Qi (fun (r : Int32) (_ : Unit) => r = 3) (fun _ : Unit => zB dC dI (zT cI cB cZ cR) (va_A [(xd, .inr (0, [.ref l0, .ref z0, .int 3])), (z0, .inl (cZ, 8, .inl (gl [w0, 1, w2, w3, w4, w5, w6, w7])))] sz) [(xd, .inr (0, [.ref l0, .ref z0, .int 3])), (z0, .inl (cZ, 8, .inl (gl [w0, 1, w2, w3, w4, w5, w6, w7])))]) (va_A [(xd, .inr (0, [.ref l0, .ref z0, .int 3])), (z0, .inl (cZ, 8, .inl (gl [w0, 1, w2, w3, w4, w5, w6, w7])))] sz)) 0 0 (va_A [(xd, .inr (0, [.ref l0, .ref z0, .int 3])), (z0, .inl (cZ, 8, .inl (gl [w0, 1, w2, w3, w4, w5, w6, w7])))] sz) := by
  refine Met.ofW (cc := cX0_flagsOf) (maxL := 3) (ret := (some .int)) (by decide) rfl ?_
  intro p e s m args below meth c s₁ B hml hv
  obtain ⟨rfl, hsz, hP, hK, hD0, hN⟩ := hv
  have hx := B.exec
  have hb := B.bytes
  have hr := B.returns
  have hts := atoms_spec (ws := (.code yX0_flagsOf cX0_flagsOf 3 (some .int) :: wsL_law)) B.pre
  have hown : s.vm.findClass RX0 = some m.cls := findClass_of_methodNamed B.named
  have hlocks := B.notSynchronized
  have hinX0 : ∀ w ∈ u_ws RX0 TX0 3, w ∈ (.code yX0_flagsOf cX0_flagsOf 3 (some .int) :: wsL_law) := fun w h => List.mem_cons_of_mem _ (inlX0 w h)
  have k_0 := hts (.fieldLink RX0 19 "RingMarks$Chain" "size" "I") (List.mem_cons_of_mem _ wm_56)
  have k_1 := hts (.fieldLink RX0 15 "RingMarks$Chain" "writes" "[Z") (List.mem_cons_of_mem _ wm_55)
  subst hsz
  have hD := hD0.self (sz := s.heap.size)
  generalize hAe : va_A [(xd, .inr (0, [.ref l0, .ref z0, .int 3])), (z0, .inl (cZ, 8, .inl (gl [w0, 1, w2, w3, w4, w5, w6, w7])))] s.heap.size = A at hD ⊢
  have hA : ∀ q : Nat, s.heap.size ≤ q → A q := fun q h => by rw [← hAe]; exact Or.inr h
  have hP : va_P (dC, dI) vwCl [(xd, .inr (0, [.ref l0, .ref z0, .int 3])), (z0, .inl (cZ, 8, .inl (gl [w0, 1, w2, w3, w4, w5, w6, w7])))] s.heap := hP
  have hl := lv_entry ([.ref xd, .int 1]) (n := 3) (Nat.le_of_ble_eq_true rfl)
  rw [lg_entry_eq]
  generalize (lg_sl ([.ref xd, .int 1]) ++ List.replicate (3 - (lg_sl ([.ref xd, .int 1])).length) Slot.unset).toArray = ls at hl ⊢
  have hl : lv_has ls 3 [(0, .ref xd), (1, .int 1)] := hl
  obtain ⟨H, hH⟩ : ∃ H, H = s.heap := ⟨_, rfl⟩
  rw [← hH] at hP ⊢
  have hS : va_S A s.heap H [] := by rw [hH]; exact va_S.rf
  refine lv_iload_n hx hb dX0_flagsOf_0 rfl (lv_at hl 1 rfl) ?_
  refine lv_if_lt (tgt := 31) hx hb dX0_flagsOf_1 (by decide) (fun c => absurd c (by decide)) (fun _ => ?_)
  refine lv_iload_n hx hb dX0_flagsOf_4 rfl (lv_at hl 1 rfl) ?_
  refine lv_aload_n hx hb dX0_flagsOf_5 rfl (lv_at hl 0 rfl) ?_
  refine va_get (D := (dC, dI)) (ci := 0) (v := .int 3) (C := RX0) (T := TX0) (N := 3) hx hb hts hinX0 hown hK hP 0 rfl rfl 2 (by decide) k_0 (fun _ h9 => h9) rfl dX0_flagsOf_6 ?_
  refine lv_icmp_ge (tgt := 31) hx hb dX0_flagsOf_9 (by decide) (fun c => absurd c (by decide)) (fun _ => ?_)
  refine lv_iload_n hx hb dX0_flagsOf_12 rfl (lv_at hl 1 rfl) ?_
  refine lv_bipush (v := 8) hx hb dX0_flagsOf_13 (by decide) ?_
  refine lv_icmp_ge (tgt := 31) hx hb dX0_flagsOf_15 (by decide) (fun c => absurd c (by decide)) (fun _ => ?_)
  refine lv_aload_n hx hb dX0_flagsOf_18 rfl (lv_at hl 0 rfl) ?_
  refine va_get (D := (dC, dI)) (ci := 0) (v := .ref z0) (C := RX0) (T := TX0) (N := 3) hx hb hts hinX0 hown hK hP 0 rfl rfl 1 (by decide) k_1 (fun _ h9 => h9) rfl dX0_flagsOf_19 ?_
  refine lv_iload_n hx hb dX0_flagsOf_22 rfl (lv_at hl 1 rfl) ?_
  refine za_zald (v := 1) hx hb hK hP 1 2 rfl rfl (zin tn_1 (Nat.le_of_ble_eq_true rfl)) (zrd _ tn_1 rfl) dX0_flagsOf_23 ?_
  refine lv_if_eq (tgt := 31) hx hb dX0_flagsOf_24 (by decide) (fun c => absurd c (by decide)) (fun _ => ?_)
  refine lv_iconst (v := 1) hx hb dX0_flagsOf_27 (by decide) ?_
  refine lv_goto (tgt := 32) hx hb dX0_flagsOf_28 (by decide) ?_
  refine lv_istore_n (lv' := [(2, .int 1), (0, .ref xd), (1, .int 1)]) hx hb dX0_flagsOf_32 rfl hl (by decide) rfl (fun ls hl => ?_)
  refine lv_iload_n hx hb dX0_flagsOf_33 rfl (lv_at hl 0 rfl) ?_
  refine lv_if_eq (tgt := 41) hx hb dX0_flagsOf_34 (by decide) (fun c => absurd c (by decide)) (fun _ => ?_)
  refine lv_iconst (v := 2) hx hb dX0_flagsOf_37 (by decide) ?_
  refine lv_goto (tgt := 42) hx hb dX0_flagsOf_38 (by decide) ?_
  refine lv_iload_n hx hb dX0_flagsOf_42 rfl (lv_at hl 2 rfl) ?_
  refine lv_aload_n hx hb dX0_flagsOf_43 rfl (lv_at hl 1 rfl) ?_
  refine va_get (D := (dC, dI)) (ci := 0) (v := .int 3) (C := RX0) (T := TX0) (N := 3) hx hb hts hinX0 hown hK hP 0 rfl rfl 2 (by decide) k_0 (fun _ h9 => h9) rfl dX0_flagsOf_44 ?_
  refine lv_iconst (v := 1) hx hb dX0_flagsOf_47 (by decide) ?_
  refine lv_isub hx hb dX0_flagsOf_48 ?_
  refine tp (y := 2) (by decide) ?_
  refine lv_icmp_ge (tgt := 56) hx hb dX0_flagsOf_49 (by decide) (fun c => absurd c (by decide)) (fun _ => ?_)
  refine lv_iconst (v := 1) hx hb dX0_flagsOf_52 (by decide) ?_
  refine lv_goto (tgt := 57) hx hb dX0_flagsOf_53 (by decide) ?_
  refine lv_ior hx hb dX0_flagsOf_57 ?_
  refine tp (y := 3) (by decide) ?_
  have hP9 := hP.sub (ws' := [(xd, .inr (0, [.ref l0, .ref z0, .int 3])), (z0, .inl (cZ, 8, .inl (gl [w0, 1, w2, w3, w4, w5, w6, w7])))]) [0, 1] rfl
  have hD9 := hD.sub (ws' := [(xd, .inr (0, [.ref l0, .ref z0, .int 3])), (z0, .inl (cZ, 8, .inl (gl [w0, 1, w2, w3, w4, w5, w6, w7])))]) [0, 1] (by decide) rfl
  exact W.iret (v := 3) hx hb hr (fun t ht hW => ⟨⟨3, (), rfl, rfl, by rw [ht]; exact hP9, va_K.moved hW.alike hK, hD9⟩, hS.F ht⟩) hS.2.2 dX0_flagsOf_58

set_option maxHeartbeats 4000000 in
set_option maxRecDepth 100000 in
theorem kkX0_lengthOf_32 (l : Launch) (dC : Nat → ClassId) (dI : Nat → Nat → Nat) (cI cB cZ cR : ClassId) (sz : Nat) (xd : Nat) (l0 : Nat) (z0 : Nat) (n0 : Int32) (n1 : Int32) (n2 : Int32) (n3 : Int32) (n4 : Int32) (n5 : Int32) (n6 : Int32) (n7 : Int32) : Met l yX0_lengthOf (.code yX0_lengthOf cX0_lengthOf 2 (some .int) :: wsL_law) ({ frames := 0, cells := 0, slots := 0, locals := 0 }) (zPc dC dI (zT cI cB cZ cR) [.ref xd, .int 2] sz [(xd, .inr (0, [.ref l0, .ref z0, .int 3])), (l0, .inl (cI, 8, .inl (gl [n0, n1, n2, n3, n4, n5, n6, n7])))]) (va_Qi (fun (r : Int32) (_ : Unit) => r = n2) (fun _ : Unit => zB dC dI (zT cI cB cZ cR) (va_A [(xd, .inr (0, [.ref l0, .ref z0, .int 3])), (l0, .inl (cI, 8, .inl (gl [n0, n1, n2, n3, n4, n5, n6, n7])))] sz) [(xd, .inr (0, [.ref l0, .ref z0, .int 3])), (l0, .inl (cI, 8, .inl (gl [n0, n1, n2, n3, n4, n5, n6, n7])))]) (va_A [(xd, .inr (0, [.ref l0, .ref z0, .int 3])), (l0, .inl (cI, 8, .inl (gl [n0, n1, n2, n3, n4, n5, n6, n7])))] sz)) 0 0 (va_A [(xd, .inr (0, [.ref l0, .ref z0, .int 3])), (l0, .inl (cI, 8, .inl (gl [n0, n1, n2, n3, n4, n5, n6, n7])))] sz) := by
  refine Met.ofW (cc := cX0_lengthOf) (maxL := 2) (ret := (some .int)) (by decide) rfl ?_
  intro p e s m args below meth c s₁ B hml hv
  obtain ⟨rfl, hsz, hP, hK, hD0, hN⟩ := hv
  have hx := B.exec
  have hb := B.bytes
  have hr := B.returns
  have hts := atoms_spec (ws := (.code yX0_lengthOf cX0_lengthOf 2 (some .int) :: wsL_law)) B.pre
  have hown : s.vm.findClass RX0 = some m.cls := findClass_of_methodNamed B.named
  have hlocks := B.notSynchronized
  have hinX0 : ∀ w ∈ u_ws RX0 TX0 3, w ∈ (.code yX0_lengthOf cX0_lengthOf 2 (some .int) :: wsL_law) := fun w h => List.mem_cons_of_mem _ (inlX0 w h)
  have k_0 := hts (.fieldLink RX0 19 "RingMarks$Chain" "size" "I") (List.mem_cons_of_mem _ wm_56)
  have k_1 := hts (.fieldLink RX0 11 "RingMarks$Chain" "lengths" "[I") (List.mem_cons_of_mem _ wm_53)
  subst hsz
  have hD := hD0.self (sz := s.heap.size)
  generalize hAe : va_A [(xd, .inr (0, [.ref l0, .ref z0, .int 3])), (l0, .inl (cI, 8, .inl (gl [n0, n1, n2, n3, n4, n5, n6, n7])))] s.heap.size = A at hD ⊢
  have hA : ∀ q : Nat, s.heap.size ≤ q → A q := fun q h => by rw [← hAe]; exact Or.inr h
  have hP : va_P (dC, dI) vwCl [(xd, .inr (0, [.ref l0, .ref z0, .int 3])), (l0, .inl (cI, 8, .inl (gl [n0, n1, n2, n3, n4, n5, n6, n7])))] s.heap := hP
  have hl := lv_entry ([.ref xd, .int 2]) (n := 2) (Nat.le_of_ble_eq_true rfl)
  rw [lg_entry_eq]
  generalize (lg_sl ([.ref xd, .int 2]) ++ List.replicate (2 - (lg_sl ([.ref xd, .int 2])).length) Slot.unset).toArray = ls at hl ⊢
  have hl : lv_has ls 2 [(0, .ref xd), (1, .int 2)] := hl
  obtain ⟨H, hH⟩ : ∃ H, H = s.heap := ⟨_, rfl⟩
  rw [← hH] at hP ⊢
  have hS : va_S A s.heap H [] := by rw [hH]; exact va_S.rf
  refine lv_iload_n hx hb dX0_lengthOf_0 rfl (lv_at hl 1 rfl) ?_
  refine lv_if_lt (tgt := 27) hx hb dX0_lengthOf_1 (by decide) (fun c => absurd c (by decide)) (fun _ => ?_)
  refine lv_iload_n hx hb dX0_lengthOf_4 rfl (lv_at hl 1 rfl) ?_
  refine lv_aload_n hx hb dX0_lengthOf_5 rfl (lv_at hl 0 rfl) ?_
  refine va_get (D := (dC, dI)) (ci := 0) (v := .int 3) (C := RX0) (T := TX0) (N := 3) hx hb hts hinX0 hown hK hP 0 rfl rfl 2 (by decide) k_0 (fun _ h9 => h9) rfl dX0_lengthOf_6 ?_
  refine lv_icmp_ge (tgt := 27) hx hb dX0_lengthOf_9 (by decide) (fun c => absurd c (by decide)) (fun _ => ?_)
  refine lv_iload_n hx hb dX0_lengthOf_12 rfl (lv_at hl 1 rfl) ?_
  refine lv_bipush (v := 8) hx hb dX0_lengthOf_13 (by decide) ?_
  refine lv_icmp_ge (tgt := 27) hx hb dX0_lengthOf_15 (by decide) (fun c => absurd c (by decide)) (fun _ => ?_)
  refine lv_aload_n hx hb dX0_lengthOf_18 rfl (lv_at hl 0 rfl) ?_
  refine va_get (D := (dC, dI)) (ci := 0) (v := .ref l0) (C := RX0) (T := TX0) (N := 3) hx hb hts hinX0 hown hK hP 0 rfl rfl 0 (by decide) k_1 (fun _ h9 => h9) rfl dX0_lengthOf_19 ?_
  refine lv_iload_n hx hb dX0_lengthOf_22 rfl (lv_at hl 1 rfl) ?_
  refine za_iald (v := n2) hx hb hK hP 1 0 rfl rfl (zin tn_2 (Nat.le_of_ble_eq_true rfl)) (zrd _ tn_2 rfl) dX0_lengthOf_23 ?_
  refine lv_goto (tgt := 28) hx hb dX0_lengthOf_24 (by decide) ?_
  have hP9 := hP.sub (ws' := [(xd, .inr (0, [.ref l0, .ref z0, .int 3])), (l0, .inl (cI, 8, .inl (gl [n0, n1, n2, n3, n4, n5, n6, n7])))]) [0, 1] rfl
  have hD9 := hD.sub (ws' := [(xd, .inr (0, [.ref l0, .ref z0, .int 3])), (l0, .inl (cI, 8, .inl (gl [n0, n1, n2, n3, n4, n5, n6, n7])))]) [0, 1] (by decide) rfl
  exact W.iret (v := n2) hx hb hr (fun t ht hW => ⟨⟨n2, (), rfl, rfl, by rw [ht]; exact hP9, va_K.moved hW.alike hK, hD9⟩, hS.F ht⟩) hS.2.2 dX0_lengthOf_28

set_option maxHeartbeats 4000000 in
set_option maxRecDepth 100000 in
theorem kkX0_flagsOf_320 (l : Launch) (dC : Nat → ClassId) (dI : Nat → Nat → Nat) (cI cB cZ cR : ClassId) (sz : Nat) (xd : Nat) (l0 : Nat) (z0 : Nat) (w0 : Int32) (w1 : Int32) (w3 : Int32) (w4 : Int32) (w5 : Int32) (w6 : Int32) (w7 : Int32) : Met l yX0_flagsOf (.code yX0_flagsOf cX0_flagsOf 3 (some .int) :: wsL_law) ({ frames := 0, cells := 0, slots := 0, locals := 0 }) (zPc dC dI (zT cI cB cZ cR) [.ref xd, .int 2] sz [(xd, .inr (0, [.ref l0, .ref z0, .int 3])), (z0, .inl (cZ, 8, .inl (gl [w0, w1, 0, w3, w4, w5, w6, w7])))]) (va_Qi (fun (r : Int32) (_ : Unit) => r = 0) (fun _ : Unit => zB dC dI (zT cI cB cZ cR) (va_A [(xd, .inr (0, [.ref l0, .ref z0, .int 3])), (z0, .inl (cZ, 8, .inl (gl [w0, w1, 0, w3, w4, w5, w6, w7])))] sz) [(xd, .inr (0, [.ref l0, .ref z0, .int 3])), (z0, .inl (cZ, 8, .inl (gl [w0, w1, 0, w3, w4, w5, w6, w7])))]) (va_A [(xd, .inr (0, [.ref l0, .ref z0, .int 3])), (z0, .inl (cZ, 8, .inl (gl [w0, w1, 0, w3, w4, w5, w6, w7])))] sz)) 0 0 (va_A [(xd, .inr (0, [.ref l0, .ref z0, .int 3])), (z0, .inl (cZ, 8, .inl (gl [w0, w1, 0, w3, w4, w5, w6, w7])))] sz) := by
  refine Met.ofW (cc := cX0_flagsOf) (maxL := 3) (ret := (some .int)) (by decide) rfl ?_
  intro p e s m args below meth c s₁ B hml hv
  obtain ⟨rfl, hsz, hP, hK, hD0, hN⟩ := hv
  have hx := B.exec
  have hb := B.bytes
  have hr := B.returns
  have hts := atoms_spec (ws := (.code yX0_flagsOf cX0_flagsOf 3 (some .int) :: wsL_law)) B.pre
  have hown : s.vm.findClass RX0 = some m.cls := findClass_of_methodNamed B.named
  have hlocks := B.notSynchronized
  have hinX0 : ∀ w ∈ u_ws RX0 TX0 3, w ∈ (.code yX0_flagsOf cX0_flagsOf 3 (some .int) :: wsL_law) := fun w h => List.mem_cons_of_mem _ (inlX0 w h)
  have k_0 := hts (.fieldLink RX0 19 "RingMarks$Chain" "size" "I") (List.mem_cons_of_mem _ wm_56)
  have k_1 := hts (.fieldLink RX0 15 "RingMarks$Chain" "writes" "[Z") (List.mem_cons_of_mem _ wm_55)
  subst hsz
  have hD := hD0.self (sz := s.heap.size)
  generalize hAe : va_A [(xd, .inr (0, [.ref l0, .ref z0, .int 3])), (z0, .inl (cZ, 8, .inl (gl [w0, w1, 0, w3, w4, w5, w6, w7])))] s.heap.size = A at hD ⊢
  have hA : ∀ q : Nat, s.heap.size ≤ q → A q := fun q h => by rw [← hAe]; exact Or.inr h
  have hP : va_P (dC, dI) vwCl [(xd, .inr (0, [.ref l0, .ref z0, .int 3])), (z0, .inl (cZ, 8, .inl (gl [w0, w1, 0, w3, w4, w5, w6, w7])))] s.heap := hP
  have hl := lv_entry ([.ref xd, .int 2]) (n := 3) (Nat.le_of_ble_eq_true rfl)
  rw [lg_entry_eq]
  generalize (lg_sl ([.ref xd, .int 2]) ++ List.replicate (3 - (lg_sl ([.ref xd, .int 2])).length) Slot.unset).toArray = ls at hl ⊢
  have hl : lv_has ls 3 [(0, .ref xd), (1, .int 2)] := hl
  obtain ⟨H, hH⟩ : ∃ H, H = s.heap := ⟨_, rfl⟩
  rw [← hH] at hP ⊢
  have hS : va_S A s.heap H [] := by rw [hH]; exact va_S.rf
  refine lv_iload_n hx hb dX0_flagsOf_0 rfl (lv_at hl 1 rfl) ?_
  refine lv_if_lt (tgt := 31) hx hb dX0_flagsOf_1 (by decide) (fun c => absurd c (by decide)) (fun _ => ?_)
  refine lv_iload_n hx hb dX0_flagsOf_4 rfl (lv_at hl 1 rfl) ?_
  refine lv_aload_n hx hb dX0_flagsOf_5 rfl (lv_at hl 0 rfl) ?_
  refine va_get (D := (dC, dI)) (ci := 0) (v := .int 3) (C := RX0) (T := TX0) (N := 3) hx hb hts hinX0 hown hK hP 0 rfl rfl 2 (by decide) k_0 (fun _ h9 => h9) rfl dX0_flagsOf_6 ?_
  refine lv_icmp_ge (tgt := 31) hx hb dX0_flagsOf_9 (by decide) (fun c => absurd c (by decide)) (fun _ => ?_)
  refine lv_iload_n hx hb dX0_flagsOf_12 rfl (lv_at hl 1 rfl) ?_
  refine lv_bipush (v := 8) hx hb dX0_flagsOf_13 (by decide) ?_
  refine lv_icmp_ge (tgt := 31) hx hb dX0_flagsOf_15 (by decide) (fun c => absurd c (by decide)) (fun _ => ?_)
  refine lv_aload_n hx hb dX0_flagsOf_18 rfl (lv_at hl 0 rfl) ?_
  refine va_get (D := (dC, dI)) (ci := 0) (v := .ref z0) (C := RX0) (T := TX0) (N := 3) hx hb hts hinX0 hown hK hP 0 rfl rfl 1 (by decide) k_1 (fun _ h9 => h9) rfl dX0_flagsOf_19 ?_
  refine lv_iload_n hx hb dX0_flagsOf_22 rfl (lv_at hl 1 rfl) ?_
  refine za_zald (v := 0) hx hb hK hP 1 2 rfl rfl (zin tn_2 (Nat.le_of_ble_eq_true rfl)) (zrd _ tn_2 rfl) dX0_flagsOf_23 ?_
  refine lv_if_eq (tgt := 31) hx hb dX0_flagsOf_24 (by decide) (fun _ => ?_) (fun c => absurd (by decide) c)
  refine lv_iconst (v := 0) hx hb dX0_flagsOf_31 (by decide) ?_
  refine lv_istore_n (lv' := [(2, .int 0), (0, .ref xd), (1, .int 2)]) hx hb dX0_flagsOf_32 rfl hl (by decide) rfl (fun ls hl => ?_)
  refine lv_iload_n hx hb dX0_flagsOf_33 rfl (lv_at hl 0 rfl) ?_
  refine lv_if_eq (tgt := 41) hx hb dX0_flagsOf_34 (by decide) (fun _ => ?_) (fun c => absurd (by decide) c)
  refine lv_iconst (v := 0) hx hb dX0_flagsOf_41 (by decide) ?_
  refine lv_iload_n hx hb dX0_flagsOf_42 rfl (lv_at hl 2 rfl) ?_
  refine lv_aload_n hx hb dX0_flagsOf_43 rfl (lv_at hl 1 rfl) ?_
  refine va_get (D := (dC, dI)) (ci := 0) (v := .int 3) (C := RX0) (T := TX0) (N := 3) hx hb hts hinX0 hown hK hP 0 rfl rfl 2 (by decide) k_0 (fun _ h9 => h9) rfl dX0_flagsOf_44 ?_
  refine lv_iconst (v := 1) hx hb dX0_flagsOf_47 (by decide) ?_
  refine lv_isub hx hb dX0_flagsOf_48 ?_
  refine tp (y := 2) (by decide) ?_
  refine lv_icmp_ge (tgt := 56) hx hb dX0_flagsOf_49 (by decide) (fun _ => ?_) (fun c => absurd (by decide) c)
  refine lv_iconst (v := 0) hx hb dX0_flagsOf_56 (by decide) ?_
  refine lv_ior hx hb dX0_flagsOf_57 ?_
  refine tp (y := 0) (by decide) ?_
  have hP9 := hP.sub (ws' := [(xd, .inr (0, [.ref l0, .ref z0, .int 3])), (z0, .inl (cZ, 8, .inl (gl [w0, w1, 0, w3, w4, w5, w6, w7])))]) [0, 1] rfl
  have hD9 := hD.sub (ws' := [(xd, .inr (0, [.ref l0, .ref z0, .int 3])), (z0, .inl (cZ, 8, .inl (gl [w0, w1, 0, w3, w4, w5, w6, w7])))]) [0, 1] (by decide) rfl
  exact W.iret (v := 0) hx hb hr (fun t ht hW => ⟨⟨0, (), rfl, rfl, by rw [ht]; exact hP9, va_K.moved hW.alike hK, hD9⟩, hS.F ht⟩) hS.2.2 dX0_flagsOf_58

set_option maxHeartbeats 4000000 in
set_option maxRecDepth 100000 in
theorem kkX0_flagsOf_321 (l : Launch) (dC : Nat → ClassId) (dI : Nat → Nat → Nat) (cI cB cZ cR : ClassId) (sz : Nat) (xd : Nat) (l0 : Nat) (z0 : Nat) (w0 : Int32) (w1 : Int32) (w3 : Int32) (w4 : Int32) (w5 : Int32) (w6 : Int32) (w7 : Int32) : Met l yX0_flagsOf (.code yX0_flagsOf cX0_flagsOf 3 (some .int) :: wsL_law) ({ frames := 0, cells := 0, slots := 0, locals := 0 }) (zPc dC dI (zT cI cB cZ cR) [.ref xd, .int 2] sz [(xd, .inr (0, [.ref l0, .ref z0, .int 3])), (z0, .inl (cZ, 8, .inl (gl [w0, w1, 1, w3, w4, w5, w6, w7])))]) (va_Qi (fun (r : Int32) (_ : Unit) => r = 2) (fun _ : Unit => zB dC dI (zT cI cB cZ cR) (va_A [(xd, .inr (0, [.ref l0, .ref z0, .int 3])), (z0, .inl (cZ, 8, .inl (gl [w0, w1, 1, w3, w4, w5, w6, w7])))] sz) [(xd, .inr (0, [.ref l0, .ref z0, .int 3])), (z0, .inl (cZ, 8, .inl (gl [w0, w1, 1, w3, w4, w5, w6, w7])))]) (va_A [(xd, .inr (0, [.ref l0, .ref z0, .int 3])), (z0, .inl (cZ, 8, .inl (gl [w0, w1, 1, w3, w4, w5, w6, w7])))] sz)) 0 0 (va_A [(xd, .inr (0, [.ref l0, .ref z0, .int 3])), (z0, .inl (cZ, 8, .inl (gl [w0, w1, 1, w3, w4, w5, w6, w7])))] sz) := by
  refine Met.ofW (cc := cX0_flagsOf) (maxL := 3) (ret := (some .int)) (by decide) rfl ?_
  intro p e s m args below meth c s₁ B hml hv
  obtain ⟨rfl, hsz, hP, hK, hD0, hN⟩ := hv
  have hx := B.exec
  have hb := B.bytes
  have hr := B.returns
  have hts := atoms_spec (ws := (.code yX0_flagsOf cX0_flagsOf 3 (some .int) :: wsL_law)) B.pre
  have hown : s.vm.findClass RX0 = some m.cls := findClass_of_methodNamed B.named
  have hlocks := B.notSynchronized
  have hinX0 : ∀ w ∈ u_ws RX0 TX0 3, w ∈ (.code yX0_flagsOf cX0_flagsOf 3 (some .int) :: wsL_law) := fun w h => List.mem_cons_of_mem _ (inlX0 w h)
  have k_0 := hts (.fieldLink RX0 19 "RingMarks$Chain" "size" "I") (List.mem_cons_of_mem _ wm_56)
  have k_1 := hts (.fieldLink RX0 15 "RingMarks$Chain" "writes" "[Z") (List.mem_cons_of_mem _ wm_55)
  subst hsz
  have hD := hD0.self (sz := s.heap.size)
  generalize hAe : va_A [(xd, .inr (0, [.ref l0, .ref z0, .int 3])), (z0, .inl (cZ, 8, .inl (gl [w0, w1, 1, w3, w4, w5, w6, w7])))] s.heap.size = A at hD ⊢
  have hA : ∀ q : Nat, s.heap.size ≤ q → A q := fun q h => by rw [← hAe]; exact Or.inr h
  have hP : va_P (dC, dI) vwCl [(xd, .inr (0, [.ref l0, .ref z0, .int 3])), (z0, .inl (cZ, 8, .inl (gl [w0, w1, 1, w3, w4, w5, w6, w7])))] s.heap := hP
  have hl := lv_entry ([.ref xd, .int 2]) (n := 3) (Nat.le_of_ble_eq_true rfl)
  rw [lg_entry_eq]
  generalize (lg_sl ([.ref xd, .int 2]) ++ List.replicate (3 - (lg_sl ([.ref xd, .int 2])).length) Slot.unset).toArray = ls at hl ⊢
  have hl : lv_has ls 3 [(0, .ref xd), (1, .int 2)] := hl
  obtain ⟨H, hH⟩ : ∃ H, H = s.heap := ⟨_, rfl⟩
  rw [← hH] at hP ⊢
  have hS : va_S A s.heap H [] := by rw [hH]; exact va_S.rf
  refine lv_iload_n hx hb dX0_flagsOf_0 rfl (lv_at hl 1 rfl) ?_
  refine lv_if_lt (tgt := 31) hx hb dX0_flagsOf_1 (by decide) (fun c => absurd c (by decide)) (fun _ => ?_)
  refine lv_iload_n hx hb dX0_flagsOf_4 rfl (lv_at hl 1 rfl) ?_
  refine lv_aload_n hx hb dX0_flagsOf_5 rfl (lv_at hl 0 rfl) ?_
  refine va_get (D := (dC, dI)) (ci := 0) (v := .int 3) (C := RX0) (T := TX0) (N := 3) hx hb hts hinX0 hown hK hP 0 rfl rfl 2 (by decide) k_0 (fun _ h9 => h9) rfl dX0_flagsOf_6 ?_
  refine lv_icmp_ge (tgt := 31) hx hb dX0_flagsOf_9 (by decide) (fun c => absurd c (by decide)) (fun _ => ?_)
  refine lv_iload_n hx hb dX0_flagsOf_12 rfl (lv_at hl 1 rfl) ?_
  refine lv_bipush (v := 8) hx hb dX0_flagsOf_13 (by decide) ?_
  refine lv_icmp_ge (tgt := 31) hx hb dX0_flagsOf_15 (by decide) (fun c => absurd c (by decide)) (fun _ => ?_)
  refine lv_aload_n hx hb dX0_flagsOf_18 rfl (lv_at hl 0 rfl) ?_
  refine va_get (D := (dC, dI)) (ci := 0) (v := .ref z0) (C := RX0) (T := TX0) (N := 3) hx hb hts hinX0 hown hK hP 0 rfl rfl 1 (by decide) k_1 (fun _ h9 => h9) rfl dX0_flagsOf_19 ?_
  refine lv_iload_n hx hb dX0_flagsOf_22 rfl (lv_at hl 1 rfl) ?_
  refine za_zald (v := 1) hx hb hK hP 1 2 rfl rfl (zin tn_2 (Nat.le_of_ble_eq_true rfl)) (zrd _ tn_2 rfl) dX0_flagsOf_23 ?_
  refine lv_if_eq (tgt := 31) hx hb dX0_flagsOf_24 (by decide) (fun c => absurd c (by decide)) (fun _ => ?_)
  refine lv_iconst (v := 1) hx hb dX0_flagsOf_27 (by decide) ?_
  refine lv_goto (tgt := 32) hx hb dX0_flagsOf_28 (by decide) ?_
  refine lv_istore_n (lv' := [(2, .int 1), (0, .ref xd), (1, .int 2)]) hx hb dX0_flagsOf_32 rfl hl (by decide) rfl (fun ls hl => ?_)
  refine lv_iload_n hx hb dX0_flagsOf_33 rfl (lv_at hl 0 rfl) ?_
  refine lv_if_eq (tgt := 41) hx hb dX0_flagsOf_34 (by decide) (fun c => absurd c (by decide)) (fun _ => ?_)
  refine lv_iconst (v := 2) hx hb dX0_flagsOf_37 (by decide) ?_
  refine lv_goto (tgt := 42) hx hb dX0_flagsOf_38 (by decide) ?_
  refine lv_iload_n hx hb dX0_flagsOf_42 rfl (lv_at hl 2 rfl) ?_
  refine lv_aload_n hx hb dX0_flagsOf_43 rfl (lv_at hl 1 rfl) ?_
  refine va_get (D := (dC, dI)) (ci := 0) (v := .int 3) (C := RX0) (T := TX0) (N := 3) hx hb hts hinX0 hown hK hP 0 rfl rfl 2 (by decide) k_0 (fun _ h9 => h9) rfl dX0_flagsOf_44 ?_
  refine lv_iconst (v := 1) hx hb dX0_flagsOf_47 (by decide) ?_
  refine lv_isub hx hb dX0_flagsOf_48 ?_
  refine tp (y := 2) (by decide) ?_
  refine lv_icmp_ge (tgt := 56) hx hb dX0_flagsOf_49 (by decide) (fun _ => ?_) (fun c => absurd (by decide) c)
  refine lv_iconst (v := 0) hx hb dX0_flagsOf_56 (by decide) ?_
  refine lv_ior hx hb dX0_flagsOf_57 ?_
  refine tp (y := 2) (by decide) ?_
  have hP9 := hP.sub (ws' := [(xd, .inr (0, [.ref l0, .ref z0, .int 3])), (z0, .inl (cZ, 8, .inl (gl [w0, w1, 1, w3, w4, w5, w6, w7])))]) [0, 1] rfl
  have hD9 := hD.sub (ws' := [(xd, .inr (0, [.ref l0, .ref z0, .int 3])), (z0, .inl (cZ, 8, .inl (gl [w0, w1, 1, w3, w4, w5, w6, w7])))]) [0, 1] (by decide) rfl
  exact W.iret (v := 2) hx hb hr (fun t ht hW => ⟨⟨2, (), rfl, rfl, by rw [ht]; exact hP9, va_K.moved hW.alike hK, hD9⟩, hS.F ht⟩) hS.2.2 dX0_flagsOf_58

set_option maxHeartbeats 4000000 in
set_option maxRecDepth 100000 in
theorem kkX0_lengthOf_40 (l : Launch) (dC : Nat → ClassId) (dI : Nat → Nat → Nat) (cI cB cZ cR : ClassId) (sz : Nat) (xd : Nat) (l0 : Nat) (z0 : Nat) (n0 : Int32) (n1 : Int32) (n2 : Int32) (n3 : Int32) (n4 : Int32) (n5 : Int32) (n6 : Int32) (n7 : Int32) : Met l yX0_lengthOf (.code yX0_lengthOf cX0_lengthOf 2 (some .int) :: wsL_law) ({ frames := 0, cells := 0, slots := 0, locals := 0 }) (zPc dC dI (zT cI cB cZ cR) [.ref xd, .int 0] sz [(xd, .inr (0, [.ref l0, .ref z0, .int 4])), (l0, .inl (cI, 8, .inl (gl [n0, n1, n2, n3, n4, n5, n6, n7])))]) (va_Qi (fun (r : Int32) (_ : Unit) => r = n0) (fun _ : Unit => zB dC dI (zT cI cB cZ cR) (va_A [(xd, .inr (0, [.ref l0, .ref z0, .int 4])), (l0, .inl (cI, 8, .inl (gl [n0, n1, n2, n3, n4, n5, n6, n7])))] sz) [(xd, .inr (0, [.ref l0, .ref z0, .int 4])), (l0, .inl (cI, 8, .inl (gl [n0, n1, n2, n3, n4, n5, n6, n7])))]) (va_A [(xd, .inr (0, [.ref l0, .ref z0, .int 4])), (l0, .inl (cI, 8, .inl (gl [n0, n1, n2, n3, n4, n5, n6, n7])))] sz)) 0 0 (va_A [(xd, .inr (0, [.ref l0, .ref z0, .int 4])), (l0, .inl (cI, 8, .inl (gl [n0, n1, n2, n3, n4, n5, n6, n7])))] sz) := by
  refine Met.ofW (cc := cX0_lengthOf) (maxL := 2) (ret := (some .int)) (by decide) rfl ?_
  intro p e s m args below meth c s₁ B hml hv
  obtain ⟨rfl, hsz, hP, hK, hD0, hN⟩ := hv
  have hx := B.exec
  have hb := B.bytes
  have hr := B.returns
  have hts := atoms_spec (ws := (.code yX0_lengthOf cX0_lengthOf 2 (some .int) :: wsL_law)) B.pre
  have hown : s.vm.findClass RX0 = some m.cls := findClass_of_methodNamed B.named
  have hlocks := B.notSynchronized
  have hinX0 : ∀ w ∈ u_ws RX0 TX0 3, w ∈ (.code yX0_lengthOf cX0_lengthOf 2 (some .int) :: wsL_law) := fun w h => List.mem_cons_of_mem _ (inlX0 w h)
  have k_0 := hts (.fieldLink RX0 19 "RingMarks$Chain" "size" "I") (List.mem_cons_of_mem _ wm_56)
  have k_1 := hts (.fieldLink RX0 11 "RingMarks$Chain" "lengths" "[I") (List.mem_cons_of_mem _ wm_53)
  subst hsz
  have hD := hD0.self (sz := s.heap.size)
  generalize hAe : va_A [(xd, .inr (0, [.ref l0, .ref z0, .int 4])), (l0, .inl (cI, 8, .inl (gl [n0, n1, n2, n3, n4, n5, n6, n7])))] s.heap.size = A at hD ⊢
  have hA : ∀ q : Nat, s.heap.size ≤ q → A q := fun q h => by rw [← hAe]; exact Or.inr h
  have hP : va_P (dC, dI) vwCl [(xd, .inr (0, [.ref l0, .ref z0, .int 4])), (l0, .inl (cI, 8, .inl (gl [n0, n1, n2, n3, n4, n5, n6, n7])))] s.heap := hP
  have hl := lv_entry ([.ref xd, .int 0]) (n := 2) (Nat.le_of_ble_eq_true rfl)
  rw [lg_entry_eq]
  generalize (lg_sl ([.ref xd, .int 0]) ++ List.replicate (2 - (lg_sl ([.ref xd, .int 0])).length) Slot.unset).toArray = ls at hl ⊢
  have hl : lv_has ls 2 [(0, .ref xd), (1, .int 0)] := hl
  obtain ⟨H, hH⟩ : ∃ H, H = s.heap := ⟨_, rfl⟩
  rw [← hH] at hP ⊢
  have hS : va_S A s.heap H [] := by rw [hH]; exact va_S.rf
  refine lv_iload_n hx hb dX0_lengthOf_0 rfl (lv_at hl 1 rfl) ?_
  refine lv_if_lt (tgt := 27) hx hb dX0_lengthOf_1 (by decide) (fun c => absurd c (by decide)) (fun _ => ?_)
  refine lv_iload_n hx hb dX0_lengthOf_4 rfl (lv_at hl 1 rfl) ?_
  refine lv_aload_n hx hb dX0_lengthOf_5 rfl (lv_at hl 0 rfl) ?_
  refine va_get (D := (dC, dI)) (ci := 0) (v := .int 4) (C := RX0) (T := TX0) (N := 3) hx hb hts hinX0 hown hK hP 0 rfl rfl 2 (by decide) k_0 (fun _ h9 => h9) rfl dX0_lengthOf_6 ?_
  refine lv_icmp_ge (tgt := 27) hx hb dX0_lengthOf_9 (by decide) (fun c => absurd c (by decide)) (fun _ => ?_)
  refine lv_iload_n hx hb dX0_lengthOf_12 rfl (lv_at hl 1 rfl) ?_
  refine lv_bipush (v := 8) hx hb dX0_lengthOf_13 (by decide) ?_
  refine lv_icmp_ge (tgt := 27) hx hb dX0_lengthOf_15 (by decide) (fun c => absurd c (by decide)) (fun _ => ?_)
  refine lv_aload_n hx hb dX0_lengthOf_18 rfl (lv_at hl 0 rfl) ?_
  refine va_get (D := (dC, dI)) (ci := 0) (v := .ref l0) (C := RX0) (T := TX0) (N := 3) hx hb hts hinX0 hown hK hP 0 rfl rfl 0 (by decide) k_1 (fun _ h9 => h9) rfl dX0_lengthOf_19 ?_
  refine lv_iload_n hx hb dX0_lengthOf_22 rfl (lv_at hl 1 rfl) ?_
  refine za_iald (v := n0) hx hb hK hP 1 0 rfl rfl (zin tn_0 (Nat.le_of_ble_eq_true rfl)) (zrd _ tn_0 rfl) dX0_lengthOf_23 ?_
  refine lv_goto (tgt := 28) hx hb dX0_lengthOf_24 (by decide) ?_
  have hP9 := hP.sub (ws' := [(xd, .inr (0, [.ref l0, .ref z0, .int 4])), (l0, .inl (cI, 8, .inl (gl [n0, n1, n2, n3, n4, n5, n6, n7])))]) [0, 1] rfl
  have hD9 := hD.sub (ws' := [(xd, .inr (0, [.ref l0, .ref z0, .int 4])), (l0, .inl (cI, 8, .inl (gl [n0, n1, n2, n3, n4, n5, n6, n7])))]) [0, 1] (by decide) rfl
  exact W.iret (v := n0) hx hb hr (fun t ht hW => ⟨⟨n0, (), rfl, rfl, by rw [ht]; exact hP9, va_K.moved hW.alike hK, hD9⟩, hS.F ht⟩) hS.2.2 dX0_lengthOf_28

set_option maxHeartbeats 4000000 in
set_option maxRecDepth 100000 in
theorem kkX0_flagsOf_400 (l : Launch) (dC : Nat → ClassId) (dI : Nat → Nat → Nat) (cI cB cZ cR : ClassId) (sz : Nat) (xd : Nat) (l0 : Nat) (z0 : Nat) (w1 : Int32) (w2 : Int32) (w3 : Int32) (w4 : Int32) (w5 : Int32) (w6 : Int32) (w7 : Int32) : Met l yX0_flagsOf (.code yX0_flagsOf cX0_flagsOf 3 (some .int) :: wsL_law) ({ frames := 0, cells := 0, slots := 0, locals := 0 }) (zPc dC dI (zT cI cB cZ cR) [.ref xd, .int 0] sz [(xd, .inr (0, [.ref l0, .ref z0, .int 4])), (z0, .inl (cZ, 8, .inl (gl [0, w1, w2, w3, w4, w5, w6, w7])))]) (va_Qi (fun (r : Int32) (_ : Unit) => r = 1) (fun _ : Unit => zB dC dI (zT cI cB cZ cR) (va_A [(xd, .inr (0, [.ref l0, .ref z0, .int 4])), (z0, .inl (cZ, 8, .inl (gl [0, w1, w2, w3, w4, w5, w6, w7])))] sz) [(xd, .inr (0, [.ref l0, .ref z0, .int 4])), (z0, .inl (cZ, 8, .inl (gl [0, w1, w2, w3, w4, w5, w6, w7])))]) (va_A [(xd, .inr (0, [.ref l0, .ref z0, .int 4])), (z0, .inl (cZ, 8, .inl (gl [0, w1, w2, w3, w4, w5, w6, w7])))] sz)) 0 0 (va_A [(xd, .inr (0, [.ref l0, .ref z0, .int 4])), (z0, .inl (cZ, 8, .inl (gl [0, w1, w2, w3, w4, w5, w6, w7])))] sz) := by
  refine Met.ofW (cc := cX0_flagsOf) (maxL := 3) (ret := (some .int)) (by decide) rfl ?_
  intro p e s m args below meth c s₁ B hml hv
  obtain ⟨rfl, hsz, hP, hK, hD0, hN⟩ := hv
  have hx := B.exec
  have hb := B.bytes
  have hr := B.returns
  have hts := atoms_spec (ws := (.code yX0_flagsOf cX0_flagsOf 3 (some .int) :: wsL_law)) B.pre
  have hown : s.vm.findClass RX0 = some m.cls := findClass_of_methodNamed B.named
  have hlocks := B.notSynchronized
  have hinX0 : ∀ w ∈ u_ws RX0 TX0 3, w ∈ (.code yX0_flagsOf cX0_flagsOf 3 (some .int) :: wsL_law) := fun w h => List.mem_cons_of_mem _ (inlX0 w h)
  have k_0 := hts (.fieldLink RX0 19 "RingMarks$Chain" "size" "I") (List.mem_cons_of_mem _ wm_56)
  have k_1 := hts (.fieldLink RX0 15 "RingMarks$Chain" "writes" "[Z") (List.mem_cons_of_mem _ wm_55)
  subst hsz
  have hD := hD0.self (sz := s.heap.size)
  generalize hAe : va_A [(xd, .inr (0, [.ref l0, .ref z0, .int 4])), (z0, .inl (cZ, 8, .inl (gl [0, w1, w2, w3, w4, w5, w6, w7])))] s.heap.size = A at hD ⊢
  have hA : ∀ q : Nat, s.heap.size ≤ q → A q := fun q h => by rw [← hAe]; exact Or.inr h
  have hP : va_P (dC, dI) vwCl [(xd, .inr (0, [.ref l0, .ref z0, .int 4])), (z0, .inl (cZ, 8, .inl (gl [0, w1, w2, w3, w4, w5, w6, w7])))] s.heap := hP
  have hl := lv_entry ([.ref xd, .int 0]) (n := 3) (Nat.le_of_ble_eq_true rfl)
  rw [lg_entry_eq]
  generalize (lg_sl ([.ref xd, .int 0]) ++ List.replicate (3 - (lg_sl ([.ref xd, .int 0])).length) Slot.unset).toArray = ls at hl ⊢
  have hl : lv_has ls 3 [(0, .ref xd), (1, .int 0)] := hl
  obtain ⟨H, hH⟩ : ∃ H, H = s.heap := ⟨_, rfl⟩
  rw [← hH] at hP ⊢
  have hS : va_S A s.heap H [] := by rw [hH]; exact va_S.rf
  refine lv_iload_n hx hb dX0_flagsOf_0 rfl (lv_at hl 1 rfl) ?_
  refine lv_if_lt (tgt := 31) hx hb dX0_flagsOf_1 (by decide) (fun c => absurd c (by decide)) (fun _ => ?_)
  refine lv_iload_n hx hb dX0_flagsOf_4 rfl (lv_at hl 1 rfl) ?_
  refine lv_aload_n hx hb dX0_flagsOf_5 rfl (lv_at hl 0 rfl) ?_
  refine va_get (D := (dC, dI)) (ci := 0) (v := .int 4) (C := RX0) (T := TX0) (N := 3) hx hb hts hinX0 hown hK hP 0 rfl rfl 2 (by decide) k_0 (fun _ h9 => h9) rfl dX0_flagsOf_6 ?_
  refine lv_icmp_ge (tgt := 31) hx hb dX0_flagsOf_9 (by decide) (fun c => absurd c (by decide)) (fun _ => ?_)
  refine lv_iload_n hx hb dX0_flagsOf_12 rfl (lv_at hl 1 rfl) ?_
  refine lv_bipush (v := 8) hx hb dX0_flagsOf_13 (by decide) ?_
  refine lv_icmp_ge (tgt := 31) hx hb dX0_flagsOf_15 (by decide) (fun c => absurd c (by decide)) (fun _ => ?_)
  refine lv_aload_n hx hb dX0_flagsOf_18 rfl (lv_at hl 0 rfl) ?_
  refine va_get (D := (dC, dI)) (ci := 0) (v := .ref z0) (C := RX0) (T := TX0) (N := 3) hx hb hts hinX0 hown hK hP 0 rfl rfl 1 (by decide) k_1 (fun _ h9 => h9) rfl dX0_flagsOf_19 ?_
  refine lv_iload_n hx hb dX0_flagsOf_22 rfl (lv_at hl 1 rfl) ?_
  refine za_zald (v := 0) hx hb hK hP 1 2 rfl rfl (zin tn_0 (Nat.le_of_ble_eq_true rfl)) (zrd _ tn_0 rfl) dX0_flagsOf_23 ?_
  refine lv_if_eq (tgt := 31) hx hb dX0_flagsOf_24 (by decide) (fun _ => ?_) (fun c => absurd (by decide) c)
  refine lv_iconst (v := 0) hx hb dX0_flagsOf_31 (by decide) ?_
  refine lv_istore_n (lv' := [(2, .int 0), (0, .ref xd), (1, .int 0)]) hx hb dX0_flagsOf_32 rfl hl (by decide) rfl (fun ls hl => ?_)
  refine lv_iload_n hx hb dX0_flagsOf_33 rfl (lv_at hl 0 rfl) ?_
  refine lv_if_eq (tgt := 41) hx hb dX0_flagsOf_34 (by decide) (fun _ => ?_) (fun c => absurd (by decide) c)
  refine lv_iconst (v := 0) hx hb dX0_flagsOf_41 (by decide) ?_
  refine lv_iload_n hx hb dX0_flagsOf_42 rfl (lv_at hl 2 rfl) ?_
  refine lv_aload_n hx hb dX0_flagsOf_43 rfl (lv_at hl 1 rfl) ?_
  refine va_get (D := (dC, dI)) (ci := 0) (v := .int 4) (C := RX0) (T := TX0) (N := 3) hx hb hts hinX0 hown hK hP 0 rfl rfl 2 (by decide) k_0 (fun _ h9 => h9) rfl dX0_flagsOf_44 ?_
  refine lv_iconst (v := 1) hx hb dX0_flagsOf_47 (by decide) ?_
  refine lv_isub hx hb dX0_flagsOf_48 ?_
  refine tp (y := 3) (by decide) ?_
  refine lv_icmp_ge (tgt := 56) hx hb dX0_flagsOf_49 (by decide) (fun c => absurd c (by decide)) (fun _ => ?_)
  refine lv_iconst (v := 1) hx hb dX0_flagsOf_52 (by decide) ?_
  refine lv_goto (tgt := 57) hx hb dX0_flagsOf_53 (by decide) ?_
  refine lv_ior hx hb dX0_flagsOf_57 ?_
  refine tp (y := 1) (by decide) ?_
  have hP9 := hP.sub (ws' := [(xd, .inr (0, [.ref l0, .ref z0, .int 4])), (z0, .inl (cZ, 8, .inl (gl [0, w1, w2, w3, w4, w5, w6, w7])))]) [0, 1] rfl
  have hD9 := hD.sub (ws' := [(xd, .inr (0, [.ref l0, .ref z0, .int 4])), (z0, .inl (cZ, 8, .inl (gl [0, w1, w2, w3, w4, w5, w6, w7])))]) [0, 1] (by decide) rfl
  exact W.iret (v := 1) hx hb hr (fun t ht hW => ⟨⟨1, (), rfl, rfl, by rw [ht]; exact hP9, va_K.moved hW.alike hK, hD9⟩, hS.F ht⟩) hS.2.2 dX0_flagsOf_58

set_option maxHeartbeats 4000000 in
set_option maxRecDepth 100000 in
theorem kkX0_flagsOf_401 (l : Launch) (dC : Nat → ClassId) (dI : Nat → Nat → Nat) (cI cB cZ cR : ClassId) (sz : Nat) (xd : Nat) (l0 : Nat) (z0 : Nat) (w1 : Int32) (w2 : Int32) (w3 : Int32) (w4 : Int32) (w5 : Int32) (w6 : Int32) (w7 : Int32) : Met l yX0_flagsOf (.code yX0_flagsOf cX0_flagsOf 3 (some .int) :: wsL_law) ({ frames := 0, cells := 0, slots := 0, locals := 0 }) (zPc dC dI (zT cI cB cZ cR) [.ref xd, .int 0] sz [(xd, .inr (0, [.ref l0, .ref z0, .int 4])), (z0, .inl (cZ, 8, .inl (gl [1, w1, w2, w3, w4, w5, w6, w7])))]) (va_Qi (fun (r : Int32) (_ : Unit) => r = 3) (fun _ : Unit => zB dC dI (zT cI cB cZ cR) (va_A [(xd, .inr (0, [.ref l0, .ref z0, .int 4])), (z0, .inl (cZ, 8, .inl (gl [1, w1, w2, w3, w4, w5, w6, w7])))] sz) [(xd, .inr (0, [.ref l0, .ref z0, .int 4])), (z0, .inl (cZ, 8, .inl (gl [1, w1, w2, w3, w4, w5, w6, w7])))]) (va_A [(xd, .inr (0, [.ref l0, .ref z0, .int 4])), (z0, .inl (cZ, 8, .inl (gl [1, w1, w2, w3, w4, w5, w6, w7])))] sz)) 0 0 (va_A [(xd, .inr (0, [.ref l0, .ref z0, .int 4])), (z0, .inl (cZ, 8, .inl (gl [1, w1, w2, w3, w4, w5, w6, w7])))] sz) := by
  refine Met.ofW (cc := cX0_flagsOf) (maxL := 3) (ret := (some .int)) (by decide) rfl ?_
  intro p e s m args below meth c s₁ B hml hv
  obtain ⟨rfl, hsz, hP, hK, hD0, hN⟩ := hv
  have hx := B.exec
  have hb := B.bytes
  have hr := B.returns
  have hts := atoms_spec (ws := (.code yX0_flagsOf cX0_flagsOf 3 (some .int) :: wsL_law)) B.pre
  have hown : s.vm.findClass RX0 = some m.cls := findClass_of_methodNamed B.named
  have hlocks := B.notSynchronized
  have hinX0 : ∀ w ∈ u_ws RX0 TX0 3, w ∈ (.code yX0_flagsOf cX0_flagsOf 3 (some .int) :: wsL_law) := fun w h => List.mem_cons_of_mem _ (inlX0 w h)
  have k_0 := hts (.fieldLink RX0 19 "RingMarks$Chain" "size" "I") (List.mem_cons_of_mem _ wm_56)
  have k_1 := hts (.fieldLink RX0 15 "RingMarks$Chain" "writes" "[Z") (List.mem_cons_of_mem _ wm_55)
  subst hsz
  have hD := hD0.self (sz := s.heap.size)
  generalize hAe : va_A [(xd, .inr (0, [.ref l0, .ref z0, .int 4])), (z0, .inl (cZ, 8, .inl (gl [1, w1, w2, w3, w4, w5, w6, w7])))] s.heap.size = A at hD ⊢
  have hA : ∀ q : Nat, s.heap.size ≤ q → A q := fun q h => by rw [← hAe]; exact Or.inr h
  have hP : va_P (dC, dI) vwCl [(xd, .inr (0, [.ref l0, .ref z0, .int 4])), (z0, .inl (cZ, 8, .inl (gl [1, w1, w2, w3, w4, w5, w6, w7])))] s.heap := hP
  have hl := lv_entry ([.ref xd, .int 0]) (n := 3) (Nat.le_of_ble_eq_true rfl)
  rw [lg_entry_eq]
  generalize (lg_sl ([.ref xd, .int 0]) ++ List.replicate (3 - (lg_sl ([.ref xd, .int 0])).length) Slot.unset).toArray = ls at hl ⊢
  have hl : lv_has ls 3 [(0, .ref xd), (1, .int 0)] := hl
  obtain ⟨H, hH⟩ : ∃ H, H = s.heap := ⟨_, rfl⟩
  rw [← hH] at hP ⊢
  have hS : va_S A s.heap H [] := by rw [hH]; exact va_S.rf
  refine lv_iload_n hx hb dX0_flagsOf_0 rfl (lv_at hl 1 rfl) ?_
  refine lv_if_lt (tgt := 31) hx hb dX0_flagsOf_1 (by decide) (fun c => absurd c (by decide)) (fun _ => ?_)
  refine lv_iload_n hx hb dX0_flagsOf_4 rfl (lv_at hl 1 rfl) ?_
  refine lv_aload_n hx hb dX0_flagsOf_5 rfl (lv_at hl 0 rfl) ?_
  refine va_get (D := (dC, dI)) (ci := 0) (v := .int 4) (C := RX0) (T := TX0) (N := 3) hx hb hts hinX0 hown hK hP 0 rfl rfl 2 (by decide) k_0 (fun _ h9 => h9) rfl dX0_flagsOf_6 ?_
  refine lv_icmp_ge (tgt := 31) hx hb dX0_flagsOf_9 (by decide) (fun c => absurd c (by decide)) (fun _ => ?_)
  refine lv_iload_n hx hb dX0_flagsOf_12 rfl (lv_at hl 1 rfl) ?_
  refine lv_bipush (v := 8) hx hb dX0_flagsOf_13 (by decide) ?_
  refine lv_icmp_ge (tgt := 31) hx hb dX0_flagsOf_15 (by decide) (fun c => absurd c (by decide)) (fun _ => ?_)
  refine lv_aload_n hx hb dX0_flagsOf_18 rfl (lv_at hl 0 rfl) ?_
  refine va_get (D := (dC, dI)) (ci := 0) (v := .ref z0) (C := RX0) (T := TX0) (N := 3) hx hb hts hinX0 hown hK hP 0 rfl rfl 1 (by decide) k_1 (fun _ h9 => h9) rfl dX0_flagsOf_19 ?_
  refine lv_iload_n hx hb dX0_flagsOf_22 rfl (lv_at hl 1 rfl) ?_
  refine za_zald (v := 1) hx hb hK hP 1 2 rfl rfl (zin tn_0 (Nat.le_of_ble_eq_true rfl)) (zrd _ tn_0 rfl) dX0_flagsOf_23 ?_
  refine lv_if_eq (tgt := 31) hx hb dX0_flagsOf_24 (by decide) (fun c => absurd c (by decide)) (fun _ => ?_)
  refine lv_iconst (v := 1) hx hb dX0_flagsOf_27 (by decide) ?_
  refine lv_goto (tgt := 32) hx hb dX0_flagsOf_28 (by decide) ?_
  refine lv_istore_n (lv' := [(2, .int 1), (0, .ref xd), (1, .int 0)]) hx hb dX0_flagsOf_32 rfl hl (by decide) rfl (fun ls hl => ?_)
  refine lv_iload_n hx hb dX0_flagsOf_33 rfl (lv_at hl 0 rfl) ?_
  refine lv_if_eq (tgt := 41) hx hb dX0_flagsOf_34 (by decide) (fun c => absurd c (by decide)) (fun _ => ?_)
  refine lv_iconst (v := 2) hx hb dX0_flagsOf_37 (by decide) ?_
  refine lv_goto (tgt := 42) hx hb dX0_flagsOf_38 (by decide) ?_
  refine lv_iload_n hx hb dX0_flagsOf_42 rfl (lv_at hl 2 rfl) ?_
  refine lv_aload_n hx hb dX0_flagsOf_43 rfl (lv_at hl 1 rfl) ?_
  refine va_get (D := (dC, dI)) (ci := 0) (v := .int 4) (C := RX0) (T := TX0) (N := 3) hx hb hts hinX0 hown hK hP 0 rfl rfl 2 (by decide) k_0 (fun _ h9 => h9) rfl dX0_flagsOf_44 ?_
  refine lv_iconst (v := 1) hx hb dX0_flagsOf_47 (by decide) ?_
  refine lv_isub hx hb dX0_flagsOf_48 ?_
  refine tp (y := 3) (by decide) ?_
  refine lv_icmp_ge (tgt := 56) hx hb dX0_flagsOf_49 (by decide) (fun c => absurd c (by decide)) (fun _ => ?_)
  refine lv_iconst (v := 1) hx hb dX0_flagsOf_52 (by decide) ?_
  refine lv_goto (tgt := 57) hx hb dX0_flagsOf_53 (by decide) ?_
  refine lv_ior hx hb dX0_flagsOf_57 ?_
  refine tp (y := 3) (by decide) ?_
  have hP9 := hP.sub (ws' := [(xd, .inr (0, [.ref l0, .ref z0, .int 4])), (z0, .inl (cZ, 8, .inl (gl [1, w1, w2, w3, w4, w5, w6, w7])))]) [0, 1] rfl
  have hD9 := hD.sub (ws' := [(xd, .inr (0, [.ref l0, .ref z0, .int 4])), (z0, .inl (cZ, 8, .inl (gl [1, w1, w2, w3, w4, w5, w6, w7])))]) [0, 1] (by decide) rfl
  exact W.iret (v := 3) hx hb hr (fun t ht hW => ⟨⟨3, (), rfl, rfl, by rw [ht]; exact hP9, va_K.moved hW.alike hK, hD9⟩, hS.F ht⟩) hS.2.2 dX0_flagsOf_58

set_option maxHeartbeats 4000000 in
set_option maxRecDepth 100000 in
theorem kkX0_lengthOf_41 (l : Launch) (dC : Nat → ClassId) (dI : Nat → Nat → Nat) (cI cB cZ cR : ClassId) (sz : Nat) (xd : Nat) (l0 : Nat) (z0 : Nat) (n0 : Int32) (n1 : Int32) (n2 : Int32) (n3 : Int32) (n4 : Int32) (n5 : Int32) (n6 : Int32) (n7 : Int32) : Met l yX0_lengthOf (.code yX0_lengthOf cX0_lengthOf 2 (some .int) :: wsL_law) ({ frames := 0, cells := 0, slots := 0, locals := 0 }) (zPc dC dI (zT cI cB cZ cR) [.ref xd, .int 1] sz [(xd, .inr (0, [.ref l0, .ref z0, .int 4])), (l0, .inl (cI, 8, .inl (gl [n0, n1, n2, n3, n4, n5, n6, n7])))]) (va_Qi (fun (r : Int32) (_ : Unit) => r = n1) (fun _ : Unit => zB dC dI (zT cI cB cZ cR) (va_A [(xd, .inr (0, [.ref l0, .ref z0, .int 4])), (l0, .inl (cI, 8, .inl (gl [n0, n1, n2, n3, n4, n5, n6, n7])))] sz) [(xd, .inr (0, [.ref l0, .ref z0, .int 4])), (l0, .inl (cI, 8, .inl (gl [n0, n1, n2, n3, n4, n5, n6, n7])))]) (va_A [(xd, .inr (0, [.ref l0, .ref z0, .int 4])), (l0, .inl (cI, 8, .inl (gl [n0, n1, n2, n3, n4, n5, n6, n7])))] sz)) 0 0 (va_A [(xd, .inr (0, [.ref l0, .ref z0, .int 4])), (l0, .inl (cI, 8, .inl (gl [n0, n1, n2, n3, n4, n5, n6, n7])))] sz) := by
  refine Met.ofW (cc := cX0_lengthOf) (maxL := 2) (ret := (some .int)) (by decide) rfl ?_
  intro p e s m args below meth c s₁ B hml hv
  obtain ⟨rfl, hsz, hP, hK, hD0, hN⟩ := hv
  have hx := B.exec
  have hb := B.bytes
  have hr := B.returns
  have hts := atoms_spec (ws := (.code yX0_lengthOf cX0_lengthOf 2 (some .int) :: wsL_law)) B.pre
  have hown : s.vm.findClass RX0 = some m.cls := findClass_of_methodNamed B.named
  have hlocks := B.notSynchronized
  have hinX0 : ∀ w ∈ u_ws RX0 TX0 3, w ∈ (.code yX0_lengthOf cX0_lengthOf 2 (some .int) :: wsL_law) := fun w h => List.mem_cons_of_mem _ (inlX0 w h)
  have k_0 := hts (.fieldLink RX0 19 "RingMarks$Chain" "size" "I") (List.mem_cons_of_mem _ wm_56)
  have k_1 := hts (.fieldLink RX0 11 "RingMarks$Chain" "lengths" "[I") (List.mem_cons_of_mem _ wm_53)
  subst hsz
  have hD := hD0.self (sz := s.heap.size)
  generalize hAe : va_A [(xd, .inr (0, [.ref l0, .ref z0, .int 4])), (l0, .inl (cI, 8, .inl (gl [n0, n1, n2, n3, n4, n5, n6, n7])))] s.heap.size = A at hD ⊢
  have hA : ∀ q : Nat, s.heap.size ≤ q → A q := fun q h => by rw [← hAe]; exact Or.inr h
  have hP : va_P (dC, dI) vwCl [(xd, .inr (0, [.ref l0, .ref z0, .int 4])), (l0, .inl (cI, 8, .inl (gl [n0, n1, n2, n3, n4, n5, n6, n7])))] s.heap := hP
  have hl := lv_entry ([.ref xd, .int 1]) (n := 2) (Nat.le_of_ble_eq_true rfl)
  rw [lg_entry_eq]
  generalize (lg_sl ([.ref xd, .int 1]) ++ List.replicate (2 - (lg_sl ([.ref xd, .int 1])).length) Slot.unset).toArray = ls at hl ⊢
  have hl : lv_has ls 2 [(0, .ref xd), (1, .int 1)] := hl
  obtain ⟨H, hH⟩ : ∃ H, H = s.heap := ⟨_, rfl⟩
  rw [← hH] at hP ⊢
  have hS : va_S A s.heap H [] := by rw [hH]; exact va_S.rf
  refine lv_iload_n hx hb dX0_lengthOf_0 rfl (lv_at hl 1 rfl) ?_
  refine lv_if_lt (tgt := 27) hx hb dX0_lengthOf_1 (by decide) (fun c => absurd c (by decide)) (fun _ => ?_)
  refine lv_iload_n hx hb dX0_lengthOf_4 rfl (lv_at hl 1 rfl) ?_
  refine lv_aload_n hx hb dX0_lengthOf_5 rfl (lv_at hl 0 rfl) ?_
  refine va_get (D := (dC, dI)) (ci := 0) (v := .int 4) (C := RX0) (T := TX0) (N := 3) hx hb hts hinX0 hown hK hP 0 rfl rfl 2 (by decide) k_0 (fun _ h9 => h9) rfl dX0_lengthOf_6 ?_
  refine lv_icmp_ge (tgt := 27) hx hb dX0_lengthOf_9 (by decide) (fun c => absurd c (by decide)) (fun _ => ?_)
  refine lv_iload_n hx hb dX0_lengthOf_12 rfl (lv_at hl 1 rfl) ?_
  refine lv_bipush (v := 8) hx hb dX0_lengthOf_13 (by decide) ?_
  refine lv_icmp_ge (tgt := 27) hx hb dX0_lengthOf_15 (by decide) (fun c => absurd c (by decide)) (fun _ => ?_)
  refine lv_aload_n hx hb dX0_lengthOf_18 rfl (lv_at hl 0 rfl) ?_
  refine va_get (D := (dC, dI)) (ci := 0) (v := .ref l0) (C := RX0) (T := TX0) (N := 3) hx hb hts hinX0 hown hK hP 0 rfl rfl 0 (by decide) k_1 (fun _ h9 => h9) rfl dX0_lengthOf_19 ?_
  refine lv_iload_n hx hb dX0_lengthOf_22 rfl (lv_at hl 1 rfl) ?_
  refine za_iald (v := n1) hx hb hK hP 1 0 rfl rfl (zin tn_1 (Nat.le_of_ble_eq_true rfl)) (zrd _ tn_1 rfl) dX0_lengthOf_23 ?_
  refine lv_goto (tgt := 28) hx hb dX0_lengthOf_24 (by decide) ?_
  have hP9 := hP.sub (ws' := [(xd, .inr (0, [.ref l0, .ref z0, .int 4])), (l0, .inl (cI, 8, .inl (gl [n0, n1, n2, n3, n4, n5, n6, n7])))]) [0, 1] rfl
  have hD9 := hD.sub (ws' := [(xd, .inr (0, [.ref l0, .ref z0, .int 4])), (l0, .inl (cI, 8, .inl (gl [n0, n1, n2, n3, n4, n5, n6, n7])))]) [0, 1] (by decide) rfl
  exact W.iret (v := n1) hx hb hr (fun t ht hW => ⟨⟨n1, (), rfl, rfl, by rw [ht]; exact hP9, va_K.moved hW.alike hK, hD9⟩, hS.F ht⟩) hS.2.2 dX0_lengthOf_28

set_option maxHeartbeats 4000000 in
set_option maxRecDepth 100000 in
theorem kkX0_flagsOf_410 (l : Launch) (dC : Nat → ClassId) (dI : Nat → Nat → Nat) (cI cB cZ cR : ClassId) (sz : Nat) (xd : Nat) (l0 : Nat) (z0 : Nat) (w0 : Int32) (w2 : Int32) (w3 : Int32) (w4 : Int32) (w5 : Int32) (w6 : Int32) (w7 : Int32) : Met l yX0_flagsOf (.code yX0_flagsOf cX0_flagsOf 3 (some .int) :: wsL_law) ({ frames := 0, cells := 0, slots := 0, locals := 0 }) (zPc dC dI (zT cI cB cZ cR) [.ref xd, .int 1] sz [(xd, .inr (0, [.ref l0, .ref z0, .int 4])), (z0, .inl (cZ, 8, .inl (gl [w0, 0, w2, w3, w4, w5, w6, w7])))]) (va_Qi (fun (r : Int32) (_ : Unit) => r = 1) (fun _ : Unit => zB dC dI (zT cI cB cZ cR) (va_A [(xd, .inr (0, [.ref l0, .ref z0, .int 4])), (z0, .inl (cZ, 8, .inl (gl [w0, 0, w2, w3, w4, w5, w6, w7])))] sz) [(xd, .inr (0, [.ref l0, .ref z0, .int 4])), (z0, .inl (cZ, 8, .inl (gl [w0, 0, w2, w3, w4, w5, w6, w7])))]) (va_A [(xd, .inr (0, [.ref l0, .ref z0, .int 4])), (z0, .inl (cZ, 8, .inl (gl [w0, 0, w2, w3, w4, w5, w6, w7])))] sz)) 0 0 (va_A [(xd, .inr (0, [.ref l0, .ref z0, .int 4])), (z0, .inl (cZ, 8, .inl (gl [w0, 0, w2, w3, w4, w5, w6, w7])))] sz) := by
  refine Met.ofW (cc := cX0_flagsOf) (maxL := 3) (ret := (some .int)) (by decide) rfl ?_
  intro p e s m args below meth c s₁ B hml hv
  obtain ⟨rfl, hsz, hP, hK, hD0, hN⟩ := hv
  have hx := B.exec
  have hb := B.bytes
  have hr := B.returns
  have hts := atoms_spec (ws := (.code yX0_flagsOf cX0_flagsOf 3 (some .int) :: wsL_law)) B.pre
  have hown : s.vm.findClass RX0 = some m.cls := findClass_of_methodNamed B.named
  have hlocks := B.notSynchronized
  have hinX0 : ∀ w ∈ u_ws RX0 TX0 3, w ∈ (.code yX0_flagsOf cX0_flagsOf 3 (some .int) :: wsL_law) := fun w h => List.mem_cons_of_mem _ (inlX0 w h)
  have k_0 := hts (.fieldLink RX0 19 "RingMarks$Chain" "size" "I") (List.mem_cons_of_mem _ wm_56)
  have k_1 := hts (.fieldLink RX0 15 "RingMarks$Chain" "writes" "[Z") (List.mem_cons_of_mem _ wm_55)
  subst hsz
  have hD := hD0.self (sz := s.heap.size)
  generalize hAe : va_A [(xd, .inr (0, [.ref l0, .ref z0, .int 4])), (z0, .inl (cZ, 8, .inl (gl [w0, 0, w2, w3, w4, w5, w6, w7])))] s.heap.size = A at hD ⊢
  have hA : ∀ q : Nat, s.heap.size ≤ q → A q := fun q h => by rw [← hAe]; exact Or.inr h
  have hP : va_P (dC, dI) vwCl [(xd, .inr (0, [.ref l0, .ref z0, .int 4])), (z0, .inl (cZ, 8, .inl (gl [w0, 0, w2, w3, w4, w5, w6, w7])))] s.heap := hP
  have hl := lv_entry ([.ref xd, .int 1]) (n := 3) (Nat.le_of_ble_eq_true rfl)
  rw [lg_entry_eq]
  generalize (lg_sl ([.ref xd, .int 1]) ++ List.replicate (3 - (lg_sl ([.ref xd, .int 1])).length) Slot.unset).toArray = ls at hl ⊢
  have hl : lv_has ls 3 [(0, .ref xd), (1, .int 1)] := hl
  obtain ⟨H, hH⟩ : ∃ H, H = s.heap := ⟨_, rfl⟩
  rw [← hH] at hP ⊢
  have hS : va_S A s.heap H [] := by rw [hH]; exact va_S.rf
  refine lv_iload_n hx hb dX0_flagsOf_0 rfl (lv_at hl 1 rfl) ?_
  refine lv_if_lt (tgt := 31) hx hb dX0_flagsOf_1 (by decide) (fun c => absurd c (by decide)) (fun _ => ?_)
  refine lv_iload_n hx hb dX0_flagsOf_4 rfl (lv_at hl 1 rfl) ?_
  refine lv_aload_n hx hb dX0_flagsOf_5 rfl (lv_at hl 0 rfl) ?_
  refine va_get (D := (dC, dI)) (ci := 0) (v := .int 4) (C := RX0) (T := TX0) (N := 3) hx hb hts hinX0 hown hK hP 0 rfl rfl 2 (by decide) k_0 (fun _ h9 => h9) rfl dX0_flagsOf_6 ?_
  refine lv_icmp_ge (tgt := 31) hx hb dX0_flagsOf_9 (by decide) (fun c => absurd c (by decide)) (fun _ => ?_)
  refine lv_iload_n hx hb dX0_flagsOf_12 rfl (lv_at hl 1 rfl) ?_
  refine lv_bipush (v := 8) hx hb dX0_flagsOf_13 (by decide) ?_
  refine lv_icmp_ge (tgt := 31) hx hb dX0_flagsOf_15 (by decide) (fun c => absurd c (by decide)) (fun _ => ?_)
  refine lv_aload_n hx hb dX0_flagsOf_18 rfl (lv_at hl 0 rfl) ?_
  refine va_get (D := (dC, dI)) (ci := 0) (v := .ref z0) (C := RX0) (T := TX0) (N := 3) hx hb hts hinX0 hown hK hP 0 rfl rfl 1 (by decide) k_1 (fun _ h9 => h9) rfl dX0_flagsOf_19 ?_
  refine lv_iload_n hx hb dX0_flagsOf_22 rfl (lv_at hl 1 rfl) ?_
  refine za_zald (v := 0) hx hb hK hP 1 2 rfl rfl (zin tn_1 (Nat.le_of_ble_eq_true rfl)) (zrd _ tn_1 rfl) dX0_flagsOf_23 ?_
  refine lv_if_eq (tgt := 31) hx hb dX0_flagsOf_24 (by decide) (fun _ => ?_) (fun c => absurd (by decide) c)
  refine lv_iconst (v := 0) hx hb dX0_flagsOf_31 (by decide) ?_
  refine lv_istore_n (lv' := [(2, .int 0), (0, .ref xd), (1, .int 1)]) hx hb dX0_flagsOf_32 rfl hl (by decide) rfl (fun ls hl => ?_)
  refine lv_iload_n hx hb dX0_flagsOf_33 rfl (lv_at hl 0 rfl) ?_
  refine lv_if_eq (tgt := 41) hx hb dX0_flagsOf_34 (by decide) (fun _ => ?_) (fun c => absurd (by decide) c)
  refine lv_iconst (v := 0) hx hb dX0_flagsOf_41 (by decide) ?_
  refine lv_iload_n hx hb dX0_flagsOf_42 rfl (lv_at hl 2 rfl) ?_
  refine lv_aload_n hx hb dX0_flagsOf_43 rfl (lv_at hl 1 rfl) ?_
  refine va_get (D := (dC, dI)) (ci := 0) (v := .int 4) (C := RX0) (T := TX0) (N := 3) hx hb hts hinX0 hown hK hP 0 rfl rfl 2 (by decide) k_0 (fun _ h9 => h9) rfl dX0_flagsOf_44 ?_
  refine lv_iconst (v := 1) hx hb dX0_flagsOf_47 (by decide) ?_
  refine lv_isub hx hb dX0_flagsOf_48 ?_
  refine tp (y := 3) (by decide) ?_
  refine lv_icmp_ge (tgt := 56) hx hb dX0_flagsOf_49 (by decide) (fun c => absurd c (by decide)) (fun _ => ?_)
  refine lv_iconst (v := 1) hx hb dX0_flagsOf_52 (by decide) ?_
  refine lv_goto (tgt := 57) hx hb dX0_flagsOf_53 (by decide) ?_
  refine lv_ior hx hb dX0_flagsOf_57 ?_
  refine tp (y := 1) (by decide) ?_
  have hP9 := hP.sub (ws' := [(xd, .inr (0, [.ref l0, .ref z0, .int 4])), (z0, .inl (cZ, 8, .inl (gl [w0, 0, w2, w3, w4, w5, w6, w7])))]) [0, 1] rfl
  have hD9 := hD.sub (ws' := [(xd, .inr (0, [.ref l0, .ref z0, .int 4])), (z0, .inl (cZ, 8, .inl (gl [w0, 0, w2, w3, w4, w5, w6, w7])))]) [0, 1] (by decide) rfl
  exact W.iret (v := 1) hx hb hr (fun t ht hW => ⟨⟨1, (), rfl, rfl, by rw [ht]; exact hP9, va_K.moved hW.alike hK, hD9⟩, hS.F ht⟩) hS.2.2 dX0_flagsOf_58

set_option maxHeartbeats 4000000 in
set_option maxRecDepth 100000 in
theorem kkX0_flagsOf_411 (l : Launch) (dC : Nat → ClassId) (dI : Nat → Nat → Nat) (cI cB cZ cR : ClassId) (sz : Nat) (xd : Nat) (l0 : Nat) (z0 : Nat) (w0 : Int32) (w2 : Int32) (w3 : Int32) (w4 : Int32) (w5 : Int32) (w6 : Int32) (w7 : Int32) : Met l yX0_flagsOf (.code yX0_flagsOf cX0_flagsOf 3 (some .int) :: wsL_law) ({ frames := 0, cells := 0, slots := 0, locals := 0 }) (zPc dC dI (zT cI cB cZ cR) [.ref xd, .int 1] sz [(xd, .inr (0, [.ref l0, .ref z0, .int 4])), (z0, .inl (cZ, 8, .inl (gl [w0, 1, w2, w3, w4, w5, w6, w7])))]) (va_Qi (fun (r : Int32) (_ : Unit) => r = 3) (fun _ : Unit => zB dC dI (zT cI cB cZ cR) (va_A [(xd, .inr (0, [.ref l0, .ref z0, .int 4])), (z0, .inl (cZ, 8, .inl (gl [w0, 1, w2, w3, w4, w5, w6, w7])))] sz) [(xd, .inr (0, [.ref l0, .ref z0, .int 4])), (z0, .inl (cZ, 8, .inl (gl [w0, 1, w2, w3, w4, w5, w6, w7])))]) (va_A [(xd, .inr (0, [.ref l0, .ref z0, .int 4])), (z0, .inl (cZ, 8, .inl (gl [w0, 1, w2, w3, w4, w5, w6, w7])))] sz)) 0 0 (va_A [(xd, .inr (0, [.ref l0, .ref z0, .int 4])), (z0, .inl (cZ, 8, .inl (gl [w0, 1, w2, w3, w4, w5, w6, w7])))] sz) := by
  refine Met.ofW (cc := cX0_flagsOf) (maxL := 3) (ret := (some .int)) (by decide) rfl ?_
  intro p e s m args below meth c s₁ B hml hv
  obtain ⟨rfl, hsz, hP, hK, hD0, hN⟩ := hv
  have hx := B.exec
  have hb := B.bytes
  have hr := B.returns
  have hts := atoms_spec (ws := (.code yX0_flagsOf cX0_flagsOf 3 (some .int) :: wsL_law)) B.pre
  have hown : s.vm.findClass RX0 = some m.cls := findClass_of_methodNamed B.named
  have hlocks := B.notSynchronized
  have hinX0 : ∀ w ∈ u_ws RX0 TX0 3, w ∈ (.code yX0_flagsOf cX0_flagsOf 3 (some .int) :: wsL_law) := fun w h => List.mem_cons_of_mem _ (inlX0 w h)
  have k_0 := hts (.fieldLink RX0 19 "RingMarks$Chain" "size" "I") (List.mem_cons_of_mem _ wm_56)
  have k_1 := hts (.fieldLink RX0 15 "RingMarks$Chain" "writes" "[Z") (List.mem_cons_of_mem _ wm_55)
  subst hsz
  have hD := hD0.self (sz := s.heap.size)
  generalize hAe : va_A [(xd, .inr (0, [.ref l0, .ref z0, .int 4])), (z0, .inl (cZ, 8, .inl (gl [w0, 1, w2, w3, w4, w5, w6, w7])))] s.heap.size = A at hD ⊢
  have hA : ∀ q : Nat, s.heap.size ≤ q → A q := fun q h => by rw [← hAe]; exact Or.inr h
  have hP : va_P (dC, dI) vwCl [(xd, .inr (0, [.ref l0, .ref z0, .int 4])), (z0, .inl (cZ, 8, .inl (gl [w0, 1, w2, w3, w4, w5, w6, w7])))] s.heap := hP
  have hl := lv_entry ([.ref xd, .int 1]) (n := 3) (Nat.le_of_ble_eq_true rfl)
  rw [lg_entry_eq]
  generalize (lg_sl ([.ref xd, .int 1]) ++ List.replicate (3 - (lg_sl ([.ref xd, .int 1])).length) Slot.unset).toArray = ls at hl ⊢
  have hl : lv_has ls 3 [(0, .ref xd), (1, .int 1)] := hl
  obtain ⟨H, hH⟩ : ∃ H, H = s.heap := ⟨_, rfl⟩
  rw [← hH] at hP ⊢
  have hS : va_S A s.heap H [] := by rw [hH]; exact va_S.rf
  refine lv_iload_n hx hb dX0_flagsOf_0 rfl (lv_at hl 1 rfl) ?_
  refine lv_if_lt (tgt := 31) hx hb dX0_flagsOf_1 (by decide) (fun c => absurd c (by decide)) (fun _ => ?_)
  refine lv_iload_n hx hb dX0_flagsOf_4 rfl (lv_at hl 1 rfl) ?_
  refine lv_aload_n hx hb dX0_flagsOf_5 rfl (lv_at hl 0 rfl) ?_
  refine va_get (D := (dC, dI)) (ci := 0) (v := .int 4) (C := RX0) (T := TX0) (N := 3) hx hb hts hinX0 hown hK hP 0 rfl rfl 2 (by decide) k_0 (fun _ h9 => h9) rfl dX0_flagsOf_6 ?_
  refine lv_icmp_ge (tgt := 31) hx hb dX0_flagsOf_9 (by decide) (fun c => absurd c (by decide)) (fun _ => ?_)
  refine lv_iload_n hx hb dX0_flagsOf_12 rfl (lv_at hl 1 rfl) ?_
  refine lv_bipush (v := 8) hx hb dX0_flagsOf_13 (by decide) ?_
  refine lv_icmp_ge (tgt := 31) hx hb dX0_flagsOf_15 (by decide) (fun c => absurd c (by decide)) (fun _ => ?_)
  refine lv_aload_n hx hb dX0_flagsOf_18 rfl (lv_at hl 0 rfl) ?_
  refine va_get (D := (dC, dI)) (ci := 0) (v := .ref z0) (C := RX0) (T := TX0) (N := 3) hx hb hts hinX0 hown hK hP 0 rfl rfl 1 (by decide) k_1 (fun _ h9 => h9) rfl dX0_flagsOf_19 ?_
  refine lv_iload_n hx hb dX0_flagsOf_22 rfl (lv_at hl 1 rfl) ?_
  refine za_zald (v := 1) hx hb hK hP 1 2 rfl rfl (zin tn_1 (Nat.le_of_ble_eq_true rfl)) (zrd _ tn_1 rfl) dX0_flagsOf_23 ?_
  refine lv_if_eq (tgt := 31) hx hb dX0_flagsOf_24 (by decide) (fun c => absurd c (by decide)) (fun _ => ?_)
  refine lv_iconst (v := 1) hx hb dX0_flagsOf_27 (by decide) ?_
  refine lv_goto (tgt := 32) hx hb dX0_flagsOf_28 (by decide) ?_
  refine lv_istore_n (lv' := [(2, .int 1), (0, .ref xd), (1, .int 1)]) hx hb dX0_flagsOf_32 rfl hl (by decide) rfl (fun ls hl => ?_)
  refine lv_iload_n hx hb dX0_flagsOf_33 rfl (lv_at hl 0 rfl) ?_
  refine lv_if_eq (tgt := 41) hx hb dX0_flagsOf_34 (by decide) (fun c => absurd c (by decide)) (fun _ => ?_)
  refine lv_iconst (v := 2) hx hb dX0_flagsOf_37 (by decide) ?_
  refine lv_goto (tgt := 42) hx hb dX0_flagsOf_38 (by decide) ?_
  refine lv_iload_n hx hb dX0_flagsOf_42 rfl (lv_at hl 2 rfl) ?_
  refine lv_aload_n hx hb dX0_flagsOf_43 rfl (lv_at hl 1 rfl) ?_
  refine va_get (D := (dC, dI)) (ci := 0) (v := .int 4) (C := RX0) (T := TX0) (N := 3) hx hb hts hinX0 hown hK hP 0 rfl rfl 2 (by decide) k_0 (fun _ h9 => h9) rfl dX0_flagsOf_44 ?_
  refine lv_iconst (v := 1) hx hb dX0_flagsOf_47 (by decide) ?_
  refine lv_isub hx hb dX0_flagsOf_48 ?_
  refine tp (y := 3) (by decide) ?_
  refine lv_icmp_ge (tgt := 56) hx hb dX0_flagsOf_49 (by decide) (fun c => absurd c (by decide)) (fun _ => ?_)
  refine lv_iconst (v := 1) hx hb dX0_flagsOf_52 (by decide) ?_
  refine lv_goto (tgt := 57) hx hb dX0_flagsOf_53 (by decide) ?_
  refine lv_ior hx hb dX0_flagsOf_57 ?_
  refine tp (y := 3) (by decide) ?_
  have hP9 := hP.sub (ws' := [(xd, .inr (0, [.ref l0, .ref z0, .int 4])), (z0, .inl (cZ, 8, .inl (gl [w0, 1, w2, w3, w4, w5, w6, w7])))]) [0, 1] rfl
  have hD9 := hD.sub (ws' := [(xd, .inr (0, [.ref l0, .ref z0, .int 4])), (z0, .inl (cZ, 8, .inl (gl [w0, 1, w2, w3, w4, w5, w6, w7])))]) [0, 1] (by decide) rfl
  exact W.iret (v := 3) hx hb hr (fun t ht hW => ⟨⟨3, (), rfl, rfl, by rw [ht]; exact hP9, va_K.moved hW.alike hK, hD9⟩, hS.F ht⟩) hS.2.2 dX0_flagsOf_58

set_option maxHeartbeats 4000000 in
set_option maxRecDepth 100000 in
theorem kkX0_lengthOf_42 (l : Launch) (dC : Nat → ClassId) (dI : Nat → Nat → Nat) (cI cB cZ cR : ClassId) (sz : Nat) (xd : Nat) (l0 : Nat) (z0 : Nat) (n0 : Int32) (n1 : Int32) (n2 : Int32) (n3 : Int32) (n4 : Int32) (n5 : Int32) (n6 : Int32) (n7 : Int32) : Met l yX0_lengthOf (.code yX0_lengthOf cX0_lengthOf 2 (some .int) :: wsL_law) ({ frames := 0, cells := 0, slots := 0, locals := 0 }) (zPc dC dI (zT cI cB cZ cR) [.ref xd, .int 2] sz [(xd, .inr (0, [.ref l0, .ref z0, .int 4])), (l0, .inl (cI, 8, .inl (gl [n0, n1, n2, n3, n4, n5, n6, n7])))]) (va_Qi (fun (r : Int32) (_ : Unit) => r = n2) (fun _ : Unit => zB dC dI (zT cI cB cZ cR) (va_A [(xd, .inr (0, [.ref l0, .ref z0, .int 4])), (l0, .inl (cI, 8, .inl (gl [n0, n1, n2, n3, n4, n5, n6, n7])))] sz) [(xd, .inr (0, [.ref l0, .ref z0, .int 4])), (l0, .inl (cI, 8, .inl (gl [n0, n1, n2, n3, n4, n5, n6, n7])))]) (va_A [(xd, .inr (0, [.ref l0, .ref z0, .int 4])), (l0, .inl (cI, 8, .inl (gl [n0, n1, n2, n3, n4, n5, n6, n7])))] sz)) 0 0 (va_A [(xd, .inr (0, [.ref l0, .ref z0, .int 4])), (l0, .inl (cI, 8, .inl (gl [n0, n1, n2, n3, n4, n5, n6, n7])))] sz) := by
  refine Met.ofW (cc := cX0_lengthOf) (maxL := 2) (ret := (some .int)) (by decide) rfl ?_
  intro p e s m args below meth c s₁ B hml hv
  obtain ⟨rfl, hsz, hP, hK, hD0, hN⟩ := hv
  have hx := B.exec
  have hb := B.bytes
  have hr := B.returns
  have hts := atoms_spec (ws := (.code yX0_lengthOf cX0_lengthOf 2 (some .int) :: wsL_law)) B.pre
  have hown : s.vm.findClass RX0 = some m.cls := findClass_of_methodNamed B.named
  have hlocks := B.notSynchronized
  have hinX0 : ∀ w ∈ u_ws RX0 TX0 3, w ∈ (.code yX0_lengthOf cX0_lengthOf 2 (some .int) :: wsL_law) := fun w h => List.mem_cons_of_mem _ (inlX0 w h)
  have k_0 := hts (.fieldLink RX0 19 "RingMarks$Chain" "size" "I") (List.mem_cons_of_mem _ wm_56)
  have k_1 := hts (.fieldLink RX0 11 "RingMarks$Chain" "lengths" "[I") (List.mem_cons_of_mem _ wm_53)
  subst hsz
  have hD := hD0.self (sz := s.heap.size)
  generalize hAe : va_A [(xd, .inr (0, [.ref l0, .ref z0, .int 4])), (l0, .inl (cI, 8, .inl (gl [n0, n1, n2, n3, n4, n5, n6, n7])))] s.heap.size = A at hD ⊢
  have hA : ∀ q : Nat, s.heap.size ≤ q → A q := fun q h => by rw [← hAe]; exact Or.inr h
  have hP : va_P (dC, dI) vwCl [(xd, .inr (0, [.ref l0, .ref z0, .int 4])), (l0, .inl (cI, 8, .inl (gl [n0, n1, n2, n3, n4, n5, n6, n7])))] s.heap := hP
  have hl := lv_entry ([.ref xd, .int 2]) (n := 2) (Nat.le_of_ble_eq_true rfl)
  rw [lg_entry_eq]
  generalize (lg_sl ([.ref xd, .int 2]) ++ List.replicate (2 - (lg_sl ([.ref xd, .int 2])).length) Slot.unset).toArray = ls at hl ⊢
  have hl : lv_has ls 2 [(0, .ref xd), (1, .int 2)] := hl
  obtain ⟨H, hH⟩ : ∃ H, H = s.heap := ⟨_, rfl⟩
  rw [← hH] at hP ⊢
  have hS : va_S A s.heap H [] := by rw [hH]; exact va_S.rf
  refine lv_iload_n hx hb dX0_lengthOf_0 rfl (lv_at hl 1 rfl) ?_
  refine lv_if_lt (tgt := 27) hx hb dX0_lengthOf_1 (by decide) (fun c => absurd c (by decide)) (fun _ => ?_)
  refine lv_iload_n hx hb dX0_lengthOf_4 rfl (lv_at hl 1 rfl) ?_
  refine lv_aload_n hx hb dX0_lengthOf_5 rfl (lv_at hl 0 rfl) ?_
  refine va_get (D := (dC, dI)) (ci := 0) (v := .int 4) (C := RX0) (T := TX0) (N := 3) hx hb hts hinX0 hown hK hP 0 rfl rfl 2 (by decide) k_0 (fun _ h9 => h9) rfl dX0_lengthOf_6 ?_
  refine lv_icmp_ge (tgt := 27) hx hb dX0_lengthOf_9 (by decide) (fun c => absurd c (by decide)) (fun _ => ?_)
  refine lv_iload_n hx hb dX0_lengthOf_12 rfl (lv_at hl 1 rfl) ?_
  refine lv_bipush (v := 8) hx hb dX0_lengthOf_13 (by decide) ?_
  refine lv_icmp_ge (tgt := 27) hx hb dX0_lengthOf_15 (by decide) (fun c => absurd c (by decide)) (fun _ => ?_)
  refine lv_aload_n hx hb dX0_lengthOf_18 rfl (lv_at hl 0 rfl) ?_
  refine va_get (D := (dC, dI)) (ci := 0) (v := .ref l0) (C := RX0) (T := TX0) (N := 3) hx hb hts hinX0 hown hK hP 0 rfl rfl 0 (by decide) k_1 (fun _ h9 => h9) rfl dX0_lengthOf_19 ?_
  refine lv_iload_n hx hb dX0_lengthOf_22 rfl (lv_at hl 1 rfl) ?_
  refine za_iald (v := n2) hx hb hK hP 1 0 rfl rfl (zin tn_2 (Nat.le_of_ble_eq_true rfl)) (zrd _ tn_2 rfl) dX0_lengthOf_23 ?_
  refine lv_goto (tgt := 28) hx hb dX0_lengthOf_24 (by decide) ?_
  have hP9 := hP.sub (ws' := [(xd, .inr (0, [.ref l0, .ref z0, .int 4])), (l0, .inl (cI, 8, .inl (gl [n0, n1, n2, n3, n4, n5, n6, n7])))]) [0, 1] rfl
  have hD9 := hD.sub (ws' := [(xd, .inr (0, [.ref l0, .ref z0, .int 4])), (l0, .inl (cI, 8, .inl (gl [n0, n1, n2, n3, n4, n5, n6, n7])))]) [0, 1] (by decide) rfl
  exact W.iret (v := n2) hx hb hr (fun t ht hW => ⟨⟨n2, (), rfl, rfl, by rw [ht]; exact hP9, va_K.moved hW.alike hK, hD9⟩, hS.F ht⟩) hS.2.2 dX0_lengthOf_28

set_option maxHeartbeats 4000000 in
set_option maxRecDepth 100000 in
theorem kkX0_flagsOf_420 (l : Launch) (dC : Nat → ClassId) (dI : Nat → Nat → Nat) (cI cB cZ cR : ClassId) (sz : Nat) (xd : Nat) (l0 : Nat) (z0 : Nat) (w0 : Int32) (w1 : Int32) (w3 : Int32) (w4 : Int32) (w5 : Int32) (w6 : Int32) (w7 : Int32) : Met l yX0_flagsOf (.code yX0_flagsOf cX0_flagsOf 3 (some .int) :: wsL_law) ({ frames := 0, cells := 0, slots := 0, locals := 0 }) (zPc dC dI (zT cI cB cZ cR) [.ref xd, .int 2] sz [(xd, .inr (0, [.ref l0, .ref z0, .int 4])), (z0, .inl (cZ, 8, .inl (gl [w0, w1, 0, w3, w4, w5, w6, w7])))]) (va_Qi (fun (r : Int32) (_ : Unit) => r = 1) (fun _ : Unit => zB dC dI (zT cI cB cZ cR) (va_A [(xd, .inr (0, [.ref l0, .ref z0, .int 4])), (z0, .inl (cZ, 8, .inl (gl [w0, w1, 0, w3, w4, w5, w6, w7])))] sz) [(xd, .inr (0, [.ref l0, .ref z0, .int 4])), (z0, .inl (cZ, 8, .inl (gl [w0, w1, 0, w3, w4, w5, w6, w7])))]) (va_A [(xd, .inr (0, [.ref l0, .ref z0, .int 4])), (z0, .inl (cZ, 8, .inl (gl [w0, w1, 0, w3, w4, w5, w6, w7])))] sz)) 0 0 (va_A [(xd, .inr (0, [.ref l0, .ref z0, .int 4])), (z0, .inl (cZ, 8, .inl (gl [w0, w1, 0, w3, w4, w5, w6, w7])))] sz) := by
  refine Met.ofW (cc := cX0_flagsOf) (maxL := 3) (ret := (some .int)) (by decide) rfl ?_
  intro p e s m args below meth c s₁ B hml hv
  obtain ⟨rfl, hsz, hP, hK, hD0, hN⟩ := hv
  have hx := B.exec
  have hb := B.bytes
  have hr := B.returns
  have hts := atoms_spec (ws := (.code yX0_flagsOf cX0_flagsOf 3 (some .int) :: wsL_law)) B.pre
  have hown : s.vm.findClass RX0 = some m.cls := findClass_of_methodNamed B.named
  have hlocks := B.notSynchronized
  have hinX0 : ∀ w ∈ u_ws RX0 TX0 3, w ∈ (.code yX0_flagsOf cX0_flagsOf 3 (some .int) :: wsL_law) := fun w h => List.mem_cons_of_mem _ (inlX0 w h)
  have k_0 := hts (.fieldLink RX0 19 "RingMarks$Chain" "size" "I") (List.mem_cons_of_mem _ wm_56)
  have k_1 := hts (.fieldLink RX0 15 "RingMarks$Chain" "writes" "[Z") (List.mem_cons_of_mem _ wm_55)
  subst hsz
  have hD := hD0.self (sz := s.heap.size)
  generalize hAe : va_A [(xd, .inr (0, [.ref l0, .ref z0, .int 4])), (z0, .inl (cZ, 8, .inl (gl [w0, w1, 0, w3, w4, w5, w6, w7])))] s.heap.size = A at hD ⊢
  have hA : ∀ q : Nat, s.heap.size ≤ q → A q := fun q h => by rw [← hAe]; exact Or.inr h
  have hP : va_P (dC, dI) vwCl [(xd, .inr (0, [.ref l0, .ref z0, .int 4])), (z0, .inl (cZ, 8, .inl (gl [w0, w1, 0, w3, w4, w5, w6, w7])))] s.heap := hP
  have hl := lv_entry ([.ref xd, .int 2]) (n := 3) (Nat.le_of_ble_eq_true rfl)
  rw [lg_entry_eq]
  generalize (lg_sl ([.ref xd, .int 2]) ++ List.replicate (3 - (lg_sl ([.ref xd, .int 2])).length) Slot.unset).toArray = ls at hl ⊢
  have hl : lv_has ls 3 [(0, .ref xd), (1, .int 2)] := hl
  obtain ⟨H, hH⟩ : ∃ H, H = s.heap := ⟨_, rfl⟩
  rw [← hH] at hP ⊢
  have hS : va_S A s.heap H [] := by rw [hH]; exact va_S.rf
  refine lv_iload_n hx hb dX0_flagsOf_0 rfl (lv_at hl 1 rfl) ?_
  refine lv_if_lt (tgt := 31) hx hb dX0_flagsOf_1 (by decide) (fun c => absurd c (by decide)) (fun _ => ?_)
  refine lv_iload_n hx hb dX0_flagsOf_4 rfl (lv_at hl 1 rfl) ?_
  refine lv_aload_n hx hb dX0_flagsOf_5 rfl (lv_at hl 0 rfl) ?_
  refine va_get (D := (dC, dI)) (ci := 0) (v := .int 4) (C := RX0) (T := TX0) (N := 3) hx hb hts hinX0 hown hK hP 0 rfl rfl 2 (by decide) k_0 (fun _ h9 => h9) rfl dX0_flagsOf_6 ?_
  refine lv_icmp_ge (tgt := 31) hx hb dX0_flagsOf_9 (by decide) (fun c => absurd c (by decide)) (fun _ => ?_)
  refine lv_iload_n hx hb dX0_flagsOf_12 rfl (lv_at hl 1 rfl) ?_
  refine lv_bipush (v := 8) hx hb dX0_flagsOf_13 (by decide) ?_
  refine lv_icmp_ge (tgt := 31) hx hb dX0_flagsOf_15 (by decide) (fun c => absurd c (by decide)) (fun _ => ?_)
  refine lv_aload_n hx hb dX0_flagsOf_18 rfl (lv_at hl 0 rfl) ?_
  refine va_get (D := (dC, dI)) (ci := 0) (v := .ref z0) (C := RX0) (T := TX0) (N := 3) hx hb hts hinX0 hown hK hP 0 rfl rfl 1 (by decide) k_1 (fun _ h9 => h9) rfl dX0_flagsOf_19 ?_
  refine lv_iload_n hx hb dX0_flagsOf_22 rfl (lv_at hl 1 rfl) ?_
  refine za_zald (v := 0) hx hb hK hP 1 2 rfl rfl (zin tn_2 (Nat.le_of_ble_eq_true rfl)) (zrd _ tn_2 rfl) dX0_flagsOf_23 ?_
  refine lv_if_eq (tgt := 31) hx hb dX0_flagsOf_24 (by decide) (fun _ => ?_) (fun c => absurd (by decide) c)
  refine lv_iconst (v := 0) hx hb dX0_flagsOf_31 (by decide) ?_
  refine lv_istore_n (lv' := [(2, .int 0), (0, .ref xd), (1, .int 2)]) hx hb dX0_flagsOf_32 rfl hl (by decide) rfl (fun ls hl => ?_)
  refine lv_iload_n hx hb dX0_flagsOf_33 rfl (lv_at hl 0 rfl) ?_
  refine lv_if_eq (tgt := 41) hx hb dX0_flagsOf_34 (by decide) (fun _ => ?_) (fun c => absurd (by decide) c)
  refine lv_iconst (v := 0) hx hb dX0_flagsOf_41 (by decide) ?_
  refine lv_iload_n hx hb dX0_flagsOf_42 rfl (lv_at hl 2 rfl) ?_
  refine lv_aload_n hx hb dX0_flagsOf_43 rfl (lv_at hl 1 rfl) ?_
  refine va_get (D := (dC, dI)) (ci := 0) (v := .int 4) (C := RX0) (T := TX0) (N := 3) hx hb hts hinX0 hown hK hP 0 rfl rfl 2 (by decide) k_0 (fun _ h9 => h9) rfl dX0_flagsOf_44 ?_
  refine lv_iconst (v := 1) hx hb dX0_flagsOf_47 (by decide) ?_
  refine lv_isub hx hb dX0_flagsOf_48 ?_
  refine tp (y := 3) (by decide) ?_
  refine lv_icmp_ge (tgt := 56) hx hb dX0_flagsOf_49 (by decide) (fun c => absurd c (by decide)) (fun _ => ?_)
  refine lv_iconst (v := 1) hx hb dX0_flagsOf_52 (by decide) ?_
  refine lv_goto (tgt := 57) hx hb dX0_flagsOf_53 (by decide) ?_
  refine lv_ior hx hb dX0_flagsOf_57 ?_
  refine tp (y := 1) (by decide) ?_
  have hP9 := hP.sub (ws' := [(xd, .inr (0, [.ref l0, .ref z0, .int 4])), (z0, .inl (cZ, 8, .inl (gl [w0, w1, 0, w3, w4, w5, w6, w7])))]) [0, 1] rfl
  have hD9 := hD.sub (ws' := [(xd, .inr (0, [.ref l0, .ref z0, .int 4])), (z0, .inl (cZ, 8, .inl (gl [w0, w1, 0, w3, w4, w5, w6, w7])))]) [0, 1] (by decide) rfl
  exact W.iret (v := 1) hx hb hr (fun t ht hW => ⟨⟨1, (), rfl, rfl, by rw [ht]; exact hP9, va_K.moved hW.alike hK, hD9⟩, hS.F ht⟩) hS.2.2 dX0_flagsOf_58

set_option maxHeartbeats 4000000 in
set_option maxRecDepth 100000 in
theorem kkX0_flagsOf_421 (l : Launch) (dC : Nat → ClassId) (dI : Nat → Nat → Nat) (cI cB cZ cR : ClassId) (sz : Nat) (xd : Nat) (l0 : Nat) (z0 : Nat) (w0 : Int32) (w1 : Int32) (w3 : Int32) (w4 : Int32) (w5 : Int32) (w6 : Int32) (w7 : Int32) : Met l yX0_flagsOf (.code yX0_flagsOf cX0_flagsOf 3 (some .int) :: wsL_law) ({ frames := 0, cells := 0, slots := 0, locals := 0 }) (zPc dC dI (zT cI cB cZ cR) [.ref xd, .int 2] sz [(xd, .inr (0, [.ref l0, .ref z0, .int 4])), (z0, .inl (cZ, 8, .inl (gl [w0, w1, 1, w3, w4, w5, w6, w7])))]) (va_Qi (fun (r : Int32) (_ : Unit) => r = 3) (fun _ : Unit => zB dC dI (zT cI cB cZ cR) (va_A [(xd, .inr (0, [.ref l0, .ref z0, .int 4])), (z0, .inl (cZ, 8, .inl (gl [w0, w1, 1, w3, w4, w5, w6, w7])))] sz) [(xd, .inr (0, [.ref l0, .ref z0, .int 4])), (z0, .inl (cZ, 8, .inl (gl [w0, w1, 1, w3, w4, w5, w6, w7])))]) (va_A [(xd, .inr (0, [.ref l0, .ref z0, .int 4])), (z0, .inl (cZ, 8, .inl (gl [w0, w1, 1, w3, w4, w5, w6, w7])))] sz)) 0 0 (va_A [(xd, .inr (0, [.ref l0, .ref z0, .int 4])), (z0, .inl (cZ, 8, .inl (gl [w0, w1, 1, w3, w4, w5, w6, w7])))] sz) := by
  refine Met.ofW (cc := cX0_flagsOf) (maxL := 3) (ret := (some .int)) (by decide) rfl ?_
  intro p e s m args below meth c s₁ B hml hv
  obtain ⟨rfl, hsz, hP, hK, hD0, hN⟩ := hv
  have hx := B.exec
  have hb := B.bytes
  have hr := B.returns
  have hts := atoms_spec (ws := (.code yX0_flagsOf cX0_flagsOf 3 (some .int) :: wsL_law)) B.pre
  have hown : s.vm.findClass RX0 = some m.cls := findClass_of_methodNamed B.named
  have hlocks := B.notSynchronized
  have hinX0 : ∀ w ∈ u_ws RX0 TX0 3, w ∈ (.code yX0_flagsOf cX0_flagsOf 3 (some .int) :: wsL_law) := fun w h => List.mem_cons_of_mem _ (inlX0 w h)
  have k_0 := hts (.fieldLink RX0 19 "RingMarks$Chain" "size" "I") (List.mem_cons_of_mem _ wm_56)
  have k_1 := hts (.fieldLink RX0 15 "RingMarks$Chain" "writes" "[Z") (List.mem_cons_of_mem _ wm_55)
  subst hsz
  have hD := hD0.self (sz := s.heap.size)
  generalize hAe : va_A [(xd, .inr (0, [.ref l0, .ref z0, .int 4])), (z0, .inl (cZ, 8, .inl (gl [w0, w1, 1, w3, w4, w5, w6, w7])))] s.heap.size = A at hD ⊢
  have hA : ∀ q : Nat, s.heap.size ≤ q → A q := fun q h => by rw [← hAe]; exact Or.inr h
  have hP : va_P (dC, dI) vwCl [(xd, .inr (0, [.ref l0, .ref z0, .int 4])), (z0, .inl (cZ, 8, .inl (gl [w0, w1, 1, w3, w4, w5, w6, w7])))] s.heap := hP
  have hl := lv_entry ([.ref xd, .int 2]) (n := 3) (Nat.le_of_ble_eq_true rfl)
  rw [lg_entry_eq]
  generalize (lg_sl ([.ref xd, .int 2]) ++ List.replicate (3 - (lg_sl ([.ref xd, .int 2])).length) Slot.unset).toArray = ls at hl ⊢
  have hl : lv_has ls 3 [(0, .ref xd), (1, .int 2)] := hl
  obtain ⟨H, hH⟩ : ∃ H, H = s.heap := ⟨_, rfl⟩
  rw [← hH] at hP ⊢
  have hS : va_S A s.heap H [] := by rw [hH]; exact va_S.rf
  refine lv_iload_n hx hb dX0_flagsOf_0 rfl (lv_at hl 1 rfl) ?_
  refine lv_if_lt (tgt := 31) hx hb dX0_flagsOf_1 (by decide) (fun c => absurd c (by decide)) (fun _ => ?_)
  refine lv_iload_n hx hb dX0_flagsOf_4 rfl (lv_at hl 1 rfl) ?_
  refine lv_aload_n hx hb dX0_flagsOf_5 rfl (lv_at hl 0 rfl) ?_
  refine va_get (D := (dC, dI)) (ci := 0) (v := .int 4) (C := RX0) (T := TX0) (N := 3) hx hb hts hinX0 hown hK hP 0 rfl rfl 2 (by decide) k_0 (fun _ h9 => h9) rfl dX0_flagsOf_6 ?_
  refine lv_icmp_ge (tgt := 31) hx hb dX0_flagsOf_9 (by decide) (fun c => absurd c (by decide)) (fun _ => ?_)
  refine lv_iload_n hx hb dX0_flagsOf_12 rfl (lv_at hl 1 rfl) ?_
  refine lv_bipush (v := 8) hx hb dX0_flagsOf_13 (by decide) ?_
  refine lv_icmp_ge (tgt := 31) hx hb dX0_flagsOf_15 (by decide) (fun c => absurd c (by decide)) (fun _ => ?_)
  refine lv_aload_n hx hb dX0_flagsOf_18 rfl (lv_at hl 0 rfl) ?_
  refine va_get (D := (dC, dI)) (ci := 0) (v := .ref z0) (C := RX0) (T := TX0) (N := 3) hx hb hts hinX0 hown hK hP 0 rfl rfl 1 (by decide) k_1 (fun _ h9 => h9) rfl dX0_flagsOf_19 ?_
  refine lv_iload_n hx hb dX0_flagsOf_22 rfl (lv_at hl 1 rfl) ?_
  refine za_zald (v := 1) hx hb hK hP 1 2 rfl rfl (zin tn_2 (Nat.le_of_ble_eq_true rfl)) (zrd _ tn_2 rfl) dX0_flagsOf_23 ?_
  refine lv_if_eq (tgt := 31) hx hb dX0_flagsOf_24 (by decide) (fun c => absurd c (by decide)) (fun _ => ?_)
  refine lv_iconst (v := 1) hx hb dX0_flagsOf_27 (by decide) ?_
  refine lv_goto (tgt := 32) hx hb dX0_flagsOf_28 (by decide) ?_
  refine lv_istore_n (lv' := [(2, .int 1), (0, .ref xd), (1, .int 2)]) hx hb dX0_flagsOf_32 rfl hl (by decide) rfl (fun ls hl => ?_)
  refine lv_iload_n hx hb dX0_flagsOf_33 rfl (lv_at hl 0 rfl) ?_
  refine lv_if_eq (tgt := 41) hx hb dX0_flagsOf_34 (by decide) (fun c => absurd c (by decide)) (fun _ => ?_)
  refine lv_iconst (v := 2) hx hb dX0_flagsOf_37 (by decide) ?_
  refine lv_goto (tgt := 42) hx hb dX0_flagsOf_38 (by decide) ?_
  refine lv_iload_n hx hb dX0_flagsOf_42 rfl (lv_at hl 2 rfl) ?_
  refine lv_aload_n hx hb dX0_flagsOf_43 rfl (lv_at hl 1 rfl) ?_
  refine va_get (D := (dC, dI)) (ci := 0) (v := .int 4) (C := RX0) (T := TX0) (N := 3) hx hb hts hinX0 hown hK hP 0 rfl rfl 2 (by decide) k_0 (fun _ h9 => h9) rfl dX0_flagsOf_44 ?_
  refine lv_iconst (v := 1) hx hb dX0_flagsOf_47 (by decide) ?_
  refine lv_isub hx hb dX0_flagsOf_48 ?_
  refine tp (y := 3) (by decide) ?_
  refine lv_icmp_ge (tgt := 56) hx hb dX0_flagsOf_49 (by decide) (fun c => absurd c (by decide)) (fun _ => ?_)
  refine lv_iconst (v := 1) hx hb dX0_flagsOf_52 (by decide) ?_
  refine lv_goto (tgt := 57) hx hb dX0_flagsOf_53 (by decide) ?_
  refine lv_ior hx hb dX0_flagsOf_57 ?_
  refine tp (y := 3) (by decide) ?_
  have hP9 := hP.sub (ws' := [(xd, .inr (0, [.ref l0, .ref z0, .int 4])), (z0, .inl (cZ, 8, .inl (gl [w0, w1, 1, w3, w4, w5, w6, w7])))]) [0, 1] rfl
  have hD9 := hD.sub (ws' := [(xd, .inr (0, [.ref l0, .ref z0, .int 4])), (z0, .inl (cZ, 8, .inl (gl [w0, w1, 1, w3, w4, w5, w6, w7])))]) [0, 1] (by decide) rfl
  exact W.iret (v := 3) hx hb hr (fun t ht hW => ⟨⟨3, (), rfl, rfl, by rw [ht]; exact hP9, va_K.moved hW.alike hK, hD9⟩, hS.F ht⟩) hS.2.2 dX0_flagsOf_58

set_option maxHeartbeats 4000000 in
set_option maxRecDepth 100000 in
theorem kkX0_lengthOf_43 (l : Launch) (dC : Nat → ClassId) (dI : Nat → Nat → Nat) (cI cB cZ cR : ClassId) (sz : Nat) (xd : Nat) (l0 : Nat) (z0 : Nat) (n0 : Int32) (n1 : Int32) (n2 : Int32) (n3 : Int32) (n4 : Int32) (n5 : Int32) (n6 : Int32) (n7 : Int32) : Met l yX0_lengthOf (.code yX0_lengthOf cX0_lengthOf 2 (some .int) :: wsL_law) ({ frames := 0, cells := 0, slots := 0, locals := 0 }) (zPc dC dI (zT cI cB cZ cR) [.ref xd, .int 3] sz [(xd, .inr (0, [.ref l0, .ref z0, .int 4])), (l0, .inl (cI, 8, .inl (gl [n0, n1, n2, n3, n4, n5, n6, n7])))]) (va_Qi (fun (r : Int32) (_ : Unit) => r = n3) (fun _ : Unit => zB dC dI (zT cI cB cZ cR) (va_A [(xd, .inr (0, [.ref l0, .ref z0, .int 4])), (l0, .inl (cI, 8, .inl (gl [n0, n1, n2, n3, n4, n5, n6, n7])))] sz) [(xd, .inr (0, [.ref l0, .ref z0, .int 4])), (l0, .inl (cI, 8, .inl (gl [n0, n1, n2, n3, n4, n5, n6, n7])))]) (va_A [(xd, .inr (0, [.ref l0, .ref z0, .int 4])), (l0, .inl (cI, 8, .inl (gl [n0, n1, n2, n3, n4, n5, n6, n7])))] sz)) 0 0 (va_A [(xd, .inr (0, [.ref l0, .ref z0, .int 4])), (l0, .inl (cI, 8, .inl (gl [n0, n1, n2, n3, n4, n5, n6, n7])))] sz) := by
  refine Met.ofW (cc := cX0_lengthOf) (maxL := 2) (ret := (some .int)) (by decide) rfl ?_
  intro p e s m args below meth c s₁ B hml hv
  obtain ⟨rfl, hsz, hP, hK, hD0, hN⟩ := hv
  have hx := B.exec
  have hb := B.bytes
  have hr := B.returns
  have hts := atoms_spec (ws := (.code yX0_lengthOf cX0_lengthOf 2 (some .int) :: wsL_law)) B.pre
  have hown : s.vm.findClass RX0 = some m.cls := findClass_of_methodNamed B.named
  have hlocks := B.notSynchronized
  have hinX0 : ∀ w ∈ u_ws RX0 TX0 3, w ∈ (.code yX0_lengthOf cX0_lengthOf 2 (some .int) :: wsL_law) := fun w h => List.mem_cons_of_mem _ (inlX0 w h)
  have k_0 := hts (.fieldLink RX0 19 "RingMarks$Chain" "size" "I") (List.mem_cons_of_mem _ wm_56)
  have k_1 := hts (.fieldLink RX0 11 "RingMarks$Chain" "lengths" "[I") (List.mem_cons_of_mem _ wm_53)
  subst hsz
  have hD := hD0.self (sz := s.heap.size)
  generalize hAe : va_A [(xd, .inr (0, [.ref l0, .ref z0, .int 4])), (l0, .inl (cI, 8, .inl (gl [n0, n1, n2, n3, n4, n5, n6, n7])))] s.heap.size = A at hD ⊢
  have hA : ∀ q : Nat, s.heap.size ≤ q → A q := fun q h => by rw [← hAe]; exact Or.inr h
  have hP : va_P (dC, dI) vwCl [(xd, .inr (0, [.ref l0, .ref z0, .int 4])), (l0, .inl (cI, 8, .inl (gl [n0, n1, n2, n3, n4, n5, n6, n7])))] s.heap := hP
  have hl := lv_entry ([.ref xd, .int 3]) (n := 2) (Nat.le_of_ble_eq_true rfl)
  rw [lg_entry_eq]
  generalize (lg_sl ([.ref xd, .int 3]) ++ List.replicate (2 - (lg_sl ([.ref xd, .int 3])).length) Slot.unset).toArray = ls at hl ⊢
  have hl : lv_has ls 2 [(0, .ref xd), (1, .int 3)] := hl
  obtain ⟨H, hH⟩ : ∃ H, H = s.heap := ⟨_, rfl⟩
  rw [← hH] at hP ⊢
  have hS : va_S A s.heap H [] := by rw [hH]; exact va_S.rf
  refine lv_iload_n hx hb dX0_lengthOf_0 rfl (lv_at hl 1 rfl) ?_
  refine lv_if_lt (tgt := 27) hx hb dX0_lengthOf_1 (by decide) (fun c => absurd c (by decide)) (fun _ => ?_)
  refine lv_iload_n hx hb dX0_lengthOf_4 rfl (lv_at hl 1 rfl) ?_
  refine lv_aload_n hx hb dX0_lengthOf_5 rfl (lv_at hl 0 rfl) ?_
  refine va_get (D := (dC, dI)) (ci := 0) (v := .int 4) (C := RX0) (T := TX0) (N := 3) hx hb hts hinX0 hown hK hP 0 rfl rfl 2 (by decide) k_0 (fun _ h9 => h9) rfl dX0_lengthOf_6 ?_
  refine lv_icmp_ge (tgt := 27) hx hb dX0_lengthOf_9 (by decide) (fun c => absurd c (by decide)) (fun _ => ?_)
  refine lv_iload_n hx hb dX0_lengthOf_12 rfl (lv_at hl 1 rfl) ?_
  refine lv_bipush (v := 8) hx hb dX0_lengthOf_13 (by decide) ?_
  refine lv_icmp_ge (tgt := 27) hx hb dX0_lengthOf_15 (by decide) (fun c => absurd c (by decide)) (fun _ => ?_)
  refine lv_aload_n hx hb dX0_lengthOf_18 rfl (lv_at hl 0 rfl) ?_
  refine va_get (D := (dC, dI)) (ci := 0) (v := .ref l0) (C := RX0) (T := TX0) (N := 3) hx hb hts hinX0 hown hK hP 0 rfl rfl 0 (by decide) k_1 (fun _ h9 => h9) rfl dX0_lengthOf_19 ?_
  refine lv_iload_n hx hb dX0_lengthOf_22 rfl (lv_at hl 1 rfl) ?_
  refine za_iald (v := n3) hx hb hK hP 1 0 rfl rfl (zin tn_3 (Nat.le_of_ble_eq_true rfl)) (zrd _ tn_3 rfl) dX0_lengthOf_23 ?_
  refine lv_goto (tgt := 28) hx hb dX0_lengthOf_24 (by decide) ?_
  have hP9 := hP.sub (ws' := [(xd, .inr (0, [.ref l0, .ref z0, .int 4])), (l0, .inl (cI, 8, .inl (gl [n0, n1, n2, n3, n4, n5, n6, n7])))]) [0, 1] rfl
  have hD9 := hD.sub (ws' := [(xd, .inr (0, [.ref l0, .ref z0, .int 4])), (l0, .inl (cI, 8, .inl (gl [n0, n1, n2, n3, n4, n5, n6, n7])))]) [0, 1] (by decide) rfl
  exact W.iret (v := n3) hx hb hr (fun t ht hW => ⟨⟨n3, (), rfl, rfl, by rw [ht]; exact hP9, va_K.moved hW.alike hK, hD9⟩, hS.F ht⟩) hS.2.2 dX0_lengthOf_28

set_option maxHeartbeats 4000000 in
set_option maxRecDepth 100000 in
theorem kkX0_flagsOf_430 (l : Launch) (dC : Nat → ClassId) (dI : Nat → Nat → Nat) (cI cB cZ cR : ClassId) (sz : Nat) (xd : Nat) (l0 : Nat) (z0 : Nat) (w0 : Int32) (w1 : Int32) (w2 : Int32) (w4 : Int32) (w5 : Int32) (w6 : Int32) (w7 : Int32) : Met l yX0_flagsOf (.code yX0_flagsOf cX0_flagsOf 3 (some .int) :: wsL_law) ({ frames := 0, cells := 0, slots := 0, locals := 0 }) (zPc dC dI (zT cI cB cZ cR) [.ref xd, .int 3] sz [(xd, .inr (0, [.ref l0, .ref z0, .int 4])), (z0, .inl (cZ, 8, .inl (gl [w0, w1, w2, 0, w4, w5, w6, w7])))]) (va_Qi (fun (r : Int32) (_ : Unit) => r = 0) (fun _ : Unit => zB dC dI (zT cI cB cZ cR) (va_A [(xd, .inr (0, [.ref l0, .ref z0, .int 4])), (z0, .inl (cZ, 8, .inl (gl [w0, w1, w2, 0, w4, w5, w6, w7])))] sz) [(xd, .inr (0, [.ref l0, .ref z0, .int 4])), (z0, .inl (cZ, 8, .inl (gl [w0, w1, w2, 0, w4, w5, w6, w7])))]) (va_A [(xd, .inr (0, [.ref l0, .ref z0, .int 4])), (z0, .inl (cZ, 8, .inl (gl [w0, w1, w2, 0, w4, w5, w6, w7])))] sz)) 0 0 (va_A [(xd, .inr (0, [.ref l0, .ref z0, .int 4])), (z0, .inl (cZ, 8, .inl (gl [w0, w1, w2, 0, w4, w5, w6, w7])))] sz) := by
  refine Met.ofW (cc := cX0_flagsOf) (maxL := 3) (ret := (some .int)) (by decide) rfl ?_
  intro p e s m args below meth c s₁ B hml hv
  obtain ⟨rfl, hsz, hP, hK, hD0, hN⟩ := hv
  have hx := B.exec
  have hb := B.bytes
  have hr := B.returns
  have hts := atoms_spec (ws := (.code yX0_flagsOf cX0_flagsOf 3 (some .int) :: wsL_law)) B.pre
  have hown : s.vm.findClass RX0 = some m.cls := findClass_of_methodNamed B.named
  have hlocks := B.notSynchronized
  have hinX0 : ∀ w ∈ u_ws RX0 TX0 3, w ∈ (.code yX0_flagsOf cX0_flagsOf 3 (some .int) :: wsL_law) := fun w h => List.mem_cons_of_mem _ (inlX0 w h)
  have k_0 := hts (.fieldLink RX0 19 "RingMarks$Chain" "size" "I") (List.mem_cons_of_mem _ wm_56)
  have k_1 := hts (.fieldLink RX0 15 "RingMarks$Chain" "writes" "[Z") (List.mem_cons_of_mem _ wm_55)
  subst hsz
  have hD := hD0.self (sz := s.heap.size)
  generalize hAe : va_A [(xd, .inr (0, [.ref l0, .ref z0, .int 4])), (z0, .inl (cZ, 8, .inl (gl [w0, w1, w2, 0, w4, w5, w6, w7])))] s.heap.size = A at hD ⊢
  have hA : ∀ q : Nat, s.heap.size ≤ q → A q := fun q h => by rw [← hAe]; exact Or.inr h
  have hP : va_P (dC, dI) vwCl [(xd, .inr (0, [.ref l0, .ref z0, .int 4])), (z0, .inl (cZ, 8, .inl (gl [w0, w1, w2, 0, w4, w5, w6, w7])))] s.heap := hP
  have hl := lv_entry ([.ref xd, .int 3]) (n := 3) (Nat.le_of_ble_eq_true rfl)
  rw [lg_entry_eq]
  generalize (lg_sl ([.ref xd, .int 3]) ++ List.replicate (3 - (lg_sl ([.ref xd, .int 3])).length) Slot.unset).toArray = ls at hl ⊢
  have hl : lv_has ls 3 [(0, .ref xd), (1, .int 3)] := hl
  obtain ⟨H, hH⟩ : ∃ H, H = s.heap := ⟨_, rfl⟩
  rw [← hH] at hP ⊢
  have hS : va_S A s.heap H [] := by rw [hH]; exact va_S.rf
  refine lv_iload_n hx hb dX0_flagsOf_0 rfl (lv_at hl 1 rfl) ?_
  refine lv_if_lt (tgt := 31) hx hb dX0_flagsOf_1 (by decide) (fun c => absurd c (by decide)) (fun _ => ?_)
  refine lv_iload_n hx hb dX0_flagsOf_4 rfl (lv_at hl 1 rfl) ?_
  refine lv_aload_n hx hb dX0_flagsOf_5 rfl (lv_at hl 0 rfl) ?_
  refine va_get (D := (dC, dI)) (ci := 0) (v := .int 4) (C := RX0) (T := TX0) (N := 3) hx hb hts hinX0 hown hK hP 0 rfl rfl 2 (by decide) k_0 (fun _ h9 => h9) rfl dX0_flagsOf_6 ?_
  refine lv_icmp_ge (tgt := 31) hx hb dX0_flagsOf_9 (by decide) (fun c => absurd c (by decide)) (fun _ => ?_)
  refine lv_iload_n hx hb dX0_flagsOf_12 rfl (lv_at hl 1 rfl) ?_
  refine lv_bipush (v := 8) hx hb dX0_flagsOf_13 (by decide) ?_
  refine lv_icmp_ge (tgt := 31) hx hb dX0_flagsOf_15 (by decide) (fun c => absurd c (by decide)) (fun _ => ?_)
  refine lv_aload_n hx hb dX0_flagsOf_18 rfl (lv_at hl 0 rfl) ?_
  refine va_get (D := (dC, dI)) (ci := 0) (v := .ref z0) (C := RX0) (T := TX0) (N := 3) hx hb hts hinX0 hown hK hP 0 rfl rfl 1 (by decide) k_1 (fun _ h9 => h9) rfl dX0_flagsOf_19 ?_
  refine lv_iload_n hx hb dX0_flagsOf_22 rfl (lv_at hl 1 rfl) ?_
  refine za_zald (v := 0) hx hb hK hP 1 2 rfl rfl (zin tn_3 (Nat.le_of_ble_eq_true rfl)) (zrd _ tn_3 rfl) dX0_flagsOf_23 ?_
  refine lv_if_eq (tgt := 31) hx hb dX0_flagsOf_24 (by decide) (fun _ => ?_) (fun c => absurd (by decide) c)
  refine lv_iconst (v := 0) hx hb dX0_flagsOf_31 (by decide) ?_
  refine lv_istore_n (lv' := [(2, .int 0), (0, .ref xd), (1, .int 3)]) hx hb dX0_flagsOf_32 rfl hl (by decide) rfl (fun ls hl => ?_)
  refine lv_iload_n hx hb dX0_flagsOf_33 rfl (lv_at hl 0 rfl) ?_
  refine lv_if_eq (tgt := 41) hx hb dX0_flagsOf_34 (by decide) (fun _ => ?_) (fun c => absurd (by decide) c)
  refine lv_iconst (v := 0) hx hb dX0_flagsOf_41 (by decide) ?_
  refine lv_iload_n hx hb dX0_flagsOf_42 rfl (lv_at hl 2 rfl) ?_
  refine lv_aload_n hx hb dX0_flagsOf_43 rfl (lv_at hl 1 rfl) ?_
  refine va_get (D := (dC, dI)) (ci := 0) (v := .int 4) (C := RX0) (T := TX0) (N := 3) hx hb hts hinX0 hown hK hP 0 rfl rfl 2 (by decide) k_0 (fun _ h9 => h9) rfl dX0_flagsOf_44 ?_
  refine lv_iconst (v := 1) hx hb dX0_flagsOf_47 (by decide) ?_
  refine lv_isub hx hb dX0_flagsOf_48 ?_
  refine tp (y := 3) (by decide) ?_
  refine lv_icmp_ge (tgt := 56) hx hb dX0_flagsOf_49 (by decide) (fun _ => ?_) (fun c => absurd (by decide) c)
  refine lv_iconst (v := 0) hx hb dX0_flagsOf_56 (by decide) ?_
  refine lv_ior hx hb dX0_flagsOf_57 ?_
  refine tp (y := 0) (by decide) ?_
  have hP9 := hP.sub (ws' := [(xd, .inr (0, [.ref l0, .ref z0, .int 4])), (z0, .inl (cZ, 8, .inl (gl [w0, w1, w2, 0, w4, w5, w6, w7])))]) [0, 1] rfl
  have hD9 := hD.sub (ws' := [(xd, .inr (0, [.ref l0, .ref z0, .int 4])), (z0, .inl (cZ, 8, .inl (gl [w0, w1, w2, 0, w4, w5, w6, w7])))]) [0, 1] (by decide) rfl
  exact W.iret (v := 0) hx hb hr (fun t ht hW => ⟨⟨0, (), rfl, rfl, by rw [ht]; exact hP9, va_K.moved hW.alike hK, hD9⟩, hS.F ht⟩) hS.2.2 dX0_flagsOf_58

set_option maxHeartbeats 4000000 in
set_option maxRecDepth 100000 in
theorem kkX0_flagsOf_431 (l : Launch) (dC : Nat → ClassId) (dI : Nat → Nat → Nat) (cI cB cZ cR : ClassId) (sz : Nat) (xd : Nat) (l0 : Nat) (z0 : Nat) (w0 : Int32) (w1 : Int32) (w2 : Int32) (w4 : Int32) (w5 : Int32) (w6 : Int32) (w7 : Int32) : Met l yX0_flagsOf (.code yX0_flagsOf cX0_flagsOf 3 (some .int) :: wsL_law) ({ frames := 0, cells := 0, slots := 0, locals := 0 }) (zPc dC dI (zT cI cB cZ cR) [.ref xd, .int 3] sz [(xd, .inr (0, [.ref l0, .ref z0, .int 4])), (z0, .inl (cZ, 8, .inl (gl [w0, w1, w2, 1, w4, w5, w6, w7])))]) (va_Qi (fun (r : Int32) (_ : Unit) => r = 2) (fun _ : Unit => zB dC dI (zT cI cB cZ cR) (va_A [(xd, .inr (0, [.ref l0, .ref z0, .int 4])), (z0, .inl (cZ, 8, .inl (gl [w0, w1, w2, 1, w4, w5, w6, w7])))] sz) [(xd, .inr (0, [.ref l0, .ref z0, .int 4])), (z0, .inl (cZ, 8, .inl (gl [w0, w1, w2, 1, w4, w5, w6, w7])))]) (va_A [(xd, .inr (0, [.ref l0, .ref z0, .int 4])), (z0, .inl (cZ, 8, .inl (gl [w0, w1, w2, 1, w4, w5, w6, w7])))] sz)) 0 0 (va_A [(xd, .inr (0, [.ref l0, .ref z0, .int 4])), (z0, .inl (cZ, 8, .inl (gl [w0, w1, w2, 1, w4, w5, w6, w7])))] sz) := by
  refine Met.ofW (cc := cX0_flagsOf) (maxL := 3) (ret := (some .int)) (by decide) rfl ?_
  intro p e s m args below meth c s₁ B hml hv
  obtain ⟨rfl, hsz, hP, hK, hD0, hN⟩ := hv
  have hx := B.exec
  have hb := B.bytes
  have hr := B.returns
  have hts := atoms_spec (ws := (.code yX0_flagsOf cX0_flagsOf 3 (some .int) :: wsL_law)) B.pre
  have hown : s.vm.findClass RX0 = some m.cls := findClass_of_methodNamed B.named
  have hlocks := B.notSynchronized
  have hinX0 : ∀ w ∈ u_ws RX0 TX0 3, w ∈ (.code yX0_flagsOf cX0_flagsOf 3 (some .int) :: wsL_law) := fun w h => List.mem_cons_of_mem _ (inlX0 w h)
  have k_0 := hts (.fieldLink RX0 19 "RingMarks$Chain" "size" "I") (List.mem_cons_of_mem _ wm_56)
  have k_1 := hts (.fieldLink RX0 15 "RingMarks$Chain" "writes" "[Z") (List.mem_cons_of_mem _ wm_55)
  subst hsz
  have hD := hD0.self (sz := s.heap.size)
  generalize hAe : va_A [(xd, .inr (0, [.ref l0, .ref z0, .int 4])), (z0, .inl (cZ, 8, .inl (gl [w0, w1, w2, 1, w4, w5, w6, w7])))] s.heap.size = A at hD ⊢
  have hA : ∀ q : Nat, s.heap.size ≤ q → A q := fun q h => by rw [← hAe]; exact Or.inr h
  have hP : va_P (dC, dI) vwCl [(xd, .inr (0, [.ref l0, .ref z0, .int 4])), (z0, .inl (cZ, 8, .inl (gl [w0, w1, w2, 1, w4, w5, w6, w7])))] s.heap := hP
  have hl := lv_entry ([.ref xd, .int 3]) (n := 3) (Nat.le_of_ble_eq_true rfl)
  rw [lg_entry_eq]
  generalize (lg_sl ([.ref xd, .int 3]) ++ List.replicate (3 - (lg_sl ([.ref xd, .int 3])).length) Slot.unset).toArray = ls at hl ⊢
  have hl : lv_has ls 3 [(0, .ref xd), (1, .int 3)] := hl
  obtain ⟨H, hH⟩ : ∃ H, H = s.heap := ⟨_, rfl⟩
  rw [← hH] at hP ⊢
  have hS : va_S A s.heap H [] := by rw [hH]; exact va_S.rf
  refine lv_iload_n hx hb dX0_flagsOf_0 rfl (lv_at hl 1 rfl) ?_
  refine lv_if_lt (tgt := 31) hx hb dX0_flagsOf_1 (by decide) (fun c => absurd c (by decide)) (fun _ => ?_)
  refine lv_iload_n hx hb dX0_flagsOf_4 rfl (lv_at hl 1 rfl) ?_
  refine lv_aload_n hx hb dX0_flagsOf_5 rfl (lv_at hl 0 rfl) ?_
  refine va_get (D := (dC, dI)) (ci := 0) (v := .int 4) (C := RX0) (T := TX0) (N := 3) hx hb hts hinX0 hown hK hP 0 rfl rfl 2 (by decide) k_0 (fun _ h9 => h9) rfl dX0_flagsOf_6 ?_
  refine lv_icmp_ge (tgt := 31) hx hb dX0_flagsOf_9 (by decide) (fun c => absurd c (by decide)) (fun _ => ?_)
  refine lv_iload_n hx hb dX0_flagsOf_12 rfl (lv_at hl 1 rfl) ?_
  refine lv_bipush (v := 8) hx hb dX0_flagsOf_13 (by decide) ?_
  refine lv_icmp_ge (tgt := 31) hx hb dX0_flagsOf_15 (by decide) (fun c => absurd c (by decide)) (fun _ => ?_)
  refine lv_aload_n hx hb dX0_flagsOf_18 rfl (lv_at hl 0 rfl) ?_
  refine va_get (D := (dC, dI)) (ci := 0) (v := .ref z0) (C := RX0) (T := TX0) (N := 3) hx hb hts hinX0 hown hK hP 0 rfl rfl 1 (by decide) k_1 (fun _ h9 => h9) rfl dX0_flagsOf_19 ?_
  refine lv_iload_n hx hb dX0_flagsOf_22 rfl (lv_at hl 1 rfl) ?_
  refine za_zald (v := 1) hx hb hK hP 1 2 rfl rfl (zin tn_3 (Nat.le_of_ble_eq_true rfl)) (zrd _ tn_3 rfl) dX0_flagsOf_23 ?_
  refine lv_if_eq (tgt := 31) hx hb dX0_flagsOf_24 (by decide) (fun c => absurd c (by decide)) (fun _ => ?_)
  refine lv_iconst (v := 1) hx hb dX0_flagsOf_27 (by decide) ?_
  refine lv_goto (tgt := 32) hx hb dX0_flagsOf_28 (by decide) ?_
  refine lv_istore_n (lv' := [(2, .int 1), (0, .ref xd), (1, .int 3)]) hx hb dX0_flagsOf_32 rfl hl (by decide) rfl (fun ls hl => ?_)
  refine lv_iload_n hx hb dX0_flagsOf_33 rfl (lv_at hl 0 rfl) ?_
  refine lv_if_eq (tgt := 41) hx hb dX0_flagsOf_34 (by decide) (fun c => absurd c (by decide)) (fun _ => ?_)
  refine lv_iconst (v := 2) hx hb dX0_flagsOf_37 (by decide) ?_
  refine lv_goto (tgt := 42) hx hb dX0_flagsOf_38 (by decide) ?_
  refine lv_iload_n hx hb dX0_flagsOf_42 rfl (lv_at hl 2 rfl) ?_
  refine lv_aload_n hx hb dX0_flagsOf_43 rfl (lv_at hl 1 rfl) ?_
  refine va_get (D := (dC, dI)) (ci := 0) (v := .int 4) (C := RX0) (T := TX0) (N := 3) hx hb hts hinX0 hown hK hP 0 rfl rfl 2 (by decide) k_0 (fun _ h9 => h9) rfl dX0_flagsOf_44 ?_
  refine lv_iconst (v := 1) hx hb dX0_flagsOf_47 (by decide) ?_
  refine lv_isub hx hb dX0_flagsOf_48 ?_
  refine tp (y := 3) (by decide) ?_
  refine lv_icmp_ge (tgt := 56) hx hb dX0_flagsOf_49 (by decide) (fun _ => ?_) (fun c => absurd (by decide) c)
  refine lv_iconst (v := 0) hx hb dX0_flagsOf_56 (by decide) ?_
  refine lv_ior hx hb dX0_flagsOf_57 ?_
  refine tp (y := 2) (by decide) ?_
  have hP9 := hP.sub (ws' := [(xd, .inr (0, [.ref l0, .ref z0, .int 4])), (z0, .inl (cZ, 8, .inl (gl [w0, w1, w2, 1, w4, w5, w6, w7])))]) [0, 1] rfl
  have hD9 := hD.sub (ws' := [(xd, .inr (0, [.ref l0, .ref z0, .int 4])), (z0, .inl (cZ, 8, .inl (gl [w0, w1, w2, 1, w4, w5, w6, w7])))]) [0, 1] (by decide) rfl
  exact W.iret (v := 2) hx hb hr (fun t ht hW => ⟨⟨2, (), rfl, rfl, by rw [ht]; exact hP9, va_K.moved hW.alike hK, hD9⟩, hS.F ht⟩) hS.2.2 dX0_flagsOf_58

theorem putB {fb : Nat → Int32} {b k : Nat} {w v : Int32} (hb : b < 500) (hk : k < 8) (hw : w = nI k) : pfX2_putBuffer_g_a6_f fb (nI b) w v = upd fb (8 * b + k) v := by
  subst hw
  unfold pfX2_putBuffer_g_a6_f
  rw [if_neg (nI_pos (by omega)), if_neg (nI_geL (n := 500) (by decide) (by decide) hb), if_neg (nI_pos (by omega)), if_neg (nI_geL (n := 8) (by decide) (by decide) hk)]
  rw [show (8 : Int32) = nI 8 by decide, pk_mul, nI_add, nI_clamp (by omega), Nat.mul_comm b 8]
theorem ofB {fb : Nat → Int32} {b k m : Nat} {w : Int32} (hm : b < m) (hb : b < 500) (hk : k < 8) (hw : w = nI k) (hm2 : m < 2 ^ 31) : pfX2_ofBuffer_g_r (nI m) fb (nI b) w = fb (8 * b + k) := by
  subst hw
  unfold pfX2_ofBuffer_g_r
  rw [if_neg (nI_pos (by omega)), if_neg (nI_ge hm hm2), if_neg (nI_geL (n := 500) (by decide) (by decide) hb), if_neg (nI_pos (by omega)), if_neg (nI_geL (n := 8) (by decide) (by decide) hk)]
  rw [show (8 : Int32) = nI 8 by decide, pk_mul, nI_add, nI_clamp (by omega), Nat.mul_comm b 8]
theorem ofBm {fb : Nat → Int32} {m : Int32} {w : Int32} : pfX2_ofBuffer_g_r m fb (-1) w = -1 := by
  unfold pfX2_ofBuffer_g_r
  rw [if_pos (by decide)]
theorem nb_u1 {fb : Nat → Int32} {b : Nat} {p3 : Int32} (hb : b < 500) : (pfX2_putBuffer_g_a6_f (pfX2_putBuffer_g_a6_f (pfX2_putBuffer_g_a6_f (pfX2_putBuffer_g_a6_f (pfX2_putBuffer_g_a6_f (pfX2_putBuffer_g_a6_f (pfX2_putBuffer_g_a6_f (pfX2_putBuffer_g_a6_f fb (nI b) 0 0) (nI b) 1 1) (nI b) 2 p3) (nI b) 3 (-1)) (nI b) 4 (-1)) (nI b) 5 (-1)) (nI b) 6 (-1)) (nI b) 7 1) = upd (upd (upd (upd (upd (upd (upd (upd fb (8 * b + 0) 0) (8 * b + 1) 1) (8 * b + 2) p3) (8 * b + 3) (-1)) (8 * b + 4) (-1)) (8 * b + 5) (-1)) (8 * b + 6) (-1)) (8 * b + 7) 1 := by
  rw [putB hb (k := 7) (by decide) (by decide), putB hb (k := 6) (by decide) (by decide), putB hb (k := 5) (by decide) (by decide), putB hb (k := 4) (by decide) (by decide), putB hb (k := 3) (by decide) (by decide), putB hb (k := 2) (by decide) (by decide), putB hb (k := 1) (by decide) (by decide), putB hb (k := 0) (by decide) (by decide)]
theorem nb_t1 {fb : Nat → Int32} {p1 p3 : Int32} (h0 : ¬ p1 < 0) (h1 : ¬ 500 ≤ p1) : pfX2_ofBuffer_g_r (p1 + 1) (pfX2_putBuffer_g_a6_f (pfX2_putBuffer_g_a6_f (pfX2_putBuffer_g_a6_f (pfX2_putBuffer_g_a6_f (pfX2_putBuffer_g_a6_f (pfX2_putBuffer_g_a6_f (pfX2_putBuffer_g_a6_f (pfX2_putBuffer_g_a6_f fb p1 0 0) p1 1 1) p1 2 p3) p1 3 (-1)) p1 4 (-1)) p1 5 (-1)) p1 6 (-1)) p1 7 1) p1 3 = -1 := by
  obtain ⟨b, hb, rfl⟩ := zof (n := 500) h0 h1 (by decide)
  rw [nb_u1 hb, nI_1, ofB (k := 3) (by omega) hb (by decide) (by decide) (by omega)]
  simp [upd]
theorem nb_u2 {fb : Nat → Int32} {b : Nat} {p3 : Int32} (hb : b < 500) : (pfX2_putBuffer_g_a6_f (pfX2_putBuffer_g_a6_f (pfX2_putBuffer_g_a6_f (pfX2_putBuffer_g_a6_f (pfX2_putBuffer_g_a6_f (pfX2_putBuffer_g_a6_f (pfX2_putBuffer_g_a6_f (pfX2_putBuffer_g_a6_f fb (nI b) 0 0) (nI b) 1 2) (nI b) 2 p3) (nI b) 3 (-1)) (nI b) 4 (-1)) (nI b) 5 (-1)) (nI b) 6 (-1)) (nI b) 7 2) = upd (upd (upd (upd (upd (upd (upd (upd fb (8 * b + 0) 0) (8 * b + 1) 2) (8 * b + 2) p3) (8 * b + 3) (-1)) (8 * b + 4) (-1)) (8 * b + 5) (-1)) (8 * b + 6) (-1)) (8 * b + 7) 2 := by
  rw [putB hb (k := 7) (by decide) (by decide), putB hb (k := 6) (by decide) (by decide), putB hb (k := 5) (by decide) (by decide), putB hb (k := 4) (by decide) (by decide), putB hb (k := 3) (by decide) (by decide), putB hb (k := 2) (by decide) (by decide), putB hb (k := 1) (by decide) (by decide), putB hb (k := 0) (by decide) (by decide)]
theorem nb_t2 {fb : Nat → Int32} {p1 p3 : Int32} (h0 : ¬ p1 < 0) (h1 : ¬ 500 ≤ p1) : pfX2_ofBuffer_g_r (p1 + 1) (pfX2_putBuffer_g_a6_f (pfX2_putBuffer_g_a6_f (pfX2_putBuffer_g_a6_f (pfX2_putBuffer_g_a6_f (pfX2_putBuffer_g_a6_f (pfX2_putBuffer_g_a6_f (pfX2_putBuffer_g_a6_f (pfX2_putBuffer_g_a6_f fb p1 0 0) p1 1 2) p1 2 p3) p1 3 (-1)) p1 4 (-1)) p1 5 (-1)) p1 6 (-1)) p1 7 2) p1 3 = -1 := by
  obtain ⟨b, hb, rfl⟩ := zof (n := 500) h0 h1 (by decide)
  rw [nb_u2 hb, nI_1, ofB (k := 3) (by omega) hb (by decide) (by decide) (by omega)]
  simp [upd]
theorem nb_u3 {fb : Nat → Int32} {b : Nat} {p3 : Int32} (hb : b < 500) : (pfX2_putBuffer_g_a6_f (pfX2_putBuffer_g_a6_f (pfX2_putBuffer_g_a6_f (pfX2_putBuffer_g_a6_f (pfX2_putBuffer_g_a6_f (pfX2_putBuffer_g_a6_f (pfX2_putBuffer_g_a6_f (pfX2_putBuffer_g_a6_f fb (nI b) 0 0) (nI b) 1 3) (nI b) 2 p3) (nI b) 3 (-1)) (nI b) 4 (-1)) (nI b) 5 (-1)) (nI b) 6 (-1)) (nI b) 7 3) = upd (upd (upd (upd (upd (upd (upd (upd fb (8 * b + 0) 0) (8 * b + 1) 3) (8 * b + 2) p3) (8 * b + 3) (-1)) (8 * b + 4) (-1)) (8 * b + 5) (-1)) (8 * b + 6) (-1)) (8 * b + 7) 3 := by
  rw [putB hb (k := 7) (by decide) (by decide), putB hb (k := 6) (by decide) (by decide), putB hb (k := 5) (by decide) (by decide), putB hb (k := 4) (by decide) (by decide), putB hb (k := 3) (by decide) (by decide), putB hb (k := 2) (by decide) (by decide), putB hb (k := 1) (by decide) (by decide), putB hb (k := 0) (by decide) (by decide)]
theorem nb_t3 {fb : Nat → Int32} {p1 p3 : Int32} (h0 : ¬ p1 < 0) (h1 : ¬ 500 ≤ p1) : pfX2_ofBuffer_g_r (p1 + 1) (pfX2_putBuffer_g_a6_f (pfX2_putBuffer_g_a6_f (pfX2_putBuffer_g_a6_f (pfX2_putBuffer_g_a6_f (pfX2_putBuffer_g_a6_f (pfX2_putBuffer_g_a6_f (pfX2_putBuffer_g_a6_f (pfX2_putBuffer_g_a6_f fb p1 0 0) p1 1 3) p1 2 p3) p1 3 (-1)) p1 4 (-1)) p1 5 (-1)) p1 6 (-1)) p1 7 3) p1 3 = -1 := by
  obtain ⟨b, hb, rfl⟩ := zof (n := 500) h0 h1 (by decide)
  rw [nb_u3 hb, nI_1, ofB (k := 3) (by omega) hb (by decide) (by decide) (by omega)]
  simp [upd]
theorem nb_u4 {fb : Nat → Int32} {b : Nat} {p3 : Int32} (hb : b < 500) : (pfX2_putBuffer_g_a6_f (pfX2_putBuffer_g_a6_f (pfX2_putBuffer_g_a6_f (pfX2_putBuffer_g_a6_f (pfX2_putBuffer_g_a6_f (pfX2_putBuffer_g_a6_f (pfX2_putBuffer_g_a6_f (pfX2_putBuffer_g_a6_f fb (nI b) 0 0) (nI b) 1 4) (nI b) 2 p3) (nI b) 3 (-1)) (nI b) 4 (-1)) (nI b) 5 (-1)) (nI b) 6 (-1)) (nI b) 7 4) = upd (upd (upd (upd (upd (upd (upd (upd fb (8 * b + 0) 0) (8 * b + 1) 4) (8 * b + 2) p3) (8 * b + 3) (-1)) (8 * b + 4) (-1)) (8 * b + 5) (-1)) (8 * b + 6) (-1)) (8 * b + 7) 4 := by
  rw [putB hb (k := 7) (by decide) (by decide), putB hb (k := 6) (by decide) (by decide), putB hb (k := 5) (by decide) (by decide), putB hb (k := 4) (by decide) (by decide), putB hb (k := 3) (by decide) (by decide), putB hb (k := 2) (by decide) (by decide), putB hb (k := 1) (by decide) (by decide), putB hb (k := 0) (by decide) (by decide)]
theorem nb_t4 {fb : Nat → Int32} {p1 p3 : Int32} (h0 : ¬ p1 < 0) (h1 : ¬ 500 ≤ p1) : pfX2_ofBuffer_g_r (p1 + 1) (pfX2_putBuffer_g_a6_f (pfX2_putBuffer_g_a6_f (pfX2_putBuffer_g_a6_f (pfX2_putBuffer_g_a6_f (pfX2_putBuffer_g_a6_f (pfX2_putBuffer_g_a6_f (pfX2_putBuffer_g_a6_f (pfX2_putBuffer_g_a6_f fb p1 0 0) p1 1 4) p1 2 p3) p1 3 (-1)) p1 4 (-1)) p1 5 (-1)) p1 6 (-1)) p1 7 4) p1 3 = -1 := by
  obtain ⟨b, hb, rfl⟩ := zof (n := 500) h0 h1 (by decide)
  rw [nb_u4 hb, nI_1, ofB (k := 3) (by omega) hb (by decide) (by decide) (by omega)]
  simp [upd]
