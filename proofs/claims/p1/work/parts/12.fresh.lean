def pfX2_tellEvent_0_r (p1 : Int32) (p2 : Int32) : Int32 := if p1 = 0 then (if p2 < 0 then (-1) else (if p2 < 16 then ((0 + p2) &&& 15) else (-1))) else (if p1 = 1 then (if p2 < 0 then (-1) else (if p2 < 16 then ((0 + p2) &&& 15) else (-1))) else (-1))
def pfX2_tellEvent_0_a0_10 (p1 : Int32) (p2 : Int32) : Int32 := if p1 = 0 then 0 else (if p1 = 1 then (if p2 < 0 then 0 else (if p2 < 16 then ((0 + p2) &&& 15) else 0)) else 0)
def pfX2_tellEvent_0_a0_11 (p1 : Int32) (p2 : Int32) : Int32 := if p1 = 0 then (if p2 < 0 then 0 else (if p2 < 16 then ((0 + p2) &&& 15) else 0)) else 0
set_option maxHeartbeats 4000000 in
set_option maxRecDepth 100000 in
theorem kkX2_tellEvent_0 (l : Launch) (dC : Nat → ClassId) (dI : Nat → Nat → Nat) (cI cB cZ cR : ClassId) (sz : Nat) (h : Nat) (a0 : Nat) (a1 : Nat) (a2 : Nat) (a3 : Nat) (a4 : Nat) (a5 : Nat) (a6 : Nat) (p1 : Int32) (p2 : Int32) : Met l yX2_tellEvent (.code yX2_tellEvent cX2_tellEvent 4 (some .int) :: wsL_law) ({ frames := 1, cells := 0, slots := 0, locals := 22 }) (zPc dC dI (zT cI cB cZ cR) [.ref h, .int p1, .int p2] sz [(h, .inr (2, [.ref a0, .ref a1, .ref a2, .ref a3, .ref a4, .ref a5, .ref a6])), (a0, .inl (cI, 22, .inl (gl [0, 0, 0, 0, 4, 0, 0, 0, 0, 0, 0, 0, (-1), (-1), 0, 0, 0, 0, 0, 4, 0, 16])))]) (va_Qi (fun (r : Int32) (_ : Unit) => r = (pfX2_tellEvent_0_r p1 p2)) (fun _ : Unit => zB dC dI (zT cI cB cZ cR) (va_A [(h, .inr (2, [.ref a0, .ref a1, .ref a2, .ref a3, .ref a4, .ref a5, .ref a6])), (a0, .inl (cI, 22, .inl (gl [0, 0, 0, 0, 4, 0, 0, 0, 0, 0, 0, 0, (-1), (-1), 0, 0, 0, 0, 0, 4, 0, 16])))] sz) [(h, .inr (2, [.ref a0, .ref a1, .ref a2, .ref a3, .ref a4, .ref a5, .ref a6])), (a0, .inl (cI, 22, .inl (gl [0, 0, 0, 0, 4, 0, 0, 0, 0, 0, (pfX2_tellEvent_0_a0_10 p1 p2), (pfX2_tellEvent_0_a0_11 p1 p2), (-1), (-1), 0, 0, 0, 0, 0, 4, 0, 16])))]) (va_A [(h, .inr (2, [.ref a0, .ref a1, .ref a2, .ref a3, .ref a4, .ref a5, .ref a6])), (a0, .inl (cI, 22, .inl (gl [0, 0, 0, 0, 4, 0, 0, 0, 0, 0, 0, 0, (-1), (-1), 0, 0, 0, 0, 0, 4, 0, 16])))] sz)) 0 0 (va_A [(h, .inr (2, [.ref a0, .ref a1, .ref a2, .ref a3, .ref a4, .ref a5, .ref a6])), (a0, .inl (cI, 22, .inl (gl [0, 0, 0, 0, 4, 0, 0, 0, 0, 0, 0, 0, (-1), (-1), 0, 0, 0, 0, 0, 4, 0, 16])))] sz) := by
  refine Met.ofW (cc := cX2_tellEvent) (maxL := 4) (ret := (some .int)) (by decide) rfl ?_
  intro p e s m args below meth c s₁ B hml hv
  obtain ⟨rfl, hsz, hP, hK, hD0, hN⟩ := hv
  have hx := B.exec
  have hb := B.bytes
  have hr := B.returns
  have hts := atoms_spec (ws := (.code yX2_tellEvent cX2_tellEvent 4 (some .int) :: wsL_law)) B.pre
  have hown : s.vm.findClass RX2 = some m.cls := findClass_of_methodNamed B.named
  have hlocks := B.notSynchronized
  have hinX2 : ∀ w ∈ u_ws RX2 TX2 7, w ∈ (.code yX2_tellEvent cX2_tellEvent 4 (some .int) :: wsL_law) := fun w h => List.mem_cons_of_mem _ (inlX2 w h)
  have k_0 := hts (.fieldLink RX2 11 "RingMarks$Ring" "marks" "[I") (List.mem_cons_of_mem _ wm_61)
  subst hsz
  have hD := hD0.self (sz := s.heap.size)
  generalize hAe : va_A [(h, .inr (2, [.ref a0, .ref a1, .ref a2, .ref a3, .ref a4, .ref a5, .ref a6])), (a0, .inl (cI, 22, .inl (gl [0, 0, 0, 0, 4, 0, 0, 0, 0, 0, 0, 0, (-1), (-1), 0, 0, 0, 0, 0, 4, 0, 16])))] s.heap.size = A at hD ⊢
  have hA : ∀ q : Nat, s.heap.size ≤ q → A q := fun q h => by rw [← hAe]; exact Or.inr h
  have hP : va_P (dC, dI) vwCl [(h, .inr (2, [.ref a0, .ref a1, .ref a2, .ref a3, .ref a4, .ref a5, .ref a6])), (a0, .inl (cI, 22, .inl (gl [0, 0, 0, 0, 4, 0, 0, 0, 0, 0, 0, 0, (-1), (-1), 0, 0, 0, 0, 0, 4, 0, 16])))] s.heap := hP
  have hl := lv_entry ([.ref h, .int p1, .int p2]) (n := 4) (Nat.le_of_ble_eq_true rfl)
  rw [lg_entry_eq]
  generalize (lg_sl ([.ref h, .int p1, .int p2]) ++ List.replicate (4 - (lg_sl ([.ref h, .int p1, .int p2])).length) Slot.unset).toArray = ls at hl ⊢
  have hl : lv_has ls 4 [(0, .ref h), (1, .int p1), (2, .int p2)] := hl
  obtain ⟨H, hH⟩ : ∃ H, H = s.heap := ⟨_, rfl⟩
  rw [← hH] at hP ⊢
  have hS : va_S A s.heap H [] := by rw [hH]; exact va_S.rf
  refine lv_iload_n hx hb dX2_tellEvent_0 rfl (lv_at hl 1 rfl) ?_
  refine lv_if_eq (tgt := 9) hx hb dX2_tellEvent_1 (by decide) (fun c_1 => ?_) (fun c_1 => ?_)
  · refine lv_iload_n hx hb dX2_tellEvent_9 rfl (lv_at hl 2 rfl) ?_
    refine lv_if_lt (tgt := 21) hx hb dX2_tellEvent_10 (by decide) (fun c_2 => ?_) (fun c_2 => ?_)
    · refine lv_iconst (v := (-1)) hx hb dX2_tellEvent_21 (by decide) ?_
      have e_0 : (pfX2_tellEvent_0_r p1 p2) = (-1) := by rw [pfX2_tellEvent_0_r, if_pos c_1, if_pos c_2]
      have e_1 : (pfX2_tellEvent_0_a0_10 p1 p2) = 0 := by rw [pfX2_tellEvent_0_a0_10, if_pos c_1]
      have e_2 : (pfX2_tellEvent_0_a0_11 p1 p2) = 0 := by rw [pfX2_tellEvent_0_a0_11, if_pos c_1, if_pos c_2]
      have hP9 := hP.sub (ws' := [(h, .inr (2, [.ref a0, .ref a1, .ref a2, .ref a3, .ref a4, .ref a5, .ref a6])), (a0, .inl (cI, 22, .inl (gl [0, 0, 0, 0, 4, 0, 0, 0, 0, 0, 0, 0, (-1), (-1), 0, 0, 0, 0, 0, 4, 0, 16])))]) [0, 1] rfl
      have hD9 := hD.sub (ws' := [(h, .inr (2, [.ref a0, .ref a1, .ref a2, .ref a3, .ref a4, .ref a5, .ref a6])), (a0, .inl (cI, 22, .inl (gl [0, 0, 0, 0, 4, 0, 0, 0, 0, 0, 0, 0, (-1), (-1), 0, 0, 0, 0, 0, 4, 0, 16])))]) [0, 1] (by decide) rfl
      exact W.iret (v := (-1)) hx hb hr (fun t ht hW => ⟨⟨(-1), (), rfl, e_0.symm, by rw [ht, e_1, e_2]; exact hP9, va_K.moved hW.alike hK, (by rw [e_1, e_2]; exact hD9)⟩, hS.F ht⟩) hS.2.2 dX2_tellEvent_22
    · refine lv_iload_n hx hb dX2_tellEvent_13 rfl (lv_at hl 2 rfl) ?_
      refine lv_aload_n hx hb dX2_tellEvent_14 rfl (lv_at hl 0 rfl) ?_
      refine zcVi (As := []) (rest := [.int p2]) (wr := []) ⟨hx, hb, hml, hown, hts⟩ (kkX2_wrapsAt l dC dI cI cB cZ cR H.size h a0 a1 a2 a3 a4 a5 a6 0 0 0 0 4 0 0 0 0 0 0 0 (-1) (-1) 0 0 0 0 ) (cwV 0 hts (zgV wm_652 wm_653 wm_654 wm_22 wm_655) rfl rfl rfl (by decide +kernel) ⟨Nat.le_of_ble_eq_true rfl, Nat.le_of_ble_eq_true rfl⟩) hN hK hP hD hS hA [0, 1] [] rfl rfl ⟨rfl, rfl⟩ (by decide) (ci := 2) rfl rfl rfl rfl hl.1 rfl (Nat.le_of_ble_eq_true rfl) dX2_tellEvent_15 ⟨Nat.le_of_ble_eq_true rfl, Nat.le_of_ble_eq_true rfl⟩ (fun r u hu H locs hP hD hS => ?_)
      have hu : r = 16 := hu
      subst hu
      have hP : va_P (dC, dI) vwCl [(h, .inr (2, [.ref a0, .ref a1, .ref a2, .ref a3, .ref a4, .ref a5, .ref a6])), (a0, .inl (cI, 22, .inl (gl [0, 0, 0, 0, 4, 0, 0, 0, 0, 0, 0, 0, (-1), (-1), 0, 0, 0, 0, 0, 4, 0, 16])))] H := hP
      have hD : va_D A [(h, .inr (2, [.ref a0, .ref a1, .ref a2, .ref a3, .ref a4, .ref a5, .ref a6])), (a0, .inl (cI, 22, .inl (gl [0, 0, 0, 0, 4, 0, 0, 0, 0, 0, 0, 0, (-1), (-1), 0, 0, 0, 0, 0, 4, 0, 16])))] := hD
      refine lv_icmp_lt (tgt := 23) hx hb dX2_tellEvent_18 (by decide) (fun c_3 => ?_) (fun c_3 => ?_)
      · refine lv_aload_n hx hb dX2_tellEvent_23 rfl (lv_at hl 0 rfl) ?_
        refine lv_iload_n hx hb dX2_tellEvent_24 rfl (lv_at hl 1 rfl) ?_
        refine lv_iconst (v := 1) hx hb dX2_tellEvent_25 (by decide) ?_
        refine lv_icmp_ne (tgt := 38) hx hb dX2_tellEvent_26 (by decide) (fun _ => ?_) (fun c => absurd c (by rw [c_1]; decide))
        refine lv_aload_n hx hb dX2_tellEvent_38 rfl (lv_at hl 0 rfl) ?_
        refine va_get (D := (dC, dI)) (ci := 2) (v := .ref a0) (C := RX2) (T := TX2) (N := 7) hx hb hts hinX2 hown hK hP 0 rfl rfl 0 (by decide) k_0 (fun _ h9 => h9) rfl dX2_tellEvent_39 ?_
        refine lv_iconst (v := 3) hx hb dX2_tellEvent_42 (by decide) ?_
        refine za_iald (v := 0) hx hb hK hP 1 0 rfl rfl (zin tn_3 (Nat.le_of_ble_eq_true rfl)) (zrd _ tn_3 rfl) dX2_tellEvent_43 ?_
        refine lv_iload_n hx hb dX2_tellEvent_44 rfl (lv_at hl 2 rfl) ?_
        refine zcVi (As := [.int 0, .int p2]) (rest := []) (wr := []) ⟨hx, hb, hml, hown, hts⟩ (kkX2_moved l dC dI cI cB cZ cR H.size h a0 a1 a2 a3 a4 a5 a6 0 0 0 0 4 0 0 0 0 0 0 0 (-1) (-1) 0 0 0 0 0 p2 ) (cwV 2 hts (zgV wm_302 wm_303 wm_304 wm_22 wm_305) rfl rfl rfl (by decide +kernel) ⟨Nat.le_of_ble_eq_true rfl, Nat.le_of_ble_eq_true rfl⟩) hN hK hP hD hS hA [0, 1] [] rfl rfl ⟨rfl, rfl⟩ (by decide) (ci := 2) rfl rfl rfl rfl hl.1 rfl (Nat.le_of_ble_eq_true rfl) dX2_tellEvent_45 ⟨Nat.le_of_ble_eq_true rfl, Nat.le_of_ble_eq_true rfl⟩ (fun r u hu H locs hP hD hS => ?_)
        have hu : r = ((0 + p2) &&& 15) := hu
        subst hu
        have hP : va_P (dC, dI) vwCl [(h, .inr (2, [.ref a0, .ref a1, .ref a2, .ref a3, .ref a4, .ref a5, .ref a6])), (a0, .inl (cI, 22, .inl (gl [0, 0, 0, 0, 4, 0, 0, 0, 0, 0, 0, 0, (-1), (-1), 0, 0, 0, 0, 0, 4, 0, 16])))] H := hP
        have hD : va_D A [(h, .inr (2, [.ref a0, .ref a1, .ref a2, .ref a3, .ref a4, .ref a5, .ref a6])), (a0, .inl (cI, 22, .inl (gl [0, 0, 0, 0, 4, 0, 0, 0, 0, 0, 0, 0, (-1), (-1), 0, 0, 0, 0, 0, 4, 0, 16])))] := hD
        refine lv_istore_n (lv' := [(3, .int ((0 + p2) &&& 15)), (0, .ref h), (1, .int p1), (2, .int p2)]) hx hb dX2_tellEvent_48 rfl hl (by decide) rfl (fun ls hl => ?_)
        refine lv_aload_n hx hb dX2_tellEvent_49 rfl (lv_at hl 1 rfl) ?_
        refine va_get (D := (dC, dI)) (ci := 2) (v := .ref a0) (C := RX2) (T := TX2) (N := 7) hx hb hts hinX2 hown hK hP 0 rfl rfl 0 (by decide) k_0 (fun _ h9 => h9) rfl dX2_tellEvent_50 ?_
        refine lv_iload_n hx hb dX2_tellEvent_53 rfl (lv_at hl 2 rfl) ?_
        refine lv_iconst (v := 1) hx hb dX2_tellEvent_54 (by decide) ?_
        refine lv_icmp_ne (tgt := 63) hx hb dX2_tellEvent_55 (by decide) (fun _ => ?_) (fun c => absurd c (by rw [c_1]; decide))
        refine lv_bipush (v := 11) hx hb dX2_tellEvent_63 (by decide) ?_
        refine lv_iload_n hx hb dX2_tellEvent_65 rfl (lv_at hl 0 rfl) ?_
        refine za_iast (f' := (gl [0, 0, 0, 0, 4, 0, 0, 0, 0, 0, 0, ((0 + p2) &&& 15), (-1), (-1), 0, 0, 0, 0, 0, 4, 0, 16])) hx hb hK hP hD hS 1 0 rfl rfl (zin tn_11 (Nat.le_of_ble_eq_true rfl)) (zup_gl tn_11 (Nat.le_of_ble_eq_true rfl) rfl) dX2_tellEvent_66 (fun H locs hP hD hS => ?_)
        have hP : va_P (dC, dI) vwCl [(h, .inr (2, [.ref a0, .ref a1, .ref a2, .ref a3, .ref a4, .ref a5, .ref a6])), (a0, .inl (cI, 22, .inl (gl [0, 0, 0, 0, 4, 0, 0, 0, 0, 0, 0, ((0 + p2) &&& 15), (-1), (-1), 0, 0, 0, 0, 0, 4, 0, 16])))] H := hP
        have hD : va_D A [(h, .inr (2, [.ref a0, .ref a1, .ref a2, .ref a3, .ref a4, .ref a5, .ref a6])), (a0, .inl (cI, 22, .inl (gl [0, 0, 0, 0, 4, 0, 0, 0, 0, 0, 0, ((0 + p2) &&& 15), (-1), (-1), 0, 0, 0, 0, 0, 4, 0, 16])))] := hD
        refine lv_iload_n hx hb dX2_tellEvent_67 rfl (lv_at hl 0 rfl) ?_
        have e_0 : (pfX2_tellEvent_0_r p1 p2) = ((0 + p2) &&& 15) := by rw [pfX2_tellEvent_0_r, if_pos c_1, if_neg c_2, if_pos c_3]
        have e_1 : (pfX2_tellEvent_0_a0_10 p1 p2) = 0 := by rw [pfX2_tellEvent_0_a0_10, if_pos c_1]
        have e_2 : (pfX2_tellEvent_0_a0_11 p1 p2) = ((0 + p2) &&& 15) := by rw [pfX2_tellEvent_0_a0_11, if_pos c_1, if_neg c_2, if_pos c_3]
        have hP9 := hP.sub (ws' := [(h, .inr (2, [.ref a0, .ref a1, .ref a2, .ref a3, .ref a4, .ref a5, .ref a6])), (a0, .inl (cI, 22, .inl (gl [0, 0, 0, 0, 4, 0, 0, 0, 0, 0, 0, ((0 + p2) &&& 15), (-1), (-1), 0, 0, 0, 0, 0, 4, 0, 16])))]) [0, 1] rfl
        have hD9 := hD.sub (ws' := [(h, .inr (2, [.ref a0, .ref a1, .ref a2, .ref a3, .ref a4, .ref a5, .ref a6])), (a0, .inl (cI, 22, .inl (gl [0, 0, 0, 0, 4, 0, 0, 0, 0, 0, 0, ((0 + p2) &&& 15), (-1), (-1), 0, 0, 0, 0, 0, 4, 0, 16])))]) [0, 1] (by decide) rfl
        exact W.iret (v := ((0 + p2) &&& 15)) hx hb hr (fun t ht hW => ⟨⟨((0 + p2) &&& 15), (), rfl, e_0.symm, by rw [ht, e_1, e_2]; exact hP9, va_K.moved hW.alike hK, (by rw [e_1, e_2]; exact hD9)⟩, hS.F ht⟩) hS.2.2 dX2_tellEvent_68
      · refine lv_iconst (v := (-1)) hx hb dX2_tellEvent_21 (by decide) ?_
        have e_0 : (pfX2_tellEvent_0_r p1 p2) = (-1) := by rw [pfX2_tellEvent_0_r, if_pos c_1, if_neg c_2, if_neg c_3]
        have e_1 : (pfX2_tellEvent_0_a0_10 p1 p2) = 0 := by rw [pfX2_tellEvent_0_a0_10, if_pos c_1]
        have e_2 : (pfX2_tellEvent_0_a0_11 p1 p2) = 0 := by rw [pfX2_tellEvent_0_a0_11, if_pos c_1, if_neg c_2, if_neg c_3]
        have hP9 := hP.sub (ws' := [(h, .inr (2, [.ref a0, .ref a1, .ref a2, .ref a3, .ref a4, .ref a5, .ref a6])), (a0, .inl (cI, 22, .inl (gl [0, 0, 0, 0, 4, 0, 0, 0, 0, 0, 0, 0, (-1), (-1), 0, 0, 0, 0, 0, 4, 0, 16])))]) [0, 1] rfl
        have hD9 := hD.sub (ws' := [(h, .inr (2, [.ref a0, .ref a1, .ref a2, .ref a3, .ref a4, .ref a5, .ref a6])), (a0, .inl (cI, 22, .inl (gl [0, 0, 0, 0, 4, 0, 0, 0, 0, 0, 0, 0, (-1), (-1), 0, 0, 0, 0, 0, 4, 0, 16])))]) [0, 1] (by decide) rfl
        exact W.iret (v := (-1)) hx hb hr (fun t ht hW => ⟨⟨(-1), (), rfl, e_0.symm, by rw [ht, e_1, e_2]; exact hP9, va_K.moved hW.alike hK, (by rw [e_1, e_2]; exact hD9)⟩, hS.F ht⟩) hS.2.2 dX2_tellEvent_22
  · refine lv_iload_n hx hb dX2_tellEvent_4 rfl (lv_at hl 1 rfl) ?_
    refine lv_iconst (v := 1) hx hb dX2_tellEvent_5 (by decide) ?_
    refine lv_icmp_ne (tgt := 21) hx hb dX2_tellEvent_6 (by decide) (fun c_4 => ?_) (fun c_4 => ?_)
    · refine lv_iconst (v := (-1)) hx hb dX2_tellEvent_21 (by decide) ?_
      have e_0 : (pfX2_tellEvent_0_r p1 p2) = (-1) := by rw [pfX2_tellEvent_0_r, if_neg c_1, if_neg c_4]
      have e_1 : (pfX2_tellEvent_0_a0_10 p1 p2) = 0 := by rw [pfX2_tellEvent_0_a0_10, if_neg c_1, if_neg c_4]
      have e_2 : (pfX2_tellEvent_0_a0_11 p1 p2) = 0 := by rw [pfX2_tellEvent_0_a0_11, if_neg c_1]
      have hP9 := hP.sub (ws' := [(h, .inr (2, [.ref a0, .ref a1, .ref a2, .ref a3, .ref a4, .ref a5, .ref a6])), (a0, .inl (cI, 22, .inl (gl [0, 0, 0, 0, 4, 0, 0, 0, 0, 0, 0, 0, (-1), (-1), 0, 0, 0, 0, 0, 4, 0, 16])))]) [0, 1] rfl
      have hD9 := hD.sub (ws' := [(h, .inr (2, [.ref a0, .ref a1, .ref a2, .ref a3, .ref a4, .ref a5, .ref a6])), (a0, .inl (cI, 22, .inl (gl [0, 0, 0, 0, 4, 0, 0, 0, 0, 0, 0, 0, (-1), (-1), 0, 0, 0, 0, 0, 4, 0, 16])))]) [0, 1] (by decide) rfl
      exact W.iret (v := (-1)) hx hb hr (fun t ht hW => ⟨⟨(-1), (), rfl, e_0.symm, by rw [ht, e_1, e_2]; exact hP9, va_K.moved hW.alike hK, (by rw [e_1, e_2]; exact hD9)⟩, hS.F ht⟩) hS.2.2 dX2_tellEvent_22
    · refine lv_iload_n hx hb dX2_tellEvent_9 rfl (lv_at hl 2 rfl) ?_
      refine lv_if_lt (tgt := 21) hx hb dX2_tellEvent_10 (by decide) (fun c_5 => ?_) (fun c_5 => ?_)
      · refine lv_iconst (v := (-1)) hx hb dX2_tellEvent_21 (by decide) ?_
        have e_0 : (pfX2_tellEvent_0_r p1 p2) = (-1) := by rw [pfX2_tellEvent_0_r, if_neg c_1, if_pos c_4, if_pos c_5]
        have e_1 : (pfX2_tellEvent_0_a0_10 p1 p2) = 0 := by rw [pfX2_tellEvent_0_a0_10, if_neg c_1, if_pos c_4, if_pos c_5]
        have e_2 : (pfX2_tellEvent_0_a0_11 p1 p2) = 0 := by rw [pfX2_tellEvent_0_a0_11, if_neg c_1]
        have hP9 := hP.sub (ws' := [(h, .inr (2, [.ref a0, .ref a1, .ref a2, .ref a3, .ref a4, .ref a5, .ref a6])), (a0, .inl (cI, 22, .inl (gl [0, 0, 0, 0, 4, 0, 0, 0, 0, 0, 0, 0, (-1), (-1), 0, 0, 0, 0, 0, 4, 0, 16])))]) [0, 1] rfl
        have hD9 := hD.sub (ws' := [(h, .inr (2, [.ref a0, .ref a1, .ref a2, .ref a3, .ref a4, .ref a5, .ref a6])), (a0, .inl (cI, 22, .inl (gl [0, 0, 0, 0, 4, 0, 0, 0, 0, 0, 0, 0, (-1), (-1), 0, 0, 0, 0, 0, 4, 0, 16])))]) [0, 1] (by decide) rfl
        exact W.iret (v := (-1)) hx hb hr (fun t ht hW => ⟨⟨(-1), (), rfl, e_0.symm, by rw [ht, e_1, e_2]; exact hP9, va_K.moved hW.alike hK, (by rw [e_1, e_2]; exact hD9)⟩, hS.F ht⟩) hS.2.2 dX2_tellEvent_22
      · refine lv_iload_n hx hb dX2_tellEvent_13 rfl (lv_at hl 2 rfl) ?_
        refine lv_aload_n hx hb dX2_tellEvent_14 rfl (lv_at hl 0 rfl) ?_
        refine zcVi (As := []) (rest := [.int p2]) (wr := []) ⟨hx, hb, hml, hown, hts⟩ (kkX2_wrapsAt l dC dI cI cB cZ cR H.size h a0 a1 a2 a3 a4 a5 a6 0 0 0 0 4 0 0 0 0 0 0 0 (-1) (-1) 0 0 0 0 ) (cwV 0 hts (zgV wm_652 wm_653 wm_654 wm_22 wm_655) rfl rfl rfl (by decide +kernel) ⟨Nat.le_of_ble_eq_true rfl, Nat.le_of_ble_eq_true rfl⟩) hN hK hP hD hS hA [0, 1] [] rfl rfl ⟨rfl, rfl⟩ (by decide) (ci := 2) rfl rfl rfl rfl hl.1 rfl (Nat.le_of_ble_eq_true rfl) dX2_tellEvent_15 ⟨Nat.le_of_ble_eq_true rfl, Nat.le_of_ble_eq_true rfl⟩ (fun r u hu H locs hP hD hS => ?_)
        have hu : r = 16 := hu
        subst hu
        have hP : va_P (dC, dI) vwCl [(h, .inr (2, [.ref a0, .ref a1, .ref a2, .ref a3, .ref a4, .ref a5, .ref a6])), (a0, .inl (cI, 22, .inl (gl [0, 0, 0, 0, 4, 0, 0, 0, 0, 0, 0, 0, (-1), (-1), 0, 0, 0, 0, 0, 4, 0, 16])))] H := hP
        have hD : va_D A [(h, .inr (2, [.ref a0, .ref a1, .ref a2, .ref a3, .ref a4, .ref a5, .ref a6])), (a0, .inl (cI, 22, .inl (gl [0, 0, 0, 0, 4, 0, 0, 0, 0, 0, 0, 0, (-1), (-1), 0, 0, 0, 0, 0, 4, 0, 16])))] := hD
        refine lv_icmp_lt (tgt := 23) hx hb dX2_tellEvent_18 (by decide) (fun c_6 => ?_) (fun c_6 => ?_)
        · refine lv_aload_n hx hb dX2_tellEvent_23 rfl (lv_at hl 0 rfl) ?_
          refine lv_iload_n hx hb dX2_tellEvent_24 rfl (lv_at hl 1 rfl) ?_
          refine lv_iconst (v := 1) hx hb dX2_tellEvent_25 (by decide) ?_
          refine lv_icmp_ne (tgt := 38) hx hb dX2_tellEvent_26 (by decide) (fun c => absurd c_4 c) (fun _ => ?_)
          refine lv_aload_n hx hb dX2_tellEvent_29 rfl (lv_at hl 0 rfl) ?_
          refine va_get (D := (dC, dI)) (ci := 2) (v := .ref a0) (C := RX2) (T := TX2) (N := 7) hx hb hts hinX2 hown hK hP 0 rfl rfl 0 (by decide) k_0 (fun _ h9 => h9) rfl dX2_tellEvent_30 ?_
          refine lv_iconst (v := 1) hx hb dX2_tellEvent_33 (by decide) ?_
          refine za_iald (v := 0) hx hb hK hP 1 0 rfl rfl (zin tn_1 (Nat.le_of_ble_eq_true rfl)) (zrd _ tn_1 rfl) dX2_tellEvent_34 ?_
          refine lv_goto (tgt := 44) hx hb dX2_tellEvent_35 (by decide) ?_
          refine lv_iload_n hx hb dX2_tellEvent_44 rfl (lv_at hl 2 rfl) ?_
          refine zcVi (As := [.int 0, .int p2]) (rest := []) (wr := []) ⟨hx, hb, hml, hown, hts⟩ (kkX2_moved l dC dI cI cB cZ cR H.size h a0 a1 a2 a3 a4 a5 a6 0 0 0 0 4 0 0 0 0 0 0 0 (-1) (-1) 0 0 0 0 0 p2 ) (cwV 2 hts (zgV wm_302 wm_303 wm_304 wm_22 wm_305) rfl rfl rfl (by decide +kernel) ⟨Nat.le_of_ble_eq_true rfl, Nat.le_of_ble_eq_true rfl⟩) hN hK hP hD hS hA [0, 1] [] rfl rfl ⟨rfl, rfl⟩ (by decide) (ci := 2) rfl rfl rfl rfl hl.1 rfl (Nat.le_of_ble_eq_true rfl) dX2_tellEvent_45 ⟨Nat.le_of_ble_eq_true rfl, Nat.le_of_ble_eq_true rfl⟩ (fun r u hu H locs hP hD hS => ?_)
          have hu : r = ((0 + p2) &&& 15) := hu
          subst hu
          have hP : va_P (dC, dI) vwCl [(h, .inr (2, [.ref a0, .ref a1, .ref a2, .ref a3, .ref a4, .ref a5, .ref a6])), (a0, .inl (cI, 22, .inl (gl [0, 0, 0, 0, 4, 0, 0, 0, 0, 0, 0, 0, (-1), (-1), 0, 0, 0, 0, 0, 4, 0, 16])))] H := hP
          have hD : va_D A [(h, .inr (2, [.ref a0, .ref a1, .ref a2, .ref a3, .ref a4, .ref a5, .ref a6])), (a0, .inl (cI, 22, .inl (gl [0, 0, 0, 0, 4, 0, 0, 0, 0, 0, 0, 0, (-1), (-1), 0, 0, 0, 0, 0, 4, 0, 16])))] := hD
          refine lv_istore_n (lv' := [(3, .int ((0 + p2) &&& 15)), (0, .ref h), (1, .int p1), (2, .int p2)]) hx hb dX2_tellEvent_48 rfl hl (by decide) rfl (fun ls hl => ?_)
          refine lv_aload_n hx hb dX2_tellEvent_49 rfl (lv_at hl 1 rfl) ?_
          refine va_get (D := (dC, dI)) (ci := 2) (v := .ref a0) (C := RX2) (T := TX2) (N := 7) hx hb hts hinX2 hown hK hP 0 rfl rfl 0 (by decide) k_0 (fun _ h9 => h9) rfl dX2_tellEvent_50 ?_
          refine lv_iload_n hx hb dX2_tellEvent_53 rfl (lv_at hl 2 rfl) ?_
          refine lv_iconst (v := 1) hx hb dX2_tellEvent_54 (by decide) ?_
          refine lv_icmp_ne (tgt := 63) hx hb dX2_tellEvent_55 (by decide) (fun c => absurd c_4 c) (fun _ => ?_)
          refine lv_bipush (v := 10) hx hb dX2_tellEvent_58 (by decide) ?_
          refine lv_goto (tgt := 65) hx hb dX2_tellEvent_60 (by decide) ?_
          refine lv_iload_n hx hb dX2_tellEvent_65 rfl (lv_at hl 0 rfl) ?_
          refine za_iast (f' := (gl [0, 0, 0, 0, 4, 0, 0, 0, 0, 0, ((0 + p2) &&& 15), 0, (-1), (-1), 0, 0, 0, 0, 0, 4, 0, 16])) hx hb hK hP hD hS 1 0 rfl rfl (zin tn_10 (Nat.le_of_ble_eq_true rfl)) (zup_gl tn_10 (Nat.le_of_ble_eq_true rfl) rfl) dX2_tellEvent_66 (fun H locs hP hD hS => ?_)
          have hP : va_P (dC, dI) vwCl [(h, .inr (2, [.ref a0, .ref a1, .ref a2, .ref a3, .ref a4, .ref a5, .ref a6])), (a0, .inl (cI, 22, .inl (gl [0, 0, 0, 0, 4, 0, 0, 0, 0, 0, ((0 + p2) &&& 15), 0, (-1), (-1), 0, 0, 0, 0, 0, 4, 0, 16])))] H := hP
          have hD : va_D A [(h, .inr (2, [.ref a0, .ref a1, .ref a2, .ref a3, .ref a4, .ref a5, .ref a6])), (a0, .inl (cI, 22, .inl (gl [0, 0, 0, 0, 4, 0, 0, 0, 0, 0, ((0 + p2) &&& 15), 0, (-1), (-1), 0, 0, 0, 0, 0, 4, 0, 16])))] := hD
          refine lv_iload_n hx hb dX2_tellEvent_67 rfl (lv_at hl 0 rfl) ?_
          have e_0 : (pfX2_tellEvent_0_r p1 p2) = ((0 + p2) &&& 15) := by rw [pfX2_tellEvent_0_r, if_neg c_1, if_pos c_4, if_neg c_5, if_pos c_6]
          have e_1 : (pfX2_tellEvent_0_a0_10 p1 p2) = ((0 + p2) &&& 15) := by rw [pfX2_tellEvent_0_a0_10, if_neg c_1, if_pos c_4, if_neg c_5, if_pos c_6]
          have e_2 : (pfX2_tellEvent_0_a0_11 p1 p2) = 0 := by rw [pfX2_tellEvent_0_a0_11, if_neg c_1]
          have hP9 := hP.sub (ws' := [(h, .inr (2, [.ref a0, .ref a1, .ref a2, .ref a3, .ref a4, .ref a5, .ref a6])), (a0, .inl (cI, 22, .inl (gl [0, 0, 0, 0, 4, 0, 0, 0, 0, 0, ((0 + p2) &&& 15), 0, (-1), (-1), 0, 0, 0, 0, 0, 4, 0, 16])))]) [0, 1] rfl
          have hD9 := hD.sub (ws' := [(h, .inr (2, [.ref a0, .ref a1, .ref a2, .ref a3, .ref a4, .ref a5, .ref a6])), (a0, .inl (cI, 22, .inl (gl [0, 0, 0, 0, 4, 0, 0, 0, 0, 0, ((0 + p2) &&& 15), 0, (-1), (-1), 0, 0, 0, 0, 0, 4, 0, 16])))]) [0, 1] (by decide) rfl
          exact W.iret (v := ((0 + p2) &&& 15)) hx hb hr (fun t ht hW => ⟨⟨((0 + p2) &&& 15), (), rfl, e_0.symm, by rw [ht, e_1, e_2]; exact hP9, va_K.moved hW.alike hK, (by rw [e_1, e_2]; exact hD9)⟩, hS.F ht⟩) hS.2.2 dX2_tellEvent_68
        · refine lv_iconst (v := (-1)) hx hb dX2_tellEvent_21 (by decide) ?_
          have e_0 : (pfX2_tellEvent_0_r p1 p2) = (-1) := by rw [pfX2_tellEvent_0_r, if_neg c_1, if_pos c_4, if_neg c_5, if_neg c_6]
          have e_1 : (pfX2_tellEvent_0_a0_10 p1 p2) = 0 := by rw [pfX2_tellEvent_0_a0_10, if_neg c_1, if_pos c_4, if_neg c_5, if_neg c_6]
          have e_2 : (pfX2_tellEvent_0_a0_11 p1 p2) = 0 := by rw [pfX2_tellEvent_0_a0_11, if_neg c_1]
          have hP9 := hP.sub (ws' := [(h, .inr (2, [.ref a0, .ref a1, .ref a2, .ref a3, .ref a4, .ref a5, .ref a6])), (a0, .inl (cI, 22, .inl (gl [0, 0, 0, 0, 4, 0, 0, 0, 0, 0, 0, 0, (-1), (-1), 0, 0, 0, 0, 0, 4, 0, 16])))]) [0, 1] rfl
          have hD9 := hD.sub (ws' := [(h, .inr (2, [.ref a0, .ref a1, .ref a2, .ref a3, .ref a4, .ref a5, .ref a6])), (a0, .inl (cI, 22, .inl (gl [0, 0, 0, 0, 4, 0, 0, 0, 0, 0, 0, 0, (-1), (-1), 0, 0, 0, 0, 0, 4, 0, 16])))]) [0, 1] (by decide) rfl
          exact W.iret (v := (-1)) hx hb hr (fun t ht hW => ⟨⟨(-1), (), rfl, e_0.symm, by rw [ht, e_1, e_2]; exact hP9, va_K.moved hW.alike hK, (by rw [e_1, e_2]; exact hD9)⟩, hS.F ht⟩) hS.2.2 dX2_tellEvent_22

set_option maxHeartbeats 4000000 in
set_option maxRecDepth 100000 in
theorem kkX7_event (l : Launch) (dC : Nat → ClassId) (dI : Nat → Nat → Nat) (cI cB cZ cR : ClassId) (sz : Nat) (x : Nat) (xt : Nat) (xd : Nat) (h : Nat) (xk : Nat) (xl : Nat) (xw : Nat) (xp : Nat) (xs : Nat) (xr : Nat) (a0 : Nat) (a1 : Nat) (a2 : Nat) (a3 : Nat) (a4 : Nat) (a5 : Nat) (a6 : Nat) (p1 : Int32) (p2 : Int32) : Met l yX7_event (.code yX7_event cX7_event 3 (some .int) :: wsL_law) ({ frames := 2, cells := 0, slots := 0, locals := 45 }) (zPc dC dI (zT cI cB cZ cR) [.ref x, .int p1, .int p2] sz [(x, .inr (7, [.ref xt, .ref xd, .ref h, .ref xk, .ref xl, .ref xw, .ref xp, .ref xs, .ref xr, .int 0, .int (-1), .int 0, .null])), (h, .inr (2, [.ref a0, .ref a1, .ref a2, .ref a3, .ref a4, .ref a5, .ref a6])), (a0, .inl (cI, 22, .inl (gl [0, 0, 0, 0, 4, 0, 0, 0, 0, 0, 0, 0, (-1), (-1), 0, 0, 0, 0, 0, 4, 0, 16])))]) (va_Qi (fun (r : Int32) (_ : Unit) => r = (pfX2_tellEvent_0_r p1 p2)) (fun _ : Unit => zB dC dI (zT cI cB cZ cR) (va_A [(x, .inr (7, [.ref xt, .ref xd, .ref h, .ref xk, .ref xl, .ref xw, .ref xp, .ref xs, .ref xr, .int 0, .int (-1), .int 0, .null])), (h, .inr (2, [.ref a0, .ref a1, .ref a2, .ref a3, .ref a4, .ref a5, .ref a6])), (a0, .inl (cI, 22, .inl (gl [0, 0, 0, 0, 4, 0, 0, 0, 0, 0, 0, 0, (-1), (-1), 0, 0, 0, 0, 0, 4, 0, 16])))] sz) [(x, .inr (7, [.ref xt, .ref xd, .ref h, .ref xk, .ref xl, .ref xw, .ref xp, .ref xs, .ref xr, .int 0, .int (-1), .int 0, .null])), (h, .inr (2, [.ref a0, .ref a1, .ref a2, .ref a3, .ref a4, .ref a5, .ref a6])), (a0, .inl (cI, 22, .inl (gl [0, 0, 0, 0, 4, 0, 0, 0, 0, 0, (pfX2_tellEvent_0_a0_10 p1 p2), (pfX2_tellEvent_0_a0_11 p1 p2), (-1), (-1), 0, 0, 0, 0, 0, 4, 0, 16])))]) (va_A [(x, .inr (7, [.ref xt, .ref xd, .ref h, .ref xk, .ref xl, .ref xw, .ref xp, .ref xs, .ref xr, .int 0, .int (-1), .int 0, .null])), (h, .inr (2, [.ref a0, .ref a1, .ref a2, .ref a3, .ref a4, .ref a5, .ref a6])), (a0, .inl (cI, 22, .inl (gl [0, 0, 0, 0, 4, 0, 0, 0, 0, 0, 0, 0, (-1), (-1), 0, 0, 0, 0, 0, 4, 0, 16])))] sz)) 0 0 (va_A [(x, .inr (7, [.ref xt, .ref xd, .ref h, .ref xk, .ref xl, .ref xw, .ref xp, .ref xs, .ref xr, .int 0, .int (-1), .int 0, .null])), (h, .inr (2, [.ref a0, .ref a1, .ref a2, .ref a3, .ref a4, .ref a5, .ref a6])), (a0, .inl (cI, 22, .inl (gl [0, 0, 0, 0, 4, 0, 0, 0, 0, 0, 0, 0, (-1), (-1), 0, 0, 0, 0, 0, 4, 0, 16])))] sz) := by
  refine Met.ofW (cc := cX7_event) (maxL := 3) (ret := (some .int)) (by decide) rfl ?_
  intro p e s m args below meth c s₁ B hml hv
  obtain ⟨rfl, hsz, hP, hK, hD0, hN⟩ := hv
  have hx := B.exec
  have hb := B.bytes
  have hr := B.returns
  have hts := atoms_spec (ws := (.code yX7_event cX7_event 3 (some .int) :: wsL_law)) B.pre
  have hown : s.vm.findClass RX7 = some m.cls := findClass_of_methodNamed B.named
  have hlocks := B.notSynchronized
  have hinX7 : ∀ w ∈ u_ws RX7 TX7 13, w ∈ (.code yX7_event cX7_event 3 (some .int) :: wsL_law) := fun w h => List.mem_cons_of_mem _ (inlX7 w h)
  have k_0 := hts (.fieldLink RX7 26 "RingMarks" "ring" "LRingMarks$Ring;") (List.mem_cons_of_mem _ wm_23)
  subst hsz
  have hD := hD0.self (sz := s.heap.size)
  generalize hAe : va_A [(x, .inr (7, [.ref xt, .ref xd, .ref h, .ref xk, .ref xl, .ref xw, .ref xp, .ref xs, .ref xr, .int 0, .int (-1), .int 0, .null])), (h, .inr (2, [.ref a0, .ref a1, .ref a2, .ref a3, .ref a4, .ref a5, .ref a6])), (a0, .inl (cI, 22, .inl (gl [0, 0, 0, 0, 4, 0, 0, 0, 0, 0, 0, 0, (-1), (-1), 0, 0, 0, 0, 0, 4, 0, 16])))] s.heap.size = A at hD ⊢
  have hA : ∀ q : Nat, s.heap.size ≤ q → A q := fun q h => by rw [← hAe]; exact Or.inr h
  have hP : va_P (dC, dI) vwCl [(x, .inr (7, [.ref xt, .ref xd, .ref h, .ref xk, .ref xl, .ref xw, .ref xp, .ref xs, .ref xr, .int 0, .int (-1), .int 0, .null])), (h, .inr (2, [.ref a0, .ref a1, .ref a2, .ref a3, .ref a4, .ref a5, .ref a6])), (a0, .inl (cI, 22, .inl (gl [0, 0, 0, 0, 4, 0, 0, 0, 0, 0, 0, 0, (-1), (-1), 0, 0, 0, 0, 0, 4, 0, 16])))] s.heap := hP
  have hl := lv_entry ([.ref x, .int p1, .int p2]) (n := 3) (Nat.le_of_ble_eq_true rfl)
  rw [lg_entry_eq]
  generalize (lg_sl ([.ref x, .int p1, .int p2]) ++ List.replicate (3 - (lg_sl ([.ref x, .int p1, .int p2])).length) Slot.unset).toArray = ls at hl ⊢
  have hl : lv_has ls 3 [(0, .ref x), (1, .int p1), (2, .int p2)] := hl
  obtain ⟨H, hH⟩ : ∃ H, H = s.heap := ⟨_, rfl⟩
  rw [← hH] at hP ⊢
  have hS : va_S A s.heap H [] := by rw [hH]; exact va_S.rf
  refine lv_aload_n hx hb dX7_event_0 rfl (lv_at hl 0 rfl) ?_
  refine va_get (D := (dC, dI)) (ci := 7) (v := .ref h) (C := RX7) (T := TX7) (N := 13) hx hb hts hinX7 hown hK hP 0 rfl rfl 2 (by decide) k_0 (fun _ h9 => h9) rfl dX7_event_1 ?_
  refine lv_iload_n hx hb dX7_event_4 rfl (lv_at hl 1 rfl) ?_
  refine lv_iload_n hx hb dX7_event_5 rfl (lv_at hl 2 rfl) ?_
  refine zcVi (As := [.int p1, .int p2]) (rest := []) (wr := [(x, .inr (7, [.ref xt, .ref xd, .ref h, .ref xk, .ref xl, .ref xw, .ref xp, .ref xs, .ref xr, .int 0, .int (-1), .int 0, .null]))]) ⟨hx, hb, hml, hown, hts⟩ (kkX2_tellEvent_0 l dC dI cI cB cZ cR H.size h a0 a1 a2 a3 a4 a5 a6 p1 p2 ) (cwV 2 hts (zgV wm_686 wm_687 wm_688 wm_22 wm_689) rfl rfl rfl (by decide +kernel) ⟨Nat.le_of_ble_eq_true rfl, Nat.le_of_ble_eq_true rfl⟩) hN hK hP hD hS hA [1, 2] [0] rfl rfl ⟨rfl, rfl⟩ (by decide) (ci := 2) rfl rfl rfl rfl hl.1 rfl (Nat.le_of_ble_eq_true rfl) dX7_event_6 ⟨Nat.le_of_ble_eq_true rfl, Nat.le_of_ble_eq_true rfl⟩ (fun r u hu H locs hP hD hS => ?_)
  have hu : r = (pfX2_tellEvent_0_r p1 p2) := hu
  subst hu
  have hP : va_P (dC, dI) vwCl [(x, .inr (7, [.ref xt, .ref xd, .ref h, .ref xk, .ref xl, .ref xw, .ref xp, .ref xs, .ref xr, .int 0, .int (-1), .int 0, .null])), (h, .inr (2, [.ref a0, .ref a1, .ref a2, .ref a3, .ref a4, .ref a5, .ref a6])), (a0, .inl (cI, 22, .inl (gl [0, 0, 0, 0, 4, 0, 0, 0, 0, 0, (pfX2_tellEvent_0_a0_10 p1 p2), (pfX2_tellEvent_0_a0_11 p1 p2), (-1), (-1), 0, 0, 0, 0, 0, 4, 0, 16])))] H := hP
  have hD : va_D A [(x, .inr (7, [.ref xt, .ref xd, .ref h, .ref xk, .ref xl, .ref xw, .ref xp, .ref xs, .ref xr, .int 0, .int (-1), .int 0, .null])), (h, .inr (2, [.ref a0, .ref a1, .ref a2, .ref a3, .ref a4, .ref a5, .ref a6])), (a0, .inl (cI, 22, .inl (gl [0, 0, 0, 0, 4, 0, 0, 0, 0, 0, (pfX2_tellEvent_0_a0_10 p1 p2), (pfX2_tellEvent_0_a0_11 p1 p2), (-1), (-1), 0, 0, 0, 0, 0, 4, 0, 16])))] := hD
  have hP9 := hP.sub (ws' := [(x, .inr (7, [.ref xt, .ref xd, .ref h, .ref xk, .ref xl, .ref xw, .ref xp, .ref xs, .ref xr, .int 0, .int (-1), .int 0, .null])), (h, .inr (2, [.ref a0, .ref a1, .ref a2, .ref a3, .ref a4, .ref a5, .ref a6])), (a0, .inl (cI, 22, .inl (gl [0, 0, 0, 0, 4, 0, 0, 0, 0, 0, (pfX2_tellEvent_0_a0_10 p1 p2), (pfX2_tellEvent_0_a0_11 p1 p2), (-1), (-1), 0, 0, 0, 0, 0, 4, 0, 16])))]) [0, 1, 2] rfl
  have hD9 := hD.sub (ws' := [(x, .inr (7, [.ref xt, .ref xd, .ref h, .ref xk, .ref xl, .ref xw, .ref xp, .ref xs, .ref xr, .int 0, .int (-1), .int 0, .null])), (h, .inr (2, [.ref a0, .ref a1, .ref a2, .ref a3, .ref a4, .ref a5, .ref a6])), (a0, .inl (cI, 22, .inl (gl [0, 0, 0, 0, 4, 0, 0, 0, 0, 0, (pfX2_tellEvent_0_a0_10 p1 p2), (pfX2_tellEvent_0_a0_11 p1 p2), (-1), (-1), 0, 0, 0, 0, 0, 4, 0, 16])))]) [0, 1, 2] (by decide) rfl
  exact W.iret (v := (pfX2_tellEvent_0_r p1 p2)) hx hb hr (fun t ht hW => ⟨⟨(pfX2_tellEvent_0_r p1 p2), (), rfl, rfl, by rw [ht]; exact hP9, va_K.moved hW.alike hK, hD9⟩, hS.F ht⟩) hS.2.2 dX7_event_9

def pfX2_tellHush_0_r (p1 : Int32) (p2 : Int32) : Int32 := if p1 = 0 then (if p2 = 0 then 0 else (if p2 = 1 then 0 else (-1))) else (if p1 = 1 then (if p2 = 0 then 0 else (if p2 = 1 then 0 else (-1))) else (-1))
def pfX2_tellHush_0_a0_16 (p1 : Int32) (p2 : Int32) : Int32 := if p1 = 0 then (if p2 = 0 then p2 else (if p2 = 1 then p2 else 0)) else 0
def pfX2_tellHush_0_a0_17 (p1 : Int32) (p2 : Int32) : Int32 := if p1 = 0 then 0 else (if p1 = 1 then (if p2 = 0 then p2 else (if p2 = 1 then p2 else 0)) else 0)
set_option maxHeartbeats 4000000 in
set_option maxRecDepth 100000 in
theorem kkX2_tellHush_0 (l : Launch) (dC : Nat → ClassId) (dI : Nat → Nat → Nat) (cI cB cZ cR : ClassId) (sz : Nat) (h : Nat) (a0 : Nat) (a1 : Nat) (a2 : Nat) (a3 : Nat) (a4 : Nat) (a5 : Nat) (a6 : Nat) (p1 : Int32) (p2 : Int32) : Met l yX2_tellHush (.code yX2_tellHush cX2_tellHush 3 (some .int) :: wsL_law) ({ frames := 0, cells := 0, slots := 0, locals := 0 }) (zPc dC dI (zT cI cB cZ cR) [.ref h, .int p1, .int p2] sz [(h, .inr (2, [.ref a0, .ref a1, .ref a2, .ref a3, .ref a4, .ref a5, .ref a6])), (a0, .inl (cI, 22, .inl (gl [0, 0, 0, 0, 4, 0, 0, 0, 0, 0, 0, 0, (-1), (-1), 0, 0, 0, 0, 0, 4, 0, 16])))]) (va_Qi (fun (r : Int32) (_ : Unit) => r = (pfX2_tellHush_0_r p1 p2)) (fun _ : Unit => zB dC dI (zT cI cB cZ cR) (va_A [(h, .inr (2, [.ref a0, .ref a1, .ref a2, .ref a3, .ref a4, .ref a5, .ref a6])), (a0, .inl (cI, 22, .inl (gl [0, 0, 0, 0, 4, 0, 0, 0, 0, 0, 0, 0, (-1), (-1), 0, 0, 0, 0, 0, 4, 0, 16])))] sz) [(h, .inr (2, [.ref a0, .ref a1, .ref a2, .ref a3, .ref a4, .ref a5, .ref a6])), (a0, .inl (cI, 22, .inl (gl [0, 0, 0, 0, 4, 0, 0, 0, 0, 0, 0, 0, (-1), (-1), 0, 0, (pfX2_tellHush_0_a0_16 p1 p2), (pfX2_tellHush_0_a0_17 p1 p2), 0, 4, 0, 16])))]) (va_A [(h, .inr (2, [.ref a0, .ref a1, .ref a2, .ref a3, .ref a4, .ref a5, .ref a6])), (a0, .inl (cI, 22, .inl (gl [0, 0, 0, 0, 4, 0, 0, 0, 0, 0, 0, 0, (-1), (-1), 0, 0, 0, 0, 0, 4, 0, 16])))] sz)) 0 0 (va_A [(h, .inr (2, [.ref a0, .ref a1, .ref a2, .ref a3, .ref a4, .ref a5, .ref a6])), (a0, .inl (cI, 22, .inl (gl [0, 0, 0, 0, 4, 0, 0, 0, 0, 0, 0, 0, (-1), (-1), 0, 0, 0, 0, 0, 4, 0, 16])))] sz) := by
  refine Met.ofW (cc := cX2_tellHush) (maxL := 3) (ret := (some .int)) (by decide) rfl ?_
  intro p e s m args below meth c s₁ B hml hv
  obtain ⟨rfl, hsz, hP, hK, hD0, hN⟩ := hv
  have hx := B.exec
  have hb := B.bytes
  have hr := B.returns
  have hts := atoms_spec (ws := (.code yX2_tellHush cX2_tellHush 3 (some .int) :: wsL_law)) B.pre
  have hown : s.vm.findClass RX2 = some m.cls := findClass_of_methodNamed B.named
  have hlocks := B.notSynchronized
  have hinX2 : ∀ w ∈ u_ws RX2 TX2 7, w ∈ (.code yX2_tellHush cX2_tellHush 3 (some .int) :: wsL_law) := fun w h => List.mem_cons_of_mem _ (inlX2 w h)
  have k_0 := hts (.fieldLink RX2 11 "RingMarks$Ring" "marks" "[I") (List.mem_cons_of_mem _ wm_61)
  subst hsz
  have hD := hD0.self (sz := s.heap.size)
  generalize hAe : va_A [(h, .inr (2, [.ref a0, .ref a1, .ref a2, .ref a3, .ref a4, .ref a5, .ref a6])), (a0, .inl (cI, 22, .inl (gl [0, 0, 0, 0, 4, 0, 0, 0, 0, 0, 0, 0, (-1), (-1), 0, 0, 0, 0, 0, 4, 0, 16])))] s.heap.size = A at hD ⊢
  have hA : ∀ q : Nat, s.heap.size ≤ q → A q := fun q h => by rw [← hAe]; exact Or.inr h
  have hP : va_P (dC, dI) vwCl [(h, .inr (2, [.ref a0, .ref a1, .ref a2, .ref a3, .ref a4, .ref a5, .ref a6])), (a0, .inl (cI, 22, .inl (gl [0, 0, 0, 0, 4, 0, 0, 0, 0, 0, 0, 0, (-1), (-1), 0, 0, 0, 0, 0, 4, 0, 16])))] s.heap := hP
  have hl := lv_entry ([.ref h, .int p1, .int p2]) (n := 3) (Nat.le_of_ble_eq_true rfl)
  rw [lg_entry_eq]
  generalize (lg_sl ([.ref h, .int p1, .int p2]) ++ List.replicate (3 - (lg_sl ([.ref h, .int p1, .int p2])).length) Slot.unset).toArray = ls at hl ⊢
  have hl : lv_has ls 3 [(0, .ref h), (1, .int p1), (2, .int p2)] := hl
  obtain ⟨H, hH⟩ : ∃ H, H = s.heap := ⟨_, rfl⟩
  rw [← hH] at hP ⊢
  have hS : va_S A s.heap H [] := by rw [hH]; exact va_S.rf
  refine lv_iload_n hx hb dX2_tellHush_0 rfl (lv_at hl 1 rfl) ?_
  refine lv_if_eq (tgt := 9) hx hb dX2_tellHush_1 (by decide) (fun c_1 => ?_) (fun c_1 => ?_)
  · refine lv_iload_n hx hb dX2_tellHush_9 rfl (lv_at hl 2 rfl) ?_
    refine lv_if_eq (tgt := 20) hx hb dX2_tellHush_10 (by decide) (fun c_2 => ?_) (fun c_2 => ?_)
    · refine lv_aload_n hx hb dX2_tellHush_20 rfl (lv_at hl 0 rfl) ?_
      refine va_get (D := (dC, dI)) (ci := 2) (v := .ref a0) (C := RX2) (T := TX2) (N := 7) hx hb hts hinX2 hown hK hP 0 rfl rfl 0 (by decide) k_0 (fun _ h9 => h9) rfl dX2_tellHush_21 ?_
      refine lv_iload_n hx hb dX2_tellHush_24 rfl (lv_at hl 1 rfl) ?_
      refine lv_iconst (v := 1) hx hb dX2_tellHush_25 (by decide) ?_
      refine lv_icmp_ne (tgt := 34) hx hb dX2_tellHush_26 (by decide) (fun _ => ?_) (fun c => absurd c (by rw [c_1]; decide))
      refine lv_bipush (v := 16) hx hb dX2_tellHush_34 (by decide) ?_
      refine lv_iload_n hx hb dX2_tellHush_36 rfl (lv_at hl 2 rfl) ?_
      refine za_iast (f' := (gl [0, 0, 0, 0, 4, 0, 0, 0, 0, 0, 0, 0, (-1), (-1), 0, 0, p2, 0, 0, 4, 0, 16])) hx hb hK hP hD hS 1 0 rfl rfl (zin tn_16 (Nat.le_of_ble_eq_true rfl)) (zup_gl tn_16 (Nat.le_of_ble_eq_true rfl) rfl) dX2_tellHush_37 (fun H locs hP hD hS => ?_)
      have hP : va_P (dC, dI) vwCl [(h, .inr (2, [.ref a0, .ref a1, .ref a2, .ref a3, .ref a4, .ref a5, .ref a6])), (a0, .inl (cI, 22, .inl (gl [0, 0, 0, 0, 4, 0, 0, 0, 0, 0, 0, 0, (-1), (-1), 0, 0, p2, 0, 0, 4, 0, 16])))] H := hP
      have hD : va_D A [(h, .inr (2, [.ref a0, .ref a1, .ref a2, .ref a3, .ref a4, .ref a5, .ref a6])), (a0, .inl (cI, 22, .inl (gl [0, 0, 0, 0, 4, 0, 0, 0, 0, 0, 0, 0, (-1), (-1), 0, 0, p2, 0, 0, 4, 0, 16])))] := hD
      refine lv_iconst (v := 0) hx hb dX2_tellHush_38 (by decide) ?_
      have e_0 : (pfX2_tellHush_0_r p1 p2) = 0 := by rw [pfX2_tellHush_0_r, if_pos c_1, if_pos c_2]
      have e_1 : (pfX2_tellHush_0_a0_16 p1 p2) = p2 := by rw [pfX2_tellHush_0_a0_16, if_pos c_1, if_pos c_2]
      have e_2 : (pfX2_tellHush_0_a0_17 p1 p2) = 0 := by rw [pfX2_tellHush_0_a0_17, if_pos c_1]
      have hP9 := hP.sub (ws' := [(h, .inr (2, [.ref a0, .ref a1, .ref a2, .ref a3, .ref a4, .ref a5, .ref a6])), (a0, .inl (cI, 22, .inl (gl [0, 0, 0, 0, 4, 0, 0, 0, 0, 0, 0, 0, (-1), (-1), 0, 0, p2, 0, 0, 4, 0, 16])))]) [0, 1] rfl
      have hD9 := hD.sub (ws' := [(h, .inr (2, [.ref a0, .ref a1, .ref a2, .ref a3, .ref a4, .ref a5, .ref a6])), (a0, .inl (cI, 22, .inl (gl [0, 0, 0, 0, 4, 0, 0, 0, 0, 0, 0, 0, (-1), (-1), 0, 0, p2, 0, 0, 4, 0, 16])))]) [0, 1] (by decide) rfl
      exact W.iret (v := 0) hx hb hr (fun t ht hW => ⟨⟨0, (), rfl, e_0.symm, by rw [ht, e_1, e_2]; exact hP9, va_K.moved hW.alike hK, (by rw [e_1, e_2]; exact hD9)⟩, hS.F ht⟩) hS.2.2 dX2_tellHush_39
    · refine lv_iload_n hx hb dX2_tellHush_13 rfl (lv_at hl 2 rfl) ?_
      refine lv_iconst (v := 1) hx hb dX2_tellHush_14 (by decide) ?_
      refine lv_icmp_eq (tgt := 20) hx hb dX2_tellHush_15 (by decide) (fun c_3 => ?_) (fun c_3 => ?_)
      · refine lv_aload_n hx hb dX2_tellHush_20 rfl (lv_at hl 0 rfl) ?_
        refine va_get (D := (dC, dI)) (ci := 2) (v := .ref a0) (C := RX2) (T := TX2) (N := 7) hx hb hts hinX2 hown hK hP 0 rfl rfl 0 (by decide) k_0 (fun _ h9 => h9) rfl dX2_tellHush_21 ?_
        refine lv_iload_n hx hb dX2_tellHush_24 rfl (lv_at hl 1 rfl) ?_
        refine lv_iconst (v := 1) hx hb dX2_tellHush_25 (by decide) ?_
        refine lv_icmp_ne (tgt := 34) hx hb dX2_tellHush_26 (by decide) (fun _ => ?_) (fun c => absurd c (by rw [c_1]; decide))
        refine lv_bipush (v := 16) hx hb dX2_tellHush_34 (by decide) ?_
        refine lv_iload_n hx hb dX2_tellHush_36 rfl (lv_at hl 2 rfl) ?_
        refine za_iast (f' := (gl [0, 0, 0, 0, 4, 0, 0, 0, 0, 0, 0, 0, (-1), (-1), 0, 0, p2, 0, 0, 4, 0, 16])) hx hb hK hP hD hS 1 0 rfl rfl (zin tn_16 (Nat.le_of_ble_eq_true rfl)) (zup_gl tn_16 (Nat.le_of_ble_eq_true rfl) rfl) dX2_tellHush_37 (fun H locs hP hD hS => ?_)
        have hP : va_P (dC, dI) vwCl [(h, .inr (2, [.ref a0, .ref a1, .ref a2, .ref a3, .ref a4, .ref a5, .ref a6])), (a0, .inl (cI, 22, .inl (gl [0, 0, 0, 0, 4, 0, 0, 0, 0, 0, 0, 0, (-1), (-1), 0, 0, p2, 0, 0, 4, 0, 16])))] H := hP
        have hD : va_D A [(h, .inr (2, [.ref a0, .ref a1, .ref a2, .ref a3, .ref a4, .ref a5, .ref a6])), (a0, .inl (cI, 22, .inl (gl [0, 0, 0, 0, 4, 0, 0, 0, 0, 0, 0, 0, (-1), (-1), 0, 0, p2, 0, 0, 4, 0, 16])))] := hD
        refine lv_iconst (v := 0) hx hb dX2_tellHush_38 (by decide) ?_
        have e_0 : (pfX2_tellHush_0_r p1 p2) = 0 := by rw [pfX2_tellHush_0_r, if_pos c_1, if_neg c_2, if_pos c_3]
        have e_1 : (pfX2_tellHush_0_a0_16 p1 p2) = p2 := by rw [pfX2_tellHush_0_a0_16, if_pos c_1, if_neg c_2, if_pos c_3]
        have e_2 : (pfX2_tellHush_0_a0_17 p1 p2) = 0 := by rw [pfX2_tellHush_0_a0_17, if_pos c_1]
        have hP9 := hP.sub (ws' := [(h, .inr (2, [.ref a0, .ref a1, .ref a2, .ref a3, .ref a4, .ref a5, .ref a6])), (a0, .inl (cI, 22, .inl (gl [0, 0, 0, 0, 4, 0, 0, 0, 0, 0, 0, 0, (-1), (-1), 0, 0, p2, 0, 0, 4, 0, 16])))]) [0, 1] rfl
        have hD9 := hD.sub (ws' := [(h, .inr (2, [.ref a0, .ref a1, .ref a2, .ref a3, .ref a4, .ref a5, .ref a6])), (a0, .inl (cI, 22, .inl (gl [0, 0, 0, 0, 4, 0, 0, 0, 0, 0, 0, 0, (-1), (-1), 0, 0, p2, 0, 0, 4, 0, 16])))]) [0, 1] (by decide) rfl
        exact W.iret (v := 0) hx hb hr (fun t ht hW => ⟨⟨0, (), rfl, e_0.symm, by rw [ht, e_1, e_2]; exact hP9, va_K.moved hW.alike hK, (by rw [e_1, e_2]; exact hD9)⟩, hS.F ht⟩) hS.2.2 dX2_tellHush_39
      · refine lv_iconst (v := (-1)) hx hb dX2_tellHush_18 (by decide) ?_
        have e_0 : (pfX2_tellHush_0_r p1 p2) = (-1) := by rw [pfX2_tellHush_0_r, if_pos c_1, if_neg c_2, if_neg c_3]
        have e_1 : (pfX2_tellHush_0_a0_16 p1 p2) = 0 := by rw [pfX2_tellHush_0_a0_16, if_pos c_1, if_neg c_2, if_neg c_3]
        have e_2 : (pfX2_tellHush_0_a0_17 p1 p2) = 0 := by rw [pfX2_tellHush_0_a0_17, if_pos c_1]
        have hP9 := hP.sub (ws' := [(h, .inr (2, [.ref a0, .ref a1, .ref a2, .ref a3, .ref a4, .ref a5, .ref a6])), (a0, .inl (cI, 22, .inl (gl [0, 0, 0, 0, 4, 0, 0, 0, 0, 0, 0, 0, (-1), (-1), 0, 0, 0, 0, 0, 4, 0, 16])))]) [0, 1] rfl
        have hD9 := hD.sub (ws' := [(h, .inr (2, [.ref a0, .ref a1, .ref a2, .ref a3, .ref a4, .ref a5, .ref a6])), (a0, .inl (cI, 22, .inl (gl [0, 0, 0, 0, 4, 0, 0, 0, 0, 0, 0, 0, (-1), (-1), 0, 0, 0, 0, 0, 4, 0, 16])))]) [0, 1] (by decide) rfl
        exact W.iret (v := (-1)) hx hb hr (fun t ht hW => ⟨⟨(-1), (), rfl, e_0.symm, by rw [ht, e_1, e_2]; exact hP9, va_K.moved hW.alike hK, (by rw [e_1, e_2]; exact hD9)⟩, hS.F ht⟩) hS.2.2 dX2_tellHush_19
  · refine lv_iload_n hx hb dX2_tellHush_4 rfl (lv_at hl 1 rfl) ?_
    refine lv_iconst (v := 1) hx hb dX2_tellHush_5 (by decide) ?_
    refine lv_icmp_ne (tgt := 18) hx hb dX2_tellHush_6 (by decide) (fun c_4 => ?_) (fun c_4 => ?_)
    · refine lv_iconst (v := (-1)) hx hb dX2_tellHush_18 (by decide) ?_
      have e_0 : (pfX2_tellHush_0_r p1 p2) = (-1) := by rw [pfX2_tellHush_0_r, if_neg c_1, if_neg c_4]
      have e_1 : (pfX2_tellHush_0_a0_16 p1 p2) = 0 := by rw [pfX2_tellHush_0_a0_16, if_neg c_1]
      have e_2 : (pfX2_tellHush_0_a0_17 p1 p2) = 0 := by rw [pfX2_tellHush_0_a0_17, if_neg c_1, if_neg c_4]
      have hP9 := hP.sub (ws' := [(h, .inr (2, [.ref a0, .ref a1, .ref a2, .ref a3, .ref a4, .ref a5, .ref a6])), (a0, .inl (cI, 22, .inl (gl [0, 0, 0, 0, 4, 0, 0, 0, 0, 0, 0, 0, (-1), (-1), 0, 0, 0, 0, 0, 4, 0, 16])))]) [0, 1] rfl
      have hD9 := hD.sub (ws' := [(h, .inr (2, [.ref a0, .ref a1, .ref a2, .ref a3, .ref a4, .ref a5, .ref a6])), (a0, .inl (cI, 22, .inl (gl [0, 0, 0, 0, 4, 0, 0, 0, 0, 0, 0, 0, (-1), (-1), 0, 0, 0, 0, 0, 4, 0, 16])))]) [0, 1] (by decide) rfl
      exact W.iret (v := (-1)) hx hb hr (fun t ht hW => ⟨⟨(-1), (), rfl, e_0.symm, by rw [ht, e_1, e_2]; exact hP9, va_K.moved hW.alike hK, (by rw [e_1, e_2]; exact hD9)⟩, hS.F ht⟩) hS.2.2 dX2_tellHush_19
    · refine lv_iload_n hx hb dX2_tellHush_9 rfl (lv_at hl 2 rfl) ?_
      refine lv_if_eq (tgt := 20) hx hb dX2_tellHush_10 (by decide) (fun c_5 => ?_) (fun c_5 => ?_)
      · refine lv_aload_n hx hb dX2_tellHush_20 rfl (lv_at hl 0 rfl) ?_
        refine va_get (D := (dC, dI)) (ci := 2) (v := .ref a0) (C := RX2) (T := TX2) (N := 7) hx hb hts hinX2 hown hK hP 0 rfl rfl 0 (by decide) k_0 (fun _ h9 => h9) rfl dX2_tellHush_21 ?_
        refine lv_iload_n hx hb dX2_tellHush_24 rfl (lv_at hl 1 rfl) ?_
        refine lv_iconst (v := 1) hx hb dX2_tellHush_25 (by decide) ?_
        refine lv_icmp_ne (tgt := 34) hx hb dX2_tellHush_26 (by decide) (fun c => absurd c_4 c) (fun _ => ?_)
        refine lv_bipush (v := 17) hx hb dX2_tellHush_29 (by decide) ?_
        refine lv_goto (tgt := 36) hx hb dX2_tellHush_31 (by decide) ?_
        refine lv_iload_n hx hb dX2_tellHush_36 rfl (lv_at hl 2 rfl) ?_
        refine za_iast (f' := (gl [0, 0, 0, 0, 4, 0, 0, 0, 0, 0, 0, 0, (-1), (-1), 0, 0, 0, p2, 0, 4, 0, 16])) hx hb hK hP hD hS 1 0 rfl rfl (zin tn_17 (Nat.le_of_ble_eq_true rfl)) (zup_gl tn_17 (Nat.le_of_ble_eq_true rfl) rfl) dX2_tellHush_37 (fun H locs hP hD hS => ?_)
        have hP : va_P (dC, dI) vwCl [(h, .inr (2, [.ref a0, .ref a1, .ref a2, .ref a3, .ref a4, .ref a5, .ref a6])), (a0, .inl (cI, 22, .inl (gl [0, 0, 0, 0, 4, 0, 0, 0, 0, 0, 0, 0, (-1), (-1), 0, 0, 0, p2, 0, 4, 0, 16])))] H := hP
        have hD : va_D A [(h, .inr (2, [.ref a0, .ref a1, .ref a2, .ref a3, .ref a4, .ref a5, .ref a6])), (a0, .inl (cI, 22, .inl (gl [0, 0, 0, 0, 4, 0, 0, 0, 0, 0, 0, 0, (-1), (-1), 0, 0, 0, p2, 0, 4, 0, 16])))] := hD
        refine lv_iconst (v := 0) hx hb dX2_tellHush_38 (by decide) ?_
        have e_0 : (pfX2_tellHush_0_r p1 p2) = 0 := by rw [pfX2_tellHush_0_r, if_neg c_1, if_pos c_4, if_pos c_5]
        have e_1 : (pfX2_tellHush_0_a0_16 p1 p2) = 0 := by rw [pfX2_tellHush_0_a0_16, if_neg c_1]
        have e_2 : (pfX2_tellHush_0_a0_17 p1 p2) = p2 := by rw [pfX2_tellHush_0_a0_17, if_neg c_1, if_pos c_4, if_pos c_5]
        have hP9 := hP.sub (ws' := [(h, .inr (2, [.ref a0, .ref a1, .ref a2, .ref a3, .ref a4, .ref a5, .ref a6])), (a0, .inl (cI, 22, .inl (gl [0, 0, 0, 0, 4, 0, 0, 0, 0, 0, 0, 0, (-1), (-1), 0, 0, 0, p2, 0, 4, 0, 16])))]) [0, 1] rfl
        have hD9 := hD.sub (ws' := [(h, .inr (2, [.ref a0, .ref a1, .ref a2, .ref a3, .ref a4, .ref a5, .ref a6])), (a0, .inl (cI, 22, .inl (gl [0, 0, 0, 0, 4, 0, 0, 0, 0, 0, 0, 0, (-1), (-1), 0, 0, 0, p2, 0, 4, 0, 16])))]) [0, 1] (by decide) rfl
        exact W.iret (v := 0) hx hb hr (fun t ht hW => ⟨⟨0, (), rfl, e_0.symm, by rw [ht, e_1, e_2]; exact hP9, va_K.moved hW.alike hK, (by rw [e_1, e_2]; exact hD9)⟩, hS.F ht⟩) hS.2.2 dX2_tellHush_39
      · refine lv_iload_n hx hb dX2_tellHush_13 rfl (lv_at hl 2 rfl) ?_
        refine lv_iconst (v := 1) hx hb dX2_tellHush_14 (by decide) ?_
        refine lv_icmp_eq (tgt := 20) hx hb dX2_tellHush_15 (by decide) (fun c_6 => ?_) (fun c_6 => ?_)
        · refine lv_aload_n hx hb dX2_tellHush_20 rfl (lv_at hl 0 rfl) ?_
          refine va_get (D := (dC, dI)) (ci := 2) (v := .ref a0) (C := RX2) (T := TX2) (N := 7) hx hb hts hinX2 hown hK hP 0 rfl rfl 0 (by decide) k_0 (fun _ h9 => h9) rfl dX2_tellHush_21 ?_
          refine lv_iload_n hx hb dX2_tellHush_24 rfl (lv_at hl 1 rfl) ?_
          refine lv_iconst (v := 1) hx hb dX2_tellHush_25 (by decide) ?_
          refine lv_icmp_ne (tgt := 34) hx hb dX2_tellHush_26 (by decide) (fun c => absurd c_4 c) (fun _ => ?_)
          refine lv_bipush (v := 17) hx hb dX2_tellHush_29 (by decide) ?_
          refine lv_goto (tgt := 36) hx hb dX2_tellHush_31 (by decide) ?_
          refine lv_iload_n hx hb dX2_tellHush_36 rfl (lv_at hl 2 rfl) ?_
          refine za_iast (f' := (gl [0, 0, 0, 0, 4, 0, 0, 0, 0, 0, 0, 0, (-1), (-1), 0, 0, 0, p2, 0, 4, 0, 16])) hx hb hK hP hD hS 1 0 rfl rfl (zin tn_17 (Nat.le_of_ble_eq_true rfl)) (zup_gl tn_17 (Nat.le_of_ble_eq_true rfl) rfl) dX2_tellHush_37 (fun H locs hP hD hS => ?_)
          have hP : va_P (dC, dI) vwCl [(h, .inr (2, [.ref a0, .ref a1, .ref a2, .ref a3, .ref a4, .ref a5, .ref a6])), (a0, .inl (cI, 22, .inl (gl [0, 0, 0, 0, 4, 0, 0, 0, 0, 0, 0, 0, (-1), (-1), 0, 0, 0, p2, 0, 4, 0, 16])))] H := hP
          have hD : va_D A [(h, .inr (2, [.ref a0, .ref a1, .ref a2, .ref a3, .ref a4, .ref a5, .ref a6])), (a0, .inl (cI, 22, .inl (gl [0, 0, 0, 0, 4, 0, 0, 0, 0, 0, 0, 0, (-1), (-1), 0, 0, 0, p2, 0, 4, 0, 16])))] := hD
          refine lv_iconst (v := 0) hx hb dX2_tellHush_38 (by decide) ?_
          have e_0 : (pfX2_tellHush_0_r p1 p2) = 0 := by rw [pfX2_tellHush_0_r, if_neg c_1, if_pos c_4, if_neg c_5, if_pos c_6]
          have e_1 : (pfX2_tellHush_0_a0_16 p1 p2) = 0 := by rw [pfX2_tellHush_0_a0_16, if_neg c_1]
          have e_2 : (pfX2_tellHush_0_a0_17 p1 p2) = p2 := by rw [pfX2_tellHush_0_a0_17, if_neg c_1, if_pos c_4, if_neg c_5, if_pos c_6]
          have hP9 := hP.sub (ws' := [(h, .inr (2, [.ref a0, .ref a1, .ref a2, .ref a3, .ref a4, .ref a5, .ref a6])), (a0, .inl (cI, 22, .inl (gl [0, 0, 0, 0, 4, 0, 0, 0, 0, 0, 0, 0, (-1), (-1), 0, 0, 0, p2, 0, 4, 0, 16])))]) [0, 1] rfl
          have hD9 := hD.sub (ws' := [(h, .inr (2, [.ref a0, .ref a1, .ref a2, .ref a3, .ref a4, .ref a5, .ref a6])), (a0, .inl (cI, 22, .inl (gl [0, 0, 0, 0, 4, 0, 0, 0, 0, 0, 0, 0, (-1), (-1), 0, 0, 0, p2, 0, 4, 0, 16])))]) [0, 1] (by decide) rfl
          exact W.iret (v := 0) hx hb hr (fun t ht hW => ⟨⟨0, (), rfl, e_0.symm, by rw [ht, e_1, e_2]; exact hP9, va_K.moved hW.alike hK, (by rw [e_1, e_2]; exact hD9)⟩, hS.F ht⟩) hS.2.2 dX2_tellHush_39
        · refine lv_iconst (v := (-1)) hx hb dX2_tellHush_18 (by decide) ?_
          have e_0 : (pfX2_tellHush_0_r p1 p2) = (-1) := by rw [pfX2_tellHush_0_r, if_neg c_1, if_pos c_4, if_neg c_5, if_neg c_6]
          have e_1 : (pfX2_tellHush_0_a0_16 p1 p2) = 0 := by rw [pfX2_tellHush_0_a0_16, if_neg c_1]
          have e_2 : (pfX2_tellHush_0_a0_17 p1 p2) = 0 := by rw [pfX2_tellHush_0_a0_17, if_neg c_1, if_pos c_4, if_neg c_5, if_neg c_6]
          have hP9 := hP.sub (ws' := [(h, .inr (2, [.ref a0, .ref a1, .ref a2, .ref a3, .ref a4, .ref a5, .ref a6])), (a0, .inl (cI, 22, .inl (gl [0, 0, 0, 0, 4, 0, 0, 0, 0, 0, 0, 0, (-1), (-1), 0, 0, 0, 0, 0, 4, 0, 16])))]) [0, 1] rfl
          have hD9 := hD.sub (ws' := [(h, .inr (2, [.ref a0, .ref a1, .ref a2, .ref a3, .ref a4, .ref a5, .ref a6])), (a0, .inl (cI, 22, .inl (gl [0, 0, 0, 0, 4, 0, 0, 0, 0, 0, 0, 0, (-1), (-1), 0, 0, 0, 0, 0, 4, 0, 16])))]) [0, 1] (by decide) rfl
          exact W.iret (v := (-1)) hx hb hr (fun t ht hW => ⟨⟨(-1), (), rfl, e_0.symm, by rw [ht, e_1, e_2]; exact hP9, va_K.moved hW.alike hK, (by rw [e_1, e_2]; exact hD9)⟩, hS.F ht⟩) hS.2.2 dX2_tellHush_19

set_option maxHeartbeats 4000000 in
set_option maxRecDepth 100000 in
theorem kkX7_hush (l : Launch) (dC : Nat → ClassId) (dI : Nat → Nat → Nat) (cI cB cZ cR : ClassId) (sz : Nat) (x : Nat) (xt : Nat) (xd : Nat) (h : Nat) (xk : Nat) (xl : Nat) (xw : Nat) (xp : Nat) (xs : Nat) (xr : Nat) (a0 : Nat) (a1 : Nat) (a2 : Nat) (a3 : Nat) (a4 : Nat) (a5 : Nat) (a6 : Nat) (p1 : Int32) (p2 : Int32) : Met l yX7_hush (.code yX7_hush cX7_hush 3 (some .int) :: wsL_law) ({ frames := 1, cells := 0, slots := 0, locals := 22 }) (zPc dC dI (zT cI cB cZ cR) [.ref x, .int p1, .int p2] sz [(x, .inr (7, [.ref xt, .ref xd, .ref h, .ref xk, .ref xl, .ref xw, .ref xp, .ref xs, .ref xr, .int 0, .int (-1), .int 0, .null])), (h, .inr (2, [.ref a0, .ref a1, .ref a2, .ref a3, .ref a4, .ref a5, .ref a6])), (a0, .inl (cI, 22, .inl (gl [0, 0, 0, 0, 4, 0, 0, 0, 0, 0, 0, 0, (-1), (-1), 0, 0, 0, 0, 0, 4, 0, 16])))]) (va_Qi (fun (r : Int32) (_ : Unit) => r = (pfX2_tellHush_0_r p1 p2)) (fun _ : Unit => zB dC dI (zT cI cB cZ cR) (va_A [(x, .inr (7, [.ref xt, .ref xd, .ref h, .ref xk, .ref xl, .ref xw, .ref xp, .ref xs, .ref xr, .int 0, .int (-1), .int 0, .null])), (h, .inr (2, [.ref a0, .ref a1, .ref a2, .ref a3, .ref a4, .ref a5, .ref a6])), (a0, .inl (cI, 22, .inl (gl [0, 0, 0, 0, 4, 0, 0, 0, 0, 0, 0, 0, (-1), (-1), 0, 0, 0, 0, 0, 4, 0, 16])))] sz) [(x, .inr (7, [.ref xt, .ref xd, .ref h, .ref xk, .ref xl, .ref xw, .ref xp, .ref xs, .ref xr, .int 0, .int (-1), .int 0, .null])), (h, .inr (2, [.ref a0, .ref a1, .ref a2, .ref a3, .ref a4, .ref a5, .ref a6])), (a0, .inl (cI, 22, .inl (gl [0, 0, 0, 0, 4, 0, 0, 0, 0, 0, 0, 0, (-1), (-1), 0, 0, (pfX2_tellHush_0_a0_16 p1 p2), (pfX2_tellHush_0_a0_17 p1 p2), 0, 4, 0, 16])))]) (va_A [(x, .inr (7, [.ref xt, .ref xd, .ref h, .ref xk, .ref xl, .ref xw, .ref xp, .ref xs, .ref xr, .int 0, .int (-1), .int 0, .null])), (h, .inr (2, [.ref a0, .ref a1, .ref a2, .ref a3, .ref a4, .ref a5, .ref a6])), (a0, .inl (cI, 22, .inl (gl [0, 0, 0, 0, 4, 0, 0, 0, 0, 0, 0, 0, (-1), (-1), 0, 0, 0, 0, 0, 4, 0, 16])))] sz)) 0 0 (va_A [(x, .inr (7, [.ref xt, .ref xd, .ref h, .ref xk, .ref xl, .ref xw, .ref xp, .ref xs, .ref xr, .int 0, .int (-1), .int 0, .null])), (h, .inr (2, [.ref a0, .ref a1, .ref a2, .ref a3, .ref a4, .ref a5, .ref a6])), (a0, .inl (cI, 22, .inl (gl [0, 0, 0, 0, 4, 0, 0, 0, 0, 0, 0, 0, (-1), (-1), 0, 0, 0, 0, 0, 4, 0, 16])))] sz) := by
  refine Met.ofW (cc := cX7_hush) (maxL := 3) (ret := (some .int)) (by decide) rfl ?_
  intro p e s m args below meth c s₁ B hml hv
  obtain ⟨rfl, hsz, hP, hK, hD0, hN⟩ := hv
  have hx := B.exec
  have hb := B.bytes
  have hr := B.returns
  have hts := atoms_spec (ws := (.code yX7_hush cX7_hush 3 (some .int) :: wsL_law)) B.pre
  have hown : s.vm.findClass RX7 = some m.cls := findClass_of_methodNamed B.named
  have hlocks := B.notSynchronized
  have hinX7 : ∀ w ∈ u_ws RX7 TX7 13, w ∈ (.code yX7_hush cX7_hush 3 (some .int) :: wsL_law) := fun w h => List.mem_cons_of_mem _ (inlX7 w h)
  have k_0 := hts (.fieldLink RX7 26 "RingMarks" "ring" "LRingMarks$Ring;") (List.mem_cons_of_mem _ wm_23)
  subst hsz
  have hD := hD0.self (sz := s.heap.size)
  generalize hAe : va_A [(x, .inr (7, [.ref xt, .ref xd, .ref h, .ref xk, .ref xl, .ref xw, .ref xp, .ref xs, .ref xr, .int 0, .int (-1), .int 0, .null])), (h, .inr (2, [.ref a0, .ref a1, .ref a2, .ref a3, .ref a4, .ref a5, .ref a6])), (a0, .inl (cI, 22, .inl (gl [0, 0, 0, 0, 4, 0, 0, 0, 0, 0, 0, 0, (-1), (-1), 0, 0, 0, 0, 0, 4, 0, 16])))] s.heap.size = A at hD ⊢
  have hA : ∀ q : Nat, s.heap.size ≤ q → A q := fun q h => by rw [← hAe]; exact Or.inr h
  have hP : va_P (dC, dI) vwCl [(x, .inr (7, [.ref xt, .ref xd, .ref h, .ref xk, .ref xl, .ref xw, .ref xp, .ref xs, .ref xr, .int 0, .int (-1), .int 0, .null])), (h, .inr (2, [.ref a0, .ref a1, .ref a2, .ref a3, .ref a4, .ref a5, .ref a6])), (a0, .inl (cI, 22, .inl (gl [0, 0, 0, 0, 4, 0, 0, 0, 0, 0, 0, 0, (-1), (-1), 0, 0, 0, 0, 0, 4, 0, 16])))] s.heap := hP
  have hl := lv_entry ([.ref x, .int p1, .int p2]) (n := 3) (Nat.le_of_ble_eq_true rfl)
  rw [lg_entry_eq]
  generalize (lg_sl ([.ref x, .int p1, .int p2]) ++ List.replicate (3 - (lg_sl ([.ref x, .int p1, .int p2])).length) Slot.unset).toArray = ls at hl ⊢
  have hl : lv_has ls 3 [(0, .ref x), (1, .int p1), (2, .int p2)] := hl
  obtain ⟨H, hH⟩ : ∃ H, H = s.heap := ⟨_, rfl⟩
  rw [← hH] at hP ⊢
  have hS : va_S A s.heap H [] := by rw [hH]; exact va_S.rf
  refine lv_aload_n hx hb dX7_hush_0 rfl (lv_at hl 0 rfl) ?_
  refine va_get (D := (dC, dI)) (ci := 7) (v := .ref h) (C := RX7) (T := TX7) (N := 13) hx hb hts hinX7 hown hK hP 0 rfl rfl 2 (by decide) k_0 (fun _ h9 => h9) rfl dX7_hush_1 ?_
  refine lv_iload_n hx hb dX7_hush_4 rfl (lv_at hl 1 rfl) ?_
  refine lv_iload_n hx hb dX7_hush_5 rfl (lv_at hl 2 rfl) ?_
  refine zcVi (As := [.int p1, .int p2]) (rest := []) (wr := [(x, .inr (7, [.ref xt, .ref xd, .ref h, .ref xk, .ref xl, .ref xw, .ref xp, .ref xs, .ref xr, .int 0, .int (-1), .int 0, .null]))]) ⟨hx, hb, hml, hown, hts⟩ (kkX2_tellHush_0 l dC dI cI cB cZ cR H.size h a0 a1 a2 a3 a4 a5 a6 p1 p2 ) (cwV 2 hts (zgV wm_698 wm_699 wm_700 wm_22 wm_701) rfl rfl rfl (by decide +kernel) ⟨Nat.le_of_ble_eq_true rfl, Nat.le_of_ble_eq_true rfl⟩) hN hK hP hD hS hA [1, 2] [0] rfl rfl ⟨rfl, rfl⟩ (by decide) (ci := 2) rfl rfl rfl rfl hl.1 rfl (Nat.le_of_ble_eq_true rfl) dX7_hush_6 ⟨Nat.le_of_ble_eq_true rfl, Nat.le_of_ble_eq_true rfl⟩ (fun r u hu H locs hP hD hS => ?_)
  have hu : r = (pfX2_tellHush_0_r p1 p2) := hu
  subst hu
  have hP : va_P (dC, dI) vwCl [(x, .inr (7, [.ref xt, .ref xd, .ref h, .ref xk, .ref xl, .ref xw, .ref xp, .ref xs, .ref xr, .int 0, .int (-1), .int 0, .null])), (h, .inr (2, [.ref a0, .ref a1, .ref a2, .ref a3, .ref a4, .ref a5, .ref a6])), (a0, .inl (cI, 22, .inl (gl [0, 0, 0, 0, 4, 0, 0, 0, 0, 0, 0, 0, (-1), (-1), 0, 0, (pfX2_tellHush_0_a0_16 p1 p2), (pfX2_tellHush_0_a0_17 p1 p2), 0, 4, 0, 16])))] H := hP
  have hD : va_D A [(x, .inr (7, [.ref xt, .ref xd, .ref h, .ref xk, .ref xl, .ref xw, .ref xp, .ref xs, .ref xr, .int 0, .int (-1), .int 0, .null])), (h, .inr (2, [.ref a0, .ref a1, .ref a2, .ref a3, .ref a4, .ref a5, .ref a6])), (a0, .inl (cI, 22, .inl (gl [0, 0, 0, 0, 4, 0, 0, 0, 0, 0, 0, 0, (-1), (-1), 0, 0, (pfX2_tellHush_0_a0_16 p1 p2), (pfX2_tellHush_0_a0_17 p1 p2), 0, 4, 0, 16])))] := hD
  have hP9 := hP.sub (ws' := [(x, .inr (7, [.ref xt, .ref xd, .ref h, .ref xk, .ref xl, .ref xw, .ref xp, .ref xs, .ref xr, .int 0, .int (-1), .int 0, .null])), (h, .inr (2, [.ref a0, .ref a1, .ref a2, .ref a3, .ref a4, .ref a5, .ref a6])), (a0, .inl (cI, 22, .inl (gl [0, 0, 0, 0, 4, 0, 0, 0, 0, 0, 0, 0, (-1), (-1), 0, 0, (pfX2_tellHush_0_a0_16 p1 p2), (pfX2_tellHush_0_a0_17 p1 p2), 0, 4, 0, 16])))]) [0, 1, 2] rfl
  have hD9 := hD.sub (ws' := [(x, .inr (7, [.ref xt, .ref xd, .ref h, .ref xk, .ref xl, .ref xw, .ref xp, .ref xs, .ref xr, .int 0, .int (-1), .int 0, .null])), (h, .inr (2, [.ref a0, .ref a1, .ref a2, .ref a3, .ref a4, .ref a5, .ref a6])), (a0, .inl (cI, 22, .inl (gl [0, 0, 0, 0, 4, 0, 0, 0, 0, 0, 0, 0, (-1), (-1), 0, 0, (pfX2_tellHush_0_a0_16 p1 p2), (pfX2_tellHush_0_a0_17 p1 p2), 0, 4, 0, 16])))]) [0, 1, 2] (by decide) rfl
  exact W.iret (v := (pfX2_tellHush_0_r p1 p2)) hx hb hr (fun t ht hW => ⟨⟨(pfX2_tellHush_0_r p1 p2), (), rfl, rfl, by rw [ht]; exact hP9, va_K.moved hW.alike hK, hD9⟩, hS.F ht⟩) hS.2.2 dX7_hush_9

set_option maxHeartbeats 4000000 in
set_option maxRecDepth 100000 in
theorem kkX7_drained (l : Launch) (dC : Nat → ClassId) (dI : Nat → Nat → Nat) (cI cB cZ cR : ClassId) (sz : Nat) (x : Nat) (xt : Nat) (xd : Nat) (h : Nat) (xk : Nat) (xl : Nat) (xw : Nat) (xp : Nat) (xs : Nat) (xr : Nat) (p1 : Int32) : Met l yX7_drained (.code yX7_drained cX7_drained 2 (some .int) :: wsL_law) ({ frames := 0, cells := 0, slots := 0, locals := 0 }) (zPc dC dI (zT cI cB cZ cR) [.ref x, .int p1] sz [(x, .inr (7, [.ref xt, .ref xd, .ref h, .ref xk, .ref xl, .ref xw, .ref xp, .ref xs, .ref xr, .int 0, .int (-1), .int 0, .null]))]) (va_Qi (fun (r : Int32) (_ : Unit) => r = (-1)) (fun _ : Unit => zB dC dI (zT cI cB cZ cR) (va_A [(x, .inr (7, [.ref xt, .ref xd, .ref h, .ref xk, .ref xl, .ref xw, .ref xp, .ref xs, .ref xr, .int 0, .int (-1), .int 0, .null]))] sz) [(x, .inr (7, [.ref xt, .ref xd, .ref h, .ref xk, .ref xl, .ref xw, .ref xp, .ref xs, .ref xr, .int 0, .int (-1), .int 0, .null]))]) (va_A [(x, .inr (7, [.ref xt, .ref xd, .ref h, .ref xk, .ref xl, .ref xw, .ref xp, .ref xs, .ref xr, .int 0, .int (-1), .int 0, .null]))] sz)) 0 0 (va_A [(x, .inr (7, [.ref xt, .ref xd, .ref h, .ref xk, .ref xl, .ref xw, .ref xp, .ref xs, .ref xr, .int 0, .int (-1), .int 0, .null]))] sz) := by
  refine Met.ofW (cc := cX7_drained) (maxL := 2) (ret := (some .int)) (by decide) rfl ?_
  intro p e s m args below meth c s₁ B hml hv
  obtain ⟨rfl, hsz, hP, hK, hD0, hN⟩ := hv
  have hx := B.exec
  have hb := B.bytes
  have hr := B.returns
  have hts := atoms_spec (ws := (.code yX7_drained cX7_drained 2 (some .int) :: wsL_law)) B.pre
  have hown : s.vm.findClass RX7 = some m.cls := findClass_of_methodNamed B.named
  have hlocks := B.notSynchronized
  have hinX7 : ∀ w ∈ u_ws RX7 TX7 13, w ∈ (.code yX7_drained cX7_drained 2 (some .int) :: wsL_law) := fun w h => List.mem_cons_of_mem _ (inlX7 w h)
  have k_0 := hts (.fieldLink RX7 62 "RingMarks" "drainedCount" "I") (List.mem_cons_of_mem _ wm_40)
  subst hsz
  have hD := hD0.self (sz := s.heap.size)
  generalize hAe : va_A [(x, .inr (7, [.ref xt, .ref xd, .ref h, .ref xk, .ref xl, .ref xw, .ref xp, .ref xs, .ref xr, .int 0, .int (-1), .int 0, .null]))] s.heap.size = A at hD ⊢
  have hA : ∀ q : Nat, s.heap.size ≤ q → A q := fun q h => by rw [← hAe]; exact Or.inr h
  have hP : va_P (dC, dI) vwCl [(x, .inr (7, [.ref xt, .ref xd, .ref h, .ref xk, .ref xl, .ref xw, .ref xp, .ref xs, .ref xr, .int 0, .int (-1), .int 0, .null]))] s.heap := hP
  have hl := lv_entry ([.ref x, .int p1]) (n := 2) (Nat.le_of_ble_eq_true rfl)
  rw [lg_entry_eq]
  generalize (lg_sl ([.ref x, .int p1]) ++ List.replicate (2 - (lg_sl ([.ref x, .int p1])).length) Slot.unset).toArray = ls at hl ⊢
  have hl : lv_has ls 2 [(0, .ref x), (1, .int p1)] := hl
  obtain ⟨H, hH⟩ : ∃ H, H = s.heap := ⟨_, rfl⟩
  rw [← hH] at hP ⊢
  have hS : va_S A s.heap H [] := by rw [hH]; exact va_S.rf
  refine lv_iload_n hx hb dX7_drained_0 rfl (lv_at hl 1 rfl) ?_
  refine lv_if_lt (tgt := 30) hx hb dX7_drained_1 (by decide) (fun c_1 => ?_) (fun c_1 => ?_)
  · refine lv_iconst (v := (-1)) hx hb dX7_drained_30 (by decide) ?_
    have hP9 := hP.sub (ws' := [(x, .inr (7, [.ref xt, .ref xd, .ref h, .ref xk, .ref xl, .ref xw, .ref xp, .ref xs, .ref xr, .int 0, .int (-1), .int 0, .null]))]) [0] rfl
    have hD9 := hD.sub (ws' := [(x, .inr (7, [.ref xt, .ref xd, .ref h, .ref xk, .ref xl, .ref xw, .ref xp, .ref xs, .ref xr, .int 0, .int (-1), .int 0, .null]))]) [0] (by decide) rfl
    exact W.iret (v := (-1)) hx hb hr (fun t ht hW => ⟨⟨(-1), (), rfl, rfl, by rw [ht]; exact hP9, va_K.moved hW.alike hK, hD9⟩, hS.F ht⟩) hS.2.2 dX7_drained_31
  · refine lv_iload_n hx hb dX7_drained_4 rfl (lv_at hl 1 rfl) ?_
    refine lv_aload_n hx hb dX7_drained_5 rfl (lv_at hl 0 rfl) ?_
    refine va_get (D := (dC, dI)) (ci := 7) (v := .int 0) (C := RX7) (T := TX7) (N := 13) hx hb hts hinX7 hown hK hP 0 rfl rfl 9 (by decide) k_0 (fun _ h9 => h9) rfl dX7_drained_6 ?_
    refine lv_icmp_ge (tgt := 30) hx hb dX7_drained_9 (by decide) (fun _ => ?_) (fun c => absurd (znl c_1) c)
    refine lv_iconst (v := (-1)) hx hb dX7_drained_30 (by decide) ?_
    have hP9 := hP.sub (ws' := [(x, .inr (7, [.ref xt, .ref xd, .ref h, .ref xk, .ref xl, .ref xw, .ref xp, .ref xs, .ref xr, .int 0, .int (-1), .int 0, .null]))]) [0] rfl
    have hD9 := hD.sub (ws' := [(x, .inr (7, [.ref xt, .ref xd, .ref h, .ref xk, .ref xl, .ref xw, .ref xp, .ref xs, .ref xr, .int 0, .int (-1), .int 0, .null]))]) [0] (by decide) rfl
    exact W.iret (v := (-1)) hx hb hr (fun t ht hW => ⟨⟨(-1), (), rfl, rfl, by rw [ht]; exact hP9, va_K.moved hW.alike hK, hD9⟩, hS.F ht⟩) hS.2.2 dX7_drained_31

def pfX7_spoil_r (p1 : Int32) (p2 : Int32) (p3 : Int32) (p4 : Int32) : Int32 := if p3 = 0 then (if (pfX2_cell_r 4 (fun _ => 0) p1 p2 p3) = (-1) then (-1) else (if p4 < 0 then (-1) else (if p4 ≤ 999 then (pfX2_cell_r 4 (fun _ => 0) p1 p2 p3) else (-1)))) else (if p3 = 1 then (if (pfX2_cell_r 4 (fun _ => 0) p1 p2 p3) = (-1) then (-1) else (if p4 < 0 then (-1) else (if p4 ≤ 31 then (pfX2_cell_r 4 (fun _ => 0) p1 p2 p3) else (-1)))) else (if (pfX2_cell_r 4 (fun _ => 0) p1 p2 p3) = (-1) then (-1) else (if p4 < 0 then (-1) else (if p4 ≤ 99 then (pfX2_cell_r 4 (fun _ => 0) p1 p2 p3) else (-1)))))
def pfX7_spoil_a1_f (p1 : Int32) (p2 : Int32) (p3 : Int32) (p4 : Int32) : Nat → Int32 := if p3 = 0 then (if (pfX2_cell_r 4 (fun _ => 0) p1 p2 p3) = (-1) then (fun _ => 0) else (if p4 < 0 then (fun _ => 0) else (if p4 ≤ 999 then (pfX2_putCell_a1_f 4 (fun _ => 0) p1 p2 p3 p4) else (fun _ => 0)))) else (if p3 = 1 then (if (pfX2_cell_r 4 (fun _ => 0) p1 p2 p3) = (-1) then (fun _ => 0) else (if p4 < 0 then (fun _ => 0) else (if p4 ≤ 31 then (pfX2_putCell_a1_f 4 (fun _ => 0) p1 p2 p3 p4) else (fun _ => 0)))) else (if (pfX2_cell_r 4 (fun _ => 0) p1 p2 p3) = (-1) then (fun _ => 0) else (if p4 < 0 then (fun _ => 0) else (if p4 ≤ 99 then (pfX2_putCell_a1_f 4 (fun _ => 0) p1 p2 p3 p4) else (fun _ => 0)))))
set_option maxHeartbeats 4000000 in
set_option maxRecDepth 100000 in
theorem kkX7_spoil (l : Launch) (dC : Nat → ClassId) (dI : Nat → Nat → Nat) (cI cB cZ cR : ClassId) (sz : Nat) (x : Nat) (xt : Nat) (xd : Nat) (h : Nat) (xk : Nat) (xl : Nat) (xw : Nat) (xp : Nat) (xs : Nat) (xr : Nat) (a0 : Nat) (a1 : Nat) (a2 : Nat) (a3 : Nat) (a4 : Nat) (a5 : Nat) (a6 : Nat) (p1 : Int32) (p2 : Int32) (p3 : Int32) (p4 : Int32) : Met l yX7_spoil (.code yX7_spoil cX7_spoil 7 (some .int) :: wsL_law) ({ frames := 1, cells := 0, slots := 0, locals := 25 }) (zPc dC dI (zT cI cB cZ cR) [.ref x, .int p1, .int p2, .int p3, .int p4] sz [(x, .inr (7, [.ref xt, .ref xd, .ref h, .ref xk, .ref xl, .ref xw, .ref xp, .ref xs, .ref xr, .int 0, .int (-1), .int 0, .null])), (h, .inr (2, [.ref a0, .ref a1, .ref a2, .ref a3, .ref a4, .ref a5, .ref a6])), (a1, .inl (cI, 120, .inl (fun _ => 0))), (a2, .inl (cI, 5, .inl (gl [4, 0, 0, 0, 0])))]) (va_Qi (fun (r : Int32) (_ : Unit) => r = (pfX7_spoil_r p1 p2 p3 p4)) (fun _ : Unit => zB dC dI (zT cI cB cZ cR) (va_A [(x, .inr (7, [.ref xt, .ref xd, .ref h, .ref xk, .ref xl, .ref xw, .ref xp, .ref xs, .ref xr, .int 0, .int (-1), .int 0, .null])), (h, .inr (2, [.ref a0, .ref a1, .ref a2, .ref a3, .ref a4, .ref a5, .ref a6])), (a1, .inl (cI, 120, .inl (fun _ => 0))), (a2, .inl (cI, 5, .inl (gl [4, 0, 0, 0, 0])))] sz) [(x, .inr (7, [.ref xt, .ref xd, .ref h, .ref xk, .ref xl, .ref xw, .ref xp, .ref xs, .ref xr, .int 0, .int (-1), .int 0, .null])), (h, .inr (2, [.ref a0, .ref a1, .ref a2, .ref a3, .ref a4, .ref a5, .ref a6])), (a1, .inl (cI, 120, .inl (pfX7_spoil_a1_f p1 p2 p3 p4))), (a2, .inl (cI, 5, .inl (gl [4, 0, 0, 0, 0])))]) (va_A [(x, .inr (7, [.ref xt, .ref xd, .ref h, .ref xk, .ref xl, .ref xw, .ref xp, .ref xs, .ref xr, .int 0, .int (-1), .int 0, .null])), (h, .inr (2, [.ref a0, .ref a1, .ref a2, .ref a3, .ref a4, .ref a5, .ref a6])), (a1, .inl (cI, 120, .inl (fun _ => 0))), (a2, .inl (cI, 5, .inl (gl [4, 0, 0, 0, 0])))] sz)) 0 0 (va_A [(x, .inr (7, [.ref xt, .ref xd, .ref h, .ref xk, .ref xl, .ref xw, .ref xp, .ref xs, .ref xr, .int 0, .int (-1), .int 0, .null])), (h, .inr (2, [.ref a0, .ref a1, .ref a2, .ref a3, .ref a4, .ref a5, .ref a6])), (a1, .inl (cI, 120, .inl (fun _ => 0))), (a2, .inl (cI, 5, .inl (gl [4, 0, 0, 0, 0])))] sz) := by
  refine Met.ofW (cc := cX7_spoil) (maxL := 7) (ret := (some .int)) (by decide) rfl ?_
  intro p e s m args below meth c s₁ B hml hv
  obtain ⟨rfl, hsz, hP, hK, hD0, hN⟩ := hv
  have hx := B.exec
  have hb := B.bytes
  have hr := B.returns
  have hts := atoms_spec (ws := (.code yX7_spoil cX7_spoil 7 (some .int) :: wsL_law)) B.pre
  have hown : s.vm.findClass RX7 = some m.cls := findClass_of_methodNamed B.named
  have hlocks := B.notSynchronized
  have hinX7 : ∀ w ∈ u_ws RX7 TX7 13, w ∈ (.code yX7_spoil cX7_spoil 7 (some .int) :: wsL_law) := fun w h => List.mem_cons_of_mem _ (inlX7 w h)
  have k_0 := hts (.fieldLink RX7 26 "RingMarks" "ring" "LRingMarks$Ring;") (List.mem_cons_of_mem _ wm_23)
  subst hsz
  have hD := hD0.self (sz := s.heap.size)
  generalize hAe : va_A [(x, .inr (7, [.ref xt, .ref xd, .ref h, .ref xk, .ref xl, .ref xw, .ref xp, .ref xs, .ref xr, .int 0, .int (-1), .int 0, .null])), (h, .inr (2, [.ref a0, .ref a1, .ref a2, .ref a3, .ref a4, .ref a5, .ref a6])), (a1, .inl (cI, 120, .inl (fun _ => 0))), (a2, .inl (cI, 5, .inl (gl [4, 0, 0, 0, 0])))] s.heap.size = A at hD ⊢
  have hA : ∀ q : Nat, s.heap.size ≤ q → A q := fun q h => by rw [← hAe]; exact Or.inr h
  have hP : va_P (dC, dI) vwCl [(x, .inr (7, [.ref xt, .ref xd, .ref h, .ref xk, .ref xl, .ref xw, .ref xp, .ref xs, .ref xr, .int 0, .int (-1), .int 0, .null])), (h, .inr (2, [.ref a0, .ref a1, .ref a2, .ref a3, .ref a4, .ref a5, .ref a6])), (a1, .inl (cI, 120, .inl (fun _ => 0))), (a2, .inl (cI, 5, .inl (gl [4, 0, 0, 0, 0])))] s.heap := hP
  have hl := lv_entry ([.ref x, .int p1, .int p2, .int p3, .int p4]) (n := 7) (Nat.le_of_ble_eq_true rfl)
  rw [lg_entry_eq]
  generalize (lg_sl ([.ref x, .int p1, .int p2, .int p3, .int p4]) ++ List.replicate (7 - (lg_sl ([.ref x, .int p1, .int p2, .int p3, .int p4])).length) Slot.unset).toArray = ls at hl ⊢
  have hl : lv_has ls 7 [(0, .ref x), (1, .int p1), (2, .int p2), (3, .int p3), (4, .int p4)] := hl
  obtain ⟨H, hH⟩ : ∃ H, H = s.heap := ⟨_, rfl⟩
  rw [← hH] at hP ⊢
  have hS : va_S A s.heap H [] := by rw [hH]; exact va_S.rf
  refine lv_iload_n hx hb dX7_spoil_0 rfl (lv_at hl 3 rfl) ?_
  refine lv_if_ne (tgt := 10) hx hb dX7_spoil_1 (by decide) (fun c_1 => ?_) (fun c_1 => ?_)
  · refine lv_iload_n hx hb dX7_spoil_10 rfl (lv_at hl 3 rfl) ?_
    refine lv_iconst (v := 1) hx hb dX7_spoil_11 (by decide) ?_
    refine lv_icmp_ne (tgt := 20) hx hb dX7_spoil_12 (by decide) (fun c_2 => ?_) (fun c_2 => ?_)
    · refine lv_bipush (v := 99) hx hb dX7_spoil_20 (by decide) ?_
      refine lv_istore (lv' := [(5, .int 99), (0, .ref x), (1, .int p1), (2, .int p2), (3, .int p3), (4, .int p4)]) hx hb dX7_spoil_22 hl (by decide) rfl (fun ls hl => ?_)
      refine lv_aload_n hx hb dX7_spoil_24 rfl (lv_at hl 1 rfl) ?_
      refine va_get (D := (dC, dI)) (ci := 7) (v := .ref h) (C := RX7) (T := TX7) (N := 13) hx hb hts hinX7 hown hK hP 0 rfl rfl 2 (by decide) k_0 (fun _ h9 => h9) rfl dX7_spoil_25 ?_
      refine lv_iload_n hx hb dX7_spoil_28 rfl (lv_at hl 2 rfl) ?_
      refine lv_iload_n hx hb dX7_spoil_29 rfl (lv_at hl 3 rfl) ?_
      refine lv_iload_n hx hb dX7_spoil_30 rfl (lv_at hl 4 rfl) ?_
      refine zcVi (As := [.int p1, .int p2, .int p3]) (rest := []) (wr := [(x, .inr (7, [.ref xt, .ref xd, .ref h, .ref xk, .ref xl, .ref xw, .ref xp, .ref xs, .ref xr, .int 0, .int (-1), .int 0, .null]))]) ⟨hx, hb, hml, hown, hts⟩ (kkX2_cell l dC dI cI cB cZ cR H.size h a0 a1 a2 a3 a4 a5 a6 4 (fun _ => 0) p1 p2 p3 ) (cwV 3 hts (zgV wm_731 wm_445 wm_446 wm_22 wm_447) rfl rfl rfl (by decide +kernel) ⟨Nat.le_of_ble_eq_true rfl, Nat.le_of_ble_eq_true rfl⟩) hN hK hP hD hS hA [1, 2, 3] [0] rfl rfl ⟨rfl, rfl⟩ (by decide) (ci := 2) rfl rfl rfl rfl hl.1 rfl (Nat.le_of_ble_eq_true rfl) dX7_spoil_31 ⟨Nat.le_of_ble_eq_true rfl, Nat.le_of_ble_eq_true rfl⟩ (fun r u hu H locs hP hD hS => ?_)
      have hu : r = (pfX2_cell_r 4 (fun _ => 0) p1 p2 p3) := hu
      subst hu
      have hP : va_P (dC, dI) vwCl [(x, .inr (7, [.ref xt, .ref xd, .ref h, .ref xk, .ref xl, .ref xw, .ref xp, .ref xs, .ref xr, .int 0, .int (-1), .int 0, .null])), (h, .inr (2, [.ref a0, .ref a1, .ref a2, .ref a3, .ref a4, .ref a5, .ref a6])), (a1, .inl (cI, 120, .inl (fun _ => 0))), (a2, .inl (cI, 5, .inl (gl [4, 0, 0, 0, 0])))] H := hP
      have hD : va_D A [(x, .inr (7, [.ref xt, .ref xd, .ref h, .ref xk, .ref xl, .ref xw, .ref xp, .ref xs, .ref xr, .int 0, .int (-1), .int 0, .null])), (h, .inr (2, [.ref a0, .ref a1, .ref a2, .ref a3, .ref a4, .ref a5, .ref a6])), (a1, .inl (cI, 120, .inl (fun _ => 0))), (a2, .inl (cI, 5, .inl (gl [4, 0, 0, 0, 0])))] := hD
      refine lv_istore (lv' := [(6, .int (pfX2_cell_r 4 (fun _ => 0) p1 p2 p3)), (5, .int 99), (0, .ref x), (1, .int p1), (2, .int p2), (3, .int p3), (4, .int p4)]) hx hb dX7_spoil_34 hl (by decide) rfl (fun ls hl => ?_)
      refine lv_iload hx hb dX7_spoil_36 (lv_at hl 0 rfl) ?_
      refine lv_iconst (v := (-1)) hx hb dX7_spoil_38 (by decide) ?_
      refine lv_icmp_eq (tgt := 54) hx hb dX7_spoil_39 (by decide) (fun c_3 => ?_) (fun c_3 => ?_)
      · refine lv_iconst (v := (-1)) hx hb dX7_spoil_54 (by decide) ?_
        have e_0 : (pfX7_spoil_r p1 p2 p3 p4) = (-1) := by rw [pfX7_spoil_r, if_neg c_1, if_neg c_2, if_pos c_3]
        have e_1 : (pfX7_spoil_a1_f p1 p2 p3 p4) = (fun _ => 0) := by rw [pfX7_spoil_a1_f, if_neg c_1, if_neg c_2, if_pos c_3]
        have hP9 := hP.sub (ws' := [(x, .inr (7, [.ref xt, .ref xd, .ref h, .ref xk, .ref xl, .ref xw, .ref xp, .ref xs, .ref xr, .int 0, .int (-1), .int 0, .null])), (h, .inr (2, [.ref a0, .ref a1, .ref a2, .ref a3, .ref a4, .ref a5, .ref a6])), (a1, .inl (cI, 120, .inl (fun _ => 0))), (a2, .inl (cI, 5, .inl (gl [4, 0, 0, 0, 0])))]) [0, 1, 2, 3] rfl
        have hD9 := hD.sub (ws' := [(x, .inr (7, [.ref xt, .ref xd, .ref h, .ref xk, .ref xl, .ref xw, .ref xp, .ref xs, .ref xr, .int 0, .int (-1), .int 0, .null])), (h, .inr (2, [.ref a0, .ref a1, .ref a2, .ref a3, .ref a4, .ref a5, .ref a6])), (a1, .inl (cI, 120, .inl (fun _ => 0))), (a2, .inl (cI, 5, .inl (gl [4, 0, 0, 0, 0])))]) [0, 1, 2, 3] (by decide) rfl
        exact W.iret (v := (-1)) hx hb hr (fun t ht hW => ⟨⟨(-1), (), rfl, e_0.symm, by rw [ht, e_1]; exact hP9, va_K.moved hW.alike hK, (by rw [e_1]; exact hD9)⟩, hS.F ht⟩) hS.2.2 dX7_spoil_55
      · refine lv_iload hx hb dX7_spoil_42 (lv_at hl 6 rfl) ?_
        refine lv_if_lt (tgt := 54) hx hb dX7_spoil_44 (by decide) (fun c_4 => ?_) (fun c_4 => ?_)
        · refine lv_iconst (v := (-1)) hx hb dX7_spoil_54 (by decide) ?_
          have e_0 : (pfX7_spoil_r p1 p2 p3 p4) = (-1) := by rw [pfX7_spoil_r, if_neg c_1, if_neg c_2, if_neg c_3, if_pos c_4]
          have e_1 : (pfX7_spoil_a1_f p1 p2 p3 p4) = (fun _ => 0) := by rw [pfX7_spoil_a1_f, if_neg c_1, if_neg c_2, if_neg c_3, if_pos c_4]
          have hP9 := hP.sub (ws' := [(x, .inr (7, [.ref xt, .ref xd, .ref h, .ref xk, .ref xl, .ref xw, .ref xp, .ref xs, .ref xr, .int 0, .int (-1), .int 0, .null])), (h, .inr (2, [.ref a0, .ref a1, .ref a2, .ref a3, .ref a4, .ref a5, .ref a6])), (a1, .inl (cI, 120, .inl (fun _ => 0))), (a2, .inl (cI, 5, .inl (gl [4, 0, 0, 0, 0])))]) [0, 1, 2, 3] rfl
          have hD9 := hD.sub (ws' := [(x, .inr (7, [.ref xt, .ref xd, .ref h, .ref xk, .ref xl, .ref xw, .ref xp, .ref xs, .ref xr, .int 0, .int (-1), .int 0, .null])), (h, .inr (2, [.ref a0, .ref a1, .ref a2, .ref a3, .ref a4, .ref a5, .ref a6])), (a1, .inl (cI, 120, .inl (fun _ => 0))), (a2, .inl (cI, 5, .inl (gl [4, 0, 0, 0, 0])))]) [0, 1, 2, 3] (by decide) rfl
          exact W.iret (v := (-1)) hx hb hr (fun t ht hW => ⟨⟨(-1), (), rfl, e_0.symm, by rw [ht, e_1]; exact hP9, va_K.moved hW.alike hK, (by rw [e_1]; exact hD9)⟩, hS.F ht⟩) hS.2.2 dX7_spoil_55
        · refine lv_iload hx hb dX7_spoil_47 (lv_at hl 6 rfl) ?_
          refine lv_iload hx hb dX7_spoil_49 (lv_at hl 1 rfl) ?_
          refine lv_icmp_le (tgt := 56) hx hb dX7_spoil_51 (by decide) (fun c_5 => ?_) (fun c_5 => ?_)
          · refine lv_aload_n hx hb dX7_spoil_56 rfl (lv_at hl 2 rfl) ?_
            refine va_get (D := (dC, dI)) (ci := 7) (v := .ref h) (C := RX7) (T := TX7) (N := 13) hx hb hts hinX7 hown hK hP 0 rfl rfl 2 (by decide) k_0 (fun _ h9 => h9) rfl dX7_spoil_57 ?_
            refine lv_iload_n hx hb dX7_spoil_60 rfl (lv_at hl 3 rfl) ?_
            refine lv_iload_n hx hb dX7_spoil_61 rfl (lv_at hl 4 rfl) ?_
            refine lv_iload_n hx hb dX7_spoil_62 rfl (lv_at hl 5 rfl) ?_
            refine lv_iload hx hb dX7_spoil_63 (lv_at hl 6 rfl) ?_
            refine zcVv (As := [.int p1, .int p2, .int p3, .int p4]) (rest := []) (wr := [(x, .inr (7, [.ref xt, .ref xd, .ref h, .ref xk, .ref xl, .ref xw, .ref xp, .ref xs, .ref xr, .int 0, .int (-1), .int 0, .null]))]) ⟨hx, hb, hml, hown, hts⟩ (kkX2_putCell l dC dI cI cB cZ cR H.size h a0 a1 a2 a3 a4 a5 a6 4 (fun _ => 0) p1 p2 p3 p4 ) (cwV 4 hts (zgV wm_732 wm_85 wm_86 wm_22 wm_87) rfl rfl rfl (by decide +kernel) ⟨Nat.le_of_ble_eq_true rfl, Nat.le_of_ble_eq_true rfl⟩) hN hK hP hD hS hA [1, 2, 3] [0] rfl rfl ⟨rfl, rfl⟩ (by decide) (ci := 2) rfl rfl rfl rfl hl.1 rfl (Nat.le_of_ble_eq_true rfl) dX7_spoil_65 ⟨Nat.le_of_ble_eq_true rfl, Nat.le_of_ble_eq_true rfl⟩ (fun u hu H locs hP hD hS => ?_)
            have hP : va_P (dC, dI) vwCl [(x, .inr (7, [.ref xt, .ref xd, .ref h, .ref xk, .ref xl, .ref xw, .ref xp, .ref xs, .ref xr, .int 0, .int (-1), .int 0, .null])), (h, .inr (2, [.ref a0, .ref a1, .ref a2, .ref a3, .ref a4, .ref a5, .ref a6])), (a1, .inl (cI, 120, .inl (pfX2_putCell_a1_f 4 (fun _ => 0) p1 p2 p3 p4))), (a2, .inl (cI, 5, .inl (gl [4, 0, 0, 0, 0])))] H := hP
            have hD : va_D A [(x, .inr (7, [.ref xt, .ref xd, .ref h, .ref xk, .ref xl, .ref xw, .ref xp, .ref xs, .ref xr, .int 0, .int (-1), .int 0, .null])), (h, .inr (2, [.ref a0, .ref a1, .ref a2, .ref a3, .ref a4, .ref a5, .ref a6])), (a1, .inl (cI, 120, .inl (pfX2_putCell_a1_f 4 (fun _ => 0) p1 p2 p3 p4))), (a2, .inl (cI, 5, .inl (gl [4, 0, 0, 0, 0])))] := hD
            refine lv_iload hx hb dX7_spoil_68 (lv_at hl 0 rfl) ?_
            have e_0 : (pfX7_spoil_r p1 p2 p3 p4) = (pfX2_cell_r 4 (fun _ => 0) p1 p2 p3) := by rw [pfX7_spoil_r, if_neg c_1, if_neg c_2, if_neg c_3, if_neg c_4, if_pos c_5]
            have e_1 : (pfX7_spoil_a1_f p1 p2 p3 p4) = (pfX2_putCell_a1_f 4 (fun _ => 0) p1 p2 p3 p4) := by rw [pfX7_spoil_a1_f, if_neg c_1, if_neg c_2, if_neg c_3, if_neg c_4, if_pos c_5]
            have hP9 := hP.sub (ws' := [(x, .inr (7, [.ref xt, .ref xd, .ref h, .ref xk, .ref xl, .ref xw, .ref xp, .ref xs, .ref xr, .int 0, .int (-1), .int 0, .null])), (h, .inr (2, [.ref a0, .ref a1, .ref a2, .ref a3, .ref a4, .ref a5, .ref a6])), (a1, .inl (cI, 120, .inl (pfX2_putCell_a1_f 4 (fun _ => 0) p1 p2 p3 p4))), (a2, .inl (cI, 5, .inl (gl [4, 0, 0, 0, 0])))]) [0, 1, 2, 3] rfl
            have hD9 := hD.sub (ws' := [(x, .inr (7, [.ref xt, .ref xd, .ref h, .ref xk, .ref xl, .ref xw, .ref xp, .ref xs, .ref xr, .int 0, .int (-1), .int 0, .null])), (h, .inr (2, [.ref a0, .ref a1, .ref a2, .ref a3, .ref a4, .ref a5, .ref a6])), (a1, .inl (cI, 120, .inl (pfX2_putCell_a1_f 4 (fun _ => 0) p1 p2 p3 p4))), (a2, .inl (cI, 5, .inl (gl [4, 0, 0, 0, 0])))]) [0, 1, 2, 3] (by decide) rfl
            exact W.iret (v := (pfX2_cell_r 4 (fun _ => 0) p1 p2 p3)) hx hb hr (fun t ht hW => ⟨⟨(pfX2_cell_r 4 (fun _ => 0) p1 p2 p3), (), rfl, e_0.symm, by rw [ht, e_1]; exact hP9, va_K.moved hW.alike hK, (by rw [e_1]; exact hD9)⟩, hS.F ht⟩) hS.2.2 dX7_spoil_70
          · refine lv_iconst (v := (-1)) hx hb dX7_spoil_54 (by decide) ?_
            have e_0 : (pfX7_spoil_r p1 p2 p3 p4) = (-1) := by rw [pfX7_spoil_r, if_neg c_1, if_neg c_2, if_neg c_3, if_neg c_4, if_neg c_5]
            have e_1 : (pfX7_spoil_a1_f p1 p2 p3 p4) = (fun _ => 0) := by rw [pfX7_spoil_a1_f, if_neg c_1, if_neg c_2, if_neg c_3, if_neg c_4, if_neg c_5]
            have hP9 := hP.sub (ws' := [(x, .inr (7, [.ref xt, .ref xd, .ref h, .ref xk, .ref xl, .ref xw, .ref xp, .ref xs, .ref xr, .int 0, .int (-1), .int 0, .null])), (h, .inr (2, [.ref a0, .ref a1, .ref a2, .ref a3, .ref a4, .ref a5, .ref a6])), (a1, .inl (cI, 120, .inl (fun _ => 0))), (a2, .inl (cI, 5, .inl (gl [4, 0, 0, 0, 0])))]) [0, 1, 2, 3] rfl
            have hD9 := hD.sub (ws' := [(x, .inr (7, [.ref xt, .ref xd, .ref h, .ref xk, .ref xl, .ref xw, .ref xp, .ref xs, .ref xr, .int 0, .int (-1), .int 0, .null])), (h, .inr (2, [.ref a0, .ref a1, .ref a2, .ref a3, .ref a4, .ref a5, .ref a6])), (a1, .inl (cI, 120, .inl (fun _ => 0))), (a2, .inl (cI, 5, .inl (gl [4, 0, 0, 0, 0])))]) [0, 1, 2, 3] (by decide) rfl
            exact W.iret (v := (-1)) hx hb hr (fun t ht hW => ⟨⟨(-1), (), rfl, e_0.symm, by rw [ht, e_1]; exact hP9, va_K.moved hW.alike hK, (by rw [e_1]; exact hD9)⟩, hS.F ht⟩) hS.2.2 dX7_spoil_55
    · refine lv_bipush (v := 31) hx hb dX7_spoil_15 (by decide) ?_
      refine lv_goto (tgt := 22) hx hb dX7_spoil_17 (by decide) ?_
      refine lv_istore (lv' := [(5, .int 31), (0, .ref x), (1, .int p1), (2, .int p2), (3, .int p3), (4, .int p4)]) hx hb dX7_spoil_22 hl (by decide) rfl (fun ls hl => ?_)
      refine lv_aload_n hx hb dX7_spoil_24 rfl (lv_at hl 1 rfl) ?_
      refine va_get (D := (dC, dI)) (ci := 7) (v := .ref h) (C := RX7) (T := TX7) (N := 13) hx hb hts hinX7 hown hK hP 0 rfl rfl 2 (by decide) k_0 (fun _ h9 => h9) rfl dX7_spoil_25 ?_
      refine lv_iload_n hx hb dX7_spoil_28 rfl (lv_at hl 2 rfl) ?_
      refine lv_iload_n hx hb dX7_spoil_29 rfl (lv_at hl 3 rfl) ?_
      refine lv_iload_n hx hb dX7_spoil_30 rfl (lv_at hl 4 rfl) ?_
      refine zcVi (As := [.int p1, .int p2, .int p3]) (rest := []) (wr := [(x, .inr (7, [.ref xt, .ref xd, .ref h, .ref xk, .ref xl, .ref xw, .ref xp, .ref xs, .ref xr, .int 0, .int (-1), .int 0, .null]))]) ⟨hx, hb, hml, hown, hts⟩ (kkX2_cell l dC dI cI cB cZ cR H.size h a0 a1 a2 a3 a4 a5 a6 4 (fun _ => 0) p1 p2 p3 ) (cwV 3 hts (zgV wm_731 wm_445 wm_446 wm_22 wm_447) rfl rfl rfl (by decide +kernel) ⟨Nat.le_of_ble_eq_true rfl, Nat.le_of_ble_eq_true rfl⟩) hN hK hP hD hS hA [1, 2, 3] [0] rfl rfl ⟨rfl, rfl⟩ (by decide) (ci := 2) rfl rfl rfl rfl hl.1 rfl (Nat.le_of_ble_eq_true rfl) dX7_spoil_31 ⟨Nat.le_of_ble_eq_true rfl, Nat.le_of_ble_eq_true rfl⟩ (fun r u hu H locs hP hD hS => ?_)
      have hu : r = (pfX2_cell_r 4 (fun _ => 0) p1 p2 p3) := hu
      subst hu
      have hP : va_P (dC, dI) vwCl [(x, .inr (7, [.ref xt, .ref xd, .ref h, .ref xk, .ref xl, .ref xw, .ref xp, .ref xs, .ref xr, .int 0, .int (-1), .int 0, .null])), (h, .inr (2, [.ref a0, .ref a1, .ref a2, .ref a3, .ref a4, .ref a5, .ref a6])), (a1, .inl (cI, 120, .inl (fun _ => 0))), (a2, .inl (cI, 5, .inl (gl [4, 0, 0, 0, 0])))] H := hP
      have hD : va_D A [(x, .inr (7, [.ref xt, .ref xd, .ref h, .ref xk, .ref xl, .ref xw, .ref xp, .ref xs, .ref xr, .int 0, .int (-1), .int 0, .null])), (h, .inr (2, [.ref a0, .ref a1, .ref a2, .ref a3, .ref a4, .ref a5, .ref a6])), (a1, .inl (cI, 120, .inl (fun _ => 0))), (a2, .inl (cI, 5, .inl (gl [4, 0, 0, 0, 0])))] := hD
      refine lv_istore (lv' := [(6, .int (pfX2_cell_r 4 (fun _ => 0) p1 p2 p3)), (5, .int 31), (0, .ref x), (1, .int p1), (2, .int p2), (3, .int p3), (4, .int p4)]) hx hb dX7_spoil_34 hl (by decide) rfl (fun ls hl => ?_)
      refine lv_iload hx hb dX7_spoil_36 (lv_at hl 0 rfl) ?_
      refine lv_iconst (v := (-1)) hx hb dX7_spoil_38 (by decide) ?_
      refine lv_icmp_eq (tgt := 54) hx hb dX7_spoil_39 (by decide) (fun c_6 => ?_) (fun c_6 => ?_)
      · refine lv_iconst (v := (-1)) hx hb dX7_spoil_54 (by decide) ?_
        have e_0 : (pfX7_spoil_r p1 p2 p3 p4) = (-1) := by rw [pfX7_spoil_r, if_neg c_1, if_pos c_2, if_pos c_6]
        have e_1 : (pfX7_spoil_a1_f p1 p2 p3 p4) = (fun _ => 0) := by rw [pfX7_spoil_a1_f, if_neg c_1, if_pos c_2, if_pos c_6]
        have hP9 := hP.sub (ws' := [(x, .inr (7, [.ref xt, .ref xd, .ref h, .ref xk, .ref xl, .ref xw, .ref xp, .ref xs, .ref xr, .int 0, .int (-1), .int 0, .null])), (h, .inr (2, [.ref a0, .ref a1, .ref a2, .ref a3, .ref a4, .ref a5, .ref a6])), (a1, .inl (cI, 120, .inl (fun _ => 0))), (a2, .inl (cI, 5, .inl (gl [4, 0, 0, 0, 0])))]) [0, 1, 2, 3] rfl
        have hD9 := hD.sub (ws' := [(x, .inr (7, [.ref xt, .ref xd, .ref h, .ref xk, .ref xl, .ref xw, .ref xp, .ref xs, .ref xr, .int 0, .int (-1), .int 0, .null])), (h, .inr (2, [.ref a0, .ref a1, .ref a2, .ref a3, .ref a4, .ref a5, .ref a6])), (a1, .inl (cI, 120, .inl (fun _ => 0))), (a2, .inl (cI, 5, .inl (gl [4, 0, 0, 0, 0])))]) [0, 1, 2, 3] (by decide) rfl
        exact W.iret (v := (-1)) hx hb hr (fun t ht hW => ⟨⟨(-1), (), rfl, e_0.symm, by rw [ht, e_1]; exact hP9, va_K.moved hW.alike hK, (by rw [e_1]; exact hD9)⟩, hS.F ht⟩) hS.2.2 dX7_spoil_55
      · refine lv_iload hx hb dX7_spoil_42 (lv_at hl 6 rfl) ?_
        refine lv_if_lt (tgt := 54) hx hb dX7_spoil_44 (by decide) (fun c_7 => ?_) (fun c_7 => ?_)
        · refine lv_iconst (v := (-1)) hx hb dX7_spoil_54 (by decide) ?_
          have e_0 : (pfX7_spoil_r p1 p2 p3 p4) = (-1) := by rw [pfX7_spoil_r, if_neg c_1, if_pos c_2, if_neg c_6, if_pos c_7]
          have e_1 : (pfX7_spoil_a1_f p1 p2 p3 p4) = (fun _ => 0) := by rw [pfX7_spoil_a1_f, if_neg c_1, if_pos c_2, if_neg c_6, if_pos c_7]
          have hP9 := hP.sub (ws' := [(x, .inr (7, [.ref xt, .ref xd, .ref h, .ref xk, .ref xl, .ref xw, .ref xp, .ref xs, .ref xr, .int 0, .int (-1), .int 0, .null])), (h, .inr (2, [.ref a0, .ref a1, .ref a2, .ref a3, .ref a4, .ref a5, .ref a6])), (a1, .inl (cI, 120, .inl (fun _ => 0))), (a2, .inl (cI, 5, .inl (gl [4, 0, 0, 0, 0])))]) [0, 1, 2, 3] rfl
          have hD9 := hD.sub (ws' := [(x, .inr (7, [.ref xt, .ref xd, .ref h, .ref xk, .ref xl, .ref xw, .ref xp, .ref xs, .ref xr, .int 0, .int (-1), .int 0, .null])), (h, .inr (2, [.ref a0, .ref a1, .ref a2, .ref a3, .ref a4, .ref a5, .ref a6])), (a1, .inl (cI, 120, .inl (fun _ => 0))), (a2, .inl (cI, 5, .inl (gl [4, 0, 0, 0, 0])))]) [0, 1, 2, 3] (by decide) rfl
          exact W.iret (v := (-1)) hx hb hr (fun t ht hW => ⟨⟨(-1), (), rfl, e_0.symm, by rw [ht, e_1]; exact hP9, va_K.moved hW.alike hK, (by rw [e_1]; exact hD9)⟩, hS.F ht⟩) hS.2.2 dX7_spoil_55
        · refine lv_iload hx hb dX7_spoil_47 (lv_at hl 6 rfl) ?_
          refine lv_iload hx hb dX7_spoil_49 (lv_at hl 1 rfl) ?_
          refine lv_icmp_le (tgt := 56) hx hb dX7_spoil_51 (by decide) (fun c_8 => ?_) (fun c_8 => ?_)
          · refine lv_aload_n hx hb dX7_spoil_56 rfl (lv_at hl 2 rfl) ?_
            refine va_get (D := (dC, dI)) (ci := 7) (v := .ref h) (C := RX7) (T := TX7) (N := 13) hx hb hts hinX7 hown hK hP 0 rfl rfl 2 (by decide) k_0 (fun _ h9 => h9) rfl dX7_spoil_57 ?_
            refine lv_iload_n hx hb dX7_spoil_60 rfl (lv_at hl 3 rfl) ?_
            refine lv_iload_n hx hb dX7_spoil_61 rfl (lv_at hl 4 rfl) ?_
            refine lv_iload_n hx hb dX7_spoil_62 rfl (lv_at hl 5 rfl) ?_
            refine lv_iload hx hb dX7_spoil_63 (lv_at hl 6 rfl) ?_
            refine zcVv (As := [.int p1, .int p2, .int p3, .int p4]) (rest := []) (wr := [(x, .inr (7, [.ref xt, .ref xd, .ref h, .ref xk, .ref xl, .ref xw, .ref xp, .ref xs, .ref xr, .int 0, .int (-1), .int 0, .null]))]) ⟨hx, hb, hml, hown, hts⟩ (kkX2_putCell l dC dI cI cB cZ cR H.size h a0 a1 a2 a3 a4 a5 a6 4 (fun _ => 0) p1 p2 p3 p4 ) (cwV 4 hts (zgV wm_732 wm_85 wm_86 wm_22 wm_87) rfl rfl rfl (by decide +kernel) ⟨Nat.le_of_ble_eq_true rfl, Nat.le_of_ble_eq_true rfl⟩) hN hK hP hD hS hA [1, 2, 3] [0] rfl rfl ⟨rfl, rfl⟩ (by decide) (ci := 2) rfl rfl rfl rfl hl.1 rfl (Nat.le_of_ble_eq_true rfl) dX7_spoil_65 ⟨Nat.le_of_ble_eq_true rfl, Nat.le_of_ble_eq_true rfl⟩ (fun u hu H locs hP hD hS => ?_)
            have hP : va_P (dC, dI) vwCl [(x, .inr (7, [.ref xt, .ref xd, .ref h, .ref xk, .ref xl, .ref xw, .ref xp, .ref xs, .ref xr, .int 0, .int (-1), .int 0, .null])), (h, .inr (2, [.ref a0, .ref a1, .ref a2, .ref a3, .ref a4, .ref a5, .ref a6])), (a1, .inl (cI, 120, .inl (pfX2_putCell_a1_f 4 (fun _ => 0) p1 p2 p3 p4))), (a2, .inl (cI, 5, .inl (gl [4, 0, 0, 0, 0])))] H := hP
            have hD : va_D A [(x, .inr (7, [.ref xt, .ref xd, .ref h, .ref xk, .ref xl, .ref xw, .ref xp, .ref xs, .ref xr, .int 0, .int (-1), .int 0, .null])), (h, .inr (2, [.ref a0, .ref a1, .ref a2, .ref a3, .ref a4, .ref a5, .ref a6])), (a1, .inl (cI, 120, .inl (pfX2_putCell_a1_f 4 (fun _ => 0) p1 p2 p3 p4))), (a2, .inl (cI, 5, .inl (gl [4, 0, 0, 0, 0])))] := hD
            refine lv_iload hx hb dX7_spoil_68 (lv_at hl 0 rfl) ?_
            have e_0 : (pfX7_spoil_r p1 p2 p3 p4) = (pfX2_cell_r 4 (fun _ => 0) p1 p2 p3) := by rw [pfX7_spoil_r, if_neg c_1, if_pos c_2, if_neg c_6, if_neg c_7, if_pos c_8]
            have e_1 : (pfX7_spoil_a1_f p1 p2 p3 p4) = (pfX2_putCell_a1_f 4 (fun _ => 0) p1 p2 p3 p4) := by rw [pfX7_spoil_a1_f, if_neg c_1, if_pos c_2, if_neg c_6, if_neg c_7, if_pos c_8]
            have hP9 := hP.sub (ws' := [(x, .inr (7, [.ref xt, .ref xd, .ref h, .ref xk, .ref xl, .ref xw, .ref xp, .ref xs, .ref xr, .int 0, .int (-1), .int 0, .null])), (h, .inr (2, [.ref a0, .ref a1, .ref a2, .ref a3, .ref a4, .ref a5, .ref a6])), (a1, .inl (cI, 120, .inl (pfX2_putCell_a1_f 4 (fun _ => 0) p1 p2 p3 p4))), (a2, .inl (cI, 5, .inl (gl [4, 0, 0, 0, 0])))]) [0, 1, 2, 3] rfl
            have hD9 := hD.sub (ws' := [(x, .inr (7, [.ref xt, .ref xd, .ref h, .ref xk, .ref xl, .ref xw, .ref xp, .ref xs, .ref xr, .int 0, .int (-1), .int 0, .null])), (h, .inr (2, [.ref a0, .ref a1, .ref a2, .ref a3, .ref a4, .ref a5, .ref a6])), (a1, .inl (cI, 120, .inl (pfX2_putCell_a1_f 4 (fun _ => 0) p1 p2 p3 p4))), (a2, .inl (cI, 5, .inl (gl [4, 0, 0, 0, 0])))]) [0, 1, 2, 3] (by decide) rfl
            exact W.iret (v := (pfX2_cell_r 4 (fun _ => 0) p1 p2 p3)) hx hb hr (fun t ht hW => ⟨⟨(pfX2_cell_r 4 (fun _ => 0) p1 p2 p3), (), rfl, e_0.symm, by rw [ht, e_1]; exact hP9, va_K.moved hW.alike hK, (by rw [e_1]; exact hD9)⟩, hS.F ht⟩) hS.2.2 dX7_spoil_70
          · refine lv_iconst (v := (-1)) hx hb dX7_spoil_54 (by decide) ?_
            have e_0 : (pfX7_spoil_r p1 p2 p3 p4) = (-1) := by rw [pfX7_spoil_r, if_neg c_1, if_pos c_2, if_neg c_6, if_neg c_7, if_neg c_8]
            have e_1 : (pfX7_spoil_a1_f p1 p2 p3 p4) = (fun _ => 0) := by rw [pfX7_spoil_a1_f, if_neg c_1, if_pos c_2, if_neg c_6, if_neg c_7, if_neg c_8]
            have hP9 := hP.sub (ws' := [(x, .inr (7, [.ref xt, .ref xd, .ref h, .ref xk, .ref xl, .ref xw, .ref xp, .ref xs, .ref xr, .int 0, .int (-1), .int 0, .null])), (h, .inr (2, [.ref a0, .ref a1, .ref a2, .ref a3, .ref a4, .ref a5, .ref a6])), (a1, .inl (cI, 120, .inl (fun _ => 0))), (a2, .inl (cI, 5, .inl (gl [4, 0, 0, 0, 0])))]) [0, 1, 2, 3] rfl
            have hD9 := hD.sub (ws' := [(x, .inr (7, [.ref xt, .ref xd, .ref h, .ref xk, .ref xl, .ref xw, .ref xp, .ref xs, .ref xr, .int 0, .int (-1), .int 0, .null])), (h, .inr (2, [.ref a0, .ref a1, .ref a2, .ref a3, .ref a4, .ref a5, .ref a6])), (a1, .inl (cI, 120, .inl (fun _ => 0))), (a2, .inl (cI, 5, .inl (gl [4, 0, 0, 0, 0])))]) [0, 1, 2, 3] (by decide) rfl
            exact W.iret (v := (-1)) hx hb hr (fun t ht hW => ⟨⟨(-1), (), rfl, e_0.symm, by rw [ht, e_1]; exact hP9, va_K.moved hW.alike hK, (by rw [e_1]; exact hD9)⟩, hS.F ht⟩) hS.2.2 dX7_spoil_55
  · refine lv_sipush (v := 999) hx hb dX7_spoil_4 (by decide) ?_
    refine lv_goto (tgt := 22) hx hb dX7_spoil_7 (by decide) ?_
    refine lv_istore (lv' := [(5, .int 999), (0, .ref x), (1, .int p1), (2, .int p2), (3, .int p3), (4, .int p4)]) hx hb dX7_spoil_22 hl (by decide) rfl (fun ls hl => ?_)
    refine lv_aload_n hx hb dX7_spoil_24 rfl (lv_at hl 1 rfl) ?_
    refine va_get (D := (dC, dI)) (ci := 7) (v := .ref h) (C := RX7) (T := TX7) (N := 13) hx hb hts hinX7 hown hK hP 0 rfl rfl 2 (by decide) k_0 (fun _ h9 => h9) rfl dX7_spoil_25 ?_
    refine lv_iload_n hx hb dX7_spoil_28 rfl (lv_at hl 2 rfl) ?_
    refine lv_iload_n hx hb dX7_spoil_29 rfl (lv_at hl 3 rfl) ?_
    refine lv_iload_n hx hb dX7_spoil_30 rfl (lv_at hl 4 rfl) ?_
    refine zcVi (As := [.int p1, .int p2, .int p3]) (rest := []) (wr := [(x, .inr (7, [.ref xt, .ref xd, .ref h, .ref xk, .ref xl, .ref xw, .ref xp, .ref xs, .ref xr, .int 0, .int (-1), .int 0, .null]))]) ⟨hx, hb, hml, hown, hts⟩ (kkX2_cell l dC dI cI cB cZ cR H.size h a0 a1 a2 a3 a4 a5 a6 4 (fun _ => 0) p1 p2 p3 ) (cwV 3 hts (zgV wm_731 wm_445 wm_446 wm_22 wm_447) rfl rfl rfl (by decide +kernel) ⟨Nat.le_of_ble_eq_true rfl, Nat.le_of_ble_eq_true rfl⟩) hN hK hP hD hS hA [1, 2, 3] [0] rfl rfl ⟨rfl, rfl⟩ (by decide) (ci := 2) rfl rfl rfl rfl hl.1 rfl (Nat.le_of_ble_eq_true rfl) dX7_spoil_31 ⟨Nat.le_of_ble_eq_true rfl, Nat.le_of_ble_eq_true rfl⟩ (fun r u hu H locs hP hD hS => ?_)
    have hu : r = (pfX2_cell_r 4 (fun _ => 0) p1 p2 p3) := hu
    subst hu
    have hP : va_P (dC, dI) vwCl [(x, .inr (7, [.ref xt, .ref xd, .ref h, .ref xk, .ref xl, .ref xw, .ref xp, .ref xs, .ref xr, .int 0, .int (-1), .int 0, .null])), (h, .inr (2, [.ref a0, .ref a1, .ref a2, .ref a3, .ref a4, .ref a5, .ref a6])), (a1, .inl (cI, 120, .inl (fun _ => 0))), (a2, .inl (cI, 5, .inl (gl [4, 0, 0, 0, 0])))] H := hP
    have hD : va_D A [(x, .inr (7, [.ref xt, .ref xd, .ref h, .ref xk, .ref xl, .ref xw, .ref xp, .ref xs, .ref xr, .int 0, .int (-1), .int 0, .null])), (h, .inr (2, [.ref a0, .ref a1, .ref a2, .ref a3, .ref a4, .ref a5, .ref a6])), (a1, .inl (cI, 120, .inl (fun _ => 0))), (a2, .inl (cI, 5, .inl (gl [4, 0, 0, 0, 0])))] := hD
    refine lv_istore (lv' := [(6, .int (pfX2_cell_r 4 (fun _ => 0) p1 p2 p3)), (5, .int 999), (0, .ref x), (1, .int p1), (2, .int p2), (3, .int p3), (4, .int p4)]) hx hb dX7_spoil_34 hl (by decide) rfl (fun ls hl => ?_)
    refine lv_iload hx hb dX7_spoil_36 (lv_at hl 0 rfl) ?_
    refine lv_iconst (v := (-1)) hx hb dX7_spoil_38 (by decide) ?_
    refine lv_icmp_eq (tgt := 54) hx hb dX7_spoil_39 (by decide) (fun c_9 => ?_) (fun c_9 => ?_)
    · refine lv_iconst (v := (-1)) hx hb dX7_spoil_54 (by decide) ?_
      have e_0 : (pfX7_spoil_r p1 p2 p3 p4) = (-1) := by rw [pfX7_spoil_r, if_pos c_1, if_pos c_9]
      have e_1 : (pfX7_spoil_a1_f p1 p2 p3 p4) = (fun _ => 0) := by rw [pfX7_spoil_a1_f, if_pos c_1, if_pos c_9]
      have hP9 := hP.sub (ws' := [(x, .inr (7, [.ref xt, .ref xd, .ref h, .ref xk, .ref xl, .ref xw, .ref xp, .ref xs, .ref xr, .int 0, .int (-1), .int 0, .null])), (h, .inr (2, [.ref a0, .ref a1, .ref a2, .ref a3, .ref a4, .ref a5, .ref a6])), (a1, .inl (cI, 120, .inl (fun _ => 0))), (a2, .inl (cI, 5, .inl (gl [4, 0, 0, 0, 0])))]) [0, 1, 2, 3] rfl
      have hD9 := hD.sub (ws' := [(x, .inr (7, [.ref xt, .ref xd, .ref h, .ref xk, .ref xl, .ref xw, .ref xp, .ref xs, .ref xr, .int 0, .int (-1), .int 0, .null])), (h, .inr (2, [.ref a0, .ref a1, .ref a2, .ref a3, .ref a4, .ref a5, .ref a6])), (a1, .inl (cI, 120, .inl (fun _ => 0))), (a2, .inl (cI, 5, .inl (gl [4, 0, 0, 0, 0])))]) [0, 1, 2, 3] (by decide) rfl
      exact W.iret (v := (-1)) hx hb hr (fun t ht hW => ⟨⟨(-1), (), rfl, e_0.symm, by rw [ht, e_1]; exact hP9, va_K.moved hW.alike hK, (by rw [e_1]; exact hD9)⟩, hS.F ht⟩) hS.2.2 dX7_spoil_55
    · refine lv_iload hx hb dX7_spoil_42 (lv_at hl 6 rfl) ?_
      refine lv_if_lt (tgt := 54) hx hb dX7_spoil_44 (by decide) (fun c_10 => ?_) (fun c_10 => ?_)
      · refine lv_iconst (v := (-1)) hx hb dX7_spoil_54 (by decide) ?_
        have e_0 : (pfX7_spoil_r p1 p2 p3 p4) = (-1) := by rw [pfX7_spoil_r, if_pos c_1, if_neg c_9, if_pos c_10]
        have e_1 : (pfX7_spoil_a1_f p1 p2 p3 p4) = (fun _ => 0) := by rw [pfX7_spoil_a1_f, if_pos c_1, if_neg c_9, if_pos c_10]
        have hP9 := hP.sub (ws' := [(x, .inr (7, [.ref xt, .ref xd, .ref h, .ref xk, .ref xl, .ref xw, .ref xp, .ref xs, .ref xr, .int 0, .int (-1), .int 0, .null])), (h, .inr (2, [.ref a0, .ref a1, .ref a2, .ref a3, .ref a4, .ref a5, .ref a6])), (a1, .inl (cI, 120, .inl (fun _ => 0))), (a2, .inl (cI, 5, .inl (gl [4, 0, 0, 0, 0])))]) [0, 1, 2, 3] rfl
        have hD9 := hD.sub (ws' := [(x, .inr (7, [.ref xt, .ref xd, .ref h, .ref xk, .ref xl, .ref xw, .ref xp, .ref xs, .ref xr, .int 0, .int (-1), .int 0, .null])), (h, .inr (2, [.ref a0, .ref a1, .ref a2, .ref a3, .ref a4, .ref a5, .ref a6])), (a1, .inl (cI, 120, .inl (fun _ => 0))), (a2, .inl (cI, 5, .inl (gl [4, 0, 0, 0, 0])))]) [0, 1, 2, 3] (by decide) rfl
        exact W.iret (v := (-1)) hx hb hr (fun t ht hW => ⟨⟨(-1), (), rfl, e_0.symm, by rw [ht, e_1]; exact hP9, va_K.moved hW.alike hK, (by rw [e_1]; exact hD9)⟩, hS.F ht⟩) hS.2.2 dX7_spoil_55
      · refine lv_iload hx hb dX7_spoil_47 (lv_at hl 6 rfl) ?_
        refine lv_iload hx hb dX7_spoil_49 (lv_at hl 1 rfl) ?_
        refine lv_icmp_le (tgt := 56) hx hb dX7_spoil_51 (by decide) (fun c_11 => ?_) (fun c_11 => ?_)
        · refine lv_aload_n hx hb dX7_spoil_56 rfl (lv_at hl 2 rfl) ?_
          refine va_get (D := (dC, dI)) (ci := 7) (v := .ref h) (C := RX7) (T := TX7) (N := 13) hx hb hts hinX7 hown hK hP 0 rfl rfl 2 (by decide) k_0 (fun _ h9 => h9) rfl dX7_spoil_57 ?_
          refine lv_iload_n hx hb dX7_spoil_60 rfl (lv_at hl 3 rfl) ?_
          refine lv_iload_n hx hb dX7_spoil_61 rfl (lv_at hl 4 rfl) ?_
          refine lv_iload_n hx hb dX7_spoil_62 rfl (lv_at hl 5 rfl) ?_
          refine lv_iload hx hb dX7_spoil_63 (lv_at hl 6 rfl) ?_
          refine zcVv (As := [.int p1, .int p2, .int p3, .int p4]) (rest := []) (wr := [(x, .inr (7, [.ref xt, .ref xd, .ref h, .ref xk, .ref xl, .ref xw, .ref xp, .ref xs, .ref xr, .int 0, .int (-1), .int 0, .null]))]) ⟨hx, hb, hml, hown, hts⟩ (kkX2_putCell l dC dI cI cB cZ cR H.size h a0 a1 a2 a3 a4 a5 a6 4 (fun _ => 0) p1 p2 p3 p4 ) (cwV 4 hts (zgV wm_732 wm_85 wm_86 wm_22 wm_87) rfl rfl rfl (by decide +kernel) ⟨Nat.le_of_ble_eq_true rfl, Nat.le_of_ble_eq_true rfl⟩) hN hK hP hD hS hA [1, 2, 3] [0] rfl rfl ⟨rfl, rfl⟩ (by decide) (ci := 2) rfl rfl rfl rfl hl.1 rfl (Nat.le_of_ble_eq_true rfl) dX7_spoil_65 ⟨Nat.le_of_ble_eq_true rfl, Nat.le_of_ble_eq_true rfl⟩ (fun u hu H locs hP hD hS => ?_)
          have hP : va_P (dC, dI) vwCl [(x, .inr (7, [.ref xt, .ref xd, .ref h, .ref xk, .ref xl, .ref xw, .ref xp, .ref xs, .ref xr, .int 0, .int (-1), .int 0, .null])), (h, .inr (2, [.ref a0, .ref a1, .ref a2, .ref a3, .ref a4, .ref a5, .ref a6])), (a1, .inl (cI, 120, .inl (pfX2_putCell_a1_f 4 (fun _ => 0) p1 p2 p3 p4))), (a2, .inl (cI, 5, .inl (gl [4, 0, 0, 0, 0])))] H := hP
          have hD : va_D A [(x, .inr (7, [.ref xt, .ref xd, .ref h, .ref xk, .ref xl, .ref xw, .ref xp, .ref xs, .ref xr, .int 0, .int (-1), .int 0, .null])), (h, .inr (2, [.ref a0, .ref a1, .ref a2, .ref a3, .ref a4, .ref a5, .ref a6])), (a1, .inl (cI, 120, .inl (pfX2_putCell_a1_f 4 (fun _ => 0) p1 p2 p3 p4))), (a2, .inl (cI, 5, .inl (gl [4, 0, 0, 0, 0])))] := hD
          refine lv_iload hx hb dX7_spoil_68 (lv_at hl 0 rfl) ?_
          have e_0 : (pfX7_spoil_r p1 p2 p3 p4) = (pfX2_cell_r 4 (fun _ => 0) p1 p2 p3) := by rw [pfX7_spoil_r, if_pos c_1, if_neg c_9, if_neg c_10, if_pos c_11]
          have e_1 : (pfX7_spoil_a1_f p1 p2 p3 p4) = (pfX2_putCell_a1_f 4 (fun _ => 0) p1 p2 p3 p4) := by rw [pfX7_spoil_a1_f, if_pos c_1, if_neg c_9, if_neg c_10, if_pos c_11]
          have hP9 := hP.sub (ws' := [(x, .inr (7, [.ref xt, .ref xd, .ref h, .ref xk, .ref xl, .ref xw, .ref xp, .ref xs, .ref xr, .int 0, .int (-1), .int 0, .null])), (h, .inr (2, [.ref a0, .ref a1, .ref a2, .ref a3, .ref a4, .ref a5, .ref a6])), (a1, .inl (cI, 120, .inl (pfX2_putCell_a1_f 4 (fun _ => 0) p1 p2 p3 p4))), (a2, .inl (cI, 5, .inl (gl [4, 0, 0, 0, 0])))]) [0, 1, 2, 3] rfl
          have hD9 := hD.sub (ws' := [(x, .inr (7, [.ref xt, .ref xd, .ref h, .ref xk, .ref xl, .ref xw, .ref xp, .ref xs, .ref xr, .int 0, .int (-1), .int 0, .null])), (h, .inr (2, [.ref a0, .ref a1, .ref a2, .ref a3, .ref a4, .ref a5, .ref a6])), (a1, .inl (cI, 120, .inl (pfX2_putCell_a1_f 4 (fun _ => 0) p1 p2 p3 p4))), (a2, .inl (cI, 5, .inl (gl [4, 0, 0, 0, 0])))]) [0, 1, 2, 3] (by decide) rfl
          exact W.iret (v := (pfX2_cell_r 4 (fun _ => 0) p1 p2 p3)) hx hb hr (fun t ht hW => ⟨⟨(pfX2_cell_r 4 (fun _ => 0) p1 p2 p3), (), rfl, e_0.symm, by rw [ht, e_1]; exact hP9, va_K.moved hW.alike hK, (by rw [e_1]; exact hD9)⟩, hS.F ht⟩) hS.2.2 dX7_spoil_70
        · refine lv_iconst (v := (-1)) hx hb dX7_spoil_54 (by decide) ?_
          have e_0 : (pfX7_spoil_r p1 p2 p3 p4) = (-1) := by rw [pfX7_spoil_r, if_pos c_1, if_neg c_9, if_neg c_10, if_neg c_11]
          have e_1 : (pfX7_spoil_a1_f p1 p2 p3 p4) = (fun _ => 0) := by rw [pfX7_spoil_a1_f, if_pos c_1, if_neg c_9, if_neg c_10, if_neg c_11]
          have hP9 := hP.sub (ws' := [(x, .inr (7, [.ref xt, .ref xd, .ref h, .ref xk, .ref xl, .ref xw, .ref xp, .ref xs, .ref xr, .int 0, .int (-1), .int 0, .null])), (h, .inr (2, [.ref a0, .ref a1, .ref a2, .ref a3, .ref a4, .ref a5, .ref a6])), (a1, .inl (cI, 120, .inl (fun _ => 0))), (a2, .inl (cI, 5, .inl (gl [4, 0, 0, 0, 0])))]) [0, 1, 2, 3] rfl
          have hD9 := hD.sub (ws' := [(x, .inr (7, [.ref xt, .ref xd, .ref h, .ref xk, .ref xl, .ref xw, .ref xp, .ref xs, .ref xr, .int 0, .int (-1), .int 0, .null])), (h, .inr (2, [.ref a0, .ref a1, .ref a2, .ref a3, .ref a4, .ref a5, .ref a6])), (a1, .inl (cI, 120, .inl (fun _ => 0))), (a2, .inl (cI, 5, .inl (gl [4, 0, 0, 0, 0])))]) [0, 1, 2, 3] (by decide) rfl
          exact W.iret (v := (-1)) hx hb hr (fun t ht hW => ⟨⟨(-1), (), rfl, e_0.symm, by rw [ht, e_1]; exact hP9, va_K.moved hW.alike hK, (by rw [e_1]; exact hD9)⟩, hS.F ht⟩) hS.2.2 dX7_spoil_55

set_option maxHeartbeats 4000000 in
set_option maxRecDepth 100000 in
theorem kkX7_descriptor (l : Launch) (dC : Nat → ClassId) (dI : Nat → Nat → Nat) (cI cB cZ cR : ClassId) (sz : Nat) (x : Nat) (xt : Nat) (xd : Nat) (h : Nat) (xk : Nat) (xl : Nat) (xw : Nat) (xp : Nat) (xs : Nat) (xr : Nat) (a0 : Nat) (a1 : Nat) (a2 : Nat) (a3 : Nat) (a4 : Nat) (a5 : Nat) (a6 : Nat) (p1 : Int32) (p2 : Int32) (p3 : Int32) : Met l yX7_descriptor (.code yX7_descriptor cX7_descriptor 4 (some .int) :: wsL_law) ({ frames := 1, cells := 0, slots := 0, locals := 24 }) (zPc dC dI (zT cI cB cZ cR) [.ref x, .int p1, .int p2, .int p3] sz [(x, .inr (7, [.ref xt, .ref xd, .ref h, .ref xk, .ref xl, .ref xw, .ref xp, .ref xs, .ref xr, .int 0, .int (-1), .int 0, .null])), (h, .inr (2, [.ref a0, .ref a1, .ref a2, .ref a3, .ref a4, .ref a5, .ref a6])), (a1, .inl (cI, 120, .inl (fun _ => 0))), (a2, .inl (cI, 5, .inl (gl [4, 0, 0, 0, 0])))]) (va_Qi (fun (r : Int32) (_ : Unit) => r = (pfX2_cell_r 4 (fun _ => 0) p1 p2 p3)) (fun _ : Unit => zB dC dI (zT cI cB cZ cR) (va_A [(x, .inr (7, [.ref xt, .ref xd, .ref h, .ref xk, .ref xl, .ref xw, .ref xp, .ref xs, .ref xr, .int 0, .int (-1), .int 0, .null])), (h, .inr (2, [.ref a0, .ref a1, .ref a2, .ref a3, .ref a4, .ref a5, .ref a6])), (a1, .inl (cI, 120, .inl (fun _ => 0))), (a2, .inl (cI, 5, .inl (gl [4, 0, 0, 0, 0])))] sz) [(x, .inr (7, [.ref xt, .ref xd, .ref h, .ref xk, .ref xl, .ref xw, .ref xp, .ref xs, .ref xr, .int 0, .int (-1), .int 0, .null])), (h, .inr (2, [.ref a0, .ref a1, .ref a2, .ref a3, .ref a4, .ref a5, .ref a6])), (a1, .inl (cI, 120, .inl (fun _ => 0))), (a2, .inl (cI, 5, .inl (gl [4, 0, 0, 0, 0])))]) (va_A [(x, .inr (7, [.ref xt, .ref xd, .ref h, .ref xk, .ref xl, .ref xw, .ref xp, .ref xs, .ref xr, .int 0, .int (-1), .int 0, .null])), (h, .inr (2, [.ref a0, .ref a1, .ref a2, .ref a3, .ref a4, .ref a5, .ref a6])), (a1, .inl (cI, 120, .inl (fun _ => 0))), (a2, .inl (cI, 5, .inl (gl [4, 0, 0, 0, 0])))] sz)) 0 0 (va_A [(x, .inr (7, [.ref xt, .ref xd, .ref h, .ref xk, .ref xl, .ref xw, .ref xp, .ref xs, .ref xr, .int 0, .int (-1), .int 0, .null])), (h, .inr (2, [.ref a0, .ref a1, .ref a2, .ref a3, .ref a4, .ref a5, .ref a6])), (a1, .inl (cI, 120, .inl (fun _ => 0))), (a2, .inl (cI, 5, .inl (gl [4, 0, 0, 0, 0])))] sz) := by
  refine Met.ofW (cc := cX7_descriptor) (maxL := 4) (ret := (some .int)) (by decide) rfl ?_
  intro p e s m args below meth c s₁ B hml hv
  obtain ⟨rfl, hsz, hP, hK, hD0, hN⟩ := hv
  have hx := B.exec
  have hb := B.bytes
  have hr := B.returns
  have hts := atoms_spec (ws := (.code yX7_descriptor cX7_descriptor 4 (some .int) :: wsL_law)) B.pre
  have hown : s.vm.findClass RX7 = some m.cls := findClass_of_methodNamed B.named
  have hlocks := B.notSynchronized
  have hinX7 : ∀ w ∈ u_ws RX7 TX7 13, w ∈ (.code yX7_descriptor cX7_descriptor 4 (some .int) :: wsL_law) := fun w h => List.mem_cons_of_mem _ (inlX7 w h)
  have k_0 := hts (.fieldLink RX7 26 "RingMarks" "ring" "LRingMarks$Ring;") (List.mem_cons_of_mem _ wm_23)
  subst hsz
  have hD := hD0.self (sz := s.heap.size)
  generalize hAe : va_A [(x, .inr (7, [.ref xt, .ref xd, .ref h, .ref xk, .ref xl, .ref xw, .ref xp, .ref xs, .ref xr, .int 0, .int (-1), .int 0, .null])), (h, .inr (2, [.ref a0, .ref a1, .ref a2, .ref a3, .ref a4, .ref a5, .ref a6])), (a1, .inl (cI, 120, .inl (fun _ => 0))), (a2, .inl (cI, 5, .inl (gl [4, 0, 0, 0, 0])))] s.heap.size = A at hD ⊢
  have hA : ∀ q : Nat, s.heap.size ≤ q → A q := fun q h => by rw [← hAe]; exact Or.inr h
  have hP : va_P (dC, dI) vwCl [(x, .inr (7, [.ref xt, .ref xd, .ref h, .ref xk, .ref xl, .ref xw, .ref xp, .ref xs, .ref xr, .int 0, .int (-1), .int 0, .null])), (h, .inr (2, [.ref a0, .ref a1, .ref a2, .ref a3, .ref a4, .ref a5, .ref a6])), (a1, .inl (cI, 120, .inl (fun _ => 0))), (a2, .inl (cI, 5, .inl (gl [4, 0, 0, 0, 0])))] s.heap := hP
  have hl := lv_entry ([.ref x, .int p1, .int p2, .int p3]) (n := 4) (Nat.le_of_ble_eq_true rfl)
  rw [lg_entry_eq]
  generalize (lg_sl ([.ref x, .int p1, .int p2, .int p3]) ++ List.replicate (4 - (lg_sl ([.ref x, .int p1, .int p2, .int p3])).length) Slot.unset).toArray = ls at hl ⊢
  have hl : lv_has ls 4 [(0, .ref x), (1, .int p1), (2, .int p2), (3, .int p3)] := hl
  obtain ⟨H, hH⟩ : ∃ H, H = s.heap := ⟨_, rfl⟩
  rw [← hH] at hP ⊢
  have hS : va_S A s.heap H [] := by rw [hH]; exact va_S.rf
  refine lv_aload_n hx hb dX7_descriptor_0 rfl (lv_at hl 0 rfl) ?_
  refine va_get (D := (dC, dI)) (ci := 7) (v := .ref h) (C := RX7) (T := TX7) (N := 13) hx hb hts hinX7 hown hK hP 0 rfl rfl 2 (by decide) k_0 (fun _ h9 => h9) rfl dX7_descriptor_1 ?_
  refine lv_iload_n hx hb dX7_descriptor_4 rfl (lv_at hl 1 rfl) ?_
  refine lv_iload_n hx hb dX7_descriptor_5 rfl (lv_at hl 2 rfl) ?_
  refine lv_iload_n hx hb dX7_descriptor_6 rfl (lv_at hl 3 rfl) ?_
  refine zcVi (As := [.int p1, .int p2, .int p3]) (rest := []) (wr := [(x, .inr (7, [.ref xt, .ref xd, .ref h, .ref xk, .ref xl, .ref xw, .ref xp, .ref xs, .ref xr, .int 0, .int (-1), .int 0, .null]))]) ⟨hx, hb, hml, hown, hts⟩ (kkX2_cell l dC dI cI cB cZ cR H.size h a0 a1 a2 a3 a4 a5 a6 4 (fun _ => 0) p1 p2 p3 ) (cwV 3 hts (zgV wm_731 wm_445 wm_446 wm_22 wm_447) rfl rfl rfl (by decide +kernel) ⟨Nat.le_of_ble_eq_true rfl, Nat.le_of_ble_eq_true rfl⟩) hN hK hP hD hS hA [1, 2, 3] [0] rfl rfl ⟨rfl, rfl⟩ (by decide) (ci := 2) rfl rfl rfl rfl hl.1 rfl (Nat.le_of_ble_eq_true rfl) dX7_descriptor_7 ⟨Nat.le_of_ble_eq_true rfl, Nat.le_of_ble_eq_true rfl⟩ (fun r u hu H locs hP hD hS => ?_)
  have hu : r = (pfX2_cell_r 4 (fun _ => 0) p1 p2 p3) := hu
  subst hu
  have hP : va_P (dC, dI) vwCl [(x, .inr (7, [.ref xt, .ref xd, .ref h, .ref xk, .ref xl, .ref xw, .ref xp, .ref xs, .ref xr, .int 0, .int (-1), .int 0, .null])), (h, .inr (2, [.ref a0, .ref a1, .ref a2, .ref a3, .ref a4, .ref a5, .ref a6])), (a1, .inl (cI, 120, .inl (fun _ => 0))), (a2, .inl (cI, 5, .inl (gl [4, 0, 0, 0, 0])))] H := hP
  have hD : va_D A [(x, .inr (7, [.ref xt, .ref xd, .ref h, .ref xk, .ref xl, .ref xw, .ref xp, .ref xs, .ref xr, .int 0, .int (-1), .int 0, .null])), (h, .inr (2, [.ref a0, .ref a1, .ref a2, .ref a3, .ref a4, .ref a5, .ref a6])), (a1, .inl (cI, 120, .inl (fun _ => 0))), (a2, .inl (cI, 5, .inl (gl [4, 0, 0, 0, 0])))] := hD
  have hP9 := hP.sub (ws' := [(x, .inr (7, [.ref xt, .ref xd, .ref h, .ref xk, .ref xl, .ref xw, .ref xp, .ref xs, .ref xr, .int 0, .int (-1), .int 0, .null])), (h, .inr (2, [.ref a0, .ref a1, .ref a2, .ref a3, .ref a4, .ref a5, .ref a6])), (a1, .inl (cI, 120, .inl (fun _ => 0))), (a2, .inl (cI, 5, .inl (gl [4, 0, 0, 0, 0])))]) [0, 1, 2, 3] rfl
  have hD9 := hD.sub (ws' := [(x, .inr (7, [.ref xt, .ref xd, .ref h, .ref xk, .ref xl, .ref xw, .ref xp, .ref xs, .ref xr, .int 0, .int (-1), .int 0, .null])), (h, .inr (2, [.ref a0, .ref a1, .ref a2, .ref a3, .ref a4, .ref a5, .ref a6])), (a1, .inl (cI, 120, .inl (fun _ => 0))), (a2, .inl (cI, 5, .inl (gl [4, 0, 0, 0, 0])))]) [0, 1, 2, 3] (by decide) rfl
  exact W.iret (v := (pfX2_cell_r 4 (fun _ => 0) p1 p2 p3)) hx hb hr (fun t ht hW => ⟨⟨(pfX2_cell_r 4 (fun _ => 0) p1 p2 p3), (), rfl, rfl, by rw [ht]; exact hP9, va_K.moved hW.alike hK, hD9⟩, hS.F ht⟩) hS.2.2 dX7_descriptor_10

set_option maxHeartbeats 4000000 in
set_option maxRecDepth 100000 in
theorem kkX7_table (l : Launch) (dC : Nat → ClassId) (dI : Nat → Nat → Nat) (cI cB cZ cR : ClassId) (sz : Nat) (x : Nat) (xt : Nat) (xd : Nat) (h : Nat) (xk : Nat) (xl : Nat) (xw : Nat) (xp : Nat) (xs : Nat) (xr : Nat) (a0 : Nat) (a1 : Nat) (a2 : Nat) (a3 : Nat) (a4 : Nat) (a5 : Nat) (a6 : Nat) (p1 : Int32) : Met l yX7_table (.code yX7_table cX7_table 2 (some .int) :: wsL_law) ({ frames := 1, cells := 0, slots := 0, locals := 21 }) (zPc dC dI (zT cI cB cZ cR) [.ref x, .int p1] sz [(x, .inr (7, [.ref xt, .ref xd, .ref h, .ref xk, .ref xl, .ref xw, .ref xp, .ref xs, .ref xr, .int 0, .int (-1), .int 0, .null])), (h, .inr (2, [.ref a0, .ref a1, .ref a2, .ref a3, .ref a4, .ref a5, .ref a6])), (a2, .inl (cI, 5, .inl (gl [4, 0, 0, 0, 0])))]) (va_Qi (fun (r : Int32) (_ : Unit) => r = (pfX2_sizeOf_r p1)) (fun _ : Unit => zB dC dI (zT cI cB cZ cR) (va_A [(x, .inr (7, [.ref xt, .ref xd, .ref h, .ref xk, .ref xl, .ref xw, .ref xp, .ref xs, .ref xr, .int 0, .int (-1), .int 0, .null])), (h, .inr (2, [.ref a0, .ref a1, .ref a2, .ref a3, .ref a4, .ref a5, .ref a6])), (a2, .inl (cI, 5, .inl (gl [4, 0, 0, 0, 0])))] sz) [(x, .inr (7, [.ref xt, .ref xd, .ref h, .ref xk, .ref xl, .ref xw, .ref xp, .ref xs, .ref xr, .int 0, .int (-1), .int 0, .null])), (h, .inr (2, [.ref a0, .ref a1, .ref a2, .ref a3, .ref a4, .ref a5, .ref a6])), (a2, .inl (cI, 5, .inl (gl [4, 0, 0, 0, 0])))]) (va_A [(x, .inr (7, [.ref xt, .ref xd, .ref h, .ref xk, .ref xl, .ref xw, .ref xp, .ref xs, .ref xr, .int 0, .int (-1), .int 0, .null])), (h, .inr (2, [.ref a0, .ref a1, .ref a2, .ref a3, .ref a4, .ref a5, .ref a6])), (a2, .inl (cI, 5, .inl (gl [4, 0, 0, 0, 0])))] sz)) 0 0 (va_A [(x, .inr (7, [.ref xt, .ref xd, .ref h, .ref xk, .ref xl, .ref xw, .ref xp, .ref xs, .ref xr, .int 0, .int (-1), .int 0, .null])), (h, .inr (2, [.ref a0, .ref a1, .ref a2, .ref a3, .ref a4, .ref a5, .ref a6])), (a2, .inl (cI, 5, .inl (gl [4, 0, 0, 0, 0])))] sz) := by
  refine Met.ofW (cc := cX7_table) (maxL := 2) (ret := (some .int)) (by decide) rfl ?_
  intro p e s m args below meth c s₁ B hml hv
  obtain ⟨rfl, hsz, hP, hK, hD0, hN⟩ := hv
  have hx := B.exec
  have hb := B.bytes
  have hr := B.returns
  have hts := atoms_spec (ws := (.code yX7_table cX7_table 2 (some .int) :: wsL_law)) B.pre
  have hown : s.vm.findClass RX7 = some m.cls := findClass_of_methodNamed B.named
  have hlocks := B.notSynchronized
  have hinX7 : ∀ w ∈ u_ws RX7 TX7 13, w ∈ (.code yX7_table cX7_table 2 (some .int) :: wsL_law) := fun w h => List.mem_cons_of_mem _ (inlX7 w h)
  have k_0 := hts (.fieldLink RX7 26 "RingMarks" "ring" "LRingMarks$Ring;") (List.mem_cons_of_mem _ wm_23)
  subst hsz
  have hD := hD0.self (sz := s.heap.size)
  generalize hAe : va_A [(x, .inr (7, [.ref xt, .ref xd, .ref h, .ref xk, .ref xl, .ref xw, .ref xp, .ref xs, .ref xr, .int 0, .int (-1), .int 0, .null])), (h, .inr (2, [.ref a0, .ref a1, .ref a2, .ref a3, .ref a4, .ref a5, .ref a6])), (a2, .inl (cI, 5, .inl (gl [4, 0, 0, 0, 0])))] s.heap.size = A at hD ⊢
  have hA : ∀ q : Nat, s.heap.size ≤ q → A q := fun q h => by rw [← hAe]; exact Or.inr h
  have hP : va_P (dC, dI) vwCl [(x, .inr (7, [.ref xt, .ref xd, .ref h, .ref xk, .ref xl, .ref xw, .ref xp, .ref xs, .ref xr, .int 0, .int (-1), .int 0, .null])), (h, .inr (2, [.ref a0, .ref a1, .ref a2, .ref a3, .ref a4, .ref a5, .ref a6])), (a2, .inl (cI, 5, .inl (gl [4, 0, 0, 0, 0])))] s.heap := hP
  have hl := lv_entry ([.ref x, .int p1]) (n := 2) (Nat.le_of_ble_eq_true rfl)
  rw [lg_entry_eq]
  generalize (lg_sl ([.ref x, .int p1]) ++ List.replicate (2 - (lg_sl ([.ref x, .int p1])).length) Slot.unset).toArray = ls at hl ⊢
  have hl : lv_has ls 2 [(0, .ref x), (1, .int p1)] := hl
  obtain ⟨H, hH⟩ : ∃ H, H = s.heap := ⟨_, rfl⟩
  rw [← hH] at hP ⊢
  have hS : va_S A s.heap H [] := by rw [hH]; exact va_S.rf
  refine lv_aload_n hx hb dX7_table_0 rfl (lv_at hl 0 rfl) ?_
  refine va_get (D := (dC, dI)) (ci := 7) (v := .ref h) (C := RX7) (T := TX7) (N := 13) hx hb hts hinX7 hown hK hP 0 rfl rfl 2 (by decide) k_0 (fun _ h9 => h9) rfl dX7_table_1 ?_
  refine lv_iload_n hx hb dX7_table_4 rfl (lv_at hl 1 rfl) ?_
  refine zcVi (As := [.int p1]) (rest := []) (wr := [(x, .inr (7, [.ref xt, .ref xd, .ref h, .ref xk, .ref xl, .ref xw, .ref xp, .ref xs, .ref xr, .int 0, .int (-1), .int 0, .null]))]) ⟨hx, hb, hml, hown, hts⟩ (kkX2_sizeOf l dC dI cI cB cZ cR H.size h a0 a1 a2 a3 a4 a5 a6 p1 ) (cwV 1 hts (zgV wm_757 wm_476 wm_477 wm_22 wm_478) rfl rfl rfl (by decide +kernel) ⟨Nat.le_of_ble_eq_true rfl, Nat.le_of_ble_eq_true rfl⟩) hN hK hP hD hS hA [1, 2] [0] rfl rfl ⟨rfl, rfl⟩ (by decide) (ci := 2) rfl rfl rfl rfl hl.1 rfl (Nat.le_of_ble_eq_true rfl) dX7_table_5 ⟨Nat.le_of_ble_eq_true rfl, Nat.le_of_ble_eq_true rfl⟩ (fun r u hu H locs hP hD hS => ?_)
  have hu : r = (pfX2_sizeOf_r p1) := hu
  subst hu
  have hP : va_P (dC, dI) vwCl [(x, .inr (7, [.ref xt, .ref xd, .ref h, .ref xk, .ref xl, .ref xw, .ref xp, .ref xs, .ref xr, .int 0, .int (-1), .int 0, .null])), (h, .inr (2, [.ref a0, .ref a1, .ref a2, .ref a3, .ref a4, .ref a5, .ref a6])), (a2, .inl (cI, 5, .inl (gl [4, 0, 0, 0, 0])))] H := hP
  have hD : va_D A [(x, .inr (7, [.ref xt, .ref xd, .ref h, .ref xk, .ref xl, .ref xw, .ref xp, .ref xs, .ref xr, .int 0, .int (-1), .int 0, .null])), (h, .inr (2, [.ref a0, .ref a1, .ref a2, .ref a3, .ref a4, .ref a5, .ref a6])), (a2, .inl (cI, 5, .inl (gl [4, 0, 0, 0, 0])))] := hD
  have hP9 := hP.sub (ws' := [(x, .inr (7, [.ref xt, .ref xd, .ref h, .ref xk, .ref xl, .ref xw, .ref xp, .ref xs, .ref xr, .int 0, .int (-1), .int 0, .null])), (h, .inr (2, [.ref a0, .ref a1, .ref a2, .ref a3, .ref a4, .ref a5, .ref a6])), (a2, .inl (cI, 5, .inl (gl [4, 0, 0, 0, 0])))]) [0, 1, 2] rfl
  have hD9 := hD.sub (ws' := [(x, .inr (7, [.ref xt, .ref xd, .ref h, .ref xk, .ref xl, .ref xw, .ref xp, .ref xs, .ref xr, .int 0, .int (-1), .int 0, .null])), (h, .inr (2, [.ref a0, .ref a1, .ref a2, .ref a3, .ref a4, .ref a5, .ref a6])), (a2, .inl (cI, 5, .inl (gl [4, 0, 0, 0, 0])))]) [0, 1, 2] (by decide) rfl
  exact W.iret (v := (pfX2_sizeOf_r p1)) hx hb hr (fun t ht hW => ⟨⟨(pfX2_sizeOf_r p1), (), rfl, rfl, by rw [ht]; exact hP9, va_K.moved hW.alike hK, hD9⟩, hS.F ht⟩) hS.2.2 dX7_table_8

def pfX2_rowAt_r (fr : Nat → Int32) (p1 : Int32) (p2 : Int32) : Int32 := if p1 < 0 then (-1) else (if 4 ≤ p1 then (-1) else (if 8 ≤ p1 then (-1) else (if p2 < 0 then (-1) else (if 2 < p2 then (-1) else (fr (Int32.toNatClampNeg ((p1 * 3) + p2)))))))
set_option maxHeartbeats 4000000 in
set_option maxRecDepth 100000 in
theorem kkX2_rowAt (l : Launch) (dC : Nat → ClassId) (dI : Nat → Nat → Nat) (cI cB cZ cR : ClassId) (sz : Nat) (h : Nat) (a0 : Nat) (a1 : Nat) (a2 : Nat) (a3 : Nat) (a4 : Nat) (a5 : Nat) (a6 : Nat) (m0 : Int32) (m1 : Int32) (m2 : Int32) (m3 : Int32) (m4 : Int32) (m5 : Int32) (m6 : Int32) (m7 : Int32) (m8 : Int32) (m9 : Int32) (m10 : Int32) (m11 : Int32) (m12 : Int32) (m13 : Int32) (m14 : Int32) (m15 : Int32) (m16 : Int32) (m17 : Int32) (fr : Nat → Int32) (p1 : Int32) (p2 : Int32) : Met l yX2_rowAt (.code yX2_rowAt cX2_rowAt 4 (some .int) :: wsL_law) ({ frames := 1, cells := 0, slots := 0, locals := 20 }) (zPc dC dI (zT cI cB cZ cR) [.ref h, .int p1, .int p2] sz [(h, .inr (2, [.ref a0, .ref a1, .ref a2, .ref a3, .ref a4, .ref a5, .ref a6])), (a0, .inl (cI, 22, .inl (gl [m0, m1, m2, m3, m4, m5, m6, m7, m8, m9, m10, m11, m12, m13, m14, m15, m16, m17, 0, 4, 0, 16]))), (a3, .inl (cI, 24, .inl fr))]) (va_Qi (fun (r : Int32) (_ : Unit) => r = (pfX2_rowAt_r fr p1 p2)) (fun _ : Unit => zB dC dI (zT cI cB cZ cR) (va_A [(h, .inr (2, [.ref a0, .ref a1, .ref a2, .ref a3, .ref a4, .ref a5, .ref a6])), (a0, .inl (cI, 22, .inl (gl [m0, m1, m2, m3, m4, m5, m6, m7, m8, m9, m10, m11, m12, m13, m14, m15, m16, m17, 0, 4, 0, 16]))), (a3, .inl (cI, 24, .inl fr))] sz) [(h, .inr (2, [.ref a0, .ref a1, .ref a2, .ref a3, .ref a4, .ref a5, .ref a6])), (a0, .inl (cI, 22, .inl (gl [m0, m1, m2, m3, m4, m5, m6, m7, m8, m9, m10, m11, m12, m13, m14, m15, m16, m17, 0, 4, 0, 16]))), (a3, .inl (cI, 24, .inl fr))]) (va_A [(h, .inr (2, [.ref a0, .ref a1, .ref a2, .ref a3, .ref a4, .ref a5, .ref a6])), (a0, .inl (cI, 22, .inl (gl [m0, m1, m2, m3, m4, m5, m6, m7, m8, m9, m10, m11, m12, m13, m14, m15, m16, m17, 0, 4, 0, 16]))), (a3, .inl (cI, 24, .inl fr))] sz)) 0 0 (va_A [(h, .inr (2, [.ref a0, .ref a1, .ref a2, .ref a3, .ref a4, .ref a5, .ref a6])), (a0, .inl (cI, 22, .inl (gl [m0, m1, m2, m3, m4, m5, m6, m7, m8, m9, m10, m11, m12, m13, m14, m15, m16, m17, 0, 4, 0, 16]))), (a3, .inl (cI, 24, .inl fr))] sz) := by
  refine Met.ofW (cc := cX2_rowAt) (maxL := 4) (ret := (some .int)) (by decide) rfl ?_
  intro p e s m args below meth c s₁ B hml hv
  obtain ⟨rfl, hsz, hP, hK, hD0, hN⟩ := hv
  have hx := B.exec
  have hb := B.bytes
  have hr := B.returns
  have hts := atoms_spec (ws := (.code yX2_rowAt cX2_rowAt 4 (some .int) :: wsL_law)) B.pre
  have hown : s.vm.findClass RX2 = some m.cls := findClass_of_methodNamed B.named
  have hlocks := B.notSynchronized
  have hinX2 : ∀ w ∈ u_ws RX2 TX2 7, w ∈ (.code yX2_rowAt cX2_rowAt 4 (some .int) :: wsL_law) := fun w h => List.mem_cons_of_mem _ (inlX2 w h)
  have k_0 := hts (.fieldLink RX2 21 "RingMarks$Ring" "rows" "[I") (List.mem_cons_of_mem _ wm_64)
  subst hsz
  have hD := hD0.self (sz := s.heap.size)
  generalize hAe : va_A [(h, .inr (2, [.ref a0, .ref a1, .ref a2, .ref a3, .ref a4, .ref a5, .ref a6])), (a0, .inl (cI, 22, .inl (gl [m0, m1, m2, m3, m4, m5, m6, m7, m8, m9, m10, m11, m12, m13, m14, m15, m16, m17, 0, 4, 0, 16]))), (a3, .inl (cI, 24, .inl fr))] s.heap.size = A at hD ⊢
  have hA : ∀ q : Nat, s.heap.size ≤ q → A q := fun q h => by rw [← hAe]; exact Or.inr h
  have hP : va_P (dC, dI) vwCl [(h, .inr (2, [.ref a0, .ref a1, .ref a2, .ref a3, .ref a4, .ref a5, .ref a6])), (a0, .inl (cI, 22, .inl (gl [m0, m1, m2, m3, m4, m5, m6, m7, m8, m9, m10, m11, m12, m13, m14, m15, m16, m17, 0, 4, 0, 16]))), (a3, .inl (cI, 24, .inl fr))] s.heap := hP
  have hl := lv_entry ([.ref h, .int p1, .int p2]) (n := 4) (Nat.le_of_ble_eq_true rfl)
  rw [lg_entry_eq]
  generalize (lg_sl ([.ref h, .int p1, .int p2]) ++ List.replicate (4 - (lg_sl ([.ref h, .int p1, .int p2])).length) Slot.unset).toArray = ls at hl ⊢
  have hl : lv_has ls 4 [(0, .ref h), (1, .int p1), (2, .int p2)] := hl
  obtain ⟨H, hH⟩ : ∃ H, H = s.heap := ⟨_, rfl⟩
  rw [← hH] at hP ⊢
  have hS : va_S A s.heap H [] := by rw [hH]; exact va_S.rf
  refine lv_iload_n hx hb dX2_rowAt_0 rfl (lv_at hl 1 rfl) ?_
  refine lv_if_lt (tgt := 31) hx hb dX2_rowAt_1 (by decide) (fun c_1 => ?_) (fun c_1 => ?_)
  · refine lv_iconst (v := 0) hx hb dX2_rowAt_31 (by decide) ?_
    refine lv_istore_n (lv' := [(3, .int 0), (0, .ref h), (1, .int p1), (2, .int p2)]) hx hb dX2_rowAt_32 rfl hl (by decide) rfl (fun ls hl => ?_)
    refine lv_iload_n hx hb dX2_rowAt_33 rfl (lv_at hl 0 rfl) ?_
    refine lv_if_eq (tgt := 57) hx hb dX2_rowAt_34 (by decide) (fun _ => ?_) (fun c => absurd (by decide) c)
    refine lv_iconst (v := (-1)) hx hb dX2_rowAt_57 (by decide) ?_
    have e_0 : (pfX2_rowAt_r fr p1 p2) = (-1) := by rw [pfX2_rowAt_r, if_pos c_1]
    have hP9 := hP.sub (ws' := [(h, .inr (2, [.ref a0, .ref a1, .ref a2, .ref a3, .ref a4, .ref a5, .ref a6])), (a0, .inl (cI, 22, .inl (gl [m0, m1, m2, m3, m4, m5, m6, m7, m8, m9, m10, m11, m12, m13, m14, m15, m16, m17, 0, 4, 0, 16]))), (a3, .inl (cI, 24, .inl fr))]) [0, 1, 2] rfl
    have hD9 := hD.sub (ws' := [(h, .inr (2, [.ref a0, .ref a1, .ref a2, .ref a3, .ref a4, .ref a5, .ref a6])), (a0, .inl (cI, 22, .inl (gl [m0, m1, m2, m3, m4, m5, m6, m7, m8, m9, m10, m11, m12, m13, m14, m15, m16, m17, 0, 4, 0, 16]))), (a3, .inl (cI, 24, .inl fr))]) [0, 1, 2] (by decide) rfl
    exact W.iret (v := (-1)) hx hb hr (fun t ht hW => ⟨⟨(-1), (), rfl, e_0.symm, by rw [ht]; exact hP9, va_K.moved hW.alike hK, hD9⟩, hS.F ht⟩) hS.2.2 dX2_rowAt_58
  · refine lv_iload_n hx hb dX2_rowAt_4 rfl (lv_at hl 1 rfl) ?_
    refine lv_aload_n hx hb dX2_rowAt_5 rfl (lv_at hl 0 rfl) ?_
    refine zcVi (As := []) (rest := [.int p1]) (wr := [(a3, .inl (cI, 24, .inl fr))]) ⟨hx, hb, hml, hown, hts⟩ (kkX2_places l dC dI cI cB cZ cR H.size h a0 a1 a2 a3 a4 a5 a6 m0 m1 m2 m3 m4 m5 m6 m7 m8 m9 m10 m11 m12 m13 m14 m15 m16 m17 ) (cwV 0 hts (zgV wm_259 wm_260 wm_261 wm_22 wm_262) rfl rfl rfl (by decide +kernel) ⟨Nat.le_of_ble_eq_true rfl, Nat.le_of_ble_eq_true rfl⟩) hN hK hP hD hS hA [0, 1] [2] rfl rfl ⟨rfl, rfl⟩ (by decide) (ci := 2) rfl rfl rfl rfl hl.1 rfl (Nat.le_of_ble_eq_true rfl) dX2_rowAt_6 ⟨Nat.le_of_ble_eq_true rfl, Nat.le_of_ble_eq_true rfl⟩ (fun r u hu H locs hP hD hS => ?_)
    have hu : r = 4 := hu
    subst hu
    have hP : va_P (dC, dI) vwCl [(a3, .inl (cI, 24, .inl fr)), (h, .inr (2, [.ref a0, .ref a1, .ref a2, .ref a3, .ref a4, .ref a5, .ref a6])), (a0, .inl (cI, 22, .inl (gl [m0, m1, m2, m3, m4, m5, m6, m7, m8, m9, m10, m11, m12, m13, m14, m15, m16, m17, 0, 4, 0, 16])))] H := hP
    have hD : va_D A [(a3, .inl (cI, 24, .inl fr)), (h, .inr (2, [.ref a0, .ref a1, .ref a2, .ref a3, .ref a4, .ref a5, .ref a6])), (a0, .inl (cI, 22, .inl (gl [m0, m1, m2, m3, m4, m5, m6, m7, m8, m9, m10, m11, m12, m13, m14, m15, m16, m17, 0, 4, 0, 16])))] := hD
    refine lv_icmp_ge (tgt := 31) hx hb dX2_rowAt_9 (by decide) (fun c_2 => ?_) (fun c_2 => ?_)
    · refine lv_iconst (v := 0) hx hb dX2_rowAt_31 (by decide) ?_
      refine lv_istore_n (lv' := [(3, .int 0), (0, .ref h), (1, .int p1), (2, .int p2)]) hx hb dX2_rowAt_32 rfl hl (by decide) rfl (fun ls hl => ?_)
      refine lv_iload_n hx hb dX2_rowAt_33 rfl (lv_at hl 0 rfl) ?_
      refine lv_if_eq (tgt := 57) hx hb dX2_rowAt_34 (by decide) (fun _ => ?_) (fun c => absurd (by decide) c)
      refine lv_iconst (v := (-1)) hx hb dX2_rowAt_57 (by decide) ?_
      have e_0 : (pfX2_rowAt_r fr p1 p2) = (-1) := by rw [pfX2_rowAt_r, if_neg c_1, if_pos c_2]
      have hP9 := hP.sub (ws' := [(h, .inr (2, [.ref a0, .ref a1, .ref a2, .ref a3, .ref a4, .ref a5, .ref a6])), (a0, .inl (cI, 22, .inl (gl [m0, m1, m2, m3, m4, m5, m6, m7, m8, m9, m10, m11, m12, m13, m14, m15, m16, m17, 0, 4, 0, 16]))), (a3, .inl (cI, 24, .inl fr))]) [1, 2, 0] rfl
      have hD9 := hD.sub (ws' := [(h, .inr (2, [.ref a0, .ref a1, .ref a2, .ref a3, .ref a4, .ref a5, .ref a6])), (a0, .inl (cI, 22, .inl (gl [m0, m1, m2, m3, m4, m5, m6, m7, m8, m9, m10, m11, m12, m13, m14, m15, m16, m17, 0, 4, 0, 16]))), (a3, .inl (cI, 24, .inl fr))]) [1, 2, 0] (by decide) rfl
      exact W.iret (v := (-1)) hx hb hr (fun t ht hW => ⟨⟨(-1), (), rfl, e_0.symm, by rw [ht]; exact hP9, va_K.moved hW.alike hK, hD9⟩, hS.F ht⟩) hS.2.2 dX2_rowAt_58
    · refine lv_iload_n hx hb dX2_rowAt_12 rfl (lv_at hl 1 rfl) ?_
      refine lv_bipush (v := 8) hx hb dX2_rowAt_13 (by decide) ?_
      refine lv_icmp_ge (tgt := 31) hx hb dX2_rowAt_15 (by decide) (fun c_3 => ?_) (fun c_3 => ?_)
      · refine lv_iconst (v := 0) hx hb dX2_rowAt_31 (by decide) ?_
        refine lv_istore_n (lv' := [(3, .int 0), (0, .ref h), (1, .int p1), (2, .int p2)]) hx hb dX2_rowAt_32 rfl hl (by decide) rfl (fun ls hl => ?_)
        refine lv_iload_n hx hb dX2_rowAt_33 rfl (lv_at hl 0 rfl) ?_
        refine lv_if_eq (tgt := 57) hx hb dX2_rowAt_34 (by decide) (fun _ => ?_) (fun c => absurd (by decide) c)
        refine lv_iconst (v := (-1)) hx hb dX2_rowAt_57 (by decide) ?_
        have e_0 : (pfX2_rowAt_r fr p1 p2) = (-1) := by rw [pfX2_rowAt_r, if_neg c_1, if_neg c_2, if_pos c_3]
        have hP9 := hP.sub (ws' := [(h, .inr (2, [.ref a0, .ref a1, .ref a2, .ref a3, .ref a4, .ref a5, .ref a6])), (a0, .inl (cI, 22, .inl (gl [m0, m1, m2, m3, m4, m5, m6, m7, m8, m9, m10, m11, m12, m13, m14, m15, m16, m17, 0, 4, 0, 16]))), (a3, .inl (cI, 24, .inl fr))]) [1, 2, 0] rfl
        have hD9 := hD.sub (ws' := [(h, .inr (2, [.ref a0, .ref a1, .ref a2, .ref a3, .ref a4, .ref a5, .ref a6])), (a0, .inl (cI, 22, .inl (gl [m0, m1, m2, m3, m4, m5, m6, m7, m8, m9, m10, m11, m12, m13, m14, m15, m16, m17, 0, 4, 0, 16]))), (a3, .inl (cI, 24, .inl fr))]) [1, 2, 0] (by decide) rfl
        exact W.iret (v := (-1)) hx hb hr (fun t ht hW => ⟨⟨(-1), (), rfl, e_0.symm, by rw [ht]; exact hP9, va_K.moved hW.alike hK, hD9⟩, hS.F ht⟩) hS.2.2 dX2_rowAt_58
      · refine lv_iload_n hx hb dX2_rowAt_18 rfl (lv_at hl 2 rfl) ?_
        refine lv_if_lt (tgt := 31) hx hb dX2_rowAt_19 (by decide) (fun c_4 => ?_) (fun c_4 => ?_)
        · refine lv_iconst (v := 0) hx hb dX2_rowAt_31 (by decide) ?_
          refine lv_istore_n (lv' := [(3, .int 0), (0, .ref h), (1, .int p1), (2, .int p2)]) hx hb dX2_rowAt_32 rfl hl (by decide) rfl (fun ls hl => ?_)
          refine lv_iload_n hx hb dX2_rowAt_33 rfl (lv_at hl 0 rfl) ?_
          refine lv_if_eq (tgt := 57) hx hb dX2_rowAt_34 (by decide) (fun _ => ?_) (fun c => absurd (by decide) c)
          refine lv_iconst (v := (-1)) hx hb dX2_rowAt_57 (by decide) ?_
          have e_0 : (pfX2_rowAt_r fr p1 p2) = (-1) := by rw [pfX2_rowAt_r, if_neg c_1, if_neg c_2, if_neg c_3, if_pos c_4]
          have hP9 := hP.sub (ws' := [(h, .inr (2, [.ref a0, .ref a1, .ref a2, .ref a3, .ref a4, .ref a5, .ref a6])), (a0, .inl (cI, 22, .inl (gl [m0, m1, m2, m3, m4, m5, m6, m7, m8, m9, m10, m11, m12, m13, m14, m15, m16, m17, 0, 4, 0, 16]))), (a3, .inl (cI, 24, .inl fr))]) [1, 2, 0] rfl
          have hD9 := hD.sub (ws' := [(h, .inr (2, [.ref a0, .ref a1, .ref a2, .ref a3, .ref a4, .ref a5, .ref a6])), (a0, .inl (cI, 22, .inl (gl [m0, m1, m2, m3, m4, m5, m6, m7, m8, m9, m10, m11, m12, m13, m14, m15, m16, m17, 0, 4, 0, 16]))), (a3, .inl (cI, 24, .inl fr))]) [1, 2, 0] (by decide) rfl
          exact W.iret (v := (-1)) hx hb hr (fun t ht hW => ⟨⟨(-1), (), rfl, e_0.symm, by rw [ht]; exact hP9, va_K.moved hW.alike hK, hD9⟩, hS.F ht⟩) hS.2.2 dX2_rowAt_58
        · refine lv_iload_n hx hb dX2_rowAt_22 rfl (lv_at hl 2 rfl) ?_
          refine lv_iconst (v := 2) hx hb dX2_rowAt_23 (by decide) ?_
          refine lv_icmp_gt (tgt := 31) hx hb dX2_rowAt_24 (by decide) (fun c_5 => ?_) (fun c_5 => ?_)
          · refine lv_iconst (v := 0) hx hb dX2_rowAt_31 (by decide) ?_
            refine lv_istore_n (lv' := [(3, .int 0), (0, .ref h), (1, .int p1), (2, .int p2)]) hx hb dX2_rowAt_32 rfl hl (by decide) rfl (fun ls hl => ?_)
            refine lv_iload_n hx hb dX2_rowAt_33 rfl (lv_at hl 0 rfl) ?_
            refine lv_if_eq (tgt := 57) hx hb dX2_rowAt_34 (by decide) (fun _ => ?_) (fun c => absurd (by decide) c)
            refine lv_iconst (v := (-1)) hx hb dX2_rowAt_57 (by decide) ?_
            have e_0 : (pfX2_rowAt_r fr p1 p2) = (-1) := by rw [pfX2_rowAt_r, if_neg c_1, if_neg c_2, if_neg c_3, if_neg c_4, if_pos c_5]
            have hP9 := hP.sub (ws' := [(h, .inr (2, [.ref a0, .ref a1, .ref a2, .ref a3, .ref a4, .ref a5, .ref a6])), (a0, .inl (cI, 22, .inl (gl [m0, m1, m2, m3, m4, m5, m6, m7, m8, m9, m10, m11, m12, m13, m14, m15, m16, m17, 0, 4, 0, 16]))), (a3, .inl (cI, 24, .inl fr))]) [1, 2, 0] rfl
            have hD9 := hD.sub (ws' := [(h, .inr (2, [.ref a0, .ref a1, .ref a2, .ref a3, .ref a4, .ref a5, .ref a6])), (a0, .inl (cI, 22, .inl (gl [m0, m1, m2, m3, m4, m5, m6, m7, m8, m9, m10, m11, m12, m13, m14, m15, m16, m17, 0, 4, 0, 16]))), (a3, .inl (cI, 24, .inl fr))]) [1, 2, 0] (by decide) rfl
            exact W.iret (v := (-1)) hx hb hr (fun t ht hW => ⟨⟨(-1), (), rfl, e_0.symm, by rw [ht]; exact hP9, va_K.moved hW.alike hK, hD9⟩, hS.F ht⟩) hS.2.2 dX2_rowAt_58
          · refine lv_iconst (v := 1) hx hb dX2_rowAt_27 (by decide) ?_
            refine lv_goto (tgt := 32) hx hb dX2_rowAt_28 (by decide) ?_
            refine lv_istore_n (lv' := [(3, .int 1), (0, .ref h), (1, .int p1), (2, .int p2)]) hx hb dX2_rowAt_32 rfl hl (by decide) rfl (fun ls hl => ?_)
            refine lv_iload_n hx hb dX2_rowAt_33 rfl (lv_at hl 0 rfl) ?_
            refine lv_if_eq (tgt := 57) hx hb dX2_rowAt_34 (by decide) (fun c => absurd c (by decide)) (fun _ => ?_)
            refine lv_aload_n hx hb dX2_rowAt_37 rfl (lv_at hl 1 rfl) ?_
            refine zcVi (As := []) (rest := []) (wr := [(a3, .inl (cI, 24, .inl fr))]) ⟨hx, hb, hml, hown, hts⟩ (kkX2_isPacked l dC dI cI cB cZ cR H.size h a0 a1 a2 a3 a4 a5 a6 m0 m1 m2 m3 m4 m5 m6 m7 m8 m9 m10 m11 m12 m13 m14 m15 m16 m17 ) (cwV 0 hts (zgV wm_267 wm_268 wm_269 wm_22 wm_270) rfl rfl rfl (by decide +kernel) ⟨Nat.le_of_ble_eq_true rfl, Nat.le_of_ble_eq_true rfl⟩) hN hK hP hD hS hA [1, 2] [0] rfl rfl ⟨rfl, rfl⟩ (by decide) (ci := 2) rfl rfl rfl rfl hl.1 rfl (Nat.le_of_ble_eq_true rfl) dX2_rowAt_38 ⟨Nat.le_of_ble_eq_true rfl, Nat.le_of_ble_eq_true rfl⟩ (fun r u hu H locs hP hD hS => ?_)
            have hu : r = 0 := hu
            subst hu
            have hP : va_P (dC, dI) vwCl [(a3, .inl (cI, 24, .inl fr)), (h, .inr (2, [.ref a0, .ref a1, .ref a2, .ref a3, .ref a4, .ref a5, .ref a6])), (a0, .inl (cI, 22, .inl (gl [m0, m1, m2, m3, m4, m5, m6, m7, m8, m9, m10, m11, m12, m13, m14, m15, m16, m17, 0, 4, 0, 16])))] H := hP
            have hD : va_D A [(a3, .inl (cI, 24, .inl fr)), (h, .inr (2, [.ref a0, .ref a1, .ref a2, .ref a3, .ref a4, .ref a5, .ref a6])), (a0, .inl (cI, 22, .inl (gl [m0, m1, m2, m3, m4, m5, m6, m7, m8, m9, m10, m11, m12, m13, m14, m15, m16, m17, 0, 4, 0, 16])))] := hD
            refine lv_if_ne (tgt := 57) hx hb dX2_rowAt_41 (by decide) (fun c => absurd (by decide) c) (fun _ => ?_)
            refine lv_aload_n hx hb dX2_rowAt_44 rfl (lv_at hl 1 rfl) ?_
            refine va_get (D := (dC, dI)) (ci := 2) (v := .ref a3) (C := RX2) (T := TX2) (N := 7) hx hb hts hinX2 hown hK hP 1 rfl rfl 3 (by decide) k_0 (fun _ h9 => h9) rfl dX2_rowAt_45 ?_
            refine lv_iload_n hx hb dX2_rowAt_48 rfl (lv_at hl 2 rfl) ?_
            refine lv_iconst (v := 3) hx hb dX2_rowAt_49 (by decide) ?_
            refine lv_imul hx hb dX2_rowAt_50 ?_
            refine lv_iload_n hx hb dX2_rowAt_51 rfl (lv_at hl 3 rfl) ?_
            refine lv_iadd hx hb dX2_rowAt_52 ?_
            refine za_iald (v := (fr (Int32.toNatClampNeg ((p1 * 3) + p2)))) hx hb hK hP 0 0 rfl rfl (zinR c_1 c_3 c_4 c_5) rfl dX2_rowAt_53 ?_
            refine lv_goto (tgt := 58) hx hb dX2_rowAt_54 (by decide) ?_
            have e_0 : (pfX2_rowAt_r fr p1 p2) = (fr (Int32.toNatClampNeg ((p1 * 3) + p2))) := by rw [pfX2_rowAt_r, if_neg c_1, if_neg c_2, if_neg c_3, if_neg c_4, if_neg c_5]
            have hP9 := hP.sub (ws' := [(h, .inr (2, [.ref a0, .ref a1, .ref a2, .ref a3, .ref a4, .ref a5, .ref a6])), (a0, .inl (cI, 22, .inl (gl [m0, m1, m2, m3, m4, m5, m6, m7, m8, m9, m10, m11, m12, m13, m14, m15, m16, m17, 0, 4, 0, 16]))), (a3, .inl (cI, 24, .inl fr))]) [1, 2, 0] rfl
            have hD9 := hD.sub (ws' := [(h, .inr (2, [.ref a0, .ref a1, .ref a2, .ref a3, .ref a4, .ref a5, .ref a6])), (a0, .inl (cI, 22, .inl (gl [m0, m1, m2, m3, m4, m5, m6, m7, m8, m9, m10, m11, m12, m13, m14, m15, m16, m17, 0, 4, 0, 16]))), (a3, .inl (cI, 24, .inl fr))]) [1, 2, 0] (by decide) rfl
            exact W.iret (v := (fr (Int32.toNatClampNeg ((p1 * 3) + p2)))) hx hb hr (fun t ht hW => ⟨⟨(fr (Int32.toNatClampNeg ((p1 * 3) + p2))), (), rfl, e_0.symm, by rw [ht]; exact hP9, va_K.moved hW.alike hK, hD9⟩, hS.F ht⟩) hS.2.2 dX2_rowAt_58

set_option maxHeartbeats 4000000 in
set_option maxRecDepth 100000 in
theorem kkX7_row (l : Launch) (dC : Nat → ClassId) (dI : Nat → Nat → Nat) (cI cB cZ cR : ClassId) (sz : Nat) (x : Nat) (xt : Nat) (xd : Nat) (h : Nat) (xk : Nat) (xl : Nat) (xw : Nat) (xp : Nat) (xs : Nat) (xr : Nat) (a0 : Nat) (a1 : Nat) (a2 : Nat) (a3 : Nat) (a4 : Nat) (a5 : Nat) (a6 : Nat) (p1 : Int32) (p2 : Int32) : Met l yX7_row (.code yX7_row cX7_row 3 (some .int) :: wsL_law) ({ frames := 2, cells := 0, slots := 0, locals := 43 }) (zPc dC dI (zT cI cB cZ cR) [.ref x, .int p1, .int p2] sz [(x, .inr (7, [.ref xt, .ref xd, .ref h, .ref xk, .ref xl, .ref xw, .ref xp, .ref xs, .ref xr, .int 0, .int (-1), .int 0, .null])), (h, .inr (2, [.ref a0, .ref a1, .ref a2, .ref a3, .ref a4, .ref a5, .ref a6])), (a0, .inl (cI, 22, .inl (gl [0, 0, 0, 0, 4, 0, 0, 0, 0, 0, 0, 0, (-1), (-1), 0, 0, 0, 0, 0, 4, 0, 16]))), (a3, .inl (cI, 24, .inl (gl [(-1), (-1), (-1), (-1), (-1), (-1), (-1), (-1), (-1), (-1), (-1), (-1), (-1), (-1), (-1), (-1), (-1), (-1), (-1), (-1), (-1), (-1), (-1), (-1)])))]) (va_Qi (fun (r : Int32) (_ : Unit) => r = (pfX2_rowAt_r (gl [(-1), (-1), (-1), (-1), (-1), (-1), (-1), (-1), (-1), (-1), (-1), (-1), (-1), (-1), (-1), (-1), (-1), (-1), (-1), (-1), (-1), (-1), (-1), (-1)]) p1 p2)) (fun _ : Unit => zB dC dI (zT cI cB cZ cR) (va_A [(x, .inr (7, [.ref xt, .ref xd, .ref h, .ref xk, .ref xl, .ref xw, .ref xp, .ref xs, .ref xr, .int 0, .int (-1), .int 0, .null])), (h, .inr (2, [.ref a0, .ref a1, .ref a2, .ref a3, .ref a4, .ref a5, .ref a6])), (a0, .inl (cI, 22, .inl (gl [0, 0, 0, 0, 4, 0, 0, 0, 0, 0, 0, 0, (-1), (-1), 0, 0, 0, 0, 0, 4, 0, 16]))), (a3, .inl (cI, 24, .inl (gl [(-1), (-1), (-1), (-1), (-1), (-1), (-1), (-1), (-1), (-1), (-1), (-1), (-1), (-1), (-1), (-1), (-1), (-1), (-1), (-1), (-1), (-1), (-1), (-1)])))] sz) [(x, .inr (7, [.ref xt, .ref xd, .ref h, .ref xk, .ref xl, .ref xw, .ref xp, .ref xs, .ref xr, .int 0, .int (-1), .int 0, .null])), (h, .inr (2, [.ref a0, .ref a1, .ref a2, .ref a3, .ref a4, .ref a5, .ref a6])), (a0, .inl (cI, 22, .inl (gl [0, 0, 0, 0, 4, 0, 0, 0, 0, 0, 0, 0, (-1), (-1), 0, 0, 0, 0, 0, 4, 0, 16]))), (a3, .inl (cI, 24, .inl (gl [(-1), (-1), (-1), (-1), (-1), (-1), (-1), (-1), (-1), (-1), (-1), (-1), (-1), (-1), (-1), (-1), (-1), (-1), (-1), (-1), (-1), (-1), (-1), (-1)])))]) (va_A [(x, .inr (7, [.ref xt, .ref xd, .ref h, .ref xk, .ref xl, .ref xw, .ref xp, .ref xs, .ref xr, .int 0, .int (-1), .int 0, .null])), (h, .inr (2, [.ref a0, .ref a1, .ref a2, .ref a3, .ref a4, .ref a5, .ref a6])), (a0, .inl (cI, 22, .inl (gl [0, 0, 0, 0, 4, 0, 0, 0, 0, 0, 0, 0, (-1), (-1), 0, 0, 0, 0, 0, 4, 0, 16]))), (a3, .inl (cI, 24, .inl (gl [(-1), (-1), (-1), (-1), (-1), (-1), (-1), (-1), (-1), (-1), (-1), (-1), (-1), (-1), (-1), (-1), (-1), (-1), (-1), (-1), (-1), (-1), (-1), (-1)])))] sz)) 0 0 (va_A [(x, .inr (7, [.ref xt, .ref xd, .ref h, .ref xk, .ref xl, .ref xw, .ref xp, .ref xs, .ref xr, .int 0, .int (-1), .int 0, .null])), (h, .inr (2, [.ref a0, .ref a1, .ref a2, .ref a3, .ref a4, .ref a5, .ref a6])), (a0, .inl (cI, 22, .inl (gl [0, 0, 0, 0, 4, 0, 0, 0, 0, 0, 0, 0, (-1), (-1), 0, 0, 0, 0, 0, 4, 0, 16]))), (a3, .inl (cI, 24, .inl (gl [(-1), (-1), (-1), (-1), (-1), (-1), (-1), (-1), (-1), (-1), (-1), (-1), (-1), (-1), (-1), (-1), (-1), (-1), (-1), (-1), (-1), (-1), (-1), (-1)])))] sz) := by
  refine Met.ofW (cc := cX7_row) (maxL := 3) (ret := (some .int)) (by decide) rfl ?_
  intro p e s m args below meth c s₁ B hml hv
  obtain ⟨rfl, hsz, hP, hK, hD0, hN⟩ := hv
  have hx := B.exec
  have hb := B.bytes
  have hr := B.returns
  have hts := atoms_spec (ws := (.code yX7_row cX7_row 3 (some .int) :: wsL_law)) B.pre
  have hown : s.vm.findClass RX7 = some m.cls := findClass_of_methodNamed B.named
  have hlocks := B.notSynchronized
  have hinX7 : ∀ w ∈ u_ws RX7 TX7 13, w ∈ (.code yX7_row cX7_row 3 (some .int) :: wsL_law) := fun w h => List.mem_cons_of_mem _ (inlX7 w h)
  have k_0 := hts (.fieldLink RX7 26 "RingMarks" "ring" "LRingMarks$Ring;") (List.mem_cons_of_mem _ wm_23)
  subst hsz
  have hD := hD0.self (sz := s.heap.size)
  generalize hAe : va_A [(x, .inr (7, [.ref xt, .ref xd, .ref h, .ref xk, .ref xl, .ref xw, .ref xp, .ref xs, .ref xr, .int 0, .int (-1), .int 0, .null])), (h, .inr (2, [.ref a0, .ref a1, .ref a2, .ref a3, .ref a4, .ref a5, .ref a6])), (a0, .inl (cI, 22, .inl (gl [0, 0, 0, 0, 4, 0, 0, 0, 0, 0, 0, 0, (-1), (-1), 0, 0, 0, 0, 0, 4, 0, 16]))), (a3, .inl (cI, 24, .inl (gl [(-1), (-1), (-1), (-1), (-1), (-1), (-1), (-1), (-1), (-1), (-1), (-1), (-1), (-1), (-1), (-1), (-1), (-1), (-1), (-1), (-1), (-1), (-1), (-1)])))] s.heap.size = A at hD ⊢
  have hA : ∀ q : Nat, s.heap.size ≤ q → A q := fun q h => by rw [← hAe]; exact Or.inr h
  have hP : va_P (dC, dI) vwCl [(x, .inr (7, [.ref xt, .ref xd, .ref h, .ref xk, .ref xl, .ref xw, .ref xp, .ref xs, .ref xr, .int 0, .int (-1), .int 0, .null])), (h, .inr (2, [.ref a0, .ref a1, .ref a2, .ref a3, .ref a4, .ref a5, .ref a6])), (a0, .inl (cI, 22, .inl (gl [0, 0, 0, 0, 4, 0, 0, 0, 0, 0, 0, 0, (-1), (-1), 0, 0, 0, 0, 0, 4, 0, 16]))), (a3, .inl (cI, 24, .inl (gl [(-1), (-1), (-1), (-1), (-1), (-1), (-1), (-1), (-1), (-1), (-1), (-1), (-1), (-1), (-1), (-1), (-1), (-1), (-1), (-1), (-1), (-1), (-1), (-1)])))] s.heap := hP
  have hl := lv_entry ([.ref x, .int p1, .int p2]) (n := 3) (Nat.le_of_ble_eq_true rfl)
  rw [lg_entry_eq]
  generalize (lg_sl ([.ref x, .int p1, .int p2]) ++ List.replicate (3 - (lg_sl ([.ref x, .int p1, .int p2])).length) Slot.unset).toArray = ls at hl ⊢
  have hl : lv_has ls 3 [(0, .ref x), (1, .int p1), (2, .int p2)] := hl
  obtain ⟨H, hH⟩ : ∃ H, H = s.heap := ⟨_, rfl⟩
  rw [← hH] at hP ⊢
  have hS : va_S A s.heap H [] := by rw [hH]; exact va_S.rf
  refine lv_aload_n hx hb dX7_row_0 rfl (lv_at hl 0 rfl) ?_
  refine va_get (D := (dC, dI)) (ci := 7) (v := .ref h) (C := RX7) (T := TX7) (N := 13) hx hb hts hinX7 hown hK hP 0 rfl rfl 2 (by decide) k_0 (fun _ h9 => h9) rfl dX7_row_1 ?_
  refine lv_iload_n hx hb dX7_row_4 rfl (lv_at hl 1 rfl) ?_
  refine lv_iload_n hx hb dX7_row_5 rfl (lv_at hl 2 rfl) ?_
  refine zcVi (As := [.int p1, .int p2]) (rest := []) (wr := [(x, .inr (7, [.ref xt, .ref xd, .ref h, .ref xk, .ref xl, .ref xw, .ref xp, .ref xs, .ref xr, .int 0, .int (-1), .int 0, .null]))]) ⟨hx, hb, hml, hown, hts⟩ (kkX2_rowAt l dC dI cI cB cZ cR H.size h a0 a1 a2 a3 a4 a5 a6 0 0 0 0 4 0 0 0 0 0 0 0 (-1) (-1) 0 0 0 0 (gl [(-1), (-1), (-1), (-1), (-1), (-1), (-1), (-1), (-1), (-1), (-1), (-1), (-1), (-1), (-1), (-1), (-1), (-1), (-1), (-1), (-1), (-1), (-1), (-1)]) p1 p2 ) (cwV 2 hts (zgV wm_766 wm_449 wm_450 wm_22 wm_451) rfl rfl rfl (by decide +kernel) ⟨Nat.le_of_ble_eq_true rfl, Nat.le_of_ble_eq_true rfl⟩) hN hK hP hD hS hA [1, 2, 3] [0] rfl rfl ⟨rfl, rfl⟩ (by decide) (ci := 2) rfl rfl rfl rfl hl.1 rfl (Nat.le_of_ble_eq_true rfl) dX7_row_6 ⟨Nat.le_of_ble_eq_true rfl, Nat.le_of_ble_eq_true rfl⟩ (fun r u hu H locs hP hD hS => ?_)
  have hu : r = (pfX2_rowAt_r (gl [(-1), (-1), (-1), (-1), (-1), (-1), (-1), (-1), (-1), (-1), (-1), (-1), (-1), (-1), (-1), (-1), (-1), (-1), (-1), (-1), (-1), (-1), (-1), (-1)]) p1 p2) := hu
  subst hu
  have hP : va_P (dC, dI) vwCl [(x, .inr (7, [.ref xt, .ref xd, .ref h, .ref xk, .ref xl, .ref xw, .ref xp, .ref xs, .ref xr, .int 0, .int (-1), .int 0, .null])), (h, .inr (2, [.ref a0, .ref a1, .ref a2, .ref a3, .ref a4, .ref a5, .ref a6])), (a0, .inl (cI, 22, .inl (gl [0, 0, 0, 0, 4, 0, 0, 0, 0, 0, 0, 0, (-1), (-1), 0, 0, 0, 0, 0, 4, 0, 16]))), (a3, .inl (cI, 24, .inl (gl [(-1), (-1), (-1), (-1), (-1), (-1), (-1), (-1), (-1), (-1), (-1), (-1), (-1), (-1), (-1), (-1), (-1), (-1), (-1), (-1), (-1), (-1), (-1), (-1)])))] H := hP
  have hD : va_D A [(x, .inr (7, [.ref xt, .ref xd, .ref h, .ref xk, .ref xl, .ref xw, .ref xp, .ref xs, .ref xr, .int 0, .int (-1), .int 0, .null])), (h, .inr (2, [.ref a0, .ref a1, .ref a2, .ref a3, .ref a4, .ref a5, .ref a6])), (a0, .inl (cI, 22, .inl (gl [0, 0, 0, 0, 4, 0, 0, 0, 0, 0, 0, 0, (-1), (-1), 0, 0, 0, 0, 0, 4, 0, 16]))), (a3, .inl (cI, 24, .inl (gl [(-1), (-1), (-1), (-1), (-1), (-1), (-1), (-1), (-1), (-1), (-1), (-1), (-1), (-1), (-1), (-1), (-1), (-1), (-1), (-1), (-1), (-1), (-1), (-1)])))] := hD
  have hP9 := hP.sub (ws' := [(x, .inr (7, [.ref xt, .ref xd, .ref h, .ref xk, .ref xl, .ref xw, .ref xp, .ref xs, .ref xr, .int 0, .int (-1), .int 0, .null])), (h, .inr (2, [.ref a0, .ref a1, .ref a2, .ref a3, .ref a4, .ref a5, .ref a6])), (a0, .inl (cI, 22, .inl (gl [0, 0, 0, 0, 4, 0, 0, 0, 0, 0, 0, 0, (-1), (-1), 0, 0, 0, 0, 0, 4, 0, 16]))), (a3, .inl (cI, 24, .inl (gl [(-1), (-1), (-1), (-1), (-1), (-1), (-1), (-1), (-1), (-1), (-1), (-1), (-1), (-1), (-1), (-1), (-1), (-1), (-1), (-1), (-1), (-1), (-1), (-1)])))]) [0, 1, 2, 3] rfl
  have hD9 := hD.sub (ws' := [(x, .inr (7, [.ref xt, .ref xd, .ref h, .ref xk, .ref xl, .ref xw, .ref xp, .ref xs, .ref xr, .int 0, .int (-1), .int 0, .null])), (h, .inr (2, [.ref a0, .ref a1, .ref a2, .ref a3, .ref a4, .ref a5, .ref a6])), (a0, .inl (cI, 22, .inl (gl [0, 0, 0, 0, 4, 0, 0, 0, 0, 0, 0, 0, (-1), (-1), 0, 0, 0, 0, 0, 4, 0, 16]))), (a3, .inl (cI, 24, .inl (gl [(-1), (-1), (-1), (-1), (-1), (-1), (-1), (-1), (-1), (-1), (-1), (-1), (-1), (-1), (-1), (-1), (-1), (-1), (-1), (-1), (-1), (-1), (-1), (-1)])))]) [0, 1, 2, 3] (by decide) rfl
  exact W.iret (v := (pfX2_rowAt_r (gl [(-1), (-1), (-1), (-1), (-1), (-1), (-1), (-1), (-1), (-1), (-1), (-1), (-1), (-1), (-1), (-1), (-1), (-1), (-1), (-1), (-1), (-1), (-1), (-1)]) p1 p2)) hx hb hr (fun t ht hW => ⟨⟨(pfX2_rowAt_r (gl [(-1), (-1), (-1), (-1), (-1), (-1), (-1), (-1), (-1), (-1), (-1), (-1), (-1), (-1), (-1), (-1), (-1), (-1), (-1), (-1), (-1), (-1), (-1), (-1)]) p1 p2), (), rfl, rfl, by rw [ht]; exact hP9, va_K.moved hW.alike hK, hD9⟩, hS.F ht⟩) hS.2.2 dX7_row_9

set_option maxHeartbeats 4000000 in
set_option maxRecDepth 100000 in
theorem kkX2_ofBuffer_f (l : Launch) (dC : Nat → ClassId) (dI : Nat → Nat → Nat) (cI cB cZ cR : ClassId) (sz : Nat) (h : Nat) (a0 : Nat) (a1 : Nat) (a2 : Nat) (a3 : Nat) (a4 : Nat) (a5 : Nat) (a6 : Nat) (p1 : Int32) (p2 : Int32) : Met l yX2_ofBuffer (.code yX2_ofBuffer cX2_ofBuffer 4 (some .int) :: wsL_law) ({ frames := 0, cells := 0, slots := 0, locals := 0 }) (zPc dC dI (zT cI cB cZ cR) [.ref h, .int p1, .int p2] sz [(h, .inr (2, [.ref a0, .ref a1, .ref a2, .ref a3, .ref a4, .ref a5, .ref a6])), (a0, .inl (cI, 22, .inl (gl [0, 0, 0, 0, 4, 0, 0, 0, 0, 0, 0, 0, (-1), (-1), 0, 0, 0, 0, 0, 4, 0, 16])))]) (va_Qi (fun (r : Int32) (_ : Unit) => r = (-1)) (fun _ : Unit => zB dC dI (zT cI cB cZ cR) (va_A [(h, .inr (2, [.ref a0, .ref a1, .ref a2, .ref a3, .ref a4, .ref a5, .ref a6])), (a0, .inl (cI, 22, .inl (gl [0, 0, 0, 0, 4, 0, 0, 0, 0, 0, 0, 0, (-1), (-1), 0, 0, 0, 0, 0, 4, 0, 16])))] sz) [(h, .inr (2, [.ref a0, .ref a1, .ref a2, .ref a3, .ref a4, .ref a5, .ref a6])), (a0, .inl (cI, 22, .inl (gl [0, 0, 0, 0, 4, 0, 0, 0, 0, 0, 0, 0, (-1), (-1), 0, 0, 0, 0, 0, 4, 0, 16])))]) (va_A [(h, .inr (2, [.ref a0, .ref a1, .ref a2, .ref a3, .ref a4, .ref a5, .ref a6])), (a0, .inl (cI, 22, .inl (gl [0, 0, 0, 0, 4, 0, 0, 0, 0, 0, 0, 0, (-1), (-1), 0, 0, 0, 0, 0, 4, 0, 16])))] sz)) 0 0 (va_A [(h, .inr (2, [.ref a0, .ref a1, .ref a2, .ref a3, .ref a4, .ref a5, .ref a6])), (a0, .inl (cI, 22, .inl (gl [0, 0, 0, 0, 4, 0, 0, 0, 0, 0, 0, 0, (-1), (-1), 0, 0, 0, 0, 0, 4, 0, 16])))] sz) := by
  refine Met.ofW (cc := cX2_ofBuffer) (maxL := 4) (ret := (some .int)) (by decide) rfl ?_
  intro p e s m args below meth c s₁ B hml hv
  obtain ⟨rfl, hsz, hP, hK, hD0, hN⟩ := hv
  have hx := B.exec
  have hb := B.bytes
  have hr := B.returns
  have hts := atoms_spec (ws := (.code yX2_ofBuffer cX2_ofBuffer 4 (some .int) :: wsL_law)) B.pre
  have hown : s.vm.findClass RX2 = some m.cls := findClass_of_methodNamed B.named
  have hlocks := B.notSynchronized
  have hinX2 : ∀ w ∈ u_ws RX2 TX2 7, w ∈ (.code yX2_ofBuffer cX2_ofBuffer 4 (some .int) :: wsL_law) := fun w h => List.mem_cons_of_mem _ (inlX2 w h)
  have k_0 := hts (.fieldLink RX2 11 "RingMarks$Ring" "marks" "[I") (List.mem_cons_of_mem _ wm_61)
  subst hsz
  have hD := hD0.self (sz := s.heap.size)
  generalize hAe : va_A [(h, .inr (2, [.ref a0, .ref a1, .ref a2, .ref a3, .ref a4, .ref a5, .ref a6])), (a0, .inl (cI, 22, .inl (gl [0, 0, 0, 0, 4, 0, 0, 0, 0, 0, 0, 0, (-1), (-1), 0, 0, 0, 0, 0, 4, 0, 16])))] s.heap.size = A at hD ⊢
  have hA : ∀ q : Nat, s.heap.size ≤ q → A q := fun q h => by rw [← hAe]; exact Or.inr h
  have hP : va_P (dC, dI) vwCl [(h, .inr (2, [.ref a0, .ref a1, .ref a2, .ref a3, .ref a4, .ref a5, .ref a6])), (a0, .inl (cI, 22, .inl (gl [0, 0, 0, 0, 4, 0, 0, 0, 0, 0, 0, 0, (-1), (-1), 0, 0, 0, 0, 0, 4, 0, 16])))] s.heap := hP
  have hl := lv_entry ([.ref h, .int p1, .int p2]) (n := 4) (Nat.le_of_ble_eq_true rfl)
  rw [lg_entry_eq]
  generalize (lg_sl ([.ref h, .int p1, .int p2]) ++ List.replicate (4 - (lg_sl ([.ref h, .int p1, .int p2])).length) Slot.unset).toArray = ls at hl ⊢
  have hl : lv_has ls 4 [(0, .ref h), (1, .int p1), (2, .int p2)] := hl
  obtain ⟨H, hH⟩ : ∃ H, H = s.heap := ⟨_, rfl⟩
  rw [← hH] at hP ⊢
  have hS : va_S A s.heap H [] := by rw [hH]; exact va_S.rf
  refine lv_iload_n hx hb dX2_ofBuffer_0 rfl (lv_at hl 1 rfl) ?_
  refine lv_if_lt (tgt := 35) hx hb dX2_ofBuffer_1 (by decide) (fun c_1 => ?_) (fun c_1 => ?_)
  · refine lv_iconst (v := 0) hx hb dX2_ofBuffer_35 (by decide) ?_
    refine lv_istore_n (lv' := [(3, .int 0), (0, .ref h), (1, .int p1), (2, .int p2)]) hx hb dX2_ofBuffer_36 rfl hl (by decide) rfl (fun ls hl => ?_)
    refine lv_iload_n hx hb dX2_ofBuffer_37 rfl (lv_at hl 0 rfl) ?_
    refine lv_if_eq (tgt := 55) hx hb dX2_ofBuffer_38 (by decide) (fun _ => ?_) (fun c => absurd (by decide) c)
    refine lv_iconst (v := (-1)) hx hb dX2_ofBuffer_55 (by decide) ?_
    have hP9 := hP.sub (ws' := [(h, .inr (2, [.ref a0, .ref a1, .ref a2, .ref a3, .ref a4, .ref a5, .ref a6])), (a0, .inl (cI, 22, .inl (gl [0, 0, 0, 0, 4, 0, 0, 0, 0, 0, 0, 0, (-1), (-1), 0, 0, 0, 0, 0, 4, 0, 16])))]) [0, 1] rfl
    have hD9 := hD.sub (ws' := [(h, .inr (2, [.ref a0, .ref a1, .ref a2, .ref a3, .ref a4, .ref a5, .ref a6])), (a0, .inl (cI, 22, .inl (gl [0, 0, 0, 0, 4, 0, 0, 0, 0, 0, 0, 0, (-1), (-1), 0, 0, 0, 0, 0, 4, 0, 16])))]) [0, 1] (by decide) rfl
    exact W.iret (v := (-1)) hx hb hr (fun t ht hW => ⟨⟨(-1), (), rfl, rfl, by rw [ht]; exact hP9, va_K.moved hW.alike hK, hD9⟩, hS.F ht⟩) hS.2.2 dX2_ofBuffer_56
  · refine lv_iload_n hx hb dX2_ofBuffer_4 rfl (lv_at hl 1 rfl) ?_
    refine lv_aload_n hx hb dX2_ofBuffer_5 rfl (lv_at hl 0 rfl) ?_
    refine va_get (D := (dC, dI)) (ci := 2) (v := .ref a0) (C := RX2) (T := TX2) (N := 7) hx hb hts hinX2 hown hK hP 0 rfl rfl 0 (by decide) k_0 (fun _ h9 => h9) rfl dX2_ofBuffer_6 ?_
    refine lv_iconst (v := 5) hx hb dX2_ofBuffer_9 (by decide) ?_
    refine za_iald (v := 0) hx hb hK hP 1 0 rfl rfl (zin tn_5 (Nat.le_of_ble_eq_true rfl)) (zrd _ tn_5 rfl) dX2_ofBuffer_10 ?_
    refine lv_icmp_ge (tgt := 35) hx hb dX2_ofBuffer_11 (by decide) (fun _ => ?_) (fun c => absurd (znl c_1) c)
    refine lv_iconst (v := 0) hx hb dX2_ofBuffer_35 (by decide) ?_
    refine lv_istore_n (lv' := [(3, .int 0), (0, .ref h), (1, .int p1), (2, .int p2)]) hx hb dX2_ofBuffer_36 rfl hl (by decide) rfl (fun ls hl => ?_)
    refine lv_iload_n hx hb dX2_ofBuffer_37 rfl (lv_at hl 0 rfl) ?_
    refine lv_if_eq (tgt := 55) hx hb dX2_ofBuffer_38 (by decide) (fun _ => ?_) (fun c => absurd (by decide) c)
    refine lv_iconst (v := (-1)) hx hb dX2_ofBuffer_55 (by decide) ?_
    have hP9 := hP.sub (ws' := [(h, .inr (2, [.ref a0, .ref a1, .ref a2, .ref a3, .ref a4, .ref a5, .ref a6])), (a0, .inl (cI, 22, .inl (gl [0, 0, 0, 0, 4, 0, 0, 0, 0, 0, 0, 0, (-1), (-1), 0, 0, 0, 0, 0, 4, 0, 16])))]) [0, 1] rfl
    have hD9 := hD.sub (ws' := [(h, .inr (2, [.ref a0, .ref a1, .ref a2, .ref a3, .ref a4, .ref a5, .ref a6])), (a0, .inl (cI, 22, .inl (gl [0, 0, 0, 0, 4, 0, 0, 0, 0, 0, 0, 0, (-1), (-1), 0, 0, 0, 0, 0, 4, 0, 16])))]) [0, 1] (by decide) rfl
    exact W.iret (v := (-1)) hx hb hr (fun t ht hW => ⟨⟨(-1), (), rfl, rfl, by rw [ht]; exact hP9, va_K.moved hW.alike hK, hD9⟩, hS.F ht⟩) hS.2.2 dX2_ofBuffer_56

set_option maxHeartbeats 4000000 in
set_option maxRecDepth 100000 in
theorem kkX7_buffer (l : Launch) (dC : Nat → ClassId) (dI : Nat → Nat → Nat) (cI cB cZ cR : ClassId) (sz : Nat) (x : Nat) (xt : Nat) (xd : Nat) (h : Nat) (xk : Nat) (xl : Nat) (xw : Nat) (xp : Nat) (xs : Nat) (xr : Nat) (a0 : Nat) (a1 : Nat) (a2 : Nat) (a3 : Nat) (a4 : Nat) (a5 : Nat) (a6 : Nat) (p1 : Int32) (p2 : Int32) : Met l yX7_buffer (.code yX7_buffer cX7_buffer 3 (some .int) :: wsL_law) ({ frames := 1, cells := 0, slots := 0, locals := 23 }) (zPc dC dI (zT cI cB cZ cR) [.ref x, .int p1, .int p2] sz [(x, .inr (7, [.ref xt, .ref xd, .ref h, .ref xk, .ref xl, .ref xw, .ref xp, .ref xs, .ref xr, .int 0, .int (-1), .int 0, .null])), (h, .inr (2, [.ref a0, .ref a1, .ref a2, .ref a3, .ref a4, .ref a5, .ref a6])), (a0, .inl (cI, 22, .inl (gl [0, 0, 0, 0, 4, 0, 0, 0, 0, 0, 0, 0, (-1), (-1), 0, 0, 0, 0, 0, 4, 0, 16])))]) (va_Qi (fun (r : Int32) (_ : Unit) => r = (-1)) (fun _ : Unit => zB dC dI (zT cI cB cZ cR) (va_A [(x, .inr (7, [.ref xt, .ref xd, .ref h, .ref xk, .ref xl, .ref xw, .ref xp, .ref xs, .ref xr, .int 0, .int (-1), .int 0, .null])), (h, .inr (2, [.ref a0, .ref a1, .ref a2, .ref a3, .ref a4, .ref a5, .ref a6])), (a0, .inl (cI, 22, .inl (gl [0, 0, 0, 0, 4, 0, 0, 0, 0, 0, 0, 0, (-1), (-1), 0, 0, 0, 0, 0, 4, 0, 16])))] sz) [(x, .inr (7, [.ref xt, .ref xd, .ref h, .ref xk, .ref xl, .ref xw, .ref xp, .ref xs, .ref xr, .int 0, .int (-1), .int 0, .null])), (h, .inr (2, [.ref a0, .ref a1, .ref a2, .ref a3, .ref a4, .ref a5, .ref a6])), (a0, .inl (cI, 22, .inl (gl [0, 0, 0, 0, 4, 0, 0, 0, 0, 0, 0, 0, (-1), (-1), 0, 0, 0, 0, 0, 4, 0, 16])))]) (va_A [(x, .inr (7, [.ref xt, .ref xd, .ref h, .ref xk, .ref xl, .ref xw, .ref xp, .ref xs, .ref xr, .int 0, .int (-1), .int 0, .null])), (h, .inr (2, [.ref a0, .ref a1, .ref a2, .ref a3, .ref a4, .ref a5, .ref a6])), (a0, .inl (cI, 22, .inl (gl [0, 0, 0, 0, 4, 0, 0, 0, 0, 0, 0, 0, (-1), (-1), 0, 0, 0, 0, 0, 4, 0, 16])))] sz)) 0 0 (va_A [(x, .inr (7, [.ref xt, .ref xd, .ref h, .ref xk, .ref xl, .ref xw, .ref xp, .ref xs, .ref xr, .int 0, .int (-1), .int 0, .null])), (h, .inr (2, [.ref a0, .ref a1, .ref a2, .ref a3, .ref a4, .ref a5, .ref a6])), (a0, .inl (cI, 22, .inl (gl [0, 0, 0, 0, 4, 0, 0, 0, 0, 0, 0, 0, (-1), (-1), 0, 0, 0, 0, 0, 4, 0, 16])))] sz) := by
  refine Met.ofW (cc := cX7_buffer) (maxL := 3) (ret := (some .int)) (by decide) rfl ?_
  intro p e s m args below meth c s₁ B hml hv
  obtain ⟨rfl, hsz, hP, hK, hD0, hN⟩ := hv
  have hx := B.exec
  have hb := B.bytes
  have hr := B.returns
  have hts := atoms_spec (ws := (.code yX7_buffer cX7_buffer 3 (some .int) :: wsL_law)) B.pre
  have hown : s.vm.findClass RX7 = some m.cls := findClass_of_methodNamed B.named
  have hlocks := B.notSynchronized
  have hinX7 : ∀ w ∈ u_ws RX7 TX7 13, w ∈ (.code yX7_buffer cX7_buffer 3 (some .int) :: wsL_law) := fun w h => List.mem_cons_of_mem _ (inlX7 w h)
  have k_0 := hts (.fieldLink RX7 26 "RingMarks" "ring" "LRingMarks$Ring;") (List.mem_cons_of_mem _ wm_23)
  subst hsz
  have hD := hD0.self (sz := s.heap.size)
  generalize hAe : va_A [(x, .inr (7, [.ref xt, .ref xd, .ref h, .ref xk, .ref xl, .ref xw, .ref xp, .ref xs, .ref xr, .int 0, .int (-1), .int 0, .null])), (h, .inr (2, [.ref a0, .ref a1, .ref a2, .ref a3, .ref a4, .ref a5, .ref a6])), (a0, .inl (cI, 22, .inl (gl [0, 0, 0, 0, 4, 0, 0, 0, 0, 0, 0, 0, (-1), (-1), 0, 0, 0, 0, 0, 4, 0, 16])))] s.heap.size = A at hD ⊢
  have hA : ∀ q : Nat, s.heap.size ≤ q → A q := fun q h => by rw [← hAe]; exact Or.inr h
  have hP : va_P (dC, dI) vwCl [(x, .inr (7, [.ref xt, .ref xd, .ref h, .ref xk, .ref xl, .ref xw, .ref xp, .ref xs, .ref xr, .int 0, .int (-1), .int 0, .null])), (h, .inr (2, [.ref a0, .ref a1, .ref a2, .ref a3, .ref a4, .ref a5, .ref a6])), (a0, .inl (cI, 22, .inl (gl [0, 0, 0, 0, 4, 0, 0, 0, 0, 0, 0, 0, (-1), (-1), 0, 0, 0, 0, 0, 4, 0, 16])))] s.heap := hP
  have hl := lv_entry ([.ref x, .int p1, .int p2]) (n := 3) (Nat.le_of_ble_eq_true rfl)
  rw [lg_entry_eq]
  generalize (lg_sl ([.ref x, .int p1, .int p2]) ++ List.replicate (3 - (lg_sl ([.ref x, .int p1, .int p2])).length) Slot.unset).toArray = ls at hl ⊢
  have hl : lv_has ls 3 [(0, .ref x), (1, .int p1), (2, .int p2)] := hl
  obtain ⟨H, hH⟩ : ∃ H, H = s.heap := ⟨_, rfl⟩
  rw [← hH] at hP ⊢
  have hS : va_S A s.heap H [] := by rw [hH]; exact va_S.rf
  refine lv_aload_n hx hb dX7_buffer_0 rfl (lv_at hl 0 rfl) ?_
  refine va_get (D := (dC, dI)) (ci := 7) (v := .ref h) (C := RX7) (T := TX7) (N := 13) hx hb hts hinX7 hown hK hP 0 rfl rfl 2 (by decide) k_0 (fun _ h9 => h9) rfl dX7_buffer_1 ?_
  refine lv_iload_n hx hb dX7_buffer_4 rfl (lv_at hl 1 rfl) ?_
  refine lv_iload_n hx hb dX7_buffer_5 rfl (lv_at hl 2 rfl) ?_
  refine zcVi (As := [.int p1, .int p2]) (rest := []) (wr := [(x, .inr (7, [.ref xt, .ref xd, .ref h, .ref xk, .ref xl, .ref xw, .ref xp, .ref xs, .ref xr, .int 0, .int (-1), .int 0, .null]))]) ⟨hx, hb, hml, hown, hts⟩ (kkX2_ofBuffer_f l dC dI cI cB cZ cR H.size h a0 a1 a2 a3 a4 a5 a6 p1 p2 ) (cwV 2 hts (zgV wm_775 wm_299 wm_300 wm_22 wm_301) rfl rfl rfl (by decide +kernel) ⟨Nat.le_of_ble_eq_true rfl, Nat.le_of_ble_eq_true rfl⟩) hN hK hP hD hS hA [1, 2] [0] rfl rfl ⟨rfl, rfl⟩ (by decide) (ci := 2) rfl rfl rfl rfl hl.1 rfl (Nat.le_of_ble_eq_true rfl) dX7_buffer_6 ⟨Nat.le_of_ble_eq_true rfl, Nat.le_of_ble_eq_true rfl⟩ (fun r u hu H locs hP hD hS => ?_)
  have hu : r = (-1) := hu
  subst hu
  have hP : va_P (dC, dI) vwCl [(x, .inr (7, [.ref xt, .ref xd, .ref h, .ref xk, .ref xl, .ref xw, .ref xp, .ref xs, .ref xr, .int 0, .int (-1), .int 0, .null])), (h, .inr (2, [.ref a0, .ref a1, .ref a2, .ref a3, .ref a4, .ref a5, .ref a6])), (a0, .inl (cI, 22, .inl (gl [0, 0, 0, 0, 4, 0, 0, 0, 0, 0, 0, 0, (-1), (-1), 0, 0, 0, 0, 0, 4, 0, 16])))] H := hP
  have hD : va_D A [(x, .inr (7, [.ref xt, .ref xd, .ref h, .ref xk, .ref xl, .ref xw, .ref xp, .ref xs, .ref xr, .int 0, .int (-1), .int 0, .null])), (h, .inr (2, [.ref a0, .ref a1, .ref a2, .ref a3, .ref a4, .ref a5, .ref a6])), (a0, .inl (cI, 22, .inl (gl [0, 0, 0, 0, 4, 0, 0, 0, 0, 0, 0, 0, (-1), (-1), 0, 0, 0, 0, 0, 4, 0, 16])))] := hD
  have hP9 := hP.sub (ws' := [(x, .inr (7, [.ref xt, .ref xd, .ref h, .ref xk, .ref xl, .ref xw, .ref xp, .ref xs, .ref xr, .int 0, .int (-1), .int 0, .null])), (h, .inr (2, [.ref a0, .ref a1, .ref a2, .ref a3, .ref a4, .ref a5, .ref a6])), (a0, .inl (cI, 22, .inl (gl [0, 0, 0, 0, 4, 0, 0, 0, 0, 0, 0, 0, (-1), (-1), 0, 0, 0, 0, 0, 4, 0, 16])))]) [0, 1, 2] rfl
  have hD9 := hD.sub (ws' := [(x, .inr (7, [.ref xt, .ref xd, .ref h, .ref xk, .ref xl, .ref xw, .ref xp, .ref xs, .ref xr, .int 0, .int (-1), .int 0, .null])), (h, .inr (2, [.ref a0, .ref a1, .ref a2, .ref a3, .ref a4, .ref a5, .ref a6])), (a0, .inl (cI, 22, .inl (gl [0, 0, 0, 0, 4, 0, 0, 0, 0, 0, 0, 0, (-1), (-1), 0, 0, 0, 0, 0, 4, 0, 16])))]) [0, 1, 2] (by decide) rfl
  exact W.iret (v := (-1)) hx hb hr (fun t ht hW => ⟨⟨(-1), (), rfl, rfl, by rw [ht]; exact hP9, va_K.moved hW.alike hK, hD9⟩, hS.F ht⟩) hS.2.2 dX7_buffer_9

def pfX7_now_r (p1 : Int32) : Int32 := if p1 < 0 then (-1) else (if 12 < p1 then (-1) else ((gl [0, 0, 0, 0, 4, 0, 0, 0, 0, 0, 0, 0, (-1), (-1), 0, 0, 0, 0, 0, 4, 0, 16]) (Int32.toNatClampNeg p1)))
set_option maxHeartbeats 4000000 in
set_option maxRecDepth 100000 in
theorem kkX7_now (l : Launch) (dC : Nat → ClassId) (dI : Nat → Nat → Nat) (cI cB cZ cR : ClassId) (sz : Nat) (x : Nat) (xt : Nat) (xd : Nat) (h : Nat) (xk : Nat) (xl : Nat) (xw : Nat) (xp : Nat) (xs : Nat) (xr : Nat) (a0 : Nat) (a1 : Nat) (a2 : Nat) (a3 : Nat) (a4 : Nat) (a5 : Nat) (a6 : Nat) (p1 : Int32) : Met l yX7_now (.code yX7_now cX7_now 2 (some .int) :: wsL_law) ({ frames := 0, cells := 0, slots := 0, locals := 0 }) (zPc dC dI (zT cI cB cZ cR) [.ref x, .int p1] sz [(x, .inr (7, [.ref xt, .ref xd, .ref h, .ref xk, .ref xl, .ref xw, .ref xp, .ref xs, .ref xr, .int 0, .int (-1), .int 0, .null])), (h, .inr (2, [.ref a0, .ref a1, .ref a2, .ref a3, .ref a4, .ref a5, .ref a6])), (a0, .inl (cI, 22, .inl (gl [0, 0, 0, 0, 4, 0, 0, 0, 0, 0, 0, 0, (-1), (-1), 0, 0, 0, 0, 0, 4, 0, 16])))]) (va_Qi (fun (r : Int32) (_ : Unit) => r = (pfX7_now_r p1)) (fun _ : Unit => zB dC dI (zT cI cB cZ cR) (va_A [(x, .inr (7, [.ref xt, .ref xd, .ref h, .ref xk, .ref xl, .ref xw, .ref xp, .ref xs, .ref xr, .int 0, .int (-1), .int 0, .null])), (h, .inr (2, [.ref a0, .ref a1, .ref a2, .ref a3, .ref a4, .ref a5, .ref a6])), (a0, .inl (cI, 22, .inl (gl [0, 0, 0, 0, 4, 0, 0, 0, 0, 0, 0, 0, (-1), (-1), 0, 0, 0, 0, 0, 4, 0, 16])))] sz) [(x, .inr (7, [.ref xt, .ref xd, .ref h, .ref xk, .ref xl, .ref xw, .ref xp, .ref xs, .ref xr, .int 0, .int (-1), .int 0, .null])), (h, .inr (2, [.ref a0, .ref a1, .ref a2, .ref a3, .ref a4, .ref a5, .ref a6])), (a0, .inl (cI, 22, .inl (gl [0, 0, 0, 0, 4, 0, 0, 0, 0, 0, 0, 0, (-1), (-1), 0, 0, 0, 0, 0, 4, 0, 16])))]) (va_A [(x, .inr (7, [.ref xt, .ref xd, .ref h, .ref xk, .ref xl, .ref xw, .ref xp, .ref xs, .ref xr, .int 0, .int (-1), .int 0, .null])), (h, .inr (2, [.ref a0, .ref a1, .ref a2, .ref a3, .ref a4, .ref a5, .ref a6])), (a0, .inl (cI, 22, .inl (gl [0, 0, 0, 0, 4, 0, 0, 0, 0, 0, 0, 0, (-1), (-1), 0, 0, 0, 0, 0, 4, 0, 16])))] sz)) 0 0 (va_A [(x, .inr (7, [.ref xt, .ref xd, .ref h, .ref xk, .ref xl, .ref xw, .ref xp, .ref xs, .ref xr, .int 0, .int (-1), .int 0, .null])), (h, .inr (2, [.ref a0, .ref a1, .ref a2, .ref a3, .ref a4, .ref a5, .ref a6])), (a0, .inl (cI, 22, .inl (gl [0, 0, 0, 0, 4, 0, 0, 0, 0, 0, 0, 0, (-1), (-1), 0, 0, 0, 0, 0, 4, 0, 16])))] sz) := by
  refine Met.ofW (cc := cX7_now) (maxL := 2) (ret := (some .int)) (by decide) rfl ?_
  intro p e s m args below meth c s₁ B hml hv
  obtain ⟨rfl, hsz, hP, hK, hD0, hN⟩ := hv
  have hx := B.exec
  have hb := B.bytes
  have hr := B.returns
  have hts := atoms_spec (ws := (.code yX7_now cX7_now 2 (some .int) :: wsL_law)) B.pre
  have hown : s.vm.findClass RX7 = some m.cls := findClass_of_methodNamed B.named
  have hlocks := B.notSynchronized
  have hinX7 : ∀ w ∈ u_ws RX7 TX7 13, w ∈ (.code yX7_now cX7_now 2 (some .int) :: wsL_law) := fun w h => List.mem_cons_of_mem _ (inlX7 w h)
  have hinX2 : ∀ w ∈ u_ws RX2 TX2 7, w ∈ (.code yX7_now cX7_now 2 (some .int) :: wsL_law) := fun w h => List.mem_cons_of_mem _ (inlX2 w h)
  have k_0 := hts (.fieldLink RX7 26 "RingMarks" "ring" "LRingMarks$Ring;") (List.mem_cons_of_mem _ wm_23)
  have k_1 := hts (.fieldLink RX7 149 "RingMarks$Ring" "marks" "[I") (List.mem_cons_of_mem _ wm_784)
  subst hsz
  have hD := hD0.self (sz := s.heap.size)
  generalize hAe : va_A [(x, .inr (7, [.ref xt, .ref xd, .ref h, .ref xk, .ref xl, .ref xw, .ref xp, .ref xs, .ref xr, .int 0, .int (-1), .int 0, .null])), (h, .inr (2, [.ref a0, .ref a1, .ref a2, .ref a3, .ref a4, .ref a5, .ref a6])), (a0, .inl (cI, 22, .inl (gl [0, 0, 0, 0, 4, 0, 0, 0, 0, 0, 0, 0, (-1), (-1), 0, 0, 0, 0, 0, 4, 0, 16])))] s.heap.size = A at hD ⊢
  have hA : ∀ q : Nat, s.heap.size ≤ q → A q := fun q h => by rw [← hAe]; exact Or.inr h
  have hP : va_P (dC, dI) vwCl [(x, .inr (7, [.ref xt, .ref xd, .ref h, .ref xk, .ref xl, .ref xw, .ref xp, .ref xs, .ref xr, .int 0, .int (-1), .int 0, .null])), (h, .inr (2, [.ref a0, .ref a1, .ref a2, .ref a3, .ref a4, .ref a5, .ref a6])), (a0, .inl (cI, 22, .inl (gl [0, 0, 0, 0, 4, 0, 0, 0, 0, 0, 0, 0, (-1), (-1), 0, 0, 0, 0, 0, 4, 0, 16])))] s.heap := hP
  have hl := lv_entry ([.ref x, .int p1]) (n := 2) (Nat.le_of_ble_eq_true rfl)
  rw [lg_entry_eq]
  generalize (lg_sl ([.ref x, .int p1]) ++ List.replicate (2 - (lg_sl ([.ref x, .int p1])).length) Slot.unset).toArray = ls at hl ⊢
  have hl : lv_has ls 2 [(0, .ref x), (1, .int p1)] := hl
  obtain ⟨H, hH⟩ : ∃ H, H = s.heap := ⟨_, rfl⟩
  rw [← hH] at hP ⊢
  have hS : va_S A s.heap H [] := by rw [hH]; exact va_S.rf
  refine lv_iload_n hx hb dX7_now_0 rfl (lv_at hl 1 rfl) ?_
  refine lv_if_lt (tgt := 22) hx hb dX7_now_1 (by decide) (fun c_1 => ?_) (fun c_1 => ?_)
  · refine lv_iconst (v := (-1)) hx hb dX7_now_22 (by decide) ?_
    have e_0 : (pfX7_now_r p1) = (-1) := by rw [pfX7_now_r, if_pos c_1]
    have hP9 := hP.sub (ws' := [(x, .inr (7, [.ref xt, .ref xd, .ref h, .ref xk, .ref xl, .ref xw, .ref xp, .ref xs, .ref xr, .int 0, .int (-1), .int 0, .null])), (h, .inr (2, [.ref a0, .ref a1, .ref a2, .ref a3, .ref a4, .ref a5, .ref a6])), (a0, .inl (cI, 22, .inl (gl [0, 0, 0, 0, 4, 0, 0, 0, 0, 0, 0, 0, (-1), (-1), 0, 0, 0, 0, 0, 4, 0, 16])))]) [0, 1, 2] rfl
    have hD9 := hD.sub (ws' := [(x, .inr (7, [.ref xt, .ref xd, .ref h, .ref xk, .ref xl, .ref xw, .ref xp, .ref xs, .ref xr, .int 0, .int (-1), .int 0, .null])), (h, .inr (2, [.ref a0, .ref a1, .ref a2, .ref a3, .ref a4, .ref a5, .ref a6])), (a0, .inl (cI, 22, .inl (gl [0, 0, 0, 0, 4, 0, 0, 0, 0, 0, 0, 0, (-1), (-1), 0, 0, 0, 0, 0, 4, 0, 16])))]) [0, 1, 2] (by decide) rfl
    exact W.iret (v := (-1)) hx hb hr (fun t ht hW => ⟨⟨(-1), (), rfl, e_0.symm, by rw [ht]; exact hP9, va_K.moved hW.alike hK, hD9⟩, hS.F ht⟩) hS.2.2 dX7_now_23
  · refine lv_iload_n hx hb dX7_now_4 rfl (lv_at hl 1 rfl) ?_
    refine lv_bipush (v := 12) hx hb dX7_now_5 (by decide) ?_
    refine lv_icmp_gt (tgt := 22) hx hb dX7_now_7 (by decide) (fun c_2 => ?_) (fun c_2 => ?_)
    · refine lv_iconst (v := (-1)) hx hb dX7_now_22 (by decide) ?_
      have e_0 : (pfX7_now_r p1) = (-1) := by rw [pfX7_now_r, if_neg c_1, if_pos c_2]
      have hP9 := hP.sub (ws' := [(x, .inr (7, [.ref xt, .ref xd, .ref h, .ref xk, .ref xl, .ref xw, .ref xp, .ref xs, .ref xr, .int 0, .int (-1), .int 0, .null])), (h, .inr (2, [.ref a0, .ref a1, .ref a2, .ref a3, .ref a4, .ref a5, .ref a6])), (a0, .inl (cI, 22, .inl (gl [0, 0, 0, 0, 4, 0, 0, 0, 0, 0, 0, 0, (-1), (-1), 0, 0, 0, 0, 0, 4, 0, 16])))]) [0, 1, 2] rfl
      have hD9 := hD.sub (ws' := [(x, .inr (7, [.ref xt, .ref xd, .ref h, .ref xk, .ref xl, .ref xw, .ref xp, .ref xs, .ref xr, .int 0, .int (-1), .int 0, .null])), (h, .inr (2, [.ref a0, .ref a1, .ref a2, .ref a3, .ref a4, .ref a5, .ref a6])), (a0, .inl (cI, 22, .inl (gl [0, 0, 0, 0, 4, 0, 0, 0, 0, 0, 0, 0, (-1), (-1), 0, 0, 0, 0, 0, 4, 0, 16])))]) [0, 1, 2] (by decide) rfl
      exact W.iret (v := (-1)) hx hb hr (fun t ht hW => ⟨⟨(-1), (), rfl, e_0.symm, by rw [ht]; exact hP9, va_K.moved hW.alike hK, hD9⟩, hS.F ht⟩) hS.2.2 dX7_now_23
    · refine lv_aload_n hx hb dX7_now_10 rfl (lv_at hl 0 rfl) ?_
      refine va_get (D := (dC, dI)) (ci := 7) (v := .ref h) (C := RX7) (T := TX7) (N := 13) hx hb hts hinX7 hown hK hP 0 rfl rfl 2 (by decide) k_0 (fun _ h9 => h9) rfl dX7_now_11 ?_
      refine va_get (D := (dC, dI)) (ci := 2) (v := .ref a0) (C := RX2) (T := TX2) (N := 7) hx hb hts hinX2 hown hK hP 1 rfl rfl 0 (by decide) k_1 (fun _ h9 => h9) rfl dX7_now_14 ?_
      refine lv_iload_n hx hb dX7_now_17 rfl (lv_at hl 1 rfl) ?_
      refine za_iald (v := ((gl [0, 0, 0, 0, 4, 0, 0, 0, 0, 0, 0, 0, (-1), (-1), 0, 0, 0, 0, 0, 4, 0, 16]) (Int32.toNatClampNeg p1))) hx hb hK hP 2 0 rfl rfl (zinT c_1 c_2 (by decide)) rfl dX7_now_18 ?_
      refine lv_goto (tgt := 23) hx hb dX7_now_19 (by decide) ?_
      have e_0 : (pfX7_now_r p1) = ((gl [0, 0, 0, 0, 4, 0, 0, 0, 0, 0, 0, 0, (-1), (-1), 0, 0, 0, 0, 0, 4, 0, 16]) (Int32.toNatClampNeg p1)) := by rw [pfX7_now_r, if_neg c_1, if_neg c_2]
      have hP9 := hP.sub (ws' := [(x, .inr (7, [.ref xt, .ref xd, .ref h, .ref xk, .ref xl, .ref xw, .ref xp, .ref xs, .ref xr, .int 0, .int (-1), .int 0, .null])), (h, .inr (2, [.ref a0, .ref a1, .ref a2, .ref a3, .ref a4, .ref a5, .ref a6])), (a0, .inl (cI, 22, .inl (gl [0, 0, 0, 0, 4, 0, 0, 0, 0, 0, 0, 0, (-1), (-1), 0, 0, 0, 0, 0, 4, 0, 16])))]) [0, 1, 2] rfl
      have hD9 := hD.sub (ws' := [(x, .inr (7, [.ref xt, .ref xd, .ref h, .ref xk, .ref xl, .ref xw, .ref xp, .ref xs, .ref xr, .int 0, .int (-1), .int 0, .null])), (h, .inr (2, [.ref a0, .ref a1, .ref a2, .ref a3, .ref a4, .ref a5, .ref a6])), (a0, .inl (cI, 22, .inl (gl [0, 0, 0, 0, 4, 0, 0, 0, 0, 0, 0, 0, (-1), (-1), 0, 0, 0, 0, 0, 4, 0, 16])))]) [0, 1, 2] (by decide) rfl
      exact W.iret (v := ((gl [0, 0, 0, 0, 4, 0, 0, 0, 0, 0, 0, 0, (-1), (-1), 0, 0, 0, 0, 0, 4, 0, 16]) (Int32.toNatClampNeg p1))) hx hb hr (fun t ht hW => ⟨⟨((gl [0, 0, 0, 0, 4, 0, 0, 0, 0, 0, 0, 0, (-1), (-1), 0, 0, 0, 0, 0, 4, 0, 16]) (Int32.toNatClampNeg p1)), (), rfl, e_0.symm, by rw [ht]; exact hP9, va_K.moved hW.alike hK, hD9⟩, hS.F ht⟩) hS.2.2 dX7_now_23

set_option maxHeartbeats 4000000 in
set_option maxRecDepth 100000 in
theorem kkX6_act_0 (l : Launch) (dC : Nat → ClassId) (dI : Nat → Nat → Nat) (cI cB cZ cR : ClassId) (sz : Nat) (xl : Nat) (xla : Nat) (p1 : Int32) : Met l yX6_act (.code yX6_act cX6_act 2 (some .int) :: wsL_law) ({ frames := 0, cells := 0, slots := 0, locals := 0 }) (zPc dC dI (zT cI cB cZ cR) [.ref xl, .int p1] sz [(xl, .inr (6, [.ref xla, .int 0, .int 0, .int 0, .int 0, .int 0, .int 0, .int (-1), .int (-1), .int 0, .int 0]))]) (va_Qi (fun (r : Int32) (_ : Unit) => r = (-1)) (fun _ : Unit => zB dC dI (zT cI cB cZ cR) (va_A [(xl, .inr (6, [.ref xla, .int 0, .int 0, .int 0, .int 0, .int 0, .int 0, .int (-1), .int (-1), .int 0, .int 0]))] sz) [(xl, .inr (6, [.ref xla, .int 0, .int 0, .int 0, .int 0, .int 0, .int 0, .int (-1), .int (-1), .int 0, .int 0]))]) (va_A [(xl, .inr (6, [.ref xla, .int 0, .int 0, .int 0, .int 0, .int 0, .int 0, .int (-1), .int (-1), .int 0, .int 0]))] sz)) 0 0 (va_A [(xl, .inr (6, [.ref xla, .int 0, .int 0, .int 0, .int 0, .int 0, .int 0, .int (-1), .int (-1), .int 0, .int 0]))] sz) := by
  refine Met.ofW (cc := cX6_act) (maxL := 2) (ret := (some .int)) (by decide) rfl ?_
  intro p e s m args below meth c s₁ B hml hv
  obtain ⟨rfl, hsz, hP, hK, hD0, hN⟩ := hv
  have hx := B.exec
  have hb := B.bytes
  have hr := B.returns
  have hts := atoms_spec (ws := (.code yX6_act cX6_act 2 (some .int) :: wsL_law)) B.pre
  have hown : s.vm.findClass RX6 = some m.cls := findClass_of_methodNamed B.named
  have hlocks := B.notSynchronized
  have hinX6 : ∀ w ∈ u_ws RX6 TX6 11, w ∈ (.code yX6_act cX6_act 2 (some .int) :: wsL_law) := fun w h => List.mem_cons_of_mem _ (inlX6 w h)
  have k_0 := hts (.fieldLink RX6 15 "RingMarks$Walk" "actCount" "I") (List.mem_cons_of_mem _ wm_92)
  subst hsz
  have hD := hD0.self (sz := s.heap.size)
  generalize hAe : va_A [(xl, .inr (6, [.ref xla, .int 0, .int 0, .int 0, .int 0, .int 0, .int 0, .int (-1), .int (-1), .int 0, .int 0]))] s.heap.size = A at hD ⊢
  have hA : ∀ q : Nat, s.heap.size ≤ q → A q := fun q h => by rw [← hAe]; exact Or.inr h
  have hP : va_P (dC, dI) vwCl [(xl, .inr (6, [.ref xla, .int 0, .int 0, .int 0, .int 0, .int 0, .int 0, .int (-1), .int (-1), .int 0, .int 0]))] s.heap := hP
  have hl := lv_entry ([.ref xl, .int p1]) (n := 2) (Nat.le_of_ble_eq_true rfl)
  rw [lg_entry_eq]
  generalize (lg_sl ([.ref xl, .int p1]) ++ List.replicate (2 - (lg_sl ([.ref xl, .int p1])).length) Slot.unset).toArray = ls at hl ⊢
  have hl : lv_has ls 2 [(0, .ref xl), (1, .int p1)] := hl
  obtain ⟨H, hH⟩ : ∃ H, H = s.heap := ⟨_, rfl⟩
  rw [← hH] at hP ⊢
  have hS : va_S A s.heap H [] := by rw [hH]; exact va_S.rf
  refine lv_iload_n hx hb dX6_act_0 rfl (lv_at hl 1 rfl) ?_
  refine lv_if_lt (tgt := 30) hx hb dX6_act_1 (by decide) (fun c_1 => ?_) (fun c_1 => ?_)
  · refine lv_iconst (v := (-1)) hx hb dX6_act_30 (by decide) ?_
    have hP9 := hP.sub (ws' := [(xl, .inr (6, [.ref xla, .int 0, .int 0, .int 0, .int 0, .int 0, .int 0, .int (-1), .int (-1), .int 0, .int 0]))]) [0] rfl
    have hD9 := hD.sub (ws' := [(xl, .inr (6, [.ref xla, .int 0, .int 0, .int 0, .int 0, .int 0, .int 0, .int (-1), .int (-1), .int 0, .int 0]))]) [0] (by decide) rfl
    exact W.iret (v := (-1)) hx hb hr (fun t ht hW => ⟨⟨(-1), (), rfl, rfl, by rw [ht]; exact hP9, va_K.moved hW.alike hK, hD9⟩, hS.F ht⟩) hS.2.2 dX6_act_31
  · refine lv_iload_n hx hb dX6_act_4 rfl (lv_at hl 1 rfl) ?_
    refine lv_aload_n hx hb dX6_act_5 rfl (lv_at hl 0 rfl) ?_
    refine va_get (D := (dC, dI)) (ci := 6) (v := .int 0) (C := RX6) (T := TX6) (N := 11) hx hb hts hinX6 hown hK hP 0 rfl rfl 1 (by decide) k_0 (fun _ h9 => h9) rfl dX6_act_6 ?_
    refine lv_icmp_ge (tgt := 30) hx hb dX6_act_9 (by decide) (fun _ => ?_) (fun c => absurd (znl c_1) c)
    refine lv_iconst (v := (-1)) hx hb dX6_act_30 (by decide) ?_
    have hP9 := hP.sub (ws' := [(xl, .inr (6, [.ref xla, .int 0, .int 0, .int 0, .int 0, .int 0, .int 0, .int (-1), .int (-1), .int 0, .int 0]))]) [0] rfl
    have hD9 := hD.sub (ws' := [(xl, .inr (6, [.ref xla, .int 0, .int 0, .int 0, .int 0, .int 0, .int 0, .int (-1), .int (-1), .int 0, .int 0]))]) [0] (by decide) rfl
    exact W.iret (v := (-1)) hx hb hr (fun t ht hW => ⟨⟨(-1), (), rfl, rfl, by rw [ht]; exact hP9, va_K.moved hW.alike hK, hD9⟩, hS.F ht⟩) hS.2.2 dX6_act_31

set_option maxHeartbeats 4000000 in
set_option maxRecDepth 100000 in
theorem kkX7_walked (l : Launch) (dC : Nat → ClassId) (dI : Nat → Nat → Nat) (cI cB cZ cR : ClassId) (sz : Nat) (x : Nat) (xt : Nat) (xd : Nat) (h : Nat) (xk : Nat) (xl : Nat) (xw : Nat) (xp : Nat) (xs : Nat) (xr : Nat) (xla : Nat) (p1 : Int32) : Met l yX7_walked (.code yX7_walked cX7_walked 2 (some .int) :: wsL_law) ({ frames := 1, cells := 0, slots := 0, locals := 21 }) (zPc dC dI (zT cI cB cZ cR) [.ref x, .int p1] sz [(x, .inr (7, [.ref xt, .ref xd, .ref h, .ref xk, .ref xl, .ref xw, .ref xp, .ref xs, .ref xr, .int 0, .int (-1), .int 0, .null])), (xl, .inr (6, [.ref xla, .int 0, .int 0, .int 0, .int 0, .int 0, .int 0, .int (-1), .int (-1), .int 0, .int 0]))]) (va_Qi (fun (r : Int32) (_ : Unit) => r = (-1)) (fun _ : Unit => zB dC dI (zT cI cB cZ cR) (va_A [(x, .inr (7, [.ref xt, .ref xd, .ref h, .ref xk, .ref xl, .ref xw, .ref xp, .ref xs, .ref xr, .int 0, .int (-1), .int 0, .null])), (xl, .inr (6, [.ref xla, .int 0, .int 0, .int 0, .int 0, .int 0, .int 0, .int (-1), .int (-1), .int 0, .int 0]))] sz) [(x, .inr (7, [.ref xt, .ref xd, .ref h, .ref xk, .ref xl, .ref xw, .ref xp, .ref xs, .ref xr, .int 0, .int (-1), .int 0, .null])), (xl, .inr (6, [.ref xla, .int 0, .int 0, .int 0, .int 0, .int 0, .int 0, .int (-1), .int (-1), .int 0, .int 0]))]) (va_A [(x, .inr (7, [.ref xt, .ref xd, .ref h, .ref xk, .ref xl, .ref xw, .ref xp, .ref xs, .ref xr, .int 0, .int (-1), .int 0, .null])), (xl, .inr (6, [.ref xla, .int 0, .int 0, .int 0, .int 0, .int 0, .int 0, .int (-1), .int (-1), .int 0, .int 0]))] sz)) 0 0 (va_A [(x, .inr (7, [.ref xt, .ref xd, .ref h, .ref xk, .ref xl, .ref xw, .ref xp, .ref xs, .ref xr, .int 0, .int (-1), .int 0, .null])), (xl, .inr (6, [.ref xla, .int 0, .int 0, .int 0, .int 0, .int 0, .int 0, .int (-1), .int (-1), .int 0, .int 0]))] sz) := by
  refine Met.ofW (cc := cX7_walked) (maxL := 2) (ret := (some .int)) (by decide) rfl ?_
  intro p e s m args below meth c s₁ B hml hv
  obtain ⟨rfl, hsz, hP, hK, hD0, hN⟩ := hv
  have hx := B.exec
  have hb := B.bytes
  have hr := B.returns
  have hts := atoms_spec (ws := (.code yX7_walked cX7_walked 2 (some .int) :: wsL_law)) B.pre
  have hown : s.vm.findClass RX7 = some m.cls := findClass_of_methodNamed B.named
  have hlocks := B.notSynchronized
  have hinX7 : ∀ w ∈ u_ws RX7 TX7 13, w ∈ (.code yX7_walked cX7_walked 2 (some .int) :: wsL_law) := fun w h => List.mem_cons_of_mem _ (inlX7 w h)
  have k_0 := hts (.fieldLink RX7 37 "RingMarks" "latestWalk" "LRingMarks$Walk;") (List.mem_cons_of_mem _ wm_28)
  subst hsz
  have hD := hD0.self (sz := s.heap.size)
  generalize hAe : va_A [(x, .inr (7, [.ref xt, .ref xd, .ref h, .ref xk, .ref xl, .ref xw, .ref xp, .ref xs, .ref xr, .int 0, .int (-1), .int 0, .null])), (xl, .inr (6, [.ref xla, .int 0, .int 0, .int 0, .int 0, .int 0, .int 0, .int (-1), .int (-1), .int 0, .int 0]))] s.heap.size = A at hD ⊢
  have hA : ∀ q : Nat, s.heap.size ≤ q → A q := fun q h => by rw [← hAe]; exact Or.inr h
  have hP : va_P (dC, dI) vwCl [(x, .inr (7, [.ref xt, .ref xd, .ref h, .ref xk, .ref xl, .ref xw, .ref xp, .ref xs, .ref xr, .int 0, .int (-1), .int 0, .null])), (xl, .inr (6, [.ref xla, .int 0, .int 0, .int 0, .int 0, .int 0, .int 0, .int (-1), .int (-1), .int 0, .int 0]))] s.heap := hP
  have hl := lv_entry ([.ref x, .int p1]) (n := 2) (Nat.le_of_ble_eq_true rfl)
  rw [lg_entry_eq]
  generalize (lg_sl ([.ref x, .int p1]) ++ List.replicate (2 - (lg_sl ([.ref x, .int p1])).length) Slot.unset).toArray = ls at hl ⊢
  have hl : lv_has ls 2 [(0, .ref x), (1, .int p1)] := hl
  obtain ⟨H, hH⟩ : ∃ H, H = s.heap := ⟨_, rfl⟩
  rw [← hH] at hP ⊢
  have hS : va_S A s.heap H [] := by rw [hH]; exact va_S.rf
  refine lv_aload_n hx hb dX7_walked_0 rfl (lv_at hl 0 rfl) ?_
  refine va_get (D := (dC, dI)) (ci := 7) (v := .ref xl) (C := RX7) (T := TX7) (N := 13) hx hb hts hinX7 hown hK hP 0 rfl rfl 4 (by decide) k_0 (fun _ h9 => h9) rfl dX7_walked_1 ?_
  refine lv_iload_n hx hb dX7_walked_4 rfl (lv_at hl 1 rfl) ?_
  refine zcVi (As := [.int p1]) (rest := []) (wr := [(x, .inr (7, [.ref xt, .ref xd, .ref h, .ref xk, .ref xl, .ref xw, .ref xp, .ref xs, .ref xr, .int 0, .int (-1), .int 0, .null]))]) ⟨hx, hb, hml, hown, hts⟩ (kkX6_act_0 l dC dI cI cB cZ cR H.size xl xla p1 ) (cwV 1 hts (zgV wm_797 wm_798 wm_799 wm_27 wm_800) rfl rfl rfl (by decide +kernel) ⟨Nat.le_of_ble_eq_true rfl, Nat.le_of_ble_eq_true rfl⟩) hN hK hP hD hS hA [1] [0] rfl rfl ⟨rfl, rfl⟩ (by decide) (ci := 6) rfl rfl rfl rfl hl.1 rfl (Nat.le_of_ble_eq_true rfl) dX7_walked_5 ⟨Nat.le_of_ble_eq_true rfl, Nat.le_of_ble_eq_true rfl⟩ (fun r u hu H locs hP hD hS => ?_)
  have hu : r = (-1) := hu
  subst hu
  have hP : va_P (dC, dI) vwCl [(x, .inr (7, [.ref xt, .ref xd, .ref h, .ref xk, .ref xl, .ref xw, .ref xp, .ref xs, .ref xr, .int 0, .int (-1), .int 0, .null])), (xl, .inr (6, [.ref xla, .int 0, .int 0, .int 0, .int 0, .int 0, .int 0, .int (-1), .int (-1), .int 0, .int 0]))] H := hP
  have hD : va_D A [(x, .inr (7, [.ref xt, .ref xd, .ref h, .ref xk, .ref xl, .ref xw, .ref xp, .ref xs, .ref xr, .int 0, .int (-1), .int 0, .null])), (xl, .inr (6, [.ref xla, .int 0, .int 0, .int 0, .int 0, .int 0, .int 0, .int (-1), .int (-1), .int 0, .int 0]))] := hD
  have hP9 := hP.sub (ws' := [(x, .inr (7, [.ref xt, .ref xd, .ref h, .ref xk, .ref xl, .ref xw, .ref xp, .ref xs, .ref xr, .int 0, .int (-1), .int 0, .null])), (xl, .inr (6, [.ref xla, .int 0, .int 0, .int 0, .int 0, .int 0, .int 0, .int (-1), .int (-1), .int 0, .int 0]))]) [0, 1] rfl
  have hD9 := hD.sub (ws' := [(x, .inr (7, [.ref xt, .ref xd, .ref h, .ref xk, .ref xl, .ref xw, .ref xp, .ref xs, .ref xr, .int 0, .int (-1), .int 0, .null])), (xl, .inr (6, [.ref xla, .int 0, .int 0, .int 0, .int 0, .int 0, .int 0, .int (-1), .int (-1), .int 0, .int 0]))]) [0, 1] (by decide) rfl
  exact W.iret (v := (-1)) hx hb hr (fun t ht hW => ⟨⟨(-1), (), rfl, rfl, by rw [ht]; exact hP9, va_K.moved hW.alike hK, hD9⟩, hS.F ht⟩) hS.2.2 dX7_walked_8

def pfX7_due_r (p1 : Int32) (p2 : Int32) (p3 : Int32) : Int32 := if p1 < 0 then (-1) else (if 16 ≤ p1 then (-1) else (if p2 < 0 then (-1) else (if 16 ≤ p2 then (-1) else (if p3 < 0 then (-1) else (if 16 ≤ p3 then (-1) else (if (pfX2_isPassed_r p1 p2 p3) = 0 then 0 else 1))))))
set_option maxHeartbeats 4000000 in
set_option maxRecDepth 100000 in
theorem kkX7_due (l : Launch) (dC : Nat → ClassId) (dI : Nat → Nat → Nat) (cI cB cZ cR : ClassId) (sz : Nat) (x : Nat) (xt : Nat) (xd : Nat) (h : Nat) (xk : Nat) (xl : Nat) (xw : Nat) (xp : Nat) (xs : Nat) (xr : Nat) (a0 : Nat) (a1 : Nat) (a2 : Nat) (a3 : Nat) (a4 : Nat) (a5 : Nat) (a6 : Nat) (p1 : Int32) (p2 : Int32) (p3 : Int32) : Met l yX7_due (.code yX7_due cX7_due 6 (some .int) :: wsL_law) ({ frames := 1, cells := 0, slots := 0, locals := 23 }) (zPc dC dI (zT cI cB cZ cR) [.ref x, .int p1, .int p2, .int p3] sz [(x, .inr (7, [.ref xt, .ref xd, .ref h, .ref xk, .ref xl, .ref xw, .ref xp, .ref xs, .ref xr, .int 0, .int (-1), .int 0, .null])), (h, .inr (2, [.ref a0, .ref a1, .ref a2, .ref a3, .ref a4, .ref a5, .ref a6])), (a0, .inl (cI, 22, .inl (gl [0, 0, 0, 0, 4, 0, 0, 0, 0, 0, 0, 0, (-1), (-1), 0, 0, 0, 0, 0, 4, 0, 16])))]) (va_Qi (fun (r : Int32) (_ : Unit) => r = (pfX7_due_r p1 p2 p3)) (fun _ : Unit => zB dC dI (zT cI cB cZ cR) (va_A [(x, .inr (7, [.ref xt, .ref xd, .ref h, .ref xk, .ref xl, .ref xw, .ref xp, .ref xs, .ref xr, .int 0, .int (-1), .int 0, .null])), (h, .inr (2, [.ref a0, .ref a1, .ref a2, .ref a3, .ref a4, .ref a5, .ref a6])), (a0, .inl (cI, 22, .inl (gl [0, 0, 0, 0, 4, 0, 0, 0, 0, 0, 0, 0, (-1), (-1), 0, 0, 0, 0, 0, 4, 0, 16])))] sz) [(x, .inr (7, [.ref xt, .ref xd, .ref h, .ref xk, .ref xl, .ref xw, .ref xp, .ref xs, .ref xr, .int 0, .int (-1), .int 0, .null])), (h, .inr (2, [.ref a0, .ref a1, .ref a2, .ref a3, .ref a4, .ref a5, .ref a6])), (a0, .inl (cI, 22, .inl (gl [0, 0, 0, 0, 4, 0, 0, 0, 0, 0, 0, 0, (-1), (-1), 0, 0, 0, 0, 0, 4, 0, 16])))]) (va_A [(x, .inr (7, [.ref xt, .ref xd, .ref h, .ref xk, .ref xl, .ref xw, .ref xp, .ref xs, .ref xr, .int 0, .int (-1), .int 0, .null])), (h, .inr (2, [.ref a0, .ref a1, .ref a2, .ref a3, .ref a4, .ref a5, .ref a6])), (a0, .inl (cI, 22, .inl (gl [0, 0, 0, 0, 4, 0, 0, 0, 0, 0, 0, 0, (-1), (-1), 0, 0, 0, 0, 0, 4, 0, 16])))] sz)) 0 0 (va_A [(x, .inr (7, [.ref xt, .ref xd, .ref h, .ref xk, .ref xl, .ref xw, .ref xp, .ref xs, .ref xr, .int 0, .int (-1), .int 0, .null])), (h, .inr (2, [.ref a0, .ref a1, .ref a2, .ref a3, .ref a4, .ref a5, .ref a6])), (a0, .inl (cI, 22, .inl (gl [0, 0, 0, 0, 4, 0, 0, 0, 0, 0, 0, 0, (-1), (-1), 0, 0, 0, 0, 0, 4, 0, 16])))] sz) := by
  refine Met.ofW (cc := cX7_due) (maxL := 6) (ret := (some .int)) (by decide) rfl ?_
  intro p e s m args below meth c s₁ B hml hv
  obtain ⟨rfl, hsz, hP, hK, hD0, hN⟩ := hv
  have hx := B.exec
  have hb := B.bytes
  have hr := B.returns
  have hts := atoms_spec (ws := (.code yX7_due cX7_due 6 (some .int) :: wsL_law)) B.pre
  have hown : s.vm.findClass RX7 = some m.cls := findClass_of_methodNamed B.named
  have hlocks := B.notSynchronized
  have hinX7 : ∀ w ∈ u_ws RX7 TX7 13, w ∈ (.code yX7_due cX7_due 6 (some .int) :: wsL_law) := fun w h => List.mem_cons_of_mem _ (inlX7 w h)
  have k_0 := hts (.fieldLink RX7 26 "RingMarks" "ring" "LRingMarks$Ring;") (List.mem_cons_of_mem _ wm_23)
  subst hsz
  have hD := hD0.self (sz := s.heap.size)
  generalize hAe : va_A [(x, .inr (7, [.ref xt, .ref xd, .ref h, .ref xk, .ref xl, .ref xw, .ref xp, .ref xs, .ref xr, .int 0, .int (-1), .int 0, .null])), (h, .inr (2, [.ref a0, .ref a1, .ref a2, .ref a3, .ref a4, .ref a5, .ref a6])), (a0, .inl (cI, 22, .inl (gl [0, 0, 0, 0, 4, 0, 0, 0, 0, 0, 0, 0, (-1), (-1), 0, 0, 0, 0, 0, 4, 0, 16])))] s.heap.size = A at hD ⊢
  have hA : ∀ q : Nat, s.heap.size ≤ q → A q := fun q h => by rw [← hAe]; exact Or.inr h
  have hP : va_P (dC, dI) vwCl [(x, .inr (7, [.ref xt, .ref xd, .ref h, .ref xk, .ref xl, .ref xw, .ref xp, .ref xs, .ref xr, .int 0, .int (-1), .int 0, .null])), (h, .inr (2, [.ref a0, .ref a1, .ref a2, .ref a3, .ref a4, .ref a5, .ref a6])), (a0, .inl (cI, 22, .inl (gl [0, 0, 0, 0, 4, 0, 0, 0, 0, 0, 0, 0, (-1), (-1), 0, 0, 0, 0, 0, 4, 0, 16])))] s.heap := hP
  have hl := lv_entry ([.ref x, .int p1, .int p2, .int p3]) (n := 6) (Nat.le_of_ble_eq_true rfl)
  rw [lg_entry_eq]
  generalize (lg_sl ([.ref x, .int p1, .int p2, .int p3]) ++ List.replicate (6 - (lg_sl ([.ref x, .int p1, .int p2, .int p3])).length) Slot.unset).toArray = ls at hl ⊢
  have hl : lv_has ls 6 [(0, .ref x), (1, .int p1), (2, .int p2), (3, .int p3)] := hl
  obtain ⟨H, hH⟩ : ∃ H, H = s.heap := ⟨_, rfl⟩
  rw [← hH] at hP ⊢
  have hS : va_S A s.heap H [] := by rw [hH]; exact va_S.rf
  refine lv_aload_n hx hb dX7_due_0 rfl (lv_at hl 0 rfl) ?_
  refine va_get (D := (dC, dI)) (ci := 7) (v := .ref h) (C := RX7) (T := TX7) (N := 13) hx hb hts hinX7 hown hK hP 0 rfl rfl 2 (by decide) k_0 (fun _ h9 => h9) rfl dX7_due_1 ?_
  refine zcVi (As := []) (rest := []) (wr := [(x, .inr (7, [.ref xt, .ref xd, .ref h, .ref xk, .ref xl, .ref xw, .ref xp, .ref xs, .ref xr, .int 0, .int (-1), .int 0, .null]))]) ⟨hx, hb, hml, hown, hts⟩ (kkX2_wrapsAt l dC dI cI cB cZ cR H.size h a0 a1 a2 a3 a4 a5 a6 0 0 0 0 4 0 0 0 0 0 0 0 (-1) (-1) 0 0 0 0 ) (cwV 0 hts (zgV wm_821 wm_653 wm_654 wm_22 wm_655) rfl rfl rfl (by decide +kernel) ⟨Nat.le_of_ble_eq_true rfl, Nat.le_of_ble_eq_true rfl⟩) hN hK hP hD hS hA [1, 2] [0] rfl rfl ⟨rfl, rfl⟩ (by decide) (ci := 2) rfl rfl rfl rfl hl.1 rfl (Nat.le_of_ble_eq_true rfl) dX7_due_4 ⟨Nat.le_of_ble_eq_true rfl, Nat.le_of_ble_eq_true rfl⟩ (fun r u hu H locs hP hD hS => ?_)
  have hu : r = 16 := hu
  subst hu
  have hP : va_P (dC, dI) vwCl [(x, .inr (7, [.ref xt, .ref xd, .ref h, .ref xk, .ref xl, .ref xw, .ref xp, .ref xs, .ref xr, .int 0, .int (-1), .int 0, .null])), (h, .inr (2, [.ref a0, .ref a1, .ref a2, .ref a3, .ref a4, .ref a5, .ref a6])), (a0, .inl (cI, 22, .inl (gl [0, 0, 0, 0, 4, 0, 0, 0, 0, 0, 0, 0, (-1), (-1), 0, 0, 0, 0, 0, 4, 0, 16])))] H := hP
  have hD : va_D A [(x, .inr (7, [.ref xt, .ref xd, .ref h, .ref xk, .ref xl, .ref xw, .ref xp, .ref xs, .ref xr, .int 0, .int (-1), .int 0, .null])), (h, .inr (2, [.ref a0, .ref a1, .ref a2, .ref a3, .ref a4, .ref a5, .ref a6])), (a0, .inl (cI, 22, .inl (gl [0, 0, 0, 0, 4, 0, 0, 0, 0, 0, 0, 0, (-1), (-1), 0, 0, 0, 0, 0, 4, 0, 16])))] := hD
  refine lv_istore (lv' := [(4, .int 16), (0, .ref x), (1, .int p1), (2, .int p2), (3, .int p3)]) hx hb dX7_due_7 hl (by decide) rfl (fun ls hl => ?_)
  refine lv_iload_n hx hb dX7_due_9 rfl (lv_at hl 2 rfl) ?_
  refine lv_if_lt (tgt := 43) hx hb dX7_due_10 (by decide) (fun c_1 => ?_) (fun c_1 => ?_)
  · refine lv_iconst (v := 0) hx hb dX7_due_43 (by decide) ?_
    refine lv_istore (lv' := [(5, .int 0), (4, .int 16), (0, .ref x), (1, .int p1), (2, .int p2), (3, .int p3)]) hx hb dX7_due_44 hl (by decide) rfl (fun ls hl => ?_)
    refine lv_iload hx hb dX7_due_46 (lv_at hl 0 rfl) ?_
    refine lv_if_ne (tgt := 53) hx hb dX7_due_48 (by decide) (fun c => absurd (by decide) c) (fun _ => ?_)
    refine lv_iconst (v := (-1)) hx hb dX7_due_51 (by decide) ?_
    have e_0 : (pfX7_due_r p1 p2 p3) = (-1) := by rw [pfX7_due_r, if_pos c_1]
    have hP9 := hP.sub (ws' := [(x, .inr (7, [.ref xt, .ref xd, .ref h, .ref xk, .ref xl, .ref xw, .ref xp, .ref xs, .ref xr, .int 0, .int (-1), .int 0, .null])), (h, .inr (2, [.ref a0, .ref a1, .ref a2, .ref a3, .ref a4, .ref a5, .ref a6])), (a0, .inl (cI, 22, .inl (gl [0, 0, 0, 0, 4, 0, 0, 0, 0, 0, 0, 0, (-1), (-1), 0, 0, 0, 0, 0, 4, 0, 16])))]) [0, 1, 2] rfl
    have hD9 := hD.sub (ws' := [(x, .inr (7, [.ref xt, .ref xd, .ref h, .ref xk, .ref xl, .ref xw, .ref xp, .ref xs, .ref xr, .int 0, .int (-1), .int 0, .null])), (h, .inr (2, [.ref a0, .ref a1, .ref a2, .ref a3, .ref a4, .ref a5, .ref a6])), (a0, .inl (cI, 22, .inl (gl [0, 0, 0, 0, 4, 0, 0, 0, 0, 0, 0, 0, (-1), (-1), 0, 0, 0, 0, 0, 4, 0, 16])))]) [0, 1, 2] (by decide) rfl
    exact W.iret (v := (-1)) hx hb hr (fun t ht hW => ⟨⟨(-1), (), rfl, e_0.symm, by rw [ht]; exact hP9, va_K.moved hW.alike hK, hD9⟩, hS.F ht⟩) hS.2.2 dX7_due_52
  · refine lv_iload_n hx hb dX7_due_13 rfl (lv_at hl 2 rfl) ?_
    refine lv_iload hx hb dX7_due_14 (lv_at hl 0 rfl) ?_
    refine lv_icmp_ge (tgt := 43) hx hb dX7_due_16 (by decide) (fun c_2 => ?_) (fun c_2 => ?_)
    · refine lv_iconst (v := 0) hx hb dX7_due_43 (by decide) ?_
      refine lv_istore (lv' := [(5, .int 0), (4, .int 16), (0, .ref x), (1, .int p1), (2, .int p2), (3, .int p3)]) hx hb dX7_due_44 hl (by decide) rfl (fun ls hl => ?_)
      refine lv_iload hx hb dX7_due_46 (lv_at hl 0 rfl) ?_
      refine lv_if_ne (tgt := 53) hx hb dX7_due_48 (by decide) (fun c => absurd (by decide) c) (fun _ => ?_)
      refine lv_iconst (v := (-1)) hx hb dX7_due_51 (by decide) ?_
      have e_0 : (pfX7_due_r p1 p2 p3) = (-1) := by rw [pfX7_due_r, if_neg c_1, if_pos c_2]
      have hP9 := hP.sub (ws' := [(x, .inr (7, [.ref xt, .ref xd, .ref h, .ref xk, .ref xl, .ref xw, .ref xp, .ref xs, .ref xr, .int 0, .int (-1), .int 0, .null])), (h, .inr (2, [.ref a0, .ref a1, .ref a2, .ref a3, .ref a4, .ref a5, .ref a6])), (a0, .inl (cI, 22, .inl (gl [0, 0, 0, 0, 4, 0, 0, 0, 0, 0, 0, 0, (-1), (-1), 0, 0, 0, 0, 0, 4, 0, 16])))]) [0, 1, 2] rfl
      have hD9 := hD.sub (ws' := [(x, .inr (7, [.ref xt, .ref xd, .ref h, .ref xk, .ref xl, .ref xw, .ref xp, .ref xs, .ref xr, .int 0, .int (-1), .int 0, .null])), (h, .inr (2, [.ref a0, .ref a1, .ref a2, .ref a3, .ref a4, .ref a5, .ref a6])), (a0, .inl (cI, 22, .inl (gl [0, 0, 0, 0, 4, 0, 0, 0, 0, 0, 0, 0, (-1), (-1), 0, 0, 0, 0, 0, 4, 0, 16])))]) [0, 1, 2] (by decide) rfl
      exact W.iret (v := (-1)) hx hb hr (fun t ht hW => ⟨⟨(-1), (), rfl, e_0.symm, by rw [ht]; exact hP9, va_K.moved hW.alike hK, hD9⟩, hS.F ht⟩) hS.2.2 dX7_due_52
    · refine lv_iload_n hx hb dX7_due_19 rfl (lv_at hl 3 rfl) ?_
      refine lv_if_lt (tgt := 43) hx hb dX7_due_20 (by decide) (fun c_3 => ?_) (fun c_3 => ?_)
      · refine lv_iconst (v := 0) hx hb dX7_due_43 (by decide) ?_
        refine lv_istore (lv' := [(5, .int 0), (4, .int 16), (0, .ref x), (1, .int p1), (2, .int p2), (3, .int p3)]) hx hb dX7_due_44 hl (by decide) rfl (fun ls hl => ?_)
        refine lv_iload hx hb dX7_due_46 (lv_at hl 0 rfl) ?_
        refine lv_if_ne (tgt := 53) hx hb dX7_due_48 (by decide) (fun c => absurd (by decide) c) (fun _ => ?_)
        refine lv_iconst (v := (-1)) hx hb dX7_due_51 (by decide) ?_
        have e_0 : (pfX7_due_r p1 p2 p3) = (-1) := by rw [pfX7_due_r, if_neg c_1, if_neg c_2, if_pos c_3]
        have hP9 := hP.sub (ws' := [(x, .inr (7, [.ref xt, .ref xd, .ref h, .ref xk, .ref xl, .ref xw, .ref xp, .ref xs, .ref xr, .int 0, .int (-1), .int 0, .null])), (h, .inr (2, [.ref a0, .ref a1, .ref a2, .ref a3, .ref a4, .ref a5, .ref a6])), (a0, .inl (cI, 22, .inl (gl [0, 0, 0, 0, 4, 0, 0, 0, 0, 0, 0, 0, (-1), (-1), 0, 0, 0, 0, 0, 4, 0, 16])))]) [0, 1, 2] rfl
        have hD9 := hD.sub (ws' := [(x, .inr (7, [.ref xt, .ref xd, .ref h, .ref xk, .ref xl, .ref xw, .ref xp, .ref xs, .ref xr, .int 0, .int (-1), .int 0, .null])), (h, .inr (2, [.ref a0, .ref a1, .ref a2, .ref a3, .ref a4, .ref a5, .ref a6])), (a0, .inl (cI, 22, .inl (gl [0, 0, 0, 0, 4, 0, 0, 0, 0, 0, 0, 0, (-1), (-1), 0, 0, 0, 0, 0, 4, 0, 16])))]) [0, 1, 2] (by decide) rfl
        exact W.iret (v := (-1)) hx hb hr (fun t ht hW => ⟨⟨(-1), (), rfl, e_0.symm, by rw [ht]; exact hP9, va_K.moved hW.alike hK, hD9⟩, hS.F ht⟩) hS.2.2 dX7_due_52
      · refine lv_iload_n hx hb dX7_due_23 rfl (lv_at hl 3 rfl) ?_
        refine lv_iload hx hb dX7_due_24 (lv_at hl 0 rfl) ?_
        refine lv_icmp_ge (tgt := 43) hx hb dX7_due_26 (by decide) (fun c_4 => ?_) (fun c_4 => ?_)
        · refine lv_iconst (v := 0) hx hb dX7_due_43 (by decide) ?_
          refine lv_istore (lv' := [(5, .int 0), (4, .int 16), (0, .ref x), (1, .int p1), (2, .int p2), (3, .int p3)]) hx hb dX7_due_44 hl (by decide) rfl (fun ls hl => ?_)
          refine lv_iload hx hb dX7_due_46 (lv_at hl 0 rfl) ?_
          refine lv_if_ne (tgt := 53) hx hb dX7_due_48 (by decide) (fun c => absurd (by decide) c) (fun _ => ?_)
          refine lv_iconst (v := (-1)) hx hb dX7_due_51 (by decide) ?_
          have e_0 : (pfX7_due_r p1 p2 p3) = (-1) := by rw [pfX7_due_r, if_neg c_1, if_neg c_2, if_neg c_3, if_pos c_4]
          have hP9 := hP.sub (ws' := [(x, .inr (7, [.ref xt, .ref xd, .ref h, .ref xk, .ref xl, .ref xw, .ref xp, .ref xs, .ref xr, .int 0, .int (-1), .int 0, .null])), (h, .inr (2, [.ref a0, .ref a1, .ref a2, .ref a3, .ref a4, .ref a5, .ref a6])), (a0, .inl (cI, 22, .inl (gl [0, 0, 0, 0, 4, 0, 0, 0, 0, 0, 0, 0, (-1), (-1), 0, 0, 0, 0, 0, 4, 0, 16])))]) [0, 1, 2] rfl
          have hD9 := hD.sub (ws' := [(x, .inr (7, [.ref xt, .ref xd, .ref h, .ref xk, .ref xl, .ref xw, .ref xp, .ref xs, .ref xr, .int 0, .int (-1), .int 0, .null])), (h, .inr (2, [.ref a0, .ref a1, .ref a2, .ref a3, .ref a4, .ref a5, .ref a6])), (a0, .inl (cI, 22, .inl (gl [0, 0, 0, 0, 4, 0, 0, 0, 0, 0, 0, 0, (-1), (-1), 0, 0, 0, 0, 0, 4, 0, 16])))]) [0, 1, 2] (by decide) rfl
          exact W.iret (v := (-1)) hx hb hr (fun t ht hW => ⟨⟨(-1), (), rfl, e_0.symm, by rw [ht]; exact hP9, va_K.moved hW.alike hK, hD9⟩, hS.F ht⟩) hS.2.2 dX7_due_52
        · refine lv_iload_n hx hb dX7_due_29 rfl (lv_at hl 4 rfl) ?_
          refine lv_if_lt (tgt := 43) hx hb dX7_due_30 (by decide) (fun c_5 => ?_) (fun c_5 => ?_)
          · refine lv_iconst (v := 0) hx hb dX7_due_43 (by decide) ?_
            refine lv_istore (lv' := [(5, .int 0), (4, .int 16), (0, .ref x), (1, .int p1), (2, .int p2), (3, .int p3)]) hx hb dX7_due_44 hl (by decide) rfl (fun ls hl => ?_)
            refine lv_iload hx hb dX7_due_46 (lv_at hl 0 rfl) ?_
            refine lv_if_ne (tgt := 53) hx hb dX7_due_48 (by decide) (fun c => absurd (by decide) c) (fun _ => ?_)
            refine lv_iconst (v := (-1)) hx hb dX7_due_51 (by decide) ?_
            have e_0 : (pfX7_due_r p1 p2 p3) = (-1) := by rw [pfX7_due_r, if_neg c_1, if_neg c_2, if_neg c_3, if_neg c_4, if_pos c_5]
            have hP9 := hP.sub (ws' := [(x, .inr (7, [.ref xt, .ref xd, .ref h, .ref xk, .ref xl, .ref xw, .ref xp, .ref xs, .ref xr, .int 0, .int (-1), .int 0, .null])), (h, .inr (2, [.ref a0, .ref a1, .ref a2, .ref a3, .ref a4, .ref a5, .ref a6])), (a0, .inl (cI, 22, .inl (gl [0, 0, 0, 0, 4, 0, 0, 0, 0, 0, 0, 0, (-1), (-1), 0, 0, 0, 0, 0, 4, 0, 16])))]) [0, 1, 2] rfl
            have hD9 := hD.sub (ws' := [(x, .inr (7, [.ref xt, .ref xd, .ref h, .ref xk, .ref xl, .ref xw, .ref xp, .ref xs, .ref xr, .int 0, .int (-1), .int 0, .null])), (h, .inr (2, [.ref a0, .ref a1, .ref a2, .ref a3, .ref a4, .ref a5, .ref a6])), (a0, .inl (cI, 22, .inl (gl [0, 0, 0, 0, 4, 0, 0, 0, 0, 0, 0, 0, (-1), (-1), 0, 0, 0, 0, 0, 4, 0, 16])))]) [0, 1, 2] (by decide) rfl
            exact W.iret (v := (-1)) hx hb hr (fun t ht hW => ⟨⟨(-1), (), rfl, e_0.symm, by rw [ht]; exact hP9, va_K.moved hW.alike hK, hD9⟩, hS.F ht⟩) hS.2.2 dX7_due_52
          · refine lv_iload_n hx hb dX7_due_33 rfl (lv_at hl 4 rfl) ?_
            refine lv_iload hx hb dX7_due_34 (lv_at hl 0 rfl) ?_
            refine lv_icmp_ge (tgt := 43) hx hb dX7_due_36 (by decide) (fun c_6 => ?_) (fun c_6 => ?_)
            · refine lv_iconst (v := 0) hx hb dX7_due_43 (by decide) ?_
              refine lv_istore (lv' := [(5, .int 0), (4, .int 16), (0, .ref x), (1, .int p1), (2, .int p2), (3, .int p3)]) hx hb dX7_due_44 hl (by decide) rfl (fun ls hl => ?_)
              refine lv_iload hx hb dX7_due_46 (lv_at hl 0 rfl) ?_
              refine lv_if_ne (tgt := 53) hx hb dX7_due_48 (by decide) (fun c => absurd (by decide) c) (fun _ => ?_)
              refine lv_iconst (v := (-1)) hx hb dX7_due_51 (by decide) ?_
              have e_0 : (pfX7_due_r p1 p2 p3) = (-1) := by rw [pfX7_due_r, if_neg c_1, if_neg c_2, if_neg c_3, if_neg c_4, if_neg c_5, if_pos c_6]
              have hP9 := hP.sub (ws' := [(x, .inr (7, [.ref xt, .ref xd, .ref h, .ref xk, .ref xl, .ref xw, .ref xp, .ref xs, .ref xr, .int 0, .int (-1), .int 0, .null])), (h, .inr (2, [.ref a0, .ref a1, .ref a2, .ref a3, .ref a4, .ref a5, .ref a6])), (a0, .inl (cI, 22, .inl (gl [0, 0, 0, 0, 4, 0, 0, 0, 0, 0, 0, 0, (-1), (-1), 0, 0, 0, 0, 0, 4, 0, 16])))]) [0, 1, 2] rfl
              have hD9 := hD.sub (ws' := [(x, .inr (7, [.ref xt, .ref xd, .ref h, .ref xk, .ref xl, .ref xw, .ref xp, .ref xs, .ref xr, .int 0, .int (-1), .int 0, .null])), (h, .inr (2, [.ref a0, .ref a1, .ref a2, .ref a3, .ref a4, .ref a5, .ref a6])), (a0, .inl (cI, 22, .inl (gl [0, 0, 0, 0, 4, 0, 0, 0, 0, 0, 0, 0, (-1), (-1), 0, 0, 0, 0, 0, 4, 0, 16])))]) [0, 1, 2] (by decide) rfl
              exact W.iret (v := (-1)) hx hb hr (fun t ht hW => ⟨⟨(-1), (), rfl, e_0.symm, by rw [ht]; exact hP9, va_K.moved hW.alike hK, hD9⟩, hS.F ht⟩) hS.2.2 dX7_due_52
            · refine lv_iconst (v := 1) hx hb dX7_due_39 (by decide) ?_
              refine lv_goto (tgt := 44) hx hb dX7_due_40 (by decide) ?_
              refine lv_istore (lv' := [(5, .int 1), (4, .int 16), (0, .ref x), (1, .int p1), (2, .int p2), (3, .int p3)]) hx hb dX7_due_44 hl (by decide) rfl (fun ls hl => ?_)
              refine lv_iload hx hb dX7_due_46 (lv_at hl 0 rfl) ?_
              refine lv_if_ne (tgt := 53) hx hb dX7_due_48 (by decide) (fun _ => ?_) (fun c => absurd c (by decide))
              refine lv_iload_n hx hb dX7_due_53 rfl (lv_at hl 3 rfl) ?_
              refine lv_iload_n hx hb dX7_due_54 rfl (lv_at hl 4 rfl) ?_
              refine lv_iload_n hx hb dX7_due_55 rfl (lv_at hl 5 rfl) ?_
              refine lv_iload hx hb dX7_due_56 (lv_at hl 1 rfl) ?_
              refine zcSi (As := [.int p1, .int p2, .int p3, .int 16]) (rest := []) (wr := [(x, .inr (7, [.ref xt, .ref xd, .ref h, .ref xk, .ref xl, .ref xw, .ref xp, .ref xs, .ref xr, .int 0, .int (-1), .int 0, .null])), (h, .inr (2, [.ref a0, .ref a1, .ref a2, .ref a3, .ref a4, .ref a5, .ref a6])), (a0, .inl (cI, 22, .inl (gl [0, 0, 0, 0, 4, 0, 0, 0, 0, 0, 0, 0, (-1), (-1), 0, 0, 0, 0, 0, 4, 0, 16])))]) ⟨hx, hb, hml, hown, hts⟩ (kkX2_isPassed l dC dI cI cB cZ cR H.size p1 p2 p3 ) (va_cwS 4 hts (zgS wm_822 wm_657 wm_22 wm_658) rfl rfl rfl (by decide +kernel) ⟨Nat.le_of_ble_eq_true rfl, Nat.le_of_ble_eq_true rfl⟩) hN hK hP hD hS hA [] [0, 1, 2] rfl rfl ⟨rfl, rfl⟩ (by decide) rfl hl.1 rfl (Nat.le_of_ble_eq_true rfl) dX7_due_58 ⟨Nat.le_of_ble_eq_true rfl, Nat.le_of_ble_eq_true rfl⟩ (fun r u hu H locs hP hD hS => ?_)
              have hu : r = (pfX2_isPassed_r p1 p2 p3) := hu
              subst hu
              have hP : va_P (dC, dI) vwCl [(x, .inr (7, [.ref xt, .ref xd, .ref h, .ref xk, .ref xl, .ref xw, .ref xp, .ref xs, .ref xr, .int 0, .int (-1), .int 0, .null])), (h, .inr (2, [.ref a0, .ref a1, .ref a2, .ref a3, .ref a4, .ref a5, .ref a6])), (a0, .inl (cI, 22, .inl (gl [0, 0, 0, 0, 4, 0, 0, 0, 0, 0, 0, 0, (-1), (-1), 0, 0, 0, 0, 0, 4, 0, 16])))] H := hP
              have hD : va_D A [(x, .inr (7, [.ref xt, .ref xd, .ref h, .ref xk, .ref xl, .ref xw, .ref xp, .ref xs, .ref xr, .int 0, .int (-1), .int 0, .null])), (h, .inr (2, [.ref a0, .ref a1, .ref a2, .ref a3, .ref a4, .ref a5, .ref a6])), (a0, .inl (cI, 22, .inl (gl [0, 0, 0, 0, 4, 0, 0, 0, 0, 0, 0, 0, (-1), (-1), 0, 0, 0, 0, 0, 4, 0, 16])))] := hD
              refine lv_if_eq (tgt := 68) hx hb dX7_due_61 (by decide) (fun c_7 => ?_) (fun c_7 => ?_)
              · refine lv_iconst (v := 0) hx hb dX7_due_68 (by decide) ?_
                have e_0 : (pfX7_due_r p1 p2 p3) = 0 := by rw [pfX7_due_r, if_neg c_1, if_neg c_2, if_neg c_3, if_neg c_4, if_neg c_5, if_neg c_6, if_pos c_7]
                have hP9 := hP.sub (ws' := [(x, .inr (7, [.ref xt, .ref xd, .ref h, .ref xk, .ref xl, .ref xw, .ref xp, .ref xs, .ref xr, .int 0, .int (-1), .int 0, .null])), (h, .inr (2, [.ref a0, .ref a1, .ref a2, .ref a3, .ref a4, .ref a5, .ref a6])), (a0, .inl (cI, 22, .inl (gl [0, 0, 0, 0, 4, 0, 0, 0, 0, 0, 0, 0, (-1), (-1), 0, 0, 0, 0, 0, 4, 0, 16])))]) [0, 1, 2] rfl
                have hD9 := hD.sub (ws' := [(x, .inr (7, [.ref xt, .ref xd, .ref h, .ref xk, .ref xl, .ref xw, .ref xp, .ref xs, .ref xr, .int 0, .int (-1), .int 0, .null])), (h, .inr (2, [.ref a0, .ref a1, .ref a2, .ref a3, .ref a4, .ref a5, .ref a6])), (a0, .inl (cI, 22, .inl (gl [0, 0, 0, 0, 4, 0, 0, 0, 0, 0, 0, 0, (-1), (-1), 0, 0, 0, 0, 0, 4, 0, 16])))]) [0, 1, 2] (by decide) rfl
                exact W.iret (v := 0) hx hb hr (fun t ht hW => ⟨⟨0, (), rfl, e_0.symm, by rw [ht]; exact hP9, va_K.moved hW.alike hK, hD9⟩, hS.F ht⟩) hS.2.2 dX7_due_69
              · refine lv_iconst (v := 1) hx hb dX7_due_64 (by decide) ?_
                refine lv_goto (tgt := 69) hx hb dX7_due_65 (by decide) ?_
                have e_0 : (pfX7_due_r p1 p2 p3) = 1 := by rw [pfX7_due_r, if_neg c_1, if_neg c_2, if_neg c_3, if_neg c_4, if_neg c_5, if_neg c_6, if_neg c_7]
                have hP9 := hP.sub (ws' := [(x, .inr (7, [.ref xt, .ref xd, .ref h, .ref xk, .ref xl, .ref xw, .ref xp, .ref xs, .ref xr, .int 0, .int (-1), .int 0, .null])), (h, .inr (2, [.ref a0, .ref a1, .ref a2, .ref a3, .ref a4, .ref a5, .ref a6])), (a0, .inl (cI, 22, .inl (gl [0, 0, 0, 0, 4, 0, 0, 0, 0, 0, 0, 0, (-1), (-1), 0, 0, 0, 0, 0, 4, 0, 16])))]) [0, 1, 2] rfl
                have hD9 := hD.sub (ws' := [(x, .inr (7, [.ref xt, .ref xd, .ref h, .ref xk, .ref xl, .ref xw, .ref xp, .ref xs, .ref xr, .int 0, .int (-1), .int 0, .null])), (h, .inr (2, [.ref a0, .ref a1, .ref a2, .ref a3, .ref a4, .ref a5, .ref a6])), (a0, .inl (cI, 22, .inl (gl [0, 0, 0, 0, 4, 0, 0, 0, 0, 0, 0, 0, (-1), (-1), 0, 0, 0, 0, 0, 4, 0, 16])))]) [0, 1, 2] (by decide) rfl
                exact W.iret (v := 1) hx hb hr (fun t ht hW => ⟨⟨1, (), rfl, e_0.symm, by rw [ht]; exact hP9, va_K.moved hW.alike hK, hD9⟩, hS.F ht⟩) hS.2.2 dX7_due_69

set_option maxHeartbeats 4000000 in
set_option maxRecDepth 100000 in
theorem kkX4_unpack_0 (l : Launch) (dC : Nat → ClassId) (dI : Nat → Nat → Nat) (cI cB cZ cR : ClassId) (sz : Nat) (xs : Nat) : Met l yX4_unpack (.code yX4_unpack cX4_unpack 2 none :: wsL_law) ({ frames := 0, cells := 0, slots := 0, locals := 0 }) (zPc dC dI (zT cI cB cZ cR) [.ref xs, .int 0] sz [(xs, .inr (4, [.int 0, .int 0, .int 0, .int 0, .int 0, .int 0, .int 0, .int 0, .int 0]))]) (va_Qv (fun _ : Unit => True) (fun _ : Unit => zB dC dI (zT cI cB cZ cR) (va_A [(xs, .inr (4, [.int 0, .int 0, .int 0, .int 0, .int 0, .int 0, .int 0, .int 0, .int 0]))] sz) [(xs, .inr (4, [.int 0, .int 0, .int 0, .int 0, .int 0, .int 0, .int 0, .int 0, .int 0]))]) (va_A [(xs, .inr (4, [.int 0, .int 0, .int 0, .int 0, .int 0, .int 0, .int 0, .int 0, .int 0]))] sz)) 0 0 (va_A [(xs, .inr (4, [.int 0, .int 0, .int 0, .int 0, .int 0, .int 0, .int 0, .int 0, .int 0]))] sz) := by
  refine Met.ofW (cc := cX4_unpack) (maxL := 2) (ret := none) (by decide) rfl ?_
  intro p e s m args below meth c s₁ B hml hv
  obtain ⟨rfl, hsz, hP, hK, hD0, hN⟩ := hv
  have hx := B.exec
  have hb := B.bytes
  have hr := B.returns
  have hts := atoms_spec (ws := (.code yX4_unpack cX4_unpack 2 none :: wsL_law)) B.pre
  have hown : s.vm.findClass RX4 = some m.cls := findClass_of_methodNamed B.named
  have hlocks := B.notSynchronized
  have hinX4 : ∀ w ∈ u_ws RX4 TX4 9, w ∈ (.code yX4_unpack cX4_unpack 2 none :: wsL_law) := fun w h => List.mem_cons_of_mem _ (inlX4 w h)
  have k_0 := hts (.fieldLink RX4 9 "RingMarks$State" "driverAt" "I") (List.mem_cons_of_mem _ wm_113)
  have k_1 := hts (.fieldLink RX4 18 "RingMarks$State" "there" "I") (List.mem_cons_of_mem _ wm_115)
  have k_2 := hts (.fieldLink RX4 21 "RingMarks$State" "seen" "I") (List.mem_cons_of_mem _ wm_116)
  have k_3 := hts (.fieldLink RX4 24 "RingMarks$State" "event" "I") (List.mem_cons_of_mem _ wm_117)
  have k_4 := hts (.fieldLink RX4 27 "RingMarks$State" "looked" "I") (List.mem_cons_of_mem _ wm_118)
  have k_5 := hts (.fieldLink RX4 30 "RingMarks$State" "told" "I") (List.mem_cons_of_mem _ wm_119)
  have k_6 := hts (.fieldLink RX4 36 "RingMarks$State" "sent" "I") (List.mem_cons_of_mem _ wm_121)
  have k_7 := hts (.fieldLink RX4 15 "RingMarks$State" "deviceAt" "I") (List.mem_cons_of_mem _ wm_114)
  have k_8 := hts (.fieldLink RX4 33 "RingMarks$State" "waits" "I") (List.mem_cons_of_mem _ wm_120)
  subst hsz
  have hD := hD0.self (sz := s.heap.size)
  generalize hAe : va_A [(xs, .inr (4, [.int 0, .int 0, .int 0, .int 0, .int 0, .int 0, .int 0, .int 0, .int 0]))] s.heap.size = A at hD ⊢
  have hA : ∀ q : Nat, s.heap.size ≤ q → A q := fun q h => by rw [← hAe]; exact Or.inr h
  have hP : va_P (dC, dI) vwCl [(xs, .inr (4, [.int 0, .int 0, .int 0, .int 0, .int 0, .int 0, .int 0, .int 0, .int 0]))] s.heap := hP
  have hl := lv_entry ([.ref xs, .int 0]) (n := 2) (Nat.le_of_ble_eq_true rfl)
  rw [lg_entry_eq]
  generalize (lg_sl ([.ref xs, .int 0]) ++ List.replicate (2 - (lg_sl ([.ref xs, .int 0])).length) Slot.unset).toArray = ls at hl ⊢
  have hl : lv_has ls 2 [(0, .ref xs), (1, .int 0)] := hl
  obtain ⟨H, hH⟩ : ∃ H, H = s.heap := ⟨_, rfl⟩
  rw [← hH] at hP ⊢
  have hS : va_S A s.heap H [] := by rw [hH]; exact va_S.rf
  refine lv_aload_n hx hb dX4_unpack_0 rfl (lv_at hl 0 rfl) ?_
  refine lv_iload_n hx hb dX4_unpack_1 rfl (lv_at hl 1 rfl) ?_
  refine lv_bipush (v := 15) hx hb dX4_unpack_2 (by decide) ?_
  refine lv_iand hx hb dX4_unpack_4 ?_
  refine tp (y := 0) (by decide) ?_
  refine va_put (D := (dC, dI)) (ci := 4) (v := .int 0) (ty := tyX4 0) (C := RX4) (T := TX4) (N := 9) hx hb hts hinX4 tyX4 tyX4_ok nmX4 hown hK hP hD hS 0 rfl rfl 0 (by decide) k_0 (fun _ h9 => h9) rfl (by decide +kernel) rfl rfl (Nat.le_of_ble_eq_true rfl) dX4_unpack_5 (fun H locs hP hD hS => ?_)
  have hP : va_P (dC, dI) vwCl [(xs, .inr (4, [.int 0, .int 0, .int 0, .int 0, .int 0, .int 0, .int 0, .int 0, .int 0]))] H := hP
  have hD : va_D A [(xs, .inr (4, [.int 0, .int 0, .int 0, .int 0, .int 0, .int 0, .int 0, .int 0, .int 0]))] := hD
  refine lv_aload_n hx hb dX4_unpack_8 rfl (lv_at hl 0 rfl) ?_
  refine lv_iload_n hx hb dX4_unpack_9 rfl (lv_at hl 1 rfl) ?_
  refine lv_iconst (v := 4) hx hb dX4_unpack_10 (by decide) ?_
  refine lv_iushr (v := 0) hx hb dX4_unpack_11 (by decide) ?_
  refine lv_bipush (v := 15) hx hb dX4_unpack_12 (by decide) ?_
  refine lv_iand hx hb dX4_unpack_14 ?_
  refine tp (y := 0) (by decide) ?_
  refine va_put (D := (dC, dI)) (ci := 4) (v := .int 0) (ty := tyX4 2) (C := RX4) (T := TX4) (N := 9) hx hb hts hinX4 tyX4 tyX4_ok nmX4 hown hK hP hD hS 0 rfl rfl 2 (by decide) k_1 (fun _ h9 => h9) rfl (by decide +kernel) rfl rfl (Nat.le_of_ble_eq_true rfl) dX4_unpack_15 (fun H locs hP hD hS => ?_)
  have hP : va_P (dC, dI) vwCl [(xs, .inr (4, [.int 0, .int 0, .int 0, .int 0, .int 0, .int 0, .int 0, .int 0, .int 0]))] H := hP
  have hD : va_D A [(xs, .inr (4, [.int 0, .int 0, .int 0, .int 0, .int 0, .int 0, .int 0, .int 0, .int 0]))] := hD
  refine lv_aload_n hx hb dX4_unpack_18 rfl (lv_at hl 0 rfl) ?_
  refine lv_iload_n hx hb dX4_unpack_19 rfl (lv_at hl 1 rfl) ?_
  refine lv_bipush (v := 8) hx hb dX4_unpack_20 (by decide) ?_
  refine lv_iushr (v := 0) hx hb dX4_unpack_22 (by decide) ?_
  refine lv_bipush (v := 15) hx hb dX4_unpack_23 (by decide) ?_
  refine lv_iand hx hb dX4_unpack_25 ?_
  refine tp (y := 0) (by decide) ?_
  refine va_put (D := (dC, dI)) (ci := 4) (v := .int 0) (ty := tyX4 3) (C := RX4) (T := TX4) (N := 9) hx hb hts hinX4 tyX4 tyX4_ok nmX4 hown hK hP hD hS 0 rfl rfl 3 (by decide) k_2 (fun _ h9 => h9) rfl (by decide +kernel) rfl rfl (Nat.le_of_ble_eq_true rfl) dX4_unpack_26 (fun H locs hP hD hS => ?_)
  have hP : va_P (dC, dI) vwCl [(xs, .inr (4, [.int 0, .int 0, .int 0, .int 0, .int 0, .int 0, .int 0, .int 0, .int 0]))] H := hP
  have hD : va_D A [(xs, .inr (4, [.int 0, .int 0, .int 0, .int 0, .int 0, .int 0, .int 0, .int 0, .int 0]))] := hD
  refine lv_aload_n hx hb dX4_unpack_29 rfl (lv_at hl 0 rfl) ?_
  refine lv_iload_n hx hb dX4_unpack_30 rfl (lv_at hl 1 rfl) ?_
  refine lv_bipush (v := 12) hx hb dX4_unpack_31 (by decide) ?_
  refine lv_iushr (v := 0) hx hb dX4_unpack_33 (by decide) ?_
  refine lv_bipush (v := 15) hx hb dX4_unpack_34 (by decide) ?_
  refine lv_iand hx hb dX4_unpack_36 ?_
  refine tp (y := 0) (by decide) ?_
  refine va_put (D := (dC, dI)) (ci := 4) (v := .int 0) (ty := tyX4 4) (C := RX4) (T := TX4) (N := 9) hx hb hts hinX4 tyX4 tyX4_ok nmX4 hown hK hP hD hS 0 rfl rfl 4 (by decide) k_3 (fun _ h9 => h9) rfl (by decide +kernel) rfl rfl (Nat.le_of_ble_eq_true rfl) dX4_unpack_37 (fun H locs hP hD hS => ?_)
  have hP : va_P (dC, dI) vwCl [(xs, .inr (4, [.int 0, .int 0, .int 0, .int 0, .int 0, .int 0, .int 0, .int 0, .int 0]))] H := hP
  have hD : va_D A [(xs, .inr (4, [.int 0, .int 0, .int 0, .int 0, .int 0, .int 0, .int 0, .int 0, .int 0]))] := hD
  refine lv_aload_n hx hb dX4_unpack_40 rfl (lv_at hl 0 rfl) ?_
  refine lv_iload_n hx hb dX4_unpack_41 rfl (lv_at hl 1 rfl) ?_
  refine lv_bipush (v := 16) hx hb dX4_unpack_42 (by decide) ?_
  refine lv_iushr (v := 0) hx hb dX4_unpack_44 (by decide) ?_
  refine lv_bipush (v := 15) hx hb dX4_unpack_45 (by decide) ?_
  refine lv_iand hx hb dX4_unpack_47 ?_
  refine tp (y := 0) (by decide) ?_
  refine va_put (D := (dC, dI)) (ci := 4) (v := .int 0) (ty := tyX4 5) (C := RX4) (T := TX4) (N := 9) hx hb hts hinX4 tyX4 tyX4_ok nmX4 hown hK hP hD hS 0 rfl rfl 5 (by decide) k_4 (fun _ h9 => h9) rfl (by decide +kernel) rfl rfl (Nat.le_of_ble_eq_true rfl) dX4_unpack_48 (fun H locs hP hD hS => ?_)
  have hP : va_P (dC, dI) vwCl [(xs, .inr (4, [.int 0, .int 0, .int 0, .int 0, .int 0, .int 0, .int 0, .int 0, .int 0]))] H := hP
  have hD : va_D A [(xs, .inr (4, [.int 0, .int 0, .int 0, .int 0, .int 0, .int 0, .int 0, .int 0, .int 0]))] := hD
  refine lv_aload_n hx hb dX4_unpack_51 rfl (lv_at hl 0 rfl) ?_
  refine lv_iload_n hx hb dX4_unpack_52 rfl (lv_at hl 1 rfl) ?_
  refine lv_bipush (v := 20) hx hb dX4_unpack_53 (by decide) ?_
  refine lv_iushr (v := 0) hx hb dX4_unpack_55 (by decide) ?_
  refine lv_bipush (v := 15) hx hb dX4_unpack_56 (by decide) ?_
  refine lv_iand hx hb dX4_unpack_58 ?_
  refine tp (y := 0) (by decide) ?_
  refine va_put (D := (dC, dI)) (ci := 4) (v := .int 0) (ty := tyX4 6) (C := RX4) (T := TX4) (N := 9) hx hb hts hinX4 tyX4 tyX4_ok nmX4 hown hK hP hD hS 0 rfl rfl 6 (by decide) k_5 (fun _ h9 => h9) rfl (by decide +kernel) rfl rfl (Nat.le_of_ble_eq_true rfl) dX4_unpack_59 (fun H locs hP hD hS => ?_)
  have hP : va_P (dC, dI) vwCl [(xs, .inr (4, [.int 0, .int 0, .int 0, .int 0, .int 0, .int 0, .int 0, .int 0, .int 0]))] H := hP
  have hD : va_D A [(xs, .inr (4, [.int 0, .int 0, .int 0, .int 0, .int 0, .int 0, .int 0, .int 0, .int 0]))] := hD
  refine lv_aload_n hx hb dX4_unpack_62 rfl (lv_at hl 0 rfl) ?_
  refine lv_iload_n hx hb dX4_unpack_63 rfl (lv_at hl 1 rfl) ?_
  refine lv_bipush (v := 24) hx hb dX4_unpack_64 (by decide) ?_
  refine lv_iushr (v := 0) hx hb dX4_unpack_66 (by decide) ?_
  refine lv_bipush (v := 15) hx hb dX4_unpack_67 (by decide) ?_
  refine lv_iand hx hb dX4_unpack_69 ?_
  refine tp (y := 0) (by decide) ?_
  refine va_put (D := (dC, dI)) (ci := 4) (v := .int 0) (ty := tyX4 8) (C := RX4) (T := TX4) (N := 9) hx hb hts hinX4 tyX4 tyX4_ok nmX4 hown hK hP hD hS 0 rfl rfl 8 (by decide) k_6 (fun _ h9 => h9) rfl (by decide +kernel) rfl rfl (Nat.le_of_ble_eq_true rfl) dX4_unpack_70 (fun H locs hP hD hS => ?_)
  have hP : va_P (dC, dI) vwCl [(xs, .inr (4, [.int 0, .int 0, .int 0, .int 0, .int 0, .int 0, .int 0, .int 0, .int 0]))] H := hP
  have hD : va_D A [(xs, .inr (4, [.int 0, .int 0, .int 0, .int 0, .int 0, .int 0, .int 0, .int 0, .int 0]))] := hD
  refine lv_aload_n hx hb dX4_unpack_73 rfl (lv_at hl 0 rfl) ?_
  refine lv_iload_n hx hb dX4_unpack_74 rfl (lv_at hl 1 rfl) ?_
  refine lv_bipush (v := 28) hx hb dX4_unpack_75 (by decide) ?_
  refine lv_iushr (v := 0) hx hb dX4_unpack_77 (by decide) ?_
  refine lv_bipush (v := 7) hx hb dX4_unpack_78 (by decide) ?_
  refine lv_iand hx hb dX4_unpack_80 ?_
  refine tp (y := 0) (by decide) ?_
  refine va_put (D := (dC, dI)) (ci := 4) (v := .int 0) (ty := tyX4 1) (C := RX4) (T := TX4) (N := 9) hx hb hts hinX4 tyX4 tyX4_ok nmX4 hown hK hP hD hS 0 rfl rfl 1 (by decide) k_7 (fun _ h9 => h9) rfl (by decide +kernel) rfl rfl (Nat.le_of_ble_eq_true rfl) dX4_unpack_81 (fun H locs hP hD hS => ?_)
  have hP : va_P (dC, dI) vwCl [(xs, .inr (4, [.int 0, .int 0, .int 0, .int 0, .int 0, .int 0, .int 0, .int 0, .int 0]))] H := hP
  have hD : va_D A [(xs, .inr (4, [.int 0, .int 0, .int 0, .int 0, .int 0, .int 0, .int 0, .int 0, .int 0]))] := hD
  refine lv_aload_n hx hb dX4_unpack_84 rfl (lv_at hl 0 rfl) ?_
  refine lv_iload_n hx hb dX4_unpack_85 rfl (lv_at hl 1 rfl) ?_
  refine lv_bipush (v := 31) hx hb dX4_unpack_86 (by decide) ?_
  refine lv_iushr (v := 0) hx hb dX4_unpack_88 (by decide) ?_
  refine va_put (D := (dC, dI)) (ci := 4) (v := .int 0) (ty := tyX4 7) (C := RX4) (T := TX4) (N := 9) hx hb hts hinX4 tyX4 tyX4_ok nmX4 hown hK hP hD hS 0 rfl rfl 7 (by decide) k_8 (fun _ h9 => h9) rfl (by decide +kernel) rfl rfl (Nat.le_of_ble_eq_true rfl) dX4_unpack_89 (fun H locs hP hD hS => ?_)
  have hP : va_P (dC, dI) vwCl [(xs, .inr (4, [.int 0, .int 0, .int 0, .int 0, .int 0, .int 0, .int 0, .int 0, .int 0]))] H := hP
  have hD : va_D A [(xs, .inr (4, [.int 0, .int 0, .int 0, .int 0, .int 0, .int 0, .int 0, .int 0, .int 0]))] := hD
  have hP9 := hP.sub (ws' := [(xs, .inr (4, [.int 0, .int 0, .int 0, .int 0, .int 0, .int 0, .int 0, .int 0, .int 0]))]) [0] rfl
  have hD9 := hD.sub (ws' := [(xs, .inr (4, [.int 0, .int 0, .int 0, .int 0, .int 0, .int 0, .int 0, .int 0, .int 0]))]) [0] (by decide) rfl
  exact W.vret hx hb hr (fun t ht hW => ⟨⟨(), rfl, trivial, by rw [ht]; exact hP9, va_K.moved hW.alike hK, hD9⟩, hS.F ht⟩) hS.2.2 dX4_unpack_92

set_option maxHeartbeats 4000000 in
set_option maxRecDepth 100000 in
theorem kkX4_clear_0 (l : Launch) (dC : Nat → ClassId) (dI : Nat → Nat → Nat) (cI cB cZ cR : ClassId) (sz : Nat) (xs : Nat) : Met l yX4_clear (.code yX4_clear cX4_clear 1 none :: wsL_law) ({ frames := 1, cells := 0, slots := 0, locals := 21 }) (zPc dC dI (zT cI cB cZ cR) [.ref xs] sz [(xs, .inr (4, [.int 0, .int 0, .int 0, .int 0, .int 0, .int 0, .int 0, .int 0, .int 0]))]) (va_Qv (fun _ : Unit => True) (fun _ : Unit => zB dC dI (zT cI cB cZ cR) (va_A [(xs, .inr (4, [.int 0, .int 0, .int 0, .int 0, .int 0, .int 0, .int 0, .int 0, .int 0]))] sz) [(xs, .inr (4, [.int 0, .int 0, .int 0, .int 0, .int 0, .int 0, .int 0, .int 0, .int 0]))]) (va_A [(xs, .inr (4, [.int 0, .int 0, .int 0, .int 0, .int 0, .int 0, .int 0, .int 0, .int 0]))] sz)) 0 0 (va_A [(xs, .inr (4, [.int 0, .int 0, .int 0, .int 0, .int 0, .int 0, .int 0, .int 0, .int 0]))] sz) := by
  refine Met.ofW (cc := cX4_clear) (maxL := 1) (ret := none) (by decide) rfl ?_
  intro p e s m args below meth c s₁ B hml hv
  obtain ⟨rfl, hsz, hP, hK, hD0, hN⟩ := hv
  have hx := B.exec
  have hb := B.bytes
  have hr := B.returns
  have hts := atoms_spec (ws := (.code yX4_clear cX4_clear 1 none :: wsL_law)) B.pre
  have hown : s.vm.findClass RX4 = some m.cls := findClass_of_methodNamed B.named
  have hlocks := B.notSynchronized
  subst hsz
  have hD := hD0.self (sz := s.heap.size)
  generalize hAe : va_A [(xs, .inr (4, [.int 0, .int 0, .int 0, .int 0, .int 0, .int 0, .int 0, .int 0, .int 0]))] s.heap.size = A at hD ⊢
  have hA : ∀ q : Nat, s.heap.size ≤ q → A q := fun q h => by rw [← hAe]; exact Or.inr h
  have hP : va_P (dC, dI) vwCl [(xs, .inr (4, [.int 0, .int 0, .int 0, .int 0, .int 0, .int 0, .int 0, .int 0, .int 0]))] s.heap := hP
  have hl := lv_entry ([.ref xs]) (n := 1) (Nat.le_of_ble_eq_true rfl)
  rw [lg_entry_eq]
  generalize (lg_sl ([.ref xs]) ++ List.replicate (1 - (lg_sl ([.ref xs])).length) Slot.unset).toArray = ls at hl ⊢
  have hl : lv_has ls 1 [(0, .ref xs)] := hl
  obtain ⟨H, hH⟩ : ∃ H, H = s.heap := ⟨_, rfl⟩
  rw [← hH] at hP ⊢
  have hS : va_S A s.heap H [] := by rw [hH]; exact va_S.rf
  refine lv_aload_n hx hb dX4_clear_0 rfl (lv_at hl 0 rfl) ?_
  refine lv_iconst (v := 0) hx hb dX4_clear_1 (by decide) ?_
  refine zcVv (As := [.int 0]) (rest := []) (wr := []) ⟨hx, hb, hml, hown, hts⟩ (kkX4_unpack_0 l dC dI cI cB cZ cR H.size xs ) (cwV 1 hts (zgV wm_925 wm_926 wm_927 wm_36 wm_928) rfl rfl rfl (by decide +kernel) ⟨Nat.le_of_ble_eq_true rfl, Nat.le_of_ble_eq_true rfl⟩) hN hK hP hD hS hA [0] [] rfl rfl ⟨rfl, rfl⟩ (by decide) (ci := 4) rfl rfl rfl rfl hl.1 rfl (Nat.le_of_ble_eq_true rfl) dX4_clear_2 ⟨Nat.le_of_ble_eq_true rfl, Nat.le_of_ble_eq_true rfl⟩ (fun u hu H locs hP hD hS => ?_)
  have hP : va_P (dC, dI) vwCl [(xs, .inr (4, [.int 0, .int 0, .int 0, .int 0, .int 0, .int 0, .int 0, .int 0, .int 0]))] H := hP
  have hD : va_D A [(xs, .inr (4, [.int 0, .int 0, .int 0, .int 0, .int 0, .int 0, .int 0, .int 0, .int 0]))] := hD
  have hP9 := hP.sub (ws' := [(xs, .inr (4, [.int 0, .int 0, .int 0, .int 0, .int 0, .int 0, .int 0, .int 0, .int 0]))]) [0] rfl
  have hD9 := hD.sub (ws' := [(xs, .inr (4, [.int 0, .int 0, .int 0, .int 0, .int 0, .int 0, .int 0, .int 0, .int 0]))]) [0] (by decide) rfl
  exact W.vret hx hb hr (fun t ht hW => ⟨⟨(), rfl, trivial, by rw [ht]; exact hP9, va_K.moved hW.alike hK, hD9⟩, hS.F ht⟩) hS.2.2 dX4_clear_5

set_option maxHeartbeats 4000000 in
set_option maxRecDepth 100000 in
theorem kkX1_lengthOf (l : Launch) (dC : Nat → ClassId) (dI : Nat → Nat → Nat) (cI cB cZ cR : ClassId) (sz : Nat) (xp : Nat) (g0 : Nat) (g1 : Nat) (g2 : Nat) (p1 : Int32) : Met l yX1_lengthOf (.code yX1_lengthOf cX1_lengthOf 2 (some .int) :: wsL_law) ({ frames := 0, cells := 0, slots := 0, locals := 0 }) (zPc dC dI (zT cI cB cZ cR) [.ref xp, .int p1] sz [(xp, .inr (1, [.ref g0, .ref g1, .ref g2, .int 0, .int 0]))]) (va_Qi (fun (r : Int32) (_ : Unit) => r = 0) (fun _ : Unit => zB dC dI (zT cI cB cZ cR) (va_A [(xp, .inr (1, [.ref g0, .ref g1, .ref g2, .int 0, .int 0]))] sz) [(xp, .inr (1, [.ref g0, .ref g1, .ref g2, .int 0, .int 0]))]) (va_A [(xp, .inr (1, [.ref g0, .ref g1, .ref g2, .int 0, .int 0]))] sz)) 0 0 (va_A [(xp, .inr (1, [.ref g0, .ref g1, .ref g2, .int 0, .int 0]))] sz) := by
  refine Met.ofW (cc := cX1_lengthOf) (maxL := 2) (ret := (some .int)) (by decide) rfl ?_
  intro p e s m args below meth c s₁ B hml hv
  obtain ⟨rfl, hsz, hP, hK, hD0, hN⟩ := hv
  have hx := B.exec
  have hb := B.bytes
  have hr := B.returns
  have hts := atoms_spec (ws := (.code yX1_lengthOf cX1_lengthOf 2 (some .int) :: wsL_law)) B.pre
  have hown : s.vm.findClass RX1 = some m.cls := findClass_of_methodNamed B.named
  have hlocks := B.notSynchronized
  have hinX1 : ∀ w ∈ u_ws RX1 TX1 5, w ∈ (.code yX1_lengthOf cX1_lengthOf 2 (some .int) :: wsL_law) := fun w h => List.mem_cons_of_mem _ (inlX1 w h)
  have k_0 := hts (.fieldLink RX1 25 "RingMarks$Programs" "deviceLength" "I") (List.mem_cons_of_mem _ wm_109)
  have k_1 := hts (.fieldLink RX1 21 "RingMarks$Programs" "driverLength" "I") (List.mem_cons_of_mem _ wm_108)
  subst hsz
  have hD := hD0.self (sz := s.heap.size)
  generalize hAe : va_A [(xp, .inr (1, [.ref g0, .ref g1, .ref g2, .int 0, .int 0]))] s.heap.size = A at hD ⊢
  have hA : ∀ q : Nat, s.heap.size ≤ q → A q := fun q h => by rw [← hAe]; exact Or.inr h
  have hP : va_P (dC, dI) vwCl [(xp, .inr (1, [.ref g0, .ref g1, .ref g2, .int 0, .int 0]))] s.heap := hP
  have hl := lv_entry ([.ref xp, .int p1]) (n := 2) (Nat.le_of_ble_eq_true rfl)
  rw [lg_entry_eq]
  generalize (lg_sl ([.ref xp, .int p1]) ++ List.replicate (2 - (lg_sl ([.ref xp, .int p1])).length) Slot.unset).toArray = ls at hl ⊢
  have hl : lv_has ls 2 [(0, .ref xp), (1, .int p1)] := hl
  obtain ⟨H, hH⟩ : ∃ H, H = s.heap := ⟨_, rfl⟩
  rw [← hH] at hP ⊢
  have hS : va_S A s.heap H [] := by rw [hH]; exact va_S.rf
  refine lv_iload_n hx hb dX1_lengthOf_0 rfl (lv_at hl 1 rfl) ?_
  refine lv_if_ne (tgt := 11) hx hb dX1_lengthOf_1 (by decide) (fun c_1 => ?_) (fun c_1 => ?_)
  · refine lv_aload_n hx hb dX1_lengthOf_11 rfl (lv_at hl 0 rfl) ?_
    refine va_get (D := (dC, dI)) (ci := 1) (v := .int 0) (C := RX1) (T := TX1) (N := 5) hx hb hts hinX1 hown hK hP 0 rfl rfl 4 (by decide) k_0 (fun _ h9 => h9) rfl dX1_lengthOf_12 ?_
    have hP9 := hP.sub (ws' := [(xp, .inr (1, [.ref g0, .ref g1, .ref g2, .int 0, .int 0]))]) [0] rfl
    have hD9 := hD.sub (ws' := [(xp, .inr (1, [.ref g0, .ref g1, .ref g2, .int 0, .int 0]))]) [0] (by decide) rfl
    exact W.iret (v := 0) hx hb hr (fun t ht hW => ⟨⟨0, (), rfl, rfl, by rw [ht]; exact hP9, va_K.moved hW.alike hK, hD9⟩, hS.F ht⟩) hS.2.2 dX1_lengthOf_15
  · refine lv_aload_n hx hb dX1_lengthOf_4 rfl (lv_at hl 0 rfl) ?_
    refine va_get (D := (dC, dI)) (ci := 1) (v := .int 0) (C := RX1) (T := TX1) (N := 5) hx hb hts hinX1 hown hK hP 0 rfl rfl 3 (by decide) k_1 (fun _ h9 => h9) rfl dX1_lengthOf_5 ?_
    refine lv_goto (tgt := 15) hx hb dX1_lengthOf_8 (by decide) ?_
    have hP9 := hP.sub (ws' := [(xp, .inr (1, [.ref g0, .ref g1, .ref g2, .int 0, .int 0]))]) [0] rfl
    have hD9 := hD.sub (ws' := [(xp, .inr (1, [.ref g0, .ref g1, .ref g2, .int 0, .int 0]))]) [0] (by decide) rfl
    exact W.iret (v := 0) hx hb hr (fun t ht hW => ⟨⟨0, (), rfl, rfl, by rw [ht]; exact hP9, va_K.moved hW.alike hK, hD9⟩, hS.F ht⟩) hS.2.2 dX1_lengthOf_15

set_option maxHeartbeats 4000000 in
set_option maxRecDepth 100000 in
theorem kkX1_isDriven_0 (l : Launch) (dC : Nat → ClassId) (dI : Nat → Nat → Nat) (cI cB cZ cR : ClassId) (sz : Nat) (xp : Nat) (g0 : Nat) (g1 : Nat) (g2 : Nat) (xs : Nat) : Met l yX1_isDriven (.code yX1_isDriven cX1_isDriven 2 (some .boolean) :: wsL_law) ({ frames := 0, cells := 0, slots := 0, locals := 0 }) (zPc dC dI (zT cI cB cZ cR) [.ref xp, .ref xs] sz [(xp, .inr (1, [.ref g0, .ref g1, .ref g2, .int 0, .int 0])), (xs, .inr (4, [.int 0, .int 0, .int 0, .int 0, .int 0, .int 0, .int 0, .int 0, .int 0]))]) (va_Qi (fun (r : Int32) (_ : Unit) => r = 1) (fun _ : Unit => zB dC dI (zT cI cB cZ cR) (va_A [(xp, .inr (1, [.ref g0, .ref g1, .ref g2, .int 0, .int 0])), (xs, .inr (4, [.int 0, .int 0, .int 0, .int 0, .int 0, .int 0, .int 0, .int 0, .int 0]))] sz) [(xp, .inr (1, [.ref g0, .ref g1, .ref g2, .int 0, .int 0])), (xs, .inr (4, [.int 0, .int 0, .int 0, .int 0, .int 0, .int 0, .int 0, .int 0, .int 0]))]) (va_A [(xp, .inr (1, [.ref g0, .ref g1, .ref g2, .int 0, .int 0])), (xs, .inr (4, [.int 0, .int 0, .int 0, .int 0, .int 0, .int 0, .int 0, .int 0, .int 0]))] sz)) 0 0 (va_A [(xp, .inr (1, [.ref g0, .ref g1, .ref g2, .int 0, .int 0])), (xs, .inr (4, [.int 0, .int 0, .int 0, .int 0, .int 0, .int 0, .int 0, .int 0, .int 0]))] sz) := by
  refine Met.ofW (cc := cX1_isDriven) (maxL := 2) (ret := (some .boolean)) (by decide) rfl ?_
  intro p e s m args below meth c s₁ B hml hv
  obtain ⟨rfl, hsz, hP, hK, hD0, hN⟩ := hv
  have hx := B.exec
  have hb := B.bytes
  have hr := B.returns
  have hts := atoms_spec (ws := (.code yX1_isDriven cX1_isDriven 2 (some .boolean) :: wsL_law)) B.pre
  have hown : s.vm.findClass RX1 = some m.cls := findClass_of_methodNamed B.named
  have hlocks := B.notSynchronized
  have hinX4 : ∀ w ∈ u_ws RX4 TX4 9, w ∈ (.code yX1_isDriven cX1_isDriven 2 (some .boolean) :: wsL_law) := fun w h => List.mem_cons_of_mem _ (inlX4 w h)
  have hinX1 : ∀ w ∈ u_ws RX1 TX1 5, w ∈ (.code yX1_isDriven cX1_isDriven 2 (some .boolean) :: wsL_law) := fun w h => List.mem_cons_of_mem _ (inlX1 w h)
  have k_0 := hts (.fieldLink RX1 122 "RingMarks$State" "driverAt" "I") (List.mem_cons_of_mem _ wm_1007)
  have k_1 := hts (.fieldLink RX1 21 "RingMarks$Programs" "driverLength" "I") (List.mem_cons_of_mem _ wm_108)
  subst hsz
  have hD := hD0.self (sz := s.heap.size)
  generalize hAe : va_A [(xp, .inr (1, [.ref g0, .ref g1, .ref g2, .int 0, .int 0])), (xs, .inr (4, [.int 0, .int 0, .int 0, .int 0, .int 0, .int 0, .int 0, .int 0, .int 0]))] s.heap.size = A at hD ⊢
  have hA : ∀ q : Nat, s.heap.size ≤ q → A q := fun q h => by rw [← hAe]; exact Or.inr h
  have hP : va_P (dC, dI) vwCl [(xp, .inr (1, [.ref g0, .ref g1, .ref g2, .int 0, .int 0])), (xs, .inr (4, [.int 0, .int 0, .int 0, .int 0, .int 0, .int 0, .int 0, .int 0, .int 0]))] s.heap := hP
  have hl := lv_entry ([.ref xp, .ref xs]) (n := 2) (Nat.le_of_ble_eq_true rfl)
  rw [lg_entry_eq]
  generalize (lg_sl ([.ref xp, .ref xs]) ++ List.replicate (2 - (lg_sl ([.ref xp, .ref xs])).length) Slot.unset).toArray = ls at hl ⊢
  have hl : lv_has ls 2 [(0, .ref xp), (1, .ref xs)] := hl
  obtain ⟨H, hH⟩ : ∃ H, H = s.heap := ⟨_, rfl⟩
  rw [← hH] at hP ⊢
  have hS : va_S A s.heap H [] := by rw [hH]; exact va_S.rf
  refine lv_aload_n hx hb dX1_isDriven_0 rfl (lv_at hl 1 rfl) ?_
  refine va_get (D := (dC, dI)) (ci := 4) (v := .int 0) (C := RX4) (T := TX4) (N := 9) hx hb hts hinX4 hown hK hP 1 rfl rfl 0 (by decide) k_0 (fun _ h9 => h9) rfl dX1_isDriven_1 ?_
  refine lv_aload_n hx hb dX1_isDriven_4 rfl (lv_at hl 0 rfl) ?_
  refine va_get (D := (dC, dI)) (ci := 1) (v := .int 0) (C := RX1) (T := TX1) (N := 5) hx hb hts hinX1 hown hK hP 0 rfl rfl 3 (by decide) k_1 (fun _ h9 => h9) rfl dX1_isDriven_5 ?_
  refine lv_icmp_lt (tgt := 15) hx hb dX1_isDriven_8 (by decide) (fun c => absurd c (by decide)) (fun _ => ?_)
  refine lv_iconst (v := 1) hx hb dX1_isDriven_11 (by decide) ?_
  refine lv_goto (tgt := 16) hx hb dX1_isDriven_12 (by decide) ?_
  have hP9 := hP.sub (ws' := [(xp, .inr (1, [.ref g0, .ref g1, .ref g2, .int 0, .int 0])), (xs, .inr (4, [.int 0, .int 0, .int 0, .int 0, .int 0, .int 0, .int 0, .int 0, .int 0]))]) [0, 1] rfl
  have hD9 := hD.sub (ws' := [(xp, .inr (1, [.ref g0, .ref g1, .ref g2, .int 0, .int 0])), (xs, .inr (4, [.int 0, .int 0, .int 0, .int 0, .int 0, .int 0, .int 0, .int 0, .int 0]))]) [0, 1] (by decide) rfl
  exact W.zret (v := 1) hx hb hr rfl (fun t ht hW => ⟨⟨1, (), rfl, rfl, by rw [ht]; exact hP9, va_K.moved hW.alike hK, hD9⟩, hS.F ht⟩) hS.2.2 dX1_isDriven_16

set_option maxHeartbeats 4000000 in
set_option maxRecDepth 100000 in
theorem kkX1_canServe_0 (l : Launch) (dC : Nat → ClassId) (dI : Nat → Nat → Nat) (cI cB cZ cR : ClassId) (sz : Nat) (xp : Nat) (g0 : Nat) (g1 : Nat) (g2 : Nat) (xs : Nat) : Met l yX1_canServe (.code yX1_canServe cX1_canServe 3 (some .boolean) :: wsL_law) ({ frames := 0, cells := 0, slots := 0, locals := 0 }) (zPc dC dI (zT cI cB cZ cR) [.ref xp, .ref xs] sz [(xp, .inr (1, [.ref g0, .ref g1, .ref g2, .int 0, .int 0])), (xs, .inr (4, [.int 0, .int 0, .int 0, .int 0, .int 0, .int 0, .int 0, .int 0, .int 0]))]) (va_Qi (fun (r : Int32) (_ : Unit) => r = 0) (fun _ : Unit => zB dC dI (zT cI cB cZ cR) (va_A [(xp, .inr (1, [.ref g0, .ref g1, .ref g2, .int 0, .int 0])), (xs, .inr (4, [.int 0, .int 0, .int 0, .int 0, .int 0, .int 0, .int 0, .int 0, .int 0]))] sz) [(xp, .inr (1, [.ref g0, .ref g1, .ref g2, .int 0, .int 0])), (xs, .inr (4, [.int 0, .int 0, .int 0, .int 0, .int 0, .int 0, .int 0, .int 0, .int 0]))]) (va_A [(xp, .inr (1, [.ref g0, .ref g1, .ref g2, .int 0, .int 0])), (xs, .inr (4, [.int 0, .int 0, .int 0, .int 0, .int 0, .int 0, .int 0, .int 0, .int 0]))] sz)) 0 0 (va_A [(xp, .inr (1, [.ref g0, .ref g1, .ref g2, .int 0, .int 0])), (xs, .inr (4, [.int 0, .int 0, .int 0, .int 0, .int 0, .int 0, .int 0, .int 0, .int 0]))] sz) := by
  refine Met.ofW (cc := cX1_canServe) (maxL := 3) (ret := (some .boolean)) (by decide) rfl ?_
  intro p e s m args below meth c s₁ B hml hv
  obtain ⟨rfl, hsz, hP, hK, hD0, hN⟩ := hv
  have hx := B.exec
  have hb := B.bytes
  have hr := B.returns
  have hts := atoms_spec (ws := (.code yX1_canServe cX1_canServe 3 (some .boolean) :: wsL_law)) B.pre
  have hown : s.vm.findClass RX1 = some m.cls := findClass_of_methodNamed B.named
  have hlocks := B.notSynchronized
  have hinX4 : ∀ w ∈ u_ws RX4 TX4 9, w ∈ (.code yX1_canServe cX1_canServe 3 (some .boolean) :: wsL_law) := fun w h => List.mem_cons_of_mem _ (inlX4 w h)
  have hinX1 : ∀ w ∈ u_ws RX1 TX1 5, w ∈ (.code yX1_canServe cX1_canServe 3 (some .boolean) :: wsL_law) := fun w h => List.mem_cons_of_mem _ (inlX1 w h)
  have k_0 := hts (.fieldLink RX1 125 "RingMarks$State" "deviceAt" "I") (List.mem_cons_of_mem _ wm_1019)
  have k_1 := hts (.fieldLink RX1 25 "RingMarks$Programs" "deviceLength" "I") (List.mem_cons_of_mem _ wm_109)
  subst hsz
  have hD := hD0.self (sz := s.heap.size)
  generalize hAe : va_A [(xp, .inr (1, [.ref g0, .ref g1, .ref g2, .int 0, .int 0])), (xs, .inr (4, [.int 0, .int 0, .int 0, .int 0, .int 0, .int 0, .int 0, .int 0, .int 0]))] s.heap.size = A at hD ⊢
  have hA : ∀ q : Nat, s.heap.size ≤ q → A q := fun q h => by rw [← hAe]; exact Or.inr h
  have hP : va_P (dC, dI) vwCl [(xp, .inr (1, [.ref g0, .ref g1, .ref g2, .int 0, .int 0])), (xs, .inr (4, [.int 0, .int 0, .int 0, .int 0, .int 0, .int 0, .int 0, .int 0, .int 0]))] s.heap := hP
  have hl := lv_entry ([.ref xp, .ref xs]) (n := 3) (Nat.le_of_ble_eq_true rfl)
  rw [lg_entry_eq]
  generalize (lg_sl ([.ref xp, .ref xs]) ++ List.replicate (3 - (lg_sl ([.ref xp, .ref xs])).length) Slot.unset).toArray = ls at hl ⊢
  have hl : lv_has ls 3 [(0, .ref xp), (1, .ref xs)] := hl
  obtain ⟨H, hH⟩ : ∃ H, H = s.heap := ⟨_, rfl⟩
  rw [← hH] at hP ⊢
  have hS : va_S A s.heap H [] := by rw [hH]; exact va_S.rf
  refine lv_aload_n hx hb dX1_canServe_0 rfl (lv_at hl 1 rfl) ?_
  refine va_get (D := (dC, dI)) (ci := 4) (v := .int 0) (C := RX4) (T := TX4) (N := 9) hx hb hts hinX4 hown hK hP 1 rfl rfl 1 (by decide) k_0 (fun _ h9 => h9) rfl dX1_canServe_1 ?_
  refine lv_if_lt (tgt := 30) hx hb dX1_canServe_4 (by decide) (fun c => absurd c (by decide)) (fun _ => ?_)
  refine lv_aload_n hx hb dX1_canServe_7 rfl (lv_at hl 1 rfl) ?_
  refine va_get (D := (dC, dI)) (ci := 4) (v := .int 0) (C := RX4) (T := TX4) (N := 9) hx hb hts hinX4 hown hK hP 1 rfl rfl 1 (by decide) k_0 (fun _ h9 => h9) rfl dX1_canServe_8 ?_
  refine lv_aload_n hx hb dX1_canServe_11 rfl (lv_at hl 0 rfl) ?_
  refine va_get (D := (dC, dI)) (ci := 1) (v := .int 0) (C := RX1) (T := TX1) (N := 5) hx hb hts hinX1 hown hK hP 0 rfl rfl 4 (by decide) k_1 (fun _ h9 => h9) rfl dX1_canServe_12 ?_
  refine lv_icmp_ge (tgt := 30) hx hb dX1_canServe_15 (by decide) (fun _ => ?_) (fun c => absurd (by decide) c)
  refine lv_iconst (v := 0) hx hb dX1_canServe_30 (by decide) ?_
  refine lv_istore_n (lv' := [(2, .int 0), (0, .ref xp), (1, .ref xs)]) hx hb dX1_canServe_31 rfl hl (by decide) rfl (fun ls hl => ?_)
  refine lv_iload_n hx hb dX1_canServe_32 rfl (lv_at hl 0 rfl) ?_
  refine lv_if_eq (tgt := 62) hx hb dX1_canServe_33 (by decide) (fun _ => ?_) (fun c => absurd (by decide) c)
  refine lv_iconst (v := 0) hx hb dX1_canServe_62 (by decide) ?_
  have hP9 := hP.sub (ws' := [(xp, .inr (1, [.ref g0, .ref g1, .ref g2, .int 0, .int 0])), (xs, .inr (4, [.int 0, .int 0, .int 0, .int 0, .int 0, .int 0, .int 0, .int 0, .int 0]))]) [0, 1] rfl
  have hD9 := hD.sub (ws' := [(xp, .inr (1, [.ref g0, .ref g1, .ref g2, .int 0, .int 0])), (xs, .inr (4, [.int 0, .int 0, .int 0, .int 0, .int 0, .int 0, .int 0, .int 0, .int 0]))]) [0, 1] (by decide) rfl
  exact W.zret (v := 0) hx hb hr rfl (fun t ht hW => ⟨⟨0, (), rfl, rfl, by rw [ht]; exact hP9, va_K.moved hW.alike hK, hD9⟩, hS.F ht⟩) hS.2.2 dX1_canServe_63

set_option maxHeartbeats 4000000 in
set_option maxRecDepth 100000 in
theorem kkX1_canDrive_0 (l : Launch) (dC : Nat → ClassId) (dI : Nat → Nat → Nat) (cI cB cZ cR : ClassId) (sz : Nat) (xp : Nat) (g0 : Nat) (g1 : Nat) (g2 : Nat) (xs : Nat) : Met l yX1_canDrive (.code yX1_canDrive cX1_canDrive 2 (some .boolean) :: wsL_law) ({ frames := 0, cells := 0, slots := 0, locals := 0 }) (zPc dC dI (zT cI cB cZ cR) [.ref xp, .ref xs] sz [(xp, .inr (1, [.ref g0, .ref g1, .ref g2, .int 0, .int 0])), (xs, .inr (4, [.int 0, .int 0, .int 0, .int 0, .int 0, .int 0, .int 0, .int 0, .int 0]))]) (va_Qi (fun (r : Int32) (_ : Unit) => r = 0) (fun _ : Unit => zB dC dI (zT cI cB cZ cR) (va_A [(xp, .inr (1, [.ref g0, .ref g1, .ref g2, .int 0, .int 0])), (xs, .inr (4, [.int 0, .int 0, .int 0, .int 0, .int 0, .int 0, .int 0, .int 0, .int 0]))] sz) [(xp, .inr (1, [.ref g0, .ref g1, .ref g2, .int 0, .int 0])), (xs, .inr (4, [.int 0, .int 0, .int 0, .int 0, .int 0, .int 0, .int 0, .int 0, .int 0]))]) (va_A [(xp, .inr (1, [.ref g0, .ref g1, .ref g2, .int 0, .int 0])), (xs, .inr (4, [.int 0, .int 0, .int 0, .int 0, .int 0, .int 0, .int 0, .int 0, .int 0]))] sz)) 0 0 (va_A [(xp, .inr (1, [.ref g0, .ref g1, .ref g2, .int 0, .int 0])), (xs, .inr (4, [.int 0, .int 0, .int 0, .int 0, .int 0, .int 0, .int 0, .int 0, .int 0]))] sz) := by
  refine Met.ofW (cc := cX1_canDrive) (maxL := 2) (ret := (some .boolean)) (by decide) rfl ?_
  intro p e s m args below meth c s₁ B hml hv
  obtain ⟨rfl, hsz, hP, hK, hD0, hN⟩ := hv
  have hx := B.exec
  have hb := B.bytes
  have hr := B.returns
  have hts := atoms_spec (ws := (.code yX1_canDrive cX1_canDrive 2 (some .boolean) :: wsL_law)) B.pre
  have hown : s.vm.findClass RX1 = some m.cls := findClass_of_methodNamed B.named
  have hlocks := B.notSynchronized
  have hinX4 : ∀ w ∈ u_ws RX4 TX4 9, w ∈ (.code yX1_canDrive cX1_canDrive 2 (some .boolean) :: wsL_law) := fun w h => List.mem_cons_of_mem _ (inlX4 w h)
  have hinX1 : ∀ w ∈ u_ws RX1 TX1 5, w ∈ (.code yX1_canDrive cX1_canDrive 2 (some .boolean) :: wsL_law) := fun w h => List.mem_cons_of_mem _ (inlX1 w h)
  have k_0 := hts (.fieldLink RX1 122 "RingMarks$State" "driverAt" "I") (List.mem_cons_of_mem _ wm_1007)
  have k_1 := hts (.fieldLink RX1 21 "RingMarks$Programs" "driverLength" "I") (List.mem_cons_of_mem _ wm_108)
  subst hsz
  have hD := hD0.self (sz := s.heap.size)
  generalize hAe : va_A [(xp, .inr (1, [.ref g0, .ref g1, .ref g2, .int 0, .int 0])), (xs, .inr (4, [.int 0, .int 0, .int 0, .int 0, .int 0, .int 0, .int 0, .int 0, .int 0]))] s.heap.size = A at hD ⊢
  have hA : ∀ q : Nat, s.heap.size ≤ q → A q := fun q h => by rw [← hAe]; exact Or.inr h
  have hP : va_P (dC, dI) vwCl [(xp, .inr (1, [.ref g0, .ref g1, .ref g2, .int 0, .int 0])), (xs, .inr (4, [.int 0, .int 0, .int 0, .int 0, .int 0, .int 0, .int 0, .int 0, .int 0]))] s.heap := hP
  have hl := lv_entry ([.ref xp, .ref xs]) (n := 2) (Nat.le_of_ble_eq_true rfl)
  rw [lg_entry_eq]
  generalize (lg_sl ([.ref xp, .ref xs]) ++ List.replicate (2 - (lg_sl ([.ref xp, .ref xs])).length) Slot.unset).toArray = ls at hl ⊢
  have hl : lv_has ls 2 [(0, .ref xp), (1, .ref xs)] := hl
  obtain ⟨H, hH⟩ : ∃ H, H = s.heap := ⟨_, rfl⟩
  rw [← hH] at hP ⊢
  have hS : va_S A s.heap H [] := by rw [hH]; exact va_S.rf
  refine lv_aload_n hx hb dX1_canDrive_0 rfl (lv_at hl 1 rfl) ?_
  refine va_get (D := (dC, dI)) (ci := 4) (v := .int 0) (C := RX4) (T := TX4) (N := 9) hx hb hts hinX4 hown hK hP 1 rfl rfl 0 (by decide) k_0 (fun _ h9 => h9) rfl dX1_canDrive_1 ?_
  refine lv_if_lt (tgt := 31) hx hb dX1_canDrive_4 (by decide) (fun c => absurd c (by decide)) (fun _ => ?_)
  refine lv_aload_n hx hb dX1_canDrive_7 rfl (lv_at hl 1 rfl) ?_
  refine va_get (D := (dC, dI)) (ci := 4) (v := .int 0) (C := RX4) (T := TX4) (N := 9) hx hb hts hinX4 hown hK hP 1 rfl rfl 0 (by decide) k_0 (fun _ h9 => h9) rfl dX1_canDrive_8 ?_
  refine lv_aload_n hx hb dX1_canDrive_11 rfl (lv_at hl 0 rfl) ?_
  refine va_get (D := (dC, dI)) (ci := 1) (v := .int 0) (C := RX1) (T := TX1) (N := 5) hx hb hts hinX1 hown hK hP 0 rfl rfl 3 (by decide) k_1 (fun _ h9 => h9) rfl dX1_canDrive_12 ?_
  refine lv_icmp_ge (tgt := 31) hx hb dX1_canDrive_15 (by decide) (fun _ => ?_) (fun c => absurd (by decide) c)
  refine lv_iconst (v := 0) hx hb dX1_canDrive_31 (by decide) ?_
  have hP9 := hP.sub (ws' := [(xp, .inr (1, [.ref g0, .ref g1, .ref g2, .int 0, .int 0])), (xs, .inr (4, [.int 0, .int 0, .int 0, .int 0, .int 0, .int 0, .int 0, .int 0, .int 0]))]) [0, 1] rfl
  have hD9 := hD.sub (ws' := [(xp, .inr (1, [.ref g0, .ref g1, .ref g2, .int 0, .int 0])), (xs, .inr (4, [.int 0, .int 0, .int 0, .int 0, .int 0, .int 0, .int 0, .int 0, .int 0]))]) [0, 1] (by decide) rfl
  exact W.zret (v := 0) hx hb hr rfl (fun t ht hW => ⟨⟨0, (), rfl, rfl, by rw [ht]; exact hP9, va_K.moved hW.alike hK, hD9⟩, hS.F ht⟩) hS.2.2 dX1_canDrive_32

set_option maxHeartbeats 4000000 in
set_option maxRecDepth 100000 in
theorem kkX1_isMissed_0 (l : Launch) (dC : Nat → ClassId) (dI : Nat → Nat → Nat) (cI cB cZ cR : ClassId) (sz : Nat) (xp : Nat) (g0 : Nat) (g1 : Nat) (g2 : Nat) (xs : Nat) : Met l yX1_isMissed (.code yX1_isMissed cX1_isMissed 2 (some .boolean) :: wsL_law) ({ frames := 1, cells := 0, slots := 0, locals := 22 }) (zPc dC dI (zT cI cB cZ cR) [.ref xp, .ref xs] sz [(xp, .inr (1, [.ref g0, .ref g1, .ref g2, .int 0, .int 0])), (xs, .inr (4, [.int 0, .int 0, .int 0, .int 0, .int 0, .int 0, .int 0, .int 0, .int 0]))]) (va_Qi (fun (r : Int32) (_ : Unit) => r = 0) (fun _ : Unit => zB dC dI (zT cI cB cZ cR) (va_A [(xp, .inr (1, [.ref g0, .ref g1, .ref g2, .int 0, .int 0])), (xs, .inr (4, [.int 0, .int 0, .int 0, .int 0, .int 0, .int 0, .int 0, .int 0, .int 0]))] sz) [(xp, .inr (1, [.ref g0, .ref g1, .ref g2, .int 0, .int 0])), (xs, .inr (4, [.int 0, .int 0, .int 0, .int 0, .int 0, .int 0, .int 0, .int 0, .int 0]))]) (va_A [(xp, .inr (1, [.ref g0, .ref g1, .ref g2, .int 0, .int 0])), (xs, .inr (4, [.int 0, .int 0, .int 0, .int 0, .int 0, .int 0, .int 0, .int 0, .int 0]))] sz)) 0 0 (va_A [(xp, .inr (1, [.ref g0, .ref g1, .ref g2, .int 0, .int 0])), (xs, .inr (4, [.int 0, .int 0, .int 0, .int 0, .int 0, .int 0, .int 0, .int 0, .int 0]))] sz) := by
  refine Met.ofW (cc := cX1_isMissed) (maxL := 2) (ret := (some .boolean)) (by decide) rfl ?_
  intro p e s m args below meth c s₁ B hml hv
  obtain ⟨rfl, hsz, hP, hK, hD0, hN⟩ := hv
  have hx := B.exec
  have hb := B.bytes
  have hr := B.returns
  have hts := atoms_spec (ws := (.code yX1_isMissed cX1_isMissed 2 (some .boolean) :: wsL_law)) B.pre
  have hown : s.vm.findClass RX1 = some m.cls := findClass_of_methodNamed B.named
  have hlocks := B.notSynchronized
  have hinX4 : ∀ w ∈ u_ws RX4 TX4 9, w ∈ (.code yX1_isMissed cX1_isMissed 2 (some .boolean) :: wsL_law) := fun w h => List.mem_cons_of_mem _ (inlX4 w h)
  have k_0 := hts (.fieldLink RX1 114 "RingMarks$State" "seen" "I") (List.mem_cons_of_mem _ wm_1012)
  have k_1 := hts (.fieldLink RX1 119 "RingMarks$State" "there" "I") (List.mem_cons_of_mem _ wm_1013)
  subst hsz
  have hD := hD0.self (sz := s.heap.size)
  generalize hAe : va_A [(xp, .inr (1, [.ref g0, .ref g1, .ref g2, .int 0, .int 0])), (xs, .inr (4, [.int 0, .int 0, .int 0, .int 0, .int 0, .int 0, .int 0, .int 0, .int 0]))] s.heap.size = A at hD ⊢
  have hA : ∀ q : Nat, s.heap.size ≤ q → A q := fun q h => by rw [← hAe]; exact Or.inr h
  have hP : va_P (dC, dI) vwCl [(xp, .inr (1, [.ref g0, .ref g1, .ref g2, .int 0, .int 0])), (xs, .inr (4, [.int 0, .int 0, .int 0, .int 0, .int 0, .int 0, .int 0, .int 0, .int 0]))] s.heap := hP
  have hl := lv_entry ([.ref xp, .ref xs]) (n := 2) (Nat.le_of_ble_eq_true rfl)
  rw [lg_entry_eq]
  generalize (lg_sl ([.ref xp, .ref xs]) ++ List.replicate (2 - (lg_sl ([.ref xp, .ref xs])).length) Slot.unset).toArray = ls at hl ⊢
  have hl : lv_has ls 2 [(0, .ref xp), (1, .ref xs)] := hl
  obtain ⟨H, hH⟩ : ∃ H, H = s.heap := ⟨_, rfl⟩
  rw [← hH] at hP ⊢
  have hS : va_S A s.heap H [] := by rw [hH]; exact va_S.rf
  refine lv_aload_n hx hb dX1_isMissed_0 rfl (lv_at hl 0 rfl) ?_
  refine lv_aload_n hx hb dX1_isMissed_1 rfl (lv_at hl 1 rfl) ?_
  refine zcVi (As := [.ref xs]) (rest := []) (wr := []) ⟨hx, hb, hml, hown, hts⟩ (kkX1_isDriven_0 l dC dI cI cB cZ cR H.size xp g0 g1 g2 xs ) (cwV 1 hts (zgV wm_1014 wm_1004 wm_1005 wm_32 wm_1006) rfl rfl rfl (by decide +kernel) ⟨Nat.le_of_ble_eq_true rfl, Nat.le_of_ble_eq_true rfl⟩) hN hK hP hD hS hA [0, 1] [] rfl rfl ⟨rfl, rfl⟩ (by decide) (ci := 1) rfl rfl rfl rfl hl.1 rfl (Nat.le_of_ble_eq_true rfl) dX1_isMissed_2 ⟨Nat.le_of_ble_eq_true rfl, Nat.le_of_ble_eq_true rfl⟩ (fun r u hu H locs hP hD hS => ?_)
  have hu : r = 1 := hu
  subst hu
  have hP : va_P (dC, dI) vwCl [(xp, .inr (1, [.ref g0, .ref g1, .ref g2, .int 0, .int 0])), (xs, .inr (4, [.int 0, .int 0, .int 0, .int 0, .int 0, .int 0, .int 0, .int 0, .int 0]))] H := hP
  have hD : va_D A [(xp, .inr (1, [.ref g0, .ref g1, .ref g2, .int 0, .int 0])), (xs, .inr (4, [.int 0, .int 0, .int 0, .int 0, .int 0, .int 0, .int 0, .int 0, .int 0]))] := hD
  refine lv_if_eq (tgt := 31) hx hb dX1_isMissed_5 (by decide) (fun c => absurd c (by decide)) (fun _ => ?_)
  refine lv_aload_n hx hb dX1_isMissed_8 rfl (lv_at hl 0 rfl) ?_
  refine lv_aload_n hx hb dX1_isMissed_9 rfl (lv_at hl 1 rfl) ?_
  refine zcVi (As := [.ref xs]) (rest := []) (wr := []) ⟨hx, hb, hml, hown, hts⟩ (kkX1_canServe_0 l dC dI cI cB cZ cR H.size xp g0 g1 g2 xs ) (cwV 1 hts (zgV wm_1015 wm_1016 wm_1017 wm_32 wm_1018) rfl rfl rfl (by decide +kernel) ⟨Nat.le_of_ble_eq_true rfl, Nat.le_of_ble_eq_true rfl⟩) hN hK hP hD hS hA [0, 1] [] rfl rfl ⟨rfl, rfl⟩ (by decide) (ci := 1) rfl rfl rfl rfl hl.1 rfl (Nat.le_of_ble_eq_true rfl) dX1_isMissed_10 ⟨Nat.le_of_ble_eq_true rfl, Nat.le_of_ble_eq_true rfl⟩ (fun r u hu H locs hP hD hS => ?_)
  have hu : r = 0 := hu
  subst hu
  have hP : va_P (dC, dI) vwCl [(xp, .inr (1, [.ref g0, .ref g1, .ref g2, .int 0, .int 0])), (xs, .inr (4, [.int 0, .int 0, .int 0, .int 0, .int 0, .int 0, .int 0, .int 0, .int 0]))] H := hP
  have hD : va_D A [(xp, .inr (1, [.ref g0, .ref g1, .ref g2, .int 0, .int 0])), (xs, .inr (4, [.int 0, .int 0, .int 0, .int 0, .int 0, .int 0, .int 0, .int 0, .int 0]))] := hD
  refine lv_if_ne (tgt := 31) hx hb dX1_isMissed_13 (by decide) (fun c => absurd (by decide) c) (fun _ => ?_)
  refine lv_aload_n hx hb dX1_isMissed_16 rfl (lv_at hl 1 rfl) ?_
  refine va_get (D := (dC, dI)) (ci := 4) (v := .int 0) (C := RX4) (T := TX4) (N := 9) hx hb hts hinX4 hown hK hP 1 rfl rfl 3 (by decide) k_0 (fun _ h9 => h9) rfl dX1_isMissed_17 ?_
  refine lv_aload_n hx hb dX1_isMissed_20 rfl (lv_at hl 1 rfl) ?_
  refine va_get (D := (dC, dI)) (ci := 4) (v := .int 0) (C := RX4) (T := TX4) (N := 9) hx hb hts hinX4 hown hK hP 1 rfl rfl 2 (by decide) k_1 (fun _ h9 => h9) rfl dX1_isMissed_21 ?_
  refine lv_icmp_eq (tgt := 31) hx hb dX1_isMissed_24 (by decide) (fun _ => ?_) (fun c => absurd (by decide) c)
  refine lv_iconst (v := 0) hx hb dX1_isMissed_31 (by decide) ?_
  have hP9 := hP.sub (ws' := [(xp, .inr (1, [.ref g0, .ref g1, .ref g2, .int 0, .int 0])), (xs, .inr (4, [.int 0, .int 0, .int 0, .int 0, .int 0, .int 0, .int 0, .int 0, .int 0]))]) [0, 1] rfl
  have hD9 := hD.sub (ws' := [(xp, .inr (1, [.ref g0, .ref g1, .ref g2, .int 0, .int 0])), (xs, .inr (4, [.int 0, .int 0, .int 0, .int 0, .int 0, .int 0, .int 0, .int 0, .int 0]))]) [0, 1] (by decide) rfl
  exact W.zret (v := 0) hx hb hr rfl (fun t ht hW => ⟨⟨0, (), rfl, rfl, by rw [ht]; exact hP9, va_K.moved hW.alike hK, hD9⟩, hS.F ht⟩) hS.2.2 dX1_isMissed_32

def pfX4_number_0_r (p1 : Int32) : Int32 := if p1 = 0 then 0 else (if p1 = 1 then 0 else (if p1 = 2 then 0 else (if p1 = 3 then 0 else (if p1 = 4 then 0 else (if p1 = 5 then 0 else (if p1 = 6 then 0 else (if p1 = 7 then 0 else (if p1 = 8 then 0 else (-1)))))))))
set_option maxHeartbeats 4000000 in
set_option maxRecDepth 100000 in
theorem kkX4_number_0 (l : Launch) (dC : Nat → ClassId) (dI : Nat → Nat → Nat) (cI cB cZ cR : ClassId) (sz : Nat) (xs : Nat) (p1 : Int32) : Met l yX4_number (.code yX4_number cX4_number 2 (some .int) :: wsL_law) ({ frames := 0, cells := 0, slots := 0, locals := 0 }) (zPc dC dI (zT cI cB cZ cR) [.ref xs, .int p1] sz [(xs, .inr (4, [.int 0, .int 0, .int 0, .int 0, .int 0, .int 0, .int 0, .int 0, .int 0]))]) (va_Qi (fun (r : Int32) (_ : Unit) => r = (pfX4_number_0_r p1)) (fun _ : Unit => zB dC dI (zT cI cB cZ cR) (va_A [(xs, .inr (4, [.int 0, .int 0, .int 0, .int 0, .int 0, .int 0, .int 0, .int 0, .int 0]))] sz) [(xs, .inr (4, [.int 0, .int 0, .int 0, .int 0, .int 0, .int 0, .int 0, .int 0, .int 0]))]) (va_A [(xs, .inr (4, [.int 0, .int 0, .int 0, .int 0, .int 0, .int 0, .int 0, .int 0, .int 0]))] sz)) 0 0 (va_A [(xs, .inr (4, [.int 0, .int 0, .int 0, .int 0, .int 0, .int 0, .int 0, .int 0, .int 0]))] sz) := by
  refine Met.ofW (cc := cX4_number) (maxL := 2) (ret := (some .int)) (by decide) rfl ?_
  intro p e s m args below meth c s₁ B hml hv
  obtain ⟨rfl, hsz, hP, hK, hD0, hN⟩ := hv
  have hx := B.exec
  have hb := B.bytes
  have hr := B.returns
  have hts := atoms_spec (ws := (.code yX4_number cX4_number 2 (some .int) :: wsL_law)) B.pre
  have hown : s.vm.findClass RX4 = some m.cls := findClass_of_methodNamed B.named
  have hlocks := B.notSynchronized
  have hinX4 : ∀ w ∈ u_ws RX4 TX4 9, w ∈ (.code yX4_number cX4_number 2 (some .int) :: wsL_law) := fun w h => List.mem_cons_of_mem _ (inlX4 w h)
  have k_0 := hts (.fieldLink RX4 9 "RingMarks$State" "driverAt" "I") (List.mem_cons_of_mem _ wm_113)
  have k_1 := hts (.fieldLink RX4 15 "RingMarks$State" "deviceAt" "I") (List.mem_cons_of_mem _ wm_114)
  have k_2 := hts (.fieldLink RX4 18 "RingMarks$State" "there" "I") (List.mem_cons_of_mem _ wm_115)
  have k_3 := hts (.fieldLink RX4 21 "RingMarks$State" "seen" "I") (List.mem_cons_of_mem _ wm_116)
  have k_4 := hts (.fieldLink RX4 24 "RingMarks$State" "event" "I") (List.mem_cons_of_mem _ wm_117)
  have k_5 := hts (.fieldLink RX4 27 "RingMarks$State" "looked" "I") (List.mem_cons_of_mem _ wm_118)
  have k_6 := hts (.fieldLink RX4 30 "RingMarks$State" "told" "I") (List.mem_cons_of_mem _ wm_119)
  have k_7 := hts (.fieldLink RX4 33 "RingMarks$State" "waits" "I") (List.mem_cons_of_mem _ wm_120)
  have k_8 := hts (.fieldLink RX4 36 "RingMarks$State" "sent" "I") (List.mem_cons_of_mem _ wm_121)
  subst hsz
  have hD := hD0.self (sz := s.heap.size)
  generalize hAe : va_A [(xs, .inr (4, [.int 0, .int 0, .int 0, .int 0, .int 0, .int 0, .int 0, .int 0, .int 0]))] s.heap.size = A at hD ⊢
  have hA : ∀ q : Nat, s.heap.size ≤ q → A q := fun q h => by rw [← hAe]; exact Or.inr h
  have hP : va_P (dC, dI) vwCl [(xs, .inr (4, [.int 0, .int 0, .int 0, .int 0, .int 0, .int 0, .int 0, .int 0, .int 0]))] s.heap := hP
  have hl := lv_entry ([.ref xs, .int p1]) (n := 2) (Nat.le_of_ble_eq_true rfl)
  rw [lg_entry_eq]
  generalize (lg_sl ([.ref xs, .int p1]) ++ List.replicate (2 - (lg_sl ([.ref xs, .int p1])).length) Slot.unset).toArray = ls at hl ⊢
  have hl : lv_has ls 2 [(0, .ref xs), (1, .int p1)] := hl
  obtain ⟨H, hH⟩ : ∃ H, H = s.heap := ⟨_, rfl⟩
  rw [← hH] at hP ⊢
  have hS : va_S A s.heap H [] := by rw [hH]; exact va_S.rf
  refine lv_iload_n hx hb dX4_number_0 rfl (lv_at hl 1 rfl) ?_
  by_cases c_1 : p1 = 0
  · refine lv_tableIn (off := 51) (tgt := 52) hx hb dX4_number_1 (by rw [c_1]; decide) (by rw [c_1]; decide) (by rw [c_1]; decide) (by decide) ?_
    refine lv_aload_n hx hb dX4_number_52 rfl (lv_at hl 0 rfl) ?_
    refine va_get (D := (dC, dI)) (ci := 4) (v := .int 0) (C := RX4) (T := TX4) (N := 9) hx hb hts hinX4 hown hK hP 0 rfl rfl 0 (by decide) k_0 (fun _ h9 => h9) rfl dX4_number_53 ?_
    have e_0 : (pfX4_number_0_r p1) = 0 := by rw [pfX4_number_0_r, if_pos c_1]
    have hP9 := hP.sub (ws' := [(xs, .inr (4, [.int 0, .int 0, .int 0, .int 0, .int 0, .int 0, .int 0, .int 0, .int 0]))]) [0] rfl
    have hD9 := hD.sub (ws' := [(xs, .inr (4, [.int 0, .int 0, .int 0, .int 0, .int 0, .int 0, .int 0, .int 0, .int 0]))]) [0] (by decide) rfl
    exact W.iret (v := 0) hx hb hr (fun t ht hW => ⟨⟨0, (), rfl, e_0.symm, by rw [ht]; exact hP9, va_K.moved hW.alike hK, hD9⟩, hS.F ht⟩) hS.2.2 dX4_number_56
  by_cases c_2 : p1 = 1
  · refine lv_tableIn (off := 56) (tgt := 57) hx hb dX4_number_1 (by rw [c_2]; decide) (by rw [c_2]; decide) (by rw [c_2]; decide) (by decide) ?_
    refine lv_aload_n hx hb dX4_number_57 rfl (lv_at hl 0 rfl) ?_
    refine va_get (D := (dC, dI)) (ci := 4) (v := .int 0) (C := RX4) (T := TX4) (N := 9) hx hb hts hinX4 hown hK hP 0 rfl rfl 1 (by decide) k_1 (fun _ h9 => h9) rfl dX4_number_58 ?_
    have e_0 : (pfX4_number_0_r p1) = 0 := by rw [pfX4_number_0_r, if_neg c_1, if_pos c_2]
    have hP9 := hP.sub (ws' := [(xs, .inr (4, [.int 0, .int 0, .int 0, .int 0, .int 0, .int 0, .int 0, .int 0, .int 0]))]) [0] rfl
    have hD9 := hD.sub (ws' := [(xs, .inr (4, [.int 0, .int 0, .int 0, .int 0, .int 0, .int 0, .int 0, .int 0, .int 0]))]) [0] (by decide) rfl
    exact W.iret (v := 0) hx hb hr (fun t ht hW => ⟨⟨0, (), rfl, e_0.symm, by rw [ht]; exact hP9, va_K.moved hW.alike hK, hD9⟩, hS.F ht⟩) hS.2.2 dX4_number_61
  by_cases c_3 : p1 = 2
  · refine lv_tableIn (off := 61) (tgt := 62) hx hb dX4_number_1 (by rw [c_3]; decide) (by rw [c_3]; decide) (by rw [c_3]; decide) (by decide) ?_
    refine lv_aload_n hx hb dX4_number_62 rfl (lv_at hl 0 rfl) ?_
    refine va_get (D := (dC, dI)) (ci := 4) (v := .int 0) (C := RX4) (T := TX4) (N := 9) hx hb hts hinX4 hown hK hP 0 rfl rfl 2 (by decide) k_2 (fun _ h9 => h9) rfl dX4_number_63 ?_
    have e_0 : (pfX4_number_0_r p1) = 0 := by rw [pfX4_number_0_r, if_neg c_1, if_neg c_2, if_pos c_3]
    have hP9 := hP.sub (ws' := [(xs, .inr (4, [.int 0, .int 0, .int 0, .int 0, .int 0, .int 0, .int 0, .int 0, .int 0]))]) [0] rfl
    have hD9 := hD.sub (ws' := [(xs, .inr (4, [.int 0, .int 0, .int 0, .int 0, .int 0, .int 0, .int 0, .int 0, .int 0]))]) [0] (by decide) rfl
    exact W.iret (v := 0) hx hb hr (fun t ht hW => ⟨⟨0, (), rfl, e_0.symm, by rw [ht]; exact hP9, va_K.moved hW.alike hK, hD9⟩, hS.F ht⟩) hS.2.2 dX4_number_66
  by_cases c_4 : p1 = 3
  · refine lv_tableIn (off := 66) (tgt := 67) hx hb dX4_number_1 (by rw [c_4]; decide) (by rw [c_4]; decide) (by rw [c_4]; decide) (by decide) ?_
    refine lv_aload_n hx hb dX4_number_67 rfl (lv_at hl 0 rfl) ?_
    refine va_get (D := (dC, dI)) (ci := 4) (v := .int 0) (C := RX4) (T := TX4) (N := 9) hx hb hts hinX4 hown hK hP 0 rfl rfl 3 (by decide) k_3 (fun _ h9 => h9) rfl dX4_number_68 ?_
    have e_0 : (pfX4_number_0_r p1) = 0 := by rw [pfX4_number_0_r, if_neg c_1, if_neg c_2, if_neg c_3, if_pos c_4]
    have hP9 := hP.sub (ws' := [(xs, .inr (4, [.int 0, .int 0, .int 0, .int 0, .int 0, .int 0, .int 0, .int 0, .int 0]))]) [0] rfl
    have hD9 := hD.sub (ws' := [(xs, .inr (4, [.int 0, .int 0, .int 0, .int 0, .int 0, .int 0, .int 0, .int 0, .int 0]))]) [0] (by decide) rfl
    exact W.iret (v := 0) hx hb hr (fun t ht hW => ⟨⟨0, (), rfl, e_0.symm, by rw [ht]; exact hP9, va_K.moved hW.alike hK, hD9⟩, hS.F ht⟩) hS.2.2 dX4_number_71
  by_cases c_5 : p1 = 4
  · refine lv_tableIn (off := 71) (tgt := 72) hx hb dX4_number_1 (by rw [c_5]; decide) (by rw [c_5]; decide) (by rw [c_5]; decide) (by decide) ?_
    refine lv_aload_n hx hb dX4_number_72 rfl (lv_at hl 0 rfl) ?_
    refine va_get (D := (dC, dI)) (ci := 4) (v := .int 0) (C := RX4) (T := TX4) (N := 9) hx hb hts hinX4 hown hK hP 0 rfl rfl 4 (by decide) k_4 (fun _ h9 => h9) rfl dX4_number_73 ?_
    have e_0 : (pfX4_number_0_r p1) = 0 := by rw [pfX4_number_0_r, if_neg c_1, if_neg c_2, if_neg c_3, if_neg c_4, if_pos c_5]
    have hP9 := hP.sub (ws' := [(xs, .inr (4, [.int 0, .int 0, .int 0, .int 0, .int 0, .int 0, .int 0, .int 0, .int 0]))]) [0] rfl
    have hD9 := hD.sub (ws' := [(xs, .inr (4, [.int 0, .int 0, .int 0, .int 0, .int 0, .int 0, .int 0, .int 0, .int 0]))]) [0] (by decide) rfl
    exact W.iret (v := 0) hx hb hr (fun t ht hW => ⟨⟨0, (), rfl, e_0.symm, by rw [ht]; exact hP9, va_K.moved hW.alike hK, hD9⟩, hS.F ht⟩) hS.2.2 dX4_number_76
  by_cases c_6 : p1 = 5
  · refine lv_tableIn (off := 76) (tgt := 77) hx hb dX4_number_1 (by rw [c_6]; decide) (by rw [c_6]; decide) (by rw [c_6]; decide) (by decide) ?_
    refine lv_aload_n hx hb dX4_number_77 rfl (lv_at hl 0 rfl) ?_
    refine va_get (D := (dC, dI)) (ci := 4) (v := .int 0) (C := RX4) (T := TX4) (N := 9) hx hb hts hinX4 hown hK hP 0 rfl rfl 5 (by decide) k_5 (fun _ h9 => h9) rfl dX4_number_78 ?_
    have e_0 : (pfX4_number_0_r p1) = 0 := by rw [pfX4_number_0_r, if_neg c_1, if_neg c_2, if_neg c_3, if_neg c_4, if_neg c_5, if_pos c_6]
    have hP9 := hP.sub (ws' := [(xs, .inr (4, [.int 0, .int 0, .int 0, .int 0, .int 0, .int 0, .int 0, .int 0, .int 0]))]) [0] rfl
    have hD9 := hD.sub (ws' := [(xs, .inr (4, [.int 0, .int 0, .int 0, .int 0, .int 0, .int 0, .int 0, .int 0, .int 0]))]) [0] (by decide) rfl
    exact W.iret (v := 0) hx hb hr (fun t ht hW => ⟨⟨0, (), rfl, e_0.symm, by rw [ht]; exact hP9, va_K.moved hW.alike hK, hD9⟩, hS.F ht⟩) hS.2.2 dX4_number_81
  by_cases c_7 : p1 = 6
  · refine lv_tableIn (off := 81) (tgt := 82) hx hb dX4_number_1 (by rw [c_7]; decide) (by rw [c_7]; decide) (by rw [c_7]; decide) (by decide) ?_
    refine lv_aload_n hx hb dX4_number_82 rfl (lv_at hl 0 rfl) ?_
    refine va_get (D := (dC, dI)) (ci := 4) (v := .int 0) (C := RX4) (T := TX4) (N := 9) hx hb hts hinX4 hown hK hP 0 rfl rfl 6 (by decide) k_6 (fun _ h9 => h9) rfl dX4_number_83 ?_
    have e_0 : (pfX4_number_0_r p1) = 0 := by rw [pfX4_number_0_r, if_neg c_1, if_neg c_2, if_neg c_3, if_neg c_4, if_neg c_5, if_neg c_6, if_pos c_7]
    have hP9 := hP.sub (ws' := [(xs, .inr (4, [.int 0, .int 0, .int 0, .int 0, .int 0, .int 0, .int 0, .int 0, .int 0]))]) [0] rfl
    have hD9 := hD.sub (ws' := [(xs, .inr (4, [.int 0, .int 0, .int 0, .int 0, .int 0, .int 0, .int 0, .int 0, .int 0]))]) [0] (by decide) rfl
    exact W.iret (v := 0) hx hb hr (fun t ht hW => ⟨⟨0, (), rfl, e_0.symm, by rw [ht]; exact hP9, va_K.moved hW.alike hK, hD9⟩, hS.F ht⟩) hS.2.2 dX4_number_86
  by_cases c_8 : p1 = 7
  · refine lv_tableIn (off := 86) (tgt := 87) hx hb dX4_number_1 (by rw [c_8]; decide) (by rw [c_8]; decide) (by rw [c_8]; decide) (by decide) ?_
    refine lv_aload_n hx hb dX4_number_87 rfl (lv_at hl 0 rfl) ?_
    refine va_get (D := (dC, dI)) (ci := 4) (v := .int 0) (C := RX4) (T := TX4) (N := 9) hx hb hts hinX4 hown hK hP 0 rfl rfl 7 (by decide) k_7 (fun _ h9 => h9) rfl dX4_number_88 ?_
    have e_0 : (pfX4_number_0_r p1) = 0 := by rw [pfX4_number_0_r, if_neg c_1, if_neg c_2, if_neg c_3, if_neg c_4, if_neg c_5, if_neg c_6, if_neg c_7, if_pos c_8]
    have hP9 := hP.sub (ws' := [(xs, .inr (4, [.int 0, .int 0, .int 0, .int 0, .int 0, .int 0, .int 0, .int 0, .int 0]))]) [0] rfl
    have hD9 := hD.sub (ws' := [(xs, .inr (4, [.int 0, .int 0, .int 0, .int 0, .int 0, .int 0, .int 0, .int 0, .int 0]))]) [0] (by decide) rfl
    exact W.iret (v := 0) hx hb hr (fun t ht hW => ⟨⟨0, (), rfl, e_0.symm, by rw [ht]; exact hP9, va_K.moved hW.alike hK, hD9⟩, hS.F ht⟩) hS.2.2 dX4_number_91
  by_cases c_9 : p1 = 8
  · refine lv_tableIn (off := 91) (tgt := 92) hx hb dX4_number_1 (by rw [c_9]; decide) (by rw [c_9]; decide) (by rw [c_9]; decide) (by decide) ?_
    refine lv_aload_n hx hb dX4_number_92 rfl (lv_at hl 0 rfl) ?_
    refine va_get (D := (dC, dI)) (ci := 4) (v := .int 0) (C := RX4) (T := TX4) (N := 9) hx hb hts hinX4 hown hK hP 0 rfl rfl 8 (by decide) k_8 (fun _ h9 => h9) rfl dX4_number_93 ?_
    have e_0 : (pfX4_number_0_r p1) = 0 := by rw [pfX4_number_0_r, if_neg c_1, if_neg c_2, if_neg c_3, if_neg c_4, if_neg c_5, if_neg c_6, if_neg c_7, if_neg c_8, if_pos c_9]
    have hP9 := hP.sub (ws' := [(xs, .inr (4, [.int 0, .int 0, .int 0, .int 0, .int 0, .int 0, .int 0, .int 0, .int 0]))]) [0] rfl
    have hD9 := hD.sub (ws' := [(xs, .inr (4, [.int 0, .int 0, .int 0, .int 0, .int 0, .int 0, .int 0, .int 0, .int 0]))]) [0] (by decide) rfl
    exact W.iret (v := 0) hx hb hr (fun t ht hW => ⟨⟨0, (), rfl, e_0.symm, by rw [ht]; exact hP9, va_K.moved hW.alike hK, hD9⟩, hS.F ht⟩) hS.2.2 dX4_number_96
  have hout : p1.toInt < 0 ∨ 8 < p1.toInt := by
    have := lv_neT (a := 0) c_1 (by decide)
    have := lv_neT (a := 1) c_2 (by decide)
    have := lv_neT (a := 2) c_3 (by decide)
    have := lv_neT (a := 3) c_4 (by decide)
    have := lv_neT (a := 4) c_5 (by decide)
    have := lv_neT (a := 5) c_6 (by decide)
    have := lv_neT (a := 6) c_7 (by decide)
    have := lv_neT (a := 7) c_8 (by decide)
    have := lv_neT (a := 8) c_9 (by decide)
    omega
  refine lv_tableOut (tgt := 97) hx hb dX4_number_1 hout (by decide) ?_
  refine lv_iconst (v := (-1)) hx hb dX4_number_97 (by decide) ?_
  have e_0 : (pfX4_number_0_r p1) = (-1) := by rw [pfX4_number_0_r, if_neg c_1, if_neg c_2, if_neg c_3, if_neg c_4, if_neg c_5, if_neg c_6, if_neg c_7, if_neg c_8, if_neg c_9]
  have hP9 := hP.sub (ws' := [(xs, .inr (4, [.int 0, .int 0, .int 0, .int 0, .int 0, .int 0, .int 0, .int 0, .int 0]))]) [0] rfl
  have hD9 := hD.sub (ws' := [(xs, .inr (4, [.int 0, .int 0, .int 0, .int 0, .int 0, .int 0, .int 0, .int 0, .int 0]))]) [0] (by decide) rfl
  exact W.iret (v := (-1)) hx hb hr (fun t ht hW => ⟨⟨(-1), (), rfl, e_0.symm, by rw [ht]; exact hP9, va_K.moved hW.alike hK, hD9⟩, hS.F ht⟩) hS.2.2 dX4_number_98

def pfX7_played_r (p1 : Int32) : Int32 := if p1 = 9 then 0 else (pfX4_number_0_r p1)
set_option maxHeartbeats 4000000 in
set_option maxRecDepth 100000 in
theorem kkX7_played (l : Launch) (dC : Nat → ClassId) (dI : Nat → Nat → Nat) (cI cB cZ cR : ClassId) (sz : Nat) (x : Nat) (xt : Nat) (xd : Nat) (h : Nat) (xk : Nat) (xl : Nat) (xw : Nat) (xp : Nat) (xs : Nat) (xr : Nat) (g0 : Nat) (g1 : Nat) (g2 : Nat) (p1 : Int32) : Met l yX7_played (.code yX7_played cX7_played 2 (some .int) :: wsL_law) ({ frames := 2, cells := 0, slots := 0, locals := 43 }) (zPc dC dI (zT cI cB cZ cR) [.ref x, .int p1] sz [(x, .inr (7, [.ref xt, .ref xd, .ref h, .ref xk, .ref xl, .ref xw, .ref xp, .ref xs, .ref xr, .int 0, .int (-1), .int 0, .null])), (xp, .inr (1, [.ref g0, .ref g1, .ref g2, .int 0, .int 0])), (xs, .inr (4, [.int 0, .int 0, .int 0, .int 0, .int 0, .int 0, .int 0, .int 0, .int 0]))]) (va_Qi (fun (r : Int32) (_ : Unit) => r = (pfX7_played_r p1)) (fun _ : Unit => zB dC dI (zT cI cB cZ cR) (va_A [(x, .inr (7, [.ref xt, .ref xd, .ref h, .ref xk, .ref xl, .ref xw, .ref xp, .ref xs, .ref xr, .int 0, .int (-1), .int 0, .null])), (xp, .inr (1, [.ref g0, .ref g1, .ref g2, .int 0, .int 0])), (xs, .inr (4, [.int 0, .int 0, .int 0, .int 0, .int 0, .int 0, .int 0, .int 0, .int 0]))] sz) [(x, .inr (7, [.ref xt, .ref xd, .ref h, .ref xk, .ref xl, .ref xw, .ref xp, .ref xs, .ref xr, .int 0, .int (-1), .int 0, .null])), (xp, .inr (1, [.ref g0, .ref g1, .ref g2, .int 0, .int 0])), (xs, .inr (4, [.int 0, .int 0, .int 0, .int 0, .int 0, .int 0, .int 0, .int 0, .int 0]))]) (va_A [(x, .inr (7, [.ref xt, .ref xd, .ref h, .ref xk, .ref xl, .ref xw, .ref xp, .ref xs, .ref xr, .int 0, .int (-1), .int 0, .null])), (xp, .inr (1, [.ref g0, .ref g1, .ref g2, .int 0, .int 0])), (xs, .inr (4, [.int 0, .int 0, .int 0, .int 0, .int 0, .int 0, .int 0, .int 0, .int 0]))] sz)) 0 0 (va_A [(x, .inr (7, [.ref xt, .ref xd, .ref h, .ref xk, .ref xl, .ref xw, .ref xp, .ref xs, .ref xr, .int 0, .int (-1), .int 0, .null])), (xp, .inr (1, [.ref g0, .ref g1, .ref g2, .int 0, .int 0])), (xs, .inr (4, [.int 0, .int 0, .int 0, .int 0, .int 0, .int 0, .int 0, .int 0, .int 0]))] sz) := by
  refine Met.ofW (cc := cX7_played) (maxL := 2) (ret := (some .int)) (by decide) rfl ?_
  intro p e s m args below meth c s₁ B hml hv
  obtain ⟨rfl, hsz, hP, hK, hD0, hN⟩ := hv
  have hx := B.exec
  have hb := B.bytes
  have hr := B.returns
  have hts := atoms_spec (ws := (.code yX7_played cX7_played 2 (some .int) :: wsL_law)) B.pre
  have hown : s.vm.findClass RX7 = some m.cls := findClass_of_methodNamed B.named
  have hlocks := B.notSynchronized
  have hinX7 : ∀ w ∈ u_ws RX7 TX7 13, w ∈ (.code yX7_played cX7_played 2 (some .int) :: wsL_law) := fun w h => List.mem_cons_of_mem _ (inlX7 w h)
  have k_0 := hts (.fieldLink RX7 54 "RingMarks" "stand" "LRingMarks$State;") (List.mem_cons_of_mem _ wm_37)
  have k_1 := hts (.fieldLink RX7 47 "RingMarks" "programs" "LRingMarks$Programs;") (List.mem_cons_of_mem _ wm_33)
  subst hsz
  have hD := hD0.self (sz := s.heap.size)
  generalize hAe : va_A [(x, .inr (7, [.ref xt, .ref xd, .ref h, .ref xk, .ref xl, .ref xw, .ref xp, .ref xs, .ref xr, .int 0, .int (-1), .int 0, .null])), (xp, .inr (1, [.ref g0, .ref g1, .ref g2, .int 0, .int 0])), (xs, .inr (4, [.int 0, .int 0, .int 0, .int 0, .int 0, .int 0, .int 0, .int 0, .int 0]))] s.heap.size = A at hD ⊢
  have hA : ∀ q : Nat, s.heap.size ≤ q → A q := fun q h => by rw [← hAe]; exact Or.inr h
  have hP : va_P (dC, dI) vwCl [(x, .inr (7, [.ref xt, .ref xd, .ref h, .ref xk, .ref xl, .ref xw, .ref xp, .ref xs, .ref xr, .int 0, .int (-1), .int 0, .null])), (xp, .inr (1, [.ref g0, .ref g1, .ref g2, .int 0, .int 0])), (xs, .inr (4, [.int 0, .int 0, .int 0, .int 0, .int 0, .int 0, .int 0, .int 0, .int 0]))] s.heap := hP
  have hl := lv_entry ([.ref x, .int p1]) (n := 2) (Nat.le_of_ble_eq_true rfl)
  rw [lg_entry_eq]
  generalize (lg_sl ([.ref x, .int p1]) ++ List.replicate (2 - (lg_sl ([.ref x, .int p1])).length) Slot.unset).toArray = ls at hl ⊢
  have hl : lv_has ls 2 [(0, .ref x), (1, .int p1)] := hl
  obtain ⟨H, hH⟩ : ∃ H, H = s.heap := ⟨_, rfl⟩
  rw [← hH] at hP ⊢
  have hS : va_S A s.heap H [] := by rw [hH]; exact va_S.rf
  refine lv_iload_n hx hb dX7_played_0 rfl (lv_at hl 1 rfl) ?_
  refine lv_bipush (v := 9) hx hb dX7_played_1 (by decide) ?_
  refine lv_icmp_ne (tgt := 28) hx hb dX7_played_3 (by decide) (fun c_1 => ?_) (fun c_1 => ?_)
  · refine lv_aload_n hx hb dX7_played_28 rfl (lv_at hl 0 rfl) ?_
    refine va_get (D := (dC, dI)) (ci := 7) (v := .ref xs) (C := RX7) (T := TX7) (N := 13) hx hb hts hinX7 hown hK hP 0 rfl rfl 7 (by decide) k_0 (fun _ h9 => h9) rfl dX7_played_29 ?_
    refine lv_iload_n hx hb dX7_played_32 rfl (lv_at hl 1 rfl) ?_
    refine zcVi (As := [.int p1]) (rest := []) (wr := [(x, .inr (7, [.ref xt, .ref xd, .ref h, .ref xk, .ref xl, .ref xw, .ref xp, .ref xs, .ref xr, .int 0, .int (-1), .int 0, .null])), (xp, .inr (1, [.ref g0, .ref g1, .ref g2, .int 0, .int 0]))]) ⟨hx, hb, hml, hown, hts⟩ (kkX4_number_0 l dC dI cI cB cZ cR H.size xs p1 ) (cwV 1 hts (zgV wm_1151 wm_1152 wm_1153 wm_36 wm_1154) rfl rfl rfl (by decide +kernel) ⟨Nat.le_of_ble_eq_true rfl, Nat.le_of_ble_eq_true rfl⟩) hN hK hP hD hS hA [2] [0, 1] rfl rfl ⟨rfl, rfl⟩ (by decide) (ci := 4) rfl rfl rfl rfl hl.1 rfl (Nat.le_of_ble_eq_true rfl) dX7_played_33 ⟨Nat.le_of_ble_eq_true rfl, Nat.le_of_ble_eq_true rfl⟩ (fun r u hu H locs hP hD hS => ?_)
    have hu : r = (pfX4_number_0_r p1) := hu
    subst hu
    have hP : va_P (dC, dI) vwCl [(x, .inr (7, [.ref xt, .ref xd, .ref h, .ref xk, .ref xl, .ref xw, .ref xp, .ref xs, .ref xr, .int 0, .int (-1), .int 0, .null])), (xp, .inr (1, [.ref g0, .ref g1, .ref g2, .int 0, .int 0])), (xs, .inr (4, [.int 0, .int 0, .int 0, .int 0, .int 0, .int 0, .int 0, .int 0, .int 0]))] H := hP
    have hD : va_D A [(x, .inr (7, [.ref xt, .ref xd, .ref h, .ref xk, .ref xl, .ref xw, .ref xp, .ref xs, .ref xr, .int 0, .int (-1), .int 0, .null])), (xp, .inr (1, [.ref g0, .ref g1, .ref g2, .int 0, .int 0])), (xs, .inr (4, [.int 0, .int 0, .int 0, .int 0, .int 0, .int 0, .int 0, .int 0, .int 0]))] := hD
    have e_0 : (pfX7_played_r p1) = (pfX4_number_0_r p1) := by rw [pfX7_played_r, if_neg c_1]
    have hP9 := hP.sub (ws' := [(x, .inr (7, [.ref xt, .ref xd, .ref h, .ref xk, .ref xl, .ref xw, .ref xp, .ref xs, .ref xr, .int 0, .int (-1), .int 0, .null])), (xp, .inr (1, [.ref g0, .ref g1, .ref g2, .int 0, .int 0])), (xs, .inr (4, [.int 0, .int 0, .int 0, .int 0, .int 0, .int 0, .int 0, .int 0, .int 0]))]) [0, 1, 2] rfl
    have hD9 := hD.sub (ws' := [(x, .inr (7, [.ref xt, .ref xd, .ref h, .ref xk, .ref xl, .ref xw, .ref xp, .ref xs, .ref xr, .int 0, .int (-1), .int 0, .null])), (xp, .inr (1, [.ref g0, .ref g1, .ref g2, .int 0, .int 0])), (xs, .inr (4, [.int 0, .int 0, .int 0, .int 0, .int 0, .int 0, .int 0, .int 0, .int 0]))]) [0, 1, 2] (by decide) rfl
    exact W.iret (v := (pfX4_number_0_r p1)) hx hb hr (fun t ht hW => ⟨⟨(pfX4_number_0_r p1), (), rfl, e_0.symm, by rw [ht]; exact hP9, va_K.moved hW.alike hK, hD9⟩, hS.F ht⟩) hS.2.2 dX7_played_36
  · refine lv_aload_n hx hb dX7_played_6 rfl (lv_at hl 0 rfl) ?_
    refine va_get (D := (dC, dI)) (ci := 7) (v := .ref xp) (C := RX7) (T := TX7) (N := 13) hx hb hts hinX7 hown hK hP 0 rfl rfl 6 (by decide) k_1 (fun _ h9 => h9) rfl dX7_played_7 ?_
    refine lv_aload_n hx hb dX7_played_10 rfl (lv_at hl 0 rfl) ?_
    refine va_get (D := (dC, dI)) (ci := 7) (v := .ref xs) (C := RX7) (T := TX7) (N := 13) hx hb hts hinX7 hown hK hP 0 rfl rfl 7 (by decide) k_0 (fun _ h9 => h9) rfl dX7_played_11 ?_
    refine zcVi (As := [.ref xs]) (rest := []) (wr := [(x, .inr (7, [.ref xt, .ref xd, .ref h, .ref xk, .ref xl, .ref xw, .ref xp, .ref xs, .ref xr, .int 0, .int (-1), .int 0, .null]))]) ⟨hx, hb, hml, hown, hts⟩ (kkX1_isMissed_0 l dC dI cI cB cZ cR H.size xp g0 g1 g2 xs ) (cwV 1 hts (zgV wm_1150 wm_1009 wm_1010 wm_32 wm_1011) rfl rfl rfl (by decide +kernel) ⟨Nat.le_of_ble_eq_true rfl, Nat.le_of_ble_eq_true rfl⟩) hN hK hP hD hS hA [1, 2] [0] rfl rfl ⟨rfl, rfl⟩ (by decide) (ci := 1) rfl rfl rfl rfl hl.1 rfl (Nat.le_of_ble_eq_true rfl) dX7_played_14 ⟨Nat.le_of_ble_eq_true rfl, Nat.le_of_ble_eq_true rfl⟩ (fun r u hu H locs hP hD hS => ?_)
    have hu : r = 0 := hu
    subst hu
    have hP : va_P (dC, dI) vwCl [(x, .inr (7, [.ref xt, .ref xd, .ref h, .ref xk, .ref xl, .ref xw, .ref xp, .ref xs, .ref xr, .int 0, .int (-1), .int 0, .null])), (xp, .inr (1, [.ref g0, .ref g1, .ref g2, .int 0, .int 0])), (xs, .inr (4, [.int 0, .int 0, .int 0, .int 0, .int 0, .int 0, .int 0, .int 0, .int 0]))] H := hP
    have hD : va_D A [(x, .inr (7, [.ref xt, .ref xd, .ref h, .ref xk, .ref xl, .ref xw, .ref xp, .ref xs, .ref xr, .int 0, .int (-1), .int 0, .null])), (xp, .inr (1, [.ref g0, .ref g1, .ref g2, .int 0, .int 0])), (xs, .inr (4, [.int 0, .int 0, .int 0, .int 0, .int 0, .int 0, .int 0, .int 0, .int 0]))] := hD
    refine lv_if_eq (tgt := 24) hx hb dX7_played_17 (by decide) (fun _ => ?_) (fun c => absurd (by decide) c)
    refine lv_iconst (v := 0) hx hb dX7_played_24 (by decide) ?_
    refine lv_goto (tgt := 36) hx hb dX7_played_25 (by decide) ?_
    have e_0 : (pfX7_played_r p1) = 0 := by rw [pfX7_played_r, if_pos c_1]
    have hP9 := hP.sub (ws' := [(x, .inr (7, [.ref xt, .ref xd, .ref h, .ref xk, .ref xl, .ref xw, .ref xp, .ref xs, .ref xr, .int 0, .int (-1), .int 0, .null])), (xp, .inr (1, [.ref g0, .ref g1, .ref g2, .int 0, .int 0])), (xs, .inr (4, [.int 0, .int 0, .int 0, .int 0, .int 0, .int 0, .int 0, .int 0, .int 0]))]) [0, 1, 2] rfl
    have hD9 := hD.sub (ws' := [(x, .inr (7, [.ref xt, .ref xd, .ref h, .ref xk, .ref xl, .ref xw, .ref xp, .ref xs, .ref xr, .int 0, .int (-1), .int 0, .null])), (xp, .inr (1, [.ref g0, .ref g1, .ref g2, .int 0, .int 0])), (xs, .inr (4, [.int 0, .int 0, .int 0, .int 0, .int 0, .int 0, .int 0, .int 0, .int 0]))]) [0, 1, 2] (by decide) rfl
    exact W.iret (v := 0) hx hb hr (fun t ht hW => ⟨⟨0, (), rfl, e_0.symm, by rw [ht]; exact hP9, va_K.moved hW.alike hK, hD9⟩, hS.F ht⟩) hS.2.2 dX7_played_36

set_option maxHeartbeats 4000000 in
set_option maxRecDepth 100000 in
theorem kkX7_play (l : Launch) (dC : Nat → ClassId) (dI : Nat → Nat → Nat) (cI cB cZ cR : ClassId) (sz : Nat) (x : Nat) (xt : Nat) (xd : Nat) (h : Nat) (xk : Nat) (xl : Nat) (xw : Nat) (xp : Nat) (xs : Nat) (xr : Nat) (b0 : Nat) : Met l yX7_play (.code yX7_play cX7_play 2 (some .int) :: wsL_law) ({ frames := 2, cells := 0, slots := 0, locals := 41 }) (zPc dC dI (zT cI cB cZ cR) [.ref x] sz [(x, .inr (7, [.ref xt, .ref xd, .ref h, .ref xk, .ref xl, .ref xw, .ref xp, .ref xs, .ref xr, .int 0, .int (-1), .int 0, .null])), (xs, .inr (4, [.int 0, .int 0, .int 0, .int 0, .int 0, .int 0, .int 0, .int 0, .int 0])), (xt, .inr (5, [.ref b0, .int 0, .int 0]))]) (va_Qi (fun (r : Int32) (_ : Unit) => r = 0) (fun _ : Unit => zB dC dI (zT cI cB cZ cR) (va_A [(x, .inr (7, [.ref xt, .ref xd, .ref h, .ref xk, .ref xl, .ref xw, .ref xp, .ref xs, .ref xr, .int 0, .int (-1), .int 0, .null])), (xs, .inr (4, [.int 0, .int 0, .int 0, .int 0, .int 0, .int 0, .int 0, .int 0, .int 0])), (xt, .inr (5, [.ref b0, .int 0, .int 0]))] sz) [(x, .inr (7, [.ref xt, .ref xd, .ref h, .ref xk, .ref xl, .ref xw, .ref xp, .ref xs, .ref xr, .int 0, .int (-1), .int 0, .null])), (xs, .inr (4, [.int 0, .int 0, .int 0, .int 0, .int 0, .int 0, .int 0, .int 0, .int 0])), (xt, .inr (5, [.ref b0, .int 0, .int 0]))]) (va_A [(x, .inr (7, [.ref xt, .ref xd, .ref h, .ref xk, .ref xl, .ref xw, .ref xp, .ref xs, .ref xr, .int 0, .int (-1), .int 0, .null])), (xs, .inr (4, [.int 0, .int 0, .int 0, .int 0, .int 0, .int 0, .int 0, .int 0, .int 0])), (xt, .inr (5, [.ref b0, .int 0, .int 0]))] sz)) 0 0 (va_A [(x, .inr (7, [.ref xt, .ref xd, .ref h, .ref xk, .ref xl, .ref xw, .ref xp, .ref xs, .ref xr, .int 0, .int (-1), .int 0, .null])), (xs, .inr (4, [.int 0, .int 0, .int 0, .int 0, .int 0, .int 0, .int 0, .int 0, .int 0])), (xt, .inr (5, [.ref b0, .int 0, .int 0]))] sz) := by
  refine Met.ofW (cc := cX7_play) (maxL := 2) (ret := (some .int)) (by decide) rfl ?_
  intro p e s m args below meth c s₁ B hml hv
  obtain ⟨rfl, hsz, hP, hK, hD0, hN⟩ := hv
  have hx := B.exec
  have hb := B.bytes
  have hr := B.returns
  have hts := atoms_spec (ws := (.code yX7_play cX7_play 2 (some .int) :: wsL_law)) B.pre
  have hown : s.vm.findClass RX7 = some m.cls := findClass_of_methodNamed B.named
  have hlocks := B.notSynchronized
  have hinX7 : ∀ w ∈ u_ws RX7 TX7 13, w ∈ (.code yX7_play cX7_play 2 (some .int) :: wsL_law) := fun w h => List.mem_cons_of_mem _ (inlX7 w h)
  have hinX5 : ∀ w ∈ u_ws RX5 TX5 3, w ∈ (.code yX7_play cX7_play 2 (some .int) :: wsL_law) := fun w h => List.mem_cons_of_mem _ (inlX5 w h)
  have k_0 := hts (.fieldLink RX7 54 "RingMarks" "stand" "LRingMarks$State;") (List.mem_cons_of_mem _ wm_37)
  have k_1 := hts (.fieldLink RX7 10 "RingMarks" "tape" "LRingMarks$Tape;") (List.mem_cons_of_mem _ wm_15)
  have k_2 := hts (.fieldLink RX7 84 "RingMarks$Tape" "size" "I") (List.mem_cons_of_mem _ wm_156)
  subst hsz
  have hD := hD0.self (sz := s.heap.size)
  generalize hAe : va_A [(x, .inr (7, [.ref xt, .ref xd, .ref h, .ref xk, .ref xl, .ref xw, .ref xp, .ref xs, .ref xr, .int 0, .int (-1), .int 0, .null])), (xs, .inr (4, [.int 0, .int 0, .int 0, .int 0, .int 0, .int 0, .int 0, .int 0, .int 0])), (xt, .inr (5, [.ref b0, .int 0, .int 0]))] s.heap.size = A at hD ⊢
  have hA : ∀ q : Nat, s.heap.size ≤ q → A q := fun q h => by rw [← hAe]; exact Or.inr h
  have hP : va_P (dC, dI) vwCl [(x, .inr (7, [.ref xt, .ref xd, .ref h, .ref xk, .ref xl, .ref xw, .ref xp, .ref xs, .ref xr, .int 0, .int (-1), .int 0, .null])), (xs, .inr (4, [.int 0, .int 0, .int 0, .int 0, .int 0, .int 0, .int 0, .int 0, .int 0])), (xt, .inr (5, [.ref b0, .int 0, .int 0]))] s.heap := hP
  have hl := lv_entry ([.ref x]) (n := 2) (Nat.le_of_ble_eq_true rfl)
  rw [lg_entry_eq]
  generalize (lg_sl ([.ref x]) ++ List.replicate (2 - (lg_sl ([.ref x])).length) Slot.unset).toArray = ls at hl ⊢
  have hl : lv_has ls 2 [(0, .ref x)] := hl
  obtain ⟨H, hH⟩ : ∃ H, H = s.heap := ⟨_, rfl⟩
  rw [← hH] at hP ⊢
  have hS : va_S A s.heap H [] := by rw [hH]; exact va_S.rf
  refine lv_aload_n hx hb dX7_play_0 rfl (lv_at hl 0 rfl) ?_
  refine va_get (D := (dC, dI)) (ci := 7) (v := .ref xs) (C := RX7) (T := TX7) (N := 13) hx hb hts hinX7 hown hK hP 0 rfl rfl 7 (by decide) k_0 (fun _ h9 => h9) rfl dX7_play_1 ?_
  refine zcVv (As := []) (rest := []) (wr := [(x, .inr (7, [.ref xt, .ref xd, .ref h, .ref xk, .ref xl, .ref xw, .ref xp, .ref xs, .ref xr, .int 0, .int (-1), .int 0, .null])), (xt, .inr (5, [.ref b0, .int 0, .int 0]))]) ⟨hx, hb, hml, hown, hts⟩ (kkX4_clear_0 l dC dI cI cB cZ cR H.size xs ) (cwV 0 hts (zgV wm_921 wm_922 wm_923 wm_36 wm_924) rfl rfl rfl (by decide +kernel) ⟨Nat.le_of_ble_eq_true rfl, Nat.le_of_ble_eq_true rfl⟩) hN hK hP hD hS hA [1] [0, 2] rfl rfl ⟨rfl, rfl⟩ (by decide) (ci := 4) rfl rfl rfl rfl hl.1 rfl (Nat.le_of_ble_eq_true rfl) dX7_play_4 ⟨Nat.le_of_ble_eq_true rfl, Nat.le_of_ble_eq_true rfl⟩ (fun u hu H locs hP hD hS => ?_)
  have hP : va_P (dC, dI) vwCl [(x, .inr (7, [.ref xt, .ref xd, .ref h, .ref xk, .ref xl, .ref xw, .ref xp, .ref xs, .ref xr, .int 0, .int (-1), .int 0, .null])), (xt, .inr (5, [.ref b0, .int 0, .int 0])), (xs, .inr (4, [.int 0, .int 0, .int 0, .int 0, .int 0, .int 0, .int 0, .int 0, .int 0]))] H := hP
  have hD : va_D A [(x, .inr (7, [.ref xt, .ref xd, .ref h, .ref xk, .ref xl, .ref xw, .ref xp, .ref xs, .ref xr, .int 0, .int (-1), .int 0, .null])), (xt, .inr (5, [.ref b0, .int 0, .int 0])), (xs, .inr (4, [.int 0, .int 0, .int 0, .int 0, .int 0, .int 0, .int 0, .int 0, .int 0]))] := hD
  refine lv_iconst (v := 0) hx hb dX7_play_7 (by decide) ?_
  refine lv_istore_n (lv' := [(1, .int 0), (0, .ref x)]) hx hb dX7_play_8 rfl hl (by decide) rfl (fun ls hl => ?_)
  refine lv_iload_n hx hb dX7_play_9 rfl (lv_at hl 0 rfl) ?_
  refine lv_aload_n hx hb dX7_play_10 rfl (lv_at hl 1 rfl) ?_
  refine va_get (D := (dC, dI)) (ci := 7) (v := .ref xt) (C := RX7) (T := TX7) (N := 13) hx hb hts hinX7 hown hK hP 0 rfl rfl 0 (by decide) k_1 (fun _ h9 => h9) rfl dX7_play_11 ?_
  refine va_get (D := (dC, dI)) (ci := 5) (v := .int 0) (C := RX5) (T := TX5) (N := 3) hx hb hts hinX5 hown hK hP 1 rfl rfl 1 (by decide) k_2 (fun _ h9 => h9) rfl dX7_play_14 ?_
  refine lv_icmp_ge (tgt := 48) hx hb dX7_play_17 (by decide) (fun _ => ?_) (fun c => absurd (by decide) c)
  refine lv_aload_n hx hb dX7_play_48 rfl (lv_at hl 1 rfl) ?_
  refine va_get (D := (dC, dI)) (ci := 7) (v := .ref xt) (C := RX7) (T := TX7) (N := 13) hx hb hts hinX7 hown hK hP 0 rfl rfl 0 (by decide) k_1 (fun _ h9 => h9) rfl dX7_play_49 ?_
  refine lv_iconst (v := 0) hx hb dX7_play_52 (by decide) ?_
  refine va_put (D := (dC, dI)) (ci := 5) (v := .int 0) (ty := tyX5 1) (C := RX5) (T := TX5) (N := 3) hx hb hts hinX5 tyX5 tyX5_ok nmX5 hown hK hP hD hS 1 rfl rfl 1 (by decide) k_2 (fun _ h9 => h9) rfl (by decide +kernel) rfl rfl (Nat.le_of_ble_eq_true rfl) dX7_play_53 (fun H locs hP hD hS => ?_)
  have hP : va_P (dC, dI) vwCl [(x, .inr (7, [.ref xt, .ref xd, .ref h, .ref xk, .ref xl, .ref xw, .ref xp, .ref xs, .ref xr, .int 0, .int (-1), .int 0, .null])), (xt, .inr (5, [.ref b0, .int 0, .int 0])), (xs, .inr (4, [.int 0, .int 0, .int 0, .int 0, .int 0, .int 0, .int 0, .int 0, .int 0]))] H := hP
  have hD : va_D A [(x, .inr (7, [.ref xt, .ref xd, .ref h, .ref xk, .ref xl, .ref xw, .ref xp, .ref xs, .ref xr, .int 0, .int (-1), .int 0, .null])), (xt, .inr (5, [.ref b0, .int 0, .int 0])), (xs, .inr (4, [.int 0, .int 0, .int 0, .int 0, .int 0, .int 0, .int 0, .int 0, .int 0]))] := hD
  refine lv_iload_n hx hb dX7_play_56 rfl (lv_at hl 0 rfl) ?_
  have hP9 := hP.sub (ws' := [(x, .inr (7, [.ref xt, .ref xd, .ref h, .ref xk, .ref xl, .ref xw, .ref xp, .ref xs, .ref xr, .int 0, .int (-1), .int 0, .null])), (xs, .inr (4, [.int 0, .int 0, .int 0, .int 0, .int 0, .int 0, .int 0, .int 0, .int 0])), (xt, .inr (5, [.ref b0, .int 0, .int 0]))]) [0, 2, 1] rfl
  have hD9 := hD.sub (ws' := [(x, .inr (7, [.ref xt, .ref xd, .ref h, .ref xk, .ref xl, .ref xw, .ref xp, .ref xs, .ref xr, .int 0, .int (-1), .int 0, .null])), (xs, .inr (4, [.int 0, .int 0, .int 0, .int 0, .int 0, .int 0, .int 0, .int 0, .int 0])), (xt, .inr (5, [.ref b0, .int 0, .int 0]))]) [0, 2, 1] (by decide) rfl
  exact W.iret (v := 0) hx hb hr (fun t ht hW => ⟨⟨0, (), rfl, rfl, by rw [ht]; exact hP9, va_K.moved hW.alike hK, hD9⟩, hS.F ht⟩) hS.2.2 dX7_play_57

set_option maxHeartbeats 4000000 in
set_option maxRecDepth 100000 in
theorem kkX7_missedBy (l : Launch) (dC : Nat → ClassId) (dI : Nat → Nat → Nat) (cI cB cZ cR : ClassId) (sz : Nat) (x : Nat) (xt : Nat) (xd : Nat) (h : Nat) (xk : Nat) (xl : Nat) (xw : Nat) (xp : Nat) (xs : Nat) (xr : Nat) (p1 : Int32) : Met l yX7_missedBy (.code yX7_missedBy cX7_missedBy 2 (some .int) :: wsL_law) ({ frames := 0, cells := 0, slots := 0, locals := 0 }) (zPc dC dI (zT cI cB cZ cR) [.ref x, .int p1] sz [(x, .inr (7, [.ref xt, .ref xd, .ref h, .ref xk, .ref xl, .ref xw, .ref xp, .ref xs, .ref xr, .int 0, .int (-1), .int 0, .null]))]) (va_Qi (fun (r : Int32) (_ : Unit) => r = (-1)) (fun _ : Unit => zB dC dI (zT cI cB cZ cR) (va_A [(x, .inr (7, [.ref xt, .ref xd, .ref h, .ref xk, .ref xl, .ref xw, .ref xp, .ref xs, .ref xr, .int 0, .int (-1), .int 0, .null]))] sz) [(x, .inr (7, [.ref xt, .ref xd, .ref h, .ref xk, .ref xl, .ref xw, .ref xp, .ref xs, .ref xr, .int 0, .int (-1), .int 0, .null]))]) (va_A [(x, .inr (7, [.ref xt, .ref xd, .ref h, .ref xk, .ref xl, .ref xw, .ref xp, .ref xs, .ref xr, .int 0, .int (-1), .int 0, .null]))] sz)) 0 0 (va_A [(x, .inr (7, [.ref xt, .ref xd, .ref h, .ref xk, .ref xl, .ref xw, .ref xp, .ref xs, .ref xr, .int 0, .int (-1), .int 0, .null]))] sz) := by
  refine Met.ofW (cc := cX7_missedBy) (maxL := 2) (ret := (some .int)) (by decide) rfl ?_
  intro p e s m args below meth c s₁ B hml hv
  obtain ⟨rfl, hsz, hP, hK, hD0, hN⟩ := hv
  have hx := B.exec
  have hb := B.bytes
  have hr := B.returns
  have hts := atoms_spec (ws := (.code yX7_missedBy cX7_missedBy 2 (some .int) :: wsL_law)) B.pre
  have hown : s.vm.findClass RX7 = some m.cls := findClass_of_methodNamed B.named
  have hlocks := B.notSynchronized
  have hinX7 : ∀ w ∈ u_ws RX7 TX7 13, w ∈ (.code yX7_missedBy cX7_missedBy 2 (some .int) :: wsL_law) := fun w h => List.mem_cons_of_mem _ (inlX7 w h)
  have k_0 := hts (.fieldLink RX7 72 "RingMarks" "search" "LRingMarks$Search;") (List.mem_cons_of_mem _ wm_43)
  subst hsz
  have hD := hD0.self (sz := s.heap.size)
  generalize hAe : va_A [(x, .inr (7, [.ref xt, .ref xd, .ref h, .ref xk, .ref xl, .ref xw, .ref xp, .ref xs, .ref xr, .int 0, .int (-1), .int 0, .null]))] s.heap.size = A at hD ⊢
  have hA : ∀ q : Nat, s.heap.size ≤ q → A q := fun q h => by rw [← hAe]; exact Or.inr h
  have hP : va_P (dC, dI) vwCl [(x, .inr (7, [.ref xt, .ref xd, .ref h, .ref xk, .ref xl, .ref xw, .ref xp, .ref xs, .ref xr, .int 0, .int (-1), .int 0, .null]))] s.heap := hP
  have hl := lv_entry ([.ref x, .int p1]) (n := 2) (Nat.le_of_ble_eq_true rfl)
  rw [lg_entry_eq]
  generalize (lg_sl ([.ref x, .int p1]) ++ List.replicate (2 - (lg_sl ([.ref x, .int p1])).length) Slot.unset).toArray = ls at hl ⊢
  have hl : lv_has ls 2 [(0, .ref x), (1, .int p1)] := hl
  obtain ⟨H, hH⟩ : ∃ H, H = s.heap := ⟨_, rfl⟩
  rw [← hH] at hP ⊢
  have hS : va_S A s.heap H [] := by rw [hH]; exact va_S.rf
  refine lv_aload_n hx hb dX7_missedBy_0 rfl (lv_at hl 0 rfl) ?_
  refine va_get (D := (dC, dI)) (ci := 7) (v := .null) (C := RX7) (T := TX7) (N := 13) hx hb hts hinX7 hown hK hP 0 rfl rfl 12 (by decide) k_0 (fun _ h9 => h9) rfl dX7_missedBy_1 ?_
  refine lv_ifnonnullN hx hb dX7_missedBy_4 ?_
  refine lv_iconst (v := (-1)) hx hb dX7_missedBy_7 (by decide) ?_
  refine lv_goto (tgt := 19) hx hb dX7_missedBy_8 (by decide) ?_
  have hP9 := hP.sub (ws' := [(x, .inr (7, [.ref xt, .ref xd, .ref h, .ref xk, .ref xl, .ref xw, .ref xp, .ref xs, .ref xr, .int 0, .int (-1), .int 0, .null]))]) [0] rfl
  have hD9 := hD.sub (ws' := [(x, .inr (7, [.ref xt, .ref xd, .ref h, .ref xk, .ref xl, .ref xw, .ref xp, .ref xs, .ref xr, .int 0, .int (-1), .int 0, .null]))]) [0] (by decide) rfl
  exact W.iret (v := (-1)) hx hb hr (fun t ht hW => ⟨⟨(-1), (), rfl, rfl, by rw [ht]; exact hP9, va_K.moved hW.alike hK, hD9⟩, hS.F ht⟩) hS.2.2 dX7_missedBy_19

set_option maxHeartbeats 4000000 in
set_option maxRecDepth 100000 in
theorem kkX7_restore (l : Launch) (dC : Nat → ClassId) (dI : Nat → Nat → Nat) (cI cB cZ cR : ClassId) (sz : Nat) (x : Nat) (xt : Nat) (xd : Nat) (h : Nat) (xk : Nat) (xl : Nat) (xw : Nat) (xp : Nat) (xs : Nat) (xr : Nat) (p1 : Int32) : Met l yX7_restore (.code yX7_restore cX7_restore 3 (some .boolean) :: wsL_law) ({ frames := 0, cells := 0, slots := 0, locals := 0 }) (zPc dC dI (zT cI cB cZ cR) [.ref x, .int p1] sz [(x, .inr (7, [.ref xt, .ref xd, .ref h, .ref xk, .ref xl, .ref xw, .ref xp, .ref xs, .ref xr, .int 0, .int (-1), .int 0, .null])), (xk, .inl (cR, 2, .inr (.inr (.inr (.inr (fun _ => none))))))]) (va_Qi (fun (r : Int32) (_ : Unit) => r = 0) (fun _ : Unit => zB dC dI (zT cI cB cZ cR) (va_A [(x, .inr (7, [.ref xt, .ref xd, .ref h, .ref xk, .ref xl, .ref xw, .ref xp, .ref xs, .ref xr, .int 0, .int (-1), .int 0, .null])), (xk, .inl (cR, 2, .inr (.inr (.inr (.inr (fun _ => none))))))] sz) [(x, .inr (7, [.ref xt, .ref xd, .ref h, .ref xk, .ref xl, .ref xw, .ref xp, .ref xs, .ref xr, .int 0, .int (-1), .int 0, .null])), (xk, .inl (cR, 2, .inr (.inr (.inr (.inr (fun _ => none))))))]) (va_A [(x, .inr (7, [.ref xt, .ref xd, .ref h, .ref xk, .ref xl, .ref xw, .ref xp, .ref xs, .ref xr, .int 0, .int (-1), .int 0, .null])), (xk, .inl (cR, 2, .inr (.inr (.inr (.inr (fun _ => none))))))] sz)) 0 0 (va_A [(x, .inr (7, [.ref xt, .ref xd, .ref h, .ref xk, .ref xl, .ref xw, .ref xp, .ref xs, .ref xr, .int 0, .int (-1), .int 0, .null])), (xk, .inl (cR, 2, .inr (.inr (.inr (.inr (fun _ => none))))))] sz) := by
  refine Met.ofW (cc := cX7_restore) (maxL := 3) (ret := (some .boolean)) (by decide) rfl ?_
  intro p e s m args below meth c s₁ B hml hv
  obtain ⟨rfl, hsz, hP, hK, hD0, hN⟩ := hv
  have hx := B.exec
  have hb := B.bytes
  have hr := B.returns
  have hts := atoms_spec (ws := (.code yX7_restore cX7_restore 3 (some .boolean) :: wsL_law)) B.pre
  have hown : s.vm.findClass RX7 = some m.cls := findClass_of_methodNamed B.named
  have hlocks := B.notSynchronized
  have hinX7 : ∀ w ∈ u_ws RX7 TX7 13, w ∈ (.code yX7_restore cX7_restore 3 (some .boolean) :: wsL_law) := fun w h => List.mem_cons_of_mem _ (inlX7 w h)
  have k_0 := hts (.fieldLink RX7 30 "RingMarks" "kept" "[LRingMarks$Ring;") (List.mem_cons_of_mem _ wm_24)
  subst hsz
  have hD := hD0.self (sz := s.heap.size)
  generalize hAe : va_A [(x, .inr (7, [.ref xt, .ref xd, .ref h, .ref xk, .ref xl, .ref xw, .ref xp, .ref xs, .ref xr, .int 0, .int (-1), .int 0, .null])), (xk, .inl (cR, 2, .inr (.inr (.inr (.inr (fun _ => none))))))] s.heap.size = A at hD ⊢
  have hA : ∀ q : Nat, s.heap.size ≤ q → A q := fun q h => by rw [← hAe]; exact Or.inr h
  have hP : va_P (dC, dI) vwCl [(x, .inr (7, [.ref xt, .ref xd, .ref h, .ref xk, .ref xl, .ref xw, .ref xp, .ref xs, .ref xr, .int 0, .int (-1), .int 0, .null])), (xk, .inl (cR, 2, .inr (.inr (.inr (.inr (fun _ => none))))))] s.heap := hP
  have hl := lv_entry ([.ref x, .int p1]) (n := 3) (Nat.le_of_ble_eq_true rfl)
  rw [lg_entry_eq]
  generalize (lg_sl ([.ref x, .int p1]) ++ List.replicate (3 - (lg_sl ([.ref x, .int p1])).length) Slot.unset).toArray = ls at hl ⊢
  have hl : lv_has ls 3 [(0, .ref x), (1, .int p1)] := hl
  obtain ⟨H, hH⟩ : ∃ H, H = s.heap := ⟨_, rfl⟩
  rw [← hH] at hP ⊢
  have hS : va_S A s.heap H [] := by rw [hH]; exact va_S.rf
  refine lv_iload_n hx hb dX7_restore_0 rfl (lv_at hl 1 rfl) ?_
  refine lv_if_lt (tgt := 13) hx hb dX7_restore_1 (by decide) (fun c_1 => ?_) (fun c_1 => ?_)
  · refine lv_iconst (v := 0) hx hb dX7_restore_13 (by decide) ?_
    have hP9 := hP.sub (ws' := [(x, .inr (7, [.ref xt, .ref xd, .ref h, .ref xk, .ref xl, .ref xw, .ref xp, .ref xs, .ref xr, .int 0, .int (-1), .int 0, .null])), (xk, .inl (cR, 2, .inr (.inr (.inr (.inr (fun _ => none))))))]) [0, 1] rfl
    have hD9 := hD.sub (ws' := [(x, .inr (7, [.ref xt, .ref xd, .ref h, .ref xk, .ref xl, .ref xw, .ref xp, .ref xs, .ref xr, .int 0, .int (-1), .int 0, .null])), (xk, .inl (cR, 2, .inr (.inr (.inr (.inr (fun _ => none))))))]) [0, 1] (by decide) rfl
    exact W.zret (v := 0) hx hb hr rfl (fun t ht hW => ⟨⟨0, (), rfl, rfl, by rw [ht]; exact hP9, va_K.moved hW.alike hK, hD9⟩, hS.F ht⟩) hS.2.2 dX7_restore_14
  · refine lv_iload_n hx hb dX7_restore_4 rfl (lv_at hl 1 rfl) ?_
    refine lv_aload_n hx hb dX7_restore_5 rfl (lv_at hl 0 rfl) ?_
    refine va_get (D := (dC, dI)) (ci := 7) (v := .ref xk) (C := RX7) (T := TX7) (N := 13) hx hb hts hinX7 hown hK hP 0 rfl rfl 3 (by decide) k_0 (fun _ h9 => h9) rfl dX7_restore_6 ?_
    refine va_alen (v := 2) hx hb hK hP 1 3 rfl rfl rfl dX7_restore_9 ?_
    refine lv_icmp_lt (tgt := 15) hx hb dX7_restore_10 (by decide) (fun c_2 => ?_) (fun c_2 => ?_)
    · refine lv_aload_n hx hb dX7_restore_15 rfl (lv_at hl 0 rfl) ?_
      refine va_get (D := (dC, dI)) (ci := 7) (v := .ref xk) (C := RX7) (T := TX7) (N := 13) hx hb hts hinX7 hown hK hP 0 rfl rfl 3 (by decide) k_0 (fun _ h9 => h9) rfl dX7_restore_16 ?_
      refine lv_iload_n hx hb dX7_restore_19 rfl (lv_at hl 1 rfl) ?_
      refine va_aldq hx hb hK hP 1 3 rfl rfl (zinS c_1 (znl2 c_2) (by decide)) dX7_restore_20 ?_
      refine W.eq (g2 := F0 m 21 ls [.null]) rfl ?_
      refine lv_astore_nN (lv' := [(2, .null), (0, .ref x), (1, .int p1)]) hx hb dX7_restore_21 rfl hl (by decide) rfl (fun ls hl => ?_)
      refine lv_aload_nN hx hb dX7_restore_22 rfl (lv_at hl 0 rfl) ?_
      refine lv_ifnonnullN hx hb dX7_restore_23 ?_
      refine lv_iconst (v := 0) hx hb dX7_restore_26 (by decide) ?_
      have hP9 := hP.sub (ws' := [(x, .inr (7, [.ref xt, .ref xd, .ref h, .ref xk, .ref xl, .ref xw, .ref xp, .ref xs, .ref xr, .int 0, .int (-1), .int 0, .null])), (xk, .inl (cR, 2, .inr (.inr (.inr (.inr (fun _ => none))))))]) [0, 1] rfl
      have hD9 := hD.sub (ws' := [(x, .inr (7, [.ref xt, .ref xd, .ref h, .ref xk, .ref xl, .ref xw, .ref xp, .ref xs, .ref xr, .int 0, .int (-1), .int 0, .null])), (xk, .inl (cR, 2, .inr (.inr (.inr (.inr (fun _ => none))))))]) [0, 1] (by decide) rfl
      exact W.zret (v := 0) hx hb hr rfl (fun t ht hW => ⟨⟨0, (), rfl, rfl, by rw [ht]; exact hP9, va_K.moved hW.alike hK, hD9⟩, hS.F ht⟩) hS.2.2 dX7_restore_27
    · refine lv_iconst (v := 0) hx hb dX7_restore_13 (by decide) ?_
      have hP9 := hP.sub (ws' := [(x, .inr (7, [.ref xt, .ref xd, .ref h, .ref xk, .ref xl, .ref xw, .ref xp, .ref xs, .ref xr, .int 0, .int (-1), .int 0, .null])), (xk, .inl (cR, 2, .inr (.inr (.inr (.inr (fun _ => none))))))]) [0, 1] rfl
      have hD9 := hD.sub (ws' := [(x, .inr (7, [.ref xt, .ref xd, .ref h, .ref xk, .ref xl, .ref xw, .ref xp, .ref xs, .ref xr, .int 0, .int (-1), .int 0, .null])), (xk, .inl (cR, 2, .inr (.inr (.inr (.inr (fun _ => none))))))]) [0, 1] (by decide) rfl
      exact W.zret (v := 0) hx hb hr rfl (fun t ht hW => ⟨⟨0, (), rfl, rfl, by rw [ht]; exact hP9, va_K.moved hW.alike hK, hD9⟩, hS.F ht⟩) hS.2.2 dX7_restore_14

set_option maxHeartbeats 4000000 in
set_option maxRecDepth 100000 in
theorem kkX1_lengthOf_0 (l : Launch) (dC : Nat → ClassId) (dI : Nat → Nat → Nat) (cI cB cZ cR : ClassId) (sz : Nat) (xp : Nat) (g0 : Nat) (g1 : Nat) (g2 : Nat) : Met l yX1_lengthOf (.code yX1_lengthOf cX1_lengthOf 2 (some .int) :: wsL_law) ({ frames := 0, cells := 0, slots := 0, locals := 0 }) (zPc dC dI (zT cI cB cZ cR) [.ref xp, .int 0] sz [(xp, .inr (1, [.ref g0, .ref g1, .ref g2, .int 0, .int 0]))]) (va_Qi (fun (r : Int32) (_ : Unit) => r = 0) (fun _ : Unit => zB dC dI (zT cI cB cZ cR) (va_A [(xp, .inr (1, [.ref g0, .ref g1, .ref g2, .int 0, .int 0]))] sz) [(xp, .inr (1, [.ref g0, .ref g1, .ref g2, .int 0, .int 0]))]) (va_A [(xp, .inr (1, [.ref g0, .ref g1, .ref g2, .int 0, .int 0]))] sz)) 0 0 (va_A [(xp, .inr (1, [.ref g0, .ref g1, .ref g2, .int 0, .int 0]))] sz) := by
  refine Met.ofW (cc := cX1_lengthOf) (maxL := 2) (ret := (some .int)) (by decide) rfl ?_
  intro p e s m args below meth c s₁ B hml hv
  obtain ⟨rfl, hsz, hP, hK, hD0, hN⟩ := hv
  have hx := B.exec
  have hb := B.bytes
  have hr := B.returns
  have hts := atoms_spec (ws := (.code yX1_lengthOf cX1_lengthOf 2 (some .int) :: wsL_law)) B.pre
  have hown : s.vm.findClass RX1 = some m.cls := findClass_of_methodNamed B.named
  have hlocks := B.notSynchronized
  have hinX1 : ∀ w ∈ u_ws RX1 TX1 5, w ∈ (.code yX1_lengthOf cX1_lengthOf 2 (some .int) :: wsL_law) := fun w h => List.mem_cons_of_mem _ (inlX1 w h)
  have k_0 := hts (.fieldLink RX1 21 "RingMarks$Programs" "driverLength" "I") (List.mem_cons_of_mem _ wm_108)
  subst hsz
  have hD := hD0.self (sz := s.heap.size)
  generalize hAe : va_A [(xp, .inr (1, [.ref g0, .ref g1, .ref g2, .int 0, .int 0]))] s.heap.size = A at hD ⊢
  have hA : ∀ q : Nat, s.heap.size ≤ q → A q := fun q h => by rw [← hAe]; exact Or.inr h
  have hP : va_P (dC, dI) vwCl [(xp, .inr (1, [.ref g0, .ref g1, .ref g2, .int 0, .int 0]))] s.heap := hP
  have hl := lv_entry ([.ref xp, .int 0]) (n := 2) (Nat.le_of_ble_eq_true rfl)
  rw [lg_entry_eq]
  generalize (lg_sl ([.ref xp, .int 0]) ++ List.replicate (2 - (lg_sl ([.ref xp, .int 0])).length) Slot.unset).toArray = ls at hl ⊢
  have hl : lv_has ls 2 [(0, .ref xp), (1, .int 0)] := hl
  obtain ⟨H, hH⟩ : ∃ H, H = s.heap := ⟨_, rfl⟩
  rw [← hH] at hP ⊢
  have hS : va_S A s.heap H [] := by rw [hH]; exact va_S.rf
  refine lv_iload_n hx hb dX1_lengthOf_0 rfl (lv_at hl 1 rfl) ?_
  refine lv_if_ne (tgt := 11) hx hb dX1_lengthOf_1 (by decide) (fun c => absurd (by decide) c) (fun _ => ?_)
  refine lv_aload_n hx hb dX1_lengthOf_4 rfl (lv_at hl 0 rfl) ?_
  refine va_get (D := (dC, dI)) (ci := 1) (v := .int 0) (C := RX1) (T := TX1) (N := 5) hx hb hts hinX1 hown hK hP 0 rfl rfl 3 (by decide) k_0 (fun _ h9 => h9) rfl dX1_lengthOf_5 ?_
  refine lv_goto (tgt := 15) hx hb dX1_lengthOf_8 (by decide) ?_
  have hP9 := hP.sub (ws' := [(xp, .inr (1, [.ref g0, .ref g1, .ref g2, .int 0, .int 0]))]) [0] rfl
  have hD9 := hD.sub (ws' := [(xp, .inr (1, [.ref g0, .ref g1, .ref g2, .int 0, .int 0]))]) [0] (by decide) rfl
  exact W.iret (v := 0) hx hb hr (fun t ht hW => ⟨⟨0, (), rfl, rfl, by rw [ht]; exact hP9, va_K.moved hW.alike hK, hD9⟩, hS.F ht⟩) hS.2.2 dX1_lengthOf_15

set_option maxHeartbeats 4000000 in
set_option maxRecDepth 100000 in
theorem kkX1_lengthOf_1 (l : Launch) (dC : Nat → ClassId) (dI : Nat → Nat → Nat) (cI cB cZ cR : ClassId) (sz : Nat) (xp : Nat) (g0 : Nat) (g1 : Nat) (g2 : Nat) : Met l yX1_lengthOf (.code yX1_lengthOf cX1_lengthOf 2 (some .int) :: wsL_law) ({ frames := 0, cells := 0, slots := 0, locals := 0 }) (zPc dC dI (zT cI cB cZ cR) [.ref xp, .int 1] sz [(xp, .inr (1, [.ref g0, .ref g1, .ref g2, .int 0, .int 0]))]) (va_Qi (fun (r : Int32) (_ : Unit) => r = 0) (fun _ : Unit => zB dC dI (zT cI cB cZ cR) (va_A [(xp, .inr (1, [.ref g0, .ref g1, .ref g2, .int 0, .int 0]))] sz) [(xp, .inr (1, [.ref g0, .ref g1, .ref g2, .int 0, .int 0]))]) (va_A [(xp, .inr (1, [.ref g0, .ref g1, .ref g2, .int 0, .int 0]))] sz)) 0 0 (va_A [(xp, .inr (1, [.ref g0, .ref g1, .ref g2, .int 0, .int 0]))] sz) := by
  refine Met.ofW (cc := cX1_lengthOf) (maxL := 2) (ret := (some .int)) (by decide) rfl ?_
  intro p e s m args below meth c s₁ B hml hv
  obtain ⟨rfl, hsz, hP, hK, hD0, hN⟩ := hv
  have hx := B.exec
  have hb := B.bytes
  have hr := B.returns
  have hts := atoms_spec (ws := (.code yX1_lengthOf cX1_lengthOf 2 (some .int) :: wsL_law)) B.pre
  have hown : s.vm.findClass RX1 = some m.cls := findClass_of_methodNamed B.named
  have hlocks := B.notSynchronized
  have hinX1 : ∀ w ∈ u_ws RX1 TX1 5, w ∈ (.code yX1_lengthOf cX1_lengthOf 2 (some .int) :: wsL_law) := fun w h => List.mem_cons_of_mem _ (inlX1 w h)
  have k_0 := hts (.fieldLink RX1 25 "RingMarks$Programs" "deviceLength" "I") (List.mem_cons_of_mem _ wm_109)
  subst hsz
  have hD := hD0.self (sz := s.heap.size)
  generalize hAe : va_A [(xp, .inr (1, [.ref g0, .ref g1, .ref g2, .int 0, .int 0]))] s.heap.size = A at hD ⊢
  have hA : ∀ q : Nat, s.heap.size ≤ q → A q := fun q h => by rw [← hAe]; exact Or.inr h
  have hP : va_P (dC, dI) vwCl [(xp, .inr (1, [.ref g0, .ref g1, .ref g2, .int 0, .int 0]))] s.heap := hP
  have hl := lv_entry ([.ref xp, .int 1]) (n := 2) (Nat.le_of_ble_eq_true rfl)
  rw [lg_entry_eq]
  generalize (lg_sl ([.ref xp, .int 1]) ++ List.replicate (2 - (lg_sl ([.ref xp, .int 1])).length) Slot.unset).toArray = ls at hl ⊢
  have hl : lv_has ls 2 [(0, .ref xp), (1, .int 1)] := hl
  obtain ⟨H, hH⟩ : ∃ H, H = s.heap := ⟨_, rfl⟩
  rw [← hH] at hP ⊢
  have hS : va_S A s.heap H [] := by rw [hH]; exact va_S.rf
  refine lv_iload_n hx hb dX1_lengthOf_0 rfl (lv_at hl 1 rfl) ?_
  refine lv_if_ne (tgt := 11) hx hb dX1_lengthOf_1 (by decide) (fun _ => ?_) (fun c => absurd c (by decide))
  refine lv_aload_n hx hb dX1_lengthOf_11 rfl (lv_at hl 0 rfl) ?_
  refine va_get (D := (dC, dI)) (ci := 1) (v := .int 0) (C := RX1) (T := TX1) (N := 5) hx hb hts hinX1 hown hK hP 0 rfl rfl 4 (by decide) k_0 (fun _ h9 => h9) rfl dX1_lengthOf_12 ?_
  have hP9 := hP.sub (ws' := [(xp, .inr (1, [.ref g0, .ref g1, .ref g2, .int 0, .int 0]))]) [0] rfl
  have hD9 := hD.sub (ws' := [(xp, .inr (1, [.ref g0, .ref g1, .ref g2, .int 0, .int 0]))]) [0] (by decide) rfl
  exact W.iret (v := 0) hx hb hr (fun t ht hW => ⟨⟨0, (), rfl, rfl, by rw [ht]; exact hP9, va_K.moved hW.alike hK, hD9⟩, hS.F ht⟩) hS.2.2 dX1_lengthOf_15

def pfX7_count_r (p1 : Int32) : Int32 := if p1 = 0 then 0 else (if p1 = 1 then 4 else (if p1 = 2 then 0 else (if p1 = 3 then 16 else (if p1 = 4 then 0 else (if p1 = 5 then 0 else (if p1 = 6 then 0 else (-1)))))))
set_option maxHeartbeats 4000000 in
set_option maxRecDepth 100000 in
theorem kkX7_count (l : Launch) (dC : Nat → ClassId) (dI : Nat → Nat → Nat) (cI cB cZ cR : ClassId) (sz : Nat) (x : Nat) (xt : Nat) (xd : Nat) (h : Nat) (xk : Nat) (xl : Nat) (xw : Nat) (xp : Nat) (xs : Nat) (xr : Nat) (a0 : Nat) (a1 : Nat) (a2 : Nat) (a3 : Nat) (a4 : Nat) (a5 : Nat) (a6 : Nat) (b0 : Nat) (g0 : Nat) (g1 : Nat) (g2 : Nat) (p1 : Int32) : Met l yX7_count (.code yX7_count cX7_count 2 (some .int) :: wsL_law) ({ frames := 1, cells := 0, slots := 0, locals := 21 }) (zPc dC dI (zT cI cB cZ cR) [.ref x, .int p1] sz [(x, .inr (7, [.ref xt, .ref xd, .ref h, .ref xk, .ref xl, .ref xw, .ref xp, .ref xs, .ref xr, .int 0, .int (-1), .int 0, .null])), (h, .inr (2, [.ref a0, .ref a1, .ref a2, .ref a3, .ref a4, .ref a5, .ref a6])), (a0, .inl (cI, 22, .inl (gl [0, 0, 0, 0, 4, 0, 0, 0, 0, 0, 0, 0, (-1), (-1), 0, 0, 0, 0, 0, 4, 0, 16]))), (xt, .inr (5, [.ref b0, .int 0, .int 0])), (xp, .inr (1, [.ref g0, .ref g1, .ref g2, .int 0, .int 0]))]) (va_Qi (fun (r : Int32) (_ : Unit) => r = (pfX7_count_r p1)) (fun _ : Unit => zB dC dI (zT cI cB cZ cR) (va_A [(x, .inr (7, [.ref xt, .ref xd, .ref h, .ref xk, .ref xl, .ref xw, .ref xp, .ref xs, .ref xr, .int 0, .int (-1), .int 0, .null])), (h, .inr (2, [.ref a0, .ref a1, .ref a2, .ref a3, .ref a4, .ref a5, .ref a6])), (a0, .inl (cI, 22, .inl (gl [0, 0, 0, 0, 4, 0, 0, 0, 0, 0, 0, 0, (-1), (-1), 0, 0, 0, 0, 0, 4, 0, 16]))), (xt, .inr (5, [.ref b0, .int 0, .int 0])), (xp, .inr (1, [.ref g0, .ref g1, .ref g2, .int 0, .int 0]))] sz) [(x, .inr (7, [.ref xt, .ref xd, .ref h, .ref xk, .ref xl, .ref xw, .ref xp, .ref xs, .ref xr, .int 0, .int (-1), .int 0, .null])), (h, .inr (2, [.ref a0, .ref a1, .ref a2, .ref a3, .ref a4, .ref a5, .ref a6])), (a0, .inl (cI, 22, .inl (gl [0, 0, 0, 0, 4, 0, 0, 0, 0, 0, 0, 0, (-1), (-1), 0, 0, 0, 0, 0, 4, 0, 16]))), (xt, .inr (5, [.ref b0, .int 0, .int 0])), (xp, .inr (1, [.ref g0, .ref g1, .ref g2, .int 0, .int 0]))]) (va_A [(x, .inr (7, [.ref xt, .ref xd, .ref h, .ref xk, .ref xl, .ref xw, .ref xp, .ref xs, .ref xr, .int 0, .int (-1), .int 0, .null])), (h, .inr (2, [.ref a0, .ref a1, .ref a2, .ref a3, .ref a4, .ref a5, .ref a6])), (a0, .inl (cI, 22, .inl (gl [0, 0, 0, 0, 4, 0, 0, 0, 0, 0, 0, 0, (-1), (-1), 0, 0, 0, 0, 0, 4, 0, 16]))), (xt, .inr (5, [.ref b0, .int 0, .int 0])), (xp, .inr (1, [.ref g0, .ref g1, .ref g2, .int 0, .int 0]))] sz)) 0 0 (va_A [(x, .inr (7, [.ref xt, .ref xd, .ref h, .ref xk, .ref xl, .ref xw, .ref xp, .ref xs, .ref xr, .int 0, .int (-1), .int 0, .null])), (h, .inr (2, [.ref a0, .ref a1, .ref a2, .ref a3, .ref a4, .ref a5, .ref a6])), (a0, .inl (cI, 22, .inl (gl [0, 0, 0, 0, 4, 0, 0, 0, 0, 0, 0, 0, (-1), (-1), 0, 0, 0, 0, 0, 4, 0, 16]))), (xt, .inr (5, [.ref b0, .int 0, .int 0])), (xp, .inr (1, [.ref g0, .ref g1, .ref g2, .int 0, .int 0]))] sz) := by
  refine Met.ofW (cc := cX7_count) (maxL := 2) (ret := (some .int)) (by decide) rfl ?_
  intro p e s m args below meth c s₁ B hml hv
  obtain ⟨rfl, hsz, hP, hK, hD0, hN⟩ := hv
  have hx := B.exec
  have hb := B.bytes
  have hr := B.returns
  have hts := atoms_spec (ws := (.code yX7_count cX7_count 2 (some .int) :: wsL_law)) B.pre
  have hown : s.vm.findClass RX7 = some m.cls := findClass_of_methodNamed B.named
  have hlocks := B.notSynchronized
  have hinX7 : ∀ w ∈ u_ws RX7 TX7 13, w ∈ (.code yX7_count cX7_count 2 (some .int) :: wsL_law) := fun w h => List.mem_cons_of_mem _ (inlX7 w h)
  have hinX2 : ∀ w ∈ u_ws RX2 TX2 7, w ∈ (.code yX7_count cX7_count 2 (some .int) :: wsL_law) := fun w h => List.mem_cons_of_mem _ (inlX2 w h)
  have hinX5 : ∀ w ∈ u_ws RX5 TX5 3, w ∈ (.code yX7_count cX7_count 2 (some .int) :: wsL_law) := fun w h => List.mem_cons_of_mem _ (inlX5 w h)
  have k_0 := hts (.fieldLink RX7 26 "RingMarks" "ring" "LRingMarks$Ring;") (List.mem_cons_of_mem _ wm_23)
  have k_1 := hts (.fieldLink RX7 149 "RingMarks$Ring" "marks" "[I") (List.mem_cons_of_mem _ wm_784)
  have k_2 := hts (.fieldLink RX7 10 "RingMarks" "tape" "LRingMarks$Tape;") (List.mem_cons_of_mem _ wm_15)
  have k_3 := hts (.fieldLink RX7 84 "RingMarks$Tape" "size" "I") (List.mem_cons_of_mem _ wm_156)
  have k_4 := hts (.fieldLink RX7 47 "RingMarks" "programs" "LRingMarks$Programs;") (List.mem_cons_of_mem _ wm_33)
  subst hsz
  have hD := hD0.self (sz := s.heap.size)
  generalize hAe : va_A [(x, .inr (7, [.ref xt, .ref xd, .ref h, .ref xk, .ref xl, .ref xw, .ref xp, .ref xs, .ref xr, .int 0, .int (-1), .int 0, .null])), (h, .inr (2, [.ref a0, .ref a1, .ref a2, .ref a3, .ref a4, .ref a5, .ref a6])), (a0, .inl (cI, 22, .inl (gl [0, 0, 0, 0, 4, 0, 0, 0, 0, 0, 0, 0, (-1), (-1), 0, 0, 0, 0, 0, 4, 0, 16]))), (xt, .inr (5, [.ref b0, .int 0, .int 0])), (xp, .inr (1, [.ref g0, .ref g1, .ref g2, .int 0, .int 0]))] s.heap.size = A at hD ⊢
  have hA : ∀ q : Nat, s.heap.size ≤ q → A q := fun q h => by rw [← hAe]; exact Or.inr h
  have hP : va_P (dC, dI) vwCl [(x, .inr (7, [.ref xt, .ref xd, .ref h, .ref xk, .ref xl, .ref xw, .ref xp, .ref xs, .ref xr, .int 0, .int (-1), .int 0, .null])), (h, .inr (2, [.ref a0, .ref a1, .ref a2, .ref a3, .ref a4, .ref a5, .ref a6])), (a0, .inl (cI, 22, .inl (gl [0, 0, 0, 0, 4, 0, 0, 0, 0, 0, 0, 0, (-1), (-1), 0, 0, 0, 0, 0, 4, 0, 16]))), (xt, .inr (5, [.ref b0, .int 0, .int 0])), (xp, .inr (1, [.ref g0, .ref g1, .ref g2, .int 0, .int 0]))] s.heap := hP
  have hl := lv_entry ([.ref x, .int p1]) (n := 2) (Nat.le_of_ble_eq_true rfl)
  rw [lg_entry_eq]
  generalize (lg_sl ([.ref x, .int p1]) ++ List.replicate (2 - (lg_sl ([.ref x, .int p1])).length) Slot.unset).toArray = ls at hl ⊢
  have hl : lv_has ls 2 [(0, .ref x), (1, .int p1)] := hl
  obtain ⟨H, hH⟩ : ∃ H, H = s.heap := ⟨_, rfl⟩
  rw [← hH] at hP ⊢
  have hS : va_S A s.heap H [] := by rw [hH]; exact va_S.rf
  refine lv_iload_n hx hb dX7_count_0 rfl (lv_at hl 1 rfl) ?_
  by_cases c_1 : p1 = 0
  · refine lv_tableIn (off := 43) (tgt := 44) hx hb dX7_count_1 (by rw [c_1]; decide) (by rw [c_1]; decide) (by rw [c_1]; decide) (by decide) ?_
    refine lv_aload_n hx hb dX7_count_44 rfl (lv_at hl 0 rfl) ?_
    refine va_get (D := (dC, dI)) (ci := 7) (v := .ref h) (C := RX7) (T := TX7) (N := 13) hx hb hts hinX7 hown hK hP 0 rfl rfl 2 (by decide) k_0 (fun _ h9 => h9) rfl dX7_count_45 ?_
    refine va_get (D := (dC, dI)) (ci := 2) (v := .ref a0) (C := RX2) (T := TX2) (N := 7) hx hb hts hinX2 hown hK hP 1 rfl rfl 0 (by decide) k_1 (fun _ h9 => h9) rfl dX7_count_48 ?_
    refine lv_bipush (v := 18) hx hb dX7_count_51 (by decide) ?_
    refine za_iald (v := 0) hx hb hK hP 2 0 rfl rfl (zin tn_18 (Nat.le_of_ble_eq_true rfl)) (zrd _ tn_18 rfl) dX7_count_53 ?_
    have e_0 : (pfX7_count_r p1) = 0 := by rw [pfX7_count_r, if_pos c_1]
    have hP9 := hP.sub (ws' := [(x, .inr (7, [.ref xt, .ref xd, .ref h, .ref xk, .ref xl, .ref xw, .ref xp, .ref xs, .ref xr, .int 0, .int (-1), .int 0, .null])), (h, .inr (2, [.ref a0, .ref a1, .ref a2, .ref a3, .ref a4, .ref a5, .ref a6])), (a0, .inl (cI, 22, .inl (gl [0, 0, 0, 0, 4, 0, 0, 0, 0, 0, 0, 0, (-1), (-1), 0, 0, 0, 0, 0, 4, 0, 16]))), (xt, .inr (5, [.ref b0, .int 0, .int 0])), (xp, .inr (1, [.ref g0, .ref g1, .ref g2, .int 0, .int 0]))]) [0, 1, 2, 3, 4] rfl
    have hD9 := hD.sub (ws' := [(x, .inr (7, [.ref xt, .ref xd, .ref h, .ref xk, .ref xl, .ref xw, .ref xp, .ref xs, .ref xr, .int 0, .int (-1), .int 0, .null])), (h, .inr (2, [.ref a0, .ref a1, .ref a2, .ref a3, .ref a4, .ref a5, .ref a6])), (a0, .inl (cI, 22, .inl (gl [0, 0, 0, 0, 4, 0, 0, 0, 0, 0, 0, 0, (-1), (-1), 0, 0, 0, 0, 0, 4, 0, 16]))), (xt, .inr (5, [.ref b0, .int 0, .int 0])), (xp, .inr (1, [.ref g0, .ref g1, .ref g2, .int 0, .int 0]))]) [0, 1, 2, 3, 4] (by decide) rfl
    exact W.iret (v := 0) hx hb hr (fun t ht hW => ⟨⟨0, (), rfl, e_0.symm, by rw [ht]; exact hP9, va_K.moved hW.alike hK, hD9⟩, hS.F ht⟩) hS.2.2 dX7_count_54
  by_cases c_2 : p1 = 1
  · refine lv_tableIn (off := 54) (tgt := 55) hx hb dX7_count_1 (by rw [c_2]; decide) (by rw [c_2]; decide) (by rw [c_2]; decide) (by decide) ?_
    refine lv_aload_n hx hb dX7_count_55 rfl (lv_at hl 0 rfl) ?_
    refine va_get (D := (dC, dI)) (ci := 7) (v := .ref h) (C := RX7) (T := TX7) (N := 13) hx hb hts hinX7 hown hK hP 0 rfl rfl 2 (by decide) k_0 (fun _ h9 => h9) rfl dX7_count_56 ?_
    refine zcVi (As := []) (rest := []) (wr := [(x, .inr (7, [.ref xt, .ref xd, .ref h, .ref xk, .ref xl, .ref xw, .ref xp, .ref xs, .ref xr, .int 0, .int (-1), .int 0, .null])), (xt, .inr (5, [.ref b0, .int 0, .int 0])), (xp, .inr (1, [.ref g0, .ref g1, .ref g2, .int 0, .int 0]))]) ⟨hx, hb, hml, hown, hts⟩ (kkX2_places l dC dI cI cB cZ cR H.size h a0 a1 a2 a3 a4 a5 a6 0 0 0 0 4 0 0 0 0 0 0 0 (-1) (-1) 0 0 0 0 ) (cwV 0 hts (zgV wm_1247 wm_260 wm_261 wm_22 wm_262) rfl rfl rfl (by decide +kernel) ⟨Nat.le_of_ble_eq_true rfl, Nat.le_of_ble_eq_true rfl⟩) hN hK hP hD hS hA [1, 2] [0, 3, 4] rfl rfl ⟨rfl, rfl⟩ (by decide) (ci := 2) rfl rfl rfl rfl hl.1 rfl (Nat.le_of_ble_eq_true rfl) dX7_count_59 ⟨Nat.le_of_ble_eq_true rfl, Nat.le_of_ble_eq_true rfl⟩ (fun r u hu H locs hP hD hS => ?_)
    have hu : r = 4 := hu
    subst hu
    have hP : va_P (dC, dI) vwCl [(x, .inr (7, [.ref xt, .ref xd, .ref h, .ref xk, .ref xl, .ref xw, .ref xp, .ref xs, .ref xr, .int 0, .int (-1), .int 0, .null])), (xt, .inr (5, [.ref b0, .int 0, .int 0])), (xp, .inr (1, [.ref g0, .ref g1, .ref g2, .int 0, .int 0])), (h, .inr (2, [.ref a0, .ref a1, .ref a2, .ref a3, .ref a4, .ref a5, .ref a6])), (a0, .inl (cI, 22, .inl (gl [0, 0, 0, 0, 4, 0, 0, 0, 0, 0, 0, 0, (-1), (-1), 0, 0, 0, 0, 0, 4, 0, 16])))] H := hP
    have hD : va_D A [(x, .inr (7, [.ref xt, .ref xd, .ref h, .ref xk, .ref xl, .ref xw, .ref xp, .ref xs, .ref xr, .int 0, .int (-1), .int 0, .null])), (xt, .inr (5, [.ref b0, .int 0, .int 0])), (xp, .inr (1, [.ref g0, .ref g1, .ref g2, .int 0, .int 0])), (h, .inr (2, [.ref a0, .ref a1, .ref a2, .ref a3, .ref a4, .ref a5, .ref a6])), (a0, .inl (cI, 22, .inl (gl [0, 0, 0, 0, 4, 0, 0, 0, 0, 0, 0, 0, (-1), (-1), 0, 0, 0, 0, 0, 4, 0, 16])))] := hD
    have e_0 : (pfX7_count_r p1) = 4 := by rw [pfX7_count_r, if_neg c_1, if_pos c_2]
    have hP9 := hP.sub (ws' := [(x, .inr (7, [.ref xt, .ref xd, .ref h, .ref xk, .ref xl, .ref xw, .ref xp, .ref xs, .ref xr, .int 0, .int (-1), .int 0, .null])), (h, .inr (2, [.ref a0, .ref a1, .ref a2, .ref a3, .ref a4, .ref a5, .ref a6])), (a0, .inl (cI, 22, .inl (gl [0, 0, 0, 0, 4, 0, 0, 0, 0, 0, 0, 0, (-1), (-1), 0, 0, 0, 0, 0, 4, 0, 16]))), (xt, .inr (5, [.ref b0, .int 0, .int 0])), (xp, .inr (1, [.ref g0, .ref g1, .ref g2, .int 0, .int 0]))]) [0, 3, 4, 1, 2] rfl
    have hD9 := hD.sub (ws' := [(x, .inr (7, [.ref xt, .ref xd, .ref h, .ref xk, .ref xl, .ref xw, .ref xp, .ref xs, .ref xr, .int 0, .int (-1), .int 0, .null])), (h, .inr (2, [.ref a0, .ref a1, .ref a2, .ref a3, .ref a4, .ref a5, .ref a6])), (a0, .inl (cI, 22, .inl (gl [0, 0, 0, 0, 4, 0, 0, 0, 0, 0, 0, 0, (-1), (-1), 0, 0, 0, 0, 0, 4, 0, 16]))), (xt, .inr (5, [.ref b0, .int 0, .int 0])), (xp, .inr (1, [.ref g0, .ref g1, .ref g2, .int 0, .int 0]))]) [0, 3, 4, 1, 2] (by decide) rfl
    exact W.iret (v := 4) hx hb hr (fun t ht hW => ⟨⟨4, (), rfl, e_0.symm, by rw [ht]; exact hP9, va_K.moved hW.alike hK, hD9⟩, hS.F ht⟩) hS.2.2 dX7_count_62
  by_cases c_3 : p1 = 2
  · refine lv_tableIn (off := 62) (tgt := 63) hx hb dX7_count_1 (by rw [c_3]; decide) (by rw [c_3]; decide) (by rw [c_3]; decide) (by decide) ?_
    refine lv_aload_n hx hb dX7_count_63 rfl (lv_at hl 0 rfl) ?_
    refine va_get (D := (dC, dI)) (ci := 7) (v := .ref h) (C := RX7) (T := TX7) (N := 13) hx hb hts hinX7 hown hK hP 0 rfl rfl 2 (by decide) k_0 (fun _ h9 => h9) rfl dX7_count_64 ?_
    refine va_get (D := (dC, dI)) (ci := 2) (v := .ref a0) (C := RX2) (T := TX2) (N := 7) hx hb hts hinX2 hown hK hP 1 rfl rfl 0 (by decide) k_1 (fun _ h9 => h9) rfl dX7_count_67 ?_
    refine lv_bipush (v := 20) hx hb dX7_count_70 (by decide) ?_
    refine za_iald (v := 0) hx hb hK hP 2 0 rfl rfl (zin tn_20 (Nat.le_of_ble_eq_true rfl)) (zrd _ tn_20 rfl) dX7_count_72 ?_
    have e_0 : (pfX7_count_r p1) = 0 := by rw [pfX7_count_r, if_neg c_1, if_neg c_2, if_pos c_3]
    have hP9 := hP.sub (ws' := [(x, .inr (7, [.ref xt, .ref xd, .ref h, .ref xk, .ref xl, .ref xw, .ref xp, .ref xs, .ref xr, .int 0, .int (-1), .int 0, .null])), (h, .inr (2, [.ref a0, .ref a1, .ref a2, .ref a3, .ref a4, .ref a5, .ref a6])), (a0, .inl (cI, 22, .inl (gl [0, 0, 0, 0, 4, 0, 0, 0, 0, 0, 0, 0, (-1), (-1), 0, 0, 0, 0, 0, 4, 0, 16]))), (xt, .inr (5, [.ref b0, .int 0, .int 0])), (xp, .inr (1, [.ref g0, .ref g1, .ref g2, .int 0, .int 0]))]) [0, 1, 2, 3, 4] rfl
    have hD9 := hD.sub (ws' := [(x, .inr (7, [.ref xt, .ref xd, .ref h, .ref xk, .ref xl, .ref xw, .ref xp, .ref xs, .ref xr, .int 0, .int (-1), .int 0, .null])), (h, .inr (2, [.ref a0, .ref a1, .ref a2, .ref a3, .ref a4, .ref a5, .ref a6])), (a0, .inl (cI, 22, .inl (gl [0, 0, 0, 0, 4, 0, 0, 0, 0, 0, 0, 0, (-1), (-1), 0, 0, 0, 0, 0, 4, 0, 16]))), (xt, .inr (5, [.ref b0, .int 0, .int 0])), (xp, .inr (1, [.ref g0, .ref g1, .ref g2, .int 0, .int 0]))]) [0, 1, 2, 3, 4] (by decide) rfl
    exact W.iret (v := 0) hx hb hr (fun t ht hW => ⟨⟨0, (), rfl, e_0.symm, by rw [ht]; exact hP9, va_K.moved hW.alike hK, hD9⟩, hS.F ht⟩) hS.2.2 dX7_count_73
  by_cases c_4 : p1 = 3
  · refine lv_tableIn (off := 73) (tgt := 74) hx hb dX7_count_1 (by rw [c_4]; decide) (by rw [c_4]; decide) (by rw [c_4]; decide) (by decide) ?_
    refine lv_aload_n hx hb dX7_count_74 rfl (lv_at hl 0 rfl) ?_
    refine va_get (D := (dC, dI)) (ci := 7) (v := .ref h) (C := RX7) (T := TX7) (N := 13) hx hb hts hinX7 hown hK hP 0 rfl rfl 2 (by decide) k_0 (fun _ h9 => h9) rfl dX7_count_75 ?_
    refine zcVi (As := []) (rest := []) (wr := [(x, .inr (7, [.ref xt, .ref xd, .ref h, .ref xk, .ref xl, .ref xw, .ref xp, .ref xs, .ref xr, .int 0, .int (-1), .int 0, .null])), (xt, .inr (5, [.ref b0, .int 0, .int 0])), (xp, .inr (1, [.ref g0, .ref g1, .ref g2, .int 0, .int 0]))]) ⟨hx, hb, hml, hown, hts⟩ (kkX2_wrapsAt l dC dI cI cB cZ cR H.size h a0 a1 a2 a3 a4 a5 a6 0 0 0 0 4 0 0 0 0 0 0 0 (-1) (-1) 0 0 0 0 ) (cwV 0 hts (zgV wm_821 wm_653 wm_654 wm_22 wm_655) rfl rfl rfl (by decide +kernel) ⟨Nat.le_of_ble_eq_true rfl, Nat.le_of_ble_eq_true rfl⟩) hN hK hP hD hS hA [1, 2] [0, 3, 4] rfl rfl ⟨rfl, rfl⟩ (by decide) (ci := 2) rfl rfl rfl rfl hl.1 rfl (Nat.le_of_ble_eq_true rfl) dX7_count_78 ⟨Nat.le_of_ble_eq_true rfl, Nat.le_of_ble_eq_true rfl⟩ (fun r u hu H locs hP hD hS => ?_)
    have hu : r = 16 := hu
    subst hu
    have hP : va_P (dC, dI) vwCl [(x, .inr (7, [.ref xt, .ref xd, .ref h, .ref xk, .ref xl, .ref xw, .ref xp, .ref xs, .ref xr, .int 0, .int (-1), .int 0, .null])), (xt, .inr (5, [.ref b0, .int 0, .int 0])), (xp, .inr (1, [.ref g0, .ref g1, .ref g2, .int 0, .int 0])), (h, .inr (2, [.ref a0, .ref a1, .ref a2, .ref a3, .ref a4, .ref a5, .ref a6])), (a0, .inl (cI, 22, .inl (gl [0, 0, 0, 0, 4, 0, 0, 0, 0, 0, 0, 0, (-1), (-1), 0, 0, 0, 0, 0, 4, 0, 16])))] H := hP
    have hD : va_D A [(x, .inr (7, [.ref xt, .ref xd, .ref h, .ref xk, .ref xl, .ref xw, .ref xp, .ref xs, .ref xr, .int 0, .int (-1), .int 0, .null])), (xt, .inr (5, [.ref b0, .int 0, .int 0])), (xp, .inr (1, [.ref g0, .ref g1, .ref g2, .int 0, .int 0])), (h, .inr (2, [.ref a0, .ref a1, .ref a2, .ref a3, .ref a4, .ref a5, .ref a6])), (a0, .inl (cI, 22, .inl (gl [0, 0, 0, 0, 4, 0, 0, 0, 0, 0, 0, 0, (-1), (-1), 0, 0, 0, 0, 0, 4, 0, 16])))] := hD
    have e_0 : (pfX7_count_r p1) = 16 := by rw [pfX7_count_r, if_neg c_1, if_neg c_2, if_neg c_3, if_pos c_4]
    have hP9 := hP.sub (ws' := [(x, .inr (7, [.ref xt, .ref xd, .ref h, .ref xk, .ref xl, .ref xw, .ref xp, .ref xs, .ref xr, .int 0, .int (-1), .int 0, .null])), (h, .inr (2, [.ref a0, .ref a1, .ref a2, .ref a3, .ref a4, .ref a5, .ref a6])), (a0, .inl (cI, 22, .inl (gl [0, 0, 0, 0, 4, 0, 0, 0, 0, 0, 0, 0, (-1), (-1), 0, 0, 0, 0, 0, 4, 0, 16]))), (xt, .inr (5, [.ref b0, .int 0, .int 0])), (xp, .inr (1, [.ref g0, .ref g1, .ref g2, .int 0, .int 0]))]) [0, 3, 4, 1, 2] rfl
    have hD9 := hD.sub (ws' := [(x, .inr (7, [.ref xt, .ref xd, .ref h, .ref xk, .ref xl, .ref xw, .ref xp, .ref xs, .ref xr, .int 0, .int (-1), .int 0, .null])), (h, .inr (2, [.ref a0, .ref a1, .ref a2, .ref a3, .ref a4, .ref a5, .ref a6])), (a0, .inl (cI, 22, .inl (gl [0, 0, 0, 0, 4, 0, 0, 0, 0, 0, 0, 0, (-1), (-1), 0, 0, 0, 0, 0, 4, 0, 16]))), (xt, .inr (5, [.ref b0, .int 0, .int 0])), (xp, .inr (1, [.ref g0, .ref g1, .ref g2, .int 0, .int 0]))]) [0, 3, 4, 1, 2] (by decide) rfl
    exact W.iret (v := 16) hx hb hr (fun t ht hW => ⟨⟨16, (), rfl, e_0.symm, by rw [ht]; exact hP9, va_K.moved hW.alike hK, hD9⟩, hS.F ht⟩) hS.2.2 dX7_count_81
  by_cases c_5 : p1 = 4
  · refine lv_tableIn (off := 81) (tgt := 82) hx hb dX7_count_1 (by rw [c_5]; decide) (by rw [c_5]; decide) (by rw [c_5]; decide) (by decide) ?_
    refine lv_aload_n hx hb dX7_count_82 rfl (lv_at hl 0 rfl) ?_
    refine va_get (D := (dC, dI)) (ci := 7) (v := .ref xt) (C := RX7) (T := TX7) (N := 13) hx hb hts hinX7 hown hK hP 0 rfl rfl 0 (by decide) k_2 (fun _ h9 => h9) rfl dX7_count_83 ?_
    refine va_get (D := (dC, dI)) (ci := 5) (v := .int 0) (C := RX5) (T := TX5) (N := 3) hx hb hts hinX5 hown hK hP 3 rfl rfl 1 (by decide) k_3 (fun _ h9 => h9) rfl dX7_count_86 ?_
    have e_0 : (pfX7_count_r p1) = 0 := by rw [pfX7_count_r, if_neg c_1, if_neg c_2, if_neg c_3, if_neg c_4, if_pos c_5]
    have hP9 := hP.sub (ws' := [(x, .inr (7, [.ref xt, .ref xd, .ref h, .ref xk, .ref xl, .ref xw, .ref xp, .ref xs, .ref xr, .int 0, .int (-1), .int 0, .null])), (h, .inr (2, [.ref a0, .ref a1, .ref a2, .ref a3, .ref a4, .ref a5, .ref a6])), (a0, .inl (cI, 22, .inl (gl [0, 0, 0, 0, 4, 0, 0, 0, 0, 0, 0, 0, (-1), (-1), 0, 0, 0, 0, 0, 4, 0, 16]))), (xt, .inr (5, [.ref b0, .int 0, .int 0])), (xp, .inr (1, [.ref g0, .ref g1, .ref g2, .int 0, .int 0]))]) [0, 1, 2, 3, 4] rfl
    have hD9 := hD.sub (ws' := [(x, .inr (7, [.ref xt, .ref xd, .ref h, .ref xk, .ref xl, .ref xw, .ref xp, .ref xs, .ref xr, .int 0, .int (-1), .int 0, .null])), (h, .inr (2, [.ref a0, .ref a1, .ref a2, .ref a3, .ref a4, .ref a5, .ref a6])), (a0, .inl (cI, 22, .inl (gl [0, 0, 0, 0, 4, 0, 0, 0, 0, 0, 0, 0, (-1), (-1), 0, 0, 0, 0, 0, 4, 0, 16]))), (xt, .inr (5, [.ref b0, .int 0, .int 0])), (xp, .inr (1, [.ref g0, .ref g1, .ref g2, .int 0, .int 0]))]) [0, 1, 2, 3, 4] (by decide) rfl
    exact W.iret (v := 0) hx hb hr (fun t ht hW => ⟨⟨0, (), rfl, e_0.symm, by rw [ht]; exact hP9, va_K.moved hW.alike hK, hD9⟩, hS.F ht⟩) hS.2.2 dX7_count_89
  by_cases c_6 : p1 = 5
  · refine lv_tableIn (off := 89) (tgt := 90) hx hb dX7_count_1 (by rw [c_6]; decide) (by rw [c_6]; decide) (by rw [c_6]; decide) (by decide) ?_
    refine lv_aload_n hx hb dX7_count_90 rfl (lv_at hl 0 rfl) ?_
    refine va_get (D := (dC, dI)) (ci := 7) (v := .ref xp) (C := RX7) (T := TX7) (N := 13) hx hb hts hinX7 hown hK hP 0 rfl rfl 6 (by decide) k_4 (fun _ h9 => h9) rfl dX7_count_91 ?_
    refine lv_iconst (v := 0) hx hb dX7_count_94 (by decide) ?_
    refine zcVi (As := [.int 0]) (rest := []) (wr := [(x, .inr (7, [.ref xt, .ref xd, .ref h, .ref xk, .ref xl, .ref xw, .ref xp, .ref xs, .ref xr, .int 0, .int (-1), .int 0, .null])), (h, .inr (2, [.ref a0, .ref a1, .ref a2, .ref a3, .ref a4, .ref a5, .ref a6])), (a0, .inl (cI, 22, .inl (gl [0, 0, 0, 0, 4, 0, 0, 0, 0, 0, 0, 0, (-1), (-1), 0, 0, 0, 0, 0, 4, 0, 16]))), (xt, .inr (5, [.ref b0, .int 0, .int 0]))]) ⟨hx, hb, hml, hown, hts⟩ (kkX1_lengthOf_0 l dC dI cI cB cZ cR H.size xp g0 g1 g2 ) (cwV 1 hts (zgV wm_929 wm_930 wm_931 wm_32 wm_932) rfl rfl rfl (by decide +kernel) ⟨Nat.le_of_ble_eq_true rfl, Nat.le_of_ble_eq_true rfl⟩) hN hK hP hD hS hA [4] [0, 1, 2, 3] rfl rfl ⟨rfl, rfl⟩ (by decide) (ci := 1) rfl rfl rfl rfl hl.1 rfl (Nat.le_of_ble_eq_true rfl) dX7_count_95 ⟨Nat.le_of_ble_eq_true rfl, Nat.le_of_ble_eq_true rfl⟩ (fun r u hu H locs hP hD hS => ?_)
    have hu : r = 0 := hu
    subst hu
    have hP : va_P (dC, dI) vwCl [(x, .inr (7, [.ref xt, .ref xd, .ref h, .ref xk, .ref xl, .ref xw, .ref xp, .ref xs, .ref xr, .int 0, .int (-1), .int 0, .null])), (h, .inr (2, [.ref a0, .ref a1, .ref a2, .ref a3, .ref a4, .ref a5, .ref a6])), (a0, .inl (cI, 22, .inl (gl [0, 0, 0, 0, 4, 0, 0, 0, 0, 0, 0, 0, (-1), (-1), 0, 0, 0, 0, 0, 4, 0, 16]))), (xt, .inr (5, [.ref b0, .int 0, .int 0])), (xp, .inr (1, [.ref g0, .ref g1, .ref g2, .int 0, .int 0]))] H := hP
    have hD : va_D A [(x, .inr (7, [.ref xt, .ref xd, .ref h, .ref xk, .ref xl, .ref xw, .ref xp, .ref xs, .ref xr, .int 0, .int (-1), .int 0, .null])), (h, .inr (2, [.ref a0, .ref a1, .ref a2, .ref a3, .ref a4, .ref a5, .ref a6])), (a0, .inl (cI, 22, .inl (gl [0, 0, 0, 0, 4, 0, 0, 0, 0, 0, 0, 0, (-1), (-1), 0, 0, 0, 0, 0, 4, 0, 16]))), (xt, .inr (5, [.ref b0, .int 0, .int 0])), (xp, .inr (1, [.ref g0, .ref g1, .ref g2, .int 0, .int 0]))] := hD
    have e_0 : (pfX7_count_r p1) = 0 := by rw [pfX7_count_r, if_neg c_1, if_neg c_2, if_neg c_3, if_neg c_4, if_neg c_5, if_pos c_6]
    have hP9 := hP.sub (ws' := [(x, .inr (7, [.ref xt, .ref xd, .ref h, .ref xk, .ref xl, .ref xw, .ref xp, .ref xs, .ref xr, .int 0, .int (-1), .int 0, .null])), (h, .inr (2, [.ref a0, .ref a1, .ref a2, .ref a3, .ref a4, .ref a5, .ref a6])), (a0, .inl (cI, 22, .inl (gl [0, 0, 0, 0, 4, 0, 0, 0, 0, 0, 0, 0, (-1), (-1), 0, 0, 0, 0, 0, 4, 0, 16]))), (xt, .inr (5, [.ref b0, .int 0, .int 0])), (xp, .inr (1, [.ref g0, .ref g1, .ref g2, .int 0, .int 0]))]) [0, 1, 2, 3, 4] rfl
    have hD9 := hD.sub (ws' := [(x, .inr (7, [.ref xt, .ref xd, .ref h, .ref xk, .ref xl, .ref xw, .ref xp, .ref xs, .ref xr, .int 0, .int (-1), .int 0, .null])), (h, .inr (2, [.ref a0, .ref a1, .ref a2, .ref a3, .ref a4, .ref a5, .ref a6])), (a0, .inl (cI, 22, .inl (gl [0, 0, 0, 0, 4, 0, 0, 0, 0, 0, 0, 0, (-1), (-1), 0, 0, 0, 0, 0, 4, 0, 16]))), (xt, .inr (5, [.ref b0, .int 0, .int 0])), (xp, .inr (1, [.ref g0, .ref g1, .ref g2, .int 0, .int 0]))]) [0, 1, 2, 3, 4] (by decide) rfl
    exact W.iret (v := 0) hx hb hr (fun t ht hW => ⟨⟨0, (), rfl, e_0.symm, by rw [ht]; exact hP9, va_K.moved hW.alike hK, hD9⟩, hS.F ht⟩) hS.2.2 dX7_count_98
  by_cases c_7 : p1 = 6
  · refine lv_tableIn (off := 98) (tgt := 99) hx hb dX7_count_1 (by rw [c_7]; decide) (by rw [c_7]; decide) (by rw [c_7]; decide) (by decide) ?_
    refine lv_aload_n hx hb dX7_count_99 rfl (lv_at hl 0 rfl) ?_
    refine va_get (D := (dC, dI)) (ci := 7) (v := .ref xp) (C := RX7) (T := TX7) (N := 13) hx hb hts hinX7 hown hK hP 0 rfl rfl 6 (by decide) k_4 (fun _ h9 => h9) rfl dX7_count_100 ?_
    refine lv_iconst (v := 1) hx hb dX7_count_103 (by decide) ?_
    refine zcVi (As := [.int 1]) (rest := []) (wr := [(x, .inr (7, [.ref xt, .ref xd, .ref h, .ref xk, .ref xl, .ref xw, .ref xp, .ref xs, .ref xr, .int 0, .int (-1), .int 0, .null])), (h, .inr (2, [.ref a0, .ref a1, .ref a2, .ref a3, .ref a4, .ref a5, .ref a6])), (a0, .inl (cI, 22, .inl (gl [0, 0, 0, 0, 4, 0, 0, 0, 0, 0, 0, 0, (-1), (-1), 0, 0, 0, 0, 0, 4, 0, 16]))), (xt, .inr (5, [.ref b0, .int 0, .int 0]))]) ⟨hx, hb, hml, hown, hts⟩ (kkX1_lengthOf_1 l dC dI cI cB cZ cR H.size xp g0 g1 g2 ) (cwV 1 hts (zgV wm_929 wm_930 wm_931 wm_32 wm_932) rfl rfl rfl (by decide +kernel) ⟨Nat.le_of_ble_eq_true rfl, Nat.le_of_ble_eq_true rfl⟩) hN hK hP hD hS hA [4] [0, 1, 2, 3] rfl rfl ⟨rfl, rfl⟩ (by decide) (ci := 1) rfl rfl rfl rfl hl.1 rfl (Nat.le_of_ble_eq_true rfl) dX7_count_104 ⟨Nat.le_of_ble_eq_true rfl, Nat.le_of_ble_eq_true rfl⟩ (fun r u hu H locs hP hD hS => ?_)
    have hu : r = 0 := hu
    subst hu
    have hP : va_P (dC, dI) vwCl [(x, .inr (7, [.ref xt, .ref xd, .ref h, .ref xk, .ref xl, .ref xw, .ref xp, .ref xs, .ref xr, .int 0, .int (-1), .int 0, .null])), (h, .inr (2, [.ref a0, .ref a1, .ref a2, .ref a3, .ref a4, .ref a5, .ref a6])), (a0, .inl (cI, 22, .inl (gl [0, 0, 0, 0, 4, 0, 0, 0, 0, 0, 0, 0, (-1), (-1), 0, 0, 0, 0, 0, 4, 0, 16]))), (xt, .inr (5, [.ref b0, .int 0, .int 0])), (xp, .inr (1, [.ref g0, .ref g1, .ref g2, .int 0, .int 0]))] H := hP
    have hD : va_D A [(x, .inr (7, [.ref xt, .ref xd, .ref h, .ref xk, .ref xl, .ref xw, .ref xp, .ref xs, .ref xr, .int 0, .int (-1), .int 0, .null])), (h, .inr (2, [.ref a0, .ref a1, .ref a2, .ref a3, .ref a4, .ref a5, .ref a6])), (a0, .inl (cI, 22, .inl (gl [0, 0, 0, 0, 4, 0, 0, 0, 0, 0, 0, 0, (-1), (-1), 0, 0, 0, 0, 0, 4, 0, 16]))), (xt, .inr (5, [.ref b0, .int 0, .int 0])), (xp, .inr (1, [.ref g0, .ref g1, .ref g2, .int 0, .int 0]))] := hD
    have e_0 : (pfX7_count_r p1) = 0 := by rw [pfX7_count_r, if_neg c_1, if_neg c_2, if_neg c_3, if_neg c_4, if_neg c_5, if_neg c_6, if_pos c_7]
    have hP9 := hP.sub (ws' := [(x, .inr (7, [.ref xt, .ref xd, .ref h, .ref xk, .ref xl, .ref xw, .ref xp, .ref xs, .ref xr, .int 0, .int (-1), .int 0, .null])), (h, .inr (2, [.ref a0, .ref a1, .ref a2, .ref a3, .ref a4, .ref a5, .ref a6])), (a0, .inl (cI, 22, .inl (gl [0, 0, 0, 0, 4, 0, 0, 0, 0, 0, 0, 0, (-1), (-1), 0, 0, 0, 0, 0, 4, 0, 16]))), (xt, .inr (5, [.ref b0, .int 0, .int 0])), (xp, .inr (1, [.ref g0, .ref g1, .ref g2, .int 0, .int 0]))]) [0, 1, 2, 3, 4] rfl
    have hD9 := hD.sub (ws' := [(x, .inr (7, [.ref xt, .ref xd, .ref h, .ref xk, .ref xl, .ref xw, .ref xp, .ref xs, .ref xr, .int 0, .int (-1), .int 0, .null])), (h, .inr (2, [.ref a0, .ref a1, .ref a2, .ref a3, .ref a4, .ref a5, .ref a6])), (a0, .inl (cI, 22, .inl (gl [0, 0, 0, 0, 4, 0, 0, 0, 0, 0, 0, 0, (-1), (-1), 0, 0, 0, 0, 0, 4, 0, 16]))), (xt, .inr (5, [.ref b0, .int 0, .int 0])), (xp, .inr (1, [.ref g0, .ref g1, .ref g2, .int 0, .int 0]))]) [0, 1, 2, 3, 4] (by decide) rfl
    exact W.iret (v := 0) hx hb hr (fun t ht hW => ⟨⟨0, (), rfl, e_0.symm, by rw [ht]; exact hP9, va_K.moved hW.alike hK, hD9⟩, hS.F ht⟩) hS.2.2 dX7_count_107
  have hout : p1.toInt < 0 ∨ 6 < p1.toInt := by
    have := lv_neT (a := 0) c_1 (by decide)
    have := lv_neT (a := 1) c_2 (by decide)
    have := lv_neT (a := 2) c_3 (by decide)
    have := lv_neT (a := 3) c_4 (by decide)
    have := lv_neT (a := 4) c_5 (by decide)
    have := lv_neT (a := 5) c_6 (by decide)
    have := lv_neT (a := 6) c_7 (by decide)
    omega
  refine lv_tableOut (tgt := 108) hx hb dX7_count_1 hout (by decide) ?_
  refine lv_iconst (v := (-1)) hx hb dX7_count_108 (by decide) ?_
  have e_0 : (pfX7_count_r p1) = (-1) := by rw [pfX7_count_r, if_neg c_1, if_neg c_2, if_neg c_3, if_neg c_4, if_neg c_5, if_neg c_6, if_neg c_7]
  have hP9 := hP.sub (ws' := [(x, .inr (7, [.ref xt, .ref xd, .ref h, .ref xk, .ref xl, .ref xw, .ref xp, .ref xs, .ref xr, .int 0, .int (-1), .int 0, .null])), (h, .inr (2, [.ref a0, .ref a1, .ref a2, .ref a3, .ref a4, .ref a5, .ref a6])), (a0, .inl (cI, 22, .inl (gl [0, 0, 0, 0, 4, 0, 0, 0, 0, 0, 0, 0, (-1), (-1), 0, 0, 0, 0, 0, 4, 0, 16]))), (xt, .inr (5, [.ref b0, .int 0, .int 0])), (xp, .inr (1, [.ref g0, .ref g1, .ref g2, .int 0, .int 0]))]) [0, 1, 2, 3, 4] rfl
  have hD9 := hD.sub (ws' := [(x, .inr (7, [.ref xt, .ref xd, .ref h, .ref xk, .ref xl, .ref xw, .ref xp, .ref xs, .ref xr, .int 0, .int (-1), .int 0, .null])), (h, .inr (2, [.ref a0, .ref a1, .ref a2, .ref a3, .ref a4, .ref a5, .ref a6])), (a0, .inl (cI, 22, .inl (gl [0, 0, 0, 0, 4, 0, 0, 0, 0, 0, 0, 0, (-1), (-1), 0, 0, 0, 0, 0, 4, 0, 16]))), (xt, .inr (5, [.ref b0, .int 0, .int 0])), (xp, .inr (1, [.ref g0, .ref g1, .ref g2, .int 0, .int 0]))]) [0, 1, 2, 3, 4] (by decide) rfl
  exact W.iret (v := (-1)) hx hb hr (fun t ht hW => ⟨⟨(-1), (), rfl, e_0.symm, by rw [ht]; exact hP9, va_K.moved hW.alike hK, hD9⟩, hS.F ht⟩) hS.2.2 dX7_count_109
