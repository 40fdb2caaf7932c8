set_option maxHeartbeats 4000000 in
set_option maxRecDepth 100000 in
theorem kkX2_isPacked (l : Launch) (dC : Nat → ClassId) (dI : Nat → Nat → Nat) (cI cB cZ cR : ClassId) (sz : Nat) (h : Nat) (a0 : Nat) (a1 : Nat) (a2 : Nat) (a3 : Nat) (a4 : Nat) (a5 : Nat) (a6 : Nat) (m0 : Int32) (m1 : Int32) (m2 : Int32) (m3 : Int32) (m4 : Int32) (m5 : Int32) (m6 : Int32) (m7 : Int32) (m8 : Int32) (m9 : Int32) (m10 : Int32) (m11 : Int32) (m12 : Int32) (m13 : Int32) (m14 : Int32) (m15 : Int32) (m16 : Int32) (m17 : Int32) : Met l yX2_isPacked (.code yX2_isPacked cX2_isPacked 1 (some .boolean) :: wsL_law) ({ frames := 0, cells := 0, slots := 0, locals := 0 }) (zPc dC dI (zT cI cB cZ cR) [.ref h] sz [(h, .inr (2, [.ref a0, .ref a1, .ref a2, .ref a3, .ref a4, .ref a5, .ref a6])), (a0, .inl (cI, 22, .inl (gl [m0, m1, m2, m3, m4, m5, m6, m7, m8, m9, m10, m11, m12, m13, m14, m15, m16, m17, 0, 4, 0, 16])))]) (va_Qi (fun (r : Int32) (_ : Unit) => r = 0) (fun _ : Unit => zB dC dI (zT cI cB cZ cR) (va_A [(h, .inr (2, [.ref a0, .ref a1, .ref a2, .ref a3, .ref a4, .ref a5, .ref a6])), (a0, .inl (cI, 22, .inl (gl [m0, m1, m2, m3, m4, m5, m6, m7, m8, m9, m10, m11, m12, m13, m14, m15, m16, m17, 0, 4, 0, 16])))] sz) [(h, .inr (2, [.ref a0, .ref a1, .ref a2, .ref a3, .ref a4, .ref a5, .ref a6])), (a0, .inl (cI, 22, .inl (gl [m0, m1, m2, m3, m4, m5, m6, m7, m8, m9, m10, m11, m12, m13, m14, m15, m16, m17, 0, 4, 0, 16])))]) (va_A [(h, .inr (2, [.ref a0, .ref a1, .ref a2, .ref a3, .ref a4, .ref a5, .ref a6])), (a0, .inl (cI, 22, .inl (gl [m0, m1, m2, m3, m4, m5, m6, m7, m8, m9, m10, m11, m12, m13, m14, m15, m16, m17, 0, 4, 0, 16])))] sz)) 0 0 (va_A [(h, .inr (2, [.ref a0, .ref a1, .ref a2, .ref a3, .ref a4, .ref a5, .ref a6])), (a0, .inl (cI, 22, .inl (gl [m0, m1, m2, m3, m4, m5, m6, m7, m8, m9, m10, m11, m12, m13, m14, m15, m16, m17, 0, 4, 0, 16])))] sz) := by
  refine Met.ofW (cc := cX2_isPacked) (maxL := 1) (ret := (some .boolean)) (by decide) rfl ?_
  intro p e s m args below meth c s₁ B hml hv
  obtain ⟨rfl, hsz, hP, hK, hD0, hN⟩ := hv
  have hx := B.exec
  have hb := B.bytes
  have hr := B.returns
  have hts := atoms_spec (ws := (.code yX2_isPacked cX2_isPacked 1 (some .boolean) :: wsL_law)) B.pre
  have hown : s.vm.findClass RX2 = some m.cls := findClass_of_methodNamed B.named
  have hlocks := B.notSynchronized
  have hinX2 : ∀ w ∈ u_ws RX2 TX2 7, w ∈ (.code yX2_isPacked cX2_isPacked 1 (some .boolean) :: wsL_law) := fun w h => List.mem_cons_of_mem _ (inlX2 w h)
  have k_0 := hts (.fieldLink RX2 11 "RingMarks$Ring" "marks" "[I") (List.mem_cons_of_mem _ wm_61)
  subst hsz
  have hD := hD0.self (sz := s.heap.size)
  generalize hAe : va_A [(h, .inr (2, [.ref a0, .ref a1, .ref a2, .ref a3, .ref a4, .ref a5, .ref a6])), (a0, .inl (cI, 22, .inl (gl [m0, m1, m2, m3, m4, m5, m6, m7, m8, m9, m10, m11, m12, m13, m14, m15, m16, m17, 0, 4, 0, 16])))] s.heap.size = A at hD ⊢
  have hA : ∀ q : Nat, s.heap.size ≤ q → A q := fun q h => by rw [← hAe]; exact Or.inr h
  have hP : va_P (dC, dI) vwCl [(h, .inr (2, [.ref a0, .ref a1, .ref a2, .ref a3, .ref a4, .ref a5, .ref a6])), (a0, .inl (cI, 22, .inl (gl [m0, m1, m2, m3, m4, m5, m6, m7, m8, m9, m10, m11, m12, m13, m14, m15, m16, m17, 0, 4, 0, 16])))] s.heap := hP
  have hl := lv_entry ([.ref h]) (n := 1) (Nat.le_of_ble_eq_true rfl)
  rw [lg_entry_eq]
  generalize (lg_sl ([.ref h]) ++ List.replicate (1 - (lg_sl ([.ref h])).length) Slot.unset).toArray = ls at hl ⊢
  have hl : lv_has ls 1 [(0, .ref h)] := hl
  obtain ⟨H, hH⟩ : ∃ H, H = s.heap := ⟨_, rfl⟩
  rw [← hH] at hP ⊢
  have hS : va_S A s.heap H [] := by rw [hH]; exact va_S.rf
  refine lv_aload_n hx hb dX2_isPacked_0 rfl (lv_at hl 0 rfl) ?_
  refine va_get (D := (dC, dI)) (ci := 2) (v := .ref a0) (C := RX2) (T := TX2) (N := 7) hx hb hts hinX2 hown hK hP 0 rfl rfl 0 (by decide) k_0 (fun _ h9 => h9) rfl dX2_isPacked_1 ?_
  refine lv_bipush (v := 18) hx hb dX2_isPacked_4 (by decide) ?_
  refine za_iald (v := 0) hx hb hK hP 1 0 rfl rfl (zin tn_18 (Nat.le_of_ble_eq_true rfl)) (zrd _ tn_18 rfl) dX2_isPacked_6 ?_
  refine lv_iconst (v := 1) hx hb dX2_isPacked_7 (by decide) ?_
  refine lv_icmp_ne (tgt := 15) hx hb dX2_isPacked_8 (by decide) (fun _ => ?_) (fun c => absurd c (by decide))
  refine lv_iconst (v := 0) hx hb dX2_isPacked_15 (by decide) ?_
  have hP9 := hP.sub (ws' := [(h, .inr (2, [.ref a0, .ref a1, .ref a2, .ref a3, .ref a4, .ref a5, .ref a6])), (a0, .inl (cI, 22, .inl (gl [m0, m1, m2, m3, m4, m5, m6, m7, m8, m9, m10, m11, m12, m13, m14, m15, m16, m17, 0, 4, 0, 16])))]) [0, 1] rfl
  have hD9 := hD.sub (ws' := [(h, .inr (2, [.ref a0, .ref a1, .ref a2, .ref a3, .ref a4, .ref a5, .ref a6])), (a0, .inl (cI, 22, .inl (gl [m0, m1, m2, m3, m4, m5, m6, m7, m8, m9, m10, m11, m12, m13, m14, m15, m16, m17, 0, 4, 0, 16])))]) [0, 1] (by decide) rfl
  exact W.zret (v := 0) hx hb hr rfl (fun t ht hW => ⟨⟨0, (), rfl, rfl, by rw [ht]; exact hP9, va_K.moved hW.alike hK, hD9⟩, hS.F ht⟩) hS.2.2 dX2_isPacked_16

set_option maxHeartbeats 4000000 in
set_option maxRecDepth 100000 in
theorem kkX2_hasFeature_1 (l : Launch) (dC : Nat → ClassId) (dI : Nat → Nat → Nat) (cI cB cZ cR : ClassId) (sz : Nat) (h : Nat) (a0 : Nat) (a1 : Nat) (a2 : Nat) (a3 : Nat) (a4 : Nat) (a5 : Nat) (a6 : Nat) (m0 : Int32) (m1 : Int32) (m2 : Int32) (m3 : Int32) (m4 : Int32) (m5 : Int32) (m6 : Int32) (m7 : Int32) (m8 : Int32) (m9 : Int32) (m10 : Int32) (m11 : Int32) (m12 : Int32) (m13 : Int32) (m14 : Int32) (m15 : Int32) (m16 : Int32) (m17 : Int32) : Met l yX2_hasFeature (.code yX2_hasFeature cX2_hasFeature 2 (some .boolean) :: wsL_law) ({ frames := 0, cells := 0, slots := 0, locals := 0 }) (zPc dC dI (zT cI cB cZ cR) [.ref h, .int 1] sz [(h, .inr (2, [.ref a0, .ref a1, .ref a2, .ref a3, .ref a4, .ref a5, .ref a6])), (a0, .inl (cI, 22, .inl (gl [m0, m1, m2, m3, m4, m5, m6, m7, m8, m9, m10, m11, m12, m13, m14, m15, m16, m17, 0, 4, 0, 16])))]) (va_Qi (fun (r : Int32) (_ : Unit) => r = 0) (fun _ : Unit => zB dC dI (zT cI cB cZ cR) (va_A [(h, .inr (2, [.ref a0, .ref a1, .ref a2, .ref a3, .ref a4, .ref a5, .ref a6])), (a0, .inl (cI, 22, .inl (gl [m0, m1, m2, m3, m4, m5, m6, m7, m8, m9, m10, m11, m12, m13, m14, m15, m16, m17, 0, 4, 0, 16])))] sz) [(h, .inr (2, [.ref a0, .ref a1, .ref a2, .ref a3, .ref a4, .ref a5, .ref a6])), (a0, .inl (cI, 22, .inl (gl [m0, m1, m2, m3, m4, m5, m6, m7, m8, m9, m10, m11, m12, m13, m14, m15, m16, m17, 0, 4, 0, 16])))]) (va_A [(h, .inr (2, [.ref a0, .ref a1, .ref a2, .ref a3, .ref a4, .ref a5, .ref a6])), (a0, .inl (cI, 22, .inl (gl [m0, m1, m2, m3, m4, m5, m6, m7, m8, m9, m10, m11, m12, m13, m14, m15, m16, m17, 0, 4, 0, 16])))] sz)) 0 0 (va_A [(h, .inr (2, [.ref a0, .ref a1, .ref a2, .ref a3, .ref a4, .ref a5, .ref a6])), (a0, .inl (cI, 22, .inl (gl [m0, m1, m2, m3, m4, m5, m6, m7, m8, m9, m10, m11, m12, m13, m14, m15, m16, m17, 0, 4, 0, 16])))] sz) := by
  refine Met.ofW (cc := cX2_hasFeature) (maxL := 2) (ret := (some .boolean)) (by decide) rfl ?_
  intro p e s m args below meth c s₁ B hml hv
  obtain ⟨rfl, hsz, hP, hK, hD0, hN⟩ := hv
  have hx := B.exec
  have hb := B.bytes
  have hr := B.returns
  have hts := atoms_spec (ws := (.code yX2_hasFeature cX2_hasFeature 2 (some .boolean) :: wsL_law)) B.pre
  have hown : s.vm.findClass RX2 = some m.cls := findClass_of_methodNamed B.named
  have hlocks := B.notSynchronized
  have hinX2 : ∀ w ∈ u_ws RX2 TX2 7, w ∈ (.code yX2_hasFeature cX2_hasFeature 2 (some .boolean) :: wsL_law) := fun w h => List.mem_cons_of_mem _ (inlX2 w h)
  have k_0 := hts (.fieldLink RX2 11 "RingMarks$Ring" "marks" "[I") (List.mem_cons_of_mem _ wm_61)
  subst hsz
  have hD := hD0.self (sz := s.heap.size)
  generalize hAe : va_A [(h, .inr (2, [.ref a0, .ref a1, .ref a2, .ref a3, .ref a4, .ref a5, .ref a6])), (a0, .inl (cI, 22, .inl (gl [m0, m1, m2, m3, m4, m5, m6, m7, m8, m9, m10, m11, m12, m13, m14, m15, m16, m17, 0, 4, 0, 16])))] s.heap.size = A at hD ⊢
  have hA : ∀ q : Nat, s.heap.size ≤ q → A q := fun q h => by rw [← hAe]; exact Or.inr h
  have hP : va_P (dC, dI) vwCl [(h, .inr (2, [.ref a0, .ref a1, .ref a2, .ref a3, .ref a4, .ref a5, .ref a6])), (a0, .inl (cI, 22, .inl (gl [m0, m1, m2, m3, m4, m5, m6, m7, m8, m9, m10, m11, m12, m13, m14, m15, m16, m17, 0, 4, 0, 16])))] s.heap := hP
  have hl := lv_entry ([.ref h, .int 1]) (n := 2) (Nat.le_of_ble_eq_true rfl)
  rw [lg_entry_eq]
  generalize (lg_sl ([.ref h, .int 1]) ++ List.replicate (2 - (lg_sl ([.ref h, .int 1])).length) Slot.unset).toArray = ls at hl ⊢
  have hl : lv_has ls 2 [(0, .ref h), (1, .int 1)] := hl
  obtain ⟨H, hH⟩ : ∃ H, H = s.heap := ⟨_, rfl⟩
  rw [← hH] at hP ⊢
  have hS : va_S A s.heap H [] := by rw [hH]; exact va_S.rf
  refine lv_aload_n hx hb dX2_hasFeature_0 rfl (lv_at hl 0 rfl) ?_
  refine va_get (D := (dC, dI)) (ci := 2) (v := .ref a0) (C := RX2) (T := TX2) (N := 7) hx hb hts hinX2 hown hK hP 0 rfl rfl 0 (by decide) k_0 (fun _ h9 => h9) rfl dX2_hasFeature_1 ?_
  refine lv_bipush (v := 20) hx hb dX2_hasFeature_4 (by decide) ?_
  refine za_iald (v := 0) hx hb hK hP 1 0 rfl rfl (zin tn_20 (Nat.le_of_ble_eq_true rfl)) (zrd _ tn_20 rfl) dX2_hasFeature_6 ?_
  refine lv_iload_n hx hb dX2_hasFeature_7 rfl (lv_at hl 1 rfl) ?_
  refine lv_iand hx hb dX2_hasFeature_8 ?_
  refine tp (y := 0) (by decide) ?_
  refine lv_if_eq (tgt := 16) hx hb dX2_hasFeature_9 (by decide) (fun _ => ?_) (fun c => absurd (by decide) c)
  refine lv_iconst (v := 0) hx hb dX2_hasFeature_16 (by decide) ?_
  have hP9 := hP.sub (ws' := [(h, .inr (2, [.ref a0, .ref a1, .ref a2, .ref a3, .ref a4, .ref a5, .ref a6])), (a0, .inl (cI, 22, .inl (gl [m0, m1, m2, m3, m4, m5, m6, m7, m8, m9, m10, m11, m12, m13, m14, m15, m16, m17, 0, 4, 0, 16])))]) [0, 1] rfl
  have hD9 := hD.sub (ws' := [(h, .inr (2, [.ref a0, .ref a1, .ref a2, .ref a3, .ref a4, .ref a5, .ref a6])), (a0, .inl (cI, 22, .inl (gl [m0, m1, m2, m3, m4, m5, m6, m7, m8, m9, m10, m11, m12, m13, m14, m15, m16, m17, 0, 4, 0, 16])))]) [0, 1] (by decide) rfl
  exact W.zret (v := 0) hx hb hr rfl (fun t ht hW => ⟨⟨0, (), rfl, rfl, by rw [ht]; exact hP9, va_K.moved hW.alike hK, hD9⟩, hS.F ht⟩) hS.2.2 dX2_hasFeature_17

set_option maxHeartbeats 4000000 in
set_option maxRecDepth 100000 in
theorem kkX2_hasFeature_2 (l : Launch) (dC : Nat → ClassId) (dI : Nat → Nat → Nat) (cI cB cZ cR : ClassId) (sz : Nat) (h : Nat) (a0 : Nat) (a1 : Nat) (a2 : Nat) (a3 : Nat) (a4 : Nat) (a5 : Nat) (a6 : Nat) (m0 : Int32) (m1 : Int32) (m2 : Int32) (m3 : Int32) (m4 : Int32) (m5 : Int32) (m6 : Int32) (m7 : Int32) (m8 : Int32) (m9 : Int32) (m10 : Int32) (m11 : Int32) (m12 : Int32) (m13 : Int32) (m14 : Int32) (m15 : Int32) (m16 : Int32) (m17 : Int32) : Met l yX2_hasFeature (.code yX2_hasFeature cX2_hasFeature 2 (some .boolean) :: wsL_law) ({ frames := 0, cells := 0, slots := 0, locals := 0 }) (zPc dC dI (zT cI cB cZ cR) [.ref h, .int 2] sz [(h, .inr (2, [.ref a0, .ref a1, .ref a2, .ref a3, .ref a4, .ref a5, .ref a6])), (a0, .inl (cI, 22, .inl (gl [m0, m1, m2, m3, m4, m5, m6, m7, m8, m9, m10, m11, m12, m13, m14, m15, m16, m17, 0, 4, 0, 16])))]) (va_Qi (fun (r : Int32) (_ : Unit) => r = 0) (fun _ : Unit => zB dC dI (zT cI cB cZ cR) (va_A [(h, .inr (2, [.ref a0, .ref a1, .ref a2, .ref a3, .ref a4, .ref a5, .ref a6])), (a0, .inl (cI, 22, .inl (gl [m0, m1, m2, m3, m4, m5, m6, m7, m8, m9, m10, m11, m12, m13, m14, m15, m16, m17, 0, 4, 0, 16])))] sz) [(h, .inr (2, [.ref a0, .ref a1, .ref a2, .ref a3, .ref a4, .ref a5, .ref a6])), (a0, .inl (cI, 22, .inl (gl [m0, m1, m2, m3, m4, m5, m6, m7, m8, m9, m10, m11, m12, m13, m14, m15, m16, m17, 0, 4, 0, 16])))]) (va_A [(h, .inr (2, [.ref a0, .ref a1, .ref a2, .ref a3, .ref a4, .ref a5, .ref a6])), (a0, .inl (cI, 22, .inl (gl [m0, m1, m2, m3, m4, m5, m6, m7, m8, m9, m10, m11, m12, m13, m14, m15, m16, m17, 0, 4, 0, 16])))] sz)) 0 0 (va_A [(h, .inr (2, [.ref a0, .ref a1, .ref a2, .ref a3, .ref a4, .ref a5, .ref a6])), (a0, .inl (cI, 22, .inl (gl [m0, m1, m2, m3, m4, m5, m6, m7, m8, m9, m10, m11, m12, m13, m14, m15, m16, m17, 0, 4, 0, 16])))] sz) := by
  refine Met.ofW (cc := cX2_hasFeature) (maxL := 2) (ret := (some .boolean)) (by decide) rfl ?_
  intro p e s m args below meth c s₁ B hml hv
  obtain ⟨rfl, hsz, hP, hK, hD0, hN⟩ := hv
  have hx := B.exec
  have hb := B.bytes
  have hr := B.returns
  have hts := atoms_spec (ws := (.code yX2_hasFeature cX2_hasFeature 2 (some .boolean) :: wsL_law)) B.pre
  have hown : s.vm.findClass RX2 = some m.cls := findClass_of_methodNamed B.named
  have hlocks := B.notSynchronized
  have hinX2 : ∀ w ∈ u_ws RX2 TX2 7, w ∈ (.code yX2_hasFeature cX2_hasFeature 2 (some .boolean) :: wsL_law) := fun w h => List.mem_cons_of_mem _ (inlX2 w h)
  have k_0 := hts (.fieldLink RX2 11 "RingMarks$Ring" "marks" "[I") (List.mem_cons_of_mem _ wm_61)
  subst hsz
  have hD := hD0.self (sz := s.heap.size)
  generalize hAe : va_A [(h, .inr (2, [.ref a0, .ref a1, .ref a2, .ref a3, .ref a4, .ref a5, .ref a6])), (a0, .inl (cI, 22, .inl (gl [m0, m1, m2, m3, m4, m5, m6, m7, m8, m9, m10, m11, m12, m13, m14, m15, m16, m17, 0, 4, 0, 16])))] s.heap.size = A at hD ⊢
  have hA : ∀ q : Nat, s.heap.size ≤ q → A q := fun q h => by rw [← hAe]; exact Or.inr h
  have hP : va_P (dC, dI) vwCl [(h, .inr (2, [.ref a0, .ref a1, .ref a2, .ref a3, .ref a4, .ref a5, .ref a6])), (a0, .inl (cI, 22, .inl (gl [m0, m1, m2, m3, m4, m5, m6, m7, m8, m9, m10, m11, m12, m13, m14, m15, m16, m17, 0, 4, 0, 16])))] s.heap := hP
  have hl := lv_entry ([.ref h, .int 2]) (n := 2) (Nat.le_of_ble_eq_true rfl)
  rw [lg_entry_eq]
  generalize (lg_sl ([.ref h, .int 2]) ++ List.replicate (2 - (lg_sl ([.ref h, .int 2])).length) Slot.unset).toArray = ls at hl ⊢
  have hl : lv_has ls 2 [(0, .ref h), (1, .int 2)] := hl
  obtain ⟨H, hH⟩ : ∃ H, H = s.heap := ⟨_, rfl⟩
  rw [← hH] at hP ⊢
  have hS : va_S A s.heap H [] := by rw [hH]; exact va_S.rf
  refine lv_aload_n hx hb dX2_hasFeature_0 rfl (lv_at hl 0 rfl) ?_
  refine va_get (D := (dC, dI)) (ci := 2) (v := .ref a0) (C := RX2) (T := TX2) (N := 7) hx hb hts hinX2 hown hK hP 0 rfl rfl 0 (by decide) k_0 (fun _ h9 => h9) rfl dX2_hasFeature_1 ?_
  refine lv_bipush (v := 20) hx hb dX2_hasFeature_4 (by decide) ?_
  refine za_iald (v := 0) hx hb hK hP 1 0 rfl rfl (zin tn_20 (Nat.le_of_ble_eq_true rfl)) (zrd _ tn_20 rfl) dX2_hasFeature_6 ?_
  refine lv_iload_n hx hb dX2_hasFeature_7 rfl (lv_at hl 1 rfl) ?_
  refine lv_iand hx hb dX2_hasFeature_8 ?_
  refine tp (y := 0) (by decide) ?_
  refine lv_if_eq (tgt := 16) hx hb dX2_hasFeature_9 (by decide) (fun _ => ?_) (fun c => absurd (by decide) c)
  refine lv_iconst (v := 0) hx hb dX2_hasFeature_16 (by decide) ?_
  have hP9 := hP.sub (ws' := [(h, .inr (2, [.ref a0, .ref a1, .ref a2, .ref a3, .ref a4, .ref a5, .ref a6])), (a0, .inl (cI, 22, .inl (gl [m0, m1, m2, m3, m4, m5, m6, m7, m8, m9, m10, m11, m12, m13, m14, m15, m16, m17, 0, 4, 0, 16])))]) [0, 1] rfl
  have hD9 := hD.sub (ws' := [(h, .inr (2, [.ref a0, .ref a1, .ref a2, .ref a3, .ref a4, .ref a5, .ref a6])), (a0, .inl (cI, 22, .inl (gl [m0, m1, m2, m3, m4, m5, m6, m7, m8, m9, m10, m11, m12, m13, m14, m15, m16, m17, 0, 4, 0, 16])))]) [0, 1] (by decide) rfl
  exact W.zret (v := 0) hx hb hr rfl (fun t ht hW => ⟨⟨0, (), rfl, rfl, by rw [ht]; exact hP9, va_K.moved hW.alike hK, hD9⟩, hS.F ht⟩) hS.2.2 dX2_hasFeature_17

set_option maxHeartbeats 4000000 in
set_option maxRecDepth 100000 in
theorem kkX2_hasFeature_4 (l : Launch) (dC : Nat → ClassId) (dI : Nat → Nat → Nat) (cI cB cZ cR : ClassId) (sz : Nat) (h : Nat) (a0 : Nat) (a1 : Nat) (a2 : Nat) (a3 : Nat) (a4 : Nat) (a5 : Nat) (a6 : Nat) (m0 : Int32) (m1 : Int32) (m2 : Int32) (m3 : Int32) (m4 : Int32) (m5 : Int32) (m6 : Int32) (m7 : Int32) (m8 : Int32) (m9 : Int32) (m10 : Int32) (m11 : Int32) (m12 : Int32) (m13 : Int32) (m14 : Int32) (m15 : Int32) (m16 : Int32) (m17 : Int32) : Met l yX2_hasFeature (.code yX2_hasFeature cX2_hasFeature 2 (some .boolean) :: wsL_law) ({ frames := 0, cells := 0, slots := 0, locals := 0 }) (zPc dC dI (zT cI cB cZ cR) [.ref h, .int 4] sz [(h, .inr (2, [.ref a0, .ref a1, .ref a2, .ref a3, .ref a4, .ref a5, .ref a6])), (a0, .inl (cI, 22, .inl (gl [m0, m1, m2, m3, m4, m5, m6, m7, m8, m9, m10, m11, m12, m13, m14, m15, m16, m17, 0, 4, 0, 16])))]) (va_Qi (fun (r : Int32) (_ : Unit) => r = 0) (fun _ : Unit => zB dC dI (zT cI cB cZ cR) (va_A [(h, .inr (2, [.ref a0, .ref a1, .ref a2, .ref a3, .ref a4, .ref a5, .ref a6])), (a0, .inl (cI, 22, .inl (gl [m0, m1, m2, m3, m4, m5, m6, m7, m8, m9, m10, m11, m12, m13, m14, m15, m16, m17, 0, 4, 0, 16])))] sz) [(h, .inr (2, [.ref a0, .ref a1, .ref a2, .ref a3, .ref a4, .ref a5, .ref a6])), (a0, .inl (cI, 22, .inl (gl [m0, m1, m2, m3, m4, m5, m6, m7, m8, m9, m10, m11, m12, m13, m14, m15, m16, m17, 0, 4, 0, 16])))]) (va_A [(h, .inr (2, [.ref a0, .ref a1, .ref a2, .ref a3, .ref a4, .ref a5, .ref a6])), (a0, .inl (cI, 22, .inl (gl [m0, m1, m2, m3, m4, m5, m6, m7, m8, m9, m10, m11, m12, m13, m14, m15, m16, m17, 0, 4, 0, 16])))] sz)) 0 0 (va_A [(h, .inr (2, [.ref a0, .ref a1, .ref a2, .ref a3, .ref a4, .ref a5, .ref a6])), (a0, .inl (cI, 22, .inl (gl [m0, m1, m2, m3, m4, m5, m6, m7, m8, m9, m10, m11, m12, m13, m14, m15, m16, m17, 0, 4, 0, 16])))] sz) := by
  refine Met.ofW (cc := cX2_hasFeature) (maxL := 2) (ret := (some .boolean)) (by decide) rfl ?_
  intro p e s m args below meth c s₁ B hml hv
  obtain ⟨rfl, hsz, hP, hK, hD0, hN⟩ := hv
  have hx := B.exec
  have hb := B.bytes
  have hr := B.returns
  have hts := atoms_spec (ws := (.code yX2_hasFeature cX2_hasFeature 2 (some .boolean) :: wsL_law)) B.pre
  have hown : s.vm.findClass RX2 = some m.cls := findClass_of_methodNamed B.named
  have hlocks := B.notSynchronized
  have hinX2 : ∀ w ∈ u_ws RX2 TX2 7, w ∈ (.code yX2_hasFeature cX2_hasFeature 2 (some .boolean) :: wsL_law) := fun w h => List.mem_cons_of_mem _ (inlX2 w h)
  have k_0 := hts (.fieldLink RX2 11 "RingMarks$Ring" "marks" "[I") (List.mem_cons_of_mem _ wm_61)
  subst hsz
  have hD := hD0.self (sz := s.heap.size)
  generalize hAe : va_A [(h, .inr (2, [.ref a0, .ref a1, .ref a2, .ref a3, .ref a4, .ref a5, .ref a6])), (a0, .inl (cI, 22, .inl (gl [m0, m1, m2, m3, m4, m5, m6, m7, m8, m9, m10, m11, m12, m13, m14, m15, m16, m17, 0, 4, 0, 16])))] s.heap.size = A at hD ⊢
  have hA : ∀ q : Nat, s.heap.size ≤ q → A q := fun q h => by rw [← hAe]; exact Or.inr h
  have hP : va_P (dC, dI) vwCl [(h, .inr (2, [.ref a0, .ref a1, .ref a2, .ref a3, .ref a4, .ref a5, .ref a6])), (a0, .inl (cI, 22, .inl (gl [m0, m1, m2, m3, m4, m5, m6, m7, m8, m9, m10, m11, m12, m13, m14, m15, m16, m17, 0, 4, 0, 16])))] s.heap := hP
  have hl := lv_entry ([.ref h, .int 4]) (n := 2) (Nat.le_of_ble_eq_true rfl)
  rw [lg_entry_eq]
  generalize (lg_sl ([.ref h, .int 4]) ++ List.replicate (2 - (lg_sl ([.ref h, .int 4])).length) Slot.unset).toArray = ls at hl ⊢
  have hl : lv_has ls 2 [(0, .ref h), (1, .int 4)] := hl
  obtain ⟨H, hH⟩ : ∃ H, H = s.heap := ⟨_, rfl⟩
  rw [← hH] at hP ⊢
  have hS : va_S A s.heap H [] := by rw [hH]; exact va_S.rf
  refine lv_aload_n hx hb dX2_hasFeature_0 rfl (lv_at hl 0 rfl) ?_
  refine va_get (D := (dC, dI)) (ci := 2) (v := .ref a0) (C := RX2) (T := TX2) (N := 7) hx hb hts hinX2 hown hK hP 0 rfl rfl 0 (by decide) k_0 (fun _ h9 => h9) rfl dX2_hasFeature_1 ?_
  refine lv_bipush (v := 20) hx hb dX2_hasFeature_4 (by decide) ?_
  refine za_iald (v := 0) hx hb hK hP 1 0 rfl rfl (zin tn_20 (Nat.le_of_ble_eq_true rfl)) (zrd _ tn_20 rfl) dX2_hasFeature_6 ?_
  refine lv_iload_n hx hb dX2_hasFeature_7 rfl (lv_at hl 1 rfl) ?_
  refine lv_iand hx hb dX2_hasFeature_8 ?_
  refine tp (y := 0) (by decide) ?_
  refine lv_if_eq (tgt := 16) hx hb dX2_hasFeature_9 (by decide) (fun _ => ?_) (fun c => absurd (by decide) c)
  refine lv_iconst (v := 0) hx hb dX2_hasFeature_16 (by decide) ?_
  have hP9 := hP.sub (ws' := [(h, .inr (2, [.ref a0, .ref a1, .ref a2, .ref a3, .ref a4, .ref a5, .ref a6])), (a0, .inl (cI, 22, .inl (gl [m0, m1, m2, m3, m4, m5, m6, m7, m8, m9, m10, m11, m12, m13, m14, m15, m16, m17, 0, 4, 0, 16])))]) [0, 1] rfl
  have hD9 := hD.sub (ws' := [(h, .inr (2, [.ref a0, .ref a1, .ref a2, .ref a3, .ref a4, .ref a5, .ref a6])), (a0, .inl (cI, 22, .inl (gl [m0, m1, m2, m3, m4, m5, m6, m7, m8, m9, m10, m11, m12, m13, m14, m15, m16, m17, 0, 4, 0, 16])))]) [0, 1] (by decide) rfl
  exact W.zret (v := 0) hx hb hr rfl (fun t ht hW => ⟨⟨0, (), rfl, rfl, by rw [ht]; exact hP9, va_K.moved hW.alike hK, hD9⟩, hS.F ht⟩) hS.2.2 dX2_hasFeature_17

set_option maxHeartbeats 4000000 in
set_option maxRecDepth 100000 in
theorem kkX2_places (l : Launch) (dC : Nat → ClassId) (dI : Nat → Nat → Nat) (cI cB cZ cR : ClassId) (sz : Nat) (h : Nat) (a0 : Nat) (a1 : Nat) (a2 : Nat) (a3 : Nat) (a4 : Nat) (a5 : Nat) (a6 : Nat) (m0 : Int32) (m1 : Int32) (m2 : Int32) (m3 : Int32) (m4 : Int32) (m5 : Int32) (m6 : Int32) (m7 : Int32) (m8 : Int32) (m9 : Int32) (m10 : Int32) (m11 : Int32) (m12 : Int32) (m13 : Int32) (m14 : Int32) (m15 : Int32) (m16 : Int32) (m17 : Int32) : Met l yX2_places (.code yX2_places cX2_places 1 (some .int) :: wsL_law) ({ frames := 0, cells := 0, slots := 0, locals := 0 }) (zPc dC dI (zT cI cB cZ cR) [.ref h] sz [(h, .inr (2, [.ref a0, .ref a1, .ref a2, .ref a3, .ref a4, .ref a5, .ref a6])), (a0, .inl (cI, 22, .inl (gl [m0, m1, m2, m3, m4, m5, m6, m7, m8, m9, m10, m11, m12, m13, m14, m15, m16, m17, 0, 4, 0, 16])))]) (va_Qi (fun (r : Int32) (_ : Unit) => r = 4) (fun _ : Unit => zB dC dI (zT cI cB cZ cR) (va_A [(h, .inr (2, [.ref a0, .ref a1, .ref a2, .ref a3, .ref a4, .ref a5, .ref a6])), (a0, .inl (cI, 22, .inl (gl [m0, m1, m2, m3, m4, m5, m6, m7, m8, m9, m10, m11, m12, m13, m14, m15, m16, m17, 0, 4, 0, 16])))] sz) [(h, .inr (2, [.ref a0, .ref a1, .ref a2, .ref a3, .ref a4, .ref a5, .ref a6])), (a0, .inl (cI, 22, .inl (gl [m0, m1, m2, m3, m4, m5, m6, m7, m8, m9, m10, m11, m12, m13, m14, m15, m16, m17, 0, 4, 0, 16])))]) (va_A [(h, .inr (2, [.ref a0, .ref a1, .ref a2, .ref a3, .ref a4, .ref a5, .ref a6])), (a0, .inl (cI, 22, .inl (gl [m0, m1, m2, m3, m4, m5, m6, m7, m8, m9, m10, m11, m12, m13, m14, m15, m16, m17, 0, 4, 0, 16])))] sz)) 0 0 (va_A [(h, .inr (2, [.ref a0, .ref a1, .ref a2, .ref a3, .ref a4, .ref a5, .ref a6])), (a0, .inl (cI, 22, .inl (gl [m0, m1, m2, m3, m4, m5, m6, m7, m8, m9, m10, m11, m12, m13, m14, m15, m16, m17, 0, 4, 0, 16])))] sz) := by
  refine Met.ofW (cc := cX2_places) (maxL := 1) (ret := (some .int)) (by decide) rfl ?_
  intro p e s m args below meth c s₁ B hml hv
  obtain ⟨rfl, hsz, hP, hK, hD0, hN⟩ := hv
  have hx := B.exec
  have hb := B.bytes
  have hr := B.returns
  have hts := atoms_spec (ws := (.code yX2_places cX2_places 1 (some .int) :: wsL_law)) B.pre
  have hown : s.vm.findClass RX2 = some m.cls := findClass_of_methodNamed B.named
  have hlocks := B.notSynchronized
  have hinX2 : ∀ w ∈ u_ws RX2 TX2 7, w ∈ (.code yX2_places cX2_places 1 (some .int) :: wsL_law) := fun w h => List.mem_cons_of_mem _ (inlX2 w h)
  have k_0 := hts (.fieldLink RX2 11 "RingMarks$Ring" "marks" "[I") (List.mem_cons_of_mem _ wm_61)
  subst hsz
  have hD := hD0.self (sz := s.heap.size)
  generalize hAe : va_A [(h, .inr (2, [.ref a0, .ref a1, .ref a2, .ref a3, .ref a4, .ref a5, .ref a6])), (a0, .inl (cI, 22, .inl (gl [m0, m1, m2, m3, m4, m5, m6, m7, m8, m9, m10, m11, m12, m13, m14, m15, m16, m17, 0, 4, 0, 16])))] s.heap.size = A at hD ⊢
  have hA : ∀ q : Nat, s.heap.size ≤ q → A q := fun q h => by rw [← hAe]; exact Or.inr h
  have hP : va_P (dC, dI) vwCl [(h, .inr (2, [.ref a0, .ref a1, .ref a2, .ref a3, .ref a4, .ref a5, .ref a6])), (a0, .inl (cI, 22, .inl (gl [m0, m1, m2, m3, m4, m5, m6, m7, m8, m9, m10, m11, m12, m13, m14, m15, m16, m17, 0, 4, 0, 16])))] s.heap := hP
  have hl := lv_entry ([.ref h]) (n := 1) (Nat.le_of_ble_eq_true rfl)
  rw [lg_entry_eq]
  generalize (lg_sl ([.ref h]) ++ List.replicate (1 - (lg_sl ([.ref h])).length) Slot.unset).toArray = ls at hl ⊢
  have hl : lv_has ls 1 [(0, .ref h)] := hl
  obtain ⟨H, hH⟩ : ∃ H, H = s.heap := ⟨_, rfl⟩
  rw [← hH] at hP ⊢
  have hS : va_S A s.heap H [] := by rw [hH]; exact va_S.rf
  refine lv_aload_n hx hb dX2_places_0 rfl (lv_at hl 0 rfl) ?_
  refine va_get (D := (dC, dI)) (ci := 2) (v := .ref a0) (C := RX2) (T := TX2) (N := 7) hx hb hts hinX2 hown hK hP 0 rfl rfl 0 (by decide) k_0 (fun _ h9 => h9) rfl dX2_places_1 ?_
  refine lv_bipush (v := 19) hx hb dX2_places_4 (by decide) ?_
  refine za_iald (v := 4) hx hb hK hP 1 0 rfl rfl (zin tn_19 (Nat.le_of_ble_eq_true rfl)) (zrd _ tn_19 rfl) dX2_places_6 ?_
  have hP9 := hP.sub (ws' := [(h, .inr (2, [.ref a0, .ref a1, .ref a2, .ref a3, .ref a4, .ref a5, .ref a6])), (a0, .inl (cI, 22, .inl (gl [m0, m1, m2, m3, m4, m5, m6, m7, m8, m9, m10, m11, m12, m13, m14, m15, m16, m17, 0, 4, 0, 16])))]) [0, 1] rfl
  have hD9 := hD.sub (ws' := [(h, .inr (2, [.ref a0, .ref a1, .ref a2, .ref a3, .ref a4, .ref a5, .ref a6])), (a0, .inl (cI, 22, .inl (gl [m0, m1, m2, m3, m4, m5, m6, m7, m8, m9, m10, m11, m12, m13, m14, m15, m16, m17, 0, 4, 0, 16])))]) [0, 1] (by decide) rfl
  exact W.iret (v := 4) hx hb hr (fun t ht hW => ⟨⟨4, (), rfl, rfl, by rw [ht]; exact hP9, va_K.moved hW.alike hK, hD9⟩, hS.F ht⟩) hS.2.2 dX2_places_7

set_option maxHeartbeats 4000000 in
set_option maxRecDepth 100000 in
theorem kkX2_wrapsAt (l : Launch) (dC : Nat → ClassId) (dI : Nat → Nat → Nat) (cI cB cZ cR : ClassId) (sz : Nat) (h : Nat) (a0 : Nat) (a1 : Nat) (a2 : Nat) (a3 : Nat) (a4 : Nat) (a5 : Nat) (a6 : Nat) (m0 : Int32) (m1 : Int32) (m2 : Int32) (m3 : Int32) (m4 : Int32) (m5 : Int32) (m6 : Int32) (m7 : Int32) (m8 : Int32) (m9 : Int32) (m10 : Int32) (m11 : Int32) (m12 : Int32) (m13 : Int32) (m14 : Int32) (m15 : Int32) (m16 : Int32) (m17 : Int32) : Met l yX2_wrapsAt (.code yX2_wrapsAt cX2_wrapsAt 1 (some .int) :: wsL_law) ({ frames := 0, cells := 0, slots := 0, locals := 0 }) (zPc dC dI (zT cI cB cZ cR) [.ref h] sz [(h, .inr (2, [.ref a0, .ref a1, .ref a2, .ref a3, .ref a4, .ref a5, .ref a6])), (a0, .inl (cI, 22, .inl (gl [m0, m1, m2, m3, m4, m5, m6, m7, m8, m9, m10, m11, m12, m13, m14, m15, m16, m17, 0, 4, 0, 16])))]) (va_Qi (fun (r : Int32) (_ : Unit) => r = 16) (fun _ : Unit => zB dC dI (zT cI cB cZ cR) (va_A [(h, .inr (2, [.ref a0, .ref a1, .ref a2, .ref a3, .ref a4, .ref a5, .ref a6])), (a0, .inl (cI, 22, .inl (gl [m0, m1, m2, m3, m4, m5, m6, m7, m8, m9, m10, m11, m12, m13, m14, m15, m16, m17, 0, 4, 0, 16])))] sz) [(h, .inr (2, [.ref a0, .ref a1, .ref a2, .ref a3, .ref a4, .ref a5, .ref a6])), (a0, .inl (cI, 22, .inl (gl [m0, m1, m2, m3, m4, m5, m6, m7, m8, m9, m10, m11, m12, m13, m14, m15, m16, m17, 0, 4, 0, 16])))]) (va_A [(h, .inr (2, [.ref a0, .ref a1, .ref a2, .ref a3, .ref a4, .ref a5, .ref a6])), (a0, .inl (cI, 22, .inl (gl [m0, m1, m2, m3, m4, m5, m6, m7, m8, m9, m10, m11, m12, m13, m14, m15, m16, m17, 0, 4, 0, 16])))] sz)) 0 0 (va_A [(h, .inr (2, [.ref a0, .ref a1, .ref a2, .ref a3, .ref a4, .ref a5, .ref a6])), (a0, .inl (cI, 22, .inl (gl [m0, m1, m2, m3, m4, m5, m6, m7, m8, m9, m10, m11, m12, m13, m14, m15, m16, m17, 0, 4, 0, 16])))] sz) := by
  refine Met.ofW (cc := cX2_wrapsAt) (maxL := 1) (ret := (some .int)) (by decide) rfl ?_
  intro p e s m args below meth c s₁ B hml hv
  obtain ⟨rfl, hsz, hP, hK, hD0, hN⟩ := hv
  have hx := B.exec
  have hb := B.bytes
  have hr := B.returns
  have hts := atoms_spec (ws := (.code yX2_wrapsAt cX2_wrapsAt 1 (some .int) :: wsL_law)) B.pre
  have hown : s.vm.findClass RX2 = some m.cls := findClass_of_methodNamed B.named
  have hlocks := B.notSynchronized
  have hinX2 : ∀ w ∈ u_ws RX2 TX2 7, w ∈ (.code yX2_wrapsAt cX2_wrapsAt 1 (some .int) :: wsL_law) := fun w h => List.mem_cons_of_mem _ (inlX2 w h)
  have k_0 := hts (.fieldLink RX2 11 "RingMarks$Ring" "marks" "[I") (List.mem_cons_of_mem _ wm_61)
  subst hsz
  have hD := hD0.self (sz := s.heap.size)
  generalize hAe : va_A [(h, .inr (2, [.ref a0, .ref a1, .ref a2, .ref a3, .ref a4, .ref a5, .ref a6])), (a0, .inl (cI, 22, .inl (gl [m0, m1, m2, m3, m4, m5, m6, m7, m8, m9, m10, m11, m12, m13, m14, m15, m16, m17, 0, 4, 0, 16])))] s.heap.size = A at hD ⊢
  have hA : ∀ q : Nat, s.heap.size ≤ q → A q := fun q h => by rw [← hAe]; exact Or.inr h
  have hP : va_P (dC, dI) vwCl [(h, .inr (2, [.ref a0, .ref a1, .ref a2, .ref a3, .ref a4, .ref a5, .ref a6])), (a0, .inl (cI, 22, .inl (gl [m0, m1, m2, m3, m4, m5, m6, m7, m8, m9, m10, m11, m12, m13, m14, m15, m16, m17, 0, 4, 0, 16])))] s.heap := hP
  have hl := lv_entry ([.ref h]) (n := 1) (Nat.le_of_ble_eq_true rfl)
  rw [lg_entry_eq]
  generalize (lg_sl ([.ref h]) ++ List.replicate (1 - (lg_sl ([.ref h])).length) Slot.unset).toArray = ls at hl ⊢
  have hl : lv_has ls 1 [(0, .ref h)] := hl
  obtain ⟨H, hH⟩ : ∃ H, H = s.heap := ⟨_, rfl⟩
  rw [← hH] at hP ⊢
  have hS : va_S A s.heap H [] := by rw [hH]; exact va_S.rf
  refine lv_aload_n hx hb dX2_wrapsAt_0 rfl (lv_at hl 0 rfl) ?_
  refine va_get (D := (dC, dI)) (ci := 2) (v := .ref a0) (C := RX2) (T := TX2) (N := 7) hx hb hts hinX2 hown hK hP 0 rfl rfl 0 (by decide) k_0 (fun _ h9 => h9) rfl dX2_wrapsAt_1 ?_
  refine lv_bipush (v := 21) hx hb dX2_wrapsAt_4 (by decide) ?_
  refine za_iald (v := 16) hx hb hK hP 1 0 rfl rfl (zin tn_21 (Nat.le_of_ble_eq_true rfl)) (zrd _ tn_21 rfl) dX2_wrapsAt_6 ?_
  have hP9 := hP.sub (ws' := [(h, .inr (2, [.ref a0, .ref a1, .ref a2, .ref a3, .ref a4, .ref a5, .ref a6])), (a0, .inl (cI, 22, .inl (gl [m0, m1, m2, m3, m4, m5, m6, m7, m8, m9, m10, m11, m12, m13, m14, m15, m16, m17, 0, 4, 0, 16])))]) [0, 1] rfl
  have hD9 := hD.sub (ws' := [(h, .inr (2, [.ref a0, .ref a1, .ref a2, .ref a3, .ref a4, .ref a5, .ref a6])), (a0, .inl (cI, 22, .inl (gl [m0, m1, m2, m3, m4, m5, m6, m7, m8, m9, m10, m11, m12, m13, m14, m15, m16, m17, 0, 4, 0, 16])))]) [0, 1] (by decide) rfl
  exact W.iret (v := 16) hx hb hr (fun t ht hW => ⟨⟨16, (), rfl, rfl, by rw [ht]; exact hP9, va_K.moved hW.alike hK, hD9⟩, hS.F ht⟩) hS.2.2 dX2_wrapsAt_7

set_option maxHeartbeats 4000000 in
set_option maxRecDepth 100000 in
theorem kkX2_placeOf (l : Launch) (dC : Nat → ClassId) (dI : Nat → Nat → Nat) (cI cB cZ cR : ClassId) (sz : Nat) (h : Nat) (a0 : Nat) (a1 : Nat) (a2 : Nat) (a3 : Nat) (a4 : Nat) (a5 : Nat) (a6 : Nat) (m0 : Int32) (m1 : Int32) (m2 : Int32) (m3 : Int32) (m4 : Int32) (m5 : Int32) (m6 : Int32) (m7 : Int32) (m8 : Int32) (m9 : Int32) (m10 : Int32) (m11 : Int32) (m12 : Int32) (m13 : Int32) (m14 : Int32) (m15 : Int32) (m16 : Int32) (m17 : Int32) (p1 : Int32) : Met l yX2_placeOf (.code yX2_placeOf cX2_placeOf 2 (some .int) :: wsL_law) ({ frames := 0, cells := 0, slots := 0, locals := 0 }) (zPc dC dI (zT cI cB cZ cR) [.ref h, .int p1] sz [(h, .inr (2, [.ref a0, .ref a1, .ref a2, .ref a3, .ref a4, .ref a5, .ref a6])), (a0, .inl (cI, 22, .inl (gl [m0, m1, m2, m3, m4, m5, m6, m7, m8, m9, m10, m11, m12, m13, m14, m15, m16, m17, 0, 4, 0, 16])))]) (va_Qi (fun (r : Int32) (_ : Unit) => r = (p1 &&& 3)) (fun _ : Unit => zB dC dI (zT cI cB cZ cR) (va_A [(h, .inr (2, [.ref a0, .ref a1, .ref a2, .ref a3, .ref a4, .ref a5, .ref a6])), (a0, .inl (cI, 22, .inl (gl [m0, m1, m2, m3, m4, m5, m6, m7, m8, m9, m10, m11, m12, m13, m14, m15, m16, m17, 0, 4, 0, 16])))] sz) [(h, .inr (2, [.ref a0, .ref a1, .ref a2, .ref a3, .ref a4, .ref a5, .ref a6])), (a0, .inl (cI, 22, .inl (gl [m0, m1, m2, m3, m4, m5, m6, m7, m8, m9, m10, m11, m12, m13, m14, m15, m16, m17, 0, 4, 0, 16])))]) (va_A [(h, .inr (2, [.ref a0, .ref a1, .ref a2, .ref a3, .ref a4, .ref a5, .ref a6])), (a0, .inl (cI, 22, .inl (gl [m0, m1, m2, m3, m4, m5, m6, m7, m8, m9, m10, m11, m12, m13, m14, m15, m16, m17, 0, 4, 0, 16])))] sz)) 0 0 (va_A [(h, .inr (2, [.ref a0, .ref a1, .ref a2, .ref a3, .ref a4, .ref a5, .ref a6])), (a0, .inl (cI, 22, .inl (gl [m0, m1, m2, m3, m4, m5, m6, m7, m8, m9, m10, m11, m12, m13, m14, m15, m16, m17, 0, 4, 0, 16])))] sz) := by
  refine Met.ofW (cc := cX2_placeOf) (maxL := 2) (ret := (some .int)) (by decide) rfl ?_
  intro p e s m args below meth c s₁ B hml hv
  obtain ⟨rfl, hsz, hP, hK, hD0, hN⟩ := hv
  have hx := B.exec
  have hb := B.bytes
  have hr := B.returns
  have hts := atoms_spec (ws := (.code yX2_placeOf cX2_placeOf 2 (some .int) :: wsL_law)) B.pre
  have hown : s.vm.findClass RX2 = some m.cls := findClass_of_methodNamed B.named
  have hlocks := B.notSynchronized
  have hinX2 : ∀ w ∈ u_ws RX2 TX2 7, w ∈ (.code yX2_placeOf cX2_placeOf 2 (some .int) :: wsL_law) := fun w h => List.mem_cons_of_mem _ (inlX2 w h)
  have k_0 := hts (.fieldLink RX2 11 "RingMarks$Ring" "marks" "[I") (List.mem_cons_of_mem _ wm_61)
  subst hsz
  have hD := hD0.self (sz := s.heap.size)
  generalize hAe : va_A [(h, .inr (2, [.ref a0, .ref a1, .ref a2, .ref a3, .ref a4, .ref a5, .ref a6])), (a0, .inl (cI, 22, .inl (gl [m0, m1, m2, m3, m4, m5, m6, m7, m8, m9, m10, m11, m12, m13, m14, m15, m16, m17, 0, 4, 0, 16])))] s.heap.size = A at hD ⊢
  have hA : ∀ q : Nat, s.heap.size ≤ q → A q := fun q h => by rw [← hAe]; exact Or.inr h
  have hP : va_P (dC, dI) vwCl [(h, .inr (2, [.ref a0, .ref a1, .ref a2, .ref a3, .ref a4, .ref a5, .ref a6])), (a0, .inl (cI, 22, .inl (gl [m0, m1, m2, m3, m4, m5, m6, m7, m8, m9, m10, m11, m12, m13, m14, m15, m16, m17, 0, 4, 0, 16])))] s.heap := hP
  have hl := lv_entry ([.ref h, .int p1]) (n := 2) (Nat.le_of_ble_eq_true rfl)
  rw [lg_entry_eq]
  generalize (lg_sl ([.ref h, .int p1]) ++ List.replicate (2 - (lg_sl ([.ref h, .int p1])).length) Slot.unset).toArray = ls at hl ⊢
  have hl : lv_has ls 2 [(0, .ref h), (1, .int p1)] := hl
  obtain ⟨H, hH⟩ : ∃ H, H = s.heap := ⟨_, rfl⟩
  rw [← hH] at hP ⊢
  have hS : va_S A s.heap H [] := by rw [hH]; exact va_S.rf
  refine lv_iload_n hx hb dX2_placeOf_0 rfl (lv_at hl 1 rfl) ?_
  refine lv_aload_n hx hb dX2_placeOf_1 rfl (lv_at hl 0 rfl) ?_
  refine va_get (D := (dC, dI)) (ci := 2) (v := .ref a0) (C := RX2) (T := TX2) (N := 7) hx hb hts hinX2 hown hK hP 0 rfl rfl 0 (by decide) k_0 (fun _ h9 => h9) rfl dX2_placeOf_2 ?_
  refine lv_bipush (v := 19) hx hb dX2_placeOf_5 (by decide) ?_
  refine za_iald (v := 4) hx hb hK hP 1 0 rfl rfl (zin tn_19 (Nat.le_of_ble_eq_true rfl)) (zrd _ tn_19 rfl) dX2_placeOf_7 ?_
  refine lv_iconst (v := 1) hx hb dX2_placeOf_8 (by decide) ?_
  refine lv_isub hx hb dX2_placeOf_9 ?_
  refine tp (y := 3) (by decide) ?_
  refine lv_iand hx hb dX2_placeOf_10 ?_
  have hP9 := hP.sub (ws' := [(h, .inr (2, [.ref a0, .ref a1, .ref a2, .ref a3, .ref a4, .ref a5, .ref a6])), (a0, .inl (cI, 22, .inl (gl [m0, m1, m2, m3, m4, m5, m6, m7, m8, m9, m10, m11, m12, m13, m14, m15, m16, m17, 0, 4, 0, 16])))]) [0, 1] rfl
  have hD9 := hD.sub (ws' := [(h, .inr (2, [.ref a0, .ref a1, .ref a2, .ref a3, .ref a4, .ref a5, .ref a6])), (a0, .inl (cI, 22, .inl (gl [m0, m1, m2, m3, m4, m5, m6, m7, m8, m9, m10, m11, m12, m13, m14, m15, m16, m17, 0, 4, 0, 16])))]) [0, 1] (by decide) rfl
  exact W.iret (v := (p1 &&& 3)) hx hb hr (fun t ht hW => ⟨⟨(p1 &&& 3), (), rfl, rfl, by rw [ht]; exact hP9, va_K.moved hW.alike hK, hD9⟩, hS.F ht⟩) hS.2.2 dX2_placeOf_11

set_option maxHeartbeats 4000000 in
set_option maxRecDepth 100000 in
theorem kkX2_moved (l : Launch) (dC : Nat → ClassId) (dI : Nat → Nat → Nat) (cI cB cZ cR : ClassId) (sz : Nat) (h : Nat) (a0 : Nat) (a1 : Nat) (a2 : Nat) (a3 : Nat) (a4 : Nat) (a5 : Nat) (a6 : Nat) (m0 : Int32) (m1 : Int32) (m2 : Int32) (m3 : Int32) (m4 : Int32) (m5 : Int32) (m6 : Int32) (m7 : Int32) (m8 : Int32) (m9 : Int32) (m10 : Int32) (m11 : Int32) (m12 : Int32) (m13 : Int32) (m14 : Int32) (m15 : Int32) (m16 : Int32) (m17 : Int32) (p1 : Int32) (p2 : Int32) : Met l yX2_moved (.code yX2_moved cX2_moved 3 (some .int) :: wsL_law) ({ frames := 0, cells := 0, slots := 0, locals := 0 }) (zPc dC dI (zT cI cB cZ cR) [.ref h, .int p1, .int p2] sz [(h, .inr (2, [.ref a0, .ref a1, .ref a2, .ref a3, .ref a4, .ref a5, .ref a6])), (a0, .inl (cI, 22, .inl (gl [m0, m1, m2, m3, m4, m5, m6, m7, m8, m9, m10, m11, m12, m13, m14, m15, m16, m17, 0, 4, 0, 16])))]) (va_Qi (fun (r : Int32) (_ : Unit) => r = ((p1 + p2) &&& 15)) (fun _ : Unit => zB dC dI (zT cI cB cZ cR) (va_A [(h, .inr (2, [.ref a0, .ref a1, .ref a2, .ref a3, .ref a4, .ref a5, .ref a6])), (a0, .inl (cI, 22, .inl (gl [m0, m1, m2, m3, m4, m5, m6, m7, m8, m9, m10, m11, m12, m13, m14, m15, m16, m17, 0, 4, 0, 16])))] sz) [(h, .inr (2, [.ref a0, .ref a1, .ref a2, .ref a3, .ref a4, .ref a5, .ref a6])), (a0, .inl (cI, 22, .inl (gl [m0, m1, m2, m3, m4, m5, m6, m7, m8, m9, m10, m11, m12, m13, m14, m15, m16, m17, 0, 4, 0, 16])))]) (va_A [(h, .inr (2, [.ref a0, .ref a1, .ref a2, .ref a3, .ref a4, .ref a5, .ref a6])), (a0, .inl (cI, 22, .inl (gl [m0, m1, m2, m3, m4, m5, m6, m7, m8, m9, m10, m11, m12, m13, m14, m15, m16, m17, 0, 4, 0, 16])))] sz)) 0 0 (va_A [(h, .inr (2, [.ref a0, .ref a1, .ref a2, .ref a3, .ref a4, .ref a5, .ref a6])), (a0, .inl (cI, 22, .inl (gl [m0, m1, m2, m3, m4, m5, m6, m7, m8, m9, m10, m11, m12, m13, m14, m15, m16, m17, 0, 4, 0, 16])))] sz) := by
  refine Met.ofW (cc := cX2_moved) (maxL := 3) (ret := (some .int)) (by decide) rfl ?_
  intro p e s m args below meth c s₁ B hml hv
  obtain ⟨rfl, hsz, hP, hK, hD0, hN⟩ := hv
  have hx := B.exec
  have hb := B.bytes
  have hr := B.returns
  have hts := atoms_spec (ws := (.code yX2_moved cX2_moved 3 (some .int) :: wsL_law)) B.pre
  have hown : s.vm.findClass RX2 = some m.cls := findClass_of_methodNamed B.named
  have hlocks := B.notSynchronized
  have hinX2 : ∀ w ∈ u_ws RX2 TX2 7, w ∈ (.code yX2_moved cX2_moved 3 (some .int) :: wsL_law) := fun w h => List.mem_cons_of_mem _ (inlX2 w h)
  have k_0 := hts (.fieldLink RX2 11 "RingMarks$Ring" "marks" "[I") (List.mem_cons_of_mem _ wm_61)
  subst hsz
  have hD := hD0.self (sz := s.heap.size)
  generalize hAe : va_A [(h, .inr (2, [.ref a0, .ref a1, .ref a2, .ref a3, .ref a4, .ref a5, .ref a6])), (a0, .inl (cI, 22, .inl (gl [m0, m1, m2, m3, m4, m5, m6, m7, m8, m9, m10, m11, m12, m13, m14, m15, m16, m17, 0, 4, 0, 16])))] s.heap.size = A at hD ⊢
  have hA : ∀ q : Nat, s.heap.size ≤ q → A q := fun q h => by rw [← hAe]; exact Or.inr h
  have hP : va_P (dC, dI) vwCl [(h, .inr (2, [.ref a0, .ref a1, .ref a2, .ref a3, .ref a4, .ref a5, .ref a6])), (a0, .inl (cI, 22, .inl (gl [m0, m1, m2, m3, m4, m5, m6, m7, m8, m9, m10, m11, m12, m13, m14, m15, m16, m17, 0, 4, 0, 16])))] s.heap := hP
  have hl := lv_entry ([.ref h, .int p1, .int p2]) (n := 3) (Nat.le_of_ble_eq_true rfl)
  rw [lg_entry_eq]
  generalize (lg_sl ([.ref h, .int p1, .int p2]) ++ List.replicate (3 - (lg_sl ([.ref h, .int p1, .int p2])).length) Slot.unset).toArray = ls at hl ⊢
  have hl : lv_has ls 3 [(0, .ref h), (1, .int p1), (2, .int p2)] := hl
  obtain ⟨H, hH⟩ : ∃ H, H = s.heap := ⟨_, rfl⟩
  rw [← hH] at hP ⊢
  have hS : va_S A s.heap H [] := by rw [hH]; exact va_S.rf
  refine lv_iload_n hx hb dX2_moved_0 rfl (lv_at hl 1 rfl) ?_
  refine lv_iload_n hx hb dX2_moved_1 rfl (lv_at hl 2 rfl) ?_
  refine lv_iadd hx hb dX2_moved_2 ?_
  refine lv_aload_n hx hb dX2_moved_3 rfl (lv_at hl 0 rfl) ?_
  refine va_get (D := (dC, dI)) (ci := 2) (v := .ref a0) (C := RX2) (T := TX2) (N := 7) hx hb hts hinX2 hown hK hP 0 rfl rfl 0 (by decide) k_0 (fun _ h9 => h9) rfl dX2_moved_4 ?_
  refine lv_bipush (v := 21) hx hb dX2_moved_7 (by decide) ?_
  refine za_iald (v := 16) hx hb hK hP 1 0 rfl rfl (zin tn_21 (Nat.le_of_ble_eq_true rfl)) (zrd _ tn_21 rfl) dX2_moved_9 ?_
  refine lv_iconst (v := 1) hx hb dX2_moved_10 (by decide) ?_
  refine lv_isub hx hb dX2_moved_11 ?_
  refine tp (y := 15) (by decide) ?_
  refine lv_iand hx hb dX2_moved_12 ?_
  have hP9 := hP.sub (ws' := [(h, .inr (2, [.ref a0, .ref a1, .ref a2, .ref a3, .ref a4, .ref a5, .ref a6])), (a0, .inl (cI, 22, .inl (gl [m0, m1, m2, m3, m4, m5, m6, m7, m8, m9, m10, m11, m12, m13, m14, m15, m16, m17, 0, 4, 0, 16])))]) [0, 1] rfl
  have hD9 := hD.sub (ws' := [(h, .inr (2, [.ref a0, .ref a1, .ref a2, .ref a3, .ref a4, .ref a5, .ref a6])), (a0, .inl (cI, 22, .inl (gl [m0, m1, m2, m3, m4, m5, m6, m7, m8, m9, m10, m11, m12, m13, m14, m15, m16, m17, 0, 4, 0, 16])))]) [0, 1] (by decide) rfl
  exact W.iret (v := ((p1 + p2) &&& 15)) hx hb hr (fun t ht hW => ⟨⟨((p1 + p2) &&& 15), (), rfl, rfl, by rw [ht]; exact hP9, va_K.moved hW.alike hK, hD9⟩, hS.F ht⟩) hS.2.2 dX2_moved_13

def pfX2_isPassed_r (p1 : Int32) (p2 : Int32) (p3 : Int32) : Int32 := if ((p3 - p2) &&& 15) ≤ (((p3 - p1) - 1) &&& 15) then 0 else 1
set_option maxHeartbeats 4000000 in
set_option maxRecDepth 100000 in
theorem kkX2_isPassed (l : Launch) (dC : Nat → ClassId) (dI : Nat → Nat → Nat) (cI cB cZ cR : ClassId) (sz : Nat) (p1 : Int32) (p2 : Int32) (p3 : Int32) : Met l yX2_isPassed (.code yX2_isPassed cX2_isPassed 4 (some .boolean) :: wsL_law) ({ frames := 0, cells := 0, slots := 0, locals := 0 }) (zPc dC dI (zT cI cB cZ cR) [.int p1, .int p2, .int p3, .int 16] sz []) (va_Qi (fun (r : Int32) (_ : Unit) => r = (pfX2_isPassed_r p1 p2 p3)) (fun _ : Unit => zB dC dI (zT cI cB cZ cR) (va_A [] sz) []) (va_A [] sz)) 0 0 (va_A [] sz) := by
  refine Met.ofW (cc := cX2_isPassed) (maxL := 4) (ret := (some .boolean)) (by decide) rfl ?_
  intro p e s m args below meth c s₁ B hml hv
  obtain ⟨rfl, hsz, hP, hK, hD0, hN⟩ := hv
  have hx := B.exec
  have hb := B.bytes
  have hr := B.returns
  have hts := atoms_spec (ws := (.code yX2_isPassed cX2_isPassed 4 (some .boolean) :: wsL_law)) B.pre
  have hown : s.vm.findClass RX2 = some m.cls := findClass_of_methodNamed B.named
  have hlocks := B.notSynchronized
  subst hsz
  have hD := hD0.self (sz := s.heap.size)
  generalize hAe : va_A [] s.heap.size = A at hD ⊢
  have hA : ∀ q : Nat, s.heap.size ≤ q → A q := fun q h => by rw [← hAe]; exact Or.inr h
  have hP : va_P (dC, dI) vwCl [] s.heap := hP
  have hl := lv_entry ([.int p1, .int p2, .int p3, .int 16]) (n := 4) (Nat.le_of_ble_eq_true rfl)
  rw [lg_entry_eq]
  generalize (lg_sl ([.int p1, .int p2, .int p3, .int 16]) ++ List.replicate (4 - (lg_sl ([.int p1, .int p2, .int p3, .int 16])).length) Slot.unset).toArray = ls at hl ⊢
  have hl : lv_has ls 4 [(0, .int p1), (1, .int p2), (2, .int p3), (3, .int 16)] := hl
  obtain ⟨H, hH⟩ : ∃ H, H = s.heap := ⟨_, rfl⟩
  rw [← hH] at hP ⊢
  have hS : va_S A s.heap H [] := by rw [hH]; exact va_S.rf
  refine lv_iload_n hx hb dX2_isPassed_0 rfl (lv_at hl 2 rfl) ?_
  refine lv_iload_n hx hb dX2_isPassed_1 rfl (lv_at hl 0 rfl) ?_
  refine lv_isub hx hb dX2_isPassed_2 ?_
  refine lv_iconst (v := 1) hx hb dX2_isPassed_3 (by decide) ?_
  refine lv_isub hx hb dX2_isPassed_4 ?_
  refine lv_iload_n hx hb dX2_isPassed_5 rfl (lv_at hl 3 rfl) ?_
  refine lv_iconst (v := 1) hx hb dX2_isPassed_6 (by decide) ?_
  refine lv_isub hx hb dX2_isPassed_7 ?_
  refine tp (y := 15) (by decide) ?_
  refine lv_iand hx hb dX2_isPassed_8 ?_
  refine lv_iload_n hx hb dX2_isPassed_9 rfl (lv_at hl 2 rfl) ?_
  refine lv_iload_n hx hb dX2_isPassed_10 rfl (lv_at hl 1 rfl) ?_
  refine lv_isub hx hb dX2_isPassed_11 ?_
  refine lv_iload_n hx hb dX2_isPassed_12 rfl (lv_at hl 3 rfl) ?_
  refine lv_iconst (v := 1) hx hb dX2_isPassed_13 (by decide) ?_
  refine lv_isub hx hb dX2_isPassed_14 ?_
  refine tp (y := 15) (by decide) ?_
  refine lv_iand hx hb dX2_isPassed_15 ?_
  refine lv_icmp_ge (tgt := 23) hx hb dX2_isPassed_16 (by decide) (fun c_1 => ?_) (fun c_1 => ?_)
  · refine lv_iconst (v := 0) hx hb dX2_isPassed_23 (by decide) ?_
    have e_0 : (pfX2_isPassed_r p1 p2 p3) = 0 := by rw [pfX2_isPassed_r, if_pos c_1]
    have hP9 := hP.sub (ws' := []) [] rfl
    have hD9 := hD.sub (ws' := []) [] (by decide) rfl
    exact W.zret (v := 0) hx hb hr rfl (fun t ht hW => ⟨⟨0, (), rfl, e_0.symm, by rw [ht]; exact hP9, va_K.moved hW.alike hK, hD9⟩, hS.F ht⟩) hS.2.2 dX2_isPassed_24
  · refine lv_iconst (v := 1) hx hb dX2_isPassed_19 (by decide) ?_
    refine lv_goto (tgt := 24) hx hb dX2_isPassed_20 (by decide) ?_
    have e_0 : (pfX2_isPassed_r p1 p2 p3) = 1 := by rw [pfX2_isPassed_r, if_neg c_1]
    have hP9 := hP.sub (ws' := []) [] rfl
    have hD9 := hD.sub (ws' := []) [] (by decide) rfl
    exact W.zret (v := 1) hx hb hr rfl (fun t ht hW => ⟨⟨1, (), rfl, e_0.symm, by rw [ht]; exact hP9, va_K.moved hW.alike hK, hD9⟩, hS.F ht⟩) hS.2.2 dX2_isPassed_24

def pfX2_sizeOf_r (p1 : Int32) : Int32 := if p1 < 0 then (-1) else (if 5 ≤ p1 then (-1) else ((gl [4, 0, 0, 0, 0]) (Int32.toNatClampNeg p1)))
set_option maxHeartbeats 4000000 in
set_option maxRecDepth 100000 in
theorem kkX2_sizeOf (l : Launch) (dC : Nat → ClassId) (dI : Nat → Nat → Nat) (cI cB cZ cR : ClassId) (sz : Nat) (h : Nat) (a0 : Nat) (a1 : Nat) (a2 : Nat) (a3 : Nat) (a4 : Nat) (a5 : Nat) (a6 : Nat) (p1 : Int32) : Met l yX2_sizeOf (.code yX2_sizeOf cX2_sizeOf 2 (some .int) :: wsL_law) ({ frames := 0, cells := 0, slots := 0, locals := 0 }) (zPc dC dI (zT cI cB cZ cR) [.ref h, .int p1] sz [(h, .inr (2, [.ref a0, .ref a1, .ref a2, .ref a3, .ref a4, .ref a5, .ref a6])), (a2, .inl (cI, 5, .inl (gl [4, 0, 0, 0, 0])))]) (va_Qi (fun (r : Int32) (_ : Unit) => r = (pfX2_sizeOf_r p1)) (fun _ : Unit => zB dC dI (zT cI cB cZ cR) (va_A [(h, .inr (2, [.ref a0, .ref a1, .ref a2, .ref a3, .ref a4, .ref a5, .ref a6])), (a2, .inl (cI, 5, .inl (gl [4, 0, 0, 0, 0])))] sz) [(h, .inr (2, [.ref a0, .ref a1, .ref a2, .ref a3, .ref a4, .ref a5, .ref a6])), (a2, .inl (cI, 5, .inl (gl [4, 0, 0, 0, 0])))]) (va_A [(h, .inr (2, [.ref a0, .ref a1, .ref a2, .ref a3, .ref a4, .ref a5, .ref a6])), (a2, .inl (cI, 5, .inl (gl [4, 0, 0, 0, 0])))] sz)) 0 0 (va_A [(h, .inr (2, [.ref a0, .ref a1, .ref a2, .ref a3, .ref a4, .ref a5, .ref a6])), (a2, .inl (cI, 5, .inl (gl [4, 0, 0, 0, 0])))] sz) := by
  refine Met.ofW (cc := cX2_sizeOf) (maxL := 2) (ret := (some .int)) (by decide) rfl ?_
  intro p e s m args below meth c s₁ B hml hv
  obtain ⟨rfl, hsz, hP, hK, hD0, hN⟩ := hv
  have hx := B.exec
  have hb := B.bytes
  have hr := B.returns
  have hts := atoms_spec (ws := (.code yX2_sizeOf cX2_sizeOf 2 (some .int) :: wsL_law)) B.pre
  have hown : s.vm.findClass RX2 = some m.cls := findClass_of_methodNamed B.named
  have hlocks := B.notSynchronized
  have hinX2 : ∀ w ∈ u_ws RX2 TX2 7, w ∈ (.code yX2_sizeOf cX2_sizeOf 2 (some .int) :: wsL_law) := fun w h => List.mem_cons_of_mem _ (inlX2 w h)
  have k_0 := hts (.fieldLink RX2 18 "RingMarks$Ring" "sizes" "[I") (List.mem_cons_of_mem _ wm_63)
  subst hsz
  have hD := hD0.self (sz := s.heap.size)
  generalize hAe : va_A [(h, .inr (2, [.ref a0, .ref a1, .ref a2, .ref a3, .ref a4, .ref a5, .ref a6])), (a2, .inl (cI, 5, .inl (gl [4, 0, 0, 0, 0])))] s.heap.size = A at hD ⊢
  have hA : ∀ q : Nat, s.heap.size ≤ q → A q := fun q h => by rw [← hAe]; exact Or.inr h
  have hP : va_P (dC, dI) vwCl [(h, .inr (2, [.ref a0, .ref a1, .ref a2, .ref a3, .ref a4, .ref a5, .ref a6])), (a2, .inl (cI, 5, .inl (gl [4, 0, 0, 0, 0])))] s.heap := hP
  have hl := lv_entry ([.ref h, .int p1]) (n := 2) (Nat.le_of_ble_eq_true rfl)
  rw [lg_entry_eq]
  generalize (lg_sl ([.ref h, .int p1]) ++ List.replicate (2 - (lg_sl ([.ref h, .int p1])).length) Slot.unset).toArray = ls at hl ⊢
  have hl : lv_has ls 2 [(0, .ref h), (1, .int p1)] := hl
  obtain ⟨H, hH⟩ : ∃ H, H = s.heap := ⟨_, rfl⟩
  rw [← hH] at hP ⊢
  have hS : va_S A s.heap H [] := by rw [hH]; exact va_S.rf
  refine lv_iload_n hx hb dX2_sizeOf_0 rfl (lv_at hl 1 rfl) ?_
  refine lv_if_lt (tgt := 18) hx hb dX2_sizeOf_1 (by decide) (fun c_1 => ?_) (fun c_1 => ?_)
  · refine lv_iconst (v := (-1)) hx hb dX2_sizeOf_18 (by decide) ?_
    have e_0 : (pfX2_sizeOf_r p1) = (-1) := by rw [pfX2_sizeOf_r, if_pos c_1]
    have hP9 := hP.sub (ws' := [(h, .inr (2, [.ref a0, .ref a1, .ref a2, .ref a3, .ref a4, .ref a5, .ref a6])), (a2, .inl (cI, 5, .inl (gl [4, 0, 0, 0, 0])))]) [0, 1] rfl
    have hD9 := hD.sub (ws' := [(h, .inr (2, [.ref a0, .ref a1, .ref a2, .ref a3, .ref a4, .ref a5, .ref a6])), (a2, .inl (cI, 5, .inl (gl [4, 0, 0, 0, 0])))]) [0, 1] (by decide) rfl
    exact W.iret (v := (-1)) hx hb hr (fun t ht hW => ⟨⟨(-1), (), rfl, e_0.symm, by rw [ht]; exact hP9, va_K.moved hW.alike hK, hD9⟩, hS.F ht⟩) hS.2.2 dX2_sizeOf_19
  · refine lv_iload_n hx hb dX2_sizeOf_4 rfl (lv_at hl 1 rfl) ?_
    refine lv_iconst (v := 5) hx hb dX2_sizeOf_5 (by decide) ?_
    refine lv_icmp_ge (tgt := 18) hx hb dX2_sizeOf_6 (by decide) (fun c_2 => ?_) (fun c_2 => ?_)
    · refine lv_iconst (v := (-1)) hx hb dX2_sizeOf_18 (by decide) ?_
      have e_0 : (pfX2_sizeOf_r p1) = (-1) := by rw [pfX2_sizeOf_r, if_neg c_1, if_pos c_2]
      have hP9 := hP.sub (ws' := [(h, .inr (2, [.ref a0, .ref a1, .ref a2, .ref a3, .ref a4, .ref a5, .ref a6])), (a2, .inl (cI, 5, .inl (gl [4, 0, 0, 0, 0])))]) [0, 1] rfl
      have hD9 := hD.sub (ws' := [(h, .inr (2, [.ref a0, .ref a1, .ref a2, .ref a3, .ref a4, .ref a5, .ref a6])), (a2, .inl (cI, 5, .inl (gl [4, 0, 0, 0, 0])))]) [0, 1] (by decide) rfl
      exact W.iret (v := (-1)) hx hb hr (fun t ht hW => ⟨⟨(-1), (), rfl, e_0.symm, by rw [ht]; exact hP9, va_K.moved hW.alike hK, hD9⟩, hS.F ht⟩) hS.2.2 dX2_sizeOf_19
    · refine lv_aload_n hx hb dX2_sizeOf_9 rfl (lv_at hl 0 rfl) ?_
      refine va_get (D := (dC, dI)) (ci := 2) (v := .ref a2) (C := RX2) (T := TX2) (N := 7) hx hb hts hinX2 hown hK hP 0 rfl rfl 2 (by decide) k_0 (fun _ h9 => h9) rfl dX2_sizeOf_10 ?_
      refine lv_iload_n hx hb dX2_sizeOf_13 rfl (lv_at hl 1 rfl) ?_
      refine za_iald (v := ((gl [4, 0, 0, 0, 0]) (Int32.toNatClampNeg p1))) hx hb hK hP 1 0 rfl rfl (zinS c_1 c_2 (by decide)) rfl dX2_sizeOf_14 ?_
      refine lv_goto (tgt := 19) hx hb dX2_sizeOf_15 (by decide) ?_
      have e_0 : (pfX2_sizeOf_r p1) = ((gl [4, 0, 0, 0, 0]) (Int32.toNatClampNeg p1)) := by rw [pfX2_sizeOf_r, if_neg c_1, if_neg c_2]
      have hP9 := hP.sub (ws' := [(h, .inr (2, [.ref a0, .ref a1, .ref a2, .ref a3, .ref a4, .ref a5, .ref a6])), (a2, .inl (cI, 5, .inl (gl [4, 0, 0, 0, 0])))]) [0, 1] rfl
      have hD9 := hD.sub (ws' := [(h, .inr (2, [.ref a0, .ref a1, .ref a2, .ref a3, .ref a4, .ref a5, .ref a6])), (a2, .inl (cI, 5, .inl (gl [4, 0, 0, 0, 0])))]) [0, 1] (by decide) rfl
      exact W.iret (v := ((gl [4, 0, 0, 0, 0]) (Int32.toNatClampNeg p1))) hx hb hr (fun t ht hW => ⟨⟨((gl [4, 0, 0, 0, 0]) (Int32.toNatClampNeg p1)), (), rfl, e_0.symm, by rw [ht]; exact hP9, va_K.moved hW.alike hK, hD9⟩, hS.F ht⟩) hS.2.2 dX2_sizeOf_19

def pfX2_cell_r (s0 : Int32) (fc : Nat → Int32) (p1 : Int32) (p2 : Int32) (p3 : Int32) : Int32 := if p1 < 0 then (-1) else (if 5 ≤ p1 then (-1) else (if p2 < 0 then (-1) else (if 8 ≤ p2 then (-1) else (if p3 < 0 then (-1) else (if 2 < p3 then (-1) else (if ((gl [s0, 0, 0, 0, 0]) (Int32.toNatClampNeg p1)) ≤ p2 then (-1) else (fc (Int32.toNatClampNeg ((((p1 * 8) + p2) * 3) + p3)))))))))
set_option maxHeartbeats 4000000 in
set_option maxRecDepth 100000 in
theorem kkX2_cell (l : Launch) (dC : Nat → ClassId) (dI : Nat → Nat → Nat) (cI cB cZ cR : ClassId) (sz : Nat) (h : Nat) (a0 : Nat) (a1 : Nat) (a2 : Nat) (a3 : Nat) (a4 : Nat) (a5 : Nat) (a6 : Nat) (s0 : Int32) (fc : Nat → Int32) (p1 : Int32) (p2 : Int32) (p3 : Int32) : Met l yX2_cell (.code yX2_cell cX2_cell 5 (some .int) :: wsL_law) ({ frames := 0, cells := 0, slots := 0, locals := 0 }) (zPc dC dI (zT cI cB cZ cR) [.ref h, .int p1, .int p2, .int p3] sz [(h, .inr (2, [.ref a0, .ref a1, .ref a2, .ref a3, .ref a4, .ref a5, .ref a6])), (a1, .inl (cI, 120, .inl fc)), (a2, .inl (cI, 5, .inl (gl [s0, 0, 0, 0, 0])))]) (va_Qi (fun (r : Int32) (_ : Unit) => r = (pfX2_cell_r s0 fc p1 p2 p3)) (fun _ : Unit => zB dC dI (zT cI cB cZ cR) (va_A [(h, .inr (2, [.ref a0, .ref a1, .ref a2, .ref a3, .ref a4, .ref a5, .ref a6])), (a1, .inl (cI, 120, .inl fc)), (a2, .inl (cI, 5, .inl (gl [s0, 0, 0, 0, 0])))] sz) [(h, .inr (2, [.ref a0, .ref a1, .ref a2, .ref a3, .ref a4, .ref a5, .ref a6])), (a1, .inl (cI, 120, .inl fc)), (a2, .inl (cI, 5, .inl (gl [s0, 0, 0, 0, 0])))]) (va_A [(h, .inr (2, [.ref a0, .ref a1, .ref a2, .ref a3, .ref a4, .ref a5, .ref a6])), (a1, .inl (cI, 120, .inl fc)), (a2, .inl (cI, 5, .inl (gl [s0, 0, 0, 0, 0])))] sz)) 0 0 (va_A [(h, .inr (2, [.ref a0, .ref a1, .ref a2, .ref a3, .ref a4, .ref a5, .ref a6])), (a1, .inl (cI, 120, .inl fc)), (a2, .inl (cI, 5, .inl (gl [s0, 0, 0, 0, 0])))] sz) := by
  refine Met.ofW (cc := cX2_cell) (maxL := 5) (ret := (some .int)) (by decide) rfl ?_
  intro p e s m args below meth c s₁ B hml hv
  obtain ⟨rfl, hsz, hP, hK, hD0, hN⟩ := hv
  have hx := B.exec
  have hb := B.bytes
  have hr := B.returns
  have hts := atoms_spec (ws := (.code yX2_cell cX2_cell 5 (some .int) :: wsL_law)) B.pre
  have hown : s.vm.findClass RX2 = some m.cls := findClass_of_methodNamed B.named
  have hlocks := B.notSynchronized
  have hinX2 : ∀ w ∈ u_ws RX2 TX2 7, w ∈ (.code yX2_cell cX2_cell 5 (some .int) :: wsL_law) := fun w h => List.mem_cons_of_mem _ (inlX2 w h)
  have k_0 := hts (.fieldLink RX2 18 "RingMarks$Ring" "sizes" "[I") (List.mem_cons_of_mem _ wm_63)
  have k_1 := hts (.fieldLink RX2 15 "RingMarks$Ring" "cells" "[I") (List.mem_cons_of_mem _ wm_62)
  subst hsz
  have hD := hD0.self (sz := s.heap.size)
  generalize hAe : va_A [(h, .inr (2, [.ref a0, .ref a1, .ref a2, .ref a3, .ref a4, .ref a5, .ref a6])), (a1, .inl (cI, 120, .inl fc)), (a2, .inl (cI, 5, .inl (gl [s0, 0, 0, 0, 0])))] s.heap.size = A at hD ⊢
  have hA : ∀ q : Nat, s.heap.size ≤ q → A q := fun q h => by rw [← hAe]; exact Or.inr h
  have hP : va_P (dC, dI) vwCl [(h, .inr (2, [.ref a0, .ref a1, .ref a2, .ref a3, .ref a4, .ref a5, .ref a6])), (a1, .inl (cI, 120, .inl fc)), (a2, .inl (cI, 5, .inl (gl [s0, 0, 0, 0, 0])))] s.heap := hP
  have hl := lv_entry ([.ref h, .int p1, .int p2, .int p3]) (n := 5) (Nat.le_of_ble_eq_true rfl)
  rw [lg_entry_eq]
  generalize (lg_sl ([.ref h, .int p1, .int p2, .int p3]) ++ List.replicate (5 - (lg_sl ([.ref h, .int p1, .int p2, .int p3])).length) Slot.unset).toArray = ls at hl ⊢
  have hl : lv_has ls 5 [(0, .ref h), (1, .int p1), (2, .int p2), (3, .int p3)] := hl
  obtain ⟨H, hH⟩ : ∃ H, H = s.heap := ⟨_, rfl⟩
  rw [← hH] at hP ⊢
  have hS : va_S A s.heap H [] := by rw [hH]; exact va_S.rf
  refine lv_iload_n hx hb dX2_cell_0 rfl (lv_at hl 1 rfl) ?_
  refine lv_if_lt (tgt := 32) hx hb dX2_cell_1 (by decide) (fun c_1 => ?_) (fun c_1 => ?_)
  · refine lv_iconst (v := 0) hx hb dX2_cell_32 (by decide) ?_
    refine lv_istore (lv' := [(4, .int 0), (0, .ref h), (1, .int p1), (2, .int p2), (3, .int p3)]) hx hb dX2_cell_33 hl (by decide) rfl (fun ls hl => ?_)
    refine lv_iload hx hb dX2_cell_35 (lv_at hl 0 rfl) ?_
    refine lv_if_eq (tgt := 68) hx hb dX2_cell_37 (by decide) (fun _ => ?_) (fun c => absurd (by decide) c)
    refine lv_iconst (v := (-1)) hx hb dX2_cell_68 (by decide) ?_
    have e_0 : (pfX2_cell_r s0 fc p1 p2 p3) = (-1) := by rw [pfX2_cell_r, if_pos c_1]
    have hP9 := hP.sub (ws' := [(h, .inr (2, [.ref a0, .ref a1, .ref a2, .ref a3, .ref a4, .ref a5, .ref a6])), (a1, .inl (cI, 120, .inl fc)), (a2, .inl (cI, 5, .inl (gl [s0, 0, 0, 0, 0])))]) [0, 1, 2] rfl
    have hD9 := hD.sub (ws' := [(h, .inr (2, [.ref a0, .ref a1, .ref a2, .ref a3, .ref a4, .ref a5, .ref a6])), (a1, .inl (cI, 120, .inl fc)), (a2, .inl (cI, 5, .inl (gl [s0, 0, 0, 0, 0])))]) [0, 1, 2] (by decide) rfl
    exact W.iret (v := (-1)) hx hb hr (fun t ht hW => ⟨⟨(-1), (), rfl, e_0.symm, by rw [ht]; exact hP9, va_K.moved hW.alike hK, hD9⟩, hS.F ht⟩) hS.2.2 dX2_cell_69
  · refine lv_iload_n hx hb dX2_cell_4 rfl (lv_at hl 1 rfl) ?_
    refine lv_iconst (v := 5) hx hb dX2_cell_5 (by decide) ?_
    refine lv_icmp_ge (tgt := 32) hx hb dX2_cell_6 (by decide) (fun c_2 => ?_) (fun c_2 => ?_)
    · refine lv_iconst (v := 0) hx hb dX2_cell_32 (by decide) ?_
      refine lv_istore (lv' := [(4, .int 0), (0, .ref h), (1, .int p1), (2, .int p2), (3, .int p3)]) hx hb dX2_cell_33 hl (by decide) rfl (fun ls hl => ?_)
      refine lv_iload hx hb dX2_cell_35 (lv_at hl 0 rfl) ?_
      refine lv_if_eq (tgt := 68) hx hb dX2_cell_37 (by decide) (fun _ => ?_) (fun c => absurd (by decide) c)
      refine lv_iconst (v := (-1)) hx hb dX2_cell_68 (by decide) ?_
      have e_0 : (pfX2_cell_r s0 fc p1 p2 p3) = (-1) := by rw [pfX2_cell_r, if_neg c_1, if_pos c_2]
      have hP9 := hP.sub (ws' := [(h, .inr (2, [.ref a0, .ref a1, .ref a2, .ref a3, .ref a4, .ref a5, .ref a6])), (a1, .inl (cI, 120, .inl fc)), (a2, .inl (cI, 5, .inl (gl [s0, 0, 0, 0, 0])))]) [0, 1, 2] rfl
      have hD9 := hD.sub (ws' := [(h, .inr (2, [.ref a0, .ref a1, .ref a2, .ref a3, .ref a4, .ref a5, .ref a6])), (a1, .inl (cI, 120, .inl fc)), (a2, .inl (cI, 5, .inl (gl [s0, 0, 0, 0, 0])))]) [0, 1, 2] (by decide) rfl
      exact W.iret (v := (-1)) hx hb hr (fun t ht hW => ⟨⟨(-1), (), rfl, e_0.symm, by rw [ht]; exact hP9, va_K.moved hW.alike hK, hD9⟩, hS.F ht⟩) hS.2.2 dX2_cell_69
    · refine lv_iload_n hx hb dX2_cell_9 rfl (lv_at hl 2 rfl) ?_
      refine lv_if_lt (tgt := 32) hx hb dX2_cell_10 (by decide) (fun c_3 => ?_) (fun c_3 => ?_)
      · refine lv_iconst (v := 0) hx hb dX2_cell_32 (by decide) ?_
        refine lv_istore (lv' := [(4, .int 0), (0, .ref h), (1, .int p1), (2, .int p2), (3, .int p3)]) hx hb dX2_cell_33 hl (by decide) rfl (fun ls hl => ?_)
        refine lv_iload hx hb dX2_cell_35 (lv_at hl 0 rfl) ?_
        refine lv_if_eq (tgt := 68) hx hb dX2_cell_37 (by decide) (fun _ => ?_) (fun c => absurd (by decide) c)
        refine lv_iconst (v := (-1)) hx hb dX2_cell_68 (by decide) ?_
        have e_0 : (pfX2_cell_r s0 fc p1 p2 p3) = (-1) := by rw [pfX2_cell_r, if_neg c_1, if_neg c_2, if_pos c_3]
        have hP9 := hP.sub (ws' := [(h, .inr (2, [.ref a0, .ref a1, .ref a2, .ref a3, .ref a4, .ref a5, .ref a6])), (a1, .inl (cI, 120, .inl fc)), (a2, .inl (cI, 5, .inl (gl [s0, 0, 0, 0, 0])))]) [0, 1, 2] rfl
        have hD9 := hD.sub (ws' := [(h, .inr (2, [.ref a0, .ref a1, .ref a2, .ref a3, .ref a4, .ref a5, .ref a6])), (a1, .inl (cI, 120, .inl fc)), (a2, .inl (cI, 5, .inl (gl [s0, 0, 0, 0, 0])))]) [0, 1, 2] (by decide) rfl
        exact W.iret (v := (-1)) hx hb hr (fun t ht hW => ⟨⟨(-1), (), rfl, e_0.symm, by rw [ht]; exact hP9, va_K.moved hW.alike hK, hD9⟩, hS.F ht⟩) hS.2.2 dX2_cell_69
      · refine lv_iload_n hx hb dX2_cell_13 rfl (lv_at hl 2 rfl) ?_
        refine lv_bipush (v := 8) hx hb dX2_cell_14 (by decide) ?_
        refine lv_icmp_ge (tgt := 32) hx hb dX2_cell_16 (by decide) (fun c_4 => ?_) (fun c_4 => ?_)
        · refine lv_iconst (v := 0) hx hb dX2_cell_32 (by decide) ?_
          refine lv_istore (lv' := [(4, .int 0), (0, .ref h), (1, .int p1), (2, .int p2), (3, .int p3)]) hx hb dX2_cell_33 hl (by decide) rfl (fun ls hl => ?_)
          refine lv_iload hx hb dX2_cell_35 (lv_at hl 0 rfl) ?_
          refine lv_if_eq (tgt := 68) hx hb dX2_cell_37 (by decide) (fun _ => ?_) (fun c => absurd (by decide) c)
          refine lv_iconst (v := (-1)) hx hb dX2_cell_68 (by decide) ?_
          have e_0 : (pfX2_cell_r s0 fc p1 p2 p3) = (-1) := by rw [pfX2_cell_r, if_neg c_1, if_neg c_2, if_neg c_3, if_pos c_4]
          have hP9 := hP.sub (ws' := [(h, .inr (2, [.ref a0, .ref a1, .ref a2, .ref a3, .ref a4, .ref a5, .ref a6])), (a1, .inl (cI, 120, .inl fc)), (a2, .inl (cI, 5, .inl (gl [s0, 0, 0, 0, 0])))]) [0, 1, 2] rfl
          have hD9 := hD.sub (ws' := [(h, .inr (2, [.ref a0, .ref a1, .ref a2, .ref a3, .ref a4, .ref a5, .ref a6])), (a1, .inl (cI, 120, .inl fc)), (a2, .inl (cI, 5, .inl (gl [s0, 0, 0, 0, 0])))]) [0, 1, 2] (by decide) rfl
          exact W.iret (v := (-1)) hx hb hr (fun t ht hW => ⟨⟨(-1), (), rfl, e_0.symm, by rw [ht]; exact hP9, va_K.moved hW.alike hK, hD9⟩, hS.F ht⟩) hS.2.2 dX2_cell_69
        · refine lv_iload_n hx hb dX2_cell_19 rfl (lv_at hl 3 rfl) ?_
          refine lv_if_lt (tgt := 32) hx hb dX2_cell_20 (by decide) (fun c_5 => ?_) (fun c_5 => ?_)
          · refine lv_iconst (v := 0) hx hb dX2_cell_32 (by decide) ?_
            refine lv_istore (lv' := [(4, .int 0), (0, .ref h), (1, .int p1), (2, .int p2), (3, .int p3)]) hx hb dX2_cell_33 hl (by decide) rfl (fun ls hl => ?_)
            refine lv_iload hx hb dX2_cell_35 (lv_at hl 0 rfl) ?_
            refine lv_if_eq (tgt := 68) hx hb dX2_cell_37 (by decide) (fun _ => ?_) (fun c => absurd (by decide) c)
            refine lv_iconst (v := (-1)) hx hb dX2_cell_68 (by decide) ?_
            have e_0 : (pfX2_cell_r s0 fc p1 p2 p3) = (-1) := by rw [pfX2_cell_r, if_neg c_1, if_neg c_2, if_neg c_3, if_neg c_4, if_pos c_5]
            have hP9 := hP.sub (ws' := [(h, .inr (2, [.ref a0, .ref a1, .ref a2, .ref a3, .ref a4, .ref a5, .ref a6])), (a1, .inl (cI, 120, .inl fc)), (a2, .inl (cI, 5, .inl (gl [s0, 0, 0, 0, 0])))]) [0, 1, 2] rfl
            have hD9 := hD.sub (ws' := [(h, .inr (2, [.ref a0, .ref a1, .ref a2, .ref a3, .ref a4, .ref a5, .ref a6])), (a1, .inl (cI, 120, .inl fc)), (a2, .inl (cI, 5, .inl (gl [s0, 0, 0, 0, 0])))]) [0, 1, 2] (by decide) rfl
            exact W.iret (v := (-1)) hx hb hr (fun t ht hW => ⟨⟨(-1), (), rfl, e_0.symm, by rw [ht]; exact hP9, va_K.moved hW.alike hK, hD9⟩, hS.F ht⟩) hS.2.2 dX2_cell_69
          · refine lv_iload_n hx hb dX2_cell_23 rfl (lv_at hl 3 rfl) ?_
            refine lv_iconst (v := 2) hx hb dX2_cell_24 (by decide) ?_
            refine lv_icmp_gt (tgt := 32) hx hb dX2_cell_25 (by decide) (fun c_6 => ?_) (fun c_6 => ?_)
            · refine lv_iconst (v := 0) hx hb dX2_cell_32 (by decide) ?_
              refine lv_istore (lv' := [(4, .int 0), (0, .ref h), (1, .int p1), (2, .int p2), (3, .int p3)]) hx hb dX2_cell_33 hl (by decide) rfl (fun ls hl => ?_)
              refine lv_iload hx hb dX2_cell_35 (lv_at hl 0 rfl) ?_
              refine lv_if_eq (tgt := 68) hx hb dX2_cell_37 (by decide) (fun _ => ?_) (fun c => absurd (by decide) c)
              refine lv_iconst (v := (-1)) hx hb dX2_cell_68 (by decide) ?_
              have e_0 : (pfX2_cell_r s0 fc p1 p2 p3) = (-1) := by rw [pfX2_cell_r, if_neg c_1, if_neg c_2, if_neg c_3, if_neg c_4, if_neg c_5, if_pos c_6]
              have hP9 := hP.sub (ws' := [(h, .inr (2, [.ref a0, .ref a1, .ref a2, .ref a3, .ref a4, .ref a5, .ref a6])), (a1, .inl (cI, 120, .inl fc)), (a2, .inl (cI, 5, .inl (gl [s0, 0, 0, 0, 0])))]) [0, 1, 2] rfl
              have hD9 := hD.sub (ws' := [(h, .inr (2, [.ref a0, .ref a1, .ref a2, .ref a3, .ref a4, .ref a5, .ref a6])), (a1, .inl (cI, 120, .inl fc)), (a2, .inl (cI, 5, .inl (gl [s0, 0, 0, 0, 0])))]) [0, 1, 2] (by decide) rfl
              exact W.iret (v := (-1)) hx hb hr (fun t ht hW => ⟨⟨(-1), (), rfl, e_0.symm, by rw [ht]; exact hP9, va_K.moved hW.alike hK, hD9⟩, hS.F ht⟩) hS.2.2 dX2_cell_69
            · refine lv_iconst (v := 1) hx hb dX2_cell_28 (by decide) ?_
              refine lv_goto (tgt := 33) hx hb dX2_cell_29 (by decide) ?_
              refine lv_istore (lv' := [(4, .int 1), (0, .ref h), (1, .int p1), (2, .int p2), (3, .int p3)]) hx hb dX2_cell_33 hl (by decide) rfl (fun ls hl => ?_)
              refine lv_iload hx hb dX2_cell_35 (lv_at hl 0 rfl) ?_
              refine lv_if_eq (tgt := 68) hx hb dX2_cell_37 (by decide) (fun c => absurd c (by decide)) (fun _ => ?_)
              refine lv_iload_n hx hb dX2_cell_40 rfl (lv_at hl 3 rfl) ?_
              refine lv_aload_n hx hb dX2_cell_41 rfl (lv_at hl 1 rfl) ?_
              refine va_get (D := (dC, dI)) (ci := 2) (v := .ref a2) (C := RX2) (T := TX2) (N := 7) hx hb hts hinX2 hown hK hP 0 rfl rfl 2 (by decide) k_0 (fun _ h9 => h9) rfl dX2_cell_42 ?_
              refine lv_iload_n hx hb dX2_cell_45 rfl (lv_at hl 2 rfl) ?_
              refine za_iald (v := ((gl [s0, 0, 0, 0, 0]) (Int32.toNatClampNeg p1))) hx hb hK hP 2 0 rfl rfl (zinS c_1 c_2 (by decide)) rfl dX2_cell_46 ?_
              refine lv_icmp_ge (tgt := 68) hx hb dX2_cell_47 (by decide) (fun c_7 => ?_) (fun c_7 => ?_)
              · refine lv_iconst (v := (-1)) hx hb dX2_cell_68 (by decide) ?_
                have e_0 : (pfX2_cell_r s0 fc p1 p2 p3) = (-1) := by rw [pfX2_cell_r, if_neg c_1, if_neg c_2, if_neg c_3, if_neg c_4, if_neg c_5, if_neg c_6, if_pos c_7]
                have hP9 := hP.sub (ws' := [(h, .inr (2, [.ref a0, .ref a1, .ref a2, .ref a3, .ref a4, .ref a5, .ref a6])), (a1, .inl (cI, 120, .inl fc)), (a2, .inl (cI, 5, .inl (gl [s0, 0, 0, 0, 0])))]) [0, 1, 2] rfl
                have hD9 := hD.sub (ws' := [(h, .inr (2, [.ref a0, .ref a1, .ref a2, .ref a3, .ref a4, .ref a5, .ref a6])), (a1, .inl (cI, 120, .inl fc)), (a2, .inl (cI, 5, .inl (gl [s0, 0, 0, 0, 0])))]) [0, 1, 2] (by decide) rfl
                exact W.iret (v := (-1)) hx hb hr (fun t ht hW => ⟨⟨(-1), (), rfl, e_0.symm, by rw [ht]; exact hP9, va_K.moved hW.alike hK, hD9⟩, hS.F ht⟩) hS.2.2 dX2_cell_69
              · refine lv_aload_n hx hb dX2_cell_50 rfl (lv_at hl 1 rfl) ?_
                refine va_get (D := (dC, dI)) (ci := 2) (v := .ref a1) (C := RX2) (T := TX2) (N := 7) hx hb hts hinX2 hown hK hP 0 rfl rfl 1 (by decide) k_1 (fun _ h9 => h9) rfl dX2_cell_51 ?_
                refine lv_iload_n hx hb dX2_cell_54 rfl (lv_at hl 2 rfl) ?_
                refine lv_bipush (v := 8) hx hb dX2_cell_55 (by decide) ?_
                refine lv_imul hx hb dX2_cell_57 ?_
                refine lv_iload_n hx hb dX2_cell_58 rfl (lv_at hl 3 rfl) ?_
                refine lv_iadd hx hb dX2_cell_59 ?_
                refine lv_iconst (v := 3) hx hb dX2_cell_60 (by decide) ?_
                refine lv_imul hx hb dX2_cell_61 ?_
                refine lv_iload_n hx hb dX2_cell_62 rfl (lv_at hl 4 rfl) ?_
                refine lv_iadd hx hb dX2_cell_63 ?_
                refine za_iald (v := (fc (Int32.toNatClampNeg ((((p1 * 8) + p2) * 3) + p3)))) hx hb hK hP 1 0 rfl rfl (zinC c_1 c_2 c_3 c_4 c_5 c_6) rfl dX2_cell_64 ?_
                refine lv_goto (tgt := 69) hx hb dX2_cell_65 (by decide) ?_
                have e_0 : (pfX2_cell_r s0 fc p1 p2 p3) = (fc (Int32.toNatClampNeg ((((p1 * 8) + p2) * 3) + p3))) := by rw [pfX2_cell_r, if_neg c_1, if_neg c_2, if_neg c_3, if_neg c_4, if_neg c_5, if_neg c_6, if_neg c_7]
                have hP9 := hP.sub (ws' := [(h, .inr (2, [.ref a0, .ref a1, .ref a2, .ref a3, .ref a4, .ref a5, .ref a6])), (a1, .inl (cI, 120, .inl fc)), (a2, .inl (cI, 5, .inl (gl [s0, 0, 0, 0, 0])))]) [0, 1, 2] rfl
                have hD9 := hD.sub (ws' := [(h, .inr (2, [.ref a0, .ref a1, .ref a2, .ref a3, .ref a4, .ref a5, .ref a6])), (a1, .inl (cI, 120, .inl fc)), (a2, .inl (cI, 5, .inl (gl [s0, 0, 0, 0, 0])))]) [0, 1, 2] (by decide) rfl
                exact W.iret (v := (fc (Int32.toNatClampNeg ((((p1 * 8) + p2) * 3) + p3)))) hx hb hr (fun t ht hW => ⟨⟨(fc (Int32.toNatClampNeg ((((p1 * 8) + p2) * 3) + p3))), (), rfl, e_0.symm, by rw [ht]; exact hP9, va_K.moved hW.alike hK, hD9⟩, hS.F ht⟩) hS.2.2 dX2_cell_69

def pfX2_putCell_a1_f (s0 : Int32) (fc : Nat → Int32) (p1 : Int32) (p2 : Int32) (p3 : Int32) (p4 : Int32) : Nat → Int32 := if p1 < 0 then fc else (if 5 ≤ p1 then fc else (if p2 < 0 then fc else (if 8 ≤ p2 then fc else (if p3 < 0 then fc else (if 2 < p3 then fc else (if ((gl [s0, 0, 0, 0, 0]) (Int32.toNatClampNeg p1)) ≤ p2 then fc else (upd fc (Int32.toNatClampNeg ((((p1 * 8) + p2) * 3) + p3)) p4)))))))
set_option maxHeartbeats 4000000 in
set_option maxRecDepth 100000 in
theorem kkX2_putCell (l : Launch) (dC : Nat → ClassId) (dI : Nat → Nat → Nat) (cI cB cZ cR : ClassId) (sz : Nat) (h : Nat) (a0 : Nat) (a1 : Nat) (a2 : Nat) (a3 : Nat) (a4 : Nat) (a5 : Nat) (a6 : Nat) (s0 : Int32) (fc : Nat → Int32) (p1 : Int32) (p2 : Int32) (p3 : Int32) (p4 : Int32) : Met l yX2_putCell (.code yX2_putCell cX2_putCell 6 none :: wsL_law) ({ frames := 0, cells := 0, slots := 0, locals := 0 }) (zPc dC dI (zT cI cB cZ cR) [.ref h, .int p1, .int p2, .int p3, .int p4] sz [(h, .inr (2, [.ref a0, .ref a1, .ref a2, .ref a3, .ref a4, .ref a5, .ref a6])), (a1, .inl (cI, 120, .inl fc)), (a2, .inl (cI, 5, .inl (gl [s0, 0, 0, 0, 0])))]) (va_Qv (fun _ : Unit => True) (fun _ : Unit => zB dC dI (zT cI cB cZ cR) (va_A [(h, .inr (2, [.ref a0, .ref a1, .ref a2, .ref a3, .ref a4, .ref a5, .ref a6])), (a1, .inl (cI, 120, .inl fc)), (a2, .inl (cI, 5, .inl (gl [s0, 0, 0, 0, 0])))] sz) [(h, .inr (2, [.ref a0, .ref a1, .ref a2, .ref a3, .ref a4, .ref a5, .ref a6])), (a1, .inl (cI, 120, .inl (pfX2_putCell_a1_f s0 fc p1 p2 p3 p4))), (a2, .inl (cI, 5, .inl (gl [s0, 0, 0, 0, 0])))]) (va_A [(h, .inr (2, [.ref a0, .ref a1, .ref a2, .ref a3, .ref a4, .ref a5, .ref a6])), (a1, .inl (cI, 120, .inl fc)), (a2, .inl (cI, 5, .inl (gl [s0, 0, 0, 0, 0])))] sz)) 0 0 (va_A [(h, .inr (2, [.ref a0, .ref a1, .ref a2, .ref a3, .ref a4, .ref a5, .ref a6])), (a1, .inl (cI, 120, .inl fc)), (a2, .inl (cI, 5, .inl (gl [s0, 0, 0, 0, 0])))] sz) := by
  refine Met.ofW (cc := cX2_putCell) (maxL := 6) (ret := none) (by decide) rfl ?_
  intro p e s m args below meth c s₁ B hml hv
  obtain ⟨rfl, hsz, hP, hK, hD0, hN⟩ := hv
  have hx := B.exec
  have hb := B.bytes
  have hr := B.returns
  have hts := atoms_spec (ws := (.code yX2_putCell cX2_putCell 6 none :: wsL_law)) B.pre
  have hown : s.vm.findClass RX2 = some m.cls := findClass_of_methodNamed B.named
  have hlocks := B.notSynchronized
  have hinX2 : ∀ w ∈ u_ws RX2 TX2 7, w ∈ (.code yX2_putCell cX2_putCell 6 none :: wsL_law) := fun w h => List.mem_cons_of_mem _ (inlX2 w h)
  have k_0 := hts (.fieldLink RX2 18 "RingMarks$Ring" "sizes" "[I") (List.mem_cons_of_mem _ wm_63)
  have k_1 := hts (.fieldLink RX2 15 "RingMarks$Ring" "cells" "[I") (List.mem_cons_of_mem _ wm_62)
  subst hsz
  have hD := hD0.self (sz := s.heap.size)
  generalize hAe : va_A [(h, .inr (2, [.ref a0, .ref a1, .ref a2, .ref a3, .ref a4, .ref a5, .ref a6])), (a1, .inl (cI, 120, .inl fc)), (a2, .inl (cI, 5, .inl (gl [s0, 0, 0, 0, 0])))] s.heap.size = A at hD ⊢
  have hA : ∀ q : Nat, s.heap.size ≤ q → A q := fun q h => by rw [← hAe]; exact Or.inr h
  have hP : va_P (dC, dI) vwCl [(h, .inr (2, [.ref a0, .ref a1, .ref a2, .ref a3, .ref a4, .ref a5, .ref a6])), (a1, .inl (cI, 120, .inl fc)), (a2, .inl (cI, 5, .inl (gl [s0, 0, 0, 0, 0])))] s.heap := hP
  have hl := lv_entry ([.ref h, .int p1, .int p2, .int p3, .int p4]) (n := 6) (Nat.le_of_ble_eq_true rfl)
  rw [lg_entry_eq]
  generalize (lg_sl ([.ref h, .int p1, .int p2, .int p3, .int p4]) ++ List.replicate (6 - (lg_sl ([.ref h, .int p1, .int p2, .int p3, .int p4])).length) Slot.unset).toArray = ls at hl ⊢
  have hl : lv_has ls 6 [(0, .ref h), (1, .int p1), (2, .int p2), (3, .int p3), (4, .int p4)] := hl
  obtain ⟨H, hH⟩ : ∃ H, H = s.heap := ⟨_, rfl⟩
  rw [← hH] at hP ⊢
  have hS : va_S A s.heap H [] := by rw [hH]; exact va_S.rf
  refine lv_iload_n hx hb dX2_putCell_0 rfl (lv_at hl 1 rfl) ?_
  refine lv_if_lt (tgt := 32) hx hb dX2_putCell_1 (by decide) (fun c_1 => ?_) (fun c_1 => ?_)
  · refine lv_iconst (v := 0) hx hb dX2_putCell_32 (by decide) ?_
    refine lv_istore (lv' := [(5, .int 0), (0, .ref h), (1, .int p1), (2, .int p2), (3, .int p3), (4, .int p4)]) hx hb dX2_putCell_33 hl (by decide) rfl (fun ls hl => ?_)
    refine lv_iload hx hb dX2_putCell_35 (lv_at hl 0 rfl) ?_
    refine lv_if_eq (tgt := 67) hx hb dX2_putCell_37 (by decide) (fun _ => ?_) (fun c => absurd (by decide) c)
    have e_0 : (pfX2_putCell_a1_f s0 fc p1 p2 p3 p4) = fc := by rw [pfX2_putCell_a1_f, if_pos c_1]
    have hP9 := hP.sub (ws' := [(h, .inr (2, [.ref a0, .ref a1, .ref a2, .ref a3, .ref a4, .ref a5, .ref a6])), (a1, .inl (cI, 120, .inl fc)), (a2, .inl (cI, 5, .inl (gl [s0, 0, 0, 0, 0])))]) [0, 1, 2] rfl
    have hD9 := hD.sub (ws' := [(h, .inr (2, [.ref a0, .ref a1, .ref a2, .ref a3, .ref a4, .ref a5, .ref a6])), (a1, .inl (cI, 120, .inl fc)), (a2, .inl (cI, 5, .inl (gl [s0, 0, 0, 0, 0])))]) [0, 1, 2] (by decide) rfl
    exact W.vret hx hb hr (fun t ht hW => ⟨⟨(), rfl, trivial, by rw [ht, e_0]; exact hP9, va_K.moved hW.alike hK, (by rw [e_0]; exact hD9)⟩, hS.F ht⟩) hS.2.2 dX2_putCell_67
  · refine lv_iload_n hx hb dX2_putCell_4 rfl (lv_at hl 1 rfl) ?_
    refine lv_iconst (v := 5) hx hb dX2_putCell_5 (by decide) ?_
    refine lv_icmp_ge (tgt := 32) hx hb dX2_putCell_6 (by decide) (fun c_2 => ?_) (fun c_2 => ?_)
    · refine lv_iconst (v := 0) hx hb dX2_putCell_32 (by decide) ?_
      refine lv_istore (lv' := [(5, .int 0), (0, .ref h), (1, .int p1), (2, .int p2), (3, .int p3), (4, .int p4)]) hx hb dX2_putCell_33 hl (by decide) rfl (fun ls hl => ?_)
      refine lv_iload hx hb dX2_putCell_35 (lv_at hl 0 rfl) ?_
      refine lv_if_eq (tgt := 67) hx hb dX2_putCell_37 (by decide) (fun _ => ?_) (fun c => absurd (by decide) c)
      have e_0 : (pfX2_putCell_a1_f s0 fc p1 p2 p3 p4) = fc := by rw [pfX2_putCell_a1_f, if_neg c_1, if_pos c_2]
      have hP9 := hP.sub (ws' := [(h, .inr (2, [.ref a0, .ref a1, .ref a2, .ref a3, .ref a4, .ref a5, .ref a6])), (a1, .inl (cI, 120, .inl fc)), (a2, .inl (cI, 5, .inl (gl [s0, 0, 0, 0, 0])))]) [0, 1, 2] rfl
      have hD9 := hD.sub (ws' := [(h, .inr (2, [.ref a0, .ref a1, .ref a2, .ref a3, .ref a4, .ref a5, .ref a6])), (a1, .inl (cI, 120, .inl fc)), (a2, .inl (cI, 5, .inl (gl [s0, 0, 0, 0, 0])))]) [0, 1, 2] (by decide) rfl
      exact W.vret hx hb hr (fun t ht hW => ⟨⟨(), rfl, trivial, by rw [ht, e_0]; exact hP9, va_K.moved hW.alike hK, (by rw [e_0]; exact hD9)⟩, hS.F ht⟩) hS.2.2 dX2_putCell_67
    · refine lv_iload_n hx hb dX2_putCell_9 rfl (lv_at hl 2 rfl) ?_
      refine lv_if_lt (tgt := 32) hx hb dX2_putCell_10 (by decide) (fun c_3 => ?_) (fun c_3 => ?_)
      · refine lv_iconst (v := 0) hx hb dX2_putCell_32 (by decide) ?_
        refine lv_istore (lv' := [(5, .int 0), (0, .ref h), (1, .int p1), (2, .int p2), (3, .int p3), (4, .int p4)]) hx hb dX2_putCell_33 hl (by decide) rfl (fun ls hl => ?_)
        refine lv_iload hx hb dX2_putCell_35 (lv_at hl 0 rfl) ?_
        refine lv_if_eq (tgt := 67) hx hb dX2_putCell_37 (by decide) (fun _ => ?_) (fun c => absurd (by decide) c)
        have e_0 : (pfX2_putCell_a1_f s0 fc p1 p2 p3 p4) = fc := by rw [pfX2_putCell_a1_f, if_neg c_1, if_neg c_2, if_pos c_3]
        have hP9 := hP.sub (ws' := [(h, .inr (2, [.ref a0, .ref a1, .ref a2, .ref a3, .ref a4, .ref a5, .ref a6])), (a1, .inl (cI, 120, .inl fc)), (a2, .inl (cI, 5, .inl (gl [s0, 0, 0, 0, 0])))]) [0, 1, 2] rfl
        have hD9 := hD.sub (ws' := [(h, .inr (2, [.ref a0, .ref a1, .ref a2, .ref a3, .ref a4, .ref a5, .ref a6])), (a1, .inl (cI, 120, .inl fc)), (a2, .inl (cI, 5, .inl (gl [s0, 0, 0, 0, 0])))]) [0, 1, 2] (by decide) rfl
        exact W.vret hx hb hr (fun t ht hW => ⟨⟨(), rfl, trivial, by rw [ht, e_0]; exact hP9, va_K.moved hW.alike hK, (by rw [e_0]; exact hD9)⟩, hS.F ht⟩) hS.2.2 dX2_putCell_67
      · refine lv_iload_n hx hb dX2_putCell_13 rfl (lv_at hl 2 rfl) ?_
        refine lv_bipush (v := 8) hx hb dX2_putCell_14 (by decide) ?_
        refine lv_icmp_ge (tgt := 32) hx hb dX2_putCell_16 (by decide) (fun c_4 => ?_) (fun c_4 => ?_)
        · refine lv_iconst (v := 0) hx hb dX2_putCell_32 (by decide) ?_
          refine lv_istore (lv' := [(5, .int 0), (0, .ref h), (1, .int p1), (2, .int p2), (3, .int p3), (4, .int p4)]) hx hb dX2_putCell_33 hl (by decide) rfl (fun ls hl => ?_)
          refine lv_iload hx hb dX2_putCell_35 (lv_at hl 0 rfl) ?_
          refine lv_if_eq (tgt := 67) hx hb dX2_putCell_37 (by decide) (fun _ => ?_) (fun c => absurd (by decide) c)
          have e_0 : (pfX2_putCell_a1_f s0 fc p1 p2 p3 p4) = fc := by rw [pfX2_putCell_a1_f, if_neg c_1, if_neg c_2, if_neg c_3, if_pos c_4]
          have hP9 := hP.sub (ws' := [(h, .inr (2, [.ref a0, .ref a1, .ref a2, .ref a3, .ref a4, .ref a5, .ref a6])), (a1, .inl (cI, 120, .inl fc)), (a2, .inl (cI, 5, .inl (gl [s0, 0, 0, 0, 0])))]) [0, 1, 2] rfl
          have hD9 := hD.sub (ws' := [(h, .inr (2, [.ref a0, .ref a1, .ref a2, .ref a3, .ref a4, .ref a5, .ref a6])), (a1, .inl (cI, 120, .inl fc)), (a2, .inl (cI, 5, .inl (gl [s0, 0, 0, 0, 0])))]) [0, 1, 2] (by decide) rfl
          exact W.vret hx hb hr (fun t ht hW => ⟨⟨(), rfl, trivial, by rw [ht, e_0]; exact hP9, va_K.moved hW.alike hK, (by rw [e_0]; exact hD9)⟩, hS.F ht⟩) hS.2.2 dX2_putCell_67
        · refine lv_iload_n hx hb dX2_putCell_19 rfl (lv_at hl 3 rfl) ?_
          refine lv_if_lt (tgt := 32) hx hb dX2_putCell_20 (by decide) (fun c_5 => ?_) (fun c_5 => ?_)
          · refine lv_iconst (v := 0) hx hb dX2_putCell_32 (by decide) ?_
            refine lv_istore (lv' := [(5, .int 0), (0, .ref h), (1, .int p1), (2, .int p2), (3, .int p3), (4, .int p4)]) hx hb dX2_putCell_33 hl (by decide) rfl (fun ls hl => ?_)
            refine lv_iload hx hb dX2_putCell_35 (lv_at hl 0 rfl) ?_
            refine lv_if_eq (tgt := 67) hx hb dX2_putCell_37 (by decide) (fun _ => ?_) (fun c => absurd (by decide) c)
            have e_0 : (pfX2_putCell_a1_f s0 fc p1 p2 p3 p4) = fc := by rw [pfX2_putCell_a1_f, if_neg c_1, if_neg c_2, if_neg c_3, if_neg c_4, if_pos c_5]
            have hP9 := hP.sub (ws' := [(h, .inr (2, [.ref a0, .ref a1, .ref a2, .ref a3, .ref a4, .ref a5, .ref a6])), (a1, .inl (cI, 120, .inl fc)), (a2, .inl (cI, 5, .inl (gl [s0, 0, 0, 0, 0])))]) [0, 1, 2] rfl
            have hD9 := hD.sub (ws' := [(h, .inr (2, [.ref a0, .ref a1, .ref a2, .ref a3, .ref a4, .ref a5, .ref a6])), (a1, .inl (cI, 120, .inl fc)), (a2, .inl (cI, 5, .inl (gl [s0, 0, 0, 0, 0])))]) [0, 1, 2] (by decide) rfl
            exact W.vret hx hb hr (fun t ht hW => ⟨⟨(), rfl, trivial, by rw [ht, e_0]; exact hP9, va_K.moved hW.alike hK, (by rw [e_0]; exact hD9)⟩, hS.F ht⟩) hS.2.2 dX2_putCell_67
          · refine lv_iload_n hx hb dX2_putCell_23 rfl (lv_at hl 3 rfl) ?_
            refine lv_iconst (v := 2) hx hb dX2_putCell_24 (by decide) ?_
            refine lv_icmp_gt (tgt := 32) hx hb dX2_putCell_25 (by decide) (fun c_6 => ?_) (fun c_6 => ?_)
            · refine lv_iconst (v := 0) hx hb dX2_putCell_32 (by decide) ?_
              refine lv_istore (lv' := [(5, .int 0), (0, .ref h), (1, .int p1), (2, .int p2), (3, .int p3), (4, .int p4)]) hx hb dX2_putCell_33 hl (by decide) rfl (fun ls hl => ?_)
              refine lv_iload hx hb dX2_putCell_35 (lv_at hl 0 rfl) ?_
              refine lv_if_eq (tgt := 67) hx hb dX2_putCell_37 (by decide) (fun _ => ?_) (fun c => absurd (by decide) c)
              have e_0 : (pfX2_putCell_a1_f s0 fc p1 p2 p3 p4) = fc := by rw [pfX2_putCell_a1_f, if_neg c_1, if_neg c_2, if_neg c_3, if_neg c_4, if_neg c_5, if_pos c_6]
              have hP9 := hP.sub (ws' := [(h, .inr (2, [.ref a0, .ref a1, .ref a2, .ref a3, .ref a4, .ref a5, .ref a6])), (a1, .inl (cI, 120, .inl fc)), (a2, .inl (cI, 5, .inl (gl [s0, 0, 0, 0, 0])))]) [0, 1, 2] rfl
              have hD9 := hD.sub (ws' := [(h, .inr (2, [.ref a0, .ref a1, .ref a2, .ref a3, .ref a4, .ref a5, .ref a6])), (a1, .inl (cI, 120, .inl fc)), (a2, .inl (cI, 5, .inl (gl [s0, 0, 0, 0, 0])))]) [0, 1, 2] (by decide) rfl
              exact W.vret hx hb hr (fun t ht hW => ⟨⟨(), rfl, trivial, by rw [ht, e_0]; exact hP9, va_K.moved hW.alike hK, (by rw [e_0]; exact hD9)⟩, hS.F ht⟩) hS.2.2 dX2_putCell_67
            · refine lv_iconst (v := 1) hx hb dX2_putCell_28 (by decide) ?_
              refine lv_goto (tgt := 33) hx hb dX2_putCell_29 (by decide) ?_
              refine lv_istore (lv' := [(5, .int 1), (0, .ref h), (1, .int p1), (2, .int p2), (3, .int p3), (4, .int p4)]) hx hb dX2_putCell_33 hl (by decide) rfl (fun ls hl => ?_)
              refine lv_iload hx hb dX2_putCell_35 (lv_at hl 0 rfl) ?_
              refine lv_if_eq (tgt := 67) hx hb dX2_putCell_37 (by decide) (fun c => absurd c (by decide)) (fun _ => ?_)
              refine lv_iload_n hx hb dX2_putCell_40 rfl (lv_at hl 3 rfl) ?_
              refine lv_aload_n hx hb dX2_putCell_41 rfl (lv_at hl 1 rfl) ?_
              refine va_get (D := (dC, dI)) (ci := 2) (v := .ref a2) (C := RX2) (T := TX2) (N := 7) hx hb hts hinX2 hown hK hP 0 rfl rfl 2 (by decide) k_0 (fun _ h9 => h9) rfl dX2_putCell_42 ?_
              refine lv_iload_n hx hb dX2_putCell_45 rfl (lv_at hl 2 rfl) ?_
              refine za_iald (v := ((gl [s0, 0, 0, 0, 0]) (Int32.toNatClampNeg p1))) hx hb hK hP 2 0 rfl rfl (zinS c_1 c_2 (by decide)) rfl dX2_putCell_46 ?_
              refine lv_icmp_ge (tgt := 67) hx hb dX2_putCell_47 (by decide) (fun c_7 => ?_) (fun c_7 => ?_)
              · have e_0 : (pfX2_putCell_a1_f s0 fc p1 p2 p3 p4) = fc := by rw [pfX2_putCell_a1_f, if_neg c_1, if_neg c_2, if_neg c_3, if_neg c_4, if_neg c_5, if_neg c_6, if_pos c_7]
                have hP9 := hP.sub (ws' := [(h, .inr (2, [.ref a0, .ref a1, .ref a2, .ref a3, .ref a4, .ref a5, .ref a6])), (a1, .inl (cI, 120, .inl fc)), (a2, .inl (cI, 5, .inl (gl [s0, 0, 0, 0, 0])))]) [0, 1, 2] rfl
                have hD9 := hD.sub (ws' := [(h, .inr (2, [.ref a0, .ref a1, .ref a2, .ref a3, .ref a4, .ref a5, .ref a6])), (a1, .inl (cI, 120, .inl fc)), (a2, .inl (cI, 5, .inl (gl [s0, 0, 0, 0, 0])))]) [0, 1, 2] (by decide) rfl
                exact W.vret hx hb hr (fun t ht hW => ⟨⟨(), rfl, trivial, by rw [ht, e_0]; exact hP9, va_K.moved hW.alike hK, (by rw [e_0]; exact hD9)⟩, hS.F ht⟩) hS.2.2 dX2_putCell_67
              · refine lv_aload_n hx hb dX2_putCell_50 rfl (lv_at hl 1 rfl) ?_
                refine va_get (D := (dC, dI)) (ci := 2) (v := .ref a1) (C := RX2) (T := TX2) (N := 7) hx hb hts hinX2 hown hK hP 0 rfl rfl 1 (by decide) k_1 (fun _ h9 => h9) rfl dX2_putCell_51 ?_
                refine lv_iload_n hx hb dX2_putCell_54 rfl (lv_at hl 2 rfl) ?_
                refine lv_bipush (v := 8) hx hb dX2_putCell_55 (by decide) ?_
                refine lv_imul hx hb dX2_putCell_57 ?_
                refine lv_iload_n hx hb dX2_putCell_58 rfl (lv_at hl 3 rfl) ?_
                refine lv_iadd hx hb dX2_putCell_59 ?_
                refine lv_iconst (v := 3) hx hb dX2_putCell_60 (by decide) ?_
                refine lv_imul hx hb dX2_putCell_61 ?_
                refine lv_iload_n hx hb dX2_putCell_62 rfl (lv_at hl 4 rfl) ?_
                refine lv_iadd hx hb dX2_putCell_63 ?_
                refine lv_iload hx hb dX2_putCell_64 (lv_at hl 5 rfl) ?_
                refine za_iast (f' := (upd fc (Int32.toNatClampNeg ((((p1 * 8) + p2) * 3) + p3)) p4)) hx hb hK hP hD hS 1 0 rfl rfl (zinC c_1 c_2 c_3 c_4 c_5 c_6) rfl dX2_putCell_66 (fun H locs hP hD hS => ?_)
                have hP : va_P (dC, dI) vwCl [(h, .inr (2, [.ref a0, .ref a1, .ref a2, .ref a3, .ref a4, .ref a5, .ref a6])), (a1, .inl (cI, 120, .inl (upd fc (Int32.toNatClampNeg ((((p1 * 8) + p2) * 3) + p3)) p4))), (a2, .inl (cI, 5, .inl (gl [s0, 0, 0, 0, 0])))] H := hP
                have hD : va_D A [(h, .inr (2, [.ref a0, .ref a1, .ref a2, .ref a3, .ref a4, .ref a5, .ref a6])), (a1, .inl (cI, 120, .inl (upd fc (Int32.toNatClampNeg ((((p1 * 8) + p2) * 3) + p3)) p4))), (a2, .inl (cI, 5, .inl (gl [s0, 0, 0, 0, 0])))] := hD
                have e_0 : (pfX2_putCell_a1_f s0 fc p1 p2 p3 p4) = (upd fc (Int32.toNatClampNeg ((((p1 * 8) + p2) * 3) + p3)) p4) := by rw [pfX2_putCell_a1_f, if_neg c_1, if_neg c_2, if_neg c_3, if_neg c_4, if_neg c_5, if_neg c_6, if_neg c_7]
                have hP9 := hP.sub (ws' := [(h, .inr (2, [.ref a0, .ref a1, .ref a2, .ref a3, .ref a4, .ref a5, .ref a6])), (a1, .inl (cI, 120, .inl (upd fc (Int32.toNatClampNeg ((((p1 * 8) + p2) * 3) + p3)) p4))), (a2, .inl (cI, 5, .inl (gl [s0, 0, 0, 0, 0])))]) [0, 1, 2] rfl
                have hD9 := hD.sub (ws' := [(h, .inr (2, [.ref a0, .ref a1, .ref a2, .ref a3, .ref a4, .ref a5, .ref a6])), (a1, .inl (cI, 120, .inl (upd fc (Int32.toNatClampNeg ((((p1 * 8) + p2) * 3) + p3)) p4))), (a2, .inl (cI, 5, .inl (gl [s0, 0, 0, 0, 0])))]) [0, 1, 2] (by decide) rfl
                exact W.vret hx hb hr (fun t ht hW => ⟨⟨(), rfl, trivial, by rw [ht, e_0]; exact hP9, va_K.moved hW.alike hK, (by rw [e_0]; exact hD9)⟩, hS.F ht⟩) hS.2.2 dX2_putCell_67

set_option maxHeartbeats 4000000 in
set_option maxRecDepth 100000 in
theorem kkX2_putDescriptor (l : Launch) (dC : Nat → ClassId) (dI : Nat → Nat → Nat) (cI cB cZ cR : ClassId) (sz : Nat) (h : Nat) (a0 : Nat) (a1 : Nat) (a2 : Nat) (a3 : Nat) (a4 : Nat) (a5 : Nat) (a6 : Nat) (s0 : Int32) (fc : Nat → Int32) (p1 : Int32) (p2 : Int32) (p3 : Int32) (p4 : Int32) (p5 : Int32) : Met l yX2_putDescriptor (.code yX2_putDescriptor cX2_putDescriptor 6 none :: wsL_law) ({ frames := 1, cells := 0, slots := 0, locals := 25 }) (zPc dC dI (zT cI cB cZ cR) [.ref h, .int p1, .int p2, .int p3, .int p4, .int p5] sz [(h, .inr (2, [.ref a0, .ref a1, .ref a2, .ref a3, .ref a4, .ref a5, .ref a6])), (a1, .inl (cI, 120, .inl fc)), (a2, .inl (cI, 5, .inl (gl [s0, 0, 0, 0, 0])))]) (va_Qv (fun _ : Unit => True) (fun _ : Unit => zB dC dI (zT cI cB cZ cR) (va_A [(h, .inr (2, [.ref a0, .ref a1, .ref a2, .ref a3, .ref a4, .ref a5, .ref a6])), (a1, .inl (cI, 120, .inl fc)), (a2, .inl (cI, 5, .inl (gl [s0, 0, 0, 0, 0])))] sz) [(h, .inr (2, [.ref a0, .ref a1, .ref a2, .ref a3, .ref a4, .ref a5, .ref a6])), (a1, .inl (cI, 120, .inl (pfX2_putCell_a1_f s0 (pfX2_putCell_a1_f s0 (pfX2_putCell_a1_f s0 fc p1 p2 0 p3) p1 p2 1 p4) p1 p2 2 p5))), (a2, .inl (cI, 5, .inl (gl [s0, 0, 0, 0, 0])))]) (va_A [(h, .inr (2, [.ref a0, .ref a1, .ref a2, .ref a3, .ref a4, .ref a5, .ref a6])), (a1, .inl (cI, 120, .inl fc)), (a2, .inl (cI, 5, .inl (gl [s0, 0, 0, 0, 0])))] sz)) 0 0 (va_A [(h, .inr (2, [.ref a0, .ref a1, .ref a2, .ref a3, .ref a4, .ref a5, .ref a6])), (a1, .inl (cI, 120, .inl fc)), (a2, .inl (cI, 5, .inl (gl [s0, 0, 0, 0, 0])))] sz) := by
  refine Met.ofW (cc := cX2_putDescriptor) (maxL := 6) (ret := none) (by decide) rfl ?_
  intro p e s m args below meth c s₁ B hml hv
  obtain ⟨rfl, hsz, hP, hK, hD0, hN⟩ := hv
  have hx := B.exec
  have hb := B.bytes
  have hr := B.returns
  have hts := atoms_spec (ws := (.code yX2_putDescriptor cX2_putDescriptor 6 none :: wsL_law)) B.pre
  have hown : s.vm.findClass RX2 = some m.cls := findClass_of_methodNamed B.named
  have hlocks := B.notSynchronized
  subst hsz
  have hD := hD0.self (sz := s.heap.size)
  generalize hAe : va_A [(h, .inr (2, [.ref a0, .ref a1, .ref a2, .ref a3, .ref a4, .ref a5, .ref a6])), (a1, .inl (cI, 120, .inl fc)), (a2, .inl (cI, 5, .inl (gl [s0, 0, 0, 0, 0])))] s.heap.size = A at hD ⊢
  have hA : ∀ q : Nat, s.heap.size ≤ q → A q := fun q h => by rw [← hAe]; exact Or.inr h
  have hP : va_P (dC, dI) vwCl [(h, .inr (2, [.ref a0, .ref a1, .ref a2, .ref a3, .ref a4, .ref a5, .ref a6])), (a1, .inl (cI, 120, .inl fc)), (a2, .inl (cI, 5, .inl (gl [s0, 0, 0, 0, 0])))] s.heap := hP
  have hl := lv_entry ([.ref h, .int p1, .int p2, .int p3, .int p4, .int p5]) (n := 6) (Nat.le_of_ble_eq_true rfl)
  rw [lg_entry_eq]
  generalize (lg_sl ([.ref h, .int p1, .int p2, .int p3, .int p4, .int p5]) ++ List.replicate (6 - (lg_sl ([.ref h, .int p1, .int p2, .int p3, .int p4, .int p5])).length) Slot.unset).toArray = ls at hl ⊢
  have hl : lv_has ls 6 [(0, .ref h), (1, .int p1), (2, .int p2), (3, .int p3), (4, .int p4), (5, .int p5)] := hl
  obtain ⟨H, hH⟩ : ∃ H, H = s.heap := ⟨_, rfl⟩
  rw [← hH] at hP ⊢
  have hS : va_S A s.heap H [] := by rw [hH]; exact va_S.rf
  refine lv_aload_n hx hb dX2_putDescriptor_0 rfl (lv_at hl 0 rfl) ?_
  refine lv_iload_n hx hb dX2_putDescriptor_1 rfl (lv_at hl 1 rfl) ?_
  refine lv_iload_n hx hb dX2_putDescriptor_2 rfl (lv_at hl 2 rfl) ?_
  refine lv_iconst (v := 0) hx hb dX2_putDescriptor_3 (by decide) ?_
  refine lv_iload_n hx hb dX2_putDescriptor_4 rfl (lv_at hl 3 rfl) ?_
  refine zcVv (As := [.int p1, .int p2, .int 0, .int p3]) (rest := []) (wr := []) ⟨hx, hb, hml, hown, hts⟩ (kkX2_putCell l dC dI cI cB cZ cR H.size h a0 a1 a2 a3 a4 a5 a6 s0 fc p1 p2 0 p3 ) (cwV 4 hts (zgV wm_84 wm_85 wm_86 wm_22 wm_87) rfl rfl rfl (by decide +kernel) ⟨Nat.le_of_ble_eq_true rfl, Nat.le_of_ble_eq_true rfl⟩) hN hK hP hD hS hA [0, 1, 2] [] rfl rfl ⟨rfl, rfl⟩ (by decide) (ci := 2) rfl rfl rfl rfl hl.1 rfl (Nat.le_of_ble_eq_true rfl) dX2_putDescriptor_5 ⟨Nat.le_of_ble_eq_true rfl, Nat.le_of_ble_eq_true rfl⟩ (fun u hu H locs hP hD hS => ?_)
  have hP : va_P (dC, dI) vwCl [(h, .inr (2, [.ref a0, .ref a1, .ref a2, .ref a3, .ref a4, .ref a5, .ref a6])), (a1, .inl (cI, 120, .inl (pfX2_putCell_a1_f s0 fc p1 p2 0 p3))), (a2, .inl (cI, 5, .inl (gl [s0, 0, 0, 0, 0])))] H := hP
  have hD : va_D A [(h, .inr (2, [.ref a0, .ref a1, .ref a2, .ref a3, .ref a4, .ref a5, .ref a6])), (a1, .inl (cI, 120, .inl (pfX2_putCell_a1_f s0 fc p1 p2 0 p3))), (a2, .inl (cI, 5, .inl (gl [s0, 0, 0, 0, 0])))] := hD
  refine lv_aload_n hx hb dX2_putDescriptor_8 rfl (lv_at hl 0 rfl) ?_
  refine lv_iload_n hx hb dX2_putDescriptor_9 rfl (lv_at hl 1 rfl) ?_
  refine lv_iload_n hx hb dX2_putDescriptor_10 rfl (lv_at hl 2 rfl) ?_
  refine lv_iconst (v := 1) hx hb dX2_putDescriptor_11 (by decide) ?_
  refine lv_iload hx hb dX2_putDescriptor_12 (lv_at hl 4 rfl) ?_
  refine zcVv (As := [.int p1, .int p2, .int 1, .int p4]) (rest := []) (wr := []) ⟨hx, hb, hml, hown, hts⟩ (kkX2_putCell l dC dI cI cB cZ cR H.size h a0 a1 a2 a3 a4 a5 a6 s0 (pfX2_putCell_a1_f s0 fc p1 p2 0 p3) p1 p2 1 p4 ) (cwV 4 hts (zgV wm_84 wm_85 wm_86 wm_22 wm_87) rfl rfl rfl (by decide +kernel) ⟨Nat.le_of_ble_eq_true rfl, Nat.le_of_ble_eq_true rfl⟩) hN hK hP hD hS hA [0, 1, 2] [] rfl rfl ⟨rfl, rfl⟩ (by decide) (ci := 2) rfl rfl rfl rfl hl.1 rfl (Nat.le_of_ble_eq_true rfl) dX2_putDescriptor_14 ⟨Nat.le_of_ble_eq_true rfl, Nat.le_of_ble_eq_true rfl⟩ (fun u hu H locs hP hD hS => ?_)
  have hP : va_P (dC, dI) vwCl [(h, .inr (2, [.ref a0, .ref a1, .ref a2, .ref a3, .ref a4, .ref a5, .ref a6])), (a1, .inl (cI, 120, .inl (pfX2_putCell_a1_f s0 (pfX2_putCell_a1_f s0 fc p1 p2 0 p3) p1 p2 1 p4))), (a2, .inl (cI, 5, .inl (gl [s0, 0, 0, 0, 0])))] H := hP
  have hD : va_D A [(h, .inr (2, [.ref a0, .ref a1, .ref a2, .ref a3, .ref a4, .ref a5, .ref a6])), (a1, .inl (cI, 120, .inl (pfX2_putCell_a1_f s0 (pfX2_putCell_a1_f s0 fc p1 p2 0 p3) p1 p2 1 p4))), (a2, .inl (cI, 5, .inl (gl [s0, 0, 0, 0, 0])))] := hD
  refine lv_aload_n hx hb dX2_putDescriptor_17 rfl (lv_at hl 0 rfl) ?_
  refine lv_iload_n hx hb dX2_putDescriptor_18 rfl (lv_at hl 1 rfl) ?_
  refine lv_iload_n hx hb dX2_putDescriptor_19 rfl (lv_at hl 2 rfl) ?_
  refine lv_iconst (v := 2) hx hb dX2_putDescriptor_20 (by decide) ?_
  refine lv_iload hx hb dX2_putDescriptor_21 (lv_at hl 5 rfl) ?_
  refine zcVv (As := [.int p1, .int p2, .int 2, .int p5]) (rest := []) (wr := []) ⟨hx, hb, hml, hown, hts⟩ (kkX2_putCell l dC dI cI cB cZ cR H.size h a0 a1 a2 a3 a4 a5 a6 s0 (pfX2_putCell_a1_f s0 (pfX2_putCell_a1_f s0 fc p1 p2 0 p3) p1 p2 1 p4) p1 p2 2 p5 ) (cwV 4 hts (zgV wm_84 wm_85 wm_86 wm_22 wm_87) rfl rfl rfl (by decide +kernel) ⟨Nat.le_of_ble_eq_true rfl, Nat.le_of_ble_eq_true rfl⟩) hN hK hP hD hS hA [0, 1, 2] [] rfl rfl ⟨rfl, rfl⟩ (by decide) (ci := 2) rfl rfl rfl rfl hl.1 rfl (Nat.le_of_ble_eq_true rfl) dX2_putDescriptor_23 ⟨Nat.le_of_ble_eq_true rfl, Nat.le_of_ble_eq_true rfl⟩ (fun u hu H locs hP hD hS => ?_)
  have hP : va_P (dC, dI) vwCl [(h, .inr (2, [.ref a0, .ref a1, .ref a2, .ref a3, .ref a4, .ref a5, .ref a6])), (a1, .inl (cI, 120, .inl (pfX2_putCell_a1_f s0 (pfX2_putCell_a1_f s0 (pfX2_putCell_a1_f s0 fc p1 p2 0 p3) p1 p2 1 p4) p1 p2 2 p5))), (a2, .inl (cI, 5, .inl (gl [s0, 0, 0, 0, 0])))] H := hP
  have hD : va_D A [(h, .inr (2, [.ref a0, .ref a1, .ref a2, .ref a3, .ref a4, .ref a5, .ref a6])), (a1, .inl (cI, 120, .inl (pfX2_putCell_a1_f s0 (pfX2_putCell_a1_f s0 (pfX2_putCell_a1_f s0 fc p1 p2 0 p3) p1 p2 1 p4) p1 p2 2 p5))), (a2, .inl (cI, 5, .inl (gl [s0, 0, 0, 0, 0])))] := hD
  have hP9 := hP.sub (ws' := [(h, .inr (2, [.ref a0, .ref a1, .ref a2, .ref a3, .ref a4, .ref a5, .ref a6])), (a1, .inl (cI, 120, .inl (pfX2_putCell_a1_f s0 (pfX2_putCell_a1_f s0 (pfX2_putCell_a1_f s0 fc p1 p2 0 p3) p1 p2 1 p4) p1 p2 2 p5))), (a2, .inl (cI, 5, .inl (gl [s0, 0, 0, 0, 0])))]) [0, 1, 2] rfl
  have hD9 := hD.sub (ws' := [(h, .inr (2, [.ref a0, .ref a1, .ref a2, .ref a3, .ref a4, .ref a5, .ref a6])), (a1, .inl (cI, 120, .inl (pfX2_putCell_a1_f s0 (pfX2_putCell_a1_f s0 (pfX2_putCell_a1_f s0 fc p1 p2 0 p3) p1 p2 1 p4) p1 p2 2 p5))), (a2, .inl (cI, 5, .inl (gl [s0, 0, 0, 0, 0])))]) [0, 1, 2] (by decide) rfl
  exact W.vret hx hb hr (fun t ht hW => ⟨⟨(), rfl, trivial, by rw [ht]; exact hP9, va_K.moved hW.alike hK, hD9⟩, hS.F ht⟩) hS.2.2 dX2_putDescriptor_26
