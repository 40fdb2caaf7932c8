set_option maxHeartbeats 4000000 in
set_option maxRecDepth 100000 in
theorem kkX2_strideOf (l : Launch) (dC : Nat → ClassId) (dI : Nat → Nat → Nat) (cI cB cZ cR : ClassId) (sz : Nat) (h : Nat) (a0 : Nat) (a1 : Nat) (a2 : Nat) (a3 : Nat) (a4 : Nat) (a5 : Nat) (a6 : Nat) (m0 : Int32) (m1 : Int32) (m2 : Int32) (m3 : Int32) (m4 : Int32) (m5 : Int32) (m6 : Int32) (m7 : Int32) (m8 : Int32) (m9 : Int32) (m10 : Int32) (m11 : Int32) (m12 : Int32) (m13 : Int32) (m14 : Int32) (m15 : Int32) (m16 : Int32) (m17 : Int32) (p1 : Int32) : Met l yX2_strideOf (.code yX2_strideOf cX2_strideOf 2 (some .int) :: wsL_law) ({ frames := 1, cells := 0, slots := 0, locals := 20 }) (zPc dC dI (zT cI cB cZ cR) [.ref h, .int p1] sz [(h, .inr (2, [.ref a0, .ref a1, .ref a2, .ref a3, .ref a4, .ref a5, .ref a6])), (a0, .inl (cI, 22, .inl (gl [m0, m1, m2, m3, m4, m5, m6, m7, m8, m9, m10, m11, m12, m13, m14, m15, m16, m17, 0, 4, 0, 16])))]) (va_Qi (fun (r : Int32) (_ : Unit) => r = 1) (fun _ : Unit => zB dC dI (zT cI cB cZ cR) (va_A [(h, .inr (2, [.ref a0, .ref a1, .ref a2, .ref a3, .ref a4, .ref a5, .ref a6])), (a0, .inl (cI, 22, .inl (gl [m0, m1, m2, m3, m4, m5, m6, m7, m8, m9, m10, m11, m12, m13, m14, m15, m16, m17, 0, 4, 0, 16])))] sz) [(h, .inr (2, [.ref a0, .ref a1, .ref a2, .ref a3, .ref a4, .ref a5, .ref a6])), (a0, .inl (cI, 22, .inl (gl [m0, m1, m2, m3, m4, m5, m6, m7, m8, m9, m10, m11, m12, m13, m14, m15, m16, m17, 0, 4, 0, 16])))]) (va_A [(h, .inr (2, [.ref a0, .ref a1, .ref a2, .ref a3, .ref a4, .ref a5, .ref a6])), (a0, .inl (cI, 22, .inl (gl [m0, m1, m2, m3, m4, m5, m6, m7, m8, m9, m10, m11, m12, m13, m14, m15, m16, m17, 0, 4, 0, 16])))] sz)) 0 0 (va_A [(h, .inr (2, [.ref a0, .ref a1, .ref a2, .ref a3, .ref a4, .ref a5, .ref a6])), (a0, .inl (cI, 22, .inl (gl [m0, m1, m2, m3, m4, m5, m6, m7, m8, m9, m10, m11, m12, m13, m14, m15, m16, m17, 0, 4, 0, 16])))] sz) := by
  refine Met.ofW (cc := cX2_strideOf) (maxL := 2) (ret := (some .int)) (by decide) rfl ?_
  intro p e s m args below meth c s₁ B hml hv
  obtain ⟨rfl, hsz, hP, hK, hD0, hN⟩ := hv
  have hx := B.exec
  have hb := B.bytes
  have hr := B.returns
  have hts := atoms_spec (ws := (.code yX2_strideOf cX2_strideOf 2 (some .int) :: wsL_law)) B.pre
  have hown : s.vm.findClass RX2 = some m.cls := findClass_of_methodNamed B.named
  have hlocks := B.notSynchronized
  subst hsz
  have hD := hD0.self (sz := s.heap.size)
  generalize hAe : va_A [(h, .inr (2, [.ref a0, .ref a1, .ref a2, .ref a3, .ref a4, .ref a5, .ref a6])), (a0, .inl (cI, 22, .inl (gl [m0, m1, m2, m3, m4, m5, m6, m7, m8, m9, m10, m11, m12, m13, m14, m15, m16, m17, 0, 4, 0, 16])))] s.heap.size = A at hD ⊢
  have hA : ∀ q : Nat, s.heap.size ≤ q → A q := fun q h => by rw [← hAe]; exact Or.inr h
  have hP : va_P (dC, dI) vwCl [(h, .inr (2, [.ref a0, .ref a1, .ref a2, .ref a3, .ref a4, .ref a5, .ref a6])), (a0, .inl (cI, 22, .inl (gl [m0, m1, m2, m3, m4, m5, m6, m7, m8, m9, m10, m11, m12, m13, m14, m15, m16, m17, 0, 4, 0, 16])))] s.heap := hP
  have hl := lv_entry ([.ref h, .int p1]) (n := 2) (Nat.le_of_ble_eq_true rfl)
  rw [lg_entry_eq]
  generalize (lg_sl ([.ref h, .int p1]) ++ List.replicate (2 - (lg_sl ([.ref h, .int p1])).length) Slot.unset).toArray = ls at hl ⊢
  have hl : lv_has ls 2 [(0, .ref h), (1, .int p1)] := hl
  obtain ⟨H, hH⟩ : ∃ H, H = s.heap := ⟨_, rfl⟩
  rw [← hH] at hP ⊢
  have hS : va_S A s.heap H [] := by rw [hH]; exact va_S.rf
  refine lv_aload_n hx hb dX2_strideOf_0 rfl (lv_at hl 0 rfl) ?_
  refine zcVi (As := []) (rest := []) (wr := []) ⟨hx, hb, hml, hown, hts⟩ (kkX2_isPacked l dC dI cI cB cZ cR H.size h a0 a1 a2 a3 a4 a5 a6 m0 m1 m2 m3 m4 m5 m6 m7 m8 m9 m10 m11 m12 m13 m14 m15 m16 m17 ) (cwV 0 hts (zgV wm_267 wm_268 wm_269 wm_22 wm_270) rfl rfl rfl (by decide +kernel) ⟨Nat.le_of_ble_eq_true rfl, Nat.le_of_ble_eq_true rfl⟩) hN hK hP hD hS hA [0, 1] [] rfl rfl ⟨rfl, rfl⟩ (by decide) (ci := 2) rfl rfl rfl rfl hl.1 rfl (Nat.le_of_ble_eq_true rfl) dX2_strideOf_1 ⟨Nat.le_of_ble_eq_true rfl, Nat.le_of_ble_eq_true rfl⟩ (fun r u hu H locs hP hD hS => ?_)
  have hu : r = 0 := hu
  subst hu
  have hP : va_P (dC, dI) vwCl [(h, .inr (2, [.ref a0, .ref a1, .ref a2, .ref a3, .ref a4, .ref a5, .ref a6])), (a0, .inl (cI, 22, .inl (gl [m0, m1, m2, m3, m4, m5, m6, m7, m8, m9, m10, m11, m12, m13, m14, m15, m16, m17, 0, 4, 0, 16])))] H := hP
  have hD : va_D A [(h, .inr (2, [.ref a0, .ref a1, .ref a2, .ref a3, .ref a4, .ref a5, .ref a6])), (a0, .inl (cI, 22, .inl (gl [m0, m1, m2, m3, m4, m5, m6, m7, m8, m9, m10, m11, m12, m13, m14, m15, m16, m17, 0, 4, 0, 16])))] := hD
  refine lv_if_eq (tgt := 17) hx hb dX2_strideOf_4 (by decide) (fun _ => ?_) (fun c => absurd (by decide) c)
  refine lv_iconst (v := 1) hx hb dX2_strideOf_17 (by decide) ?_
  have hP9 := hP.sub (ws' := [(h, .inr (2, [.ref a0, .ref a1, .ref a2, .ref a3, .ref a4, .ref a5, .ref a6])), (a0, .inl (cI, 22, .inl (gl [m0, m1, m2, m3, m4, m5, m6, m7, m8, m9, m10, m11, m12, m13, m14, m15, m16, m17, 0, 4, 0, 16])))]) [0, 1] rfl
  have hD9 := hD.sub (ws' := [(h, .inr (2, [.ref a0, .ref a1, .ref a2, .ref a3, .ref a4, .ref a5, .ref a6])), (a0, .inl (cI, 22, .inl (gl [m0, m1, m2, m3, m4, m5, m6, m7, m8, m9, m10, m11, m12, m13, m14, m15, m16, m17, 0, 4, 0, 16])))]) [0, 1] (by decide) rfl
  exact W.iret (v := 1) hx hb hr (fun t ht hW => ⟨⟨1, (), rfl, rfl, by rw [ht]; exact hP9, va_K.moved hW.alike hK, hD9⟩, hS.F ht⟩) hS.2.2 dX2_strideOf_18

def pfX2_holderOf_0_1_r (m5 : Int32) (o0 : Int32) (fb : Nat → Int32) : Int32 := if (pfX2_ofBuffer_g_r m5 fb o0 2) = 0 then (if (pfX2_ofBuffer_g_r m5 fb o0 0) = 1 then o0 else (-1)) else (-1)
set_option maxHeartbeats 4000000 in
set_option maxRecDepth 100000 in
theorem kkX2_holderOf_0_1 (l : Launch) (dC : Nat → ClassId) (dI : Nat → Nat → Nat) (cI cB cZ cR : ClassId) (sz : Nat) (h : Nat) (a0 : Nat) (a1 : Nat) (a2 : Nat) (a3 : Nat) (a4 : Nat) (a5 : Nat) (a6 : Nat) (m0 : Int32) (m1 : Int32) (m2 : Int32) (m3 : Int32) (m4 : Int32) (m5 : Int32) (m6 : Int32) (m7 : Int32) (m8 : Int32) (m9 : Int32) (m10 : Int32) (m11 : Int32) (m12 : Int32) (m13 : Int32) (m14 : Int32) (m15 : Int32) (m16 : Int32) (m17 : Int32) (o0 : Int32) (o1 : Int32) (o2 : Int32) (o3 : Int32) (fb : Nat → Int32) : Met l yX2_holderOf (.code yX2_holderOf cX2_holderOf 4 (some .int) :: wsL_law) ({ frames := 1, cells := 0, slots := 0, locals := 23 }) (zPc dC dI (zT cI cB cZ cR) [.ref h, .int 0, .int 1] sz [(h, .inr (2, [.ref a0, .ref a1, .ref a2, .ref a3, .ref a4, .ref a5, .ref a6])), (a0, .inl (cI, 22, .inl (gl [m0, m1, m2, m3, m4, m5, m6, m7, m8, m9, m10, m11, m12, m13, m14, m15, m16, m17, 0, 4, 0, 16]))), (a4, .inl (cI, 8, .inl (gl [o0, o1, o2, o3, (-1), (-1), (-1), (-1)]))), (a6, .inl (cI, 4000, .inl fb))]) (va_Qi (fun (r : Int32) (_ : Unit) => r = (pfX2_holderOf_0_1_r m5 o0 fb)) (fun _ : Unit => zB dC dI (zT cI cB cZ cR) (va_A [(h, .inr (2, [.ref a0, .ref a1, .ref a2, .ref a3, .ref a4, .ref a5, .ref a6])), (a0, .inl (cI, 22, .inl (gl [m0, m1, m2, m3, m4, m5, m6, m7, m8, m9, m10, m11, m12, m13, m14, m15, m16, m17, 0, 4, 0, 16]))), (a4, .inl (cI, 8, .inl (gl [o0, o1, o2, o3, (-1), (-1), (-1), (-1)]))), (a6, .inl (cI, 4000, .inl fb))] sz) [(h, .inr (2, [.ref a0, .ref a1, .ref a2, .ref a3, .ref a4, .ref a5, .ref a6])), (a0, .inl (cI, 22, .inl (gl [m0, m1, m2, m3, m4, m5, m6, m7, m8, m9, m10, m11, m12, m13, m14, m15, m16, m17, 0, 4, 0, 16]))), (a4, .inl (cI, 8, .inl (gl [o0, o1, o2, o3, (-1), (-1), (-1), (-1)]))), (a6, .inl (cI, 4000, .inl fb))]) (va_A [(h, .inr (2, [.ref a0, .ref a1, .ref a2, .ref a3, .ref a4, .ref a5, .ref a6])), (a0, .inl (cI, 22, .inl (gl [m0, m1, m2, m3, m4, m5, m6, m7, m8, m9, m10, m11, m12, m13, m14, m15, m16, m17, 0, 4, 0, 16]))), (a4, .inl (cI, 8, .inl (gl [o0, o1, o2, o3, (-1), (-1), (-1), (-1)]))), (a6, .inl (cI, 4000, .inl fb))] sz)) 0 0 (va_A [(h, .inr (2, [.ref a0, .ref a1, .ref a2, .ref a3, .ref a4, .ref a5, .ref a6])), (a0, .inl (cI, 22, .inl (gl [m0, m1, m2, m3, m4, m5, m6, m7, m8, m9, m10, m11, m12, m13, m14, m15, m16, m17, 0, 4, 0, 16]))), (a4, .inl (cI, 8, .inl (gl [o0, o1, o2, o3, (-1), (-1), (-1), (-1)]))), (a6, .inl (cI, 4000, .inl fb))] sz) := by
  refine Met.ofW (cc := cX2_holderOf) (maxL := 4) (ret := (some .int)) (by decide) rfl ?_
  intro p e s m args below meth c s₁ B hml hv
  obtain ⟨rfl, hsz, hP, hK, hD0, hN⟩ := hv
  have hx := B.exec
  have hb := B.bytes
  have hr := B.returns
  have hts := atoms_spec (ws := (.code yX2_holderOf cX2_holderOf 4 (some .int) :: wsL_law)) B.pre
  have hown : s.vm.findClass RX2 = some m.cls := findClass_of_methodNamed B.named
  have hlocks := B.notSynchronized
  have hinX2 : ∀ w ∈ u_ws RX2 TX2 7, w ∈ (.code yX2_holderOf cX2_holderOf 4 (some .int) :: wsL_law) := fun w h => List.mem_cons_of_mem _ (inlX2 w h)
  have k_0 := hts (.fieldLink RX2 24 "RingMarks$Ring" "owners" "[I") (List.mem_cons_of_mem _ wm_65)
  subst hsz
  have hD := hD0.self (sz := s.heap.size)
  generalize hAe : va_A [(h, .inr (2, [.ref a0, .ref a1, .ref a2, .ref a3, .ref a4, .ref a5, .ref a6])), (a0, .inl (cI, 22, .inl (gl [m0, m1, m2, m3, m4, m5, m6, m7, m8, m9, m10, m11, m12, m13, m14, m15, m16, m17, 0, 4, 0, 16]))), (a4, .inl (cI, 8, .inl (gl [o0, o1, o2, o3, (-1), (-1), (-1), (-1)]))), (a6, .inl (cI, 4000, .inl fb))] s.heap.size = A at hD ⊢
  have hA : ∀ q : Nat, s.heap.size ≤ q → A q := fun q h => by rw [← hAe]; exact Or.inr h
  have hP : va_P (dC, dI) vwCl [(h, .inr (2, [.ref a0, .ref a1, .ref a2, .ref a3, .ref a4, .ref a5, .ref a6])), (a0, .inl (cI, 22, .inl (gl [m0, m1, m2, m3, m4, m5, m6, m7, m8, m9, m10, m11, m12, m13, m14, m15, m16, m17, 0, 4, 0, 16]))), (a4, .inl (cI, 8, .inl (gl [o0, o1, o2, o3, (-1), (-1), (-1), (-1)]))), (a6, .inl (cI, 4000, .inl fb))] s.heap := hP
  have hl := lv_entry ([.ref h, .int 0, .int 1]) (n := 4) (Nat.le_of_ble_eq_true rfl)
  rw [lg_entry_eq]
  generalize (lg_sl ([.ref h, .int 0, .int 1]) ++ List.replicate (4 - (lg_sl ([.ref h, .int 0, .int 1])).length) Slot.unset).toArray = ls at hl ⊢
  have hl : lv_has ls 4 [(0, .ref h), (1, .int 0), (2, .int 1)] := hl
  obtain ⟨H, hH⟩ : ∃ H, H = s.heap := ⟨_, rfl⟩
  rw [← hH] at hP ⊢
  have hS : va_S A s.heap H [] := by rw [hH]; exact va_S.rf
  refine lv_iload_n hx hb dX2_holderOf_0 rfl (lv_at hl 1 rfl) ?_
  refine lv_if_lt (tgt := 18) hx hb dX2_holderOf_1 (by decide) (fun c => absurd c (by decide)) (fun _ => ?_)
  refine lv_iload_n hx hb dX2_holderOf_4 rfl (lv_at hl 1 rfl) ?_
  refine lv_aload_n hx hb dX2_holderOf_5 rfl (lv_at hl 0 rfl) ?_
  refine zcVi (As := []) (rest := [.int 0]) (wr := [(a4, .inl (cI, 8, .inl (gl [o0, o1, o2, o3, (-1), (-1), (-1), (-1)]))), (a6, .inl (cI, 4000, .inl fb))]) ⟨hx, hb, hml, hown, hts⟩ (kkX2_places l dC dI cI cB cZ cR H.size h a0 a1 a2 a3 a4 a5 a6 m0 m1 m2 m3 m4 m5 m6 m7 m8 m9 m10 m11 m12 m13 m14 m15 m16 m17 ) (cwV 0 hts (zgV wm_259 wm_260 wm_261 wm_22 wm_262) rfl rfl rfl (by decide +kernel) ⟨Nat.le_of_ble_eq_true rfl, Nat.le_of_ble_eq_true rfl⟩) hN hK hP hD hS hA [0, 1] [2, 3] rfl rfl ⟨rfl, rfl⟩ (by decide) (ci := 2) rfl rfl rfl rfl hl.1 rfl (Nat.le_of_ble_eq_true rfl) dX2_holderOf_6 ⟨Nat.le_of_ble_eq_true rfl, Nat.le_of_ble_eq_true rfl⟩ (fun r u hu H locs hP hD hS => ?_)
  have hu : r = 4 := hu
  subst hu
  have hP : va_P (dC, dI) vwCl [(a4, .inl (cI, 8, .inl (gl [o0, o1, o2, o3, (-1), (-1), (-1), (-1)]))), (a6, .inl (cI, 4000, .inl fb)), (h, .inr (2, [.ref a0, .ref a1, .ref a2, .ref a3, .ref a4, .ref a5, .ref a6])), (a0, .inl (cI, 22, .inl (gl [m0, m1, m2, m3, m4, m5, m6, m7, m8, m9, m10, m11, m12, m13, m14, m15, m16, m17, 0, 4, 0, 16])))] H := hP
  have hD : va_D A [(a4, .inl (cI, 8, .inl (gl [o0, o1, o2, o3, (-1), (-1), (-1), (-1)]))), (a6, .inl (cI, 4000, .inl fb)), (h, .inr (2, [.ref a0, .ref a1, .ref a2, .ref a3, .ref a4, .ref a5, .ref a6])), (a0, .inl (cI, 22, .inl (gl [m0, m1, m2, m3, m4, m5, m6, m7, m8, m9, m10, m11, m12, m13, m14, m15, m16, m17, 0, 4, 0, 16])))] := hD
  refine lv_icmp_ge (tgt := 18) hx hb dX2_holderOf_9 (by decide) (fun c => absurd c (by decide)) (fun _ => ?_)
  refine lv_iload_n hx hb dX2_holderOf_12 rfl (lv_at hl 1 rfl) ?_
  refine lv_bipush (v := 8) hx hb dX2_holderOf_13 (by decide) ?_
  refine lv_icmp_lt (tgt := 20) hx hb dX2_holderOf_15 (by decide) (fun _ => ?_) (fun c => absurd (by decide) c)
  refine lv_aload_n hx hb dX2_holderOf_20 rfl (lv_at hl 0 rfl) ?_
  refine va_get (D := (dC, dI)) (ci := 2) (v := .ref a4) (C := RX2) (T := TX2) (N := 7) hx hb hts hinX2 hown hK hP 2 rfl rfl 4 (by decide) k_0 (fun _ h9 => h9) rfl dX2_holderOf_21 ?_
  refine lv_iload_n hx hb dX2_holderOf_24 rfl (lv_at hl 1 rfl) ?_
  refine za_iald (v := o0) hx hb hK hP 0 0 rfl rfl (zin tn_0 (Nat.le_of_ble_eq_true rfl)) (zrd _ tn_0 rfl) dX2_holderOf_25 ?_
  refine lv_istore_n (lv' := [(3, .int o0), (0, .ref h), (1, .int 0), (2, .int 1)]) hx hb dX2_holderOf_26 rfl hl (by decide) rfl (fun ls hl => ?_)
  refine lv_aload_n hx hb dX2_holderOf_27 rfl (lv_at hl 1 rfl) ?_
  refine lv_iload_n hx hb dX2_holderOf_28 rfl (lv_at hl 0 rfl) ?_
  refine lv_iconst (v := 2) hx hb dX2_holderOf_29 (by decide) ?_
  refine zcVi (As := [.int o0, .int 2]) (rest := []) (wr := [(a4, .inl (cI, 8, .inl (gl [o0, o1, o2, o3, (-1), (-1), (-1), (-1)])))]) ⟨hx, hb, hml, hown, hts⟩ (kkX2_ofBuffer_g l dC dI cI cB cZ cR H.size h a0 a1 a2 a3 a4 a5 a6 m0 m1 m2 m3 m4 m5 m6 m7 m8 m9 m10 m11 m12 m13 m14 m15 m16 m17 fb o0 2 ) (cwV 2 hts (zgV wm_298 wm_299 wm_300 wm_22 wm_301) rfl rfl rfl (by decide +kernel) ⟨Nat.le_of_ble_eq_true rfl, Nat.le_of_ble_eq_true rfl⟩) hN hK hP hD hS hA [2, 3, 1] [0] rfl rfl ⟨rfl, rfl⟩ (by decide) (ci := 2) rfl rfl rfl rfl hl.1 rfl (Nat.le_of_ble_eq_true rfl) dX2_holderOf_30 ⟨Nat.le_of_ble_eq_true rfl, Nat.le_of_ble_eq_true rfl⟩ (fun r u hu H locs hP hD hS => ?_)
  have hu : r = (pfX2_ofBuffer_g_r m5 fb o0 2) := hu
  subst hu
  have hP : va_P (dC, dI) vwCl [(a4, .inl (cI, 8, .inl (gl [o0, o1, o2, o3, (-1), (-1), (-1), (-1)]))), (h, .inr (2, [.ref a0, .ref a1, .ref a2, .ref a3, .ref a4, .ref a5, .ref a6])), (a0, .inl (cI, 22, .inl (gl [m0, m1, m2, m3, m4, m5, m6, m7, m8, m9, m10, m11, m12, m13, m14, m15, m16, m17, 0, 4, 0, 16]))), (a6, .inl (cI, 4000, .inl fb))] H := hP
  have hD : va_D A [(a4, .inl (cI, 8, .inl (gl [o0, o1, o2, o3, (-1), (-1), (-1), (-1)]))), (h, .inr (2, [.ref a0, .ref a1, .ref a2, .ref a3, .ref a4, .ref a5, .ref a6])), (a0, .inl (cI, 22, .inl (gl [m0, m1, m2, m3, m4, m5, m6, m7, m8, m9, m10, m11, m12, m13, m14, m15, m16, m17, 0, 4, 0, 16]))), (a6, .inl (cI, 4000, .inl fb))] := hD
  refine lv_iload_n hx hb dX2_holderOf_33 rfl (lv_at hl 2 rfl) ?_
  refine lv_icmp_ne (tgt := 51) hx hb dX2_holderOf_34 (by decide) (fun c_1 => ?_) (fun c_1 => ?_)
  · refine lv_iconst (v := (-1)) hx hb dX2_holderOf_51 (by decide) ?_
    have e_0 : (pfX2_holderOf_0_1_r m5 o0 fb) = (-1) := by rw [pfX2_holderOf_0_1_r, if_neg c_1]
    have hP9 := hP.sub (ws' := [(h, .inr (2, [.ref a0, .ref a1, .ref a2, .ref a3, .ref a4, .ref a5, .ref a6])), (a0, .inl (cI, 22, .inl (gl [m0, m1, m2, m3, m4, m5, m6, m7, m8, m9, m10, m11, m12, m13, m14, m15, m16, m17, 0, 4, 0, 16]))), (a4, .inl (cI, 8, .inl (gl [o0, o1, o2, o3, (-1), (-1), (-1), (-1)]))), (a6, .inl (cI, 4000, .inl fb))]) [1, 2, 0, 3] rfl
    have hD9 := hD.sub (ws' := [(h, .inr (2, [.ref a0, .ref a1, .ref a2, .ref a3, .ref a4, .ref a5, .ref a6])), (a0, .inl (cI, 22, .inl (gl [m0, m1, m2, m3, m4, m5, m6, m7, m8, m9, m10, m11, m12, m13, m14, m15, m16, m17, 0, 4, 0, 16]))), (a4, .inl (cI, 8, .inl (gl [o0, o1, o2, o3, (-1), (-1), (-1), (-1)]))), (a6, .inl (cI, 4000, .inl fb))]) [1, 2, 0, 3] (by decide) rfl
    exact W.iret (v := (-1)) hx hb hr (fun t ht hW => ⟨⟨(-1), (), rfl, e_0.symm, by rw [ht]; exact hP9, va_K.moved hW.alike hK, hD9⟩, hS.F ht⟩) hS.2.2 dX2_holderOf_52
  · refine lv_aload_n hx hb dX2_holderOf_37 rfl (lv_at hl 1 rfl) ?_
    refine lv_iload_n hx hb dX2_holderOf_38 rfl (lv_at hl 0 rfl) ?_
    refine lv_iconst (v := 0) hx hb dX2_holderOf_39 (by decide) ?_
    refine zcVi (As := [.int o0, .int 0]) (rest := []) (wr := [(a4, .inl (cI, 8, .inl (gl [o0, o1, o2, o3, (-1), (-1), (-1), (-1)])))]) ⟨hx, hb, hml, hown, hts⟩ (kkX2_ofBuffer_g l dC dI cI cB cZ cR H.size h a0 a1 a2 a3 a4 a5 a6 m0 m1 m2 m3 m4 m5 m6 m7 m8 m9 m10 m11 m12 m13 m14 m15 m16 m17 fb o0 0 ) (cwV 2 hts (zgV wm_298 wm_299 wm_300 wm_22 wm_301) rfl rfl rfl (by decide +kernel) ⟨Nat.le_of_ble_eq_true rfl, Nat.le_of_ble_eq_true rfl⟩) hN hK hP hD hS hA [1, 2, 3] [0] rfl rfl ⟨rfl, rfl⟩ (by decide) (ci := 2) rfl rfl rfl rfl hl.1 rfl (Nat.le_of_ble_eq_true rfl) dX2_holderOf_40 ⟨Nat.le_of_ble_eq_true rfl, Nat.le_of_ble_eq_true rfl⟩ (fun r u hu H locs hP hD hS => ?_)
    have hu : r = (pfX2_ofBuffer_g_r m5 fb o0 0) := hu
    subst hu
    have hP : va_P (dC, dI) vwCl [(a4, .inl (cI, 8, .inl (gl [o0, o1, o2, o3, (-1), (-1), (-1), (-1)]))), (h, .inr (2, [.ref a0, .ref a1, .ref a2, .ref a3, .ref a4, .ref a5, .ref a6])), (a0, .inl (cI, 22, .inl (gl [m0, m1, m2, m3, m4, m5, m6, m7, m8, m9, m10, m11, m12, m13, m14, m15, m16, m17, 0, 4, 0, 16]))), (a6, .inl (cI, 4000, .inl fb))] H := hP
    have hD : va_D A [(a4, .inl (cI, 8, .inl (gl [o0, o1, o2, o3, (-1), (-1), (-1), (-1)]))), (h, .inr (2, [.ref a0, .ref a1, .ref a2, .ref a3, .ref a4, .ref a5, .ref a6])), (a0, .inl (cI, 22, .inl (gl [m0, m1, m2, m3, m4, m5, m6, m7, m8, m9, m10, m11, m12, m13, m14, m15, m16, m17, 0, 4, 0, 16]))), (a6, .inl (cI, 4000, .inl fb))] := hD
    refine lv_iload_n hx hb dX2_holderOf_43 rfl (lv_at hl 3 rfl) ?_
    refine lv_icmp_ne (tgt := 51) hx hb dX2_holderOf_44 (by decide) (fun c_2 => ?_) (fun c_2 => ?_)
    · refine lv_iconst (v := (-1)) hx hb dX2_holderOf_51 (by decide) ?_
      have e_0 : (pfX2_holderOf_0_1_r m5 o0 fb) = (-1) := by rw [pfX2_holderOf_0_1_r, if_pos c_1, if_neg c_2]
      have hP9 := hP.sub (ws' := [(h, .inr (2, [.ref a0, .ref a1, .ref a2, .ref a3, .ref a4, .ref a5, .ref a6])), (a0, .inl (cI, 22, .inl (gl [m0, m1, m2, m3, m4, m5, m6, m7, m8, m9, m10, m11, m12, m13, m14, m15, m16, m17, 0, 4, 0, 16]))), (a4, .inl (cI, 8, .inl (gl [o0, o1, o2, o3, (-1), (-1), (-1), (-1)]))), (a6, .inl (cI, 4000, .inl fb))]) [1, 2, 0, 3] rfl
      have hD9 := hD.sub (ws' := [(h, .inr (2, [.ref a0, .ref a1, .ref a2, .ref a3, .ref a4, .ref a5, .ref a6])), (a0, .inl (cI, 22, .inl (gl [m0, m1, m2, m3, m4, m5, m6, m7, m8, m9, m10, m11, m12, m13, m14, m15, m16, m17, 0, 4, 0, 16]))), (a4, .inl (cI, 8, .inl (gl [o0, o1, o2, o3, (-1), (-1), (-1), (-1)]))), (a6, .inl (cI, 4000, .inl fb))]) [1, 2, 0, 3] (by decide) rfl
      exact W.iret (v := (-1)) hx hb hr (fun t ht hW => ⟨⟨(-1), (), rfl, e_0.symm, by rw [ht]; exact hP9, va_K.moved hW.alike hK, hD9⟩, hS.F ht⟩) hS.2.2 dX2_holderOf_52
    · refine lv_iload_n hx hb dX2_holderOf_47 rfl (lv_at hl 0 rfl) ?_
      refine lv_goto (tgt := 52) hx hb dX2_holderOf_48 (by decide) ?_
      have e_0 : (pfX2_holderOf_0_1_r m5 o0 fb) = o0 := by rw [pfX2_holderOf_0_1_r, if_pos c_1, if_pos c_2]
      have hP9 := hP.sub (ws' := [(h, .inr (2, [.ref a0, .ref a1, .ref a2, .ref a3, .ref a4, .ref a5, .ref a6])), (a0, .inl (cI, 22, .inl (gl [m0, m1, m2, m3, m4, m5, m6, m7, m8, m9, m10, m11, m12, m13, m14, m15, m16, m17, 0, 4, 0, 16]))), (a4, .inl (cI, 8, .inl (gl [o0, o1, o2, o3, (-1), (-1), (-1), (-1)]))), (a6, .inl (cI, 4000, .inl fb))]) [1, 2, 0, 3] rfl
      have hD9 := hD.sub (ws' := [(h, .inr (2, [.ref a0, .ref a1, .ref a2, .ref a3, .ref a4, .ref a5, .ref a6])), (a0, .inl (cI, 22, .inl (gl [m0, m1, m2, m3, m4, m5, m6, m7, m8, m9, m10, m11, m12, m13, m14, m15, m16, m17, 0, 4, 0, 16]))), (a4, .inl (cI, 8, .inl (gl [o0, o1, o2, o3, (-1), (-1), (-1), (-1)]))), (a6, .inl (cI, 4000, .inl fb))]) [1, 2, 0, 3] (by decide) rfl
      exact W.iret (v := o0) hx hb hr (fun t ht hW => ⟨⟨o0, (), rfl, e_0.symm, by rw [ht]; exact hP9, va_K.moved hW.alike hK, hD9⟩, hS.F ht⟩) hS.2.2 dX2_holderOf_52

def pfX2_holderOf_1_1_r (m5 : Int32) (o1 : Int32) (fb : Nat → Int32) : Int32 := if (pfX2_ofBuffer_g_r m5 fb o1 2) = 1 then (if (pfX2_ofBuffer_g_r m5 fb o1 0) = 1 then o1 else (-1)) else (-1)
set_option maxHeartbeats 4000000 in
set_option maxRecDepth 100000 in
theorem kkX2_holderOf_1_1 (l : Launch) (dC : Nat → ClassId) (dI : Nat → Nat → Nat) (cI cB cZ cR : ClassId) (sz : Nat) (h : Nat) (a0 : Nat) (a1 : Nat) (a2 : Nat) (a3 : Nat) (a4 : Nat) (a5 : Nat) (a6 : Nat) (m0 : Int32) (m1 : Int32) (m2 : Int32) (m3 : Int32) (m4 : Int32) (m5 : Int32) (m6 : Int32) (m7 : Int32) (m8 : Int32) (m9 : Int32) (m10 : Int32) (m11 : Int32) (m12 : Int32) (m13 : Int32) (m14 : Int32) (m15 : Int32) (m16 : Int32) (m17 : Int32) (o0 : Int32) (o1 : Int32) (o2 : Int32) (o3 : Int32) (fb : Nat → Int32) : Met l yX2_holderOf (.code yX2_holderOf cX2_holderOf 4 (some .int) :: wsL_law) ({ frames := 1, cells := 0, slots := 0, locals := 23 }) (zPc dC dI (zT cI cB cZ cR) [.ref h, .int 1, .int 1] sz [(h, .inr (2, [.ref a0, .ref a1, .ref a2, .ref a3, .ref a4, .ref a5, .ref a6])), (a0, .inl (cI, 22, .inl (gl [m0, m1, m2, m3, m4, m5, m6, m7, m8, m9, m10, m11, m12, m13, m14, m15, m16, m17, 0, 4, 0, 16]))), (a4, .inl (cI, 8, .inl (gl [o0, o1, o2, o3, (-1), (-1), (-1), (-1)]))), (a6, .inl (cI, 4000, .inl fb))]) (va_Qi (fun (r : Int32) (_ : Unit) => r = (pfX2_holderOf_1_1_r m5 o1 fb)) (fun _ : Unit => zB dC dI (zT cI cB cZ cR) (va_A [(h, .inr (2, [.ref a0, .ref a1, .ref a2, .ref a3, .ref a4, .ref a5, .ref a6])), (a0, .inl (cI, 22, .inl (gl [m0, m1, m2, m3, m4, m5, m6, m7, m8, m9, m10, m11, m12, m13, m14, m15, m16, m17, 0, 4, 0, 16]))), (a4, .inl (cI, 8, .inl (gl [o0, o1, o2, o3, (-1), (-1), (-1), (-1)]))), (a6, .inl (cI, 4000, .inl fb))] sz) [(h, .inr (2, [.ref a0, .ref a1, .ref a2, .ref a3, .ref a4, .ref a5, .ref a6])), (a0, .inl (cI, 22, .inl (gl [m0, m1, m2, m3, m4, m5, m6, m7, m8, m9, m10, m11, m12, m13, m14, m15, m16, m17, 0, 4, 0, 16]))), (a4, .inl (cI, 8, .inl (gl [o0, o1, o2, o3, (-1), (-1), (-1), (-1)]))), (a6, .inl (cI, 4000, .inl fb))]) (va_A [(h, .inr (2, [.ref a0, .ref a1, .ref a2, .ref a3, .ref a4, .ref a5, .ref a6])), (a0, .inl (cI, 22, .inl (gl [m0, m1, m2, m3, m4, m5, m6, m7, m8, m9, m10, m11, m12, m13, m14, m15, m16, m17, 0, 4, 0, 16]))), (a4, .inl (cI, 8, .inl (gl [o0, o1, o2, o3, (-1), (-1), (-1), (-1)]))), (a6, .inl (cI, 4000, .inl fb))] sz)) 0 0 (va_A [(h, .inr (2, [.ref a0, .ref a1, .ref a2, .ref a3, .ref a4, .ref a5, .ref a6])), (a0, .inl (cI, 22, .inl (gl [m0, m1, m2, m3, m4, m5, m6, m7, m8, m9, m10, m11, m12, m13, m14, m15, m16, m17, 0, 4, 0, 16]))), (a4, .inl (cI, 8, .inl (gl [o0, o1, o2, o3, (-1), (-1), (-1), (-1)]))), (a6, .inl (cI, 4000, .inl fb))] sz) := by
  refine Met.ofW (cc := cX2_holderOf) (maxL := 4) (ret := (some .int)) (by decide) rfl ?_
  intro p e s m args below meth c s₁ B hml hv
  obtain ⟨rfl, hsz, hP, hK, hD0, hN⟩ := hv
  have hx := B.exec
  have hb := B.bytes
  have hr := B.returns
  have hts := atoms_spec (ws := (.code yX2_holderOf cX2_holderOf 4 (some .int) :: wsL_law)) B.pre
  have hown : s.vm.findClass RX2 = some m.cls := findClass_of_methodNamed B.named
  have hlocks := B.notSynchronized
  have hinX2 : ∀ w ∈ u_ws RX2 TX2 7, w ∈ (.code yX2_holderOf cX2_holderOf 4 (some .int) :: wsL_law) := fun w h => List.mem_cons_of_mem _ (inlX2 w h)
  have k_0 := hts (.fieldLink RX2 24 "RingMarks$Ring" "owners" "[I") (List.mem_cons_of_mem _ wm_65)
  subst hsz
  have hD := hD0.self (sz := s.heap.size)
  generalize hAe : va_A [(h, .inr (2, [.ref a0, .ref a1, .ref a2, .ref a3, .ref a4, .ref a5, .ref a6])), (a0, .inl (cI, 22, .inl (gl [m0, m1, m2, m3, m4, m5, m6, m7, m8, m9, m10, m11, m12, m13, m14, m15, m16, m17, 0, 4, 0, 16]))), (a4, .inl (cI, 8, .inl (gl [o0, o1, o2, o3, (-1), (-1), (-1), (-1)]))), (a6, .inl (cI, 4000, .inl fb))] s.heap.size = A at hD ⊢
  have hA : ∀ q : Nat, s.heap.size ≤ q → A q := fun q h => by rw [← hAe]; exact Or.inr h
  have hP : va_P (dC, dI) vwCl [(h, .inr (2, [.ref a0, .ref a1, .ref a2, .ref a3, .ref a4, .ref a5, .ref a6])), (a0, .inl (cI, 22, .inl (gl [m0, m1, m2, m3, m4, m5, m6, m7, m8, m9, m10, m11, m12, m13, m14, m15, m16, m17, 0, 4, 0, 16]))), (a4, .inl (cI, 8, .inl (gl [o0, o1, o2, o3, (-1), (-1), (-1), (-1)]))), (a6, .inl (cI, 4000, .inl fb))] s.heap := hP
  have hl := lv_entry ([.ref h, .int 1, .int 1]) (n := 4) (Nat.le_of_ble_eq_true rfl)
  rw [lg_entry_eq]
  generalize (lg_sl ([.ref h, .int 1, .int 1]) ++ List.replicate (4 - (lg_sl ([.ref h, .int 1, .int 1])).length) Slot.unset).toArray = ls at hl ⊢
  have hl : lv_has ls 4 [(0, .ref h), (1, .int 1), (2, .int 1)] := hl
  obtain ⟨H, hH⟩ : ∃ H, H = s.heap := ⟨_, rfl⟩
  rw [← hH] at hP ⊢
  have hS : va_S A s.heap H [] := by rw [hH]; exact va_S.rf
  refine lv_iload_n hx hb dX2_holderOf_0 rfl (lv_at hl 1 rfl) ?_
  refine lv_if_lt (tgt := 18) hx hb dX2_holderOf_1 (by decide) (fun c => absurd c (by decide)) (fun _ => ?_)
  refine lv_iload_n hx hb dX2_holderOf_4 rfl (lv_at hl 1 rfl) ?_
  refine lv_aload_n hx hb dX2_holderOf_5 rfl (lv_at hl 0 rfl) ?_
  refine zcVi (As := []) (rest := [.int 1]) (wr := [(a4, .inl (cI, 8, .inl (gl [o0, o1, o2, o3, (-1), (-1), (-1), (-1)]))), (a6, .inl (cI, 4000, .inl fb))]) ⟨hx, hb, hml, hown, hts⟩ (kkX2_places l dC dI cI cB cZ cR H.size h a0 a1 a2 a3 a4 a5 a6 m0 m1 m2 m3 m4 m5 m6 m7 m8 m9 m10 m11 m12 m13 m14 m15 m16 m17 ) (cwV 0 hts (zgV wm_259 wm_260 wm_261 wm_22 wm_262) rfl rfl rfl (by decide +kernel) ⟨Nat.le_of_ble_eq_true rfl, Nat.le_of_ble_eq_true rfl⟩) hN hK hP hD hS hA [0, 1] [2, 3] rfl rfl ⟨rfl, rfl⟩ (by decide) (ci := 2) rfl rfl rfl rfl hl.1 rfl (Nat.le_of_ble_eq_true rfl) dX2_holderOf_6 ⟨Nat.le_of_ble_eq_true rfl, Nat.le_of_ble_eq_true rfl⟩ (fun r u hu H locs hP hD hS => ?_)
  have hu : r = 4 := hu
  subst hu
  have hP : va_P (dC, dI) vwCl [(a4, .inl (cI, 8, .inl (gl [o0, o1, o2, o3, (-1), (-1), (-1), (-1)]))), (a6, .inl (cI, 4000, .inl fb)), (h, .inr (2, [.ref a0, .ref a1, .ref a2, .ref a3, .ref a4, .ref a5, .ref a6])), (a0, .inl (cI, 22, .inl (gl [m0, m1, m2, m3, m4, m5, m6, m7, m8, m9, m10, m11, m12, m13, m14, m15, m16, m17, 0, 4, 0, 16])))] H := hP
  have hD : va_D A [(a4, .inl (cI, 8, .inl (gl [o0, o1, o2, o3, (-1), (-1), (-1), (-1)]))), (a6, .inl (cI, 4000, .inl fb)), (h, .inr (2, [.ref a0, .ref a1, .ref a2, .ref a3, .ref a4, .ref a5, .ref a6])), (a0, .inl (cI, 22, .inl (gl [m0, m1, m2, m3, m4, m5, m6, m7, m8, m9, m10, m11, m12, m13, m14, m15, m16, m17, 0, 4, 0, 16])))] := hD
  refine lv_icmp_ge (tgt := 18) hx hb dX2_holderOf_9 (by decide) (fun c => absurd c (by decide)) (fun _ => ?_)
  refine lv_iload_n hx hb dX2_holderOf_12 rfl (lv_at hl 1 rfl) ?_
  refine lv_bipush (v := 8) hx hb dX2_holderOf_13 (by decide) ?_
  refine lv_icmp_lt (tgt := 20) hx hb dX2_holderOf_15 (by decide) (fun _ => ?_) (fun c => absurd (by decide) c)
  refine lv_aload_n hx hb dX2_holderOf_20 rfl (lv_at hl 0 rfl) ?_
  refine va_get (D := (dC, dI)) (ci := 2) (v := .ref a4) (C := RX2) (T := TX2) (N := 7) hx hb hts hinX2 hown hK hP 2 rfl rfl 4 (by decide) k_0 (fun _ h9 => h9) rfl dX2_holderOf_21 ?_
  refine lv_iload_n hx hb dX2_holderOf_24 rfl (lv_at hl 1 rfl) ?_
  refine za_iald (v := o1) hx hb hK hP 0 0 rfl rfl (zin tn_1 (Nat.le_of_ble_eq_true rfl)) (zrd _ tn_1 rfl) dX2_holderOf_25 ?_
  refine lv_istore_n (lv' := [(3, .int o1), (0, .ref h), (1, .int 1), (2, .int 1)]) hx hb dX2_holderOf_26 rfl hl (by decide) rfl (fun ls hl => ?_)
  refine lv_aload_n hx hb dX2_holderOf_27 rfl (lv_at hl 1 rfl) ?_
  refine lv_iload_n hx hb dX2_holderOf_28 rfl (lv_at hl 0 rfl) ?_
  refine lv_iconst (v := 2) hx hb dX2_holderOf_29 (by decide) ?_
  refine zcVi (As := [.int o1, .int 2]) (rest := []) (wr := [(a4, .inl (cI, 8, .inl (gl [o0, o1, o2, o3, (-1), (-1), (-1), (-1)])))]) ⟨hx, hb, hml, hown, hts⟩ (kkX2_ofBuffer_g l dC dI cI cB cZ cR H.size h a0 a1 a2 a3 a4 a5 a6 m0 m1 m2 m3 m4 m5 m6 m7 m8 m9 m10 m11 m12 m13 m14 m15 m16 m17 fb o1 2 ) (cwV 2 hts (zgV wm_298 wm_299 wm_300 wm_22 wm_301) rfl rfl rfl (by decide +kernel) ⟨Nat.le_of_ble_eq_true rfl, Nat.le_of_ble_eq_true rfl⟩) hN hK hP hD hS hA [2, 3, 1] [0] rfl rfl ⟨rfl, rfl⟩ (by decide) (ci := 2) rfl rfl rfl rfl hl.1 rfl (Nat.le_of_ble_eq_true rfl) dX2_holderOf_30 ⟨Nat.le_of_ble_eq_true rfl, Nat.le_of_ble_eq_true rfl⟩ (fun r u hu H locs hP hD hS => ?_)
  have hu : r = (pfX2_ofBuffer_g_r m5 fb o1 2) := hu
  subst hu
  have hP : va_P (dC, dI) vwCl [(a4, .inl (cI, 8, .inl (gl [o0, o1, o2, o3, (-1), (-1), (-1), (-1)]))), (h, .inr (2, [.ref a0, .ref a1, .ref a2, .ref a3, .ref a4, .ref a5, .ref a6])), (a0, .inl (cI, 22, .inl (gl [m0, m1, m2, m3, m4, m5, m6, m7, m8, m9, m10, m11, m12, m13, m14, m15, m16, m17, 0, 4, 0, 16]))), (a6, .inl (cI, 4000, .inl fb))] H := hP
  have hD : va_D A [(a4, .inl (cI, 8, .inl (gl [o0, o1, o2, o3, (-1), (-1), (-1), (-1)]))), (h, .inr (2, [.ref a0, .ref a1, .ref a2, .ref a3, .ref a4, .ref a5, .ref a6])), (a0, .inl (cI, 22, .inl (gl [m0, m1, m2, m3, m4, m5, m6, m7, m8, m9, m10, m11, m12, m13, m14, m15, m16, m17, 0, 4, 0, 16]))), (a6, .inl (cI, 4000, .inl fb))] := hD
  refine lv_iload_n hx hb dX2_holderOf_33 rfl (lv_at hl 2 rfl) ?_
  refine lv_icmp_ne (tgt := 51) hx hb dX2_holderOf_34 (by decide) (fun c_1 => ?_) (fun c_1 => ?_)
  · refine lv_iconst (v := (-1)) hx hb dX2_holderOf_51 (by decide) ?_
    have e_0 : (pfX2_holderOf_1_1_r m5 o1 fb) = (-1) := by rw [pfX2_holderOf_1_1_r, if_neg c_1]
    have hP9 := hP.sub (ws' := [(h, .inr (2, [.ref a0, .ref a1, .ref a2, .ref a3, .ref a4, .ref a5, .ref a6])), (a0, .inl (cI, 22, .inl (gl [m0, m1, m2, m3, m4, m5, m6, m7, m8, m9, m10, m11, m12, m13, m14, m15, m16, m17, 0, 4, 0, 16]))), (a4, .inl (cI, 8, .inl (gl [o0, o1, o2, o3, (-1), (-1), (-1), (-1)]))), (a6, .inl (cI, 4000, .inl fb))]) [1, 2, 0, 3] rfl
    have hD9 := hD.sub (ws' := [(h, .inr (2, [.ref a0, .ref a1, .ref a2, .ref a3, .ref a4, .ref a5, .ref a6])), (a0, .inl (cI, 22, .inl (gl [m0, m1, m2, m3, m4, m5, m6, m7, m8, m9, m10, m11, m12, m13, m14, m15, m16, m17, 0, 4, 0, 16]))), (a4, .inl (cI, 8, .inl (gl [o0, o1, o2, o3, (-1), (-1), (-1), (-1)]))), (a6, .inl (cI, 4000, .inl fb))]) [1, 2, 0, 3] (by decide) rfl
    exact W.iret (v := (-1)) hx hb hr (fun t ht hW => ⟨⟨(-1), (), rfl, e_0.symm, by rw [ht]; exact hP9, va_K.moved hW.alike hK, hD9⟩, hS.F ht⟩) hS.2.2 dX2_holderOf_52
  · refine lv_aload_n hx hb dX2_holderOf_37 rfl (lv_at hl 1 rfl) ?_
    refine lv_iload_n hx hb dX2_holderOf_38 rfl (lv_at hl 0 rfl) ?_
    refine lv_iconst (v := 0) hx hb dX2_holderOf_39 (by decide) ?_
    refine zcVi (As := [.int o1, .int 0]) (rest := []) (wr := [(a4, .inl (cI, 8, .inl (gl [o0, o1, o2, o3, (-1), (-1), (-1), (-1)])))]) ⟨hx, hb, hml, hown, hts⟩ (kkX2_ofBuffer_g l dC dI cI cB cZ cR H.size h a0 a1 a2 a3 a4 a5 a6 m0 m1 m2 m3 m4 m5 m6 m7 m8 m9 m10 m11 m12 m13 m14 m15 m16 m17 fb o1 0 ) (cwV 2 hts (zgV wm_298 wm_299 wm_300 wm_22 wm_301) rfl rfl rfl (by decide +kernel) ⟨Nat.le_of_ble_eq_true rfl, Nat.le_of_ble_eq_true rfl⟩) hN hK hP hD hS hA [1, 2, 3] [0] rfl rfl ⟨rfl, rfl⟩ (by decide) (ci := 2) rfl rfl rfl rfl hl.1 rfl (Nat.le_of_ble_eq_true rfl) dX2_holderOf_40 ⟨Nat.le_of_ble_eq_true rfl, Nat.le_of_ble_eq_true rfl⟩ (fun r u hu H locs hP hD hS => ?_)
    have hu : r = (pfX2_ofBuffer_g_r m5 fb o1 0) := hu
    subst hu
    have hP : va_P (dC, dI) vwCl [(a4, .inl (cI, 8, .inl (gl [o0, o1, o2, o3, (-1), (-1), (-1), (-1)]))), (h, .inr (2, [.ref a0, .ref a1, .ref a2, .ref a3, .ref a4, .ref a5, .ref a6])), (a0, .inl (cI, 22, .inl (gl [m0, m1, m2, m3, m4, m5, m6, m7, m8, m9, m10, m11, m12, m13, m14, m15, m16, m17, 0, 4, 0, 16]))), (a6, .inl (cI, 4000, .inl fb))] H := hP
    have hD : va_D A [(a4, .inl (cI, 8, .inl (gl [o0, o1, o2, o3, (-1), (-1), (-1), (-1)]))), (h, .inr (2, [.ref a0, .ref a1, .ref a2, .ref a3, .ref a4, .ref a5, .ref a6])), (a0, .inl (cI, 22, .inl (gl [m0, m1, m2, m3, m4, m5, m6, m7, m8, m9, m10, m11, m12, m13, m14, m15, m16, m17, 0, 4, 0, 16]))), (a6, .inl (cI, 4000, .inl fb))] := hD
    refine lv_iload_n hx hb dX2_holderOf_43 rfl (lv_at hl 3 rfl) ?_
    refine lv_icmp_ne (tgt := 51) hx hb dX2_holderOf_44 (by decide) (fun c_2 => ?_) (fun c_2 => ?_)
    · refine lv_iconst (v := (-1)) hx hb dX2_holderOf_51 (by decide) ?_
      have e_0 : (pfX2_holderOf_1_1_r m5 o1 fb) = (-1) := by rw [pfX2_holderOf_1_1_r, if_pos c_1, if_neg c_2]
      have hP9 := hP.sub (ws' := [(h, .inr (2, [.ref a0, .ref a1, .ref a2, .ref a3, .ref a4, .ref a5, .ref a6])), (a0, .inl (cI, 22, .inl (gl [m0, m1, m2, m3, m4, m5, m6, m7, m8, m9, m10, m11, m12, m13, m14, m15, m16, m17, 0, 4, 0, 16]))), (a4, .inl (cI, 8, .inl (gl [o0, o1, o2, o3, (-1), (-1), (-1), (-1)]))), (a6, .inl (cI, 4000, .inl fb))]) [1, 2, 0, 3] rfl
      have hD9 := hD.sub (ws' := [(h, .inr (2, [.ref a0, .ref a1, .ref a2, .ref a3, .ref a4, .ref a5, .ref a6])), (a0, .inl (cI, 22, .inl (gl [m0, m1, m2, m3, m4, m5, m6, m7, m8, m9, m10, m11, m12, m13, m14, m15, m16, m17, 0, 4, 0, 16]))), (a4, .inl (cI, 8, .inl (gl [o0, o1, o2, o3, (-1), (-1), (-1), (-1)]))), (a6, .inl (cI, 4000, .inl fb))]) [1, 2, 0, 3] (by decide) rfl
      exact W.iret (v := (-1)) hx hb hr (fun t ht hW => ⟨⟨(-1), (), rfl, e_0.symm, by rw [ht]; exact hP9, va_K.moved hW.alike hK, hD9⟩, hS.F ht⟩) hS.2.2 dX2_holderOf_52
    · refine lv_iload_n hx hb dX2_holderOf_47 rfl (lv_at hl 0 rfl) ?_
      refine lv_goto (tgt := 52) hx hb dX2_holderOf_48 (by decide) ?_
      have e_0 : (pfX2_holderOf_1_1_r m5 o1 fb) = o1 := by rw [pfX2_holderOf_1_1_r, if_pos c_1, if_pos c_2]
      have hP9 := hP.sub (ws' := [(h, .inr (2, [.ref a0, .ref a1, .ref a2, .ref a3, .ref a4, .ref a5, .ref a6])), (a0, .inl (cI, 22, .inl (gl [m0, m1, m2, m3, m4, m5, m6, m7, m8, m9, m10, m11, m12, m13, m14, m15, m16, m17, 0, 4, 0, 16]))), (a4, .inl (cI, 8, .inl (gl [o0, o1, o2, o3, (-1), (-1), (-1), (-1)]))), (a6, .inl (cI, 4000, .inl fb))]) [1, 2, 0, 3] rfl
      have hD9 := hD.sub (ws' := [(h, .inr (2, [.ref a0, .ref a1, .ref a2, .ref a3, .ref a4, .ref a5, .ref a6])), (a0, .inl (cI, 22, .inl (gl [m0, m1, m2, m3, m4, m5, m6, m7, m8, m9, m10, m11, m12, m13, m14, m15, m16, m17, 0, 4, 0, 16]))), (a4, .inl (cI, 8, .inl (gl [o0, o1, o2, o3, (-1), (-1), (-1), (-1)]))), (a6, .inl (cI, 4000, .inl fb))]) [1, 2, 0, 3] (by decide) rfl
      exact W.iret (v := o1) hx hb hr (fun t ht hW => ⟨⟨o1, (), rfl, e_0.symm, by rw [ht]; exact hP9, va_K.moved hW.alike hK, hD9⟩, hS.F ht⟩) hS.2.2 dX2_holderOf_52

def pfX2_holderOf_2_1_r (m5 : Int32) (o2 : Int32) (fb : Nat → Int32) : Int32 := if (pfX2_ofBuffer_g_r m5 fb o2 2) = 2 then (if (pfX2_ofBuffer_g_r m5 fb o2 0) = 1 then o2 else (-1)) else (-1)
set_option maxHeartbeats 4000000 in
set_option maxRecDepth 100000 in
theorem kkX2_holderOf_2_1 (l : Launch) (dC : Nat → ClassId) (dI : Nat → Nat → Nat) (cI cB cZ cR : ClassId) (sz : Nat) (h : Nat) (a0 : Nat) (a1 : Nat) (a2 : Nat) (a3 : Nat) (a4 : Nat) (a5 : Nat) (a6 : Nat) (m0 : Int32) (m1 : Int32) (m2 : Int32) (m3 : Int32) (m4 : Int32) (m5 : Int32) (m6 : Int32) (m7 : Int32) (m8 : Int32) (m9 : Int32) (m10 : Int32) (m11 : Int32) (m12 : Int32) (m13 : Int32) (m14 : Int32) (m15 : Int32) (m16 : Int32) (m17 : Int32) (o0 : Int32) (o1 : Int32) (o2 : Int32) (o3 : Int32) (fb : Nat → Int32) : Met l yX2_holderOf (.code yX2_holderOf cX2_holderOf 4 (some .int) :: wsL_law) ({ frames := 1, cells := 0, slots := 0, locals := 23 }) (zPc dC dI (zT cI cB cZ cR) [.ref h, .int 2, .int 1] sz [(h, .inr (2, [.ref a0, .ref a1, .ref a2, .ref a3, .ref a4, .ref a5, .ref a6])), (a0, .inl (cI, 22, .inl (gl [m0, m1, m2, m3, m4, m5, m6, m7, m8, m9, m10, m11, m12, m13, m14, m15, m16, m17, 0, 4, 0, 16]))), (a4, .inl (cI, 8, .inl (gl [o0, o1, o2, o3, (-1), (-1), (-1), (-1)]))), (a6, .inl (cI, 4000, .inl fb))]) (va_Qi (fun (r : Int32) (_ : Unit) => r = (pfX2_holderOf_2_1_r m5 o2 fb)) (fun _ : Unit => zB dC dI (zT cI cB cZ cR) (va_A [(h, .inr (2, [.ref a0, .ref a1, .ref a2, .ref a3, .ref a4, .ref a5, .ref a6])), (a0, .inl (cI, 22, .inl (gl [m0, m1, m2, m3, m4, m5, m6, m7, m8, m9, m10, m11, m12, m13, m14, m15, m16, m17, 0, 4, 0, 16]))), (a4, .inl (cI, 8, .inl (gl [o0, o1, o2, o3, (-1), (-1), (-1), (-1)]))), (a6, .inl (cI, 4000, .inl fb))] sz) [(h, .inr (2, [.ref a0, .ref a1, .ref a2, .ref a3, .ref a4, .ref a5, .ref a6])), (a0, .inl (cI, 22, .inl (gl [m0, m1, m2, m3, m4, m5, m6, m7, m8, m9, m10, m11, m12, m13, m14, m15, m16, m17, 0, 4, 0, 16]))), (a4, .inl (cI, 8, .inl (gl [o0, o1, o2, o3, (-1), (-1), (-1), (-1)]))), (a6, .inl (cI, 4000, .inl fb))]) (va_A [(h, .inr (2, [.ref a0, .ref a1, .ref a2, .ref a3, .ref a4, .ref a5, .ref a6])), (a0, .inl (cI, 22, .inl (gl [m0, m1, m2, m3, m4, m5, m6, m7, m8, m9, m10, m11, m12, m13, m14, m15, m16, m17, 0, 4, 0, 16]))), (a4, .inl (cI, 8, .inl (gl [o0, o1, o2, o3, (-1), (-1), (-1), (-1)]))), (a6, .inl (cI, 4000, .inl fb))] sz)) 0 0 (va_A [(h, .inr (2, [.ref a0, .ref a1, .ref a2, .ref a3, .ref a4, .ref a5, .ref a6])), (a0, .inl (cI, 22, .inl (gl [m0, m1, m2, m3, m4, m5, m6, m7, m8, m9, m10, m11, m12, m13, m14, m15, m16, m17, 0, 4, 0, 16]))), (a4, .inl (cI, 8, .inl (gl [o0, o1, o2, o3, (-1), (-1), (-1), (-1)]))), (a6, .inl (cI, 4000, .inl fb))] sz) := by
  refine Met.ofW (cc := cX2_holderOf) (maxL := 4) (ret := (some .int)) (by decide) rfl ?_
  intro p e s m args below meth c s₁ B hml hv
  obtain ⟨rfl, hsz, hP, hK, hD0, hN⟩ := hv
  have hx := B.exec
  have hb := B.bytes
  have hr := B.returns
  have hts := atoms_spec (ws := (.code yX2_holderOf cX2_holderOf 4 (some .int) :: wsL_law)) B.pre
  have hown : s.vm.findClass RX2 = some m.cls := findClass_of_methodNamed B.named
  have hlocks := B.notSynchronized
  have hinX2 : ∀ w ∈ u_ws RX2 TX2 7, w ∈ (.code yX2_holderOf cX2_holderOf 4 (some .int) :: wsL_law) := fun w h => List.mem_cons_of_mem _ (inlX2 w h)
  have k_0 := hts (.fieldLink RX2 24 "RingMarks$Ring" "owners" "[I") (List.mem_cons_of_mem _ wm_65)
  subst hsz
  have hD := hD0.self (sz := s.heap.size)
  generalize hAe : va_A [(h, .inr (2, [.ref a0, .ref a1, .ref a2, .ref a3, .ref a4, .ref a5, .ref a6])), (a0, .inl (cI, 22, .inl (gl [m0, m1, m2, m3, m4, m5, m6, m7, m8, m9, m10, m11, m12, m13, m14, m15, m16, m17, 0, 4, 0, 16]))), (a4, .inl (cI, 8, .inl (gl [o0, o1, o2, o3, (-1), (-1), (-1), (-1)]))), (a6, .inl (cI, 4000, .inl fb))] s.heap.size = A at hD ⊢
  have hA : ∀ q : Nat, s.heap.size ≤ q → A q := fun q h => by rw [← hAe]; exact Or.inr h
  have hP : va_P (dC, dI) vwCl [(h, .inr (2, [.ref a0, .ref a1, .ref a2, .ref a3, .ref a4, .ref a5, .ref a6])), (a0, .inl (cI, 22, .inl (gl [m0, m1, m2, m3, m4, m5, m6, m7, m8, m9, m10, m11, m12, m13, m14, m15, m16, m17, 0, 4, 0, 16]))), (a4, .inl (cI, 8, .inl (gl [o0, o1, o2, o3, (-1), (-1), (-1), (-1)]))), (a6, .inl (cI, 4000, .inl fb))] s.heap := hP
  have hl := lv_entry ([.ref h, .int 2, .int 1]) (n := 4) (Nat.le_of_ble_eq_true rfl)
  rw [lg_entry_eq]
  generalize (lg_sl ([.ref h, .int 2, .int 1]) ++ List.replicate (4 - (lg_sl ([.ref h, .int 2, .int 1])).length) Slot.unset).toArray = ls at hl ⊢
  have hl : lv_has ls 4 [(0, .ref h), (1, .int 2), (2, .int 1)] := hl
  obtain ⟨H, hH⟩ : ∃ H, H = s.heap := ⟨_, rfl⟩
  rw [← hH] at hP ⊢
  have hS : va_S A s.heap H [] := by rw [hH]; exact va_S.rf
  refine lv_iload_n hx hb dX2_holderOf_0 rfl (lv_at hl 1 rfl) ?_
  refine lv_if_lt (tgt := 18) hx hb dX2_holderOf_1 (by decide) (fun c => absurd c (by decide)) (fun _ => ?_)
  refine lv_iload_n hx hb dX2_holderOf_4 rfl (lv_at hl 1 rfl) ?_
  refine lv_aload_n hx hb dX2_holderOf_5 rfl (lv_at hl 0 rfl) ?_
  refine zcVi (As := []) (rest := [.int 2]) (wr := [(a4, .inl (cI, 8, .inl (gl [o0, o1, o2, o3, (-1), (-1), (-1), (-1)]))), (a6, .inl (cI, 4000, .inl fb))]) ⟨hx, hb, hml, hown, hts⟩ (kkX2_places l dC dI cI cB cZ cR H.size h a0 a1 a2 a3 a4 a5 a6 m0 m1 m2 m3 m4 m5 m6 m7 m8 m9 m10 m11 m12 m13 m14 m15 m16 m17 ) (cwV 0 hts (zgV wm_259 wm_260 wm_261 wm_22 wm_262) rfl rfl rfl (by decide +kernel) ⟨Nat.le_of_ble_eq_true rfl, Nat.le_of_ble_eq_true rfl⟩) hN hK hP hD hS hA [0, 1] [2, 3] rfl rfl ⟨rfl, rfl⟩ (by decide) (ci := 2) rfl rfl rfl rfl hl.1 rfl (Nat.le_of_ble_eq_true rfl) dX2_holderOf_6 ⟨Nat.le_of_ble_eq_true rfl, Nat.le_of_ble_eq_true rfl⟩ (fun r u hu H locs hP hD hS => ?_)
  have hu : r = 4 := hu
  subst hu
  have hP : va_P (dC, dI) vwCl [(a4, .inl (cI, 8, .inl (gl [o0, o1, o2, o3, (-1), (-1), (-1), (-1)]))), (a6, .inl (cI, 4000, .inl fb)), (h, .inr (2, [.ref a0, .ref a1, .ref a2, .ref a3, .ref a4, .ref a5, .ref a6])), (a0, .inl (cI, 22, .inl (gl [m0, m1, m2, m3, m4, m5, m6, m7, m8, m9, m10, m11, m12, m13, m14, m15, m16, m17, 0, 4, 0, 16])))] H := hP
  have hD : va_D A [(a4, .inl (cI, 8, .inl (gl [o0, o1, o2, o3, (-1), (-1), (-1), (-1)]))), (a6, .inl (cI, 4000, .inl fb)), (h, .inr (2, [.ref a0, .ref a1, .ref a2, .ref a3, .ref a4, .ref a5, .ref a6])), (a0, .inl (cI, 22, .inl (gl [m0, m1, m2, m3, m4, m5, m6, m7, m8, m9, m10, m11, m12, m13, m14, m15, m16, m17, 0, 4, 0, 16])))] := hD
  refine lv_icmp_ge (tgt := 18) hx hb dX2_holderOf_9 (by decide) (fun c => absurd c (by decide)) (fun _ => ?_)
  refine lv_iload_n hx hb dX2_holderOf_12 rfl (lv_at hl 1 rfl) ?_
  refine lv_bipush (v := 8) hx hb dX2_holderOf_13 (by decide) ?_
  refine lv_icmp_lt (tgt := 20) hx hb dX2_holderOf_15 (by decide) (fun _ => ?_) (fun c => absurd (by decide) c)
  refine lv_aload_n hx hb dX2_holderOf_20 rfl (lv_at hl 0 rfl) ?_
  refine va_get (D := (dC, dI)) (ci := 2) (v := .ref a4) (C := RX2) (T := TX2) (N := 7) hx hb hts hinX2 hown hK hP 2 rfl rfl 4 (by decide) k_0 (fun _ h9 => h9) rfl dX2_holderOf_21 ?_
  refine lv_iload_n hx hb dX2_holderOf_24 rfl (lv_at hl 1 rfl) ?_
  refine za_iald (v := o2) hx hb hK hP 0 0 rfl rfl (zin tn_2 (Nat.le_of_ble_eq_true rfl)) (zrd _ tn_2 rfl) dX2_holderOf_25 ?_
  refine lv_istore_n (lv' := [(3, .int o2), (0, .ref h), (1, .int 2), (2, .int 1)]) hx hb dX2_holderOf_26 rfl hl (by decide) rfl (fun ls hl => ?_)
  refine lv_aload_n hx hb dX2_holderOf_27 rfl (lv_at hl 1 rfl) ?_
  refine lv_iload_n hx hb dX2_holderOf_28 rfl (lv_at hl 0 rfl) ?_
  refine lv_iconst (v := 2) hx hb dX2_holderOf_29 (by decide) ?_
  refine zcVi (As := [.int o2, .int 2]) (rest := []) (wr := [(a4, .inl (cI, 8, .inl (gl [o0, o1, o2, o3, (-1), (-1), (-1), (-1)])))]) ⟨hx, hb, hml, hown, hts⟩ (kkX2_ofBuffer_g l dC dI cI cB cZ cR H.size h a0 a1 a2 a3 a4 a5 a6 m0 m1 m2 m3 m4 m5 m6 m7 m8 m9 m10 m11 m12 m13 m14 m15 m16 m17 fb o2 2 ) (cwV 2 hts (zgV wm_298 wm_299 wm_300 wm_22 wm_301) rfl rfl rfl (by decide +kernel) ⟨Nat.le_of_ble_eq_true rfl, Nat.le_of_ble_eq_true rfl⟩) hN hK hP hD hS hA [2, 3, 1] [0] rfl rfl ⟨rfl, rfl⟩ (by decide) (ci := 2) rfl rfl rfl rfl hl.1 rfl (Nat.le_of_ble_eq_true rfl) dX2_holderOf_30 ⟨Nat.le_of_ble_eq_true rfl, Nat.le_of_ble_eq_true rfl⟩ (fun r u hu H locs hP hD hS => ?_)
  have hu : r = (pfX2_ofBuffer_g_r m5 fb o2 2) := hu
  subst hu
  have hP : va_P (dC, dI) vwCl [(a4, .inl (cI, 8, .inl (gl [o0, o1, o2, o3, (-1), (-1), (-1), (-1)]))), (h, .inr (2, [.ref a0, .ref a1, .ref a2, .ref a3, .ref a4, .ref a5, .ref a6])), (a0, .inl (cI, 22, .inl (gl [m0, m1, m2, m3, m4, m5, m6, m7, m8, m9, m10, m11, m12, m13, m14, m15, m16, m17, 0, 4, 0, 16]))), (a6, .inl (cI, 4000, .inl fb))] H := hP
  have hD : va_D A [(a4, .inl (cI, 8, .inl (gl [o0, o1, o2, o3, (-1), (-1), (-1), (-1)]))), (h, .inr (2, [.ref a0, .ref a1, .ref a2, .ref a3, .ref a4, .ref a5, .ref a6])), (a0, .inl (cI, 22, .inl (gl [m0, m1, m2, m3, m4, m5, m6, m7, m8, m9, m10, m11, m12, m13, m14, m15, m16, m17, 0, 4, 0, 16]))), (a6, .inl (cI, 4000, .inl fb))] := hD
  refine lv_iload_n hx hb dX2_holderOf_33 rfl (lv_at hl 2 rfl) ?_
  refine lv_icmp_ne (tgt := 51) hx hb dX2_holderOf_34 (by decide) (fun c_1 => ?_) (fun c_1 => ?_)
  · refine lv_iconst (v := (-1)) hx hb dX2_holderOf_51 (by decide) ?_
    have e_0 : (pfX2_holderOf_2_1_r m5 o2 fb) = (-1) := by rw [pfX2_holderOf_2_1_r, if_neg c_1]
    have hP9 := hP.sub (ws' := [(h, .inr (2, [.ref a0, .ref a1, .ref a2, .ref a3, .ref a4, .ref a5, .ref a6])), (a0, .inl (cI, 22, .inl (gl [m0, m1, m2, m3, m4, m5, m6, m7, m8, m9, m10, m11, m12, m13, m14, m15, m16, m17, 0, 4, 0, 16]))), (a4, .inl (cI, 8, .inl (gl [o0, o1, o2, o3, (-1), (-1), (-1), (-1)]))), (a6, .inl (cI, 4000, .inl fb))]) [1, 2, 0, 3] rfl
    have hD9 := hD.sub (ws' := [(h, .inr (2, [.ref a0, .ref a1, .ref a2, .ref a3, .ref a4, .ref a5, .ref a6])), (a0, .inl (cI, 22, .inl (gl [m0, m1, m2, m3, m4, m5, m6, m7, m8, m9, m10, m11, m12, m13, m14, m15, m16, m17, 0, 4, 0, 16]))), (a4, .inl (cI, 8, .inl (gl [o0, o1, o2, o3, (-1), (-1), (-1), (-1)]))), (a6, .inl (cI, 4000, .inl fb))]) [1, 2, 0, 3] (by decide) rfl
    exact W.iret (v := (-1)) hx hb hr (fun t ht hW => ⟨⟨(-1), (), rfl, e_0.symm, by rw [ht]; exact hP9, va_K.moved hW.alike hK, hD9⟩, hS.F ht⟩) hS.2.2 dX2_holderOf_52
  · refine lv_aload_n hx hb dX2_holderOf_37 rfl (lv_at hl 1 rfl) ?_
    refine lv_iload_n hx hb dX2_holderOf_38 rfl (lv_at hl 0 rfl) ?_
    refine lv_iconst (v := 0) hx hb dX2_holderOf_39 (by decide) ?_
    refine zcVi (As := [.int o2, .int 0]) (rest := []) (wr := [(a4, .inl (cI, 8, .inl (gl [o0, o1, o2, o3, (-1), (-1), (-1), (-1)])))]) ⟨hx, hb, hml, hown, hts⟩ (kkX2_ofBuffer_g l dC dI cI cB cZ cR H.size h a0 a1 a2 a3 a4 a5 a6 m0 m1 m2 m3 m4 m5 m6 m7 m8 m9 m10 m11 m12 m13 m14 m15 m16 m17 fb o2 0 ) (cwV 2 hts (zgV wm_298 wm_299 wm_300 wm_22 wm_301) rfl rfl rfl (by decide +kernel) ⟨Nat.le_of_ble_eq_true rfl, Nat.le_of_ble_eq_true rfl⟩) hN hK hP hD hS hA [1, 2, 3] [0] rfl rfl ⟨rfl, rfl⟩ (by decide) (ci := 2) rfl rfl rfl rfl hl.1 rfl (Nat.le_of_ble_eq_true rfl) dX2_holderOf_40 ⟨Nat.le_of_ble_eq_true rfl, Nat.le_of_ble_eq_true rfl⟩ (fun r u hu H locs hP hD hS => ?_)
    have hu : r = (pfX2_ofBuffer_g_r m5 fb o2 0) := hu
    subst hu
    have hP : va_P (dC, dI) vwCl [(a4, .inl (cI, 8, .inl (gl [o0, o1, o2, o3, (-1), (-1), (-1), (-1)]))), (h, .inr (2, [.ref a0, .ref a1, .ref a2, .ref a3, .ref a4, .ref a5, .ref a6])), (a0, .inl (cI, 22, .inl (gl [m0, m1, m2, m3, m4, m5, m6, m7, m8, m9, m10, m11, m12, m13, m14, m15, m16, m17, 0, 4, 0, 16]))), (a6, .inl (cI, 4000, .inl fb))] H := hP
    have hD : va_D A [(a4, .inl (cI, 8, .inl (gl [o0, o1, o2, o3, (-1), (-1), (-1), (-1)]))), (h, .inr (2, [.ref a0, .ref a1, .ref a2, .ref a3, .ref a4, .ref a5, .ref a6])), (a0, .inl (cI, 22, .inl (gl [m0, m1, m2, m3, m4, m5, m6, m7, m8, m9, m10, m11, m12, m13, m14, m15, m16, m17, 0, 4, 0, 16]))), (a6, .inl (cI, 4000, .inl fb))] := hD
    refine lv_iload_n hx hb dX2_holderOf_43 rfl (lv_at hl 3 rfl) ?_
    refine lv_icmp_ne (tgt := 51) hx hb dX2_holderOf_44 (by decide) (fun c_2 => ?_) (fun c_2 => ?_)
    · refine lv_iconst (v := (-1)) hx hb dX2_holderOf_51 (by decide) ?_
      have e_0 : (pfX2_holderOf_2_1_r m5 o2 fb) = (-1) := by rw [pfX2_holderOf_2_1_r, if_pos c_1, if_neg c_2]
      have hP9 := hP.sub (ws' := [(h, .inr (2, [.ref a0, .ref a1, .ref a2, .ref a3, .ref a4, .ref a5, .ref a6])), (a0, .inl (cI, 22, .inl (gl [m0, m1, m2, m3, m4, m5, m6, m7, m8, m9, m10, m11, m12, m13, m14, m15, m16, m17, 0, 4, 0, 16]))), (a4, .inl (cI, 8, .inl (gl [o0, o1, o2, o3, (-1), (-1), (-1), (-1)]))), (a6, .inl (cI, 4000, .inl fb))]) [1, 2, 0, 3] rfl
      have hD9 := hD.sub (ws' := [(h, .inr (2, [.ref a0, .ref a1, .ref a2, .ref a3, .ref a4, .ref a5, .ref a6])), (a0, .inl (cI, 22, .inl (gl [m0, m1, m2, m3, m4, m5, m6, m7, m8, m9, m10, m11, m12, m13, m14, m15, m16, m17, 0, 4, 0, 16]))), (a4, .inl (cI, 8, .inl (gl [o0, o1, o2, o3, (-1), (-1), (-1), (-1)]))), (a6, .inl (cI, 4000, .inl fb))]) [1, 2, 0, 3] (by decide) rfl
      exact W.iret (v := (-1)) hx hb hr (fun t ht hW => ⟨⟨(-1), (), rfl, e_0.symm, by rw [ht]; exact hP9, va_K.moved hW.alike hK, hD9⟩, hS.F ht⟩) hS.2.2 dX2_holderOf_52
    · refine lv_iload_n hx hb dX2_holderOf_47 rfl (lv_at hl 0 rfl) ?_
      refine lv_goto (tgt := 52) hx hb dX2_holderOf_48 (by decide) ?_
      have e_0 : (pfX2_holderOf_2_1_r m5 o2 fb) = o2 := by rw [pfX2_holderOf_2_1_r, if_pos c_1, if_pos c_2]
      have hP9 := hP.sub (ws' := [(h, .inr (2, [.ref a0, .ref a1, .ref a2, .ref a3, .ref a4, .ref a5, .ref a6])), (a0, .inl (cI, 22, .inl (gl [m0, m1, m2, m3, m4, m5, m6, m7, m8, m9, m10, m11, m12, m13, m14, m15, m16, m17, 0, 4, 0, 16]))), (a4, .inl (cI, 8, .inl (gl [o0, o1, o2, o3, (-1), (-1), (-1), (-1)]))), (a6, .inl (cI, 4000, .inl fb))]) [1, 2, 0, 3] rfl
      have hD9 := hD.sub (ws' := [(h, .inr (2, [.ref a0, .ref a1, .ref a2, .ref a3, .ref a4, .ref a5, .ref a6])), (a0, .inl (cI, 22, .inl (gl [m0, m1, m2, m3, m4, m5, m6, m7, m8, m9, m10, m11, m12, m13, m14, m15, m16, m17, 0, 4, 0, 16]))), (a4, .inl (cI, 8, .inl (gl [o0, o1, o2, o3, (-1), (-1), (-1), (-1)]))), (a6, .inl (cI, 4000, .inl fb))]) [1, 2, 0, 3] (by decide) rfl
      exact W.iret (v := o2) hx hb hr (fun t ht hW => ⟨⟨o2, (), rfl, e_0.symm, by rw [ht]; exact hP9, va_K.moved hW.alike hK, hD9⟩, hS.F ht⟩) hS.2.2 dX2_holderOf_52

def pfX2_holderOf_3_1_r (m5 : Int32) (o3 : Int32) (fb : Nat → Int32) : Int32 := if (pfX2_ofBuffer_g_r m5 fb o3 2) = 3 then (if (pfX2_ofBuffer_g_r m5 fb o3 0) = 1 then o3 else (-1)) else (-1)
set_option maxHeartbeats 4000000 in
set_option maxRecDepth 100000 in
theorem kkX2_holderOf_3_1 (l : Launch) (dC : Nat → ClassId) (dI : Nat → Nat → Nat) (cI cB cZ cR : ClassId) (sz : Nat) (h : Nat) (a0 : Nat) (a1 : Nat) (a2 : Nat) (a3 : Nat) (a4 : Nat) (a5 : Nat) (a6 : Nat) (m0 : Int32) (m1 : Int32) (m2 : Int32) (m3 : Int32) (m4 : Int32) (m5 : Int32) (m6 : Int32) (m7 : Int32) (m8 : Int32) (m9 : Int32) (m10 : Int32) (m11 : Int32) (m12 : Int32) (m13 : Int32) (m14 : Int32) (m15 : Int32) (m16 : Int32) (m17 : Int32) (o0 : Int32) (o1 : Int32) (o2 : Int32) (o3 : Int32) (fb : Nat → Int32) : Met l yX2_holderOf (.code yX2_holderOf cX2_holderOf 4 (some .int) :: wsL_law) ({ frames := 1, cells := 0, slots := 0, locals := 23 }) (zPc dC dI (zT cI cB cZ cR) [.ref h, .int 3, .int 1] sz [(h, .inr (2, [.ref a0, .ref a1, .ref a2, .ref a3, .ref a4, .ref a5, .ref a6])), (a0, .inl (cI, 22, .inl (gl [m0, m1, m2, m3, m4, m5, m6, m7, m8, m9, m10, m11, m12, m13, m14, m15, m16, m17, 0, 4, 0, 16]))), (a4, .inl (cI, 8, .inl (gl [o0, o1, o2, o3, (-1), (-1), (-1), (-1)]))), (a6, .inl (cI, 4000, .inl fb))]) (va_Qi (fun (r : Int32) (_ : Unit) => r = (pfX2_holderOf_3_1_r m5 o3 fb)) (fun _ : Unit => zB dC dI (zT cI cB cZ cR) (va_A [(h, .inr (2, [.ref a0, .ref a1, .ref a2, .ref a3, .ref a4, .ref a5, .ref a6])), (a0, .inl (cI, 22, .inl (gl [m0, m1, m2, m3, m4, m5, m6, m7, m8, m9, m10, m11, m12, m13, m14, m15, m16, m17, 0, 4, 0, 16]))), (a4, .inl (cI, 8, .inl (gl [o0, o1, o2, o3, (-1), (-1), (-1), (-1)]))), (a6, .inl (cI, 4000, .inl fb))] sz) [(h, .inr (2, [.ref a0, .ref a1, .ref a2, .ref a3, .ref a4, .ref a5, .ref a6])), (a0, .inl (cI, 22, .inl (gl [m0, m1, m2, m3, m4, m5, m6, m7, m8, m9, m10, m11, m12, m13, m14, m15, m16, m17, 0, 4, 0, 16]))), (a4, .inl (cI, 8, .inl (gl [o0, o1, o2, o3, (-1), (-1), (-1), (-1)]))), (a6, .inl (cI, 4000, .inl fb))]) (va_A [(h, .inr (2, [.ref a0, .ref a1, .ref a2, .ref a3, .ref a4, .ref a5, .ref a6])), (a0, .inl (cI, 22, .inl (gl [m0, m1, m2, m3, m4, m5, m6, m7, m8, m9, m10, m11, m12, m13, m14, m15, m16, m17, 0, 4, 0, 16]))), (a4, .inl (cI, 8, .inl (gl [o0, o1, o2, o3, (-1), (-1), (-1), (-1)]))), (a6, .inl (cI, 4000, .inl fb))] sz)) 0 0 (va_A [(h, .inr (2, [.ref a0, .ref a1, .ref a2, .ref a3, .ref a4, .ref a5, .ref a6])), (a0, .inl (cI, 22, .inl (gl [m0, m1, m2, m3, m4, m5, m6, m7, m8, m9, m10, m11, m12, m13, m14, m15, m16, m17, 0, 4, 0, 16]))), (a4, .inl (cI, 8, .inl (gl [o0, o1, o2, o3, (-1), (-1), (-1), (-1)]))), (a6, .inl (cI, 4000, .inl fb))] sz) := by
  refine Met.ofW (cc := cX2_holderOf) (maxL := 4) (ret := (some .int)) (by decide) rfl ?_
  intro p e s m args below meth c s₁ B hml hv
  obtain ⟨rfl, hsz, hP, hK, hD0, hN⟩ := hv
  have hx := B.exec
  have hb := B.bytes
  have hr := B.returns
  have hts := atoms_spec (ws := (.code yX2_holderOf cX2_holderOf 4 (some .int) :: wsL_law)) B.pre
  have hown : s.vm.findClass RX2 = some m.cls := findClass_of_methodNamed B.named
  have hlocks := B.notSynchronized
  have hinX2 : ∀ w ∈ u_ws RX2 TX2 7, w ∈ (.code yX2_holderOf cX2_holderOf 4 (some .int) :: wsL_law) := fun w h => List.mem_cons_of_mem _ (inlX2 w h)
  have k_0 := hts (.fieldLink RX2 24 "RingMarks$Ring" "owners" "[I") (List.mem_cons_of_mem _ wm_65)
  subst hsz
  have hD := hD0.self (sz := s.heap.size)
  generalize hAe : va_A [(h, .inr (2, [.ref a0, .ref a1, .ref a2, .ref a3, .ref a4, .ref a5, .ref a6])), (a0, .inl (cI, 22, .inl (gl [m0, m1, m2, m3, m4, m5, m6, m7, m8, m9, m10, m11, m12, m13, m14, m15, m16, m17, 0, 4, 0, 16]))), (a4, .inl (cI, 8, .inl (gl [o0, o1, o2, o3, (-1), (-1), (-1), (-1)]))), (a6, .inl (cI, 4000, .inl fb))] s.heap.size = A at hD ⊢
  have hA : ∀ q : Nat, s.heap.size ≤ q → A q := fun q h => by rw [← hAe]; exact Or.inr h
  have hP : va_P (dC, dI) vwCl [(h, .inr (2, [.ref a0, .ref a1, .ref a2, .ref a3, .ref a4, .ref a5, .ref a6])), (a0, .inl (cI, 22, .inl (gl [m0, m1, m2, m3, m4, m5, m6, m7, m8, m9, m10, m11, m12, m13, m14, m15, m16, m17, 0, 4, 0, 16]))), (a4, .inl (cI, 8, .inl (gl [o0, o1, o2, o3, (-1), (-1), (-1), (-1)]))), (a6, .inl (cI, 4000, .inl fb))] s.heap := hP
  have hl := lv_entry ([.ref h, .int 3, .int 1]) (n := 4) (Nat.le_of_ble_eq_true rfl)
  rw [lg_entry_eq]
  generalize (lg_sl ([.ref h, .int 3, .int 1]) ++ List.replicate (4 - (lg_sl ([.ref h, .int 3, .int 1])).length) Slot.unset).toArray = ls at hl ⊢
  have hl : lv_has ls 4 [(0, .ref h), (1, .int 3), (2, .int 1)] := hl
  obtain ⟨H, hH⟩ : ∃ H, H = s.heap := ⟨_, rfl⟩
  rw [← hH] at hP ⊢
  have hS : va_S A s.heap H [] := by rw [hH]; exact va_S.rf
  refine lv_iload_n hx hb dX2_holderOf_0 rfl (lv_at hl 1 rfl) ?_
  refine lv_if_lt (tgt := 18) hx hb dX2_holderOf_1 (by decide) (fun c => absurd c (by decide)) (fun _ => ?_)
  refine lv_iload_n hx hb dX2_holderOf_4 rfl (lv_at hl 1 rfl) ?_
  refine lv_aload_n hx hb dX2_holderOf_5 rfl (lv_at hl 0 rfl) ?_
  refine zcVi (As := []) (rest := [.int 3]) (wr := [(a4, .inl (cI, 8, .inl (gl [o0, o1, o2, o3, (-1), (-1), (-1), (-1)]))), (a6, .inl (cI, 4000, .inl fb))]) ⟨hx, hb, hml, hown, hts⟩ (kkX2_places l dC dI cI cB cZ cR H.size h a0 a1 a2 a3 a4 a5 a6 m0 m1 m2 m3 m4 m5 m6 m7 m8 m9 m10 m11 m12 m13 m14 m15 m16 m17 ) (cwV 0 hts (zgV wm_259 wm_260 wm_261 wm_22 wm_262) rfl rfl rfl (by decide +kernel) ⟨Nat.le_of_ble_eq_true rfl, Nat.le_of_ble_eq_true rfl⟩) hN hK hP hD hS hA [0, 1] [2, 3] rfl rfl ⟨rfl, rfl⟩ (by decide) (ci := 2) rfl rfl rfl rfl hl.1 rfl (Nat.le_of_ble_eq_true rfl) dX2_holderOf_6 ⟨Nat.le_of_ble_eq_true rfl, Nat.le_of_ble_eq_true rfl⟩ (fun r u hu H locs hP hD hS => ?_)
  have hu : r = 4 := hu
  subst hu
  have hP : va_P (dC, dI) vwCl [(a4, .inl (cI, 8, .inl (gl [o0, o1, o2, o3, (-1), (-1), (-1), (-1)]))), (a6, .inl (cI, 4000, .inl fb)), (h, .inr (2, [.ref a0, .ref a1, .ref a2, .ref a3, .ref a4, .ref a5, .ref a6])), (a0, .inl (cI, 22, .inl (gl [m0, m1, m2, m3, m4, m5, m6, m7, m8, m9, m10, m11, m12, m13, m14, m15, m16, m17, 0, 4, 0, 16])))] H := hP
  have hD : va_D A [(a4, .inl (cI, 8, .inl (gl [o0, o1, o2, o3, (-1), (-1), (-1), (-1)]))), (a6, .inl (cI, 4000, .inl fb)), (h, .inr (2, [.ref a0, .ref a1, .ref a2, .ref a3, .ref a4, .ref a5, .ref a6])), (a0, .inl (cI, 22, .inl (gl [m0, m1, m2, m3, m4, m5, m6, m7, m8, m9, m10, m11, m12, m13, m14, m15, m16, m17, 0, 4, 0, 16])))] := hD
  refine lv_icmp_ge (tgt := 18) hx hb dX2_holderOf_9 (by decide) (fun c => absurd c (by decide)) (fun _ => ?_)
  refine lv_iload_n hx hb dX2_holderOf_12 rfl (lv_at hl 1 rfl) ?_
  refine lv_bipush (v := 8) hx hb dX2_holderOf_13 (by decide) ?_
  refine lv_icmp_lt (tgt := 20) hx hb dX2_holderOf_15 (by decide) (fun _ => ?_) (fun c => absurd (by decide) c)
  refine lv_aload_n hx hb dX2_holderOf_20 rfl (lv_at hl 0 rfl) ?_
  refine va_get (D := (dC, dI)) (ci := 2) (v := .ref a4) (C := RX2) (T := TX2) (N := 7) hx hb hts hinX2 hown hK hP 2 rfl rfl 4 (by decide) k_0 (fun _ h9 => h9) rfl dX2_holderOf_21 ?_
  refine lv_iload_n hx hb dX2_holderOf_24 rfl (lv_at hl 1 rfl) ?_
  refine za_iald (v := o3) hx hb hK hP 0 0 rfl rfl (zin tn_3 (Nat.le_of_ble_eq_true rfl)) (zrd _ tn_3 rfl) dX2_holderOf_25 ?_
  refine lv_istore_n (lv' := [(3, .int o3), (0, .ref h), (1, .int 3), (2, .int 1)]) hx hb dX2_holderOf_26 rfl hl (by decide) rfl (fun ls hl => ?_)
  refine lv_aload_n hx hb dX2_holderOf_27 rfl (lv_at hl 1 rfl) ?_
  refine lv_iload_n hx hb dX2_holderOf_28 rfl (lv_at hl 0 rfl) ?_
  refine lv_iconst (v := 2) hx hb dX2_holderOf_29 (by decide) ?_
  refine zcVi (As := [.int o3, .int 2]) (rest := []) (wr := [(a4, .inl (cI, 8, .inl (gl [o0, o1, o2, o3, (-1), (-1), (-1), (-1)])))]) ⟨hx, hb, hml, hown, hts⟩ (kkX2_ofBuffer_g l dC dI cI cB cZ cR H.size h a0 a1 a2 a3 a4 a5 a6 m0 m1 m2 m3 m4 m5 m6 m7 m8 m9 m10 m11 m12 m13 m14 m15 m16 m17 fb o3 2 ) (cwV 2 hts (zgV wm_298 wm_299 wm_300 wm_22 wm_301) rfl rfl rfl (by decide +kernel) ⟨Nat.le_of_ble_eq_true rfl, Nat.le_of_ble_eq_true rfl⟩) hN hK hP hD hS hA [2, 3, 1] [0] rfl rfl ⟨rfl, rfl⟩ (by decide) (ci := 2) rfl rfl rfl rfl hl.1 rfl (Nat.le_of_ble_eq_true rfl) dX2_holderOf_30 ⟨Nat.le_of_ble_eq_true rfl, Nat.le_of_ble_eq_true rfl⟩ (fun r u hu H locs hP hD hS => ?_)
  have hu : r = (pfX2_ofBuffer_g_r m5 fb o3 2) := hu
  subst hu
  have hP : va_P (dC, dI) vwCl [(a4, .inl (cI, 8, .inl (gl [o0, o1, o2, o3, (-1), (-1), (-1), (-1)]))), (h, .inr (2, [.ref a0, .ref a1, .ref a2, .ref a3, .ref a4, .ref a5, .ref a6])), (a0, .inl (cI, 22, .inl (gl [m0, m1, m2, m3, m4, m5, m6, m7, m8, m9, m10, m11, m12, m13, m14, m15, m16, m17, 0, 4, 0, 16]))), (a6, .inl (cI, 4000, .inl fb))] H := hP
  have hD : va_D A [(a4, .inl (cI, 8, .inl (gl [o0, o1, o2, o3, (-1), (-1), (-1), (-1)]))), (h, .inr (2, [.ref a0, .ref a1, .ref a2, .ref a3, .ref a4, .ref a5, .ref a6])), (a0, .inl (cI, 22, .inl (gl [m0, m1, m2, m3, m4, m5, m6, m7, m8, m9, m10, m11, m12, m13, m14, m15, m16, m17, 0, 4, 0, 16]))), (a6, .inl (cI, 4000, .inl fb))] := hD
  refine lv_iload_n hx hb dX2_holderOf_33 rfl (lv_at hl 2 rfl) ?_
  refine lv_icmp_ne (tgt := 51) hx hb dX2_holderOf_34 (by decide) (fun c_1 => ?_) (fun c_1 => ?_)
  · refine lv_iconst (v := (-1)) hx hb dX2_holderOf_51 (by decide) ?_
    have e_0 : (pfX2_holderOf_3_1_r m5 o3 fb) = (-1) := by rw [pfX2_holderOf_3_1_r, if_neg c_1]
    have hP9 := hP.sub (ws' := [(h, .inr (2, [.ref a0, .ref a1, .ref a2, .ref a3, .ref a4, .ref a5, .ref a6])), (a0, .inl (cI, 22, .inl (gl [m0, m1, m2, m3, m4, m5, m6, m7, m8, m9, m10, m11, m12, m13, m14, m15, m16, m17, 0, 4, 0, 16]))), (a4, .inl (cI, 8, .inl (gl [o0, o1, o2, o3, (-1), (-1), (-1), (-1)]))), (a6, .inl (cI, 4000, .inl fb))]) [1, 2, 0, 3] rfl
    have hD9 := hD.sub (ws' := [(h, .inr (2, [.ref a0, .ref a1, .ref a2, .ref a3, .ref a4, .ref a5, .ref a6])), (a0, .inl (cI, 22, .inl (gl [m0, m1, m2, m3, m4, m5, m6, m7, m8, m9, m10, m11, m12, m13, m14, m15, m16, m17, 0, 4, 0, 16]))), (a4, .inl (cI, 8, .inl (gl [o0, o1, o2, o3, (-1), (-1), (-1), (-1)]))), (a6, .inl (cI, 4000, .inl fb))]) [1, 2, 0, 3] (by decide) rfl
    exact W.iret (v := (-1)) hx hb hr (fun t ht hW => ⟨⟨(-1), (), rfl, e_0.symm, by rw [ht]; exact hP9, va_K.moved hW.alike hK, hD9⟩, hS.F ht⟩) hS.2.2 dX2_holderOf_52
  · refine lv_aload_n hx hb dX2_holderOf_37 rfl (lv_at hl 1 rfl) ?_
    refine lv_iload_n hx hb dX2_holderOf_38 rfl (lv_at hl 0 rfl) ?_
    refine lv_iconst (v := 0) hx hb dX2_holderOf_39 (by decide) ?_
    refine zcVi (As := [.int o3, .int 0]) (rest := []) (wr := [(a4, .inl (cI, 8, .inl (gl [o0, o1, o2, o3, (-1), (-1), (-1), (-1)])))]) ⟨hx, hb, hml, hown, hts⟩ (kkX2_ofBuffer_g l dC dI cI cB cZ cR H.size h a0 a1 a2 a3 a4 a5 a6 m0 m1 m2 m3 m4 m5 m6 m7 m8 m9 m10 m11 m12 m13 m14 m15 m16 m17 fb o3 0 ) (cwV 2 hts (zgV wm_298 wm_299 wm_300 wm_22 wm_301) rfl rfl rfl (by decide +kernel) ⟨Nat.le_of_ble_eq_true rfl, Nat.le_of_ble_eq_true rfl⟩) hN hK hP hD hS hA [1, 2, 3] [0] rfl rfl ⟨rfl, rfl⟩ (by decide) (ci := 2) rfl rfl rfl rfl hl.1 rfl (Nat.le_of_ble_eq_true rfl) dX2_holderOf_40 ⟨Nat.le_of_ble_eq_true rfl, Nat.le_of_ble_eq_true rfl⟩ (fun r u hu H locs hP hD hS => ?_)
    have hu : r = (pfX2_ofBuffer_g_r m5 fb o3 0) := hu
    subst hu
    have hP : va_P (dC, dI) vwCl [(a4, .inl (cI, 8, .inl (gl [o0, o1, o2, o3, (-1), (-1), (-1), (-1)]))), (h, .inr (2, [.ref a0, .ref a1, .ref a2, .ref a3, .ref a4, .ref a5, .ref a6])), (a0, .inl (cI, 22, .inl (gl [m0, m1, m2, m3, m4, m5, m6, m7, m8, m9, m10, m11, m12, m13, m14, m15, m16, m17, 0, 4, 0, 16]))), (a6, .inl (cI, 4000, .inl fb))] H := hP
    have hD : va_D A [(a4, .inl (cI, 8, .inl (gl [o0, o1, o2, o3, (-1), (-1), (-1), (-1)]))), (h, .inr (2, [.ref a0, .ref a1, .ref a2, .ref a3, .ref a4, .ref a5, .ref a6])), (a0, .inl (cI, 22, .inl (gl [m0, m1, m2, m3, m4, m5, m6, m7, m8, m9, m10, m11, m12, m13, m14, m15, m16, m17, 0, 4, 0, 16]))), (a6, .inl (cI, 4000, .inl fb))] := hD
    refine lv_iload_n hx hb dX2_holderOf_43 rfl (lv_at hl 3 rfl) ?_
    refine lv_icmp_ne (tgt := 51) hx hb dX2_holderOf_44 (by decide) (fun c_2 => ?_) (fun c_2 => ?_)
    · refine lv_iconst (v := (-1)) hx hb dX2_holderOf_51 (by decide) ?_
      have e_0 : (pfX2_holderOf_3_1_r m5 o3 fb) = (-1) := by rw [pfX2_holderOf_3_1_r, if_pos c_1, if_neg c_2]
      have hP9 := hP.sub (ws' := [(h, .inr (2, [.ref a0, .ref a1, .ref a2, .ref a3, .ref a4, .ref a5, .ref a6])), (a0, .inl (cI, 22, .inl (gl [m0, m1, m2, m3, m4, m5, m6, m7, m8, m9, m10, m11, m12, m13, m14, m15, m16, m17, 0, 4, 0, 16]))), (a4, .inl (cI, 8, .inl (gl [o0, o1, o2, o3, (-1), (-1), (-1), (-1)]))), (a6, .inl (cI, 4000, .inl fb))]) [1, 2, 0, 3] rfl
      have hD9 := hD.sub (ws' := [(h, .inr (2, [.ref a0, .ref a1, .ref a2, .ref a3, .ref a4, .ref a5, .ref a6])), (a0, .inl (cI, 22, .inl (gl [m0, m1, m2, m3, m4, m5, m6, m7, m8, m9, m10, m11, m12, m13, m14, m15, m16, m17, 0, 4, 0, 16]))), (a4, .inl (cI, 8, .inl (gl [o0, o1, o2, o3, (-1), (-1), (-1), (-1)]))), (a6, .inl (cI, 4000, .inl fb))]) [1, 2, 0, 3] (by decide) rfl
      exact W.iret (v := (-1)) hx hb hr (fun t ht hW => ⟨⟨(-1), (), rfl, e_0.symm, by rw [ht]; exact hP9, va_K.moved hW.alike hK, hD9⟩, hS.F ht⟩) hS.2.2 dX2_holderOf_52
    · refine lv_iload_n hx hb dX2_holderOf_47 rfl (lv_at hl 0 rfl) ?_
      refine lv_goto (tgt := 52) hx hb dX2_holderOf_48 (by decide) ?_
      have e_0 : (pfX2_holderOf_3_1_r m5 o3 fb) = o3 := by rw [pfX2_holderOf_3_1_r, if_pos c_1, if_pos c_2]
      have hP9 := hP.sub (ws' := [(h, .inr (2, [.ref a0, .ref a1, .ref a2, .ref a3, .ref a4, .ref a5, .ref a6])), (a0, .inl (cI, 22, .inl (gl [m0, m1, m2, m3, m4, m5, m6, m7, m8, m9, m10, m11, m12, m13, m14, m15, m16, m17, 0, 4, 0, 16]))), (a4, .inl (cI, 8, .inl (gl [o0, o1, o2, o3, (-1), (-1), (-1), (-1)]))), (a6, .inl (cI, 4000, .inl fb))]) [1, 2, 0, 3] rfl
      have hD9 := hD.sub (ws' := [(h, .inr (2, [.ref a0, .ref a1, .ref a2, .ref a3, .ref a4, .ref a5, .ref a6])), (a0, .inl (cI, 22, .inl (gl [m0, m1, m2, m3, m4, m5, m6, m7, m8, m9, m10, m11, m12, m13, m14, m15, m16, m17, 0, 4, 0, 16]))), (a4, .inl (cI, 8, .inl (gl [o0, o1, o2, o3, (-1), (-1), (-1), (-1)]))), (a6, .inl (cI, 4000, .inl fb))]) [1, 2, 0, 3] (by decide) rfl
      exact W.iret (v := o3) hx hb hr (fun t ht hW => ⟨⟨o3, (), rfl, e_0.symm, by rw [ht]; exact hP9, va_K.moved hW.alike hK, hD9⟩, hS.F ht⟩) hS.2.2 dX2_holderOf_52

def pfX2_holderOf_g_0_r (m5 : Int32) (o0 : Int32) (o1 : Int32) (o2 : Int32) (o3 : Int32) (fb : Nat → Int32) (p1 : Int32) : Int32 := if p1 < 0 then (-1) else (if 4 ≤ p1 then (-1) else (if p1 < 8 then (if (pfX2_ofBuffer_g_r m5 fb ((gl [o0, o1, o2, o3, (-1), (-1), (-1), (-1)]) (Int32.toNatClampNeg p1)) 2) = p1 then (if (pfX2_ofBuffer_g_r m5 fb ((gl [o0, o1, o2, o3, (-1), (-1), (-1), (-1)]) (Int32.toNatClampNeg p1)) 0) = 0 then ((gl [o0, o1, o2, o3, (-1), (-1), (-1), (-1)]) (Int32.toNatClampNeg p1)) else (-1)) else (-1)) else (-1)))
set_option maxHeartbeats 4000000 in
set_option maxRecDepth 100000 in
theorem kkX2_holderOf_g_0 (l : Launch) (dC : Nat → ClassId) (dI : Nat → Nat → Nat) (cI cB cZ cR : ClassId) (sz : Nat) (h : Nat) (a0 : Nat) (a1 : Nat) (a2 : Nat) (a3 : Nat) (a4 : Nat) (a5 : Nat) (a6 : Nat) (m0 : Int32) (m1 : Int32) (m2 : Int32) (m3 : Int32) (m4 : Int32) (m5 : Int32) (m6 : Int32) (m7 : Int32) (m8 : Int32) (m9 : Int32) (m10 : Int32) (m11 : Int32) (m12 : Int32) (m13 : Int32) (m14 : Int32) (m15 : Int32) (m16 : Int32) (m17 : Int32) (o0 : Int32) (o1 : Int32) (o2 : Int32) (o3 : Int32) (fb : Nat → Int32) (p1 : Int32) : Met l yX2_holderOf (.code yX2_holderOf cX2_holderOf 4 (some .int) :: wsL_law) ({ frames := 1, cells := 0, slots := 0, locals := 23 }) (zPc dC dI (zT cI cB cZ cR) [.ref h, .int p1, .int 0] sz [(h, .inr (2, [.ref a0, .ref a1, .ref a2, .ref a3, .ref a4, .ref a5, .ref a6])), (a0, .inl (cI, 22, .inl (gl [m0, m1, m2, m3, m4, m5, m6, m7, m8, m9, m10, m11, m12, m13, m14, m15, m16, m17, 0, 4, 0, 16]))), (a4, .inl (cI, 8, .inl (gl [o0, o1, o2, o3, (-1), (-1), (-1), (-1)]))), (a6, .inl (cI, 4000, .inl fb))]) (va_Qi (fun (r : Int32) (_ : Unit) => r = (pfX2_holderOf_g_0_r m5 o0 o1 o2 o3 fb p1)) (fun _ : Unit => zB dC dI (zT cI cB cZ cR) (va_A [(h, .inr (2, [.ref a0, .ref a1, .ref a2, .ref a3, .ref a4, .ref a5, .ref a6])), (a0, .inl (cI, 22, .inl (gl [m0, m1, m2, m3, m4, m5, m6, m7, m8, m9, m10, m11, m12, m13, m14, m15, m16, m17, 0, 4, 0, 16]))), (a4, .inl (cI, 8, .inl (gl [o0, o1, o2, o3, (-1), (-1), (-1), (-1)]))), (a6, .inl (cI, 4000, .inl fb))] sz) [(h, .inr (2, [.ref a0, .ref a1, .ref a2, .ref a3, .ref a4, .ref a5, .ref a6])), (a0, .inl (cI, 22, .inl (gl [m0, m1, m2, m3, m4, m5, m6, m7, m8, m9, m10, m11, m12, m13, m14, m15, m16, m17, 0, 4, 0, 16]))), (a4, .inl (cI, 8, .inl (gl [o0, o1, o2, o3, (-1), (-1), (-1), (-1)]))), (a6, .inl (cI, 4000, .inl fb))]) (va_A [(h, .inr (2, [.ref a0, .ref a1, .ref a2, .ref a3, .ref a4, .ref a5, .ref a6])), (a0, .inl (cI, 22, .inl (gl [m0, m1, m2, m3, m4, m5, m6, m7, m8, m9, m10, m11, m12, m13, m14, m15, m16, m17, 0, 4, 0, 16]))), (a4, .inl (cI, 8, .inl (gl [o0, o1, o2, o3, (-1), (-1), (-1), (-1)]))), (a6, .inl (cI, 4000, .inl fb))] sz)) 0 0 (va_A [(h, .inr (2, [.ref a0, .ref a1, .ref a2, .ref a3, .ref a4, .ref a5, .ref a6])), (a0, .inl (cI, 22, .inl (gl [m0, m1, m2, m3, m4, m5, m6, m7, m8, m9, m10, m11, m12, m13, m14, m15, m16, m17, 0, 4, 0, 16]))), (a4, .inl (cI, 8, .inl (gl [o0, o1, o2, o3, (-1), (-1), (-1), (-1)]))), (a6, .inl (cI, 4000, .inl fb))] sz) := by
  refine Met.ofW (cc := cX2_holderOf) (maxL := 4) (ret := (some .int)) (by decide) rfl ?_
  intro p e s m args below meth c s₁ B hml hv
  obtain ⟨rfl, hsz, hP, hK, hD0, hN⟩ := hv
  have hx := B.exec
  have hb := B.bytes
  have hr := B.returns
  have hts := atoms_spec (ws := (.code yX2_holderOf cX2_holderOf 4 (some .int) :: wsL_law)) B.pre
  have hown : s.vm.findClass RX2 = some m.cls := findClass_of_methodNamed B.named
  have hlocks := B.notSynchronized
  have hinX2 : ∀ w ∈ u_ws RX2 TX2 7, w ∈ (.code yX2_holderOf cX2_holderOf 4 (some .int) :: wsL_law) := fun w h => List.mem_cons_of_mem _ (inlX2 w h)
  have k_0 := hts (.fieldLink RX2 24 "RingMarks$Ring" "owners" "[I") (List.mem_cons_of_mem _ wm_65)
  subst hsz
  have hD := hD0.self (sz := s.heap.size)
  generalize hAe : va_A [(h, .inr (2, [.ref a0, .ref a1, .ref a2, .ref a3, .ref a4, .ref a5, .ref a6])), (a0, .inl (cI, 22, .inl (gl [m0, m1, m2, m3, m4, m5, m6, m7, m8, m9, m10, m11, m12, m13, m14, m15, m16, m17, 0, 4, 0, 16]))), (a4, .inl (cI, 8, .inl (gl [o0, o1, o2, o3, (-1), (-1), (-1), (-1)]))), (a6, .inl (cI, 4000, .inl fb))] s.heap.size = A at hD ⊢
  have hA : ∀ q : Nat, s.heap.size ≤ q → A q := fun q h => by rw [← hAe]; exact Or.inr h
  have hP : va_P (dC, dI) vwCl [(h, .inr (2, [.ref a0, .ref a1, .ref a2, .ref a3, .ref a4, .ref a5, .ref a6])), (a0, .inl (cI, 22, .inl (gl [m0, m1, m2, m3, m4, m5, m6, m7, m8, m9, m10, m11, m12, m13, m14, m15, m16, m17, 0, 4, 0, 16]))), (a4, .inl (cI, 8, .inl (gl [o0, o1, o2, o3, (-1), (-1), (-1), (-1)]))), (a6, .inl (cI, 4000, .inl fb))] s.heap := hP
  have hl := lv_entry ([.ref h, .int p1, .int 0]) (n := 4) (Nat.le_of_ble_eq_true rfl)
  rw [lg_entry_eq]
  generalize (lg_sl ([.ref h, .int p1, .int 0]) ++ List.replicate (4 - (lg_sl ([.ref h, .int p1, .int 0])).length) Slot.unset).toArray = ls at hl ⊢
  have hl : lv_has ls 4 [(0, .ref h), (1, .int p1), (2, .int 0)] := hl
  obtain ⟨H, hH⟩ : ∃ H, H = s.heap := ⟨_, rfl⟩
  rw [← hH] at hP ⊢
  have hS : va_S A s.heap H [] := by rw [hH]; exact va_S.rf
  refine lv_iload_n hx hb dX2_holderOf_0 rfl (lv_at hl 1 rfl) ?_
  refine lv_if_lt (tgt := 18) hx hb dX2_holderOf_1 (by decide) (fun c_1 => ?_) (fun c_1 => ?_)
  · refine lv_iconst (v := (-1)) hx hb dX2_holderOf_18 (by decide) ?_
    have e_0 : (pfX2_holderOf_g_0_r m5 o0 o1 o2 o3 fb p1) = (-1) := by rw [pfX2_holderOf_g_0_r, if_pos c_1]
    have hP9 := hP.sub (ws' := [(h, .inr (2, [.ref a0, .ref a1, .ref a2, .ref a3, .ref a4, .ref a5, .ref a6])), (a0, .inl (cI, 22, .inl (gl [m0, m1, m2, m3, m4, m5, m6, m7, m8, m9, m10, m11, m12, m13, m14, m15, m16, m17, 0, 4, 0, 16]))), (a4, .inl (cI, 8, .inl (gl [o0, o1, o2, o3, (-1), (-1), (-1), (-1)]))), (a6, .inl (cI, 4000, .inl fb))]) [0, 1, 2, 3] rfl
    have hD9 := hD.sub (ws' := [(h, .inr (2, [.ref a0, .ref a1, .ref a2, .ref a3, .ref a4, .ref a5, .ref a6])), (a0, .inl (cI, 22, .inl (gl [m0, m1, m2, m3, m4, m5, m6, m7, m8, m9, m10, m11, m12, m13, m14, m15, m16, m17, 0, 4, 0, 16]))), (a4, .inl (cI, 8, .inl (gl [o0, o1, o2, o3, (-1), (-1), (-1), (-1)]))), (a6, .inl (cI, 4000, .inl fb))]) [0, 1, 2, 3] (by decide) rfl
    exact W.iret (v := (-1)) hx hb hr (fun t ht hW => ⟨⟨(-1), (), rfl, e_0.symm, by rw [ht]; exact hP9, va_K.moved hW.alike hK, hD9⟩, hS.F ht⟩) hS.2.2 dX2_holderOf_19
  · refine lv_iload_n hx hb dX2_holderOf_4 rfl (lv_at hl 1 rfl) ?_
    refine lv_aload_n hx hb dX2_holderOf_5 rfl (lv_at hl 0 rfl) ?_
    refine zcVi (As := []) (rest := [.int p1]) (wr := [(a4, .inl (cI, 8, .inl (gl [o0, o1, o2, o3, (-1), (-1), (-1), (-1)]))), (a6, .inl (cI, 4000, .inl fb))]) ⟨hx, hb, hml, hown, hts⟩ (kkX2_places l dC dI cI cB cZ cR H.size h a0 a1 a2 a3 a4 a5 a6 m0 m1 m2 m3 m4 m5 m6 m7 m8 m9 m10 m11 m12 m13 m14 m15 m16 m17 ) (cwV 0 hts (zgV wm_259 wm_260 wm_261 wm_22 wm_262) rfl rfl rfl (by decide +kernel) ⟨Nat.le_of_ble_eq_true rfl, Nat.le_of_ble_eq_true rfl⟩) hN hK hP hD hS hA [0, 1] [2, 3] rfl rfl ⟨rfl, rfl⟩ (by decide) (ci := 2) rfl rfl rfl rfl hl.1 rfl (Nat.le_of_ble_eq_true rfl) dX2_holderOf_6 ⟨Nat.le_of_ble_eq_true rfl, Nat.le_of_ble_eq_true rfl⟩ (fun r u hu H locs hP hD hS => ?_)
    have hu : r = 4 := hu
    subst hu
    have hP : va_P (dC, dI) vwCl [(a4, .inl (cI, 8, .inl (gl [o0, o1, o2, o3, (-1), (-1), (-1), (-1)]))), (a6, .inl (cI, 4000, .inl fb)), (h, .inr (2, [.ref a0, .ref a1, .ref a2, .ref a3, .ref a4, .ref a5, .ref a6])), (a0, .inl (cI, 22, .inl (gl [m0, m1, m2, m3, m4, m5, m6, m7, m8, m9, m10, m11, m12, m13, m14, m15, m16, m17, 0, 4, 0, 16])))] H := hP
    have hD : va_D A [(a4, .inl (cI, 8, .inl (gl [o0, o1, o2, o3, (-1), (-1), (-1), (-1)]))), (a6, .inl (cI, 4000, .inl fb)), (h, .inr (2, [.ref a0, .ref a1, .ref a2, .ref a3, .ref a4, .ref a5, .ref a6])), (a0, .inl (cI, 22, .inl (gl [m0, m1, m2, m3, m4, m5, m6, m7, m8, m9, m10, m11, m12, m13, m14, m15, m16, m17, 0, 4, 0, 16])))] := hD
    refine lv_icmp_ge (tgt := 18) hx hb dX2_holderOf_9 (by decide) (fun c_2 => ?_) (fun c_2 => ?_)
    · refine lv_iconst (v := (-1)) hx hb dX2_holderOf_18 (by decide) ?_
      have e_0 : (pfX2_holderOf_g_0_r m5 o0 o1 o2 o3 fb p1) = (-1) := by rw [pfX2_holderOf_g_0_r, if_neg c_1, if_pos c_2]
      have hP9 := hP.sub (ws' := [(h, .inr (2, [.ref a0, .ref a1, .ref a2, .ref a3, .ref a4, .ref a5, .ref a6])), (a0, .inl (cI, 22, .inl (gl [m0, m1, m2, m3, m4, m5, m6, m7, m8, m9, m10, m11, m12, m13, m14, m15, m16, m17, 0, 4, 0, 16]))), (a4, .inl (cI, 8, .inl (gl [o0, o1, o2, o3, (-1), (-1), (-1), (-1)]))), (a6, .inl (cI, 4000, .inl fb))]) [2, 3, 0, 1] rfl
      have hD9 := hD.sub (ws' := [(h, .inr (2, [.ref a0, .ref a1, .ref a2, .ref a3, .ref a4, .ref a5, .ref a6])), (a0, .inl (cI, 22, .inl (gl [m0, m1, m2, m3, m4, m5, m6, m7, m8, m9, m10, m11, m12, m13, m14, m15, m16, m17, 0, 4, 0, 16]))), (a4, .inl (cI, 8, .inl (gl [o0, o1, o2, o3, (-1), (-1), (-1), (-1)]))), (a6, .inl (cI, 4000, .inl fb))]) [2, 3, 0, 1] (by decide) rfl
      exact W.iret (v := (-1)) hx hb hr (fun t ht hW => ⟨⟨(-1), (), rfl, e_0.symm, by rw [ht]; exact hP9, va_K.moved hW.alike hK, hD9⟩, hS.F ht⟩) hS.2.2 dX2_holderOf_19
    · refine lv_iload_n hx hb dX2_holderOf_12 rfl (lv_at hl 1 rfl) ?_
      refine lv_bipush (v := 8) hx hb dX2_holderOf_13 (by decide) ?_
      refine lv_icmp_lt (tgt := 20) hx hb dX2_holderOf_15 (by decide) (fun c_3 => ?_) (fun c_3 => ?_)
      · refine lv_aload_n hx hb dX2_holderOf_20 rfl (lv_at hl 0 rfl) ?_
        refine va_get (D := (dC, dI)) (ci := 2) (v := .ref a4) (C := RX2) (T := TX2) (N := 7) hx hb hts hinX2 hown hK hP 2 rfl rfl 4 (by decide) k_0 (fun _ h9 => h9) rfl dX2_holderOf_21 ?_
        refine lv_iload_n hx hb dX2_holderOf_24 rfl (lv_at hl 1 rfl) ?_
        refine za_iald (v := ((gl [o0, o1, o2, o3, (-1), (-1), (-1), (-1)]) (Int32.toNatClampNeg p1))) hx hb hK hP 0 0 rfl rfl (zinS c_1 (znl2 c_3) (by decide)) rfl dX2_holderOf_25 ?_
        refine lv_istore_n (lv' := [(3, .int ((gl [o0, o1, o2, o3, (-1), (-1), (-1), (-1)]) (Int32.toNatClampNeg p1))), (0, .ref h), (1, .int p1), (2, .int 0)]) hx hb dX2_holderOf_26 rfl hl (by decide) rfl (fun ls hl => ?_)
        refine lv_aload_n hx hb dX2_holderOf_27 rfl (lv_at hl 1 rfl) ?_
        refine lv_iload_n hx hb dX2_holderOf_28 rfl (lv_at hl 0 rfl) ?_
        refine lv_iconst (v := 2) hx hb dX2_holderOf_29 (by decide) ?_
        refine zcVi (As := [.int ((gl [o0, o1, o2, o3, (-1), (-1), (-1), (-1)]) (Int32.toNatClampNeg p1)), .int 2]) (rest := []) (wr := [(a4, .inl (cI, 8, .inl (gl [o0, o1, o2, o3, (-1), (-1), (-1), (-1)])))]) ⟨hx, hb, hml, hown, hts⟩ (kkX2_ofBuffer_g l dC dI cI cB cZ cR H.size h a0 a1 a2 a3 a4 a5 a6 m0 m1 m2 m3 m4 m5 m6 m7 m8 m9 m10 m11 m12 m13 m14 m15 m16 m17 fb ((gl [o0, o1, o2, o3, (-1), (-1), (-1), (-1)]) (Int32.toNatClampNeg p1)) 2 ) (cwV 2 hts (zgV wm_298 wm_299 wm_300 wm_22 wm_301) rfl rfl rfl (by decide +kernel) ⟨Nat.le_of_ble_eq_true rfl, Nat.le_of_ble_eq_true rfl⟩) hN hK hP hD hS hA [2, 3, 1] [0] rfl rfl ⟨rfl, rfl⟩ (by decide) (ci := 2) rfl rfl rfl rfl hl.1 rfl (Nat.le_of_ble_eq_true rfl) dX2_holderOf_30 ⟨Nat.le_of_ble_eq_true rfl, Nat.le_of_ble_eq_true rfl⟩ (fun r u hu H locs hP hD hS => ?_)
        have hu : r = (pfX2_ofBuffer_g_r m5 fb ((gl [o0, o1, o2, o3, (-1), (-1), (-1), (-1)]) (Int32.toNatClampNeg p1)) 2) := hu
        subst hu
        have hP : va_P (dC, dI) vwCl [(a4, .inl (cI, 8, .inl (gl [o0, o1, o2, o3, (-1), (-1), (-1), (-1)]))), (h, .inr (2, [.ref a0, .ref a1, .ref a2, .ref a3, .ref a4, .ref a5, .ref a6])), (a0, .inl (cI, 22, .inl (gl [m0, m1, m2, m3, m4, m5, m6, m7, m8, m9, m10, m11, m12, m13, m14, m15, m16, m17, 0, 4, 0, 16]))), (a6, .inl (cI, 4000, .inl fb))] H := hP
        have hD : va_D A [(a4, .inl (cI, 8, .inl (gl [o0, o1, o2, o3, (-1), (-1), (-1), (-1)]))), (h, .inr (2, [.ref a0, .ref a1, .ref a2, .ref a3, .ref a4, .ref a5, .ref a6])), (a0, .inl (cI, 22, .inl (gl [m0, m1, m2, m3, m4, m5, m6, m7, m8, m9, m10, m11, m12, m13, m14, m15, m16, m17, 0, 4, 0, 16]))), (a6, .inl (cI, 4000, .inl fb))] := hD
        refine lv_iload_n hx hb dX2_holderOf_33 rfl (lv_at hl 2 rfl) ?_
        refine lv_icmp_ne (tgt := 51) hx hb dX2_holderOf_34 (by decide) (fun c_4 => ?_) (fun c_4 => ?_)
        · refine lv_iconst (v := (-1)) hx hb dX2_holderOf_51 (by decide) ?_
          have e_0 : (pfX2_holderOf_g_0_r m5 o0 o1 o2 o3 fb p1) = (-1) := by rw [pfX2_holderOf_g_0_r, if_neg c_1, if_neg c_2, if_pos c_3, if_neg c_4]
          have hP9 := hP.sub (ws' := [(h, .inr (2, [.ref a0, .ref a1, .ref a2, .ref a3, .ref a4, .ref a5, .ref a6])), (a0, .inl (cI, 22, .inl (gl [m0, m1, m2, m3, m4, m5, m6, m7, m8, m9, m10, m11, m12, m13, m14, m15, m16, m17, 0, 4, 0, 16]))), (a4, .inl (cI, 8, .inl (gl [o0, o1, o2, o3, (-1), (-1), (-1), (-1)]))), (a6, .inl (cI, 4000, .inl fb))]) [1, 2, 0, 3] rfl
          have hD9 := hD.sub (ws' := [(h, .inr (2, [.ref a0, .ref a1, .ref a2, .ref a3, .ref a4, .ref a5, .ref a6])), (a0, .inl (cI, 22, .inl (gl [m0, m1, m2, m3, m4, m5, m6, m7, m8, m9, m10, m11, m12, m13, m14, m15, m16, m17, 0, 4, 0, 16]))), (a4, .inl (cI, 8, .inl (gl [o0, o1, o2, o3, (-1), (-1), (-1), (-1)]))), (a6, .inl (cI, 4000, .inl fb))]) [1, 2, 0, 3] (by decide) rfl
          exact W.iret (v := (-1)) hx hb hr (fun t ht hW => ⟨⟨(-1), (), rfl, e_0.symm, by rw [ht]; exact hP9, va_K.moved hW.alike hK, hD9⟩, hS.F ht⟩) hS.2.2 dX2_holderOf_52
        · refine lv_aload_n hx hb dX2_holderOf_37 rfl (lv_at hl 1 rfl) ?_
          refine lv_iload_n hx hb dX2_holderOf_38 rfl (lv_at hl 0 rfl) ?_
          refine lv_iconst (v := 0) hx hb dX2_holderOf_39 (by decide) ?_
          refine zcVi (As := [.int ((gl [o0, o1, o2, o3, (-1), (-1), (-1), (-1)]) (Int32.toNatClampNeg p1)), .int 0]) (rest := []) (wr := [(a4, .inl (cI, 8, .inl (gl [o0, o1, o2, o3, (-1), (-1), (-1), (-1)])))]) ⟨hx, hb, hml, hown, hts⟩ (kkX2_ofBuffer_g l dC dI cI cB cZ cR H.size h a0 a1 a2 a3 a4 a5 a6 m0 m1 m2 m3 m4 m5 m6 m7 m8 m9 m10 m11 m12 m13 m14 m15 m16 m17 fb ((gl [o0, o1, o2, o3, (-1), (-1), (-1), (-1)]) (Int32.toNatClampNeg p1)) 0 ) (cwV 2 hts (zgV wm_298 wm_299 wm_300 wm_22 wm_301) rfl rfl rfl (by decide +kernel) ⟨Nat.le_of_ble_eq_true rfl, Nat.le_of_ble_eq_true rfl⟩) hN hK hP hD hS hA [1, 2, 3] [0] rfl rfl ⟨rfl, rfl⟩ (by decide) (ci := 2) rfl rfl rfl rfl hl.1 rfl (Nat.le_of_ble_eq_true rfl) dX2_holderOf_40 ⟨Nat.le_of_ble_eq_true rfl, Nat.le_of_ble_eq_true rfl⟩ (fun r u hu H locs hP hD hS => ?_)
          have hu : r = (pfX2_ofBuffer_g_r m5 fb ((gl [o0, o1, o2, o3, (-1), (-1), (-1), (-1)]) (Int32.toNatClampNeg p1)) 0) := hu
          subst hu
          have hP : va_P (dC, dI) vwCl [(a4, .inl (cI, 8, .inl (gl [o0, o1, o2, o3, (-1), (-1), (-1), (-1)]))), (h, .inr (2, [.ref a0, .ref a1, .ref a2, .ref a3, .ref a4, .ref a5, .ref a6])), (a0, .inl (cI, 22, .inl (gl [m0, m1, m2, m3, m4, m5, m6, m7, m8, m9, m10, m11, m12, m13, m14, m15, m16, m17, 0, 4, 0, 16]))), (a6, .inl (cI, 4000, .inl fb))] H := hP
          have hD : va_D A [(a4, .inl (cI, 8, .inl (gl [o0, o1, o2, o3, (-1), (-1), (-1), (-1)]))), (h, .inr (2, [.ref a0, .ref a1, .ref a2, .ref a3, .ref a4, .ref a5, .ref a6])), (a0, .inl (cI, 22, .inl (gl [m0, m1, m2, m3, m4, m5, m6, m7, m8, m9, m10, m11, m12, m13, m14, m15, m16, m17, 0, 4, 0, 16]))), (a6, .inl (cI, 4000, .inl fb))] := hD
          refine lv_iload_n hx hb dX2_holderOf_43 rfl (lv_at hl 3 rfl) ?_
          refine lv_icmp_ne (tgt := 51) hx hb dX2_holderOf_44 (by decide) (fun c_5 => ?_) (fun c_5 => ?_)
          · refine lv_iconst (v := (-1)) hx hb dX2_holderOf_51 (by decide) ?_
            have e_0 : (pfX2_holderOf_g_0_r m5 o0 o1 o2 o3 fb p1) = (-1) := by rw [pfX2_holderOf_g_0_r, if_neg c_1, if_neg c_2, if_pos c_3, if_pos c_4, if_neg c_5]
            have hP9 := hP.sub (ws' := [(h, .inr (2, [.ref a0, .ref a1, .ref a2, .ref a3, .ref a4, .ref a5, .ref a6])), (a0, .inl (cI, 22, .inl (gl [m0, m1, m2, m3, m4, m5, m6, m7, m8, m9, m10, m11, m12, m13, m14, m15, m16, m17, 0, 4, 0, 16]))), (a4, .inl (cI, 8, .inl (gl [o0, o1, o2, o3, (-1), (-1), (-1), (-1)]))), (a6, .inl (cI, 4000, .inl fb))]) [1, 2, 0, 3] rfl
            have hD9 := hD.sub (ws' := [(h, .inr (2, [.ref a0, .ref a1, .ref a2, .ref a3, .ref a4, .ref a5, .ref a6])), (a0, .inl (cI, 22, .inl (gl [m0, m1, m2, m3, m4, m5, m6, m7, m8, m9, m10, m11, m12, m13, m14, m15, m16, m17, 0, 4, 0, 16]))), (a4, .inl (cI, 8, .inl (gl [o0, o1, o2, o3, (-1), (-1), (-1), (-1)]))), (a6, .inl (cI, 4000, .inl fb))]) [1, 2, 0, 3] (by decide) rfl
            exact W.iret (v := (-1)) hx hb hr (fun t ht hW => ⟨⟨(-1), (), rfl, e_0.symm, by rw [ht]; exact hP9, va_K.moved hW.alike hK, hD9⟩, hS.F ht⟩) hS.2.2 dX2_holderOf_52
          · refine lv_iload_n hx hb dX2_holderOf_47 rfl (lv_at hl 0 rfl) ?_
            refine lv_goto (tgt := 52) hx hb dX2_holderOf_48 (by decide) ?_
            have e_0 : (pfX2_holderOf_g_0_r m5 o0 o1 o2 o3 fb p1) = ((gl [o0, o1, o2, o3, (-1), (-1), (-1), (-1)]) (Int32.toNatClampNeg p1)) := by rw [pfX2_holderOf_g_0_r, if_neg c_1, if_neg c_2, if_pos c_3, if_pos c_4, if_pos c_5]
            have hP9 := hP.sub (ws' := [(h, .inr (2, [.ref a0, .ref a1, .ref a2, .ref a3, .ref a4, .ref a5, .ref a6])), (a0, .inl (cI, 22, .inl (gl [m0, m1, m2, m3, m4, m5, m6, m7, m8, m9, m10, m11, m12, m13, m14, m15, m16, m17, 0, 4, 0, 16]))), (a4, .inl (cI, 8, .inl (gl [o0, o1, o2, o3, (-1), (-1), (-1), (-1)]))), (a6, .inl (cI, 4000, .inl fb))]) [1, 2, 0, 3] rfl
            have hD9 := hD.sub (ws' := [(h, .inr (2, [.ref a0, .ref a1, .ref a2, .ref a3, .ref a4, .ref a5, .ref a6])), (a0, .inl (cI, 22, .inl (gl [m0, m1, m2, m3, m4, m5, m6, m7, m8, m9, m10, m11, m12, m13, m14, m15, m16, m17, 0, 4, 0, 16]))), (a4, .inl (cI, 8, .inl (gl [o0, o1, o2, o3, (-1), (-1), (-1), (-1)]))), (a6, .inl (cI, 4000, .inl fb))]) [1, 2, 0, 3] (by decide) rfl
            exact W.iret (v := ((gl [o0, o1, o2, o3, (-1), (-1), (-1), (-1)]) (Int32.toNatClampNeg p1))) hx hb hr (fun t ht hW => ⟨⟨((gl [o0, o1, o2, o3, (-1), (-1), (-1), (-1)]) (Int32.toNatClampNeg p1)), (), rfl, e_0.symm, by rw [ht]; exact hP9, va_K.moved hW.alike hK, hD9⟩, hS.F ht⟩) hS.2.2 dX2_holderOf_52
      · refine lv_iconst (v := (-1)) hx hb dX2_holderOf_18 (by decide) ?_
        have e_0 : (pfX2_holderOf_g_0_r m5 o0 o1 o2 o3 fb p1) = (-1) := by rw [pfX2_holderOf_g_0_r, if_neg c_1, if_neg c_2, if_neg c_3]
        have hP9 := hP.sub (ws' := [(h, .inr (2, [.ref a0, .ref a1, .ref a2, .ref a3, .ref a4, .ref a5, .ref a6])), (a0, .inl (cI, 22, .inl (gl [m0, m1, m2, m3, m4, m5, m6, m7, m8, m9, m10, m11, m12, m13, m14, m15, m16, m17, 0, 4, 0, 16]))), (a4, .inl (cI, 8, .inl (gl [o0, o1, o2, o3, (-1), (-1), (-1), (-1)]))), (a6, .inl (cI, 4000, .inl fb))]) [2, 3, 0, 1] rfl
        have hD9 := hD.sub (ws' := [(h, .inr (2, [.ref a0, .ref a1, .ref a2, .ref a3, .ref a4, .ref a5, .ref a6])), (a0, .inl (cI, 22, .inl (gl [m0, m1, m2, m3, m4, m5, m6, m7, m8, m9, m10, m11, m12, m13, m14, m15, m16, m17, 0, 4, 0, 16]))), (a4, .inl (cI, 8, .inl (gl [o0, o1, o2, o3, (-1), (-1), (-1), (-1)]))), (a6, .inl (cI, 4000, .inl fb))]) [2, 3, 0, 1] (by decide) rfl
        exact W.iret (v := (-1)) hx hb hr (fun t ht hW => ⟨⟨(-1), (), rfl, e_0.symm, by rw [ht]; exact hP9, va_K.moved hW.alike hK, hD9⟩, hS.F ht⟩) hS.2.2 dX2_holderOf_19

def pfX2_holderOf_g_2_r (m5 : Int32) (o0 : Int32) (o1 : Int32) (o2 : Int32) (o3 : Int32) (fb : Nat → Int32) (p1 : Int32) : Int32 := if p1 < 0 then (-1) else (if 4 ≤ p1 then (-1) else (if p1 < 8 then (if (pfX2_ofBuffer_g_r m5 fb ((gl [o0, o1, o2, o3, (-1), (-1), (-1), (-1)]) (Int32.toNatClampNeg p1)) 2) = p1 then (if (pfX2_ofBuffer_g_r m5 fb ((gl [o0, o1, o2, o3, (-1), (-1), (-1), (-1)]) (Int32.toNatClampNeg p1)) 0) = 2 then ((gl [o0, o1, o2, o3, (-1), (-1), (-1), (-1)]) (Int32.toNatClampNeg p1)) else (-1)) else (-1)) else (-1)))
set_option maxHeartbeats 4000000 in
set_option maxRecDepth 100000 in
theorem kkX2_holderOf_g_2 (l : Launch) (dC : Nat → ClassId) (dI : Nat → Nat → Nat) (cI cB cZ cR : ClassId) (sz : Nat) (h : Nat) (a0 : Nat) (a1 : Nat) (a2 : Nat) (a3 : Nat) (a4 : Nat) (a5 : Nat) (a6 : Nat) (m0 : Int32) (m1 : Int32) (m2 : Int32) (m3 : Int32) (m4 : Int32) (m5 : Int32) (m6 : Int32) (m7 : Int32) (m8 : Int32) (m9 : Int32) (m10 : Int32) (m11 : Int32) (m12 : Int32) (m13 : Int32) (m14 : Int32) (m15 : Int32) (m16 : Int32) (m17 : Int32) (o0 : Int32) (o1 : Int32) (o2 : Int32) (o3 : Int32) (fb : Nat → Int32) (p1 : Int32) : Met l yX2_holderOf (.code yX2_holderOf cX2_holderOf 4 (some .int) :: wsL_law) ({ frames := 1, cells := 0, slots := 0, locals := 23 }) (zPc dC dI (zT cI cB cZ cR) [.ref h, .int p1, .int 2] sz [(h, .inr (2, [.ref a0, .ref a1, .ref a2, .ref a3, .ref a4, .ref a5, .ref a6])), (a0, .inl (cI, 22, .inl (gl [m0, m1, m2, m3, m4, m5, m6, m7, m8, m9, m10, m11, m12, m13, m14, m15, m16, m17, 0, 4, 0, 16]))), (a4, .inl (cI, 8, .inl (gl [o0, o1, o2, o3, (-1), (-1), (-1), (-1)]))), (a6, .inl (cI, 4000, .inl fb))]) (va_Qi (fun (r : Int32) (_ : Unit) => r = (pfX2_holderOf_g_2_r m5 o0 o1 o2 o3 fb p1)) (fun _ : Unit => zB dC dI (zT cI cB cZ cR) (va_A [(h, .inr (2, [.ref a0, .ref a1, .ref a2, .ref a3, .ref a4, .ref a5, .ref a6])), (a0, .inl (cI, 22, .inl (gl [m0, m1, m2, m3, m4, m5, m6, m7, m8, m9, m10, m11, m12, m13, m14, m15, m16, m17, 0, 4, 0, 16]))), (a4, .inl (cI, 8, .inl (gl [o0, o1, o2, o3, (-1), (-1), (-1), (-1)]))), (a6, .inl (cI, 4000, .inl fb))] sz) [(h, .inr (2, [.ref a0, .ref a1, .ref a2, .ref a3, .ref a4, .ref a5, .ref a6])), (a0, .inl (cI, 22, .inl (gl [m0, m1, m2, m3, m4, m5, m6, m7, m8, m9, m10, m11, m12, m13, m14, m15, m16, m17, 0, 4, 0, 16]))), (a4, .inl (cI, 8, .inl (gl [o0, o1, o2, o3, (-1), (-1), (-1), (-1)]))), (a6, .inl (cI, 4000, .inl fb))]) (va_A [(h, .inr (2, [.ref a0, .ref a1, .ref a2, .ref a3, .ref a4, .ref a5, .ref a6])), (a0, .inl (cI, 22, .inl (gl [m0, m1, m2, m3, m4, m5, m6, m7, m8, m9, m10, m11, m12, m13, m14, m15, m16, m17, 0, 4, 0, 16]))), (a4, .inl (cI, 8, .inl (gl [o0, o1, o2, o3, (-1), (-1), (-1), (-1)]))), (a6, .inl (cI, 4000, .inl fb))] sz)) 0 0 (va_A [(h, .inr (2, [.ref a0, .ref a1, .ref a2, .ref a3, .ref a4, .ref a5, .ref a6])), (a0, .inl (cI, 22, .inl (gl [m0, m1, m2, m3, m4, m5, m6, m7, m8, m9, m10, m11, m12, m13, m14, m15, m16, m17, 0, 4, 0, 16]))), (a4, .inl (cI, 8, .inl (gl [o0, o1, o2, o3, (-1), (-1), (-1), (-1)]))), (a6, .inl (cI, 4000, .inl fb))] sz) := by
  refine Met.ofW (cc := cX2_holderOf) (maxL := 4) (ret := (some .int)) (by decide) rfl ?_
  intro p e s m args below meth c s₁ B hml hv
  obtain ⟨rfl, hsz, hP, hK, hD0, hN⟩ := hv
  have hx := B.exec
  have hb := B.bytes
  have hr := B.returns
  have hts := atoms_spec (ws := (.code yX2_holderOf cX2_holderOf 4 (some .int) :: wsL_law)) B.pre
  have hown : s.vm.findClass RX2 = some m.cls := findClass_of_methodNamed B.named
  have hlocks := B.notSynchronized
  have hinX2 : ∀ w ∈ u_ws RX2 TX2 7, w ∈ (.code yX2_holderOf cX2_holderOf 4 (some .int) :: wsL_law) := fun w h => List.mem_cons_of_mem _ (inlX2 w h)
  have k_0 := hts (.fieldLink RX2 24 "RingMarks$Ring" "owners" "[I") (List.mem_cons_of_mem _ wm_65)
  subst hsz
  have hD := hD0.self (sz := s.heap.size)
  generalize hAe : va_A [(h, .inr (2, [.ref a0, .ref a1, .ref a2, .ref a3, .ref a4, .ref a5, .ref a6])), (a0, .inl (cI, 22, .inl (gl [m0, m1, m2, m3, m4, m5, m6, m7, m8, m9, m10, m11, m12, m13, m14, m15, m16, m17, 0, 4, 0, 16]))), (a4, .inl (cI, 8, .inl (gl [o0, o1, o2, o3, (-1), (-1), (-1), (-1)]))), (a6, .inl (cI, 4000, .inl fb))] s.heap.size = A at hD ⊢
  have hA : ∀ q : Nat, s.heap.size ≤ q → A q := fun q h => by rw [← hAe]; exact Or.inr h
  have hP : va_P (dC, dI) vwCl [(h, .inr (2, [.ref a0, .ref a1, .ref a2, .ref a3, .ref a4, .ref a5, .ref a6])), (a0, .inl (cI, 22, .inl (gl [m0, m1, m2, m3, m4, m5, m6, m7, m8, m9, m10, m11, m12, m13, m14, m15, m16, m17, 0, 4, 0, 16]))), (a4, .inl (cI, 8, .inl (gl [o0, o1, o2, o3, (-1), (-1), (-1), (-1)]))), (a6, .inl (cI, 4000, .inl fb))] s.heap := hP
  have hl := lv_entry ([.ref h, .int p1, .int 2]) (n := 4) (Nat.le_of_ble_eq_true rfl)
  rw [lg_entry_eq]
  generalize (lg_sl ([.ref h, .int p1, .int 2]) ++ List.replicate (4 - (lg_sl ([.ref h, .int p1, .int 2])).length) Slot.unset).toArray = ls at hl ⊢
  have hl : lv_has ls 4 [(0, .ref h), (1, .int p1), (2, .int 2)] := hl
  obtain ⟨H, hH⟩ : ∃ H, H = s.heap := ⟨_, rfl⟩
  rw [← hH] at hP ⊢
  have hS : va_S A s.heap H [] := by rw [hH]; exact va_S.rf
  refine lv_iload_n hx hb dX2_holderOf_0 rfl (lv_at hl 1 rfl) ?_
  refine lv_if_lt (tgt := 18) hx hb dX2_holderOf_1 (by decide) (fun c_1 => ?_) (fun c_1 => ?_)
  · refine lv_iconst (v := (-1)) hx hb dX2_holderOf_18 (by decide) ?_
    have e_0 : (pfX2_holderOf_g_2_r m5 o0 o1 o2 o3 fb p1) = (-1) := by rw [pfX2_holderOf_g_2_r, if_pos c_1]
    have hP9 := hP.sub (ws' := [(h, .inr (2, [.ref a0, .ref a1, .ref a2, .ref a3, .ref a4, .ref a5, .ref a6])), (a0, .inl (cI, 22, .inl (gl [m0, m1, m2, m3, m4, m5, m6, m7, m8, m9, m10, m11, m12, m13, m14, m15, m16, m17, 0, 4, 0, 16]))), (a4, .inl (cI, 8, .inl (gl [o0, o1, o2, o3, (-1), (-1), (-1), (-1)]))), (a6, .inl (cI, 4000, .inl fb))]) [0, 1, 2, 3] rfl
    have hD9 := hD.sub (ws' := [(h, .inr (2, [.ref a0, .ref a1, .ref a2, .ref a3, .ref a4, .ref a5, .ref a6])), (a0, .inl (cI, 22, .inl (gl [m0, m1, m2, m3, m4, m5, m6, m7, m8, m9, m10, m11, m12, m13, m14, m15, m16, m17, 0, 4, 0, 16]))), (a4, .inl (cI, 8, .inl (gl [o0, o1, o2, o3, (-1), (-1), (-1), (-1)]))), (a6, .inl (cI, 4000, .inl fb))]) [0, 1, 2, 3] (by decide) rfl
    exact W.iret (v := (-1)) hx hb hr (fun t ht hW => ⟨⟨(-1), (), rfl, e_0.symm, by rw [ht]; exact hP9, va_K.moved hW.alike hK, hD9⟩, hS.F ht⟩) hS.2.2 dX2_holderOf_19
  · refine lv_iload_n hx hb dX2_holderOf_4 rfl (lv_at hl 1 rfl) ?_
    refine lv_aload_n hx hb dX2_holderOf_5 rfl (lv_at hl 0 rfl) ?_
    refine zcVi (As := []) (rest := [.int p1]) (wr := [(a4, .inl (cI, 8, .inl (gl [o0, o1, o2, o3, (-1), (-1), (-1), (-1)]))), (a6, .inl (cI, 4000, .inl fb))]) ⟨hx, hb, hml, hown, hts⟩ (kkX2_places l dC dI cI cB cZ cR H.size h a0 a1 a2 a3 a4 a5 a6 m0 m1 m2 m3 m4 m5 m6 m7 m8 m9 m10 m11 m12 m13 m14 m15 m16 m17 ) (cwV 0 hts (zgV wm_259 wm_260 wm_261 wm_22 wm_262) rfl rfl rfl (by decide +kernel) ⟨Nat.le_of_ble_eq_true rfl, Nat.le_of_ble_eq_true rfl⟩) hN hK hP hD hS hA [0, 1] [2, 3] rfl rfl ⟨rfl, rfl⟩ (by decide) (ci := 2) rfl rfl rfl rfl hl.1 rfl (Nat.le_of_ble_eq_true rfl) dX2_holderOf_6 ⟨Nat.le_of_ble_eq_true rfl, Nat.le_of_ble_eq_true rfl⟩ (fun r u hu H locs hP hD hS => ?_)
    have hu : r = 4 := hu
    subst hu
    have hP : va_P (dC, dI) vwCl [(a4, .inl (cI, 8, .inl (gl [o0, o1, o2, o3, (-1), (-1), (-1), (-1)]))), (a6, .inl (cI, 4000, .inl fb)), (h, .inr (2, [.ref a0, .ref a1, .ref a2, .ref a3, .ref a4, .ref a5, .ref a6])), (a0, .inl (cI, 22, .inl (gl [m0, m1, m2, m3, m4, m5, m6, m7, m8, m9, m10, m11, m12, m13, m14, m15, m16, m17, 0, 4, 0, 16])))] H := hP
    have hD : va_D A [(a4, .inl (cI, 8, .inl (gl [o0, o1, o2, o3, (-1), (-1), (-1), (-1)]))), (a6, .inl (cI, 4000, .inl fb)), (h, .inr (2, [.ref a0, .ref a1, .ref a2, .ref a3, .ref a4, .ref a5, .ref a6])), (a0, .inl (cI, 22, .inl (gl [m0, m1, m2, m3, m4, m5, m6, m7, m8, m9, m10, m11, m12, m13, m14, m15, m16, m17, 0, 4, 0, 16])))] := hD
    refine lv_icmp_ge (tgt := 18) hx hb dX2_holderOf_9 (by decide) (fun c_2 => ?_) (fun c_2 => ?_)
    · refine lv_iconst (v := (-1)) hx hb dX2_holderOf_18 (by decide) ?_
      have e_0 : (pfX2_holderOf_g_2_r m5 o0 o1 o2 o3 fb p1) = (-1) := by rw [pfX2_holderOf_g_2_r, if_neg c_1, if_pos c_2]
      have hP9 := hP.sub (ws' := [(h, .inr (2, [.ref a0, .ref a1, .ref a2, .ref a3, .ref a4, .ref a5, .ref a6])), (a0, .inl (cI, 22, .inl (gl [m0, m1, m2, m3, m4, m5, m6, m7, m8, m9, m10, m11, m12, m13, m14, m15, m16, m17, 0, 4, 0, 16]))), (a4, .inl (cI, 8, .inl (gl [o0, o1, o2, o3, (-1), (-1), (-1), (-1)]))), (a6, .inl (cI, 4000, .inl fb))]) [2, 3, 0, 1] rfl
      have hD9 := hD.sub (ws' := [(h, .inr (2, [.ref a0, .ref a1, .ref a2, .ref a3, .ref a4, .ref a5, .ref a6])), (a0, .inl (cI, 22, .inl (gl [m0, m1, m2, m3, m4, m5, m6, m7, m8, m9, m10, m11, m12, m13, m14, m15, m16, m17, 0, 4, 0, 16]))), (a4, .inl (cI, 8, .inl (gl [o0, o1, o2, o3, (-1), (-1), (-1), (-1)]))), (a6, .inl (cI, 4000, .inl fb))]) [2, 3, 0, 1] (by decide) rfl
      exact W.iret (v := (-1)) hx hb hr (fun t ht hW => ⟨⟨(-1), (), rfl, e_0.symm, by rw [ht]; exact hP9, va_K.moved hW.alike hK, hD9⟩, hS.F ht⟩) hS.2.2 dX2_holderOf_19
    · refine lv_iload_n hx hb dX2_holderOf_12 rfl (lv_at hl 1 rfl) ?_
      refine lv_bipush (v := 8) hx hb dX2_holderOf_13 (by decide) ?_
      refine lv_icmp_lt (tgt := 20) hx hb dX2_holderOf_15 (by decide) (fun c_3 => ?_) (fun c_3 => ?_)
      · refine lv_aload_n hx hb dX2_holderOf_20 rfl (lv_at hl 0 rfl) ?_
        refine va_get (D := (dC, dI)) (ci := 2) (v := .ref a4) (C := RX2) (T := TX2) (N := 7) hx hb hts hinX2 hown hK hP 2 rfl rfl 4 (by decide) k_0 (fun _ h9 => h9) rfl dX2_holderOf_21 ?_
        refine lv_iload_n hx hb dX2_holderOf_24 rfl (lv_at hl 1 rfl) ?_
        refine za_iald (v := ((gl [o0, o1, o2, o3, (-1), (-1), (-1), (-1)]) (Int32.toNatClampNeg p1))) hx hb hK hP 0 0 rfl rfl (zinS c_1 (znl2 c_3) (by decide)) rfl dX2_holderOf_25 ?_
        refine lv_istore_n (lv' := [(3, .int ((gl [o0, o1, o2, o3, (-1), (-1), (-1), (-1)]) (Int32.toNatClampNeg p1))), (0, .ref h), (1, .int p1), (2, .int 2)]) hx hb dX2_holderOf_26 rfl hl (by decide) rfl (fun ls hl => ?_)
        refine lv_aload_n hx hb dX2_holderOf_27 rfl (lv_at hl 1 rfl) ?_
        refine lv_iload_n hx hb dX2_holderOf_28 rfl (lv_at hl 0 rfl) ?_
        refine lv_iconst (v := 2) hx hb dX2_holderOf_29 (by decide) ?_
        refine zcVi (As := [.int ((gl [o0, o1, o2, o3, (-1), (-1), (-1), (-1)]) (Int32.toNatClampNeg p1)), .int 2]) (rest := []) (wr := [(a4, .inl (cI, 8, .inl (gl [o0, o1, o2, o3, (-1), (-1), (-1), (-1)])))]) ⟨hx, hb, hml, hown, hts⟩ (kkX2_ofBuffer_g l dC dI cI cB cZ cR H.size h a0 a1 a2 a3 a4 a5 a6 m0 m1 m2 m3 m4 m5 m6 m7 m8 m9 m10 m11 m12 m13 m14 m15 m16 m17 fb ((gl [o0, o1, o2, o3, (-1), (-1), (-1), (-1)]) (Int32.toNatClampNeg p1)) 2 ) (cwV 2 hts (zgV wm_298 wm_299 wm_300 wm_22 wm_301) rfl rfl rfl (by decide +kernel) ⟨Nat.le_of_ble_eq_true rfl, Nat.le_of_ble_eq_true rfl⟩) hN hK hP hD hS hA [2, 3, 1] [0] rfl rfl ⟨rfl, rfl⟩ (by decide) (ci := 2) rfl rfl rfl rfl hl.1 rfl (Nat.le_of_ble_eq_true rfl) dX2_holderOf_30 ⟨Nat.le_of_ble_eq_true rfl, Nat.le_of_ble_eq_true rfl⟩ (fun r u hu H locs hP hD hS => ?_)
        have hu : r = (pfX2_ofBuffer_g_r m5 fb ((gl [o0, o1, o2, o3, (-1), (-1), (-1), (-1)]) (Int32.toNatClampNeg p1)) 2) := hu
        subst hu
        have hP : va_P (dC, dI) vwCl [(a4, .inl (cI, 8, .inl (gl [o0, o1, o2, o3, (-1), (-1), (-1), (-1)]))), (h, .inr (2, [.ref a0, .ref a1, .ref a2, .ref a3, .ref a4, .ref a5, .ref a6])), (a0, .inl (cI, 22, .inl (gl [m0, m1, m2, m3, m4, m5, m6, m7, m8, m9, m10, m11, m12, m13, m14, m15, m16, m17, 0, 4, 0, 16]))), (a6, .inl (cI, 4000, .inl fb))] H := hP
        have hD : va_D A [(a4, .inl (cI, 8, .inl (gl [o0, o1, o2, o3, (-1), (-1), (-1), (-1)]))), (h, .inr (2, [.ref a0, .ref a1, .ref a2, .ref a3, .ref a4, .ref a5, .ref a6])), (a0, .inl (cI, 22, .inl (gl [m0, m1, m2, m3, m4, m5, m6, m7, m8, m9, m10, m11, m12, m13, m14, m15, m16, m17, 0, 4, 0, 16]))), (a6, .inl (cI, 4000, .inl fb))] := hD
        refine lv_iload_n hx hb dX2_holderOf_33 rfl (lv_at hl 2 rfl) ?_
        refine lv_icmp_ne (tgt := 51) hx hb dX2_holderOf_34 (by decide) (fun c_4 => ?_) (fun c_4 => ?_)
        · refine lv_iconst (v := (-1)) hx hb dX2_holderOf_51 (by decide) ?_
          have e_0 : (pfX2_holderOf_g_2_r m5 o0 o1 o2 o3 fb p1) = (-1) := by rw [pfX2_holderOf_g_2_r, if_neg c_1, if_neg c_2, if_pos c_3, if_neg c_4]
          have hP9 := hP.sub (ws' := [(h, .inr (2, [.ref a0, .ref a1, .ref a2, .ref a3, .ref a4, .ref a5, .ref a6])), (a0, .inl (cI, 22, .inl (gl [m0, m1, m2, m3, m4, m5, m6, m7, m8, m9, m10, m11, m12, m13, m14, m15, m16, m17, 0, 4, 0, 16]))), (a4, .inl (cI, 8, .inl (gl [o0, o1, o2, o3, (-1), (-1), (-1), (-1)]))), (a6, .inl (cI, 4000, .inl fb))]) [1, 2, 0, 3] rfl
          have hD9 := hD.sub (ws' := [(h, .inr (2, [.ref a0, .ref a1, .ref a2, .ref a3, .ref a4, .ref a5, .ref a6])), (a0, .inl (cI, 22, .inl (gl [m0, m1, m2, m3, m4, m5, m6, m7, m8, m9, m10, m11, m12, m13, m14, m15, m16, m17, 0, 4, 0, 16]))), (a4, .inl (cI, 8, .inl (gl [o0, o1, o2, o3, (-1), (-1), (-1), (-1)]))), (a6, .inl (cI, 4000, .inl fb))]) [1, 2, 0, 3] (by decide) rfl
          exact W.iret (v := (-1)) hx hb hr (fun t ht hW => ⟨⟨(-1), (), rfl, e_0.symm, by rw [ht]; exact hP9, va_K.moved hW.alike hK, hD9⟩, hS.F ht⟩) hS.2.2 dX2_holderOf_52
        · refine lv_aload_n hx hb dX2_holderOf_37 rfl (lv_at hl 1 rfl) ?_
          refine lv_iload_n hx hb dX2_holderOf_38 rfl (lv_at hl 0 rfl) ?_
          refine lv_iconst (v := 0) hx hb dX2_holderOf_39 (by decide) ?_
          refine zcVi (As := [.int ((gl [o0, o1, o2, o3, (-1), (-1), (-1), (-1)]) (Int32.toNatClampNeg p1)), .int 0]) (rest := []) (wr := [(a4, .inl (cI, 8, .inl (gl [o0, o1, o2, o3, (-1), (-1), (-1), (-1)])))]) ⟨hx, hb, hml, hown, hts⟩ (kkX2_ofBuffer_g l dC dI cI cB cZ cR H.size h a0 a1 a2 a3 a4 a5 a6 m0 m1 m2 m3 m4 m5 m6 m7 m8 m9 m10 m11 m12 m13 m14 m15 m16 m17 fb ((gl [o0, o1, o2, o3, (-1), (-1), (-1), (-1)]) (Int32.toNatClampNeg p1)) 0 ) (cwV 2 hts (zgV wm_298 wm_299 wm_300 wm_22 wm_301) rfl rfl rfl (by decide +kernel) ⟨Nat.le_of_ble_eq_true rfl, Nat.le_of_ble_eq_true rfl⟩) hN hK hP hD hS hA [1, 2, 3] [0] rfl rfl ⟨rfl, rfl⟩ (by decide) (ci := 2) rfl rfl rfl rfl hl.1 rfl (Nat.le_of_ble_eq_true rfl) dX2_holderOf_40 ⟨Nat.le_of_ble_eq_true rfl, Nat.le_of_ble_eq_true rfl⟩ (fun r u hu H locs hP hD hS => ?_)
          have hu : r = (pfX2_ofBuffer_g_r m5 fb ((gl [o0, o1, o2, o3, (-1), (-1), (-1), (-1)]) (Int32.toNatClampNeg p1)) 0) := hu
          subst hu
          have hP : va_P (dC, dI) vwCl [(a4, .inl (cI, 8, .inl (gl [o0, o1, o2, o3, (-1), (-1), (-1), (-1)]))), (h, .inr (2, [.ref a0, .ref a1, .ref a2, .ref a3, .ref a4, .ref a5, .ref a6])), (a0, .inl (cI, 22, .inl (gl [m0, m1, m2, m3, m4, m5, m6, m7, m8, m9, m10, m11, m12, m13, m14, m15, m16, m17, 0, 4, 0, 16]))), (a6, .inl (cI, 4000, .inl fb))] H := hP
          have hD : va_D A [(a4, .inl (cI, 8, .inl (gl [o0, o1, o2, o3, (-1), (-1), (-1), (-1)]))), (h, .inr (2, [.ref a0, .ref a1, .ref a2, .ref a3, .ref a4, .ref a5, .ref a6])), (a0, .inl (cI, 22, .inl (gl [m0, m1, m2, m3, m4, m5, m6, m7, m8, m9, m10, m11, m12, m13, m14, m15, m16, m17, 0, 4, 0, 16]))), (a6, .inl (cI, 4000, .inl fb))] := hD
          refine lv_iload_n hx hb dX2_holderOf_43 rfl (lv_at hl 3 rfl) ?_
          refine lv_icmp_ne (tgt := 51) hx hb dX2_holderOf_44 (by decide) (fun c_5 => ?_) (fun c_5 => ?_)
          · refine lv_iconst (v := (-1)) hx hb dX2_holderOf_51 (by decide) ?_
            have e_0 : (pfX2_holderOf_g_2_r m5 o0 o1 o2 o3 fb p1) = (-1) := by rw [pfX2_holderOf_g_2_r, if_neg c_1, if_neg c_2, if_pos c_3, if_pos c_4, if_neg c_5]
            have hP9 := hP.sub (ws' := [(h, .inr (2, [.ref a0, .ref a1, .ref a2, .ref a3, .ref a4, .ref a5, .ref a6])), (a0, .inl (cI, 22, .inl (gl [m0, m1, m2, m3, m4, m5, m6, m7, m8, m9, m10, m11, m12, m13, m14, m15, m16, m17, 0, 4, 0, 16]))), (a4, .inl (cI, 8, .inl (gl [o0, o1, o2, o3, (-1), (-1), (-1), (-1)]))), (a6, .inl (cI, 4000, .inl fb))]) [1, 2, 0, 3] rfl
            have hD9 := hD.sub (ws' := [(h, .inr (2, [.ref a0, .ref a1, .ref a2, .ref a3, .ref a4, .ref a5, .ref a6])), (a0, .inl (cI, 22, .inl (gl [m0, m1, m2, m3, m4, m5, m6, m7, m8, m9, m10, m11, m12, m13, m14, m15, m16, m17, 0, 4, 0, 16]))), (a4, .inl (cI, 8, .inl (gl [o0, o1, o2, o3, (-1), (-1), (-1), (-1)]))), (a6, .inl (cI, 4000, .inl fb))]) [1, 2, 0, 3] (by decide) rfl
            exact W.iret (v := (-1)) hx hb hr (fun t ht hW => ⟨⟨(-1), (), rfl, e_0.symm, by rw [ht]; exact hP9, va_K.moved hW.alike hK, hD9⟩, hS.F ht⟩) hS.2.2 dX2_holderOf_52
          · refine lv_iload_n hx hb dX2_holderOf_47 rfl (lv_at hl 0 rfl) ?_
            refine lv_goto (tgt := 52) hx hb dX2_holderOf_48 (by decide) ?_
            have e_0 : (pfX2_holderOf_g_2_r m5 o0 o1 o2 o3 fb p1) = ((gl [o0, o1, o2, o3, (-1), (-1), (-1), (-1)]) (Int32.toNatClampNeg p1)) := by rw [pfX2_holderOf_g_2_r, if_neg c_1, if_neg c_2, if_pos c_3, if_pos c_4, if_pos c_5]
            have hP9 := hP.sub (ws' := [(h, .inr (2, [.ref a0, .ref a1, .ref a2, .ref a3, .ref a4, .ref a5, .ref a6])), (a0, .inl (cI, 22, .inl (gl [m0, m1, m2, m3, m4, m5, m6, m7, m8, m9, m10, m11, m12, m13, m14, m15, m16, m17, 0, 4, 0, 16]))), (a4, .inl (cI, 8, .inl (gl [o0, o1, o2, o3, (-1), (-1), (-1), (-1)]))), (a6, .inl (cI, 4000, .inl fb))]) [1, 2, 0, 3] rfl
            have hD9 := hD.sub (ws' := [(h, .inr (2, [.ref a0, .ref a1, .ref a2, .ref a3, .ref a4, .ref a5, .ref a6])), (a0, .inl (cI, 22, .inl (gl [m0, m1, m2, m3, m4, m5, m6, m7, m8, m9, m10, m11, m12, m13, m14, m15, m16, m17, 0, 4, 0, 16]))), (a4, .inl (cI, 8, .inl (gl [o0, o1, o2, o3, (-1), (-1), (-1), (-1)]))), (a6, .inl (cI, 4000, .inl fb))]) [1, 2, 0, 3] (by decide) rfl
            exact W.iret (v := ((gl [o0, o1, o2, o3, (-1), (-1), (-1), (-1)]) (Int32.toNatClampNeg p1))) hx hb hr (fun t ht hW => ⟨⟨((gl [o0, o1, o2, o3, (-1), (-1), (-1), (-1)]) (Int32.toNatClampNeg p1)), (), rfl, e_0.symm, by rw [ht]; exact hP9, va_K.moved hW.alike hK, hD9⟩, hS.F ht⟩) hS.2.2 dX2_holderOf_52
      · refine lv_iconst (v := (-1)) hx hb dX2_holderOf_18 (by decide) ?_
        have e_0 : (pfX2_holderOf_g_2_r m5 o0 o1 o2 o3 fb p1) = (-1) := by rw [pfX2_holderOf_g_2_r, if_neg c_1, if_neg c_2, if_neg c_3]
        have hP9 := hP.sub (ws' := [(h, .inr (2, [.ref a0, .ref a1, .ref a2, .ref a3, .ref a4, .ref a5, .ref a6])), (a0, .inl (cI, 22, .inl (gl [m0, m1, m2, m3, m4, m5, m6, m7, m8, m9, m10, m11, m12, m13, m14, m15, m16, m17, 0, 4, 0, 16]))), (a4, .inl (cI, 8, .inl (gl [o0, o1, o2, o3, (-1), (-1), (-1), (-1)]))), (a6, .inl (cI, 4000, .inl fb))]) [2, 3, 0, 1] rfl
        have hD9 := hD.sub (ws' := [(h, .inr (2, [.ref a0, .ref a1, .ref a2, .ref a3, .ref a4, .ref a5, .ref a6])), (a0, .inl (cI, 22, .inl (gl [m0, m1, m2, m3, m4, m5, m6, m7, m8, m9, m10, m11, m12, m13, m14, m15, m16, m17, 0, 4, 0, 16]))), (a4, .inl (cI, 8, .inl (gl [o0, o1, o2, o3, (-1), (-1), (-1), (-1)]))), (a6, .inl (cI, 4000, .inl fb))]) [2, 3, 0, 1] (by decide) rfl
        exact W.iret (v := (-1)) hx hb hr (fun t ht hW => ⟨⟨(-1), (), rfl, e_0.symm, by rw [ht]; exact hP9, va_K.moved hW.alike hK, hD9⟩, hS.F ht⟩) hS.2.2 dX2_holderOf_19

def LSX2_firstFetched_4_ff (m5 : Int32) (o0 : Int32) (o1 : Int32) (o2 : Int32) (o3 : Int32) (fb : Nat → Int32) (ff : Int32) : Int32 := ff
set_option maxHeartbeats 4000000 in
set_option maxRecDepth 100000 in
theorem LSX2_firstFetched_4 {p : Program} {l : Launch} {e : Env} {R : Room} {s : State} {m : MethodId} {args : Array Value} {below : List Frame} {meth : Method} {c : Code} {Q : State → Prop} {A : Nat → Prop} {cells slots : Nat} (dC : Nat → ClassId) (dI : Nat → Nat → Nat) (cI cB cZ cR : ClassId) (h : Nat) (a0 : Nat) (a1 : Nat) (a2 : Nat) (a3 : Nat) (a4 : Nat) (a5 : Nat) (a6 : Nat) (m0 : Int32) (m1 : Int32) (m2 : Int32) (m3 : Int32) (m4 : Int32) (m5 : Int32) (m6 : Int32) (m7 : Int32) (m8 : Int32) (m9 : Int32) (m10 : Int32) (m11 : Int32) (m12 : Int32) (m13 : Int32) (m14 : Int32) (m15 : Int32) (m16 : Int32) (m17 : Int32) (o0 : Int32) (o1 : Int32) (o2 : Int32) (o3 : Int32) (fb : Nat → Int32) (ff : Int32) (hx : p.tables.exec = Jvm.exec) (hb : c.code = cX2_firstFetched) (hml : c.maxLocals = 4) (hts : ∀ w ∈ (.code yX2_firstFetched cX2_firstFetched 4 (some .int) :: wsL_law), w.before args s = true) (hown : s.vm.findClass RX2 = some m.cls) (hN : zN s) (hK : va_K (dC, dI) vwCl (zT cI cB cZ cR) s) (hA : ∀ q : Nat, s.heap.size ≤ q → A q) (hRf : 2 ≤ R.frames) (hRl : 46 ≤ R.locals) (hRc : cells ≤ R.cells) (hRs : slots ≤ R.slots)
    (k42 : ∀ (H : Heap) (locs : List Loc) (ls : Array Slot), va_P (dC, dI) vwCl [(h, .inr (2, [.ref a0, .ref a1, .ref a2, .ref a3, .ref a4, .ref a5, .ref a6])), (a0, .inl (cI, 22, .inl (gl [m0, m1, m2, m3, m4, m5, m6, m7, m8, m9, m10, m11, m12, m13, m14, m15, m16, m17, 0, 4, 0, 16]))), (a4, .inl (cI, 8, .inl (gl [o0, o1, o2, o3, (-1), (-1), (-1), (-1)]))), (a6, .inl (cI, 4000, .inl fb))] H → va_D A [(h, .inr (2, [.ref a0, .ref a1, .ref a2, .ref a3, .ref a4, .ref a5, .ref a6])), (a0, .inl (cI, 22, .inl (gl [m0, m1, m2, m3, m4, m5, m6, m7, m8, m9, m10, m11, m12, m13, m14, m15, m16, m17, 0, 4, 0, 16]))), (a4, .inl (cI, 8, .inl (gl [o0, o1, o2, o3, (-1), (-1), (-1), (-1)]))), (a6, .inl (cI, 4000, .inl fb))] → va_S A s.heap H locs → lv_has ls 4 [(0, .ref h), (1, .int (LSX2_firstFetched_4_ff m5 o0 o1 o2 o3 fb ff))] → W p l e R s m args below meth c H locs cells slots Q (F0 m 42 ls []))
    : ∀ (H : Heap) (locs : List Loc) (ls : Array Slot), va_P (dC, dI) vwCl [(h, .inr (2, [.ref a0, .ref a1, .ref a2, .ref a3, .ref a4, .ref a5, .ref a6])), (a0, .inl (cI, 22, .inl (gl [m0, m1, m2, m3, m4, m5, m6, m7, m8, m9, m10, m11, m12, m13, m14, m15, m16, m17, 0, 4, 0, 16]))), (a4, .inl (cI, 8, .inl (gl [o0, o1, o2, o3, (-1), (-1), (-1), (-1)]))), (a6, .inl (cI, 4000, .inl fb))] H → va_D A [(h, .inr (2, [.ref a0, .ref a1, .ref a2, .ref a3, .ref a4, .ref a5, .ref a6])), (a0, .inl (cI, 22, .inl (gl [m0, m1, m2, m3, m4, m5, m6, m7, m8, m9, m10, m11, m12, m13, m14, m15, m16, m17, 0, 4, 0, 16]))), (a4, .inl (cI, 8, .inl (gl [o0, o1, o2, o3, (-1), (-1), (-1), (-1)]))), (a6, .inl (cI, 4000, .inl fb))] → va_S A s.heap H locs → lv_has ls 4 [(0, .ref h), (1, .int ff), (2, .int 4)] → W p l e R s m args below meth c H locs cells slots Q (F0 m 4 ls []) := by
  intro H locs ls hP hD hS hl
  refine lv_iload_n hx hb dX2_firstFetched_4 rfl (lv_at hl 2 rfl) ?_
  refine lv_aload_n hx hb dX2_firstFetched_5 rfl (lv_at hl 0 rfl) ?_
  refine zcVi (As := []) (rest := [.int 4]) (wr := [(a4, .inl (cI, 8, .inl (gl [o0, o1, o2, o3, (-1), (-1), (-1), (-1)]))), (a6, .inl (cI, 4000, .inl fb))]) ⟨hx, hb, hml, hown, hts⟩ (kkX2_places l dC dI cI cB cZ cR H.size h a0 a1 a2 a3 a4 a5 a6 m0 m1 m2 m3 m4 m5 m6 m7 m8 m9 m10 m11 m12 m13 m14 m15 m16 m17 ) (cwV 0 hts (zgV wm_259 wm_260 wm_261 wm_22 wm_262) rfl rfl rfl (by decide +kernel) ⟨Nat.le_trans (Nat.le_of_ble_eq_true rfl) hRf, Nat.le_trans (Nat.le_of_ble_eq_true rfl) hRl⟩) hN hK hP hD hS hA [0, 1] [2, 3] rfl rfl ⟨rfl, rfl⟩ (by decide) (ci := 2) rfl rfl rfl rfl hl.1 rfl (Nat.le_of_ble_eq_true rfl) dX2_firstFetched_6 ⟨hRc, hRs⟩ (fun r u hu H locs hP hD hS => ?_)
  have hu : r = 4 := hu
  subst hu
  have hP : va_P (dC, dI) vwCl [(a4, .inl (cI, 8, .inl (gl [o0, o1, o2, o3, (-1), (-1), (-1), (-1)]))), (a6, .inl (cI, 4000, .inl fb)), (h, .inr (2, [.ref a0, .ref a1, .ref a2, .ref a3, .ref a4, .ref a5, .ref a6])), (a0, .inl (cI, 22, .inl (gl [m0, m1, m2, m3, m4, m5, m6, m7, m8, m9, m10, m11, m12, m13, m14, m15, m16, m17, 0, 4, 0, 16])))] H := hP
  have hD : va_D A [(a4, .inl (cI, 8, .inl (gl [o0, o1, o2, o3, (-1), (-1), (-1), (-1)]))), (a6, .inl (cI, 4000, .inl fb)), (h, .inr (2, [.ref a0, .ref a1, .ref a2, .ref a3, .ref a4, .ref a5, .ref a6])), (a0, .inl (cI, 22, .inl (gl [m0, m1, m2, m3, m4, m5, m6, m7, m8, m9, m10, m11, m12, m13, m14, m15, m16, m17, 0, 4, 0, 16])))] := hD
  refine lv_icmp_ge (tgt := 42) hx hb dX2_firstFetched_9 (by decide) (fun _ => ?_) (fun c => absurd (by decide) c)
  have e_ff : (LSX2_firstFetched_4_ff m5 o0 o1 o2 o3 fb ff) = ff := by rw [LSX2_firstFetched_4_ff]
  have hP := hP.sub (ws' := [(h, .inr (2, [.ref a0, .ref a1, .ref a2, .ref a3, .ref a4, .ref a5, .ref a6])), (a0, .inl (cI, 22, .inl (gl [m0, m1, m2, m3, m4, m5, m6, m7, m8, m9, m10, m11, m12, m13, m14, m15, m16, m17, 0, 4, 0, 16]))), (a4, .inl (cI, 8, .inl (gl [o0, o1, o2, o3, (-1), (-1), (-1), (-1)]))), (a6, .inl (cI, 4000, .inl fb))]) [2, 3, 0, 1] rfl
  have hD := hD.sub (ws' := [(h, .inr (2, [.ref a0, .ref a1, .ref a2, .ref a3, .ref a4, .ref a5, .ref a6])), (a0, .inl (cI, 22, .inl (gl [m0, m1, m2, m3, m4, m5, m6, m7, m8, m9, m10, m11, m12, m13, m14, m15, m16, m17, 0, 4, 0, 16]))), (a4, .inl (cI, 8, .inl (gl [o0, o1, o2, o3, (-1), (-1), (-1), (-1)]))), (a6, .inl (cI, 4000, .inl fb))]) [2, 3, 0, 1] (by decide) rfl
  exact k42 _ _ _ (hP) (hD) hS (by rw [e_ff]; exact (lv_sub hl [0, 1] rfl))

def LSX2_firstFetched_3_ff (m5 : Int32) (o0 : Int32) (o1 : Int32) (o2 : Int32) (o3 : Int32) (fb : Nat → Int32) (ff : Int32) : Int32 := if (pfX2_holderOf_3_1_r m5 o3 fb) = (-1) then (LSX2_firstFetched_4_ff m5 o0 o1 o2 o3 fb ff) else (if ff = (-1) then (LSX2_firstFetched_4_ff m5 o0 o1 o2 o3 fb (pfX2_holderOf_3_1_r m5 o3 fb)) else (if ff ≤ (pfX2_holderOf_3_1_r m5 o3 fb) then (LSX2_firstFetched_4_ff m5 o0 o1 o2 o3 fb ff) else (LSX2_firstFetched_4_ff m5 o0 o1 o2 o3 fb (pfX2_holderOf_3_1_r m5 o3 fb))))
set_option maxHeartbeats 4000000 in
set_option maxRecDepth 100000 in
theorem LSX2_firstFetched_3 {p : Program} {l : Launch} {e : Env} {R : Room} {s : State} {m : MethodId} {args : Array Value} {below : List Frame} {meth : Method} {c : Code} {Q : State → Prop} {A : Nat → Prop} {cells slots : Nat} (dC : Nat → ClassId) (dI : Nat → Nat → Nat) (cI cB cZ cR : ClassId) (h : Nat) (a0 : Nat) (a1 : Nat) (a2 : Nat) (a3 : Nat) (a4 : Nat) (a5 : Nat) (a6 : Nat) (m0 : Int32) (m1 : Int32) (m2 : Int32) (m3 : Int32) (m4 : Int32) (m5 : Int32) (m6 : Int32) (m7 : Int32) (m8 : Int32) (m9 : Int32) (m10 : Int32) (m11 : Int32) (m12 : Int32) (m13 : Int32) (m14 : Int32) (m15 : Int32) (m16 : Int32) (m17 : Int32) (o0 : Int32) (o1 : Int32) (o2 : Int32) (o3 : Int32) (fb : Nat → Int32) (ff : Int32) (hx : p.tables.exec = Jvm.exec) (hb : c.code = cX2_firstFetched) (hml : c.maxLocals = 4) (hts : ∀ w ∈ (.code yX2_firstFetched cX2_firstFetched 4 (some .int) :: wsL_law), w.before args s = true) (hown : s.vm.findClass RX2 = some m.cls) (hN : zN s) (hK : va_K (dC, dI) vwCl (zT cI cB cZ cR) s) (hA : ∀ q : Nat, s.heap.size ≤ q → A q) (hRf : 2 ≤ R.frames) (hRl : 46 ≤ R.locals) (hRc : cells ≤ R.cells) (hRs : slots ≤ R.slots)
    (k42 : ∀ (H : Heap) (locs : List Loc) (ls : Array Slot), va_P (dC, dI) vwCl [(h, .inr (2, [.ref a0, .ref a1, .ref a2, .ref a3, .ref a4, .ref a5, .ref a6])), (a0, .inl (cI, 22, .inl (gl [m0, m1, m2, m3, m4, m5, m6, m7, m8, m9, m10, m11, m12, m13, m14, m15, m16, m17, 0, 4, 0, 16]))), (a4, .inl (cI, 8, .inl (gl [o0, o1, o2, o3, (-1), (-1), (-1), (-1)]))), (a6, .inl (cI, 4000, .inl fb))] H → va_D A [(h, .inr (2, [.ref a0, .ref a1, .ref a2, .ref a3, .ref a4, .ref a5, .ref a6])), (a0, .inl (cI, 22, .inl (gl [m0, m1, m2, m3, m4, m5, m6, m7, m8, m9, m10, m11, m12, m13, m14, m15, m16, m17, 0, 4, 0, 16]))), (a4, .inl (cI, 8, .inl (gl [o0, o1, o2, o3, (-1), (-1), (-1), (-1)]))), (a6, .inl (cI, 4000, .inl fb))] → va_S A s.heap H locs → lv_has ls 4 [(0, .ref h), (1, .int (LSX2_firstFetched_3_ff m5 o0 o1 o2 o3 fb ff))] → W p l e R s m args below meth c H locs cells slots Q (F0 m 42 ls []))
    : ∀ (H : Heap) (locs : List Loc) (ls : Array Slot), va_P (dC, dI) vwCl [(h, .inr (2, [.ref a0, .ref a1, .ref a2, .ref a3, .ref a4, .ref a5, .ref a6])), (a0, .inl (cI, 22, .inl (gl [m0, m1, m2, m3, m4, m5, m6, m7, m8, m9, m10, m11, m12, m13, m14, m15, m16, m17, 0, 4, 0, 16]))), (a4, .inl (cI, 8, .inl (gl [o0, o1, o2, o3, (-1), (-1), (-1), (-1)]))), (a6, .inl (cI, 4000, .inl fb))] H → va_D A [(h, .inr (2, [.ref a0, .ref a1, .ref a2, .ref a3, .ref a4, .ref a5, .ref a6])), (a0, .inl (cI, 22, .inl (gl [m0, m1, m2, m3, m4, m5, m6, m7, m8, m9, m10, m11, m12, m13, m14, m15, m16, m17, 0, 4, 0, 16]))), (a4, .inl (cI, 8, .inl (gl [o0, o1, o2, o3, (-1), (-1), (-1), (-1)]))), (a6, .inl (cI, 4000, .inl fb))] → va_S A s.heap H locs → lv_has ls 4 [(0, .ref h), (1, .int ff), (2, .int 3)] → W p l e R s m args below meth c H locs cells slots Q (F0 m 4 ls []) := by
  intro H locs ls hP hD hS hl
  refine lv_iload_n hx hb dX2_firstFetched_4 rfl (lv_at hl 2 rfl) ?_
  refine lv_aload_n hx hb dX2_firstFetched_5 rfl (lv_at hl 0 rfl) ?_
  refine zcVi (As := []) (rest := [.int 3]) (wr := [(a4, .inl (cI, 8, .inl (gl [o0, o1, o2, o3, (-1), (-1), (-1), (-1)]))), (a6, .inl (cI, 4000, .inl fb))]) ⟨hx, hb, hml, hown, hts⟩ (kkX2_places l dC dI cI cB cZ cR H.size h a0 a1 a2 a3 a4 a5 a6 m0 m1 m2 m3 m4 m5 m6 m7 m8 m9 m10 m11 m12 m13 m14 m15 m16 m17 ) (cwV 0 hts (zgV wm_259 wm_260 wm_261 wm_22 wm_262) rfl rfl rfl (by decide +kernel) ⟨Nat.le_trans (Nat.le_of_ble_eq_true rfl) hRf, Nat.le_trans (Nat.le_of_ble_eq_true rfl) hRl⟩) hN hK hP hD hS hA [0, 1] [2, 3] rfl rfl ⟨rfl, rfl⟩ (by decide) (ci := 2) rfl rfl rfl rfl hl.1 rfl (Nat.le_of_ble_eq_true rfl) dX2_firstFetched_6 ⟨hRc, hRs⟩ (fun r u hu H locs hP hD hS => ?_)
  have hu : r = 4 := hu
  subst hu
  have hP : va_P (dC, dI) vwCl [(a4, .inl (cI, 8, .inl (gl [o0, o1, o2, o3, (-1), (-1), (-1), (-1)]))), (a6, .inl (cI, 4000, .inl fb)), (h, .inr (2, [.ref a0, .ref a1, .ref a2, .ref a3, .ref a4, .ref a5, .ref a6])), (a0, .inl (cI, 22, .inl (gl [m0, m1, m2, m3, m4, m5, m6, m7, m8, m9, m10, m11, m12, m13, m14, m15, m16, m17, 0, 4, 0, 16])))] H := hP
  have hD : va_D A [(a4, .inl (cI, 8, .inl (gl [o0, o1, o2, o3, (-1), (-1), (-1), (-1)]))), (a6, .inl (cI, 4000, .inl fb)), (h, .inr (2, [.ref a0, .ref a1, .ref a2, .ref a3, .ref a4, .ref a5, .ref a6])), (a0, .inl (cI, 22, .inl (gl [m0, m1, m2, m3, m4, m5, m6, m7, m8, m9, m10, m11, m12, m13, m14, m15, m16, m17, 0, 4, 0, 16])))] := hD
  refine lv_icmp_ge (tgt := 42) hx hb dX2_firstFetched_9 (by decide) (fun c => absurd c (by decide)) (fun _ => ?_)
  refine lv_aload_n hx hb dX2_firstFetched_12 rfl (lv_at hl 0 rfl) ?_
  refine lv_iload_n hx hb dX2_firstFetched_13 rfl (lv_at hl 2 rfl) ?_
  refine lv_iconst (v := 1) hx hb dX2_firstFetched_14 (by decide) ?_
  refine zcVi (As := [.int 3, .int 1]) (rest := []) (wr := []) ⟨hx, hb, hml, hown, hts⟩ (kkX2_holderOf_3_1 l dC dI cI cB cZ cR H.size h a0 a1 a2 a3 a4 a5 a6 m0 m1 m2 m3 m4 m5 m6 m7 m8 m9 m10 m11 m12 m13 m14 m15 m16 m17 o0 o1 o2 o3 fb ) (cwV 2 hts (zgV wm_488 wm_489 wm_490 wm_22 wm_491) rfl rfl rfl (by decide +kernel) ⟨Nat.le_trans (Nat.le_of_ble_eq_true rfl) hRf, Nat.le_trans (Nat.le_of_ble_eq_true rfl) hRl⟩) hN hK hP hD hS hA [2, 3, 0, 1] [] rfl rfl ⟨rfl, rfl⟩ (by decide) (ci := 2) rfl rfl rfl rfl hl.1 rfl (Nat.le_of_ble_eq_true rfl) dX2_firstFetched_15 ⟨hRc, hRs⟩ (fun r u hu H locs hP hD hS => ?_)
  have hu : r = (pfX2_holderOf_3_1_r m5 o3 fb) := hu
  subst hu
  have hP : va_P (dC, dI) vwCl [(h, .inr (2, [.ref a0, .ref a1, .ref a2, .ref a3, .ref a4, .ref a5, .ref a6])), (a0, .inl (cI, 22, .inl (gl [m0, m1, m2, m3, m4, m5, m6, m7, m8, m9, m10, m11, m12, m13, m14, m15, m16, m17, 0, 4, 0, 16]))), (a4, .inl (cI, 8, .inl (gl [o0, o1, o2, o3, (-1), (-1), (-1), (-1)]))), (a6, .inl (cI, 4000, .inl fb))] H := hP
  have hD : va_D A [(h, .inr (2, [.ref a0, .ref a1, .ref a2, .ref a3, .ref a4, .ref a5, .ref a6])), (a0, .inl (cI, 22, .inl (gl [m0, m1, m2, m3, m4, m5, m6, m7, m8, m9, m10, m11, m12, m13, m14, m15, m16, m17, 0, 4, 0, 16]))), (a4, .inl (cI, 8, .inl (gl [o0, o1, o2, o3, (-1), (-1), (-1), (-1)]))), (a6, .inl (cI, 4000, .inl fb))] := hD
  refine lv_istore_n (lv' := [(3, .int (pfX2_holderOf_3_1_r m5 o3 fb)), (0, .ref h), (1, .int ff), (2, .int 3)]) hx hb dX2_firstFetched_18 rfl hl (by decide) rfl (fun ls hl => ?_)
  refine lv_iload_n hx hb dX2_firstFetched_19 rfl (lv_at hl 0 rfl) ?_
  refine lv_iconst (v := (-1)) hx hb dX2_firstFetched_20 (by decide) ?_
  refine lv_icmp_eq (tgt := 36) hx hb dX2_firstFetched_21 (by decide) (fun c_1 => ?_) (fun c_1 => ?_)
  · refine lv_iinc (v := 4) (lv' := [(2, .int 4), (3, .int (pfX2_holderOf_3_1_r m5 o3 fb)), (0, .ref h), (1, .int ff)]) hx hb dX2_firstFetched_36 hl (k := 3) rfl (by decide) (by decide) rfl (fun ls hl => ?_)
    refine lv_goto (tgt := 4) hx hb dX2_firstFetched_39 (by decide) ?_
    have e_ff : (LSX2_firstFetched_3_ff m5 o0 o1 o2 o3 fb ff) = (LSX2_firstFetched_4_ff m5 o0 o1 o2 o3 fb ff) := by rw [LSX2_firstFetched_3_ff, if_pos c_1]
    have hP := hP.sub (ws' := [(h, .inr (2, [.ref a0, .ref a1, .ref a2, .ref a3, .ref a4, .ref a5, .ref a6])), (a0, .inl (cI, 22, .inl (gl [m0, m1, m2, m3, m4, m5, m6, m7, m8, m9, m10, m11, m12, m13, m14, m15, m16, m17, 0, 4, 0, 16]))), (a4, .inl (cI, 8, .inl (gl [o0, o1, o2, o3, (-1), (-1), (-1), (-1)]))), (a6, .inl (cI, 4000, .inl fb))]) [0, 1, 2, 3] rfl
    have hD := hD.sub (ws' := [(h, .inr (2, [.ref a0, .ref a1, .ref a2, .ref a3, .ref a4, .ref a5, .ref a6])), (a0, .inl (cI, 22, .inl (gl [m0, m1, m2, m3, m4, m5, m6, m7, m8, m9, m10, m11, m12, m13, m14, m15, m16, m17, 0, 4, 0, 16]))), (a4, .inl (cI, 8, .inl (gl [o0, o1, o2, o3, (-1), (-1), (-1), (-1)]))), (a6, .inl (cI, 4000, .inl fb))]) [0, 1, 2, 3] (by decide) rfl
    exact LSX2_firstFetched_4 dC dI cI cB cZ cR h a0 a1 a2 a3 a4 a5 a6 m0 m1 m2 m3 m4 m5 m6 m7 m8 m9 m10 m11 m12 m13 m14 m15 m16 m17 o0 o1 o2 o3 fb ff hx hb hml hts hown hN hK hA hRf hRl hRc hRs (fun H locs ls hP hD hS hl => k42 _ _ _ (hP) (hD) hS (by rw [e_ff]; exact hl)) _ _ _ hP hD hS (lv_sub hl [2, 3, 0] rfl)
  · refine lv_iload_n hx hb dX2_firstFetched_24 rfl (lv_at hl 2 rfl) ?_
    refine lv_iconst (v := (-1)) hx hb dX2_firstFetched_25 (by decide) ?_
    refine lv_icmp_eq (tgt := 34) hx hb dX2_firstFetched_26 (by decide) (fun c_2 => ?_) (fun c_2 => ?_)
    · refine lv_iload_n hx hb dX2_firstFetched_34 rfl (lv_at hl 0 rfl) ?_
      refine lv_istore_n (lv' := [(1, .int (pfX2_holderOf_3_1_r m5 o3 fb)), (3, .int (pfX2_holderOf_3_1_r m5 o3 fb)), (0, .ref h), (2, .int 3)]) hx hb dX2_firstFetched_35 rfl hl (by decide) rfl (fun ls hl => ?_)
      refine lv_iinc (v := 4) (lv' := [(2, .int 4), (1, .int (pfX2_holderOf_3_1_r m5 o3 fb)), (3, .int (pfX2_holderOf_3_1_r m5 o3 fb)), (0, .ref h)]) hx hb dX2_firstFetched_36 hl (k := 3) rfl (by decide) (by decide) rfl (fun ls hl => ?_)
      refine lv_goto (tgt := 4) hx hb dX2_firstFetched_39 (by decide) ?_
      have e_ff : (LSX2_firstFetched_3_ff m5 o0 o1 o2 o3 fb ff) = (LSX2_firstFetched_4_ff m5 o0 o1 o2 o3 fb (pfX2_holderOf_3_1_r m5 o3 fb)) := by rw [LSX2_firstFetched_3_ff, if_neg c_1, if_pos c_2]
      have hP := hP.sub (ws' := [(h, .inr (2, [.ref a0, .ref a1, .ref a2, .ref a3, .ref a4, .ref a5, .ref a6])), (a0, .inl (cI, 22, .inl (gl [m0, m1, m2, m3, m4, m5, m6, m7, m8, m9, m10, m11, m12, m13, m14, m15, m16, m17, 0, 4, 0, 16]))), (a4, .inl (cI, 8, .inl (gl [o0, o1, o2, o3, (-1), (-1), (-1), (-1)]))), (a6, .inl (cI, 4000, .inl fb))]) [0, 1, 2, 3] rfl
      have hD := hD.sub (ws' := [(h, .inr (2, [.ref a0, .ref a1, .ref a2, .ref a3, .ref a4, .ref a5, .ref a6])), (a0, .inl (cI, 22, .inl (gl [m0, m1, m2, m3, m4, m5, m6, m7, m8, m9, m10, m11, m12, m13, m14, m15, m16, m17, 0, 4, 0, 16]))), (a4, .inl (cI, 8, .inl (gl [o0, o1, o2, o3, (-1), (-1), (-1), (-1)]))), (a6, .inl (cI, 4000, .inl fb))]) [0, 1, 2, 3] (by decide) rfl
      exact LSX2_firstFetched_4 dC dI cI cB cZ cR h a0 a1 a2 a3 a4 a5 a6 m0 m1 m2 m3 m4 m5 m6 m7 m8 m9 m10 m11 m12 m13 m14 m15 m16 m17 o0 o1 o2 o3 fb (pfX2_holderOf_3_1_r m5 o3 fb) hx hb hml hts hown hN hK hA hRf hRl hRc hRs (fun H locs ls hP hD hS hl => k42 _ _ _ (hP) (hD) hS (by rw [e_ff]; exact hl)) _ _ _ hP hD hS (lv_sub hl [3, 1, 0] rfl)
    · refine lv_iload_n hx hb dX2_firstFetched_29 rfl (lv_at hl 0 rfl) ?_
      refine lv_iload_n hx hb dX2_firstFetched_30 rfl (lv_at hl 2 rfl) ?_
      refine lv_icmp_ge (tgt := 36) hx hb dX2_firstFetched_31 (by decide) (fun c_3 => ?_) (fun c_3 => ?_)
      · refine lv_iinc (v := 4) (lv' := [(2, .int 4), (3, .int (pfX2_holderOf_3_1_r m5 o3 fb)), (0, .ref h), (1, .int ff)]) hx hb dX2_firstFetched_36 hl (k := 3) rfl (by decide) (by decide) rfl (fun ls hl => ?_)
        refine lv_goto (tgt := 4) hx hb dX2_firstFetched_39 (by decide) ?_
        have e_ff : (LSX2_firstFetched_3_ff m5 o0 o1 o2 o3 fb ff) = (LSX2_firstFetched_4_ff m5 o0 o1 o2 o3 fb ff) := by rw [LSX2_firstFetched_3_ff, if_neg c_1, if_neg c_2, if_pos c_3]
        have hP := hP.sub (ws' := [(h, .inr (2, [.ref a0, .ref a1, .ref a2, .ref a3, .ref a4, .ref a5, .ref a6])), (a0, .inl (cI, 22, .inl (gl [m0, m1, m2, m3, m4, m5, m6, m7, m8, m9, m10, m11, m12, m13, m14, m15, m16, m17, 0, 4, 0, 16]))), (a4, .inl (cI, 8, .inl (gl [o0, o1, o2, o3, (-1), (-1), (-1), (-1)]))), (a6, .inl (cI, 4000, .inl fb))]) [0, 1, 2, 3] rfl
        have hD := hD.sub (ws' := [(h, .inr (2, [.ref a0, .ref a1, .ref a2, .ref a3, .ref a4, .ref a5, .ref a6])), (a0, .inl (cI, 22, .inl (gl [m0, m1, m2, m3, m4, m5, m6, m7, m8, m9, m10, m11, m12, m13, m14, m15, m16, m17, 0, 4, 0, 16]))), (a4, .inl (cI, 8, .inl (gl [o0, o1, o2, o3, (-1), (-1), (-1), (-1)]))), (a6, .inl (cI, 4000, .inl fb))]) [0, 1, 2, 3] (by decide) rfl
        exact LSX2_firstFetched_4 dC dI cI cB cZ cR h a0 a1 a2 a3 a4 a5 a6 m0 m1 m2 m3 m4 m5 m6 m7 m8 m9 m10 m11 m12 m13 m14 m15 m16 m17 o0 o1 o2 o3 fb ff hx hb hml hts hown hN hK hA hRf hRl hRc hRs (fun H locs ls hP hD hS hl => k42 _ _ _ (hP) (hD) hS (by rw [e_ff]; exact hl)) _ _ _ hP hD hS (lv_sub hl [2, 3, 0] rfl)
      · refine lv_iload_n hx hb dX2_firstFetched_34 rfl (lv_at hl 0 rfl) ?_
        refine lv_istore_n (lv' := [(1, .int (pfX2_holderOf_3_1_r m5 o3 fb)), (3, .int (pfX2_holderOf_3_1_r m5 o3 fb)), (0, .ref h), (2, .int 3)]) hx hb dX2_firstFetched_35 rfl hl (by decide) rfl (fun ls hl => ?_)
        refine lv_iinc (v := 4) (lv' := [(2, .int 4), (1, .int (pfX2_holderOf_3_1_r m5 o3 fb)), (3, .int (pfX2_holderOf_3_1_r m5 o3 fb)), (0, .ref h)]) hx hb dX2_firstFetched_36 hl (k := 3) rfl (by decide) (by decide) rfl (fun ls hl => ?_)
        refine lv_goto (tgt := 4) hx hb dX2_firstFetched_39 (by decide) ?_
        have e_ff : (LSX2_firstFetched_3_ff m5 o0 o1 o2 o3 fb ff) = (LSX2_firstFetched_4_ff m5 o0 o1 o2 o3 fb (pfX2_holderOf_3_1_r m5 o3 fb)) := by rw [LSX2_firstFetched_3_ff, if_neg c_1, if_neg c_2, if_neg c_3]
        have hP := hP.sub (ws' := [(h, .inr (2, [.ref a0, .ref a1, .ref a2, .ref a3, .ref a4, .ref a5, .ref a6])), (a0, .inl (cI, 22, .inl (gl [m0, m1, m2, m3, m4, m5, m6, m7, m8, m9, m10, m11, m12, m13, m14, m15, m16, m17, 0, 4, 0, 16]))), (a4, .inl (cI, 8, .inl (gl [o0, o1, o2, o3, (-1), (-1), (-1), (-1)]))), (a6, .inl (cI, 4000, .inl fb))]) [0, 1, 2, 3] rfl
        have hD := hD.sub (ws' := [(h, .inr (2, [.ref a0, .ref a1, .ref a2, .ref a3, .ref a4, .ref a5, .ref a6])), (a0, .inl (cI, 22, .inl (gl [m0, m1, m2, m3, m4, m5, m6, m7, m8, m9, m10, m11, m12, m13, m14, m15, m16, m17, 0, 4, 0, 16]))), (a4, .inl (cI, 8, .inl (gl [o0, o1, o2, o3, (-1), (-1), (-1), (-1)]))), (a6, .inl (cI, 4000, .inl fb))]) [0, 1, 2, 3] (by decide) rfl
        exact LSX2_firstFetched_4 dC dI cI cB cZ cR h a0 a1 a2 a3 a4 a5 a6 m0 m1 m2 m3 m4 m5 m6 m7 m8 m9 m10 m11 m12 m13 m14 m15 m16 m17 o0 o1 o2 o3 fb (pfX2_holderOf_3_1_r m5 o3 fb) hx hb hml hts hown hN hK hA hRf hRl hRc hRs (fun H locs ls hP hD hS hl => k42 _ _ _ (hP) (hD) hS (by rw [e_ff]; exact hl)) _ _ _ hP hD hS (lv_sub hl [3, 1, 0] rfl)

def LSX2_firstFetched_2_ff (m5 : Int32) (o0 : Int32) (o1 : Int32) (o2 : Int32) (o3 : Int32) (fb : Nat → Int32) (ff : Int32) : Int32 := if (pfX2_holderOf_2_1_r m5 o2 fb) = (-1) then (LSX2_firstFetched_3_ff m5 o0 o1 o2 o3 fb ff) else (if ff = (-1) then (LSX2_firstFetched_3_ff m5 o0 o1 o2 o3 fb (pfX2_holderOf_2_1_r m5 o2 fb)) else (if ff ≤ (pfX2_holderOf_2_1_r m5 o2 fb) then (LSX2_firstFetched_3_ff m5 o0 o1 o2 o3 fb ff) else (LSX2_firstFetched_3_ff m5 o0 o1 o2 o3 fb (pfX2_holderOf_2_1_r m5 o2 fb))))
set_option maxHeartbeats 4000000 in
set_option maxRecDepth 100000 in
theorem LSX2_firstFetched_2 {p : Program} {l : Launch} {e : Env} {R : Room} {s : State} {m : MethodId} {args : Array Value} {below : List Frame} {meth : Method} {c : Code} {Q : State → Prop} {A : Nat → Prop} {cells slots : Nat} (dC : Nat → ClassId) (dI : Nat → Nat → Nat) (cI cB cZ cR : ClassId) (h : Nat) (a0 : Nat) (a1 : Nat) (a2 : Nat) (a3 : Nat) (a4 : Nat) (a5 : Nat) (a6 : Nat) (m0 : Int32) (m1 : Int32) (m2 : Int32) (m3 : Int32) (m4 : Int32) (m5 : Int32) (m6 : Int32) (m7 : Int32) (m8 : Int32) (m9 : Int32) (m10 : Int32) (m11 : Int32) (m12 : Int32) (m13 : Int32) (m14 : Int32) (m15 : Int32) (m16 : Int32) (m17 : Int32) (o0 : Int32) (o1 : Int32) (o2 : Int32) (o3 : Int32) (fb : Nat → Int32) (ff : Int32) (hx : p.tables.exec = Jvm.exec) (hb : c.code = cX2_firstFetched) (hml : c.maxLocals = 4) (hts : ∀ w ∈ (.code yX2_firstFetched cX2_firstFetched 4 (some .int) :: wsL_law), w.before args s = true) (hown : s.vm.findClass RX2 = some m.cls) (hN : zN s) (hK : va_K (dC, dI) vwCl (zT cI cB cZ cR) s) (hA : ∀ q : Nat, s.heap.size ≤ q → A q) (hRf : 2 ≤ R.frames) (hRl : 46 ≤ R.locals) (hRc : cells ≤ R.cells) (hRs : slots ≤ R.slots)
    (k42 : ∀ (H : Heap) (locs : List Loc) (ls : Array Slot), va_P (dC, dI) vwCl [(h, .inr (2, [.ref a0, .ref a1, .ref a2, .ref a3, .ref a4, .ref a5, .ref a6])), (a0, .inl (cI, 22, .inl (gl [m0, m1, m2, m3, m4, m5, m6, m7, m8, m9, m10, m11, m12, m13, m14, m15, m16, m17, 0, 4, 0, 16]))), (a4, .inl (cI, 8, .inl (gl [o0, o1, o2, o3, (-1), (-1), (-1), (-1)]))), (a6, .inl (cI, 4000, .inl fb))] H → va_D A [(h, .inr (2, [.ref a0, .ref a1, .ref a2, .ref a3, .ref a4, .ref a5, .ref a6])), (a0, .inl (cI, 22, .inl (gl [m0, m1, m2, m3, m4, m5, m6, m7, m8, m9, m10, m11, m12, m13, m14, m15, m16, m17, 0, 4, 0, 16]))), (a4, .inl (cI, 8, .inl (gl [o0, o1, o2, o3, (-1), (-1), (-1), (-1)]))), (a6, .inl (cI, 4000, .inl fb))] → va_S A s.heap H locs → lv_has ls 4 [(0, .ref h), (1, .int (LSX2_firstFetched_2_ff m5 o0 o1 o2 o3 fb ff))] → W p l e R s m args below meth c H locs cells slots Q (F0 m 42 ls []))
    : ∀ (H : Heap) (locs : List Loc) (ls : Array Slot), va_P (dC, dI) vwCl [(h, .inr (2, [.ref a0, .ref a1, .ref a2, .ref a3, .ref a4, .ref a5, .ref a6])), (a0, .inl (cI, 22, .inl (gl [m0, m1, m2, m3, m4, m5, m6, m7, m8, m9, m10, m11, m12, m13, m14, m15, m16, m17, 0, 4, 0, 16]))), (a4, .inl (cI, 8, .inl (gl [o0, o1, o2, o3, (-1), (-1), (-1), (-1)]))), (a6, .inl (cI, 4000, .inl fb))] H → va_D A [(h, .inr (2, [.ref a0, .ref a1, .ref a2, .ref a3, .ref a4, .ref a5, .ref a6])), (a0, .inl (cI, 22, .inl (gl [m0, m1, m2, m3, m4, m5, m6, m7, m8, m9, m10, m11, m12, m13, m14, m15, m16, m17, 0, 4, 0, 16]))), (a4, .inl (cI, 8, .inl (gl [o0, o1, o2, o3, (-1), (-1), (-1), (-1)]))), (a6, .inl (cI, 4000, .inl fb))] → va_S A s.heap H locs → lv_has ls 4 [(0, .ref h), (1, .int ff), (2, .int 2)] → W p l e R s m args below meth c H locs cells slots Q (F0 m 4 ls []) := by
  intro H locs ls hP hD hS hl
  refine lv_iload_n hx hb dX2_firstFetched_4 rfl (lv_at hl 2 rfl) ?_
  refine lv_aload_n hx hb dX2_firstFetched_5 rfl (lv_at hl 0 rfl) ?_
  refine zcVi (As := []) (rest := [.int 2]) (wr := [(a4, .inl (cI, 8, .inl (gl [o0, o1, o2, o3, (-1), (-1), (-1), (-1)]))), (a6, .inl (cI, 4000, .inl fb))]) ⟨hx, hb, hml, hown, hts⟩ (kkX2_places l dC dI cI cB cZ cR H.size h a0 a1 a2 a3 a4 a5 a6 m0 m1 m2 m3 m4 m5 m6 m7 m8 m9 m10 m11 m12 m13 m14 m15 m16 m17 ) (cwV 0 hts (zgV wm_259 wm_260 wm_261 wm_22 wm_262) rfl rfl rfl (by decide +kernel) ⟨Nat.le_trans (Nat.le_of_ble_eq_true rfl) hRf, Nat.le_trans (Nat.le_of_ble_eq_true rfl) hRl⟩) hN hK hP hD hS hA [0, 1] [2, 3] rfl rfl ⟨rfl, rfl⟩ (by decide) (ci := 2) rfl rfl rfl rfl hl.1 rfl (Nat.le_of_ble_eq_true rfl) dX2_firstFetched_6 ⟨hRc, hRs⟩ (fun r u hu H locs hP hD hS => ?_)
  have hu : r = 4 := hu
  subst hu
  have hP : va_P (dC, dI) vwCl [(a4, .inl (cI, 8, .inl (gl [o0, o1, o2, o3, (-1), (-1), (-1), (-1)]))), (a6, .inl (cI, 4000, .inl fb)), (h, .inr (2, [.ref a0, .ref a1, .ref a2, .ref a3, .ref a4, .ref a5, .ref a6])), (a0, .inl (cI, 22, .inl (gl [m0, m1, m2, m3, m4, m5, m6, m7, m8, m9, m10, m11, m12, m13, m14, m15, m16, m17, 0, 4, 0, 16])))] H := hP
  have hD : va_D A [(a4, .inl (cI, 8, .inl (gl [o0, o1, o2, o3, (-1), (-1), (-1), (-1)]))), (a6, .inl (cI, 4000, .inl fb)), (h, .inr (2, [.ref a0, .ref a1, .ref a2, .ref a3, .ref a4, .ref a5, .ref a6])), (a0, .inl (cI, 22, .inl (gl [m0, m1, m2, m3, m4, m5, m6, m7, m8, m9, m10, m11, m12, m13, m14, m15, m16, m17, 0, 4, 0, 16])))] := hD
  refine lv_icmp_ge (tgt := 42) hx hb dX2_firstFetched_9 (by decide) (fun c => absurd c (by decide)) (fun _ => ?_)
  refine lv_aload_n hx hb dX2_firstFetched_12 rfl (lv_at hl 0 rfl) ?_
  refine lv_iload_n hx hb dX2_firstFetched_13 rfl (lv_at hl 2 rfl) ?_
  refine lv_iconst (v := 1) hx hb dX2_firstFetched_14 (by decide) ?_
  refine zcVi (As := [.int 2, .int 1]) (rest := []) (wr := []) ⟨hx, hb, hml, hown, hts⟩ (kkX2_holderOf_2_1 l dC dI cI cB cZ cR H.size h a0 a1 a2 a3 a4 a5 a6 m0 m1 m2 m3 m4 m5 m6 m7 m8 m9 m10 m11 m12 m13 m14 m15 m16 m17 o0 o1 o2 o3 fb ) (cwV 2 hts (zgV wm_488 wm_489 wm_490 wm_22 wm_491) rfl rfl rfl (by decide +kernel) ⟨Nat.le_trans (Nat.le_of_ble_eq_true rfl) hRf, Nat.le_trans (Nat.le_of_ble_eq_true rfl) hRl⟩) hN hK hP hD hS hA [2, 3, 0, 1] [] rfl rfl ⟨rfl, rfl⟩ (by decide) (ci := 2) rfl rfl rfl rfl hl.1 rfl (Nat.le_of_ble_eq_true rfl) dX2_firstFetched_15 ⟨hRc, hRs⟩ (fun r u hu H locs hP hD hS => ?_)
  have hu : r = (pfX2_holderOf_2_1_r m5 o2 fb) := hu
  subst hu
  have hP : va_P (dC, dI) vwCl [(h, .inr (2, [.ref a0, .ref a1, .ref a2, .ref a3, .ref a4, .ref a5, .ref a6])), (a0, .inl (cI, 22, .inl (gl [m0, m1, m2, m3, m4, m5, m6, m7, m8, m9, m10, m11, m12, m13, m14, m15, m16, m17, 0, 4, 0, 16]))), (a4, .inl (cI, 8, .inl (gl [o0, o1, o2, o3, (-1), (-1), (-1), (-1)]))), (a6, .inl (cI, 4000, .inl fb))] H := hP
  have hD : va_D A [(h, .inr (2, [.ref a0, .ref a1, .ref a2, .ref a3, .ref a4, .ref a5, .ref a6])), (a0, .inl (cI, 22, .inl (gl [m0, m1, m2, m3, m4, m5, m6, m7, m8, m9, m10, m11, m12, m13, m14, m15, m16, m17, 0, 4, 0, 16]))), (a4, .inl (cI, 8, .inl (gl [o0, o1, o2, o3, (-1), (-1), (-1), (-1)]))), (a6, .inl (cI, 4000, .inl fb))] := hD
  refine lv_istore_n (lv' := [(3, .int (pfX2_holderOf_2_1_r m5 o2 fb)), (0, .ref h), (1, .int ff), (2, .int 2)]) hx hb dX2_firstFetched_18 rfl hl (by decide) rfl (fun ls hl => ?_)
  refine lv_iload_n hx hb dX2_firstFetched_19 rfl (lv_at hl 0 rfl) ?_
  refine lv_iconst (v := (-1)) hx hb dX2_firstFetched_20 (by decide) ?_
  refine lv_icmp_eq (tgt := 36) hx hb dX2_firstFetched_21 (by decide) (fun c_1 => ?_) (fun c_1 => ?_)
  · refine lv_iinc (v := 3) (lv' := [(2, .int 3), (3, .int (pfX2_holderOf_2_1_r m5 o2 fb)), (0, .ref h), (1, .int ff)]) hx hb dX2_firstFetched_36 hl (k := 3) rfl (by decide) (by decide) rfl (fun ls hl => ?_)
    refine lv_goto (tgt := 4) hx hb dX2_firstFetched_39 (by decide) ?_
    have e_ff : (LSX2_firstFetched_2_ff m5 o0 o1 o2 o3 fb ff) = (LSX2_firstFetched_3_ff m5 o0 o1 o2 o3 fb ff) := by rw [LSX2_firstFetched_2_ff, if_pos c_1]
    have hP := hP.sub (ws' := [(h, .inr (2, [.ref a0, .ref a1, .ref a2, .ref a3, .ref a4, .ref a5, .ref a6])), (a0, .inl (cI, 22, .inl (gl [m0, m1, m2, m3, m4, m5, m6, m7, m8, m9, m10, m11, m12, m13, m14, m15, m16, m17, 0, 4, 0, 16]))), (a4, .inl (cI, 8, .inl (gl [o0, o1, o2, o3, (-1), (-1), (-1), (-1)]))), (a6, .inl (cI, 4000, .inl fb))]) [0, 1, 2, 3] rfl
    have hD := hD.sub (ws' := [(h, .inr (2, [.ref a0, .ref a1, .ref a2, .ref a3, .ref a4, .ref a5, .ref a6])), (a0, .inl (cI, 22, .inl (gl [m0, m1, m2, m3, m4, m5, m6, m7, m8, m9, m10, m11, m12, m13, m14, m15, m16, m17, 0, 4, 0, 16]))), (a4, .inl (cI, 8, .inl (gl [o0, o1, o2, o3, (-1), (-1), (-1), (-1)]))), (a6, .inl (cI, 4000, .inl fb))]) [0, 1, 2, 3] (by decide) rfl
    exact LSX2_firstFetched_3 dC dI cI cB cZ cR h a0 a1 a2 a3 a4 a5 a6 m0 m1 m2 m3 m4 m5 m6 m7 m8 m9 m10 m11 m12 m13 m14 m15 m16 m17 o0 o1 o2 o3 fb ff hx hb hml hts hown hN hK hA hRf hRl hRc hRs (fun H locs ls hP hD hS hl => k42 _ _ _ (hP) (hD) hS (by rw [e_ff]; exact hl)) _ _ _ hP hD hS (lv_sub hl [2, 3, 0] rfl)
  · refine lv_iload_n hx hb dX2_firstFetched_24 rfl (lv_at hl 2 rfl) ?_
    refine lv_iconst (v := (-1)) hx hb dX2_firstFetched_25 (by decide) ?_
    refine lv_icmp_eq (tgt := 34) hx hb dX2_firstFetched_26 (by decide) (fun c_2 => ?_) (fun c_2 => ?_)
    · refine lv_iload_n hx hb dX2_firstFetched_34 rfl (lv_at hl 0 rfl) ?_
      refine lv_istore_n (lv' := [(1, .int (pfX2_holderOf_2_1_r m5 o2 fb)), (3, .int (pfX2_holderOf_2_1_r m5 o2 fb)), (0, .ref h), (2, .int 2)]) hx hb dX2_firstFetched_35 rfl hl (by decide) rfl (fun ls hl => ?_)
      refine lv_iinc (v := 3) (lv' := [(2, .int 3), (1, .int (pfX2_holderOf_2_1_r m5 o2 fb)), (3, .int (pfX2_holderOf_2_1_r m5 o2 fb)), (0, .ref h)]) hx hb dX2_firstFetched_36 hl (k := 3) rfl (by decide) (by decide) rfl (fun ls hl => ?_)
      refine lv_goto (tgt := 4) hx hb dX2_firstFetched_39 (by decide) ?_
      have e_ff : (LSX2_firstFetched_2_ff m5 o0 o1 o2 o3 fb ff) = (LSX2_firstFetched_3_ff m5 o0 o1 o2 o3 fb (pfX2_holderOf_2_1_r m5 o2 fb)) := by rw [LSX2_firstFetched_2_ff, if_neg c_1, if_pos c_2]
      have hP := hP.sub (ws' := [(h, .inr (2, [.ref a0, .ref a1, .ref a2, .ref a3, .ref a4, .ref a5, .ref a6])), (a0, .inl (cI, 22, .inl (gl [m0, m1, m2, m3, m4, m5, m6, m7, m8, m9, m10, m11, m12, m13, m14, m15, m16, m17, 0, 4, 0, 16]))), (a4, .inl (cI, 8, .inl (gl [o0, o1, o2, o3, (-1), (-1), (-1), (-1)]))), (a6, .inl (cI, 4000, .inl fb))]) [0, 1, 2, 3] rfl
      have hD := hD.sub (ws' := [(h, .inr (2, [.ref a0, .ref a1, .ref a2, .ref a3, .ref a4, .ref a5, .ref a6])), (a0, .inl (cI, 22, .inl (gl [m0, m1, m2, m3, m4, m5, m6, m7, m8, m9, m10, m11, m12, m13, m14, m15, m16, m17, 0, 4, 0, 16]))), (a4, .inl (cI, 8, .inl (gl [o0, o1, o2, o3, (-1), (-1), (-1), (-1)]))), (a6, .inl (cI, 4000, .inl fb))]) [0, 1, 2, 3] (by decide) rfl
      exact LSX2_firstFetched_3 dC dI cI cB cZ cR h a0 a1 a2 a3 a4 a5 a6 m0 m1 m2 m3 m4 m5 m6 m7 m8 m9 m10 m11 m12 m13 m14 m15 m16 m17 o0 o1 o2 o3 fb (pfX2_holderOf_2_1_r m5 o2 fb) hx hb hml hts hown hN hK hA hRf hRl hRc hRs (fun H locs ls hP hD hS hl => k42 _ _ _ (hP) (hD) hS (by rw [e_ff]; exact hl)) _ _ _ hP hD hS (lv_sub hl [3, 1, 0] rfl)
    · refine lv_iload_n hx hb dX2_firstFetched_29 rfl (lv_at hl 0 rfl) ?_
      refine lv_iload_n hx hb dX2_firstFetched_30 rfl (lv_at hl 2 rfl) ?_
      refine lv_icmp_ge (tgt := 36) hx hb dX2_firstFetched_31 (by decide) (fun c_3 => ?_) (fun c_3 => ?_)
      · refine lv_iinc (v := 3) (lv' := [(2, .int 3), (3, .int (pfX2_holderOf_2_1_r m5 o2 fb)), (0, .ref h), (1, .int ff)]) hx hb dX2_firstFetched_36 hl (k := 3) rfl (by decide) (by decide) rfl (fun ls hl => ?_)
        refine lv_goto (tgt := 4) hx hb dX2_firstFetched_39 (by decide) ?_
        have e_ff : (LSX2_firstFetched_2_ff m5 o0 o1 o2 o3 fb ff) = (LSX2_firstFetched_3_ff m5 o0 o1 o2 o3 fb ff) := by rw [LSX2_firstFetched_2_ff, if_neg c_1, if_neg c_2, if_pos c_3]
        have hP := hP.sub (ws' := [(h, .inr (2, [.ref a0, .ref a1, .ref a2, .ref a3, .ref a4, .ref a5, .ref a6])), (a0, .inl (cI, 22, .inl (gl [m0, m1, m2, m3, m4, m5, m6, m7, m8, m9, m10, m11, m12, m13, m14, m15, m16, m17, 0, 4, 0, 16]))), (a4, .inl (cI, 8, .inl (gl [o0, o1, o2, o3, (-1), (-1), (-1), (-1)]))), (a6, .inl (cI, 4000, .inl fb))]) [0, 1, 2, 3] rfl
        have hD := hD.sub (ws' := [(h, .inr (2, [.ref a0, .ref a1, .ref a2, .ref a3, .ref a4, .ref a5, .ref a6])), (a0, .inl (cI, 22, .inl (gl [m0, m1, m2, m3, m4, m5, m6, m7, m8, m9, m10, m11, m12, m13, m14, m15, m16, m17, 0, 4, 0, 16]))), (a4, .inl (cI, 8, .inl (gl [o0, o1, o2, o3, (-1), (-1), (-1), (-1)]))), (a6, .inl (cI, 4000, .inl fb))]) [0, 1, 2, 3] (by decide) rfl
        exact LSX2_firstFetched_3 dC dI cI cB cZ cR h a0 a1 a2 a3 a4 a5 a6 m0 m1 m2 m3 m4 m5 m6 m7 m8 m9 m10 m11 m12 m13 m14 m15 m16 m17 o0 o1 o2 o3 fb ff hx hb hml hts hown hN hK hA hRf hRl hRc hRs (fun H locs ls hP hD hS hl => k42 _ _ _ (hP) (hD) hS (by rw [e_ff]; exact hl)) _ _ _ hP hD hS (lv_sub hl [2, 3, 0] rfl)
      · refine lv_iload_n hx hb dX2_firstFetched_34 rfl (lv_at hl 0 rfl) ?_
        refine lv_istore_n (lv' := [(1, .int (pfX2_holderOf_2_1_r m5 o2 fb)), (3, .int (pfX2_holderOf_2_1_r m5 o2 fb)), (0, .ref h), (2, .int 2)]) hx hb dX2_firstFetched_35 rfl hl (by decide) rfl (fun ls hl => ?_)
        refine lv_iinc (v := 3) (lv' := [(2, .int 3), (1, .int (pfX2_holderOf_2_1_r m5 o2 fb)), (3, .int (pfX2_holderOf_2_1_r m5 o2 fb)), (0, .ref h)]) hx hb dX2_firstFetched_36 hl (k := 3) rfl (by decide) (by decide) rfl (fun ls hl => ?_)
        refine lv_goto (tgt := 4) hx hb dX2_firstFetched_39 (by decide) ?_
        have e_ff : (LSX2_firstFetched_2_ff m5 o0 o1 o2 o3 fb ff) = (LSX2_firstFetched_3_ff m5 o0 o1 o2 o3 fb (pfX2_holderOf_2_1_r m5 o2 fb)) := by rw [LSX2_firstFetched_2_ff, if_neg c_1, if_neg c_2, if_neg c_3]
        have hP := hP.sub (ws' := [(h, .inr (2, [.ref a0, .ref a1, .ref a2, .ref a3, .ref a4, .ref a5, .ref a6])), (a0, .inl (cI, 22, .inl (gl [m0, m1, m2, m3, m4, m5, m6, m7, m8, m9, m10, m11, m12, m13, m14, m15, m16, m17, 0, 4, 0, 16]))), (a4, .inl (cI, 8, .inl (gl [o0, o1, o2, o3, (-1), (-1), (-1), (-1)]))), (a6, .inl (cI, 4000, .inl fb))]) [0, 1, 2, 3] rfl
        have hD := hD.sub (ws' := [(h, .inr (2, [.ref a0, .ref a1, .ref a2, .ref a3, .ref a4, .ref a5, .ref a6])), (a0, .inl (cI, 22, .inl (gl [m0, m1, m2, m3, m4, m5, m6, m7, m8, m9, m10, m11, m12, m13, m14, m15, m16, m17, 0, 4, 0, 16]))), (a4, .inl (cI, 8, .inl (gl [o0, o1, o2, o3, (-1), (-1), (-1), (-1)]))), (a6, .inl (cI, 4000, .inl fb))]) [0, 1, 2, 3] (by decide) rfl
        exact LSX2_firstFetched_3 dC dI cI cB cZ cR h a0 a1 a2 a3 a4 a5 a6 m0 m1 m2 m3 m4 m5 m6 m7 m8 m9 m10 m11 m12 m13 m14 m15 m16 m17 o0 o1 o2 o3 fb (pfX2_holderOf_2_1_r m5 o2 fb) hx hb hml hts hown hN hK hA hRf hRl hRc hRs (fun H locs ls hP hD hS hl => k42 _ _ _ (hP) (hD) hS (by rw [e_ff]; exact hl)) _ _ _ hP hD hS (lv_sub hl [3, 1, 0] rfl)

def LSX2_firstFetched_1_ff (m5 : Int32) (o0 : Int32) (o1 : Int32) (o2 : Int32) (o3 : Int32) (fb : Nat → Int32) (ff : Int32) : Int32 := if (pfX2_holderOf_1_1_r m5 o1 fb) = (-1) then (LSX2_firstFetched_2_ff m5 o0 o1 o2 o3 fb ff) else (if ff = (-1) then (LSX2_firstFetched_2_ff m5 o0 o1 o2 o3 fb (pfX2_holderOf_1_1_r m5 o1 fb)) else (if ff ≤ (pfX2_holderOf_1_1_r m5 o1 fb) then (LSX2_firstFetched_2_ff m5 o0 o1 o2 o3 fb ff) else (LSX2_firstFetched_2_ff m5 o0 o1 o2 o3 fb (pfX2_holderOf_1_1_r m5 o1 fb))))
set_option maxHeartbeats 4000000 in
set_option maxRecDepth 100000 in
theorem LSX2_firstFetched_1 {p : Program} {l : Launch} {e : Env} {R : Room} {s : State} {m : MethodId} {args : Array Value} {below : List Frame} {meth : Method} {c : Code} {Q : State → Prop} {A : Nat → Prop} {cells slots : Nat} (dC : Nat → ClassId) (dI : Nat → Nat → Nat) (cI cB cZ cR : ClassId) (h : Nat) (a0 : Nat) (a1 : Nat) (a2 : Nat) (a3 : Nat) (a4 : Nat) (a5 : Nat) (a6 : Nat) (m0 : Int32) (m1 : Int32) (m2 : Int32) (m3 : Int32) (m4 : Int32) (m5 : Int32) (m6 : Int32) (m7 : Int32) (m8 : Int32) (m9 : Int32) (m10 : Int32) (m11 : Int32) (m12 : Int32) (m13 : Int32) (m14 : Int32) (m15 : Int32) (m16 : Int32) (m17 : Int32) (o0 : Int32) (o1 : Int32) (o2 : Int32) (o3 : Int32) (fb : Nat → Int32) (ff : Int32) (hx : p.tables.exec = Jvm.exec) (hb : c.code = cX2_firstFetched) (hml : c.maxLocals = 4) (hts : ∀ w ∈ (.code yX2_firstFetched cX2_firstFetched 4 (some .int) :: wsL_law), w.before args s = true) (hown : s.vm.findClass RX2 = some m.cls) (hN : zN s) (hK : va_K (dC, dI) vwCl (zT cI cB cZ cR) s) (hA : ∀ q : Nat, s.heap.size ≤ q → A q) (hRf : 2 ≤ R.frames) (hRl : 46 ≤ R.locals) (hRc : cells ≤ R.cells) (hRs : slots ≤ R.slots)
    (k42 : ∀ (H : Heap) (locs : List Loc) (ls : Array Slot), va_P (dC, dI) vwCl [(h, .inr (2, [.ref a0, .ref a1, .ref a2, .ref a3, .ref a4, .ref a5, .ref a6])), (a0, .inl (cI, 22, .inl (gl [m0, m1, m2, m3, m4, m5, m6, m7, m8, m9, m10, m11, m12, m13, m14, m15, m16, m17, 0, 4, 0, 16]))), (a4, .inl (cI, 8, .inl (gl [o0, o1, o2, o3, (-1), (-1), (-1), (-1)]))), (a6, .inl (cI, 4000, .inl fb))] H → va_D A [(h, .inr (2, [.ref a0, .ref a1, .ref a2, .ref a3, .ref a4, .ref a5, .ref a6])), (a0, .inl (cI, 22, .inl (gl [m0, m1, m2, m3, m4, m5, m6, m7, m8, m9, m10, m11, m12, m13, m14, m15, m16, m17, 0, 4, 0, 16]))), (a4, .inl (cI, 8, .inl (gl [o0, o1, o2, o3, (-1), (-1), (-1), (-1)]))), (a6, .inl (cI, 4000, .inl fb))] → va_S A s.heap H locs → lv_has ls 4 [(0, .ref h), (1, .int (LSX2_firstFetched_1_ff m5 o0 o1 o2 o3 fb ff))] → W p l e R s m args below meth c H locs cells slots Q (F0 m 42 ls []))
    : ∀ (H : Heap) (locs : List Loc) (ls : Array Slot), va_P (dC, dI) vwCl [(h, .inr (2, [.ref a0, .ref a1, .ref a2, .ref a3, .ref a4, .ref a5, .ref a6])), (a0, .inl (cI, 22, .inl (gl [m0, m1, m2, m3, m4, m5, m6, m7, m8, m9, m10, m11, m12, m13, m14, m15, m16, m17, 0, 4, 0, 16]))), (a4, .inl (cI, 8, .inl (gl [o0, o1, o2, o3, (-1), (-1), (-1), (-1)]))), (a6, .inl (cI, 4000, .inl fb))] H → va_D A [(h, .inr (2, [.ref a0, .ref a1, .ref a2, .ref a3, .ref a4, .ref a5, .ref a6])), (a0, .inl (cI, 22, .inl (gl [m0, m1, m2, m3, m4, m5, m6, m7, m8, m9, m10, m11, m12, m13, m14, m15, m16, m17, 0, 4, 0, 16]))), (a4, .inl (cI, 8, .inl (gl [o0, o1, o2, o3, (-1), (-1), (-1), (-1)]))), (a6, .inl (cI, 4000, .inl fb))] → va_S A s.heap H locs → lv_has ls 4 [(0, .ref h), (1, .int ff), (2, .int 1)] → W p l e R s m args below meth c H locs cells slots Q (F0 m 4 ls []) := by
  intro H locs ls hP hD hS hl
  refine lv_iload_n hx hb dX2_firstFetched_4 rfl (lv_at hl 2 rfl) ?_
  refine lv_aload_n hx hb dX2_firstFetched_5 rfl (lv_at hl 0 rfl) ?_
  refine zcVi (As := []) (rest := [.int 1]) (wr := [(a4, .inl (cI, 8, .inl (gl [o0, o1, o2, o3, (-1), (-1), (-1), (-1)]))), (a6, .inl (cI, 4000, .inl fb))]) ⟨hx, hb, hml, hown, hts⟩ (kkX2_places l dC dI cI cB cZ cR H.size h a0 a1 a2 a3 a4 a5 a6 m0 m1 m2 m3 m4 m5 m6 m7 m8 m9 m10 m11 m12 m13 m14 m15 m16 m17 ) (cwV 0 hts (zgV wm_259 wm_260 wm_261 wm_22 wm_262) rfl rfl rfl (by decide +kernel) ⟨Nat.le_trans (Nat.le_of_ble_eq_true rfl) hRf, Nat.le_trans (Nat.le_of_ble_eq_true rfl) hRl⟩) hN hK hP hD hS hA [0, 1] [2, 3] rfl rfl ⟨rfl, rfl⟩ (by decide) (ci := 2) rfl rfl rfl rfl hl.1 rfl (Nat.le_of_ble_eq_true rfl) dX2_firstFetched_6 ⟨hRc, hRs⟩ (fun r u hu H locs hP hD hS => ?_)
  have hu : r = 4 := hu
  subst hu
  have hP : va_P (dC, dI) vwCl [(a4, .inl (cI, 8, .inl (gl [o0, o1, o2, o3, (-1), (-1), (-1), (-1)]))), (a6, .inl (cI, 4000, .inl fb)), (h, .inr (2, [.ref a0, .ref a1, .ref a2, .ref a3, .ref a4, .ref a5, .ref a6])), (a0, .inl (cI, 22, .inl (gl [m0, m1, m2, m3, m4, m5, m6, m7, m8, m9, m10, m11, m12, m13, m14, m15, m16, m17, 0, 4, 0, 16])))] H := hP
  have hD : va_D A [(a4, .inl (cI, 8, .inl (gl [o0, o1, o2, o3, (-1), (-1), (-1), (-1)]))), (a6, .inl (cI, 4000, .inl fb)), (h, .inr (2, [.ref a0, .ref a1, .ref a2, .ref a3, .ref a4, .ref a5, .ref a6])), (a0, .inl (cI, 22, .inl (gl [m0, m1, m2, m3, m4, m5, m6, m7, m8, m9, m10, m11, m12, m13, m14, m15, m16, m17, 0, 4, 0, 16])))] := hD
  refine lv_icmp_ge (tgt := 42) hx hb dX2_firstFetched_9 (by decide) (fun c => absurd c (by decide)) (fun _ => ?_)
  refine lv_aload_n hx hb dX2_firstFetched_12 rfl (lv_at hl 0 rfl) ?_
  refine lv_iload_n hx hb dX2_firstFetched_13 rfl (lv_at hl 2 rfl) ?_
  refine lv_iconst (v := 1) hx hb dX2_firstFetched_14 (by decide) ?_
  refine zcVi (As := [.int 1, .int 1]) (rest := []) (wr := []) ⟨hx, hb, hml, hown, hts⟩ (kkX2_holderOf_1_1 l dC dI cI cB cZ cR H.size h a0 a1 a2 a3 a4 a5 a6 m0 m1 m2 m3 m4 m5 m6 m7 m8 m9 m10 m11 m12 m13 m14 m15 m16 m17 o0 o1 o2 o3 fb ) (cwV 2 hts (zgV wm_488 wm_489 wm_490 wm_22 wm_491) rfl rfl rfl (by decide +kernel) ⟨Nat.le_trans (Nat.le_of_ble_eq_true rfl) hRf, Nat.le_trans (Nat.le_of_ble_eq_true rfl) hRl⟩) hN hK hP hD hS hA [2, 3, 0, 1] [] rfl rfl ⟨rfl, rfl⟩ (by decide) (ci := 2) rfl rfl rfl rfl hl.1 rfl (Nat.le_of_ble_eq_true rfl) dX2_firstFetched_15 ⟨hRc, hRs⟩ (fun r u hu H locs hP hD hS => ?_)
  have hu : r = (pfX2_holderOf_1_1_r m5 o1 fb) := hu
  subst hu
  have hP : va_P (dC, dI) vwCl [(h, .inr (2, [.ref a0, .ref a1, .ref a2, .ref a3, .ref a4, .ref a5, .ref a6])), (a0, .inl (cI, 22, .inl (gl [m0, m1, m2, m3, m4, m5, m6, m7, m8, m9, m10, m11, m12, m13, m14, m15, m16, m17, 0, 4, 0, 16]))), (a4, .inl (cI, 8, .inl (gl [o0, o1, o2, o3, (-1), (-1), (-1), (-1)]))), (a6, .inl (cI, 4000, .inl fb))] H := hP
  have hD : va_D A [(h, .inr (2, [.ref a0, .ref a1, .ref a2, .ref a3, .ref a4, .ref a5, .ref a6])), (a0, .inl (cI, 22, .inl (gl [m0, m1, m2, m3, m4, m5, m6, m7, m8, m9, m10, m11, m12, m13, m14, m15, m16, m17, 0, 4, 0, 16]))), (a4, .inl (cI, 8, .inl (gl [o0, o1, o2, o3, (-1), (-1), (-1), (-1)]))), (a6, .inl (cI, 4000, .inl fb))] := hD
  refine lv_istore_n (lv' := [(3, .int (pfX2_holderOf_1_1_r m5 o1 fb)), (0, .ref h), (1, .int ff), (2, .int 1)]) hx hb dX2_firstFetched_18 rfl hl (by decide) rfl (fun ls hl => ?_)
  refine lv_iload_n hx hb dX2_firstFetched_19 rfl (lv_at hl 0 rfl) ?_
  refine lv_iconst (v := (-1)) hx hb dX2_firstFetched_20 (by decide) ?_
  refine lv_icmp_eq (tgt := 36) hx hb dX2_firstFetched_21 (by decide) (fun c_1 => ?_) (fun c_1 => ?_)
  · refine lv_iinc (v := 2) (lv' := [(2, .int 2), (3, .int (pfX2_holderOf_1_1_r m5 o1 fb)), (0, .ref h), (1, .int ff)]) hx hb dX2_firstFetched_36 hl (k := 3) rfl (by decide) (by decide) rfl (fun ls hl => ?_)
    refine lv_goto (tgt := 4) hx hb dX2_firstFetched_39 (by decide) ?_
    have e_ff : (LSX2_firstFetched_1_ff m5 o0 o1 o2 o3 fb ff) = (LSX2_firstFetched_2_ff m5 o0 o1 o2 o3 fb ff) := by rw [LSX2_firstFetched_1_ff, if_pos c_1]
    have hP := hP.sub (ws' := [(h, .inr (2, [.ref a0, .ref a1, .ref a2, .ref a3, .ref a4, .ref a5, .ref a6])), (a0, .inl (cI, 22, .inl (gl [m0, m1, m2, m3, m4, m5, m6, m7, m8, m9, m10, m11, m12, m13, m14, m15, m16, m17, 0, 4, 0, 16]))), (a4, .inl (cI, 8, .inl (gl [o0, o1, o2, o3, (-1), (-1), (-1), (-1)]))), (a6, .inl (cI, 4000, .inl fb))]) [0, 1, 2, 3] rfl
    have hD := hD.sub (ws' := [(h, .inr (2, [.ref a0, .ref a1, .ref a2, .ref a3, .ref a4, .ref a5, .ref a6])), (a0, .inl (cI, 22, .inl (gl [m0, m1, m2, m3, m4, m5, m6, m7, m8, m9, m10, m11, m12, m13, m14, m15, m16, m17, 0, 4, 0, 16]))), (a4, .inl (cI, 8, .inl (gl [o0, o1, o2, o3, (-1), (-1), (-1), (-1)]))), (a6, .inl (cI, 4000, .inl fb))]) [0, 1, 2, 3] (by decide) rfl
    exact LSX2_firstFetched_2 dC dI cI cB cZ cR h a0 a1 a2 a3 a4 a5 a6 m0 m1 m2 m3 m4 m5 m6 m7 m8 m9 m10 m11 m12 m13 m14 m15 m16 m17 o0 o1 o2 o3 fb ff hx hb hml hts hown hN hK hA hRf hRl hRc hRs (fun H locs ls hP hD hS hl => k42 _ _ _ (hP) (hD) hS (by rw [e_ff]; exact hl)) _ _ _ hP hD hS (lv_sub hl [2, 3, 0] rfl)
  · refine lv_iload_n hx hb dX2_firstFetched_24 rfl (lv_at hl 2 rfl) ?_
    refine lv_iconst (v := (-1)) hx hb dX2_firstFetched_25 (by decide) ?_
    refine lv_icmp_eq (tgt := 34) hx hb dX2_firstFetched_26 (by decide) (fun c_2 => ?_) (fun c_2 => ?_)
    · refine lv_iload_n hx hb dX2_firstFetched_34 rfl (lv_at hl 0 rfl) ?_
      refine lv_istore_n (lv' := [(1, .int (pfX2_holderOf_1_1_r m5 o1 fb)), (3, .int (pfX2_holderOf_1_1_r m5 o1 fb)), (0, .ref h), (2, .int 1)]) hx hb dX2_firstFetched_35 rfl hl (by decide) rfl (fun ls hl => ?_)
      refine lv_iinc (v := 2) (lv' := [(2, .int 2), (1, .int (pfX2_holderOf_1_1_r m5 o1 fb)), (3, .int (pfX2_holderOf_1_1_r m5 o1 fb)), (0, .ref h)]) hx hb dX2_firstFetched_36 hl (k := 3) rfl (by decide) (by decide) rfl (fun ls hl => ?_)
      refine lv_goto (tgt := 4) hx hb dX2_firstFetched_39 (by decide) ?_
      have e_ff : (LSX2_firstFetched_1_ff m5 o0 o1 o2 o3 fb ff) = (LSX2_firstFetched_2_ff m5 o0 o1 o2 o3 fb (pfX2_holderOf_1_1_r m5 o1 fb)) := by rw [LSX2_firstFetched_1_ff, if_neg c_1, if_pos c_2]
      have hP := hP.sub (ws' := [(h, .inr (2, [.ref a0, .ref a1, .ref a2, .ref a3, .ref a4, .ref a5, .ref a6])), (a0, .inl (cI, 22, .inl (gl [m0, m1, m2, m3, m4, m5, m6, m7, m8, m9, m10, m11, m12, m13, m14, m15, m16, m17, 0, 4, 0, 16]))), (a4, .inl (cI, 8, .inl (gl [o0, o1, o2, o3, (-1), (-1), (-1), (-1)]))), (a6, .inl (cI, 4000, .inl fb))]) [0, 1, 2, 3] rfl
      have hD := hD.sub (ws' := [(h, .inr (2, [.ref a0, .ref a1, .ref a2, .ref a3, .ref a4, .ref a5, .ref a6])), (a0, .inl (cI, 22, .inl (gl [m0, m1, m2, m3, m4, m5, m6, m7, m8, m9, m10, m11, m12, m13, m14, m15, m16, m17, 0, 4, 0, 16]))), (a4, .inl (cI, 8, .inl (gl [o0, o1, o2, o3, (-1), (-1), (-1), (-1)]))), (a6, .inl (cI, 4000, .inl fb))]) [0, 1, 2, 3] (by decide) rfl
      exact LSX2_firstFetched_2 dC dI cI cB cZ cR h a0 a1 a2 a3 a4 a5 a6 m0 m1 m2 m3 m4 m5 m6 m7 m8 m9 m10 m11 m12 m13 m14 m15 m16 m17 o0 o1 o2 o3 fb (pfX2_holderOf_1_1_r m5 o1 fb) hx hb hml hts hown hN hK hA hRf hRl hRc hRs (fun H locs ls hP hD hS hl => k42 _ _ _ (hP) (hD) hS (by rw [e_ff]; exact hl)) _ _ _ hP hD hS (lv_sub hl [3, 1, 0] rfl)
    · refine lv_iload_n hx hb dX2_firstFetched_29 rfl (lv_at hl 0 rfl) ?_
      refine lv_iload_n hx hb dX2_firstFetched_30 rfl (lv_at hl 2 rfl) ?_
      refine lv_icmp_ge (tgt := 36) hx hb dX2_firstFetched_31 (by decide) (fun c_3 => ?_) (fun c_3 => ?_)
      · refine lv_iinc (v := 2) (lv' := [(2, .int 2), (3, .int (pfX2_holderOf_1_1_r m5 o1 fb)), (0, .ref h), (1, .int ff)]) hx hb dX2_firstFetched_36 hl (k := 3) rfl (by decide) (by decide) rfl (fun ls hl => ?_)
        refine lv_goto (tgt := 4) hx hb dX2_firstFetched_39 (by decide) ?_
        have e_ff : (LSX2_firstFetched_1_ff m5 o0 o1 o2 o3 fb ff) = (LSX2_firstFetched_2_ff m5 o0 o1 o2 o3 fb ff) := by rw [LSX2_firstFetched_1_ff, if_neg c_1, if_neg c_2, if_pos c_3]
        have hP := hP.sub (ws' := [(h, .inr (2, [.ref a0, .ref a1, .ref a2, .ref a3, .ref a4, .ref a5, .ref a6])), (a0, .inl (cI, 22, .inl (gl [m0, m1, m2, m3, m4, m5, m6, m7, m8, m9, m10, m11, m12, m13, m14, m15, m16, m17, 0, 4, 0, 16]))), (a4, .inl (cI, 8, .inl (gl [o0, o1, o2, o3, (-1), (-1), (-1), (-1)]))), (a6, .inl (cI, 4000, .inl fb))]) [0, 1, 2, 3] rfl
        have hD := hD.sub (ws' := [(h, .inr (2, [.ref a0, .ref a1, .ref a2, .ref a3, .ref a4, .ref a5, .ref a6])), (a0, .inl (cI, 22, .inl (gl [m0, m1, m2, m3, m4, m5, m6, m7, m8, m9, m10, m11, m12, m13, m14, m15, m16, m17, 0, 4, 0, 16]))), (a4, .inl (cI, 8, .inl (gl [o0, o1, o2, o3, (-1), (-1), (-1), (-1)]))), (a6, .inl (cI, 4000, .inl fb))]) [0, 1, 2, 3] (by decide) rfl
        exact LSX2_firstFetched_2 dC dI cI cB cZ cR h a0 a1 a2 a3 a4 a5 a6 m0 m1 m2 m3 m4 m5 m6 m7 m8 m9 m10 m11 m12 m13 m14 m15 m16 m17 o0 o1 o2 o3 fb ff hx hb hml hts hown hN hK hA hRf hRl hRc hRs (fun H locs ls hP hD hS hl => k42 _ _ _ (hP) (hD) hS (by rw [e_ff]; exact hl)) _ _ _ hP hD hS (lv_sub hl [2, 3, 0] rfl)
      · refine lv_iload_n hx hb dX2_firstFetched_34 rfl (lv_at hl 0 rfl) ?_
        refine lv_istore_n (lv' := [(1, .int (pfX2_holderOf_1_1_r m5 o1 fb)), (3, .int (pfX2_holderOf_1_1_r m5 o1 fb)), (0, .ref h), (2, .int 1)]) hx hb dX2_firstFetched_35 rfl hl (by decide) rfl (fun ls hl => ?_)
        refine lv_iinc (v := 2) (lv' := [(2, .int 2), (1, .int (pfX2_holderOf_1_1_r m5 o1 fb)), (3, .int (pfX2_holderOf_1_1_r m5 o1 fb)), (0, .ref h)]) hx hb dX2_firstFetched_36 hl (k := 3) rfl (by decide) (by decide) rfl (fun ls hl => ?_)
        refine lv_goto (tgt := 4) hx hb dX2_firstFetched_39 (by decide) ?_
        have e_ff : (LSX2_firstFetched_1_ff m5 o0 o1 o2 o3 fb ff) = (LSX2_firstFetched_2_ff m5 o0 o1 o2 o3 fb (pfX2_holderOf_1_1_r m5 o1 fb)) := by rw [LSX2_firstFetched_1_ff, if_neg c_1, if_neg c_2, if_neg c_3]
        have hP := hP.sub (ws' := [(h, .inr (2, [.ref a0, .ref a1, .ref a2, .ref a3, .ref a4, .ref a5, .ref a6])), (a0, .inl (cI, 22, .inl (gl [m0, m1, m2, m3, m4, m5, m6, m7, m8, m9, m10, m11, m12, m13, m14, m15, m16, m17, 0, 4, 0, 16]))), (a4, .inl (cI, 8, .inl (gl [o0, o1, o2, o3, (-1), (-1), (-1), (-1)]))), (a6, .inl (cI, 4000, .inl fb))]) [0, 1, 2, 3] rfl
        have hD := hD.sub (ws' := [(h, .inr (2, [.ref a0, .ref a1, .ref a2, .ref a3, .ref a4, .ref a5, .ref a6])), (a0, .inl (cI, 22, .inl (gl [m0, m1, m2, m3, m4, m5, m6, m7, m8, m9, m10, m11, m12, m13, m14, m15, m16, m17, 0, 4, 0, 16]))), (a4, .inl (cI, 8, .inl (gl [o0, o1, o2, o3, (-1), (-1), (-1), (-1)]))), (a6, .inl (cI, 4000, .inl fb))]) [0, 1, 2, 3] (by decide) rfl
        exact LSX2_firstFetched_2 dC dI cI cB cZ cR h a0 a1 a2 a3 a4 a5 a6 m0 m1 m2 m3 m4 m5 m6 m7 m8 m9 m10 m11 m12 m13 m14 m15 m16 m17 o0 o1 o2 o3 fb (pfX2_holderOf_1_1_r m5 o1 fb) hx hb hml hts hown hN hK hA hRf hRl hRc hRs (fun H locs ls hP hD hS hl => k42 _ _ _ (hP) (hD) hS (by rw [e_ff]; exact hl)) _ _ _ hP hD hS (lv_sub hl [3, 1, 0] rfl)

def LSX2_firstFetched_0_ff (m5 : Int32) (o0 : Int32) (o1 : Int32) (o2 : Int32) (o3 : Int32) (fb : Nat → Int32) (ff : Int32) : Int32 := if (pfX2_holderOf_0_1_r m5 o0 fb) = (-1) then (LSX2_firstFetched_1_ff m5 o0 o1 o2 o3 fb ff) else (if ff = (-1) then (LSX2_firstFetched_1_ff m5 o0 o1 o2 o3 fb (pfX2_holderOf_0_1_r m5 o0 fb)) else (if ff ≤ (pfX2_holderOf_0_1_r m5 o0 fb) then (LSX2_firstFetched_1_ff m5 o0 o1 o2 o3 fb ff) else (LSX2_firstFetched_1_ff m5 o0 o1 o2 o3 fb (pfX2_holderOf_0_1_r m5 o0 fb))))
set_option maxHeartbeats 4000000 in
set_option maxRecDepth 100000 in
theorem LSX2_firstFetched_0 {p : Program} {l : Launch} {e : Env} {R : Room} {s : State} {m : MethodId} {args : Array Value} {below : List Frame} {meth : Method} {c : Code} {Q : State → Prop} {A : Nat → Prop} {cells slots : Nat} (dC : Nat → ClassId) (dI : Nat → Nat → Nat) (cI cB cZ cR : ClassId) (h : Nat) (a0 : Nat) (a1 : Nat) (a2 : Nat) (a3 : Nat) (a4 : Nat) (a5 : Nat) (a6 : Nat) (m0 : Int32) (m1 : Int32) (m2 : Int32) (m3 : Int32) (m4 : Int32) (m5 : Int32) (m6 : Int32) (m7 : Int32) (m8 : Int32) (m9 : Int32) (m10 : Int32) (m11 : Int32) (m12 : Int32) (m13 : Int32) (m14 : Int32) (m15 : Int32) (m16 : Int32) (m17 : Int32) (o0 : Int32) (o1 : Int32) (o2 : Int32) (o3 : Int32) (fb : Nat → Int32) (ff : Int32) (hx : p.tables.exec = Jvm.exec) (hb : c.code = cX2_firstFetched) (hml : c.maxLocals = 4) (hts : ∀ w ∈ (.code yX2_firstFetched cX2_firstFetched 4 (some .int) :: wsL_law), w.before args s = true) (hown : s.vm.findClass RX2 = some m.cls) (hN : zN s) (hK : va_K (dC, dI) vwCl (zT cI cB cZ cR) s) (hA : ∀ q : Nat, s.heap.size ≤ q → A q) (hRf : 2 ≤ R.frames) (hRl : 46 ≤ R.locals) (hRc : cells ≤ R.cells) (hRs : slots ≤ R.slots)
    (k42 : ∀ (H : Heap) (locs : List Loc) (ls : Array Slot), va_P (dC, dI) vwCl [(h, .inr (2, [.ref a0, .ref a1, .ref a2, .ref a3, .ref a4, .ref a5, .ref a6])), (a0, .inl (cI, 22, .inl (gl [m0, m1, m2, m3, m4, m5, m6, m7, m8, m9, m10, m11, m12, m13, m14, m15, m16, m17, 0, 4, 0, 16]))), (a4, .inl (cI, 8, .inl (gl [o0, o1, o2, o3, (-1), (-1), (-1), (-1)]))), (a6, .inl (cI, 4000, .inl fb))] H → va_D A [(h, .inr (2, [.ref a0, .ref a1, .ref a2, .ref a3, .ref a4, .ref a5, .ref a6])), (a0, .inl (cI, 22, .inl (gl [m0, m1, m2, m3, m4, m5, m6, m7, m8, m9, m10, m11, m12, m13, m14, m15, m16, m17, 0, 4, 0, 16]))), (a4, .inl (cI, 8, .inl (gl [o0, o1, o2, o3, (-1), (-1), (-1), (-1)]))), (a6, .inl (cI, 4000, .inl fb))] → va_S A s.heap H locs → lv_has ls 4 [(0, .ref h), (1, .int (LSX2_firstFetched_0_ff m5 o0 o1 o2 o3 fb ff))] → W p l e R s m args below meth c H locs cells slots Q (F0 m 42 ls []))
    : ∀ (H : Heap) (locs : List Loc) (ls : Array Slot), va_P (dC, dI) vwCl [(h, .inr (2, [.ref a0, .ref a1, .ref a2, .ref a3, .ref a4, .ref a5, .ref a6])), (a0, .inl (cI, 22, .inl (gl [m0, m1, m2, m3, m4, m5, m6, m7, m8, m9, m10, m11, m12, m13, m14, m15, m16, m17, 0, 4, 0, 16]))), (a4, .inl (cI, 8, .inl (gl [o0, o1, o2, o3, (-1), (-1), (-1), (-1)]))), (a6, .inl (cI, 4000, .inl fb))] H → va_D A [(h, .inr (2, [.ref a0, .ref a1, .ref a2, .ref a3, .ref a4, .ref a5, .ref a6])), (a0, .inl (cI, 22, .inl (gl [m0, m1, m2, m3, m4, m5, m6, m7, m8, m9, m10, m11, m12, m13, m14, m15, m16, m17, 0, 4, 0, 16]))), (a4, .inl (cI, 8, .inl (gl [o0, o1, o2, o3, (-1), (-1), (-1), (-1)]))), (a6, .inl (cI, 4000, .inl fb))] → va_S A s.heap H locs → lv_has ls 4 [(0, .ref h), (1, .int ff), (2, .int 0)] → W p l e R s m args below meth c H locs cells slots Q (F0 m 4 ls []) := by
  intro H locs ls hP hD hS hl
  refine lv_iload_n hx hb dX2_firstFetched_4 rfl (lv_at hl 2 rfl) ?_
  refine lv_aload_n hx hb dX2_firstFetched_5 rfl (lv_at hl 0 rfl) ?_
  refine zcVi (As := []) (rest := [.int 0]) (wr := [(a4, .inl (cI, 8, .inl (gl [o0, o1, o2, o3, (-1), (-1), (-1), (-1)]))), (a6, .inl (cI, 4000, .inl fb))]) ⟨hx, hb, hml, hown, hts⟩ (kkX2_places l dC dI cI cB cZ cR H.size h a0 a1 a2 a3 a4 a5 a6 m0 m1 m2 m3 m4 m5 m6 m7 m8 m9 m10 m11 m12 m13 m14 m15 m16 m17 ) (cwV 0 hts (zgV wm_259 wm_260 wm_261 wm_22 wm_262) rfl rfl rfl (by decide +kernel) ⟨Nat.le_trans (Nat.le_of_ble_eq_true rfl) hRf, Nat.le_trans (Nat.le_of_ble_eq_true rfl) hRl⟩) hN hK hP hD hS hA [0, 1] [2, 3] rfl rfl ⟨rfl, rfl⟩ (by decide) (ci := 2) rfl rfl rfl rfl hl.1 rfl (Nat.le_of_ble_eq_true rfl) dX2_firstFetched_6 ⟨hRc, hRs⟩ (fun r u hu H locs hP hD hS => ?_)
  have hu : r = 4 := hu
  subst hu
  have hP : va_P (dC, dI) vwCl [(a4, .inl (cI, 8, .inl (gl [o0, o1, o2, o3, (-1), (-1), (-1), (-1)]))), (a6, .inl (cI, 4000, .inl fb)), (h, .inr (2, [.ref a0, .ref a1, .ref a2, .ref a3, .ref a4, .ref a5, .ref a6])), (a0, .inl (cI, 22, .inl (gl [m0, m1, m2, m3, m4, m5, m6, m7, m8, m9, m10, m11, m12, m13, m14, m15, m16, m17, 0, 4, 0, 16])))] H := hP
  have hD : va_D A [(a4, .inl (cI, 8, .inl (gl [o0, o1, o2, o3, (-1), (-1), (-1), (-1)]))), (a6, .inl (cI, 4000, .inl fb)), (h, .inr (2, [.ref a0, .ref a1, .ref a2, .ref a3, .ref a4, .ref a5, .ref a6])), (a0, .inl (cI, 22, .inl (gl [m0, m1, m2, m3, m4, m5, m6, m7, m8, m9, m10, m11, m12, m13, m14, m15, m16, m17, 0, 4, 0, 16])))] := hD
  refine lv_icmp_ge (tgt := 42) hx hb dX2_firstFetched_9 (by decide) (fun c => absurd c (by decide)) (fun _ => ?_)
  refine lv_aload_n hx hb dX2_firstFetched_12 rfl (lv_at hl 0 rfl) ?_
  refine lv_iload_n hx hb dX2_firstFetched_13 rfl (lv_at hl 2 rfl) ?_
  refine lv_iconst (v := 1) hx hb dX2_firstFetched_14 (by decide) ?_
  refine zcVi (As := [.int 0, .int 1]) (rest := []) (wr := []) ⟨hx, hb, hml, hown, hts⟩ (kkX2_holderOf_0_1 l dC dI cI cB cZ cR H.size h a0 a1 a2 a3 a4 a5 a6 m0 m1 m2 m3 m4 m5 m6 m7 m8 m9 m10 m11 m12 m13 m14 m15 m16 m17 o0 o1 o2 o3 fb ) (cwV 2 hts (zgV wm_488 wm_489 wm_490 wm_22 wm_491) rfl rfl rfl (by decide +kernel) ⟨Nat.le_trans (Nat.le_of_ble_eq_true rfl) hRf, Nat.le_trans (Nat.le_of_ble_eq_true rfl) hRl⟩) hN hK hP hD hS hA [2, 3, 0, 1] [] rfl rfl ⟨rfl, rfl⟩ (by decide) (ci := 2) rfl rfl rfl rfl hl.1 rfl (Nat.le_of_ble_eq_true rfl) dX2_firstFetched_15 ⟨hRc, hRs⟩ (fun r u hu H locs hP hD hS => ?_)
  have hu : r = (pfX2_holderOf_0_1_r m5 o0 fb) := hu
  subst hu
  have hP : va_P (dC, dI) vwCl [(h, .inr (2, [.ref a0, .ref a1, .ref a2, .ref a3, .ref a4, .ref a5, .ref a6])), (a0, .inl (cI, 22, .inl (gl [m0, m1, m2, m3, m4, m5, m6, m7, m8, m9, m10, m11, m12, m13, m14, m15, m16, m17, 0, 4, 0, 16]))), (a4, .inl (cI, 8, .inl (gl [o0, o1, o2, o3, (-1), (-1), (-1), (-1)]))), (a6, .inl (cI, 4000, .inl fb))] H := hP
  have hD : va_D A [(h, .inr (2, [.ref a0, .ref a1, .ref a2, .ref a3, .ref a4, .ref a5, .ref a6])), (a0, .inl (cI, 22, .inl (gl [m0, m1, m2, m3, m4, m5, m6, m7, m8, m9, m10, m11, m12, m13, m14, m15, m16, m17, 0, 4, 0, 16]))), (a4, .inl (cI, 8, .inl (gl [o0, o1, o2, o3, (-1), (-1), (-1), (-1)]))), (a6, .inl (cI, 4000, .inl fb))] := hD
  refine lv_istore_n (lv' := [(3, .int (pfX2_holderOf_0_1_r m5 o0 fb)), (0, .ref h), (1, .int ff), (2, .int 0)]) hx hb dX2_firstFetched_18 rfl hl (by decide) rfl (fun ls hl => ?_)
  refine lv_iload_n hx hb dX2_firstFetched_19 rfl (lv_at hl 0 rfl) ?_
  refine lv_iconst (v := (-1)) hx hb dX2_firstFetched_20 (by decide) ?_
  refine lv_icmp_eq (tgt := 36) hx hb dX2_firstFetched_21 (by decide) (fun c_1 => ?_) (fun c_1 => ?_)
  · refine lv_iinc (v := 1) (lv' := [(2, .int 1), (3, .int (pfX2_holderOf_0_1_r m5 o0 fb)), (0, .ref h), (1, .int ff)]) hx hb dX2_firstFetched_36 hl (k := 3) rfl (by decide) (by decide) rfl (fun ls hl => ?_)
    refine lv_goto (tgt := 4) hx hb dX2_firstFetched_39 (by decide) ?_
    have e_ff : (LSX2_firstFetched_0_ff m5 o0 o1 o2 o3 fb ff) = (LSX2_firstFetched_1_ff m5 o0 o1 o2 o3 fb ff) := by rw [LSX2_firstFetched_0_ff, if_pos c_1]
    have hP := hP.sub (ws' := [(h, .inr (2, [.ref a0, .ref a1, .ref a2, .ref a3, .ref a4, .ref a5, .ref a6])), (a0, .inl (cI, 22, .inl (gl [m0, m1, m2, m3, m4, m5, m6, m7, m8, m9, m10, m11, m12, m13, m14, m15, m16, m17, 0, 4, 0, 16]))), (a4, .inl (cI, 8, .inl (gl [o0, o1, o2, o3, (-1), (-1), (-1), (-1)]))), (a6, .inl (cI, 4000, .inl fb))]) [0, 1, 2, 3] rfl
    have hD := hD.sub (ws' := [(h, .inr (2, [.ref a0, .ref a1, .ref a2, .ref a3, .ref a4, .ref a5, .ref a6])), (a0, .inl (cI, 22, .inl (gl [m0, m1, m2, m3, m4, m5, m6, m7, m8, m9, m10, m11, m12, m13, m14, m15, m16, m17, 0, 4, 0, 16]))), (a4, .inl (cI, 8, .inl (gl [o0, o1, o2, o3, (-1), (-1), (-1), (-1)]))), (a6, .inl (cI, 4000, .inl fb))]) [0, 1, 2, 3] (by decide) rfl
    exact LSX2_firstFetched_1 dC dI cI cB cZ cR h a0 a1 a2 a3 a4 a5 a6 m0 m1 m2 m3 m4 m5 m6 m7 m8 m9 m10 m11 m12 m13 m14 m15 m16 m17 o0 o1 o2 o3 fb ff hx hb hml hts hown hN hK hA hRf hRl hRc hRs (fun H locs ls hP hD hS hl => k42 _ _ _ (hP) (hD) hS (by rw [e_ff]; exact hl)) _ _ _ hP hD hS (lv_sub hl [2, 3, 0] rfl)
  · refine lv_iload_n hx hb dX2_firstFetched_24 rfl (lv_at hl 2 rfl) ?_
    refine lv_iconst (v := (-1)) hx hb dX2_firstFetched_25 (by decide) ?_
    refine lv_icmp_eq (tgt := 34) hx hb dX2_firstFetched_26 (by decide) (fun c_2 => ?_) (fun c_2 => ?_)
    · refine lv_iload_n hx hb dX2_firstFetched_34 rfl (lv_at hl 0 rfl) ?_
      refine lv_istore_n (lv' := [(1, .int (pfX2_holderOf_0_1_r m5 o0 fb)), (3, .int (pfX2_holderOf_0_1_r m5 o0 fb)), (0, .ref h), (2, .int 0)]) hx hb dX2_firstFetched_35 rfl hl (by decide) rfl (fun ls hl => ?_)
      refine lv_iinc (v := 1) (lv' := [(2, .int 1), (1, .int (pfX2_holderOf_0_1_r m5 o0 fb)), (3, .int (pfX2_holderOf_0_1_r m5 o0 fb)), (0, .ref h)]) hx hb dX2_firstFetched_36 hl (k := 3) rfl (by decide) (by decide) rfl (fun ls hl => ?_)
      refine lv_goto (tgt := 4) hx hb dX2_firstFetched_39 (by decide) ?_
      have e_ff : (LSX2_firstFetched_0_ff m5 o0 o1 o2 o3 fb ff) = (LSX2_firstFetched_1_ff m5 o0 o1 o2 o3 fb (pfX2_holderOf_0_1_r m5 o0 fb)) := by rw [LSX2_firstFetched_0_ff, if_neg c_1, if_pos c_2]
      have hP := hP.sub (ws' := [(h, .inr (2, [.ref a0, .ref a1, .ref a2, .ref a3, .ref a4, .ref a5, .ref a6])), (a0, .inl (cI, 22, .inl (gl [m0, m1, m2, m3, m4, m5, m6, m7, m8, m9, m10, m11, m12, m13, m14, m15, m16, m17, 0, 4, 0, 16]))), (a4, .inl (cI, 8, .inl (gl [o0, o1, o2, o3, (-1), (-1), (-1), (-1)]))), (a6, .inl (cI, 4000, .inl fb))]) [0, 1, 2, 3] rfl
      have hD := hD.sub (ws' := [(h, .inr (2, [.ref a0, .ref a1, .ref a2, .ref a3, .ref a4, .ref a5, .ref a6])), (a0, .inl (cI, 22, .inl (gl [m0, m1, m2, m3, m4, m5, m6, m7, m8, m9, m10, m11, m12, m13, m14, m15, m16, m17, 0, 4, 0, 16]))), (a4, .inl (cI, 8, .inl (gl [o0, o1, o2, o3, (-1), (-1), (-1), (-1)]))), (a6, .inl (cI, 4000, .inl fb))]) [0, 1, 2, 3] (by decide) rfl
      exact LSX2_firstFetched_1 dC dI cI cB cZ cR h a0 a1 a2 a3 a4 a5 a6 m0 m1 m2 m3 m4 m5 m6 m7 m8 m9 m10 m11 m12 m13 m14 m15 m16 m17 o0 o1 o2 o3 fb (pfX2_holderOf_0_1_r m5 o0 fb) hx hb hml hts hown hN hK hA hRf hRl hRc hRs (fun H locs ls hP hD hS hl => k42 _ _ _ (hP) (hD) hS (by rw [e_ff]; exact hl)) _ _ _ hP hD hS (lv_sub hl [3, 1, 0] rfl)
    · refine lv_iload_n hx hb dX2_firstFetched_29 rfl (lv_at hl 0 rfl) ?_
      refine lv_iload_n hx hb dX2_firstFetched_30 rfl (lv_at hl 2 rfl) ?_
      refine lv_icmp_ge (tgt := 36) hx hb dX2_firstFetched_31 (by decide) (fun c_3 => ?_) (fun c_3 => ?_)
      · refine lv_iinc (v := 1) (lv' := [(2, .int 1), (3, .int (pfX2_holderOf_0_1_r m5 o0 fb)), (0, .ref h), (1, .int ff)]) hx hb dX2_firstFetched_36 hl (k := 3) rfl (by decide) (by decide) rfl (fun ls hl => ?_)
        refine lv_goto (tgt := 4) hx hb dX2_firstFetched_39 (by decide) ?_
        have e_ff : (LSX2_firstFetched_0_ff m5 o0 o1 o2 o3 fb ff) = (LSX2_firstFetched_1_ff m5 o0 o1 o2 o3 fb ff) := by rw [LSX2_firstFetched_0_ff, if_neg c_1, if_neg c_2, if_pos c_3]
        have hP := hP.sub (ws' := [(h, .inr (2, [.ref a0, .ref a1, .ref a2, .ref a3, .ref a4, .ref a5, .ref a6])), (a0, .inl (cI, 22, .inl (gl [m0, m1, m2, m3, m4, m5, m6, m7, m8, m9, m10, m11, m12, m13, m14, m15, m16, m17, 0, 4, 0, 16]))), (a4, .inl (cI, 8, .inl (gl [o0, o1, o2, o3, (-1), (-1), (-1), (-1)]))), (a6, .inl (cI, 4000, .inl fb))]) [0, 1, 2, 3] rfl
        have hD := hD.sub (ws' := [(h, .inr (2, [.ref a0, .ref a1, .ref a2, .ref a3, .ref a4, .ref a5, .ref a6])), (a0, .inl (cI, 22, .inl (gl [m0, m1, m2, m3, m4, m5, m6, m7, m8, m9, m10, m11, m12, m13, m14, m15, m16, m17, 0, 4, 0, 16]))), (a4, .inl (cI, 8, .inl (gl [o0, o1, o2, o3, (-1), (-1), (-1), (-1)]))), (a6, .inl (cI, 4000, .inl fb))]) [0, 1, 2, 3] (by decide) rfl
        exact LSX2_firstFetched_1 dC dI cI cB cZ cR h a0 a1 a2 a3 a4 a5 a6 m0 m1 m2 m3 m4 m5 m6 m7 m8 m9 m10 m11 m12 m13 m14 m15 m16 m17 o0 o1 o2 o3 fb ff hx hb hml hts hown hN hK hA hRf hRl hRc hRs (fun H locs ls hP hD hS hl => k42 _ _ _ (hP) (hD) hS (by rw [e_ff]; exact hl)) _ _ _ hP hD hS (lv_sub hl [2, 3, 0] rfl)
      · refine lv_iload_n hx hb dX2_firstFetched_34 rfl (lv_at hl 0 rfl) ?_
        refine lv_istore_n (lv' := [(1, .int (pfX2_holderOf_0_1_r m5 o0 fb)), (3, .int (pfX2_holderOf_0_1_r m5 o0 fb)), (0, .ref h), (2, .int 0)]) hx hb dX2_firstFetched_35 rfl hl (by decide) rfl (fun ls hl => ?_)
        refine lv_iinc (v := 1) (lv' := [(2, .int 1), (1, .int (pfX2_holderOf_0_1_r m5 o0 fb)), (3, .int (pfX2_holderOf_0_1_r m5 o0 fb)), (0, .ref h)]) hx hb dX2_firstFetched_36 hl (k := 3) rfl (by decide) (by decide) rfl (fun ls hl => ?_)
        refine lv_goto (tgt := 4) hx hb dX2_firstFetched_39 (by decide) ?_
        have e_ff : (LSX2_firstFetched_0_ff m5 o0 o1 o2 o3 fb ff) = (LSX2_firstFetched_1_ff m5 o0 o1 o2 o3 fb (pfX2_holderOf_0_1_r m5 o0 fb)) := by rw [LSX2_firstFetched_0_ff, if_neg c_1, if_neg c_2, if_neg c_3]
        have hP := hP.sub (ws' := [(h, .inr (2, [.ref a0, .ref a1, .ref a2, .ref a3, .ref a4, .ref a5, .ref a6])), (a0, .inl (cI, 22, .inl (gl [m0, m1, m2, m3, m4, m5, m6, m7, m8, m9, m10, m11, m12, m13, m14, m15, m16, m17, 0, 4, 0, 16]))), (a4, .inl (cI, 8, .inl (gl [o0, o1, o2, o3, (-1), (-1), (-1), (-1)]))), (a6, .inl (cI, 4000, .inl fb))]) [0, 1, 2, 3] rfl
        have hD := hD.sub (ws' := [(h, .inr (2, [.ref a0, .ref a1, .ref a2, .ref a3, .ref a4, .ref a5, .ref a6])), (a0, .inl (cI, 22, .inl (gl [m0, m1, m2, m3, m4, m5, m6, m7, m8, m9, m10, m11, m12, m13, m14, m15, m16, m17, 0, 4, 0, 16]))), (a4, .inl (cI, 8, .inl (gl [o0, o1, o2, o3, (-1), (-1), (-1), (-1)]))), (a6, .inl (cI, 4000, .inl fb))]) [0, 1, 2, 3] (by decide) rfl
        exact LSX2_firstFetched_1 dC dI cI cB cZ cR h a0 a1 a2 a3 a4 a5 a6 m0 m1 m2 m3 m4 m5 m6 m7 m8 m9 m10 m11 m12 m13 m14 m15 m16 m17 o0 o1 o2 o3 fb (pfX2_holderOf_0_1_r m5 o0 fb) hx hb hml hts hown hN hK hA hRf hRl hRc hRs (fun H locs ls hP hD hS hl => k42 _ _ _ (hP) (hD) hS (by rw [e_ff]; exact hl)) _ _ _ hP hD hS (lv_sub hl [3, 1, 0] rfl)

set_option maxHeartbeats 4000000 in
set_option maxRecDepth 100000 in
theorem kkX2_firstFetched (l : Launch) (dC : Nat → ClassId) (dI : Nat → Nat → Nat) (cI cB cZ cR : ClassId) (sz : Nat) (h : Nat) (a0 : Nat) (a1 : Nat) (a2 : Nat) (a3 : Nat) (a4 : Nat) (a5 : Nat) (a6 : Nat) (m0 : Int32) (m1 : Int32) (m2 : Int32) (m3 : Int32) (m4 : Int32) (m5 : Int32) (m6 : Int32) (m7 : Int32) (m8 : Int32) (m9 : Int32) (m10 : Int32) (m11 : Int32) (m12 : Int32) (m13 : Int32) (m14 : Int32) (m15 : Int32) (m16 : Int32) (m17 : Int32) (o0 : Int32) (o1 : Int32) (o2 : Int32) (o3 : Int32) (fb : Nat → Int32) : Met l yX2_firstFetched (.code yX2_firstFetched cX2_firstFetched 4 (some .int) :: wsL_law) ({ frames := 2, cells := 0, slots := 0, locals := 46 }) (zPc dC dI (zT cI cB cZ cR) [.ref h] sz [(h, .inr (2, [.ref a0, .ref a1, .ref a2, .ref a3, .ref a4, .ref a5, .ref a6])), (a0, .inl (cI, 22, .inl (gl [m0, m1, m2, m3, m4, m5, m6, m7, m8, m9, m10, m11, m12, m13, m14, m15, m16, m17, 0, 4, 0, 16]))), (a4, .inl (cI, 8, .inl (gl [o0, o1, o2, o3, (-1), (-1), (-1), (-1)]))), (a6, .inl (cI, 4000, .inl fb))]) (va_Qi (fun (r : Int32) (_ : Unit) => r = (LSX2_firstFetched_0_ff m5 o0 o1 o2 o3 fb (-1))) (fun _ : Unit => zB dC dI (zT cI cB cZ cR) (va_A [(h, .inr (2, [.ref a0, .ref a1, .ref a2, .ref a3, .ref a4, .ref a5, .ref a6])), (a0, .inl (cI, 22, .inl (gl [m0, m1, m2, m3, m4, m5, m6, m7, m8, m9, m10, m11, m12, m13, m14, m15, m16, m17, 0, 4, 0, 16]))), (a4, .inl (cI, 8, .inl (gl [o0, o1, o2, o3, (-1), (-1), (-1), (-1)]))), (a6, .inl (cI, 4000, .inl fb))] sz) [(h, .inr (2, [.ref a0, .ref a1, .ref a2, .ref a3, .ref a4, .ref a5, .ref a6])), (a0, .inl (cI, 22, .inl (gl [m0, m1, m2, m3, m4, m5, m6, m7, m8, m9, m10, m11, m12, m13, m14, m15, m16, m17, 0, 4, 0, 16]))), (a4, .inl (cI, 8, .inl (gl [o0, o1, o2, o3, (-1), (-1), (-1), (-1)]))), (a6, .inl (cI, 4000, .inl fb))]) (va_A [(h, .inr (2, [.ref a0, .ref a1, .ref a2, .ref a3, .ref a4, .ref a5, .ref a6])), (a0, .inl (cI, 22, .inl (gl [m0, m1, m2, m3, m4, m5, m6, m7, m8, m9, m10, m11, m12, m13, m14, m15, m16, m17, 0, 4, 0, 16]))), (a4, .inl (cI, 8, .inl (gl [o0, o1, o2, o3, (-1), (-1), (-1), (-1)]))), (a6, .inl (cI, 4000, .inl fb))] sz)) 0 0 (va_A [(h, .inr (2, [.ref a0, .ref a1, .ref a2, .ref a3, .ref a4, .ref a5, .ref a6])), (a0, .inl (cI, 22, .inl (gl [m0, m1, m2, m3, m4, m5, m6, m7, m8, m9, m10, m11, m12, m13, m14, m15, m16, m17, 0, 4, 0, 16]))), (a4, .inl (cI, 8, .inl (gl [o0, o1, o2, o3, (-1), (-1), (-1), (-1)]))), (a6, .inl (cI, 4000, .inl fb))] sz) := by
  refine Met.ofW (cc := cX2_firstFetched) (maxL := 4) (ret := (some .int)) (by decide) rfl ?_
  intro p e s m args below meth c s₁ B hml hv
  obtain ⟨rfl, hsz, hP, hK, hD0, hN⟩ := hv
  have hx := B.exec
  have hb := B.bytes
  have hr := B.returns
  have hts := atoms_spec (ws := (.code yX2_firstFetched cX2_firstFetched 4 (some .int) :: wsL_law)) B.pre
  have hown : s.vm.findClass RX2 = some m.cls := findClass_of_methodNamed B.named
  have hlocks := B.notSynchronized
  subst hsz
  have hD := hD0.self (sz := s.heap.size)
  generalize hAe : va_A [(h, .inr (2, [.ref a0, .ref a1, .ref a2, .ref a3, .ref a4, .ref a5, .ref a6])), (a0, .inl (cI, 22, .inl (gl [m0, m1, m2, m3, m4, m5, m6, m7, m8, m9, m10, m11, m12, m13, m14, m15, m16, m17, 0, 4, 0, 16]))), (a4, .inl (cI, 8, .inl (gl [o0, o1, o2, o3, (-1), (-1), (-1), (-1)]))), (a6, .inl (cI, 4000, .inl fb))] s.heap.size = A at hD ⊢
  have hA : ∀ q : Nat, s.heap.size ≤ q → A q := fun q h => by rw [← hAe]; exact Or.inr h
  have hP : va_P (dC, dI) vwCl [(h, .inr (2, [.ref a0, .ref a1, .ref a2, .ref a3, .ref a4, .ref a5, .ref a6])), (a0, .inl (cI, 22, .inl (gl [m0, m1, m2, m3, m4, m5, m6, m7, m8, m9, m10, m11, m12, m13, m14, m15, m16, m17, 0, 4, 0, 16]))), (a4, .inl (cI, 8, .inl (gl [o0, o1, o2, o3, (-1), (-1), (-1), (-1)]))), (a6, .inl (cI, 4000, .inl fb))] s.heap := hP
  have hl := lv_entry ([.ref h]) (n := 4) (Nat.le_of_ble_eq_true rfl)
  rw [lg_entry_eq]
  generalize (lg_sl ([.ref h]) ++ List.replicate (4 - (lg_sl ([.ref h])).length) Slot.unset).toArray = ls at hl ⊢
  have hl : lv_has ls 4 [(0, .ref h)] := hl
  obtain ⟨H, hH⟩ : ∃ H, H = s.heap := ⟨_, rfl⟩
  rw [← hH] at hP ⊢
  have hS : va_S A s.heap H [] := by rw [hH]; exact va_S.rf
  refine lv_iconst (v := (-1)) hx hb dX2_firstFetched_0 (by decide) ?_
  refine lv_istore_n (lv' := [(1, .int (-1)), (0, .ref h)]) hx hb dX2_firstFetched_1 rfl hl (by decide) rfl (fun ls hl => ?_)
  refine lv_iconst (v := 0) hx hb dX2_firstFetched_2 (by decide) ?_
  refine lv_istore_n (lv' := [(2, .int 0), (1, .int (-1)), (0, .ref h)]) hx hb dX2_firstFetched_3 rfl hl (by decide) rfl (fun ls hl => ?_)
  have hP := hP.sub (ws' := [(h, .inr (2, [.ref a0, .ref a1, .ref a2, .ref a3, .ref a4, .ref a5, .ref a6])), (a0, .inl (cI, 22, .inl (gl [m0, m1, m2, m3, m4, m5, m6, m7, m8, m9, m10, m11, m12, m13, m14, m15, m16, m17, 0, 4, 0, 16]))), (a4, .inl (cI, 8, .inl (gl [o0, o1, o2, o3, (-1), (-1), (-1), (-1)]))), (a6, .inl (cI, 4000, .inl fb))]) [0, 1, 2, 3] rfl
  have hD := hD.sub (ws' := [(h, .inr (2, [.ref a0, .ref a1, .ref a2, .ref a3, .ref a4, .ref a5, .ref a6])), (a0, .inl (cI, 22, .inl (gl [m0, m1, m2, m3, m4, m5, m6, m7, m8, m9, m10, m11, m12, m13, m14, m15, m16, m17, 0, 4, 0, 16]))), (a4, .inl (cI, 8, .inl (gl [o0, o1, o2, o3, (-1), (-1), (-1), (-1)]))), (a6, .inl (cI, 4000, .inl fb))]) [0, 1, 2, 3] (by decide) rfl
  refine LSX2_firstFetched_0 dC dI cI cB cZ cR h a0 a1 a2 a3 a4 a5 a6 m0 m1 m2 m3 m4 m5 m6 m7 m8 m9 m10 m11 m12 m13 m14 m15 m16 m17 o0 o1 o2 o3 fb (-1) hx hb hml hts hown hN hK hA (Nat.le_of_ble_eq_true rfl) (Nat.le_of_ble_eq_true rfl) (Nat.le_of_ble_eq_true rfl) (Nat.le_of_ble_eq_true rfl) ?_ _ _ _ hP hD hS (lv_sub hl [2, 1, 0] rfl)
  intro H locs ls hP hD hS hl
  have hP : va_P (dC, dI) vwCl [(h, .inr (2, [.ref a0, .ref a1, .ref a2, .ref a3, .ref a4, .ref a5, .ref a6])), (a0, .inl (cI, 22, .inl (gl [m0, m1, m2, m3, m4, m5, m6, m7, m8, m9, m10, m11, m12, m13, m14, m15, m16, m17, 0, 4, 0, 16]))), (a4, .inl (cI, 8, .inl (gl [o0, o1, o2, o3, (-1), (-1), (-1), (-1)]))), (a6, .inl (cI, 4000, .inl fb))] H := hP
  have hD : va_D A [(h, .inr (2, [.ref a0, .ref a1, .ref a2, .ref a3, .ref a4, .ref a5, .ref a6])), (a0, .inl (cI, 22, .inl (gl [m0, m1, m2, m3, m4, m5, m6, m7, m8, m9, m10, m11, m12, m13, m14, m15, m16, m17, 0, 4, 0, 16]))), (a4, .inl (cI, 8, .inl (gl [o0, o1, o2, o3, (-1), (-1), (-1), (-1)]))), (a6, .inl (cI, 4000, .inl fb))] := hD
  refine lv_iload_n hx hb dX2_firstFetched_42 rfl (lv_at hl 1 rfl) ?_
  have hP9 := hP.sub (ws' := [(h, .inr (2, [.ref a0, .ref a1, .ref a2, .ref a3, .ref a4, .ref a5, .ref a6])), (a0, .inl (cI, 22, .inl (gl [m0, m1, m2, m3, m4, m5, m6, m7, m8, m9, m10, m11, m12, m13, m14, m15, m16, m17, 0, 4, 0, 16]))), (a4, .inl (cI, 8, .inl (gl [o0, o1, o2, o3, (-1), (-1), (-1), (-1)]))), (a6, .inl (cI, 4000, .inl fb))]) [0, 1, 2, 3] rfl
  have hD9 := hD.sub (ws' := [(h, .inr (2, [.ref a0, .ref a1, .ref a2, .ref a3, .ref a4, .ref a5, .ref a6])), (a0, .inl (cI, 22, .inl (gl [m0, m1, m2, m3, m4, m5, m6, m7, m8, m9, m10, m11, m12, m13, m14, m15, m16, m17, 0, 4, 0, 16]))), (a4, .inl (cI, 8, .inl (gl [o0, o1, o2, o3, (-1), (-1), (-1), (-1)]))), (a6, .inl (cI, 4000, .inl fb))]) [0, 1, 2, 3] (by decide) rfl
  exact W.iret (v := (LSX2_firstFetched_0_ff m5 o0 o1 o2 o3 fb (-1))) hx hb hr (fun t ht hW => ⟨⟨(LSX2_firstFetched_0_ff m5 o0 o1 o2 o3 fb (-1)), (), rfl, rfl, by rw [ht]; exact hP9, va_K.moved hW.alike hK, hD9⟩, hS.F ht⟩) hS.2.2 dX2_firstFetched_43

def LSX2_moveUsed_4_m2 (m5 : Int32) (o0 : Int32) (o1 : Int32) (o2 : Int32) (o3 : Int32) (p1 : Int32) (m2 : Int32) (fb : Nat → Int32) (fi : Int32) : Int32 := m2
def LSX2_moveUsed_4_fb (m5 : Int32) (o0 : Int32) (o1 : Int32) (o2 : Int32) (o3 : Int32) (p1 : Int32) (m2 : Int32) (fb : Nat → Int32) (fi : Int32) : Nat → Int32 := fb
def LSX2_moveUsed_4_fi (m5 : Int32) (o0 : Int32) (o1 : Int32) (o2 : Int32) (o3 : Int32) (p1 : Int32) (m2 : Int32) (fb : Nat → Int32) (fi : Int32) : Int32 := fi
set_option maxHeartbeats 4000000 in
set_option maxRecDepth 100000 in
theorem LSX2_moveUsed_4 {p : Program} {l : Launch} {e : Env} {R : Room} {s : State} {m : MethodId} {args : Array Value} {below : List Frame} {meth : Method} {c : Code} {Q : State → Prop} {A : Nat → Prop} {cells slots : Nat} (dC : Nat → ClassId) (dI : Nat → Nat → Nat) (cI cB cZ cR : ClassId) (h : Nat) (a0 : Nat) (a1 : Nat) (a2 : Nat) (a3 : Nat) (a4 : Nat) (a5 : Nat) (a6 : Nat) (m0 : Int32) (m1 : Int32) (m3 : Int32) (m4 : Int32) (m5 : Int32) (m6 : Int32) (m7 : Int32) (m8 : Int32) (m9 : Int32) (m10 : Int32) (m11 : Int32) (m12 : Int32) (m13 : Int32) (m14 : Int32) (m15 : Int32) (m16 : Int32) (m17 : Int32) (o0 : Int32) (o1 : Int32) (o2 : Int32) (o3 : Int32) (p1 : Int32) (m2 : Int32) (fb : Nat → Int32) (fi : Int32) (hx : p.tables.exec = Jvm.exec) (hb : c.code = cX2_moveUsed) (hml : c.maxLocals = 6) (hts : ∀ w ∈ (.code yX2_moveUsed cX2_moveUsed 6 (some .int) :: wsL_law), w.before args s = true) (hown : s.vm.findClass RX2 = some m.cls) (hN : zN s) (hK : va_K (dC, dI) vwCl (zT cI cB cZ cR) s) (hA : ∀ q : Nat, s.heap.size ≤ q → A q) (hRf : 2 ≤ R.frames) (hRl : 46 ≤ R.locals) (hRc : cells ≤ R.cells) (hRs : slots ≤ R.slots)
    (k87 : ∀ (H : Heap) (locs : List Loc) (ls : Array Slot), va_P (dC, dI) vwCl [(h, .inr (2, [.ref a0, .ref a1, .ref a2, .ref a3, .ref a4, .ref a5, .ref a6])), (a0, .inl (cI, 22, .inl (gl [m0, m1, (LSX2_moveUsed_4_m2 m5 o0 o1 o2 o3 p1 m2 fb fi), m3, m4, m5, m6, m7, m8, m9, m10, m11, m12, m13, m14, m15, m16, m17, 0, 4, 0, 16]))), (a4, .inl (cI, 8, .inl (gl [o0, o1, o2, o3, (-1), (-1), (-1), (-1)]))), (a6, .inl (cI, 4000, .inl (LSX2_moveUsed_4_fb m5 o0 o1 o2 o3 p1 m2 fb fi)))] H → va_D A [(h, .inr (2, [.ref a0, .ref a1, .ref a2, .ref a3, .ref a4, .ref a5, .ref a6])), (a0, .inl (cI, 22, .inl (gl [m0, m1, (LSX2_moveUsed_4_m2 m5 o0 o1 o2 o3 p1 m2 fb fi), m3, m4, m5, m6, m7, m8, m9, m10, m11, m12, m13, m14, m15, m16, m17, 0, 4, 0, 16]))), (a4, .inl (cI, 8, .inl (gl [o0, o1, o2, o3, (-1), (-1), (-1), (-1)]))), (a6, .inl (cI, 4000, .inl (LSX2_moveUsed_4_fb m5 o0 o1 o2 o3 p1 m2 fb fi)))] → va_S A s.heap H locs → lv_has ls 6 [(0, .ref h), (3, .int (LSX2_moveUsed_4_fi m5 o0 o1 o2 o3 p1 m2 fb fi))] → W p l e R s m args below meth c H locs cells slots Q (F0 m 87 ls []))
    : ∀ (H : Heap) (locs : List Loc) (ls : Array Slot), va_P (dC, dI) vwCl [(h, .inr (2, [.ref a0, .ref a1, .ref a2, .ref a3, .ref a4, .ref a5, .ref a6])), (a0, .inl (cI, 22, .inl (gl [m0, m1, m2, m3, m4, m5, m6, m7, m8, m9, m10, m11, m12, m13, m14, m15, m16, m17, 0, 4, 0, 16]))), (a4, .inl (cI, 8, .inl (gl [o0, o1, o2, o3, (-1), (-1), (-1), (-1)]))), (a6, .inl (cI, 4000, .inl fb))] H → va_D A [(h, .inr (2, [.ref a0, .ref a1, .ref a2, .ref a3, .ref a4, .ref a5, .ref a6])), (a0, .inl (cI, 22, .inl (gl [m0, m1, m2, m3, m4, m5, m6, m7, m8, m9, m10, m11, m12, m13, m14, m15, m16, m17, 0, 4, 0, 16]))), (a4, .inl (cI, 8, .inl (gl [o0, o1, o2, o3, (-1), (-1), (-1), (-1)]))), (a6, .inl (cI, 4000, .inl fb))] → va_S A s.heap H locs → lv_has ls 6 [(0, .ref h), (1, .int p1), (2, .int 0), (3, .int fi), (4, .int 4)] → W p l e R s m args below meth c H locs cells slots Q (F0 m 5 ls []) := by
  intro H locs ls hP hD hS hl
  refine lv_iload hx hb dX2_moveUsed_5 (lv_at hl 4 rfl) ?_
  refine lv_aload_n hx hb dX2_moveUsed_7 rfl (lv_at hl 0 rfl) ?_
  refine zcVi (As := []) (rest := [.int 4]) (wr := [(a4, .inl (cI, 8, .inl (gl [o0, o1, o2, o3, (-1), (-1), (-1), (-1)]))), (a6, .inl (cI, 4000, .inl fb))]) ⟨hx, hb, hml, hown, hts⟩ (kkX2_places l dC dI cI cB cZ cR H.size h a0 a1 a2 a3 a4 a5 a6 m0 m1 m2 m3 m4 m5 m6 m7 m8 m9 m10 m11 m12 m13 m14 m15 m16 m17 ) (cwV 0 hts (zgV wm_259 wm_260 wm_261 wm_22 wm_262) rfl rfl rfl (by decide +kernel) ⟨Nat.le_trans (Nat.le_of_ble_eq_true rfl) hRf, Nat.le_trans (Nat.le_of_ble_eq_true rfl) hRl⟩) hN hK hP hD hS hA [0, 1] [2, 3] rfl rfl ⟨rfl, rfl⟩ (by decide) (ci := 2) rfl rfl rfl rfl hl.1 rfl (Nat.le_of_ble_eq_true rfl) dX2_moveUsed_8 ⟨hRc, hRs⟩ (fun r u hu H locs hP hD hS => ?_)
  have hu : r = 4 := hu
  subst hu
  have hP : va_P (dC, dI) vwCl [(a4, .inl (cI, 8, .inl (gl [o0, o1, o2, o3, (-1), (-1), (-1), (-1)]))), (a6, .inl (cI, 4000, .inl fb)), (h, .inr (2, [.ref a0, .ref a1, .ref a2, .ref a3, .ref a4, .ref a5, .ref a6])), (a0, .inl (cI, 22, .inl (gl [m0, m1, m2, m3, m4, m5, m6, m7, m8, m9, m10, m11, m12, m13, m14, m15, m16, m17, 0, 4, 0, 16])))] H := hP
  have hD : va_D A [(a4, .inl (cI, 8, .inl (gl [o0, o1, o2, o3, (-1), (-1), (-1), (-1)]))), (a6, .inl (cI, 4000, .inl fb)), (h, .inr (2, [.ref a0, .ref a1, .ref a2, .ref a3, .ref a4, .ref a5, .ref a6])), (a0, .inl (cI, 22, .inl (gl [m0, m1, m2, m3, m4, m5, m6, m7, m8, m9, m10, m11, m12, m13, m14, m15, m16, m17, 0, 4, 0, 16])))] := hD
  refine lv_icmp_ge (tgt := 87) hx hb dX2_moveUsed_11 (by decide) (fun _ => ?_) (fun c => absurd (by decide) c)
  have e_m2 : (LSX2_moveUsed_4_m2 m5 o0 o1 o2 o3 p1 m2 fb fi) = m2 := by rw [LSX2_moveUsed_4_m2]
  have e_fb : (LSX2_moveUsed_4_fb m5 o0 o1 o2 o3 p1 m2 fb fi) = fb := by rw [LSX2_moveUsed_4_fb]
  have e_fi : (LSX2_moveUsed_4_fi m5 o0 o1 o2 o3 p1 m2 fb fi) = fi := by rw [LSX2_moveUsed_4_fi]
  have hP := hP.sub (ws' := [(h, .inr (2, [.ref a0, .ref a1, .ref a2, .ref a3, .ref a4, .ref a5, .ref a6])), (a0, .inl (cI, 22, .inl (gl [m0, m1, m2, m3, m4, m5, m6, m7, m8, m9, m10, m11, m12, m13, m14, m15, m16, m17, 0, 4, 0, 16]))), (a4, .inl (cI, 8, .inl (gl [o0, o1, o2, o3, (-1), (-1), (-1), (-1)]))), (a6, .inl (cI, 4000, .inl fb))]) [2, 3, 0, 1] rfl
  have hD := hD.sub (ws' := [(h, .inr (2, [.ref a0, .ref a1, .ref a2, .ref a3, .ref a4, .ref a5, .ref a6])), (a0, .inl (cI, 22, .inl (gl [m0, m1, m2, m3, m4, m5, m6, m7, m8, m9, m10, m11, m12, m13, m14, m15, m16, m17, 0, 4, 0, 16]))), (a4, .inl (cI, 8, .inl (gl [o0, o1, o2, o3, (-1), (-1), (-1), (-1)]))), (a6, .inl (cI, 4000, .inl fb))]) [2, 3, 0, 1] (by decide) rfl
  exact k87 _ _ _ (by rw [e_m2, e_fb]; exact hP) (by rw [e_m2, e_fb]; exact hD) hS (by rw [e_fi]; exact (lv_sub hl [0, 3] rfl))

def LSX2_moveUsed_3_m2 (m5 : Int32) (o0 : Int32) (o1 : Int32) (o2 : Int32) (o3 : Int32) (p1 : Int32) (m2 : Int32) (fb : Nat → Int32) (fi : Int32) : Int32 := if (pfX2_holderOf_3_1_r m5 o3 fb) = (-1) then (LSX2_moveUsed_4_m2 m5 o0 o1 o2 o3 p1 m2 fb fi) else (if (pfX2_holderOf_3_1_r m5 o3 fb) = p1 then (LSX2_moveUsed_4_m2 m5 o0 o1 o2 o3 p1 ((m2 + 1) &&& 15) (pfX2_putBuffer_g_a6_f fb (pfX2_holderOf_3_1_r m5 o3 fb) 0 2) (fi + 1)) else (LSX2_moveUsed_4_m2 m5 o0 o1 o2 o3 p1 m2 fb fi))
def LSX2_moveUsed_3_fb (m5 : Int32) (o0 : Int32) (o1 : Int32) (o2 : Int32) (o3 : Int32) (p1 : Int32) (m2 : Int32) (fb : Nat → Int32) (fi : Int32) : Nat → Int32 := if (pfX2_holderOf_3_1_r m5 o3 fb) = (-1) then (LSX2_moveUsed_4_fb m5 o0 o1 o2 o3 p1 m2 fb fi) else (if (pfX2_holderOf_3_1_r m5 o3 fb) = p1 then (LSX2_moveUsed_4_fb m5 o0 o1 o2 o3 p1 ((m2 + 1) &&& 15) (pfX2_putBuffer_g_a6_f fb (pfX2_holderOf_3_1_r m5 o3 fb) 0 2) (fi + 1)) else (LSX2_moveUsed_4_fb m5 o0 o1 o2 o3 p1 m2 fb fi))
def LSX2_moveUsed_3_fi (m5 : Int32) (o0 : Int32) (o1 : Int32) (o2 : Int32) (o3 : Int32) (p1 : Int32) (m2 : Int32) (fb : Nat → Int32) (fi : Int32) : Int32 := if (pfX2_holderOf_3_1_r m5 o3 fb) = (-1) then (LSX2_moveUsed_4_fi m5 o0 o1 o2 o3 p1 m2 fb fi) else (if (pfX2_holderOf_3_1_r m5 o3 fb) = p1 then (LSX2_moveUsed_4_fi m5 o0 o1 o2 o3 p1 ((m2 + 1) &&& 15) (pfX2_putBuffer_g_a6_f fb (pfX2_holderOf_3_1_r m5 o3 fb) 0 2) (fi + 1)) else (LSX2_moveUsed_4_fi m5 o0 o1 o2 o3 p1 m2 fb fi))
set_option maxHeartbeats 4000000 in
set_option maxRecDepth 100000 in
theorem LSX2_moveUsed_3 {p : Program} {l : Launch} {e : Env} {R : Room} {s : State} {m : MethodId} {args : Array Value} {below : List Frame} {meth : Method} {c : Code} {Q : State → Prop} {A : Nat → Prop} {cells slots : Nat} (dC : Nat → ClassId) (dI : Nat → Nat → Nat) (cI cB cZ cR : ClassId) (h : Nat) (a0 : Nat) (a1 : Nat) (a2 : Nat) (a3 : Nat) (a4 : Nat) (a5 : Nat) (a6 : Nat) (m0 : Int32) (m1 : Int32) (m3 : Int32) (m4 : Int32) (m5 : Int32) (m6 : Int32) (m7 : Int32) (m8 : Int32) (m9 : Int32) (m10 : Int32) (m11 : Int32) (m12 : Int32) (m13 : Int32) (m14 : Int32) (m15 : Int32) (m16 : Int32) (m17 : Int32) (o0 : Int32) (o1 : Int32) (o2 : Int32) (o3 : Int32) (p1 : Int32) (m2 : Int32) (fb : Nat → Int32) (fi : Int32) (hx : p.tables.exec = Jvm.exec) (hb : c.code = cX2_moveUsed) (hml : c.maxLocals = 6) (hts : ∀ w ∈ (.code yX2_moveUsed cX2_moveUsed 6 (some .int) :: wsL_law), w.before args s = true) (hown : s.vm.findClass RX2 = some m.cls) (hN : zN s) (hK : va_K (dC, dI) vwCl (zT cI cB cZ cR) s) (hA : ∀ q : Nat, s.heap.size ≤ q → A q) (hRf : 2 ≤ R.frames) (hRl : 46 ≤ R.locals) (hRc : cells ≤ R.cells) (hRs : slots ≤ R.slots)
    (k87 : ∀ (H : Heap) (locs : List Loc) (ls : Array Slot), va_P (dC, dI) vwCl [(h, .inr (2, [.ref a0, .ref a1, .ref a2, .ref a3, .ref a4, .ref a5, .ref a6])), (a0, .inl (cI, 22, .inl (gl [m0, m1, (LSX2_moveUsed_3_m2 m5 o0 o1 o2 o3 p1 m2 fb fi), m3, m4, m5, m6, m7, m8, m9, m10, m11, m12, m13, m14, m15, m16, m17, 0, 4, 0, 16]))), (a4, .inl (cI, 8, .inl (gl [o0, o1, o2, o3, (-1), (-1), (-1), (-1)]))), (a6, .inl (cI, 4000, .inl (LSX2_moveUsed_3_fb m5 o0 o1 o2 o3 p1 m2 fb fi)))] H → va_D A [(h, .inr (2, [.ref a0, .ref a1, .ref a2, .ref a3, .ref a4, .ref a5, .ref a6])), (a0, .inl (cI, 22, .inl (gl [m0, m1, (LSX2_moveUsed_3_m2 m5 o0 o1 o2 o3 p1 m2 fb fi), m3, m4, m5, m6, m7, m8, m9, m10, m11, m12, m13, m14, m15, m16, m17, 0, 4, 0, 16]))), (a4, .inl (cI, 8, .inl (gl [o0, o1, o2, o3, (-1), (-1), (-1), (-1)]))), (a6, .inl (cI, 4000, .inl (LSX2_moveUsed_3_fb m5 o0 o1 o2 o3 p1 m2 fb fi)))] → va_S A s.heap H locs → lv_has ls 6 [(0, .ref h), (3, .int (LSX2_moveUsed_3_fi m5 o0 o1 o2 o3 p1 m2 fb fi))] → W p l e R s m args below meth c H locs cells slots Q (F0 m 87 ls []))
    : ∀ (H : Heap) (locs : List Loc) (ls : Array Slot), va_P (dC, dI) vwCl [(h, .inr (2, [.ref a0, .ref a1, .ref a2, .ref a3, .ref a4, .ref a5, .ref a6])), (a0, .inl (cI, 22, .inl (gl [m0, m1, m2, m3, m4, m5, m6, m7, m8, m9, m10, m11, m12, m13, m14, m15, m16, m17, 0, 4, 0, 16]))), (a4, .inl (cI, 8, .inl (gl [o0, o1, o2, o3, (-1), (-1), (-1), (-1)]))), (a6, .inl (cI, 4000, .inl fb))] H → va_D A [(h, .inr (2, [.ref a0, .ref a1, .ref a2, .ref a3, .ref a4, .ref a5, .ref a6])), (a0, .inl (cI, 22, .inl (gl [m0, m1, m2, m3, m4, m5, m6, m7, m8, m9, m10, m11, m12, m13, m14, m15, m16, m17, 0, 4, 0, 16]))), (a4, .inl (cI, 8, .inl (gl [o0, o1, o2, o3, (-1), (-1), (-1), (-1)]))), (a6, .inl (cI, 4000, .inl fb))] → va_S A s.heap H locs → lv_has ls 6 [(0, .ref h), (1, .int p1), (2, .int 0), (3, .int fi), (4, .int 3)] → W p l e R s m args below meth c H locs cells slots Q (F0 m 5 ls []) := by
  have hinX2 : ∀ w ∈ u_ws RX2 TX2 7, w ∈ (.code yX2_moveUsed cX2_moveUsed 6 (some .int) :: wsL_law) := fun w h => List.mem_cons_of_mem _ (inlX2 w h)
  have k_0 := hts (.fieldLink RX2 11 "RingMarks$Ring" "marks" "[I") (List.mem_cons_of_mem _ wm_61)
  intro H locs ls hP hD hS hl
  refine lv_iload hx hb dX2_moveUsed_5 (lv_at hl 4 rfl) ?_
  refine lv_aload_n hx hb dX2_moveUsed_7 rfl (lv_at hl 0 rfl) ?_
  refine zcVi (As := []) (rest := [.int 3]) (wr := [(a4, .inl (cI, 8, .inl (gl [o0, o1, o2, o3, (-1), (-1), (-1), (-1)]))), (a6, .inl (cI, 4000, .inl fb))]) ⟨hx, hb, hml, hown, hts⟩ (kkX2_places l dC dI cI cB cZ cR H.size h a0 a1 a2 a3 a4 a5 a6 m0 m1 m2 m3 m4 m5 m6 m7 m8 m9 m10 m11 m12 m13 m14 m15 m16 m17 ) (cwV 0 hts (zgV wm_259 wm_260 wm_261 wm_22 wm_262) rfl rfl rfl (by decide +kernel) ⟨Nat.le_trans (Nat.le_of_ble_eq_true rfl) hRf, Nat.le_trans (Nat.le_of_ble_eq_true rfl) hRl⟩) hN hK hP hD hS hA [0, 1] [2, 3] rfl rfl ⟨rfl, rfl⟩ (by decide) (ci := 2) rfl rfl rfl rfl hl.1 rfl (Nat.le_of_ble_eq_true rfl) dX2_moveUsed_8 ⟨hRc, hRs⟩ (fun r u hu H locs hP hD hS => ?_)
  have hu : r = 4 := hu
  subst hu
  have hP : va_P (dC, dI) vwCl [(a4, .inl (cI, 8, .inl (gl [o0, o1, o2, o3, (-1), (-1), (-1), (-1)]))), (a6, .inl (cI, 4000, .inl fb)), (h, .inr (2, [.ref a0, .ref a1, .ref a2, .ref a3, .ref a4, .ref a5, .ref a6])), (a0, .inl (cI, 22, .inl (gl [m0, m1, m2, m3, m4, m5, m6, m7, m8, m9, m10, m11, m12, m13, m14, m15, m16, m17, 0, 4, 0, 16])))] H := hP
  have hD : va_D A [(a4, .inl (cI, 8, .inl (gl [o0, o1, o2, o3, (-1), (-1), (-1), (-1)]))), (a6, .inl (cI, 4000, .inl fb)), (h, .inr (2, [.ref a0, .ref a1, .ref a2, .ref a3, .ref a4, .ref a5, .ref a6])), (a0, .inl (cI, 22, .inl (gl [m0, m1, m2, m3, m4, m5, m6, m7, m8, m9, m10, m11, m12, m13, m14, m15, m16, m17, 0, 4, 0, 16])))] := hD
  refine lv_icmp_ge (tgt := 87) hx hb dX2_moveUsed_11 (by decide) (fun c => absurd c (by decide)) (fun _ => ?_)
  refine lv_aload_n hx hb dX2_moveUsed_14 rfl (lv_at hl 0 rfl) ?_
  refine lv_iload hx hb dX2_moveUsed_15 (lv_at hl 4 rfl) ?_
  refine lv_iconst (v := 1) hx hb dX2_moveUsed_17 (by decide) ?_
  refine zcVi (As := [.int 3, .int 1]) (rest := []) (wr := []) ⟨hx, hb, hml, hown, hts⟩ (kkX2_holderOf_3_1 l dC dI cI cB cZ cR H.size h a0 a1 a2 a3 a4 a5 a6 m0 m1 m2 m3 m4 m5 m6 m7 m8 m9 m10 m11 m12 m13 m14 m15 m16 m17 o0 o1 o2 o3 fb ) (cwV 2 hts (zgV wm_488 wm_489 wm_490 wm_22 wm_491) rfl rfl rfl (by decide +kernel) ⟨Nat.le_trans (Nat.le_of_ble_eq_true rfl) hRf, Nat.le_trans (Nat.le_of_ble_eq_true rfl) hRl⟩) hN hK hP hD hS hA [2, 3, 0, 1] [] rfl rfl ⟨rfl, rfl⟩ (by decide) (ci := 2) rfl rfl rfl rfl hl.1 rfl (Nat.le_of_ble_eq_true rfl) dX2_moveUsed_18 ⟨hRc, hRs⟩ (fun r u hu H locs hP hD hS => ?_)
  have hu : r = (pfX2_holderOf_3_1_r m5 o3 fb) := hu
  subst hu
  have hP : va_P (dC, dI) vwCl [(h, .inr (2, [.ref a0, .ref a1, .ref a2, .ref a3, .ref a4, .ref a5, .ref a6])), (a0, .inl (cI, 22, .inl (gl [m0, m1, m2, m3, m4, m5, m6, m7, m8, m9, m10, m11, m12, m13, m14, m15, m16, m17, 0, 4, 0, 16]))), (a4, .inl (cI, 8, .inl (gl [o0, o1, o2, o3, (-1), (-1), (-1), (-1)]))), (a6, .inl (cI, 4000, .inl fb))] H := hP
  have hD : va_D A [(h, .inr (2, [.ref a0, .ref a1, .ref a2, .ref a3, .ref a4, .ref a5, .ref a6])), (a0, .inl (cI, 22, .inl (gl [m0, m1, m2, m3, m4, m5, m6, m7, m8, m9, m10, m11, m12, m13, m14, m15, m16, m17, 0, 4, 0, 16]))), (a4, .inl (cI, 8, .inl (gl [o0, o1, o2, o3, (-1), (-1), (-1), (-1)]))), (a6, .inl (cI, 4000, .inl fb))] := hD
  refine lv_istore (lv' := [(5, .int (pfX2_holderOf_3_1_r m5 o3 fb)), (0, .ref h), (1, .int p1), (2, .int 0), (3, .int fi), (4, .int 3)]) hx hb dX2_moveUsed_21 hl (by decide) rfl (fun ls hl => ?_)
  refine lv_iload hx hb dX2_moveUsed_23 (lv_at hl 0 rfl) ?_
  refine lv_iconst (v := (-1)) hx hb dX2_moveUsed_25 (by decide) ?_
  refine lv_icmp_eq (tgt := 81) hx hb dX2_moveUsed_26 (by decide) (fun c_1 => ?_) (fun c_1 => ?_)
  · refine lv_iinc (v := 4) (lv' := [(4, .int 4), (5, .int (pfX2_holderOf_3_1_r m5 o3 fb)), (0, .ref h), (1, .int p1), (2, .int 0), (3, .int fi)]) hx hb dX2_moveUsed_81 hl (k := 5) rfl (by decide) (by decide) rfl (fun ls hl => ?_)
    refine lv_goto (tgt := 5) hx hb dX2_moveUsed_84 (by decide) ?_
    have e_m2 : (LSX2_moveUsed_3_m2 m5 o0 o1 o2 o3 p1 m2 fb fi) = (LSX2_moveUsed_4_m2 m5 o0 o1 o2 o3 p1 m2 fb fi) := by rw [LSX2_moveUsed_3_m2, if_pos c_1]
    have e_fb : (LSX2_moveUsed_3_fb m5 o0 o1 o2 o3 p1 m2 fb fi) = (LSX2_moveUsed_4_fb m5 o0 o1 o2 o3 p1 m2 fb fi) := by rw [LSX2_moveUsed_3_fb, if_pos c_1]
    have e_fi : (LSX2_moveUsed_3_fi m5 o0 o1 o2 o3 p1 m2 fb fi) = (LSX2_moveUsed_4_fi m5 o0 o1 o2 o3 p1 m2 fb fi) := by rw [LSX2_moveUsed_3_fi, if_pos c_1]
    have hP := hP.sub (ws' := [(h, .inr (2, [.ref a0, .ref a1, .ref a2, .ref a3, .ref a4, .ref a5, .ref a6])), (a0, .inl (cI, 22, .inl (gl [m0, m1, m2, m3, m4, m5, m6, m7, m8, m9, m10, m11, m12, m13, m14, m15, m16, m17, 0, 4, 0, 16]))), (a4, .inl (cI, 8, .inl (gl [o0, o1, o2, o3, (-1), (-1), (-1), (-1)]))), (a6, .inl (cI, 4000, .inl fb))]) [0, 1, 2, 3] rfl
    have hD := hD.sub (ws' := [(h, .inr (2, [.ref a0, .ref a1, .ref a2, .ref a3, .ref a4, .ref a5, .ref a6])), (a0, .inl (cI, 22, .inl (gl [m0, m1, m2, m3, m4, m5, m6, m7, m8, m9, m10, m11, m12, m13, m14, m15, m16, m17, 0, 4, 0, 16]))), (a4, .inl (cI, 8, .inl (gl [o0, o1, o2, o3, (-1), (-1), (-1), (-1)]))), (a6, .inl (cI, 4000, .inl fb))]) [0, 1, 2, 3] (by decide) rfl
    exact LSX2_moveUsed_4 dC dI cI cB cZ cR h a0 a1 a2 a3 a4 a5 a6 m0 m1 m3 m4 m5 m6 m7 m8 m9 m10 m11 m12 m13 m14 m15 m16 m17 o0 o1 o2 o3 p1 m2 fb fi hx hb hml hts hown hN hK hA hRf hRl hRc hRs (fun H locs ls hP hD hS hl => k87 _ _ _ (by rw [e_m2, e_fb]; exact hP) (by rw [e_m2, e_fb]; exact hD) hS (by rw [e_fi]; exact hl)) _ _ _ hP hD hS (lv_sub hl [2, 3, 4, 5, 0] rfl)
  · refine lv_iload_n hx hb dX2_moveUsed_29 rfl (lv_at hl 3 rfl) ?_
    refine lv_if_eq (tgt := 42) hx hb dX2_moveUsed_30 (by decide) (fun _ => ?_) (fun c => absurd (by decide) c)
    refine lv_iload hx hb dX2_moveUsed_42 (lv_at hl 0 rfl) ?_
    refine lv_iload_n hx hb dX2_moveUsed_44 rfl (lv_at hl 2 rfl) ?_
    refine lv_icmp_ne (tgt := 81) hx hb dX2_moveUsed_45 (by decide) (fun c_2 => ?_) (fun c_2 => ?_)
    · refine lv_iinc (v := 4) (lv' := [(4, .int 4), (5, .int (pfX2_holderOf_3_1_r m5 o3 fb)), (0, .ref h), (1, .int p1), (2, .int 0), (3, .int fi)]) hx hb dX2_moveUsed_81 hl (k := 5) rfl (by decide) (by decide) rfl (fun ls hl => ?_)
      refine lv_goto (tgt := 5) hx hb dX2_moveUsed_84 (by decide) ?_
      have e_m2 : (LSX2_moveUsed_3_m2 m5 o0 o1 o2 o3 p1 m2 fb fi) = (LSX2_moveUsed_4_m2 m5 o0 o1 o2 o3 p1 m2 fb fi) := by rw [LSX2_moveUsed_3_m2, if_neg c_1, if_neg c_2]
      have e_fb : (LSX2_moveUsed_3_fb m5 o0 o1 o2 o3 p1 m2 fb fi) = (LSX2_moveUsed_4_fb m5 o0 o1 o2 o3 p1 m2 fb fi) := by rw [LSX2_moveUsed_3_fb, if_neg c_1, if_neg c_2]
      have e_fi : (LSX2_moveUsed_3_fi m5 o0 o1 o2 o3 p1 m2 fb fi) = (LSX2_moveUsed_4_fi m5 o0 o1 o2 o3 p1 m2 fb fi) := by rw [LSX2_moveUsed_3_fi, if_neg c_1, if_neg c_2]
      have hP := hP.sub (ws' := [(h, .inr (2, [.ref a0, .ref a1, .ref a2, .ref a3, .ref a4, .ref a5, .ref a6])), (a0, .inl (cI, 22, .inl (gl [m0, m1, m2, m3, m4, m5, m6, m7, m8, m9, m10, m11, m12, m13, m14, m15, m16, m17, 0, 4, 0, 16]))), (a4, .inl (cI, 8, .inl (gl [o0, o1, o2, o3, (-1), (-1), (-1), (-1)]))), (a6, .inl (cI, 4000, .inl fb))]) [0, 1, 2, 3] rfl
      have hD := hD.sub (ws' := [(h, .inr (2, [.ref a0, .ref a1, .ref a2, .ref a3, .ref a4, .ref a5, .ref a6])), (a0, .inl (cI, 22, .inl (gl [m0, m1, m2, m3, m4, m5, m6, m7, m8, m9, m10, m11, m12, m13, m14, m15, m16, m17, 0, 4, 0, 16]))), (a4, .inl (cI, 8, .inl (gl [o0, o1, o2, o3, (-1), (-1), (-1), (-1)]))), (a6, .inl (cI, 4000, .inl fb))]) [0, 1, 2, 3] (by decide) rfl
      exact LSX2_moveUsed_4 dC dI cI cB cZ cR h a0 a1 a2 a3 a4 a5 a6 m0 m1 m3 m4 m5 m6 m7 m8 m9 m10 m11 m12 m13 m14 m15 m16 m17 o0 o1 o2 o3 p1 m2 fb fi hx hb hml hts hown hN hK hA hRf hRl hRc hRs (fun H locs ls hP hD hS hl => k87 _ _ _ (by rw [e_m2, e_fb]; exact hP) (by rw [e_m2, e_fb]; exact hD) hS (by rw [e_fi]; exact hl)) _ _ _ hP hD hS (lv_sub hl [2, 3, 4, 5, 0] rfl)
    · refine lv_aload_n hx hb dX2_moveUsed_48 rfl (lv_at hl 1 rfl) ?_
      refine lv_iload hx hb dX2_moveUsed_49 (lv_at hl 0 rfl) ?_
      refine lv_iconst (v := 0) hx hb dX2_moveUsed_51 (by decide) ?_
      refine lv_iconst (v := 2) hx hb dX2_moveUsed_52 (by decide) ?_
      refine zcVv (As := [.int (pfX2_holderOf_3_1_r m5 o3 fb), .int 0, .int 2]) (rest := []) (wr := [(a0, .inl (cI, 22, .inl (gl [m0, m1, m2, m3, m4, m5, m6, m7, m8, m9, m10, m11, m12, m13, m14, m15, m16, m17, 0, 4, 0, 16]))), (a4, .inl (cI, 8, .inl (gl [o0, o1, o2, o3, (-1), (-1), (-1), (-1)])))]) ⟨hx, hb, hml, hown, hts⟩ (kkX2_putBuffer_g l dC dI cI cB cZ cR H.size h a0 a1 a2 a3 a4 a5 a6 fb (pfX2_holderOf_3_1_r m5 o3 fb) 0 2 ) (cwV 3 hts (zgV wm_278 wm_279 wm_280 wm_22 wm_281) rfl rfl rfl (by decide +kernel) ⟨Nat.le_trans (Nat.le_of_ble_eq_true rfl) hRf, Nat.le_trans (Nat.le_of_ble_eq_true rfl) hRl⟩) hN hK hP hD hS hA [0, 3] [1, 2] rfl rfl ⟨rfl, rfl⟩ (by decide) (ci := 2) rfl rfl rfl rfl hl.1 rfl (Nat.le_of_ble_eq_true rfl) dX2_moveUsed_53 ⟨hRc, hRs⟩ (fun u hu H locs hP hD hS => ?_)
      have hP : va_P (dC, dI) vwCl [(a0, .inl (cI, 22, .inl (gl [m0, m1, m2, m3, m4, m5, m6, m7, m8, m9, m10, m11, m12, m13, m14, m15, m16, m17, 0, 4, 0, 16]))), (a4, .inl (cI, 8, .inl (gl [o0, o1, o2, o3, (-1), (-1), (-1), (-1)]))), (h, .inr (2, [.ref a0, .ref a1, .ref a2, .ref a3, .ref a4, .ref a5, .ref a6])), (a6, .inl (cI, 4000, .inl (pfX2_putBuffer_g_a6_f fb (pfX2_holderOf_3_1_r m5 o3 fb) 0 2)))] H := hP
      have hD : va_D A [(a0, .inl (cI, 22, .inl (gl [m0, m1, m2, m3, m4, m5, m6, m7, m8, m9, m10, m11, m12, m13, m14, m15, m16, m17, 0, 4, 0, 16]))), (a4, .inl (cI, 8, .inl (gl [o0, o1, o2, o3, (-1), (-1), (-1), (-1)]))), (h, .inr (2, [.ref a0, .ref a1, .ref a2, .ref a3, .ref a4, .ref a5, .ref a6])), (a6, .inl (cI, 4000, .inl (pfX2_putBuffer_g_a6_f fb (pfX2_holderOf_3_1_r m5 o3 fb) 0 2)))] := hD
      refine lv_aload_n hx hb dX2_moveUsed_56 rfl (lv_at hl 1 rfl) ?_
      refine va_get (D := (dC, dI)) (ci := 2) (v := .ref a0) (C := RX2) (T := TX2) (N := 7) hx hb hts hinX2 hown hK hP 2 rfl rfl 0 (by decide) k_0 (fun _ h9 => h9) rfl dX2_moveUsed_57 ?_
      refine lv_iconst (v := 2) hx hb dX2_moveUsed_60 (by decide) ?_
      refine lv_aload_n hx hb dX2_moveUsed_61 rfl (lv_at hl 1 rfl) ?_
      refine lv_aload_n hx hb dX2_moveUsed_62 rfl (lv_at hl 1 rfl) ?_
      refine va_get (D := (dC, dI)) (ci := 2) (v := .ref a0) (C := RX2) (T := TX2) (N := 7) hx hb hts hinX2 hown hK hP 2 rfl rfl 0 (by decide) k_0 (fun _ h9 => h9) rfl dX2_moveUsed_63 ?_
      refine lv_iconst (v := 2) hx hb dX2_moveUsed_66 (by decide) ?_
      refine za_iald (v := m2) hx hb hK hP 0 0 rfl rfl (zin tn_2 (Nat.le_of_ble_eq_true rfl)) (zrd _ tn_2 rfl) dX2_moveUsed_67 ?_
      refine lv_aload_n hx hb dX2_moveUsed_68 rfl (lv_at hl 1 rfl) ?_
      refine lv_iload hx hb dX2_moveUsed_69 (lv_at hl 0 rfl) ?_
      refine zcVi (As := [.int (pfX2_holderOf_3_1_r m5 o3 fb)]) (rest := [.int m2, .ref h, .int 2, .ref a0]) (wr := [(a4, .inl (cI, 8, .inl (gl [o0, o1, o2, o3, (-1), (-1), (-1), (-1)]))), (a6, .inl (cI, 4000, .inl (pfX2_putBuffer_g_a6_f fb (pfX2_holderOf_3_1_r m5 o3 fb) 0 2)))]) ⟨hx, hb, hml, hown, hts⟩ (kkX2_strideOf l dC dI cI cB cZ cR H.size h a0 a1 a2 a3 a4 a5 a6 m0 m1 m2 m3 m4 m5 m6 m7 m8 m9 m10 m11 m12 m13 m14 m15 m16 m17 (pfX2_holderOf_3_1_r m5 o3 fb) ) (cwV 1 hts (zgV wm_564 wm_565 wm_566 wm_22 wm_567) rfl rfl rfl (by decide +kernel) ⟨Nat.le_trans (Nat.le_of_ble_eq_true rfl) hRf, Nat.le_trans (Nat.le_of_ble_eq_true rfl) hRl⟩) hN hK hP hD hS hA [2, 0] [1, 3] rfl rfl ⟨rfl, rfl⟩ (by decide) (ci := 2) rfl rfl rfl rfl hl.1 rfl (Nat.le_of_ble_eq_true rfl) dX2_moveUsed_71 ⟨hRc, hRs⟩ (fun r u hu H locs hP hD hS => ?_)
      have hu : r = 1 := hu
      subst hu
      have hP : va_P (dC, dI) vwCl [(a4, .inl (cI, 8, .inl (gl [o0, o1, o2, o3, (-1), (-1), (-1), (-1)]))), (a6, .inl (cI, 4000, .inl (pfX2_putBuffer_g_a6_f fb (pfX2_holderOf_3_1_r m5 o3 fb) 0 2))), (h, .inr (2, [.ref a0, .ref a1, .ref a2, .ref a3, .ref a4, .ref a5, .ref a6])), (a0, .inl (cI, 22, .inl (gl [m0, m1, m2, m3, m4, m5, m6, m7, m8, m9, m10, m11, m12, m13, m14, m15, m16, m17, 0, 4, 0, 16])))] H := hP
      have hD : va_D A [(a4, .inl (cI, 8, .inl (gl [o0, o1, o2, o3, (-1), (-1), (-1), (-1)]))), (a6, .inl (cI, 4000, .inl (pfX2_putBuffer_g_a6_f fb (pfX2_holderOf_3_1_r m5 o3 fb) 0 2))), (h, .inr (2, [.ref a0, .ref a1, .ref a2, .ref a3, .ref a4, .ref a5, .ref a6])), (a0, .inl (cI, 22, .inl (gl [m0, m1, m2, m3, m4, m5, m6, m7, m8, m9, m10, m11, m12, m13, m14, m15, m16, m17, 0, 4, 0, 16])))] := hD
      refine zcVi (As := [.int m2, .int 1]) (rest := [.int 2, .ref a0]) (wr := [(a4, .inl (cI, 8, .inl (gl [o0, o1, o2, o3, (-1), (-1), (-1), (-1)]))), (a6, .inl (cI, 4000, .inl (pfX2_putBuffer_g_a6_f fb (pfX2_holderOf_3_1_r m5 o3 fb) 0 2)))]) ⟨hx, hb, hml, hown, hts⟩ (kkX2_moved l dC dI cI cB cZ cR H.size h a0 a1 a2 a3 a4 a5 a6 m0 m1 m2 m3 m4 m5 m6 m7 m8 m9 m10 m11 m12 m13 m14 m15 m16 m17 m2 1 ) (cwV 2 hts (zgV wm_302 wm_303 wm_304 wm_22 wm_305) rfl rfl rfl (by decide +kernel) ⟨Nat.le_trans (Nat.le_of_ble_eq_true rfl) hRf, Nat.le_trans (Nat.le_of_ble_eq_true rfl) hRl⟩) hN hK hP hD hS hA [2, 3] [0, 1] rfl rfl ⟨rfl, rfl⟩ (by decide) (ci := 2) rfl rfl rfl rfl hl.1 rfl (Nat.le_of_ble_eq_true rfl) dX2_moveUsed_74 ⟨hRc, hRs⟩ (fun r u hu H locs hP hD hS => ?_)
      have hu : r = ((m2 + 1) &&& 15) := hu
      subst hu
      have hP : va_P (dC, dI) vwCl [(a4, .inl (cI, 8, .inl (gl [o0, o1, o2, o3, (-1), (-1), (-1), (-1)]))), (a6, .inl (cI, 4000, .inl (pfX2_putBuffer_g_a6_f fb (pfX2_holderOf_3_1_r m5 o3 fb) 0 2))), (h, .inr (2, [.ref a0, .ref a1, .ref a2, .ref a3, .ref a4, .ref a5, .ref a6])), (a0, .inl (cI, 22, .inl (gl [m0, m1, m2, m3, m4, m5, m6, m7, m8, m9, m10, m11, m12, m13, m14, m15, m16, m17, 0, 4, 0, 16])))] H := hP
      have hD : va_D A [(a4, .inl (cI, 8, .inl (gl [o0, o1, o2, o3, (-1), (-1), (-1), (-1)]))), (a6, .inl (cI, 4000, .inl (pfX2_putBuffer_g_a6_f fb (pfX2_holderOf_3_1_r m5 o3 fb) 0 2))), (h, .inr (2, [.ref a0, .ref a1, .ref a2, .ref a3, .ref a4, .ref a5, .ref a6])), (a0, .inl (cI, 22, .inl (gl [m0, m1, m2, m3, m4, m5, m6, m7, m8, m9, m10, m11, m12, m13, m14, m15, m16, m17, 0, 4, 0, 16])))] := hD
      refine za_iast (f' := (gl [m0, m1, ((m2 + 1) &&& 15), m3, m4, m5, m6, m7, m8, m9, m10, m11, m12, m13, m14, m15, m16, m17, 0, 4, 0, 16])) hx hb hK hP hD hS 3 0 rfl rfl (zin tn_2 (Nat.le_of_ble_eq_true rfl)) (zup_gl tn_2 (Nat.le_of_ble_eq_true rfl) rfl) dX2_moveUsed_77 (fun H locs hP hD hS => ?_)
      have hP : va_P (dC, dI) vwCl [(a4, .inl (cI, 8, .inl (gl [o0, o1, o2, o3, (-1), (-1), (-1), (-1)]))), (a6, .inl (cI, 4000, .inl (pfX2_putBuffer_g_a6_f fb (pfX2_holderOf_3_1_r m5 o3 fb) 0 2))), (h, .inr (2, [.ref a0, .ref a1, .ref a2, .ref a3, .ref a4, .ref a5, .ref a6])), (a0, .inl (cI, 22, .inl (gl [m0, m1, ((m2 + 1) &&& 15), m3, m4, m5, m6, m7, m8, m9, m10, m11, m12, m13, m14, m15, m16, m17, 0, 4, 0, 16])))] H := hP
      have hD : va_D A [(a4, .inl (cI, 8, .inl (gl [o0, o1, o2, o3, (-1), (-1), (-1), (-1)]))), (a6, .inl (cI, 4000, .inl (pfX2_putBuffer_g_a6_f fb (pfX2_holderOf_3_1_r m5 o3 fb) 0 2))), (h, .inr (2, [.ref a0, .ref a1, .ref a2, .ref a3, .ref a4, .ref a5, .ref a6])), (a0, .inl (cI, 22, .inl (gl [m0, m1, ((m2 + 1) &&& 15), m3, m4, m5, m6, m7, m8, m9, m10, m11, m12, m13, m14, m15, m16, m17, 0, 4, 0, 16])))] := hD
      refine lv_iinc (v := (fi + 1)) (lv' := [(3, .int (fi + 1)), (5, .int (pfX2_holderOf_3_1_r m5 o3 fb)), (0, .ref h), (1, .int p1), (2, .int 0), (4, .int 3)]) hx hb dX2_moveUsed_78 hl (k := 4) rfl rfl (by decide) rfl (fun ls hl => ?_)
      refine lv_iinc (v := 4) (lv' := [(4, .int 4), (3, .int (fi + 1)), (5, .int (pfX2_holderOf_3_1_r m5 o3 fb)), (0, .ref h), (1, .int p1), (2, .int 0)]) hx hb dX2_moveUsed_81 hl (k := 5) rfl (by decide) (by decide) rfl (fun ls hl => ?_)
      refine lv_goto (tgt := 5) hx hb dX2_moveUsed_84 (by decide) ?_
      have e_m2 : (LSX2_moveUsed_3_m2 m5 o0 o1 o2 o3 p1 m2 fb fi) = (LSX2_moveUsed_4_m2 m5 o0 o1 o2 o3 p1 ((m2 + 1) &&& 15) (pfX2_putBuffer_g_a6_f fb (pfX2_holderOf_3_1_r m5 o3 fb) 0 2) (fi + 1)) := by rw [LSX2_moveUsed_3_m2, if_neg c_1, if_pos c_2]
      have e_fb : (LSX2_moveUsed_3_fb m5 o0 o1 o2 o3 p1 m2 fb fi) = (LSX2_moveUsed_4_fb m5 o0 o1 o2 o3 p1 ((m2 + 1) &&& 15) (pfX2_putBuffer_g_a6_f fb (pfX2_holderOf_3_1_r m5 o3 fb) 0 2) (fi + 1)) := by rw [LSX2_moveUsed_3_fb, if_neg c_1, if_pos c_2]
      have e_fi : (LSX2_moveUsed_3_fi m5 o0 o1 o2 o3 p1 m2 fb fi) = (LSX2_moveUsed_4_fi m5 o0 o1 o2 o3 p1 ((m2 + 1) &&& 15) (pfX2_putBuffer_g_a6_f fb (pfX2_holderOf_3_1_r m5 o3 fb) 0 2) (fi + 1)) := by rw [LSX2_moveUsed_3_fi, if_neg c_1, if_pos c_2]
      have hP := hP.sub (ws' := [(h, .inr (2, [.ref a0, .ref a1, .ref a2, .ref a3, .ref a4, .ref a5, .ref a6])), (a0, .inl (cI, 22, .inl (gl [m0, m1, ((m2 + 1) &&& 15), m3, m4, m5, m6, m7, m8, m9, m10, m11, m12, m13, m14, m15, m16, m17, 0, 4, 0, 16]))), (a4, .inl (cI, 8, .inl (gl [o0, o1, o2, o3, (-1), (-1), (-1), (-1)]))), (a6, .inl (cI, 4000, .inl (pfX2_putBuffer_g_a6_f fb (pfX2_holderOf_3_1_r m5 o3 fb) 0 2)))]) [2, 3, 0, 1] rfl
      have hD := hD.sub (ws' := [(h, .inr (2, [.ref a0, .ref a1, .ref a2, .ref a3, .ref a4, .ref a5, .ref a6])), (a0, .inl (cI, 22, .inl (gl [m0, m1, ((m2 + 1) &&& 15), m3, m4, m5, m6, m7, m8, m9, m10, m11, m12, m13, m14, m15, m16, m17, 0, 4, 0, 16]))), (a4, .inl (cI, 8, .inl (gl [o0, o1, o2, o3, (-1), (-1), (-1), (-1)]))), (a6, .inl (cI, 4000, .inl (pfX2_putBuffer_g_a6_f fb (pfX2_holderOf_3_1_r m5 o3 fb) 0 2)))]) [2, 3, 0, 1] (by decide) rfl
      exact LSX2_moveUsed_4 dC dI cI cB cZ cR h a0 a1 a2 a3 a4 a5 a6 m0 m1 m3 m4 m5 m6 m7 m8 m9 m10 m11 m12 m13 m14 m15 m16 m17 o0 o1 o2 o3 p1 ((m2 + 1) &&& 15) (pfX2_putBuffer_g_a6_f fb (pfX2_holderOf_3_1_r m5 o3 fb) 0 2) (fi + 1) hx hb hml hts hown hN hK hA hRf hRl hRc hRs (fun H locs ls hP hD hS hl => k87 _ _ _ (by rw [e_m2, e_fb]; exact hP) (by rw [e_m2, e_fb]; exact hD) hS (by rw [e_fi]; exact hl)) _ _ _ hP hD hS (lv_sub hl [3, 4, 5, 1, 0] rfl)

def LSX2_moveUsed_2_m2 (m5 : Int32) (o0 : Int32) (o1 : Int32) (o2 : Int32) (o3 : Int32) (p1 : Int32) (m2 : Int32) (fb : Nat → Int32) (fi : Int32) : Int32 := if (pfX2_holderOf_2_1_r m5 o2 fb) = (-1) then (LSX2_moveUsed_3_m2 m5 o0 o1 o2 o3 p1 m2 fb fi) else (if (pfX2_holderOf_2_1_r m5 o2 fb) = p1 then (LSX2_moveUsed_3_m2 m5 o0 o1 o2 o3 p1 ((m2 + 1) &&& 15) (pfX2_putBuffer_g_a6_f fb (pfX2_holderOf_2_1_r m5 o2 fb) 0 2) (fi + 1)) else (LSX2_moveUsed_3_m2 m5 o0 o1 o2 o3 p1 m2 fb fi))
def LSX2_moveUsed_2_fb (m5 : Int32) (o0 : Int32) (o1 : Int32) (o2 : Int32) (o3 : Int32) (p1 : Int32) (m2 : Int32) (fb : Nat → Int32) (fi : Int32) : Nat → Int32 := if (pfX2_holderOf_2_1_r m5 o2 fb) = (-1) then (LSX2_moveUsed_3_fb m5 o0 o1 o2 o3 p1 m2 fb fi) else (if (pfX2_holderOf_2_1_r m5 o2 fb) = p1 then (LSX2_moveUsed_3_fb m5 o0 o1 o2 o3 p1 ((m2 + 1) &&& 15) (pfX2_putBuffer_g_a6_f fb (pfX2_holderOf_2_1_r m5 o2 fb) 0 2) (fi + 1)) else (LSX2_moveUsed_3_fb m5 o0 o1 o2 o3 p1 m2 fb fi))
def LSX2_moveUsed_2_fi (m5 : Int32) (o0 : Int32) (o1 : Int32) (o2 : Int32) (o3 : Int32) (p1 : Int32) (m2 : Int32) (fb : Nat → Int32) (fi : Int32) : Int32 := if (pfX2_holderOf_2_1_r m5 o2 fb) = (-1) then (LSX2_moveUsed_3_fi m5 o0 o1 o2 o3 p1 m2 fb fi) else (if (pfX2_holderOf_2_1_r m5 o2 fb) = p1 then (LSX2_moveUsed_3_fi m5 o0 o1 o2 o3 p1 ((m2 + 1) &&& 15) (pfX2_putBuffer_g_a6_f fb (pfX2_holderOf_2_1_r m5 o2 fb) 0 2) (fi + 1)) else (LSX2_moveUsed_3_fi m5 o0 o1 o2 o3 p1 m2 fb fi))
set_option maxHeartbeats 4000000 in
set_option maxRecDepth 100000 in
theorem LSX2_moveUsed_2 {p : Program} {l : Launch} {e : Env} {R : Room} {s : State} {m : MethodId} {args : Array Value} {below : List Frame} {meth : Method} {c : Code} {Q : State → Prop} {A : Nat → Prop} {cells slots : Nat} (dC : Nat → ClassId) (dI : Nat → Nat → Nat) (cI cB cZ cR : ClassId) (h : Nat) (a0 : Nat) (a1 : Nat) (a2 : Nat) (a3 : Nat) (a4 : Nat) (a5 : Nat) (a6 : Nat) (m0 : Int32) (m1 : Int32) (m3 : Int32) (m4 : Int32) (m5 : Int32) (m6 : Int32) (m7 : Int32) (m8 : Int32) (m9 : Int32) (m10 : Int32) (m11 : Int32) (m12 : Int32) (m13 : Int32) (m14 : Int32) (m15 : Int32) (m16 : Int32) (m17 : Int32) (o0 : Int32) (o1 : Int32) (o2 : Int32) (o3 : Int32) (p1 : Int32) (m2 : Int32) (fb : Nat → Int32) (fi : Int32) (hx : p.tables.exec = Jvm.exec) (hb : c.code = cX2_moveUsed) (hml : c.maxLocals = 6) (hts : ∀ w ∈ (.code yX2_moveUsed cX2_moveUsed 6 (some .int) :: wsL_law), w.before args s = true) (hown : s.vm.findClass RX2 = some m.cls) (hN : zN s) (hK : va_K (dC, dI) vwCl (zT cI cB cZ cR) s) (hA : ∀ q : Nat, s.heap.size ≤ q → A q) (hRf : 2 ≤ R.frames) (hRl : 46 ≤ R.locals) (hRc : cells ≤ R.cells) (hRs : slots ≤ R.slots)
    (k87 : ∀ (H : Heap) (locs : List Loc) (ls : Array Slot), va_P (dC, dI) vwCl [(h, .inr (2, [.ref a0, .ref a1, .ref a2, .ref a3, .ref a4, .ref a5, .ref a6])), (a0, .inl (cI, 22, .inl (gl [m0, m1, (LSX2_moveUsed_2_m2 m5 o0 o1 o2 o3 p1 m2 fb fi), m3, m4, m5, m6, m7, m8, m9, m10, m11, m12, m13, m14, m15, m16, m17, 0, 4, 0, 16]))), (a4, .inl (cI, 8, .inl (gl [o0, o1, o2, o3, (-1), (-1), (-1), (-1)]))), (a6, .inl (cI, 4000, .inl (LSX2_moveUsed_2_fb m5 o0 o1 o2 o3 p1 m2 fb fi)))] H → va_D A [(h, .inr (2, [.ref a0, .ref a1, .ref a2, .ref a3, .ref a4, .ref a5, .ref a6])), (a0, .inl (cI, 22, .inl (gl [m0, m1, (LSX2_moveUsed_2_m2 m5 o0 o1 o2 o3 p1 m2 fb fi), m3, m4, m5, m6, m7, m8, m9, m10, m11, m12, m13, m14, m15, m16, m17, 0, 4, 0, 16]))), (a4, .inl (cI, 8, .inl (gl [o0, o1, o2, o3, (-1), (-1), (-1), (-1)]))), (a6, .inl (cI, 4000, .inl (LSX2_moveUsed_2_fb m5 o0 o1 o2 o3 p1 m2 fb fi)))] → va_S A s.heap H locs → lv_has ls 6 [(0, .ref h), (3, .int (LSX2_moveUsed_2_fi m5 o0 o1 o2 o3 p1 m2 fb fi))] → W p l e R s m args below meth c H locs cells slots Q (F0 m 87 ls []))
    : ∀ (H : Heap) (locs : List Loc) (ls : Array Slot), va_P (dC, dI) vwCl [(h, .inr (2, [.ref a0, .ref a1, .ref a2, .ref a3, .ref a4, .ref a5, .ref a6])), (a0, .inl (cI, 22, .inl (gl [m0, m1, m2, m3, m4, m5, m6, m7, m8, m9, m10, m11, m12, m13, m14, m15, m16, m17, 0, 4, 0, 16]))), (a4, .inl (cI, 8, .inl (gl [o0, o1, o2, o3, (-1), (-1), (-1), (-1)]))), (a6, .inl (cI, 4000, .inl fb))] H → va_D A [(h, .inr (2, [.ref a0, .ref a1, .ref a2, .ref a3, .ref a4, .ref a5, .ref a6])), (a0, .inl (cI, 22, .inl (gl [m0, m1, m2, m3, m4, m5, m6, m7, m8, m9, m10, m11, m12, m13, m14, m15, m16, m17, 0, 4, 0, 16]))), (a4, .inl (cI, 8, .inl (gl [o0, o1, o2, o3, (-1), (-1), (-1), (-1)]))), (a6, .inl (cI, 4000, .inl fb))] → va_S A s.heap H locs → lv_has ls 6 [(0, .ref h), (1, .int p1), (2, .int 0), (3, .int fi), (4, .int 2)] → W p l e R s m args below meth c H locs cells slots Q (F0 m 5 ls []) := by
  have hinX2 : ∀ w ∈ u_ws RX2 TX2 7, w ∈ (.code yX2_moveUsed cX2_moveUsed 6 (some .int) :: wsL_law) := fun w h => List.mem_cons_of_mem _ (inlX2 w h)
  have k_0 := hts (.fieldLink RX2 11 "RingMarks$Ring" "marks" "[I") (List.mem_cons_of_mem _ wm_61)
  intro H locs ls hP hD hS hl
  refine lv_iload hx hb dX2_moveUsed_5 (lv_at hl 4 rfl) ?_
  refine lv_aload_n hx hb dX2_moveUsed_7 rfl (lv_at hl 0 rfl) ?_
  refine zcVi (As := []) (rest := [.int 2]) (wr := [(a4, .inl (cI, 8, .inl (gl [o0, o1, o2, o3, (-1), (-1), (-1), (-1)]))), (a6, .inl (cI, 4000, .inl fb))]) ⟨hx, hb, hml, hown, hts⟩ (kkX2_places l dC dI cI cB cZ cR H.size h a0 a1 a2 a3 a4 a5 a6 m0 m1 m2 m3 m4 m5 m6 m7 m8 m9 m10 m11 m12 m13 m14 m15 m16 m17 ) (cwV 0 hts (zgV wm_259 wm_260 wm_261 wm_22 wm_262) rfl rfl rfl (by decide +kernel) ⟨Nat.le_trans (Nat.le_of_ble_eq_true rfl) hRf, Nat.le_trans (Nat.le_of_ble_eq_true rfl) hRl⟩) hN hK hP hD hS hA [0, 1] [2, 3] rfl rfl ⟨rfl, rfl⟩ (by decide) (ci := 2) rfl rfl rfl rfl hl.1 rfl (Nat.le_of_ble_eq_true rfl) dX2_moveUsed_8 ⟨hRc, hRs⟩ (fun r u hu H locs hP hD hS => ?_)
  have hu : r = 4 := hu
  subst hu
  have hP : va_P (dC, dI) vwCl [(a4, .inl (cI, 8, .inl (gl [o0, o1, o2, o3, (-1), (-1), (-1), (-1)]))), (a6, .inl (cI, 4000, .inl fb)), (h, .inr (2, [.ref a0, .ref a1, .ref a2, .ref a3, .ref a4, .ref a5, .ref a6])), (a0, .inl (cI, 22, .inl (gl [m0, m1, m2, m3, m4, m5, m6, m7, m8, m9, m10, m11, m12, m13, m14, m15, m16, m17, 0, 4, 0, 16])))] H := hP
  have hD : va_D A [(a4, .inl (cI, 8, .inl (gl [o0, o1, o2, o3, (-1), (-1), (-1), (-1)]))), (a6, .inl (cI, 4000, .inl fb)), (h, .inr (2, [.ref a0, .ref a1, .ref a2, .ref a3, .ref a4, .ref a5, .ref a6])), (a0, .inl (cI, 22, .inl (gl [m0, m1, m2, m3, m4, m5, m6, m7, m8, m9, m10, m11, m12, m13, m14, m15, m16, m17, 0, 4, 0, 16])))] := hD
  refine lv_icmp_ge (tgt := 87) hx hb dX2_moveUsed_11 (by decide) (fun c => absurd c (by decide)) (fun _ => ?_)
  refine lv_aload_n hx hb dX2_moveUsed_14 rfl (lv_at hl 0 rfl) ?_
  refine lv_iload hx hb dX2_moveUsed_15 (lv_at hl 4 rfl) ?_
  refine lv_iconst (v := 1) hx hb dX2_moveUsed_17 (by decide) ?_
  refine zcVi (As := [.int 2, .int 1]) (rest := []) (wr := []) ⟨hx, hb, hml, hown, hts⟩ (kkX2_holderOf_2_1 l dC dI cI cB cZ cR H.size h a0 a1 a2 a3 a4 a5 a6 m0 m1 m2 m3 m4 m5 m6 m7 m8 m9 m10 m11 m12 m13 m14 m15 m16 m17 o0 o1 o2 o3 fb ) (cwV 2 hts (zgV wm_488 wm_489 wm_490 wm_22 wm_491) rfl rfl rfl (by decide +kernel) ⟨Nat.le_trans (Nat.le_of_ble_eq_true rfl) hRf, Nat.le_trans (Nat.le_of_ble_eq_true rfl) hRl⟩) hN hK hP hD hS hA [2, 3, 0, 1] [] rfl rfl ⟨rfl, rfl⟩ (by decide) (ci := 2) rfl rfl rfl rfl hl.1 rfl (Nat.le_of_ble_eq_true rfl) dX2_moveUsed_18 ⟨hRc, hRs⟩ (fun r u hu H locs hP hD hS => ?_)
  have hu : r = (pfX2_holderOf_2_1_r m5 o2 fb) := hu
  subst hu
  have hP : va_P (dC, dI) vwCl [(h, .inr (2, [.ref a0, .ref a1, .ref a2, .ref a3, .ref a4, .ref a5, .ref a6])), (a0, .inl (cI, 22, .inl (gl [m0, m1, m2, m3, m4, m5, m6, m7, m8, m9, m10, m11, m12, m13, m14, m15, m16, m17, 0, 4, 0, 16]))), (a4, .inl (cI, 8, .inl (gl [o0, o1, o2, o3, (-1), (-1), (-1), (-1)]))), (a6, .inl (cI, 4000, .inl fb))] H := hP
  have hD : va_D A [(h, .inr (2, [.ref a0, .ref a1, .ref a2, .ref a3, .ref a4, .ref a5, .ref a6])), (a0, .inl (cI, 22, .inl (gl [m0, m1, m2, m3, m4, m5, m6, m7, m8, m9, m10, m11, m12, m13, m14, m15, m16, m17, 0, 4, 0, 16]))), (a4, .inl (cI, 8, .inl (gl [o0, o1, o2, o3, (-1), (-1), (-1), (-1)]))), (a6, .inl (cI, 4000, .inl fb))] := hD
  refine lv_istore (lv' := [(5, .int (pfX2_holderOf_2_1_r m5 o2 fb)), (0, .ref h), (1, .int p1), (2, .int 0), (3, .int fi), (4, .int 2)]) hx hb dX2_moveUsed_21 hl (by decide) rfl (fun ls hl => ?_)
  refine lv_iload hx hb dX2_moveUsed_23 (lv_at hl 0 rfl) ?_
  refine lv_iconst (v := (-1)) hx hb dX2_moveUsed_25 (by decide) ?_
  refine lv_icmp_eq (tgt := 81) hx hb dX2_moveUsed_26 (by decide) (fun c_1 => ?_) (fun c_1 => ?_)
  · refine lv_iinc (v := 3) (lv' := [(4, .int 3), (5, .int (pfX2_holderOf_2_1_r m5 o2 fb)), (0, .ref h), (1, .int p1), (2, .int 0), (3, .int fi)]) hx hb dX2_moveUsed_81 hl (k := 5) rfl (by decide) (by decide) rfl (fun ls hl => ?_)
    refine lv_goto (tgt := 5) hx hb dX2_moveUsed_84 (by decide) ?_
    have e_m2 : (LSX2_moveUsed_2_m2 m5 o0 o1 o2 o3 p1 m2 fb fi) = (LSX2_moveUsed_3_m2 m5 o0 o1 o2 o3 p1 m2 fb fi) := by rw [LSX2_moveUsed_2_m2, if_pos c_1]
    have e_fb : (LSX2_moveUsed_2_fb m5 o0 o1 o2 o3 p1 m2 fb fi) = (LSX2_moveUsed_3_fb m5 o0 o1 o2 o3 p1 m2 fb fi) := by rw [LSX2_moveUsed_2_fb, if_pos c_1]
    have e_fi : (LSX2_moveUsed_2_fi m5 o0 o1 o2 o3 p1 m2 fb fi) = (LSX2_moveUsed_3_fi m5 o0 o1 o2 o3 p1 m2 fb fi) := by rw [LSX2_moveUsed_2_fi, if_pos c_1]
    have hP := hP.sub (ws' := [(h, .inr (2, [.ref a0, .ref a1, .ref a2, .ref a3, .ref a4, .ref a5, .ref a6])), (a0, .inl (cI, 22, .inl (gl [m0, m1, m2, m3, m4, m5, m6, m7, m8, m9, m10, m11, m12, m13, m14, m15, m16, m17, 0, 4, 0, 16]))), (a4, .inl (cI, 8, .inl (gl [o0, o1, o2, o3, (-1), (-1), (-1), (-1)]))), (a6, .inl (cI, 4000, .inl fb))]) [0, 1, 2, 3] rfl
    have hD := hD.sub (ws' := [(h, .inr (2, [.ref a0, .ref a1, .ref a2, .ref a3, .ref a4, .ref a5, .ref a6])), (a0, .inl (cI, 22, .inl (gl [m0, m1, m2, m3, m4, m5, m6, m7, m8, m9, m10, m11, m12, m13, m14, m15, m16, m17, 0, 4, 0, 16]))), (a4, .inl (cI, 8, .inl (gl [o0, o1, o2, o3, (-1), (-1), (-1), (-1)]))), (a6, .inl (cI, 4000, .inl fb))]) [0, 1, 2, 3] (by decide) rfl
    exact LSX2_moveUsed_3 dC dI cI cB cZ cR h a0 a1 a2 a3 a4 a5 a6 m0 m1 m3 m4 m5 m6 m7 m8 m9 m10 m11 m12 m13 m14 m15 m16 m17 o0 o1 o2 o3 p1 m2 fb fi hx hb hml hts hown hN hK hA hRf hRl hRc hRs (fun H locs ls hP hD hS hl => k87 _ _ _ (by rw [e_m2, e_fb]; exact hP) (by rw [e_m2, e_fb]; exact hD) hS (by rw [e_fi]; exact hl)) _ _ _ hP hD hS (lv_sub hl [2, 3, 4, 5, 0] rfl)
  · refine lv_iload_n hx hb dX2_moveUsed_29 rfl (lv_at hl 3 rfl) ?_
    refine lv_if_eq (tgt := 42) hx hb dX2_moveUsed_30 (by decide) (fun _ => ?_) (fun c => absurd (by decide) c)
    refine lv_iload hx hb dX2_moveUsed_42 (lv_at hl 0 rfl) ?_
    refine lv_iload_n hx hb dX2_moveUsed_44 rfl (lv_at hl 2 rfl) ?_
    refine lv_icmp_ne (tgt := 81) hx hb dX2_moveUsed_45 (by decide) (fun c_2 => ?_) (fun c_2 => ?_)
    · refine lv_iinc (v := 3) (lv' := [(4, .int 3), (5, .int (pfX2_holderOf_2_1_r m5 o2 fb)), (0, .ref h), (1, .int p1), (2, .int 0), (3, .int fi)]) hx hb dX2_moveUsed_81 hl (k := 5) rfl (by decide) (by decide) rfl (fun ls hl => ?_)
      refine lv_goto (tgt := 5) hx hb dX2_moveUsed_84 (by decide) ?_
      have e_m2 : (LSX2_moveUsed_2_m2 m5 o0 o1 o2 o3 p1 m2 fb fi) = (LSX2_moveUsed_3_m2 m5 o0 o1 o2 o3 p1 m2 fb fi) := by rw [LSX2_moveUsed_2_m2, if_neg c_1, if_neg c_2]
      have e_fb : (LSX2_moveUsed_2_fb m5 o0 o1 o2 o3 p1 m2 fb fi) = (LSX2_moveUsed_3_fb m5 o0 o1 o2 o3 p1 m2 fb fi) := by rw [LSX2_moveUsed_2_fb, if_neg c_1, if_neg c_2]
      have e_fi : (LSX2_moveUsed_2_fi m5 o0 o1 o2 o3 p1 m2 fb fi) = (LSX2_moveUsed_3_fi m5 o0 o1 o2 o3 p1 m2 fb fi) := by rw [LSX2_moveUsed_2_fi, if_neg c_1, if_neg c_2]
      have hP := hP.sub (ws' := [(h, .inr (2, [.ref a0, .ref a1, .ref a2, .ref a3, .ref a4, .ref a5, .ref a6])), (a0, .inl (cI, 22, .inl (gl [m0, m1, m2, m3, m4, m5, m6, m7, m8, m9, m10, m11, m12, m13, m14, m15, m16, m17, 0, 4, 0, 16]))), (a4, .inl (cI, 8, .inl (gl [o0, o1, o2, o3, (-1), (-1), (-1), (-1)]))), (a6, .inl (cI, 4000, .inl fb))]) [0, 1, 2, 3] rfl
      have hD := hD.sub (ws' := [(h, .inr (2, [.ref a0, .ref a1, .ref a2, .ref a3, .ref a4, .ref a5, .ref a6])), (a0, .inl (cI, 22, .inl (gl [m0, m1, m2, m3, m4, m5, m6, m7, m8, m9, m10, m11, m12, m13, m14, m15, m16, m17, 0, 4, 0, 16]))), (a4, .inl (cI, 8, .inl (gl [o0, o1, o2, o3, (-1), (-1), (-1), (-1)]))), (a6, .inl (cI, 4000, .inl fb))]) [0, 1, 2, 3] (by decide) rfl
      exact LSX2_moveUsed_3 dC dI cI cB cZ cR h a0 a1 a2 a3 a4 a5 a6 m0 m1 m3 m4 m5 m6 m7 m8 m9 m10 m11 m12 m13 m14 m15 m16 m17 o0 o1 o2 o3 p1 m2 fb fi hx hb hml hts hown hN hK hA hRf hRl hRc hRs (fun H locs ls hP hD hS hl => k87 _ _ _ (by rw [e_m2, e_fb]; exact hP) (by rw [e_m2, e_fb]; exact hD) hS (by rw [e_fi]; exact hl)) _ _ _ hP hD hS (lv_sub hl [2, 3, 4, 5, 0] rfl)
    · refine lv_aload_n hx hb dX2_moveUsed_48 rfl (lv_at hl 1 rfl) ?_
      refine lv_iload hx hb dX2_moveUsed_49 (lv_at hl 0 rfl) ?_
      refine lv_iconst (v := 0) hx hb dX2_moveUsed_51 (by decide) ?_
      refine lv_iconst (v := 2) hx hb dX2_moveUsed_52 (by decide) ?_
      refine zcVv (As := [.int (pfX2_holderOf_2_1_r m5 o2 fb), .int 0, .int 2]) (rest := []) (wr := [(a0, .inl (cI, 22, .inl (gl [m0, m1, m2, m3, m4, m5, m6, m7, m8, m9, m10, m11, m12, m13, m14, m15, m16, m17, 0, 4, 0, 16]))), (a4, .inl (cI, 8, .inl (gl [o0, o1, o2, o3, (-1), (-1), (-1), (-1)])))]) ⟨hx, hb, hml, hown, hts⟩ (kkX2_putBuffer_g l dC dI cI cB cZ cR H.size h a0 a1 a2 a3 a4 a5 a6 fb (pfX2_holderOf_2_1_r m5 o2 fb) 0 2 ) (cwV 3 hts (zgV wm_278 wm_279 wm_280 wm_22 wm_281) rfl rfl rfl (by decide +kernel) ⟨Nat.le_trans (Nat.le_of_ble_eq_true rfl) hRf, Nat.le_trans (Nat.le_of_ble_eq_true rfl) hRl⟩) hN hK hP hD hS hA [0, 3] [1, 2] rfl rfl ⟨rfl, rfl⟩ (by decide) (ci := 2) rfl rfl rfl rfl hl.1 rfl (Nat.le_of_ble_eq_true rfl) dX2_moveUsed_53 ⟨hRc, hRs⟩ (fun u hu H locs hP hD hS => ?_)
      have hP : va_P (dC, dI) vwCl [(a0, .inl (cI, 22, .inl (gl [m0, m1, m2, m3, m4, m5, m6, m7, m8, m9, m10, m11, m12, m13, m14, m15, m16, m17, 0, 4, 0, 16]))), (a4, .inl (cI, 8, .inl (gl [o0, o1, o2, o3, (-1), (-1), (-1), (-1)]))), (h, .inr (2, [.ref a0, .ref a1, .ref a2, .ref a3, .ref a4, .ref a5, .ref a6])), (a6, .inl (cI, 4000, .inl (pfX2_putBuffer_g_a6_f fb (pfX2_holderOf_2_1_r m5 o2 fb) 0 2)))] H := hP
      have hD : va_D A [(a0, .inl (cI, 22, .inl (gl [m0, m1, m2, m3, m4, m5, m6, m7, m8, m9, m10, m11, m12, m13, m14, m15, m16, m17, 0, 4, 0, 16]))), (a4, .inl (cI, 8, .inl (gl [o0, o1, o2, o3, (-1), (-1), (-1), (-1)]))), (h, .inr (2, [.ref a0, .ref a1, .ref a2, .ref a3, .ref a4, .ref a5, .ref a6])), (a6, .inl (cI, 4000, .inl (pfX2_putBuffer_g_a6_f fb (pfX2_holderOf_2_1_r m5 o2 fb) 0 2)))] := hD
      refine lv_aload_n hx hb dX2_moveUsed_56 rfl (lv_at hl 1 rfl) ?_
      refine va_get (D := (dC, dI)) (ci := 2) (v := .ref a0) (C := RX2) (T := TX2) (N := 7) hx hb hts hinX2 hown hK hP 2 rfl rfl 0 (by decide) k_0 (fun _ h9 => h9) rfl dX2_moveUsed_57 ?_
      refine lv_iconst (v := 2) hx hb dX2_moveUsed_60 (by decide) ?_
      refine lv_aload_n hx hb dX2_moveUsed_61 rfl (lv_at hl 1 rfl) ?_
      refine lv_aload_n hx hb dX2_moveUsed_62 rfl (lv_at hl 1 rfl) ?_
      refine va_get (D := (dC, dI)) (ci := 2) (v := .ref a0) (C := RX2) (T := TX2) (N := 7) hx hb hts hinX2 hown hK hP 2 rfl rfl 0 (by decide) k_0 (fun _ h9 => h9) rfl dX2_moveUsed_63 ?_
      refine lv_iconst (v := 2) hx hb dX2_moveUsed_66 (by decide) ?_
      refine za_iald (v := m2) hx hb hK hP 0 0 rfl rfl (zin tn_2 (Nat.le_of_ble_eq_true rfl)) (zrd _ tn_2 rfl) dX2_moveUsed_67 ?_
      refine lv_aload_n hx hb dX2_moveUsed_68 rfl (lv_at hl 1 rfl) ?_
      refine lv_iload hx hb dX2_moveUsed_69 (lv_at hl 0 rfl) ?_
      refine zcVi (As := [.int (pfX2_holderOf_2_1_r m5 o2 fb)]) (rest := [.int m2, .ref h, .int 2, .ref a0]) (wr := [(a4, .inl (cI, 8, .inl (gl [o0, o1, o2, o3, (-1), (-1), (-1), (-1)]))), (a6, .inl (cI, 4000, .inl (pfX2_putBuffer_g_a6_f fb (pfX2_holderOf_2_1_r m5 o2 fb) 0 2)))]) ⟨hx, hb, hml, hown, hts⟩ (kkX2_strideOf l dC dI cI cB cZ cR H.size h a0 a1 a2 a3 a4 a5 a6 m0 m1 m2 m3 m4 m5 m6 m7 m8 m9 m10 m11 m12 m13 m14 m15 m16 m17 (pfX2_holderOf_2_1_r m5 o2 fb) ) (cwV 1 hts (zgV wm_564 wm_565 wm_566 wm_22 wm_567) rfl rfl rfl (by decide +kernel) ⟨Nat.le_trans (Nat.le_of_ble_eq_true rfl) hRf, Nat.le_trans (Nat.le_of_ble_eq_true rfl) hRl⟩) hN hK hP hD hS hA [2, 0] [1, 3] rfl rfl ⟨rfl, rfl⟩ (by decide) (ci := 2) rfl rfl rfl rfl hl.1 rfl (Nat.le_of_ble_eq_true rfl) dX2_moveUsed_71 ⟨hRc, hRs⟩ (fun r u hu H locs hP hD hS => ?_)
      have hu : r = 1 := hu
      subst hu
      have hP : va_P (dC, dI) vwCl [(a4, .inl (cI, 8, .inl (gl [o0, o1, o2, o3, (-1), (-1), (-1), (-1)]))), (a6, .inl (cI, 4000, .inl (pfX2_putBuffer_g_a6_f fb (pfX2_holderOf_2_1_r m5 o2 fb) 0 2))), (h, .inr (2, [.ref a0, .ref a1, .ref a2, .ref a3, .ref a4, .ref a5, .ref a6])), (a0, .inl (cI, 22, .inl (gl [m0, m1, m2, m3, m4, m5, m6, m7, m8, m9, m10, m11, m12, m13, m14, m15, m16, m17, 0, 4, 0, 16])))] H := hP
      have hD : va_D A [(a4, .inl (cI, 8, .inl (gl [o0, o1, o2, o3, (-1), (-1), (-1), (-1)]))), (a6, .inl (cI, 4000, .inl (pfX2_putBuffer_g_a6_f fb (pfX2_holderOf_2_1_r m5 o2 fb) 0 2))), (h, .inr (2, [.ref a0, .ref a1, .ref a2, .ref a3, .ref a4, .ref a5, .ref a6])), (a0, .inl (cI, 22, .inl (gl [m0, m1, m2, m3, m4, m5, m6, m7, m8, m9, m10, m11, m12, m13, m14, m15, m16, m17, 0, 4, 0, 16])))] := hD
      refine zcVi (As := [.int m2, .int 1]) (rest := [.int 2, .ref a0]) (wr := [(a4, .inl (cI, 8, .inl (gl [o0, o1, o2, o3, (-1), (-1), (-1), (-1)]))), (a6, .inl (cI, 4000, .inl (pfX2_putBuffer_g_a6_f fb (pfX2_holderOf_2_1_r m5 o2 fb) 0 2)))]) ⟨hx, hb, hml, hown, hts⟩ (kkX2_moved l dC dI cI cB cZ cR H.size h a0 a1 a2 a3 a4 a5 a6 m0 m1 m2 m3 m4 m5 m6 m7 m8 m9 m10 m11 m12 m13 m14 m15 m16 m17 m2 1 ) (cwV 2 hts (zgV wm_302 wm_303 wm_304 wm_22 wm_305) rfl rfl rfl (by decide +kernel) ⟨Nat.le_trans (Nat.le_of_ble_eq_true rfl) hRf, Nat.le_trans (Nat.le_of_ble_eq_true rfl) hRl⟩) hN hK hP hD hS hA [2, 3] [0, 1] rfl rfl ⟨rfl, rfl⟩ (by decide) (ci := 2) rfl rfl rfl rfl hl.1 rfl (Nat.le_of_ble_eq_true rfl) dX2_moveUsed_74 ⟨hRc, hRs⟩ (fun r u hu H locs hP hD hS => ?_)
      have hu : r = ((m2 + 1) &&& 15) := hu
      subst hu
      have hP : va_P (dC, dI) vwCl [(a4, .inl (cI, 8, .inl (gl [o0, o1, o2, o3, (-1), (-1), (-1), (-1)]))), (a6, .inl (cI, 4000, .inl (pfX2_putBuffer_g_a6_f fb (pfX2_holderOf_2_1_r m5 o2 fb) 0 2))), (h, .inr (2, [.ref a0, .ref a1, .ref a2, .ref a3, .ref a4, .ref a5, .ref a6])), (a0, .inl (cI, 22, .inl (gl [m0, m1, m2, m3, m4, m5, m6, m7, m8, m9, m10, m11, m12, m13, m14, m15, m16, m17, 0, 4, 0, 16])))] H := hP
      have hD : va_D A [(a4, .inl (cI, 8, .inl (gl [o0, o1, o2, o3, (-1), (-1), (-1), (-1)]))), (a6, .inl (cI, 4000, .inl (pfX2_putBuffer_g_a6_f fb (pfX2_holderOf_2_1_r m5 o2 fb) 0 2))), (h, .inr (2, [.ref a0, .ref a1, .ref a2, .ref a3, .ref a4, .ref a5, .ref a6])), (a0, .inl (cI, 22, .inl (gl [m0, m1, m2, m3, m4, m5, m6, m7, m8, m9, m10, m11, m12, m13, m14, m15, m16, m17, 0, 4, 0, 16])))] := hD
      refine za_iast (f' := (gl [m0, m1, ((m2 + 1) &&& 15), m3, m4, m5, m6, m7, m8, m9, m10, m11, m12, m13, m14, m15, m16, m17, 0, 4, 0, 16])) hx hb hK hP hD hS 3 0 rfl rfl (zin tn_2 (Nat.le_of_ble_eq_true rfl)) (zup_gl tn_2 (Nat.le_of_ble_eq_true rfl) rfl) dX2_moveUsed_77 (fun H locs hP hD hS => ?_)
      have hP : va_P (dC, dI) vwCl [(a4, .inl (cI, 8, .inl (gl [o0, o1, o2, o3, (-1), (-1), (-1), (-1)]))), (a6, .inl (cI, 4000, .inl (pfX2_putBuffer_g_a6_f fb (pfX2_holderOf_2_1_r m5 o2 fb) 0 2))), (h, .inr (2, [.ref a0, .ref a1, .ref a2, .ref a3, .ref a4, .ref a5, .ref a6])), (a0, .inl (cI, 22, .inl (gl [m0, m1, ((m2 + 1) &&& 15), m3, m4, m5, m6, m7, m8, m9, m10, m11, m12, m13, m14, m15, m16, m17, 0, 4, 0, 16])))] H := hP
      have hD : va_D A [(a4, .inl (cI, 8, .inl (gl [o0, o1, o2, o3, (-1), (-1), (-1), (-1)]))), (a6, .inl (cI, 4000, .inl (pfX2_putBuffer_g_a6_f fb (pfX2_holderOf_2_1_r m5 o2 fb) 0 2))), (h, .inr (2, [.ref a0, .ref a1, .ref a2, .ref a3, .ref a4, .ref a5, .ref a6])), (a0, .inl (cI, 22, .inl (gl [m0, m1, ((m2 + 1) &&& 15), m3, m4, m5, m6, m7, m8, m9, m10, m11, m12, m13, m14, m15, m16, m17, 0, 4, 0, 16])))] := hD
      refine lv_iinc (v := (fi + 1)) (lv' := [(3, .int (fi + 1)), (5, .int (pfX2_holderOf_2_1_r m5 o2 fb)), (0, .ref h), (1, .int p1), (2, .int 0), (4, .int 2)]) hx hb dX2_moveUsed_78 hl (k := 4) rfl rfl (by decide) rfl (fun ls hl => ?_)
      refine lv_iinc (v := 3) (lv' := [(4, .int 3), (3, .int (fi + 1)), (5, .int (pfX2_holderOf_2_1_r m5 o2 fb)), (0, .ref h), (1, .int p1), (2, .int 0)]) hx hb dX2_moveUsed_81 hl (k := 5) rfl (by decide) (by decide) rfl (fun ls hl => ?_)
      refine lv_goto (tgt := 5) hx hb dX2_moveUsed_84 (by decide) ?_
      have e_m2 : (LSX2_moveUsed_2_m2 m5 o0 o1 o2 o3 p1 m2 fb fi) = (LSX2_moveUsed_3_m2 m5 o0 o1 o2 o3 p1 ((m2 + 1) &&& 15) (pfX2_putBuffer_g_a6_f fb (pfX2_holderOf_2_1_r m5 o2 fb) 0 2) (fi + 1)) := by rw [LSX2_moveUsed_2_m2, if_neg c_1, if_pos c_2]
      have e_fb : (LSX2_moveUsed_2_fb m5 o0 o1 o2 o3 p1 m2 fb fi) = (LSX2_moveUsed_3_fb m5 o0 o1 o2 o3 p1 ((m2 + 1) &&& 15) (pfX2_putBuffer_g_a6_f fb (pfX2_holderOf_2_1_r m5 o2 fb) 0 2) (fi + 1)) := by rw [LSX2_moveUsed_2_fb, if_neg c_1, if_pos c_2]
      have e_fi : (LSX2_moveUsed_2_fi m5 o0 o1 o2 o3 p1 m2 fb fi) = (LSX2_moveUsed_3_fi m5 o0 o1 o2 o3 p1 ((m2 + 1) &&& 15) (pfX2_putBuffer_g_a6_f fb (pfX2_holderOf_2_1_r m5 o2 fb) 0 2) (fi + 1)) := by rw [LSX2_moveUsed_2_fi, if_neg c_1, if_pos c_2]
      have hP := hP.sub (ws' := [(h, .inr (2, [.ref a0, .ref a1, .ref a2, .ref a3, .ref a4, .ref a5, .ref a6])), (a0, .inl (cI, 22, .inl (gl [m0, m1, ((m2 + 1) &&& 15), m3, m4, m5, m6, m7, m8, m9, m10, m11, m12, m13, m14, m15, m16, m17, 0, 4, 0, 16]))), (a4, .inl (cI, 8, .inl (gl [o0, o1, o2, o3, (-1), (-1), (-1), (-1)]))), (a6, .inl (cI, 4000, .inl (pfX2_putBuffer_g_a6_f fb (pfX2_holderOf_2_1_r m5 o2 fb) 0 2)))]) [2, 3, 0, 1] rfl
      have hD := hD.sub (ws' := [(h, .inr (2, [.ref a0, .ref a1, .ref a2, .ref a3, .ref a4, .ref a5, .ref a6])), (a0, .inl (cI, 22, .inl (gl [m0, m1, ((m2 + 1) &&& 15), m3, m4, m5, m6, m7, m8, m9, m10, m11, m12, m13, m14, m15, m16, m17, 0, 4, 0, 16]))), (a4, .inl (cI, 8, .inl (gl [o0, o1, o2, o3, (-1), (-1), (-1), (-1)]))), (a6, .inl (cI, 4000, .inl (pfX2_putBuffer_g_a6_f fb (pfX2_holderOf_2_1_r m5 o2 fb) 0 2)))]) [2, 3, 0, 1] (by decide) rfl
      exact LSX2_moveUsed_3 dC dI cI cB cZ cR h a0 a1 a2 a3 a4 a5 a6 m0 m1 m3 m4 m5 m6 m7 m8 m9 m10 m11 m12 m13 m14 m15 m16 m17 o0 o1 o2 o3 p1 ((m2 + 1) &&& 15) (pfX2_putBuffer_g_a6_f fb (pfX2_holderOf_2_1_r m5 o2 fb) 0 2) (fi + 1) hx hb hml hts hown hN hK hA hRf hRl hRc hRs (fun H locs ls hP hD hS hl => k87 _ _ _ (by rw [e_m2, e_fb]; exact hP) (by rw [e_m2, e_fb]; exact hD) hS (by rw [e_fi]; exact hl)) _ _ _ hP hD hS (lv_sub hl [3, 4, 5, 1, 0] rfl)

def LSX2_moveUsed_1_m2 (m5 : Int32) (o0 : Int32) (o1 : Int32) (o2 : Int32) (o3 : Int32) (p1 : Int32) (m2 : Int32) (fb : Nat → Int32) (fi : Int32) : Int32 := if (pfX2_holderOf_1_1_r m5 o1 fb) = (-1) then (LSX2_moveUsed_2_m2 m5 o0 o1 o2 o3 p1 m2 fb fi) else (if (pfX2_holderOf_1_1_r m5 o1 fb) = p1 then (LSX2_moveUsed_2_m2 m5 o0 o1 o2 o3 p1 ((m2 + 1) &&& 15) (pfX2_putBuffer_g_a6_f fb (pfX2_holderOf_1_1_r m5 o1 fb) 0 2) (fi + 1)) else (LSX2_moveUsed_2_m2 m5 o0 o1 o2 o3 p1 m2 fb fi))
def LSX2_moveUsed_1_fb (m5 : Int32) (o0 : Int32) (o1 : Int32) (o2 : Int32) (o3 : Int32) (p1 : Int32) (m2 : Int32) (fb : Nat → Int32) (fi : Int32) : Nat → Int32 := if (pfX2_holderOf_1_1_r m5 o1 fb) = (-1) then (LSX2_moveUsed_2_fb m5 o0 o1 o2 o3 p1 m2 fb fi) else (if (pfX2_holderOf_1_1_r m5 o1 fb) = p1 then (LSX2_moveUsed_2_fb m5 o0 o1 o2 o3 p1 ((m2 + 1) &&& 15) (pfX2_putBuffer_g_a6_f fb (pfX2_holderOf_1_1_r m5 o1 fb) 0 2) (fi + 1)) else (LSX2_moveUsed_2_fb m5 o0 o1 o2 o3 p1 m2 fb fi))
def LSX2_moveUsed_1_fi (m5 : Int32) (o0 : Int32) (o1 : Int32) (o2 : Int32) (o3 : Int32) (p1 : Int32) (m2 : Int32) (fb : Nat → Int32) (fi : Int32) : Int32 := if (pfX2_holderOf_1_1_r m5 o1 fb) = (-1) then (LSX2_moveUsed_2_fi m5 o0 o1 o2 o3 p1 m2 fb fi) else (if (pfX2_holderOf_1_1_r m5 o1 fb) = p1 then (LSX2_moveUsed_2_fi m5 o0 o1 o2 o3 p1 ((m2 + 1) &&& 15) (pfX2_putBuffer_g_a6_f fb (pfX2_holderOf_1_1_r m5 o1 fb) 0 2) (fi + 1)) else (LSX2_moveUsed_2_fi m5 o0 o1 o2 o3 p1 m2 fb fi))
set_option maxHeartbeats 4000000 in
set_option maxRecDepth 100000 in
theorem LSX2_moveUsed_1 {p : Program} {l : Launch} {e : Env} {R : Room} {s : State} {m : MethodId} {args : Array Value} {below : List Frame} {meth : Method} {c : Code} {Q : State → Prop} {A : Nat → Prop} {cells slots : Nat} (dC : Nat → ClassId) (dI : Nat → Nat → Nat) (cI cB cZ cR : ClassId) (h : Nat) (a0 : Nat) (a1 : Nat) (a2 : Nat) (a3 : Nat) (a4 : Nat) (a5 : Nat) (a6 : Nat) (m0 : Int32) (m1 : Int32) (m3 : Int32) (m4 : Int32) (m5 : Int32) (m6 : Int32) (m7 : Int32) (m8 : Int32) (m9 : Int32) (m10 : Int32) (m11 : Int32) (m12 : Int32) (m13 : Int32) (m14 : Int32) (m15 : Int32) (m16 : Int32) (m17 : Int32) (o0 : Int32) (o1 : Int32) (o2 : Int32) (o3 : Int32) (p1 : Int32) (m2 : Int32) (fb : Nat → Int32) (fi : Int32) (hx : p.tables.exec = Jvm.exec) (hb : c.code = cX2_moveUsed) (hml : c.maxLocals = 6) (hts : ∀ w ∈ (.code yX2_moveUsed cX2_moveUsed 6 (some .int) :: wsL_law), w.before args s = true) (hown : s.vm.findClass RX2 = some m.cls) (hN : zN s) (hK : va_K (dC, dI) vwCl (zT cI cB cZ cR) s) (hA : ∀ q : Nat, s.heap.size ≤ q → A q) (hRf : 2 ≤ R.frames) (hRl : 46 ≤ R.locals) (hRc : cells ≤ R.cells) (hRs : slots ≤ R.slots)
    (k87 : ∀ (H : Heap) (locs : List Loc) (ls : Array Slot), va_P (dC, dI) vwCl [(h, .inr (2, [.ref a0, .ref a1, .ref a2, .ref a3, .ref a4, .ref a5, .ref a6])), (a0, .inl (cI, 22, .inl (gl [m0, m1, (LSX2_moveUsed_1_m2 m5 o0 o1 o2 o3 p1 m2 fb fi), m3, m4, m5, m6, m7, m8, m9, m10, m11, m12, m13, m14, m15, m16, m17, 0, 4, 0, 16]))), (a4, .inl (cI, 8, .inl (gl [o0, o1, o2, o3, (-1), (-1), (-1), (-1)]))), (a6, .inl (cI, 4000, .inl (LSX2_moveUsed_1_fb m5 o0 o1 o2 o3 p1 m2 fb fi)))] H → va_D A [(h, .inr (2, [.ref a0, .ref a1, .ref a2, .ref a3, .ref a4, .ref a5, .ref a6])), (a0, .inl (cI, 22, .inl (gl [m0, m1, (LSX2_moveUsed_1_m2 m5 o0 o1 o2 o3 p1 m2 fb fi), m3, m4, m5, m6, m7, m8, m9, m10, m11, m12, m13, m14, m15, m16, m17, 0, 4, 0, 16]))), (a4, .inl (cI, 8, .inl (gl [o0, o1, o2, o3, (-1), (-1), (-1), (-1)]))), (a6, .inl (cI, 4000, .inl (LSX2_moveUsed_1_fb m5 o0 o1 o2 o3 p1 m2 fb fi)))] → va_S A s.heap H locs → lv_has ls 6 [(0, .ref h), (3, .int (LSX2_moveUsed_1_fi m5 o0 o1 o2 o3 p1 m2 fb fi))] → W p l e R s m args below meth c H locs cells slots Q (F0 m 87 ls []))
    : ∀ (H : Heap) (locs : List Loc) (ls : Array Slot), va_P (dC, dI) vwCl [(h, .inr (2, [.ref a0, .ref a1, .ref a2, .ref a3, .ref a4, .ref a5, .ref a6])), (a0, .inl (cI, 22, .inl (gl [m0, m1, m2, m3, m4, m5, m6, m7, m8, m9, m10, m11, m12, m13, m14, m15, m16, m17, 0, 4, 0, 16]))), (a4, .inl (cI, 8, .inl (gl [o0, o1, o2, o3, (-1), (-1), (-1), (-1)]))), (a6, .inl (cI, 4000, .inl fb))] H → va_D A [(h, .inr (2, [.ref a0, .ref a1, .ref a2, .ref a3, .ref a4, .ref a5, .ref a6])), (a0, .inl (cI, 22, .inl (gl [m0, m1, m2, m3, m4, m5, m6, m7, m8, m9, m10, m11, m12, m13, m14, m15, m16, m17, 0, 4, 0, 16]))), (a4, .inl (cI, 8, .inl (gl [o0, o1, o2, o3, (-1), (-1), (-1), (-1)]))), (a6, .inl (cI, 4000, .inl fb))] → va_S A s.heap H locs → lv_has ls 6 [(0, .ref h), (1, .int p1), (2, .int 0), (3, .int fi), (4, .int 1)] → W p l e R s m args below meth c H locs cells slots Q (F0 m 5 ls []) := by
  have hinX2 : ∀ w ∈ u_ws RX2 TX2 7, w ∈ (.code yX2_moveUsed cX2_moveUsed 6 (some .int) :: wsL_law) := fun w h => List.mem_cons_of_mem _ (inlX2 w h)
  have k_0 := hts (.fieldLink RX2 11 "RingMarks$Ring" "marks" "[I") (List.mem_cons_of_mem _ wm_61)
  intro H locs ls hP hD hS hl
  refine lv_iload hx hb dX2_moveUsed_5 (lv_at hl 4 rfl) ?_
  refine lv_aload_n hx hb dX2_moveUsed_7 rfl (lv_at hl 0 rfl) ?_
  refine zcVi (As := []) (rest := [.int 1]) (wr := [(a4, .inl (cI, 8, .inl (gl [o0, o1, o2, o3, (-1), (-1), (-1), (-1)]))), (a6, .inl (cI, 4000, .inl fb))]) ⟨hx, hb, hml, hown, hts⟩ (kkX2_places l dC dI cI cB cZ cR H.size h a0 a1 a2 a3 a4 a5 a6 m0 m1 m2 m3 m4 m5 m6 m7 m8 m9 m10 m11 m12 m13 m14 m15 m16 m17 ) (cwV 0 hts (zgV wm_259 wm_260 wm_261 wm_22 wm_262) rfl rfl rfl (by decide +kernel) ⟨Nat.le_trans (Nat.le_of_ble_eq_true rfl) hRf, Nat.le_trans (Nat.le_of_ble_eq_true rfl) hRl⟩) hN hK hP hD hS hA [0, 1] [2, 3] rfl rfl ⟨rfl, rfl⟩ (by decide) (ci := 2) rfl rfl rfl rfl hl.1 rfl (Nat.le_of_ble_eq_true rfl) dX2_moveUsed_8 ⟨hRc, hRs⟩ (fun r u hu H locs hP hD hS => ?_)
  have hu : r = 4 := hu
  subst hu
  have hP : va_P (dC, dI) vwCl [(a4, .inl (cI, 8, .inl (gl [o0, o1, o2, o3, (-1), (-1), (-1), (-1)]))), (a6, .inl (cI, 4000, .inl fb)), (h, .inr (2, [.ref a0, .ref a1, .ref a2, .ref a3, .ref a4, .ref a5, .ref a6])), (a0, .inl (cI, 22, .inl (gl [m0, m1, m2, m3, m4, m5, m6, m7, m8, m9, m10, m11, m12, m13, m14, m15, m16, m17, 0, 4, 0, 16])))] H := hP
  have hD : va_D A [(a4, .inl (cI, 8, .inl (gl [o0, o1, o2, o3, (-1), (-1), (-1), (-1)]))), (a6, .inl (cI, 4000, .inl fb)), (h, .inr (2, [.ref a0, .ref a1, .ref a2, .ref a3, .ref a4, .ref a5, .ref a6])), (a0, .inl (cI, 22, .inl (gl [m0, m1, m2, m3, m4, m5, m6, m7, m8, m9, m10, m11, m12, m13, m14, m15, m16, m17, 0, 4, 0, 16])))] := hD
  refine lv_icmp_ge (tgt := 87) hx hb dX2_moveUsed_11 (by decide) (fun c => absurd c (by decide)) (fun _ => ?_)
  refine lv_aload_n hx hb dX2_moveUsed_14 rfl (lv_at hl 0 rfl) ?_
  refine lv_iload hx hb dX2_moveUsed_15 (lv_at hl 4 rfl) ?_
  refine lv_iconst (v := 1) hx hb dX2_moveUsed_17 (by decide) ?_
  refine zcVi (As := [.int 1, .int 1]) (rest := []) (wr := []) ⟨hx, hb, hml, hown, hts⟩ (kkX2_holderOf_1_1 l dC dI cI cB cZ cR H.size h a0 a1 a2 a3 a4 a5 a6 m0 m1 m2 m3 m4 m5 m6 m7 m8 m9 m10 m11 m12 m13 m14 m15 m16 m17 o0 o1 o2 o3 fb ) (cwV 2 hts (zgV wm_488 wm_489 wm_490 wm_22 wm_491) rfl rfl rfl (by decide +kernel) ⟨Nat.le_trans (Nat.le_of_ble_eq_true rfl) hRf, Nat.le_trans (Nat.le_of_ble_eq_true rfl) hRl⟩) hN hK hP hD hS hA [2, 3, 0, 1] [] rfl rfl ⟨rfl, rfl⟩ (by decide) (ci := 2) rfl rfl rfl rfl hl.1 rfl (Nat.le_of_ble_eq_true rfl) dX2_moveUsed_18 ⟨hRc, hRs⟩ (fun r u hu H locs hP hD hS => ?_)
  have hu : r = (pfX2_holderOf_1_1_r m5 o1 fb) := hu
  subst hu
  have hP : va_P (dC, dI) vwCl [(h, .inr (2, [.ref a0, .ref a1, .ref a2, .ref a3, .ref a4, .ref a5, .ref a6])), (a0, .inl (cI, 22, .inl (gl [m0, m1, m2, m3, m4, m5, m6, m7, m8, m9, m10, m11, m12, m13, m14, m15, m16, m17, 0, 4, 0, 16]))), (a4, .inl (cI, 8, .inl (gl [o0, o1, o2, o3, (-1), (-1), (-1), (-1)]))), (a6, .inl (cI, 4000, .inl fb))] H := hP
  have hD : va_D A [(h, .inr (2, [.ref a0, .ref a1, .ref a2, .ref a3, .ref a4, .ref a5, .ref a6])), (a0, .inl (cI, 22, .inl (gl [m0, m1, m2, m3, m4, m5, m6, m7, m8, m9, m10, m11, m12, m13, m14, m15, m16, m17, 0, 4, 0, 16]))), (a4, .inl (cI, 8, .inl (gl [o0, o1, o2, o3, (-1), (-1), (-1), (-1)]))), (a6, .inl (cI, 4000, .inl fb))] := hD
  refine lv_istore (lv' := [(5, .int (pfX2_holderOf_1_1_r m5 o1 fb)), (0, .ref h), (1, .int p1), (2, .int 0), (3, .int fi), (4, .int 1)]) hx hb dX2_moveUsed_21 hl (by decide) rfl (fun ls hl => ?_)
  refine lv_iload hx hb dX2_moveUsed_23 (lv_at hl 0 rfl) ?_
  refine lv_iconst (v := (-1)) hx hb dX2_moveUsed_25 (by decide) ?_
  refine lv_icmp_eq (tgt := 81) hx hb dX2_moveUsed_26 (by decide) (fun c_1 => ?_) (fun c_1 => ?_)
  · refine lv_iinc (v := 2) (lv' := [(4, .int 2), (5, .int (pfX2_holderOf_1_1_r m5 o1 fb)), (0, .ref h), (1, .int p1), (2, .int 0), (3, .int fi)]) hx hb dX2_moveUsed_81 hl (k := 5) rfl (by decide) (by decide) rfl (fun ls hl => ?_)
    refine lv_goto (tgt := 5) hx hb dX2_moveUsed_84 (by decide) ?_
    have e_m2 : (LSX2_moveUsed_1_m2 m5 o0 o1 o2 o3 p1 m2 fb fi) = (LSX2_moveUsed_2_m2 m5 o0 o1 o2 o3 p1 m2 fb fi) := by rw [LSX2_moveUsed_1_m2, if_pos c_1]
    have e_fb : (LSX2_moveUsed_1_fb m5 o0 o1 o2 o3 p1 m2 fb fi) = (LSX2_moveUsed_2_fb m5 o0 o1 o2 o3 p1 m2 fb fi) := by rw [LSX2_moveUsed_1_fb, if_pos c_1]
    have e_fi : (LSX2_moveUsed_1_fi m5 o0 o1 o2 o3 p1 m2 fb fi) = (LSX2_moveUsed_2_fi m5 o0 o1 o2 o3 p1 m2 fb fi) := by rw [LSX2_moveUsed_1_fi, if_pos c_1]
    have hP := hP.sub (ws' := [(h, .inr (2, [.ref a0, .ref a1, .ref a2, .ref a3, .ref a4, .ref a5, .ref a6])), (a0, .inl (cI, 22, .inl (gl [m0, m1, m2, m3, m4, m5, m6, m7, m8, m9, m10, m11, m12, m13, m14, m15, m16, m17, 0, 4, 0, 16]))), (a4, .inl (cI, 8, .inl (gl [o0, o1, o2, o3, (-1), (-1), (-1), (-1)]))), (a6, .inl (cI, 4000, .inl fb))]) [0, 1, 2, 3] rfl
    have hD := hD.sub (ws' := [(h, .inr (2, [.ref a0, .ref a1, .ref a2, .ref a3, .ref a4, .ref a5, .ref a6])), (a0, .inl (cI, 22, .inl (gl [m0, m1, m2, m3, m4, m5, m6, m7, m8, m9, m10, m11, m12, m13, m14, m15, m16, m17, 0, 4, 0, 16]))), (a4, .inl (cI, 8, .inl (gl [o0, o1, o2, o3, (-1), (-1), (-1), (-1)]))), (a6, .inl (cI, 4000, .inl fb))]) [0, 1, 2, 3] (by decide) rfl
    exact LSX2_moveUsed_2 dC dI cI cB cZ cR h a0 a1 a2 a3 a4 a5 a6 m0 m1 m3 m4 m5 m6 m7 m8 m9 m10 m11 m12 m13 m14 m15 m16 m17 o0 o1 o2 o3 p1 m2 fb fi hx hb hml hts hown hN hK hA hRf hRl hRc hRs (fun H locs ls hP hD hS hl => k87 _ _ _ (by rw [e_m2, e_fb]; exact hP) (by rw [e_m2, e_fb]; exact hD) hS (by rw [e_fi]; exact hl)) _ _ _ hP hD hS (lv_sub hl [2, 3, 4, 5, 0] rfl)
  · refine lv_iload_n hx hb dX2_moveUsed_29 rfl (lv_at hl 3 rfl) ?_
    refine lv_if_eq (tgt := 42) hx hb dX2_moveUsed_30 (by decide) (fun _ => ?_) (fun c => absurd (by decide) c)
    refine lv_iload hx hb dX2_moveUsed_42 (lv_at hl 0 rfl) ?_
    refine lv_iload_n hx hb dX2_moveUsed_44 rfl (lv_at hl 2 rfl) ?_
    refine lv_icmp_ne (tgt := 81) hx hb dX2_moveUsed_45 (by decide) (fun c_2 => ?_) (fun c_2 => ?_)
    · refine lv_iinc (v := 2) (lv' := [(4, .int 2), (5, .int (pfX2_holderOf_1_1_r m5 o1 fb)), (0, .ref h), (1, .int p1), (2, .int 0), (3, .int fi)]) hx hb dX2_moveUsed_81 hl (k := 5) rfl (by decide) (by decide) rfl (fun ls hl => ?_)
      refine lv_goto (tgt := 5) hx hb dX2_moveUsed_84 (by decide) ?_
      have e_m2 : (LSX2_moveUsed_1_m2 m5 o0 o1 o2 o3 p1 m2 fb fi) = (LSX2_moveUsed_2_m2 m5 o0 o1 o2 o3 p1 m2 fb fi) := by rw [LSX2_moveUsed_1_m2, if_neg c_1, if_neg c_2]
      have e_fb : (LSX2_moveUsed_1_fb m5 o0 o1 o2 o3 p1 m2 fb fi) = (LSX2_moveUsed_2_fb m5 o0 o1 o2 o3 p1 m2 fb fi) := by rw [LSX2_moveUsed_1_fb, if_neg c_1, if_neg c_2]
      have e_fi : (LSX2_moveUsed_1_fi m5 o0 o1 o2 o3 p1 m2 fb fi) = (LSX2_moveUsed_2_fi m5 o0 o1 o2 o3 p1 m2 fb fi) := by rw [LSX2_moveUsed_1_fi, if_neg c_1, if_neg c_2]
      have hP := hP.sub (ws' := [(h, .inr (2, [.ref a0, .ref a1, .ref a2, .ref a3, .ref a4, .ref a5, .ref a6])), (a0, .inl (cI, 22, .inl (gl [m0, m1, m2, m3, m4, m5, m6, m7, m8, m9, m10, m11, m12, m13, m14, m15, m16, m17, 0, 4, 0, 16]))), (a4, .inl (cI, 8, .inl (gl [o0, o1, o2, o3, (-1), (-1), (-1), (-1)]))), (a6, .inl (cI, 4000, .inl fb))]) [0, 1, 2, 3] rfl
      have hD := hD.sub (ws' := [(h, .inr (2, [.ref a0, .ref a1, .ref a2, .ref a3, .ref a4, .ref a5, .ref a6])), (a0, .inl (cI, 22, .inl (gl [m0, m1, m2, m3, m4, m5, m6, m7, m8, m9, m10, m11, m12, m13, m14, m15, m16, m17, 0, 4, 0, 16]))), (a4, .inl (cI, 8, .inl (gl [o0, o1, o2, o3, (-1), (-1), (-1), (-1)]))), (a6, .inl (cI, 4000, .inl fb))]) [0, 1, 2, 3] (by decide) rfl
      exact LSX2_moveUsed_2 dC dI cI cB cZ cR h a0 a1 a2 a3 a4 a5 a6 m0 m1 m3 m4 m5 m6 m7 m8 m9 m10 m11 m12 m13 m14 m15 m16 m17 o0 o1 o2 o3 p1 m2 fb fi hx hb hml hts hown hN hK hA hRf hRl hRc hRs (fun H locs ls hP hD hS hl => k87 _ _ _ (by rw [e_m2, e_fb]; exact hP) (by rw [e_m2, e_fb]; exact hD) hS (by rw [e_fi]; exact hl)) _ _ _ hP hD hS (lv_sub hl [2, 3, 4, 5, 0] rfl)
    · refine lv_aload_n hx hb dX2_moveUsed_48 rfl (lv_at hl 1 rfl) ?_
      refine lv_iload hx hb dX2_moveUsed_49 (lv_at hl 0 rfl) ?_
      refine lv_iconst (v := 0) hx hb dX2_moveUsed_51 (by decide) ?_
      refine lv_iconst (v := 2) hx hb dX2_moveUsed_52 (by decide) ?_
      refine zcVv (As := [.int (pfX2_holderOf_1_1_r m5 o1 fb), .int 0, .int 2]) (rest := []) (wr := [(a0, .inl (cI, 22, .inl (gl [m0, m1, m2, m3, m4, m5, m6, m7, m8, m9, m10, m11, m12, m13, m14, m15, m16, m17, 0, 4, 0, 16]))), (a4, .inl (cI, 8, .inl (gl [o0, o1, o2, o3, (-1), (-1), (-1), (-1)])))]) ⟨hx, hb, hml, hown, hts⟩ (kkX2_putBuffer_g l dC dI cI cB cZ cR H.size h a0 a1 a2 a3 a4 a5 a6 fb (pfX2_holderOf_1_1_r m5 o1 fb) 0 2 ) (cwV 3 hts (zgV wm_278 wm_279 wm_280 wm_22 wm_281) rfl rfl rfl (by decide +kernel) ⟨Nat.le_trans (Nat.le_of_ble_eq_true rfl) hRf, Nat.le_trans (Nat.le_of_ble_eq_true rfl) hRl⟩) hN hK hP hD hS hA [0, 3] [1, 2] rfl rfl ⟨rfl, rfl⟩ (by decide) (ci := 2) rfl rfl rfl rfl hl.1 rfl (Nat.le_of_ble_eq_true rfl) dX2_moveUsed_53 ⟨hRc, hRs⟩ (fun u hu H locs hP hD hS => ?_)
      have hP : va_P (dC, dI) vwCl [(a0, .inl (cI, 22, .inl (gl [m0, m1, m2, m3, m4, m5, m6, m7, m8, m9, m10, m11, m12, m13, m14, m15, m16, m17, 0, 4, 0, 16]))), (a4, .inl (cI, 8, .inl (gl [o0, o1, o2, o3, (-1), (-1), (-1), (-1)]))), (h, .inr (2, [.ref a0, .ref a1, .ref a2, .ref a3, .ref a4, .ref a5, .ref a6])), (a6, .inl (cI, 4000, .inl (pfX2_putBuffer_g_a6_f fb (pfX2_holderOf_1_1_r m5 o1 fb) 0 2)))] H := hP
      have hD : va_D A [(a0, .inl (cI, 22, .inl (gl [m0, m1, m2, m3, m4, m5, m6, m7, m8, m9, m10, m11, m12, m13, m14, m15, m16, m17, 0, 4, 0, 16]))), (a4, .inl (cI, 8, .inl (gl [o0, o1, o2, o3, (-1), (-1), (-1), (-1)]))), (h, .inr (2, [.ref a0, .ref a1, .ref a2, .ref a3, .ref a4, .ref a5, .ref a6])), (a6, .inl (cI, 4000, .inl (pfX2_putBuffer_g_a6_f fb (pfX2_holderOf_1_1_r m5 o1 fb) 0 2)))] := hD
      refine lv_aload_n hx hb dX2_moveUsed_56 rfl (lv_at hl 1 rfl) ?_
      refine va_get (D := (dC, dI)) (ci := 2) (v := .ref a0) (C := RX2) (T := TX2) (N := 7) hx hb hts hinX2 hown hK hP 2 rfl rfl 0 (by decide) k_0 (fun _ h9 => h9) rfl dX2_moveUsed_57 ?_
      refine lv_iconst (v := 2) hx hb dX2_moveUsed_60 (by decide) ?_
      refine lv_aload_n hx hb dX2_moveUsed_61 rfl (lv_at hl 1 rfl) ?_
      refine lv_aload_n hx hb dX2_moveUsed_62 rfl (lv_at hl 1 rfl) ?_
      refine va_get (D := (dC, dI)) (ci := 2) (v := .ref a0) (C := RX2) (T := TX2) (N := 7) hx hb hts hinX2 hown hK hP 2 rfl rfl 0 (by decide) k_0 (fun _ h9 => h9) rfl dX2_moveUsed_63 ?_
      refine lv_iconst (v := 2) hx hb dX2_moveUsed_66 (by decide) ?_
      refine za_iald (v := m2) hx hb hK hP 0 0 rfl rfl (zin tn_2 (Nat.le_of_ble_eq_true rfl)) (zrd _ tn_2 rfl) dX2_moveUsed_67 ?_
      refine lv_aload_n hx hb dX2_moveUsed_68 rfl (lv_at hl 1 rfl) ?_
      refine lv_iload hx hb dX2_moveUsed_69 (lv_at hl 0 rfl) ?_
      refine zcVi (As := [.int (pfX2_holderOf_1_1_r m5 o1 fb)]) (rest := [.int m2, .ref h, .int 2, .ref a0]) (wr := [(a4, .inl (cI, 8, .inl (gl [o0, o1, o2, o3, (-1), (-1), (-1), (-1)]))), (a6, .inl (cI, 4000, .inl (pfX2_putBuffer_g_a6_f fb (pfX2_holderOf_1_1_r m5 o1 fb) 0 2)))]) ⟨hx, hb, hml, hown, hts⟩ (kkX2_strideOf l dC dI cI cB cZ cR H.size h a0 a1 a2 a3 a4 a5 a6 m0 m1 m2 m3 m4 m5 m6 m7 m8 m9 m10 m11 m12 m13 m14 m15 m16 m17 (pfX2_holderOf_1_1_r m5 o1 fb) ) (cwV 1 hts (zgV wm_564 wm_565 wm_566 wm_22 wm_567) rfl rfl rfl (by decide +kernel) ⟨Nat.le_trans (Nat.le_of_ble_eq_true rfl) hRf, Nat.le_trans (Nat.le_of_ble_eq_true rfl) hRl⟩) hN hK hP hD hS hA [2, 0] [1, 3] rfl rfl ⟨rfl, rfl⟩ (by decide) (ci := 2) rfl rfl rfl rfl hl.1 rfl (Nat.le_of_ble_eq_true rfl) dX2_moveUsed_71 ⟨hRc, hRs⟩ (fun r u hu H locs hP hD hS => ?_)
      have hu : r = 1 := hu
      subst hu
      have hP : va_P (dC, dI) vwCl [(a4, .inl (cI, 8, .inl (gl [o0, o1, o2, o3, (-1), (-1), (-1), (-1)]))), (a6, .inl (cI, 4000, .inl (pfX2_putBuffer_g_a6_f fb (pfX2_holderOf_1_1_r m5 o1 fb) 0 2))), (h, .inr (2, [.ref a0, .ref a1, .ref a2, .ref a3, .ref a4, .ref a5, .ref a6])), (a0, .inl (cI, 22, .inl (gl [m0, m1, m2, m3, m4, m5, m6, m7, m8, m9, m10, m11, m12, m13, m14, m15, m16, m17, 0, 4, 0, 16])))] H := hP
      have hD : va_D A [(a4, .inl (cI, 8, .inl (gl [o0, o1, o2, o3, (-1), (-1), (-1), (-1)]))), (a6, .inl (cI, 4000, .inl (pfX2_putBuffer_g_a6_f fb (pfX2_holderOf_1_1_r m5 o1 fb) 0 2))), (h, .inr (2, [.ref a0, .ref a1, .ref a2, .ref a3, .ref a4, .ref a5, .ref a6])), (a0, .inl (cI, 22, .inl (gl [m0, m1, m2, m3, m4, m5, m6, m7, m8, m9, m10, m11, m12, m13, m14, m15, m16, m17, 0, 4, 0, 16])))] := hD
      refine zcVi (As := [.int m2, .int 1]) (rest := [.int 2, .ref a0]) (wr := [(a4, .inl (cI, 8, .inl (gl [o0, o1, o2, o3, (-1), (-1), (-1), (-1)]))), (a6, .inl (cI, 4000, .inl (pfX2_putBuffer_g_a6_f fb (pfX2_holderOf_1_1_r m5 o1 fb) 0 2)))]) ⟨hx, hb, hml, hown, hts⟩ (kkX2_moved l dC dI cI cB cZ cR H.size h a0 a1 a2 a3 a4 a5 a6 m0 m1 m2 m3 m4 m5 m6 m7 m8 m9 m10 m11 m12 m13 m14 m15 m16 m17 m2 1 ) (cwV 2 hts (zgV wm_302 wm_303 wm_304 wm_22 wm_305) rfl rfl rfl (by decide +kernel) ⟨Nat.le_trans (Nat.le_of_ble_eq_true rfl) hRf, Nat.le_trans (Nat.le_of_ble_eq_true rfl) hRl⟩) hN hK hP hD hS hA [2, 3] [0, 1] rfl rfl ⟨rfl, rfl⟩ (by decide) (ci := 2) rfl rfl rfl rfl hl.1 rfl (Nat.le_of_ble_eq_true rfl) dX2_moveUsed_74 ⟨hRc, hRs⟩ (fun r u hu H locs hP hD hS => ?_)
      have hu : r = ((m2 + 1) &&& 15) := hu
      subst hu
      have hP : va_P (dC, dI) vwCl [(a4, .inl (cI, 8, .inl (gl [o0, o1, o2, o3, (-1), (-1), (-1), (-1)]))), (a6, .inl (cI, 4000, .inl (pfX2_putBuffer_g_a6_f fb (pfX2_holderOf_1_1_r m5 o1 fb) 0 2))), (h, .inr (2, [.ref a0, .ref a1, .ref a2, .ref a3, .ref a4, .ref a5, .ref a6])), (a0, .inl (cI, 22, .inl (gl [m0, m1, m2, m3, m4, m5, m6, m7, m8, m9, m10, m11, m12, m13, m14, m15, m16, m17, 0, 4, 0, 16])))] H := hP
      have hD : va_D A [(a4, .inl (cI, 8, .inl (gl [o0, o1, o2, o3, (-1), (-1), (-1), (-1)]))), (a6, .inl (cI, 4000, .inl (pfX2_putBuffer_g_a6_f fb (pfX2_holderOf_1_1_r m5 o1 fb) 0 2))), (h, .inr (2, [.ref a0, .ref a1, .ref a2, .ref a3, .ref a4, .ref a5, .ref a6])), (a0, .inl (cI, 22, .inl (gl [m0, m1, m2, m3, m4, m5, m6, m7, m8, m9, m10, m11, m12, m13, m14, m15, m16, m17, 0, 4, 0, 16])))] := hD
      refine za_iast (f' := (gl [m0, m1, ((m2 + 1) &&& 15), m3, m4, m5, m6, m7, m8, m9, m10, m11, m12, m13, m14, m15, m16, m17, 0, 4, 0, 16])) hx hb hK hP hD hS 3 0 rfl rfl (zin tn_2 (Nat.le_of_ble_eq_true rfl)) (zup_gl tn_2 (Nat.le_of_ble_eq_true rfl) rfl) dX2_moveUsed_77 (fun H locs hP hD hS => ?_)
      have hP : va_P (dC, dI) vwCl [(a4, .inl (cI, 8, .inl (gl [o0, o1, o2, o3, (-1), (-1), (-1), (-1)]))), (a6, .inl (cI, 4000, .inl (pfX2_putBuffer_g_a6_f fb (pfX2_holderOf_1_1_r m5 o1 fb) 0 2))), (h, .inr (2, [.ref a0, .ref a1, .ref a2, .ref a3, .ref a4, .ref a5, .ref a6])), (a0, .inl (cI, 22, .inl (gl [m0, m1, ((m2 + 1) &&& 15), m3, m4, m5, m6, m7, m8, m9, m10, m11, m12, m13, m14, m15, m16, m17, 0, 4, 0, 16])))] H := hP
      have hD : va_D A [(a4, .inl (cI, 8, .inl (gl [o0, o1, o2, o3, (-1), (-1), (-1), (-1)]))), (a6, .inl (cI, 4000, .inl (pfX2_putBuffer_g_a6_f fb (pfX2_holderOf_1_1_r m5 o1 fb) 0 2))), (h, .inr (2, [.ref a0, .ref a1, .ref a2, .ref a3, .ref a4, .ref a5, .ref a6])), (a0, .inl (cI, 22, .inl (gl [m0, m1, ((m2 + 1) &&& 15), m3, m4, m5, m6, m7, m8, m9, m10, m11, m12, m13, m14, m15, m16, m17, 0, 4, 0, 16])))] := hD
      refine lv_iinc (v := (fi + 1)) (lv' := [(3, .int (fi + 1)), (5, .int (pfX2_holderOf_1_1_r m5 o1 fb)), (0, .ref h), (1, .int p1), (2, .int 0), (4, .int 1)]) hx hb dX2_moveUsed_78 hl (k := 4) rfl rfl (by decide) rfl (fun ls hl => ?_)
      refine lv_iinc (v := 2) (lv' := [(4, .int 2), (3, .int (fi + 1)), (5, .int (pfX2_holderOf_1_1_r m5 o1 fb)), (0, .ref h), (1, .int p1), (2, .int 0)]) hx hb dX2_moveUsed_81 hl (k := 5) rfl (by decide) (by decide) rfl (fun ls hl => ?_)
      refine lv_goto (tgt := 5) hx hb dX2_moveUsed_84 (by decide) ?_
      have e_m2 : (LSX2_moveUsed_1_m2 m5 o0 o1 o2 o3 p1 m2 fb fi) = (LSX2_moveUsed_2_m2 m5 o0 o1 o2 o3 p1 ((m2 + 1) &&& 15) (pfX2_putBuffer_g_a6_f fb (pfX2_holderOf_1_1_r m5 o1 fb) 0 2) (fi + 1)) := by rw [LSX2_moveUsed_1_m2, if_neg c_1, if_pos c_2]
      have e_fb : (LSX2_moveUsed_1_fb m5 o0 o1 o2 o3 p1 m2 fb fi) = (LSX2_moveUsed_2_fb m5 o0 o1 o2 o3 p1 ((m2 + 1) &&& 15) (pfX2_putBuffer_g_a6_f fb (pfX2_holderOf_1_1_r m5 o1 fb) 0 2) (fi + 1)) := by rw [LSX2_moveUsed_1_fb, if_neg c_1, if_pos c_2]
      have e_fi : (LSX2_moveUsed_1_fi m5 o0 o1 o2 o3 p1 m2 fb fi) = (LSX2_moveUsed_2_fi m5 o0 o1 o2 o3 p1 ((m2 + 1) &&& 15) (pfX2_putBuffer_g_a6_f fb (pfX2_holderOf_1_1_r m5 o1 fb) 0 2) (fi + 1)) := by rw [LSX2_moveUsed_1_fi, if_neg c_1, if_pos c_2]
      have hP := hP.sub (ws' := [(h, .inr (2, [.ref a0, .ref a1, .ref a2, .ref a3, .ref a4, .ref a5, .ref a6])), (a0, .inl (cI, 22, .inl (gl [m0, m1, ((m2 + 1) &&& 15), m3, m4, m5, m6, m7, m8, m9, m10, m11, m12, m13, m14, m15, m16, m17, 0, 4, 0, 16]))), (a4, .inl (cI, 8, .inl (gl [o0, o1, o2, o3, (-1), (-1), (-1), (-1)]))), (a6, .inl (cI, 4000, .inl (pfX2_putBuffer_g_a6_f fb (pfX2_holderOf_1_1_r m5 o1 fb) 0 2)))]) [2, 3, 0, 1] rfl
      have hD := hD.sub (ws' := [(h, .inr (2, [.ref a0, .ref a1, .ref a2, .ref a3, .ref a4, .ref a5, .ref a6])), (a0, .inl (cI, 22, .inl (gl [m0, m1, ((m2 + 1) &&& 15), m3, m4, m5, m6, m7, m8, m9, m10, m11, m12, m13, m14, m15, m16, m17, 0, 4, 0, 16]))), (a4, .inl (cI, 8, .inl (gl [o0, o1, o2, o3, (-1), (-1), (-1), (-1)]))), (a6, .inl (cI, 4000, .inl (pfX2_putBuffer_g_a6_f fb (pfX2_holderOf_1_1_r m5 o1 fb) 0 2)))]) [2, 3, 0, 1] (by decide) rfl
      exact LSX2_moveUsed_2 dC dI cI cB cZ cR h a0 a1 a2 a3 a4 a5 a6 m0 m1 m3 m4 m5 m6 m7 m8 m9 m10 m11 m12 m13 m14 m15 m16 m17 o0 o1 o2 o3 p1 ((m2 + 1) &&& 15) (pfX2_putBuffer_g_a6_f fb (pfX2_holderOf_1_1_r m5 o1 fb) 0 2) (fi + 1) hx hb hml hts hown hN hK hA hRf hRl hRc hRs (fun H locs ls hP hD hS hl => k87 _ _ _ (by rw [e_m2, e_fb]; exact hP) (by rw [e_m2, e_fb]; exact hD) hS (by rw [e_fi]; exact hl)) _ _ _ hP hD hS (lv_sub hl [3, 4, 5, 1, 0] rfl)

def LSX2_moveUsed_0_m2 (m5 : Int32) (o0 : Int32) (o1 : Int32) (o2 : Int32) (o3 : Int32) (p1 : Int32) (m2 : Int32) (fb : Nat → Int32) (fi : Int32) : Int32 := if (pfX2_holderOf_0_1_r m5 o0 fb) = (-1) then (LSX2_moveUsed_1_m2 m5 o0 o1 o2 o3 p1 m2 fb fi) else (if (pfX2_holderOf_0_1_r m5 o0 fb) = p1 then (LSX2_moveUsed_1_m2 m5 o0 o1 o2 o3 p1 ((m2 + 1) &&& 15) (pfX2_putBuffer_g_a6_f fb (pfX2_holderOf_0_1_r m5 o0 fb) 0 2) (fi + 1)) else (LSX2_moveUsed_1_m2 m5 o0 o1 o2 o3 p1 m2 fb fi))
def LSX2_moveUsed_0_fb (m5 : Int32) (o0 : Int32) (o1 : Int32) (o2 : Int32) (o3 : Int32) (p1 : Int32) (m2 : Int32) (fb : Nat → Int32) (fi : Int32) : Nat → Int32 := if (pfX2_holderOf_0_1_r m5 o0 fb) = (-1) then (LSX2_moveUsed_1_fb m5 o0 o1 o2 o3 p1 m2 fb fi) else (if (pfX2_holderOf_0_1_r m5 o0 fb) = p1 then (LSX2_moveUsed_1_fb m5 o0 o1 o2 o3 p1 ((m2 + 1) &&& 15) (pfX2_putBuffer_g_a6_f fb (pfX2_holderOf_0_1_r m5 o0 fb) 0 2) (fi + 1)) else (LSX2_moveUsed_1_fb m5 o0 o1 o2 o3 p1 m2 fb fi))
def LSX2_moveUsed_0_fi (m5 : Int32) (o0 : Int32) (o1 : Int32) (o2 : Int32) (o3 : Int32) (p1 : Int32) (m2 : Int32) (fb : Nat → Int32) (fi : Int32) : Int32 := if (pfX2_holderOf_0_1_r m5 o0 fb) = (-1) then (LSX2_moveUsed_1_fi m5 o0 o1 o2 o3 p1 m2 fb fi) else (if (pfX2_holderOf_0_1_r m5 o0 fb) = p1 then (LSX2_moveUsed_1_fi m5 o0 o1 o2 o3 p1 ((m2 + 1) &&& 15) (pfX2_putBuffer_g_a6_f fb (pfX2_holderOf_0_1_r m5 o0 fb) 0 2) (fi + 1)) else (LSX2_moveUsed_1_fi m5 o0 o1 o2 o3 p1 m2 fb fi))
set_option maxHeartbeats 4000000 in
set_option maxRecDepth 100000 in
theorem LSX2_moveUsed_0 {p : Program} {l : Launch} {e : Env} {R : Room} {s : State} {m : MethodId} {args : Array Value} {below : List Frame} {meth : Method} {c : Code} {Q : State → Prop} {A : Nat → Prop} {cells slots : Nat} (dC : Nat → ClassId) (dI : Nat → Nat → Nat) (cI cB cZ cR : ClassId) (h : Nat) (a0 : Nat) (a1 : Nat) (a2 : Nat) (a3 : Nat) (a4 : Nat) (a5 : Nat) (a6 : Nat) (m0 : Int32) (m1 : Int32) (m3 : Int32) (m4 : Int32) (m5 : Int32) (m6 : Int32) (m7 : Int32) (m8 : Int32) (m9 : Int32) (m10 : Int32) (m11 : Int32) (m12 : Int32) (m13 : Int32) (m14 : Int32) (m15 : Int32) (m16 : Int32) (m17 : Int32) (o0 : Int32) (o1 : Int32) (o2 : Int32) (o3 : Int32) (p1 : Int32) (m2 : Int32) (fb : Nat → Int32) (fi : Int32) (hx : p.tables.exec = Jvm.exec) (hb : c.code = cX2_moveUsed) (hml : c.maxLocals = 6) (hts : ∀ w ∈ (.code yX2_moveUsed cX2_moveUsed 6 (some .int) :: wsL_law), w.before args s = true) (hown : s.vm.findClass RX2 = some m.cls) (hN : zN s) (hK : va_K (dC, dI) vwCl (zT cI cB cZ cR) s) (hA : ∀ q : Nat, s.heap.size ≤ q → A q) (hRf : 2 ≤ R.frames) (hRl : 46 ≤ R.locals) (hRc : cells ≤ R.cells) (hRs : slots ≤ R.slots)
    (k87 : ∀ (H : Heap) (locs : List Loc) (ls : Array Slot), va_P (dC, dI) vwCl [(h, .inr (2, [.ref a0, .ref a1, .ref a2, .ref a3, .ref a4, .ref a5, .ref a6])), (a0, .inl (cI, 22, .inl (gl [m0, m1, (LSX2_moveUsed_0_m2 m5 o0 o1 o2 o3 p1 m2 fb fi), m3, m4, m5, m6, m7, m8, m9, m10, m11, m12, m13, m14, m15, m16, m17, 0, 4, 0, 16]))), (a4, .inl (cI, 8, .inl (gl [o0, o1, o2, o3, (-1), (-1), (-1), (-1)]))), (a6, .inl (cI, 4000, .inl (LSX2_moveUsed_0_fb m5 o0 o1 o2 o3 p1 m2 fb fi)))] H → va_D A [(h, .inr (2, [.ref a0, .ref a1, .ref a2, .ref a3, .ref a4, .ref a5, .ref a6])), (a0, .inl (cI, 22, .inl (gl [m0, m1, (LSX2_moveUsed_0_m2 m5 o0 o1 o2 o3 p1 m2 fb fi), m3, m4, m5, m6, m7, m8, m9, m10, m11, m12, m13, m14, m15, m16, m17, 0, 4, 0, 16]))), (a4, .inl (cI, 8, .inl (gl [o0, o1, o2, o3, (-1), (-1), (-1), (-1)]))), (a6, .inl (cI, 4000, .inl (LSX2_moveUsed_0_fb m5 o0 o1 o2 o3 p1 m2 fb fi)))] → va_S A s.heap H locs → lv_has ls 6 [(0, .ref h), (3, .int (LSX2_moveUsed_0_fi m5 o0 o1 o2 o3 p1 m2 fb fi))] → W p l e R s m args below meth c H locs cells slots Q (F0 m 87 ls []))
    : ∀ (H : Heap) (locs : List Loc) (ls : Array Slot), va_P (dC, dI) vwCl [(h, .inr (2, [.ref a0, .ref a1, .ref a2, .ref a3, .ref a4, .ref a5, .ref a6])), (a0, .inl (cI, 22, .inl (gl [m0, m1, m2, m3, m4, m5, m6, m7, m8, m9, m10, m11, m12, m13, m14, m15, m16, m17, 0, 4, 0, 16]))), (a4, .inl (cI, 8, .inl (gl [o0, o1, o2, o3, (-1), (-1), (-1), (-1)]))), (a6, .inl (cI, 4000, .inl fb))] H → va_D A [(h, .inr (2, [.ref a0, .ref a1, .ref a2, .ref a3, .ref a4, .ref a5, .ref a6])), (a0, .inl (cI, 22, .inl (gl [m0, m1, m2, m3, m4, m5, m6, m7, m8, m9, m10, m11, m12, m13, m14, m15, m16, m17, 0, 4, 0, 16]))), (a4, .inl (cI, 8, .inl (gl [o0, o1, o2, o3, (-1), (-1), (-1), (-1)]))), (a6, .inl (cI, 4000, .inl fb))] → va_S A s.heap H locs → lv_has ls 6 [(0, .ref h), (1, .int p1), (2, .int 0), (3, .int fi), (4, .int 0)] → W p l e R s m args below meth c H locs cells slots Q (F0 m 5 ls []) := by
  have hinX2 : ∀ w ∈ u_ws RX2 TX2 7, w ∈ (.code yX2_moveUsed cX2_moveUsed 6 (some .int) :: wsL_law) := fun w h => List.mem_cons_of_mem _ (inlX2 w h)
  have k_0 := hts (.fieldLink RX2 11 "RingMarks$Ring" "marks" "[I") (List.mem_cons_of_mem _ wm_61)
  intro H locs ls hP hD hS hl
  refine lv_iload hx hb dX2_moveUsed_5 (lv_at hl 4 rfl) ?_
  refine lv_aload_n hx hb dX2_moveUsed_7 rfl (lv_at hl 0 rfl) ?_
  refine zcVi (As := []) (rest := [.int 0]) (wr := [(a4, .inl (cI, 8, .inl (gl [o0, o1, o2, o3, (-1), (-1), (-1), (-1)]))), (a6, .inl (cI, 4000, .inl fb))]) ⟨hx, hb, hml, hown, hts⟩ (kkX2_places l dC dI cI cB cZ cR H.size h a0 a1 a2 a3 a4 a5 a6 m0 m1 m2 m3 m4 m5 m6 m7 m8 m9 m10 m11 m12 m13 m14 m15 m16 m17 ) (cwV 0 hts (zgV wm_259 wm_260 wm_261 wm_22 wm_262) rfl rfl rfl (by decide +kernel) ⟨Nat.le_trans (Nat.le_of_ble_eq_true rfl) hRf, Nat.le_trans (Nat.le_of_ble_eq_true rfl) hRl⟩) hN hK hP hD hS hA [0, 1] [2, 3] rfl rfl ⟨rfl, rfl⟩ (by decide) (ci := 2) rfl rfl rfl rfl hl.1 rfl (Nat.le_of_ble_eq_true rfl) dX2_moveUsed_8 ⟨hRc, hRs⟩ (fun r u hu H locs hP hD hS => ?_)
  have hu : r = 4 := hu
  subst hu
  have hP : va_P (dC, dI) vwCl [(a4, .inl (cI, 8, .inl (gl [o0, o1, o2, o3, (-1), (-1), (-1), (-1)]))), (a6, .inl (cI, 4000, .inl fb)), (h, .inr (2, [.ref a0, .ref a1, .ref a2, .ref a3, .ref a4, .ref a5, .ref a6])), (a0, .inl (cI, 22, .inl (gl [m0, m1, m2, m3, m4, m5, m6, m7, m8, m9, m10, m11, m12, m13, m14, m15, m16, m17, 0, 4, 0, 16])))] H := hP
  have hD : va_D A [(a4, .inl (cI, 8, .inl (gl [o0, o1, o2, o3, (-1), (-1), (-1), (-1)]))), (a6, .inl (cI, 4000, .inl fb)), (h, .inr (2, [.ref a0, .ref a1, .ref a2, .ref a3, .ref a4, .ref a5, .ref a6])), (a0, .inl (cI, 22, .inl (gl [m0, m1, m2, m3, m4, m5, m6, m7, m8, m9, m10, m11, m12, m13, m14, m15, m16, m17, 0, 4, 0, 16])))] := hD
  refine lv_icmp_ge (tgt := 87) hx hb dX2_moveUsed_11 (by decide) (fun c => absurd c (by decide)) (fun _ => ?_)
  refine lv_aload_n hx hb dX2_moveUsed_14 rfl (lv_at hl 0 rfl) ?_
  refine lv_iload hx hb dX2_moveUsed_15 (lv_at hl 4 rfl) ?_
  refine lv_iconst (v := 1) hx hb dX2_moveUsed_17 (by decide) ?_
  refine zcVi (As := [.int 0, .int 1]) (rest := []) (wr := []) ⟨hx, hb, hml, hown, hts⟩ (kkX2_holderOf_0_1 l dC dI cI cB cZ cR H.size h a0 a1 a2 a3 a4 a5 a6 m0 m1 m2 m3 m4 m5 m6 m7 m8 m9 m10 m11 m12 m13 m14 m15 m16 m17 o0 o1 o2 o3 fb ) (cwV 2 hts (zgV wm_488 wm_489 wm_490 wm_22 wm_491) rfl rfl rfl (by decide +kernel) ⟨Nat.le_trans (Nat.le_of_ble_eq_true rfl) hRf, Nat.le_trans (Nat.le_of_ble_eq_true rfl) hRl⟩) hN hK hP hD hS hA [2, 3, 0, 1] [] rfl rfl ⟨rfl, rfl⟩ (by decide) (ci := 2) rfl rfl rfl rfl hl.1 rfl (Nat.le_of_ble_eq_true rfl) dX2_moveUsed_18 ⟨hRc, hRs⟩ (fun r u hu H locs hP hD hS => ?_)
  have hu : r = (pfX2_holderOf_0_1_r m5 o0 fb) := hu
  subst hu
  have hP : va_P (dC, dI) vwCl [(h, .inr (2, [.ref a0, .ref a1, .ref a2, .ref a3, .ref a4, .ref a5, .ref a6])), (a0, .inl (cI, 22, .inl (gl [m0, m1, m2, m3, m4, m5, m6, m7, m8, m9, m10, m11, m12, m13, m14, m15, m16, m17, 0, 4, 0, 16]))), (a4, .inl (cI, 8, .inl (gl [o0, o1, o2, o3, (-1), (-1), (-1), (-1)]))), (a6, .inl (cI, 4000, .inl fb))] H := hP
  have hD : va_D A [(h, .inr (2, [.ref a0, .ref a1, .ref a2, .ref a3, .ref a4, .ref a5, .ref a6])), (a0, .inl (cI, 22, .inl (gl [m0, m1, m2, m3, m4, m5, m6, m7, m8, m9, m10, m11, m12, m13, m14, m15, m16, m17, 0, 4, 0, 16]))), (a4, .inl (cI, 8, .inl (gl [o0, o1, o2, o3, (-1), (-1), (-1), (-1)]))), (a6, .inl (cI, 4000, .inl fb))] := hD
  refine lv_istore (lv' := [(5, .int (pfX2_holderOf_0_1_r m5 o0 fb)), (0, .ref h), (1, .int p1), (2, .int 0), (3, .int fi), (4, .int 0)]) hx hb dX2_moveUsed_21 hl (by decide) rfl (fun ls hl => ?_)
  refine lv_iload hx hb dX2_moveUsed_23 (lv_at hl 0 rfl) ?_
  refine lv_iconst (v := (-1)) hx hb dX2_moveUsed_25 (by decide) ?_
  refine lv_icmp_eq (tgt := 81) hx hb dX2_moveUsed_26 (by decide) (fun c_1 => ?_) (fun c_1 => ?_)
  · refine lv_iinc (v := 1) (lv' := [(4, .int 1), (5, .int (pfX2_holderOf_0_1_r m5 o0 fb)), (0, .ref h), (1, .int p1), (2, .int 0), (3, .int fi)]) hx hb dX2_moveUsed_81 hl (k := 5) rfl (by decide) (by decide) rfl (fun ls hl => ?_)
    refine lv_goto (tgt := 5) hx hb dX2_moveUsed_84 (by decide) ?_
    have e_m2 : (LSX2_moveUsed_0_m2 m5 o0 o1 o2 o3 p1 m2 fb fi) = (LSX2_moveUsed_1_m2 m5 o0 o1 o2 o3 p1 m2 fb fi) := by rw [LSX2_moveUsed_0_m2, if_pos c_1]
    have e_fb : (LSX2_moveUsed_0_fb m5 o0 o1 o2 o3 p1 m2 fb fi) = (LSX2_moveUsed_1_fb m5 o0 o1 o2 o3 p1 m2 fb fi) := by rw [LSX2_moveUsed_0_fb, if_pos c_1]
    have e_fi : (LSX2_moveUsed_0_fi m5 o0 o1 o2 o3 p1 m2 fb fi) = (LSX2_moveUsed_1_fi m5 o0 o1 o2 o3 p1 m2 fb fi) := by rw [LSX2_moveUsed_0_fi, if_pos c_1]
    have hP := hP.sub (ws' := [(h, .inr (2, [.ref a0, .ref a1, .ref a2, .ref a3, .ref a4, .ref a5, .ref a6])), (a0, .inl (cI, 22, .inl (gl [m0, m1, m2, m3, m4, m5, m6, m7, m8, m9, m10, m11, m12, m13, m14, m15, m16, m17, 0, 4, 0, 16]))), (a4, .inl (cI, 8, .inl (gl [o0, o1, o2, o3, (-1), (-1), (-1), (-1)]))), (a6, .inl (cI, 4000, .inl fb))]) [0, 1, 2, 3] rfl
    have hD := hD.sub (ws' := [(h, .inr (2, [.ref a0, .ref a1, .ref a2, .ref a3, .ref a4, .ref a5, .ref a6])), (a0, .inl (cI, 22, .inl (gl [m0, m1, m2, m3, m4, m5, m6, m7, m8, m9, m10, m11, m12, m13, m14, m15, m16, m17, 0, 4, 0, 16]))), (a4, .inl (cI, 8, .inl (gl [o0, o1, o2, o3, (-1), (-1), (-1), (-1)]))), (a6, .inl (cI, 4000, .inl fb))]) [0, 1, 2, 3] (by decide) rfl
    exact LSX2_moveUsed_1 dC dI cI cB cZ cR h a0 a1 a2 a3 a4 a5 a6 m0 m1 m3 m4 m5 m6 m7 m8 m9 m10 m11 m12 m13 m14 m15 m16 m17 o0 o1 o2 o3 p1 m2 fb fi hx hb hml hts hown hN hK hA hRf hRl hRc hRs (fun H locs ls hP hD hS hl => k87 _ _ _ (by rw [e_m2, e_fb]; exact hP) (by rw [e_m2, e_fb]; exact hD) hS (by rw [e_fi]; exact hl)) _ _ _ hP hD hS (lv_sub hl [2, 3, 4, 5, 0] rfl)
  · refine lv_iload_n hx hb dX2_moveUsed_29 rfl (lv_at hl 3 rfl) ?_
    refine lv_if_eq (tgt := 42) hx hb dX2_moveUsed_30 (by decide) (fun _ => ?_) (fun c => absurd (by decide) c)
    refine lv_iload hx hb dX2_moveUsed_42 (lv_at hl 0 rfl) ?_
    refine lv_iload_n hx hb dX2_moveUsed_44 rfl (lv_at hl 2 rfl) ?_
    refine lv_icmp_ne (tgt := 81) hx hb dX2_moveUsed_45 (by decide) (fun c_2 => ?_) (fun c_2 => ?_)
    · refine lv_iinc (v := 1) (lv' := [(4, .int 1), (5, .int (pfX2_holderOf_0_1_r m5 o0 fb)), (0, .ref h), (1, .int p1), (2, .int 0), (3, .int fi)]) hx hb dX2_moveUsed_81 hl (k := 5) rfl (by decide) (by decide) rfl (fun ls hl => ?_)
      refine lv_goto (tgt := 5) hx hb dX2_moveUsed_84 (by decide) ?_
      have e_m2 : (LSX2_moveUsed_0_m2 m5 o0 o1 o2 o3 p1 m2 fb fi) = (LSX2_moveUsed_1_m2 m5 o0 o1 o2 o3 p1 m2 fb fi) := by rw [LSX2_moveUsed_0_m2, if_neg c_1, if_neg c_2]
      have e_fb : (LSX2_moveUsed_0_fb m5 o0 o1 o2 o3 p1 m2 fb fi) = (LSX2_moveUsed_1_fb m5 o0 o1 o2 o3 p1 m2 fb fi) := by rw [LSX2_moveUsed_0_fb, if_neg c_1, if_neg c_2]
      have e_fi : (LSX2_moveUsed_0_fi m5 o0 o1 o2 o3 p1 m2 fb fi) = (LSX2_moveUsed_1_fi m5 o0 o1 o2 o3 p1 m2 fb fi) := by rw [LSX2_moveUsed_0_fi, if_neg c_1, if_neg c_2]
      have hP := hP.sub (ws' := [(h, .inr (2, [.ref a0, .ref a1, .ref a2, .ref a3, .ref a4, .ref a5, .ref a6])), (a0, .inl (cI, 22, .inl (gl [m0, m1, m2, m3, m4, m5, m6, m7, m8, m9, m10, m11, m12, m13, m14, m15, m16, m17, 0, 4, 0, 16]))), (a4, .inl (cI, 8, .inl (gl [o0, o1, o2, o3, (-1), (-1), (-1), (-1)]))), (a6, .inl (cI, 4000, .inl fb))]) [0, 1, 2, 3] rfl
      have hD := hD.sub (ws' := [(h, .inr (2, [.ref a0, .ref a1, .ref a2, .ref a3, .ref a4, .ref a5, .ref a6])), (a0, .inl (cI, 22, .inl (gl [m0, m1, m2, m3, m4, m5, m6, m7, m8, m9, m10, m11, m12, m13, m14, m15, m16, m17, 0, 4, 0, 16]))), (a4, .inl (cI, 8, .inl (gl [o0, o1, o2, o3, (-1), (-1), (-1), (-1)]))), (a6, .inl (cI, 4000, .inl fb))]) [0, 1, 2, 3] (by decide) rfl
      exact LSX2_moveUsed_1 dC dI cI cB cZ cR h a0 a1 a2 a3 a4 a5 a6 m0 m1 m3 m4 m5 m6 m7 m8 m9 m10 m11 m12 m13 m14 m15 m16 m17 o0 o1 o2 o3 p1 m2 fb fi hx hb hml hts hown hN hK hA hRf hRl hRc hRs (fun H locs ls hP hD hS hl => k87 _ _ _ (by rw [e_m2, e_fb]; exact hP) (by rw [e_m2, e_fb]; exact hD) hS (by rw [e_fi]; exact hl)) _ _ _ hP hD hS (lv_sub hl [2, 3, 4, 5, 0] rfl)
    · refine lv_aload_n hx hb dX2_moveUsed_48 rfl (lv_at hl 1 rfl) ?_
      refine lv_iload hx hb dX2_moveUsed_49 (lv_at hl 0 rfl) ?_
      refine lv_iconst (v := 0) hx hb dX2_moveUsed_51 (by decide) ?_
      refine lv_iconst (v := 2) hx hb dX2_moveUsed_52 (by decide) ?_
      refine zcVv (As := [.int (pfX2_holderOf_0_1_r m5 o0 fb), .int 0, .int 2]) (rest := []) (wr := [(a0, .inl (cI, 22, .inl (gl [m0, m1, m2, m3, m4, m5, m6, m7, m8, m9, m10, m11, m12, m13, m14, m15, m16, m17, 0, 4, 0, 16]))), (a4, .inl (cI, 8, .inl (gl [o0, o1, o2, o3, (-1), (-1), (-1), (-1)])))]) ⟨hx, hb, hml, hown, hts⟩ (kkX2_putBuffer_g l dC dI cI cB cZ cR H.size h a0 a1 a2 a3 a4 a5 a6 fb (pfX2_holderOf_0_1_r m5 o0 fb) 0 2 ) (cwV 3 hts (zgV wm_278 wm_279 wm_280 wm_22 wm_281) rfl rfl rfl (by decide +kernel) ⟨Nat.le_trans (Nat.le_of_ble_eq_true rfl) hRf, Nat.le_trans (Nat.le_of_ble_eq_true rfl) hRl⟩) hN hK hP hD hS hA [0, 3] [1, 2] rfl rfl ⟨rfl, rfl⟩ (by decide) (ci := 2) rfl rfl rfl rfl hl.1 rfl (Nat.le_of_ble_eq_true rfl) dX2_moveUsed_53 ⟨hRc, hRs⟩ (fun u hu H locs hP hD hS => ?_)
      have hP : va_P (dC, dI) vwCl [(a0, .inl (cI, 22, .inl (gl [m0, m1, m2, m3, m4, m5, m6, m7, m8, m9, m10, m11, m12, m13, m14, m15, m16, m17, 0, 4, 0, 16]))), (a4, .inl (cI, 8, .inl (gl [o0, o1, o2, o3, (-1), (-1), (-1), (-1)]))), (h, .inr (2, [.ref a0, .ref a1, .ref a2, .ref a3, .ref a4, .ref a5, .ref a6])), (a6, .inl (cI, 4000, .inl (pfX2_putBuffer_g_a6_f fb (pfX2_holderOf_0_1_r m5 o0 fb) 0 2)))] H := hP
      have hD : va_D A [(a0, .inl (cI, 22, .inl (gl [m0, m1, m2, m3, m4, m5, m6, m7, m8, m9, m10, m11, m12, m13, m14, m15, m16, m17, 0, 4, 0, 16]))), (a4, .inl (cI, 8, .inl (gl [o0, o1, o2, o3, (-1), (-1), (-1), (-1)]))), (h, .inr (2, [.ref a0, .ref a1, .ref a2, .ref a3, .ref a4, .ref a5, .ref a6])), (a6, .inl (cI, 4000, .inl (pfX2_putBuffer_g_a6_f fb (pfX2_holderOf_0_1_r m5 o0 fb) 0 2)))] := hD
      refine lv_aload_n hx hb dX2_moveUsed_56 rfl (lv_at hl 1 rfl) ?_
      refine va_get (D := (dC, dI)) (ci := 2) (v := .ref a0) (C := RX2) (T := TX2) (N := 7) hx hb hts hinX2 hown hK hP 2 rfl rfl 0 (by decide) k_0 (fun _ h9 => h9) rfl dX2_moveUsed_57 ?_
      refine lv_iconst (v := 2) hx hb dX2_moveUsed_60 (by decide) ?_
      refine lv_aload_n hx hb dX2_moveUsed_61 rfl (lv_at hl 1 rfl) ?_
      refine lv_aload_n hx hb dX2_moveUsed_62 rfl (lv_at hl 1 rfl) ?_
      refine va_get (D := (dC, dI)) (ci := 2) (v := .ref a0) (C := RX2) (T := TX2) (N := 7) hx hb hts hinX2 hown hK hP 2 rfl rfl 0 (by decide) k_0 (fun _ h9 => h9) rfl dX2_moveUsed_63 ?_
      refine lv_iconst (v := 2) hx hb dX2_moveUsed_66 (by decide) ?_
      refine za_iald (v := m2) hx hb hK hP 0 0 rfl rfl (zin tn_2 (Nat.le_of_ble_eq_true rfl)) (zrd _ tn_2 rfl) dX2_moveUsed_67 ?_
      refine lv_aload_n hx hb dX2_moveUsed_68 rfl (lv_at hl 1 rfl) ?_
      refine lv_iload hx hb dX2_moveUsed_69 (lv_at hl 0 rfl) ?_
      refine zcVi (As := [.int (pfX2_holderOf_0_1_r m5 o0 fb)]) (rest := [.int m2, .ref h, .int 2, .ref a0]) (wr := [(a4, .inl (cI, 8, .inl (gl [o0, o1, o2, o3, (-1), (-1), (-1), (-1)]))), (a6, .inl (cI, 4000, .inl (pfX2_putBuffer_g_a6_f fb (pfX2_holderOf_0_1_r m5 o0 fb) 0 2)))]) ⟨hx, hb, hml, hown, hts⟩ (kkX2_strideOf l dC dI cI cB cZ cR H.size h a0 a1 a2 a3 a4 a5 a6 m0 m1 m2 m3 m4 m5 m6 m7 m8 m9 m10 m11 m12 m13 m14 m15 m16 m17 (pfX2_holderOf_0_1_r m5 o0 fb) ) (cwV 1 hts (zgV wm_564 wm_565 wm_566 wm_22 wm_567) rfl rfl rfl (by decide +kernel) ⟨Nat.le_trans (Nat.le_of_ble_eq_true rfl) hRf, Nat.le_trans (Nat.le_of_ble_eq_true rfl) hRl⟩) hN hK hP hD hS hA [2, 0] [1, 3] rfl rfl ⟨rfl, rfl⟩ (by decide) (ci := 2) rfl rfl rfl rfl hl.1 rfl (Nat.le_of_ble_eq_true rfl) dX2_moveUsed_71 ⟨hRc, hRs⟩ (fun r u hu H locs hP hD hS => ?_)
      have hu : r = 1 := hu
      subst hu
      have hP : va_P (dC, dI) vwCl [(a4, .inl (cI, 8, .inl (gl [o0, o1, o2, o3, (-1), (-1), (-1), (-1)]))), (a6, .inl (cI, 4000, .inl (pfX2_putBuffer_g_a6_f fb (pfX2_holderOf_0_1_r m5 o0 fb) 0 2))), (h, .inr (2, [.ref a0, .ref a1, .ref a2, .ref a3, .ref a4, .ref a5, .ref a6])), (a0, .inl (cI, 22, .inl (gl [m0, m1, m2, m3, m4, m5, m6, m7, m8, m9, m10, m11, m12, m13, m14, m15, m16, m17, 0, 4, 0, 16])))] H := hP
      have hD : va_D A [(a4, .inl (cI, 8, .inl (gl [o0, o1, o2, o3, (-1), (-1), (-1), (-1)]))), (a6, .inl (cI, 4000, .inl (pfX2_putBuffer_g_a6_f fb (pfX2_holderOf_0_1_r m5 o0 fb) 0 2))), (h, .inr (2, [.ref a0, .ref a1, .ref a2, .ref a3, .ref a4, .ref a5, .ref a6])), (a0, .inl (cI, 22, .inl (gl [m0, m1, m2, m3, m4, m5, m6, m7, m8, m9, m10, m11, m12, m13, m14, m15, m16, m17, 0, 4, 0, 16])))] := hD
      refine zcVi (As := [.int m2, .int 1]) (rest := [.int 2, .ref a0]) (wr := [(a4, .inl (cI, 8, .inl (gl [o0, o1, o2, o3, (-1), (-1), (-1), (-1)]))), (a6, .inl (cI, 4000, .inl (pfX2_putBuffer_g_a6_f fb (pfX2_holderOf_0_1_r m5 o0 fb) 0 2)))]) ⟨hx, hb, hml, hown, hts⟩ (kkX2_moved l dC dI cI cB cZ cR H.size h a0 a1 a2 a3 a4 a5 a6 m0 m1 m2 m3 m4 m5 m6 m7 m8 m9 m10 m11 m12 m13 m14 m15 m16 m17 m2 1 ) (cwV 2 hts (zgV wm_302 wm_303 wm_304 wm_22 wm_305) rfl rfl rfl (by decide +kernel) ⟨Nat.le_trans (Nat.le_of_ble_eq_true rfl) hRf, Nat.le_trans (Nat.le_of_ble_eq_true rfl) hRl⟩) hN hK hP hD hS hA [2, 3] [0, 1] rfl rfl ⟨rfl, rfl⟩ (by decide) (ci := 2) rfl rfl rfl rfl hl.1 rfl (Nat.le_of_ble_eq_true rfl) dX2_moveUsed_74 ⟨hRc, hRs⟩ (fun r u hu H locs hP hD hS => ?_)
      have hu : r = ((m2 + 1) &&& 15) := hu
      subst hu
      have hP : va_P (dC, dI) vwCl [(a4, .inl (cI, 8, .inl (gl [o0, o1, o2, o3, (-1), (-1), (-1), (-1)]))), (a6, .inl (cI, 4000, .inl (pfX2_putBuffer_g_a6_f fb (pfX2_holderOf_0_1_r m5 o0 fb) 0 2))), (h, .inr (2, [.ref a0, .ref a1, .ref a2, .ref a3, .ref a4, .ref a5, .ref a6])), (a0, .inl (cI, 22, .inl (gl [m0, m1, m2, m3, m4, m5, m6, m7, m8, m9, m10, m11, m12, m13, m14, m15, m16, m17, 0, 4, 0, 16])))] H := hP
      have hD : va_D A [(a4, .inl (cI, 8, .inl (gl [o0, o1, o2, o3, (-1), (-1), (-1), (-1)]))), (a6, .inl (cI, 4000, .inl (pfX2_putBuffer_g_a6_f fb (pfX2_holderOf_0_1_r m5 o0 fb) 0 2))), (h, .inr (2, [.ref a0, .ref a1, .ref a2, .ref a3, .ref a4, .ref a5, .ref a6])), (a0, .inl (cI, 22, .inl (gl [m0, m1, m2, m3, m4, m5, m6, m7, m8, m9, m10, m11, m12, m13, m14, m15, m16, m17, 0, 4, 0, 16])))] := hD
      refine za_iast (f' := (gl [m0, m1, ((m2 + 1) &&& 15), m3, m4, m5, m6, m7, m8, m9, m10, m11, m12, m13, m14, m15, m16, m17, 0, 4, 0, 16])) hx hb hK hP hD hS 3 0 rfl rfl (zin tn_2 (Nat.le_of_ble_eq_true rfl)) (zup_gl tn_2 (Nat.le_of_ble_eq_true rfl) rfl) dX2_moveUsed_77 (fun H locs hP hD hS => ?_)
      have hP : va_P (dC, dI) vwCl [(a4, .inl (cI, 8, .inl (gl [o0, o1, o2, o3, (-1), (-1), (-1), (-1)]))), (a6, .inl (cI, 4000, .inl (pfX2_putBuffer_g_a6_f fb (pfX2_holderOf_0_1_r m5 o0 fb) 0 2))), (h, .inr (2, [.ref a0, .ref a1, .ref a2, .ref a3, .ref a4, .ref a5, .ref a6])), (a0, .inl (cI, 22, .inl (gl [m0, m1, ((m2 + 1) &&& 15), m3, m4, m5, m6, m7, m8, m9, m10, m11, m12, m13, m14, m15, m16, m17, 0, 4, 0, 16])))] H := hP
      have hD : va_D A [(a4, .inl (cI, 8, .inl (gl [o0, o1, o2, o3, (-1), (-1), (-1), (-1)]))), (a6, .inl (cI, 4000, .inl (pfX2_putBuffer_g_a6_f fb (pfX2_holderOf_0_1_r m5 o0 fb) 0 2))), (h, .inr (2, [.ref a0, .ref a1, .ref a2, .ref a3, .ref a4, .ref a5, .ref a6])), (a0, .inl (cI, 22, .inl (gl [m0, m1, ((m2 + 1) &&& 15), m3, m4, m5, m6, m7, m8, m9, m10, m11, m12, m13, m14, m15, m16, m17, 0, 4, 0, 16])))] := hD
      refine lv_iinc (v := (fi + 1)) (lv' := [(3, .int (fi + 1)), (5, .int (pfX2_holderOf_0_1_r m5 o0 fb)), (0, .ref h), (1, .int p1), (2, .int 0), (4, .int 0)]) hx hb dX2_moveUsed_78 hl (k := 4) rfl rfl (by decide) rfl (fun ls hl => ?_)
      refine lv_iinc (v := 1) (lv' := [(4, .int 1), (3, .int (fi + 1)), (5, .int (pfX2_holderOf_0_1_r m5 o0 fb)), (0, .ref h), (1, .int p1), (2, .int 0)]) hx hb dX2_moveUsed_81 hl (k := 5) rfl (by decide) (by decide) rfl (fun ls hl => ?_)
      refine lv_goto (tgt := 5) hx hb dX2_moveUsed_84 (by decide) ?_
      have e_m2 : (LSX2_moveUsed_0_m2 m5 o0 o1 o2 o3 p1 m2 fb fi) = (LSX2_moveUsed_1_m2 m5 o0 o1 o2 o3 p1 ((m2 + 1) &&& 15) (pfX2_putBuffer_g_a6_f fb (pfX2_holderOf_0_1_r m5 o0 fb) 0 2) (fi + 1)) := by rw [LSX2_moveUsed_0_m2, if_neg c_1, if_pos c_2]
      have e_fb : (LSX2_moveUsed_0_fb m5 o0 o1 o2 o3 p1 m2 fb fi) = (LSX2_moveUsed_1_fb m5 o0 o1 o2 o3 p1 ((m2 + 1) &&& 15) (pfX2_putBuffer_g_a6_f fb (pfX2_holderOf_0_1_r m5 o0 fb) 0 2) (fi + 1)) := by rw [LSX2_moveUsed_0_fb, if_neg c_1, if_pos c_2]
      have e_fi : (LSX2_moveUsed_0_fi m5 o0 o1 o2 o3 p1 m2 fb fi) = (LSX2_moveUsed_1_fi m5 o0 o1 o2 o3 p1 ((m2 + 1) &&& 15) (pfX2_putBuffer_g_a6_f fb (pfX2_holderOf_0_1_r m5 o0 fb) 0 2) (fi + 1)) := by rw [LSX2_moveUsed_0_fi, if_neg c_1, if_pos c_2]
      have hP := hP.sub (ws' := [(h, .inr (2, [.ref a0, .ref a1, .ref a2, .ref a3, .ref a4, .ref a5, .ref a6])), (a0, .inl (cI, 22, .inl (gl [m0, m1, ((m2 + 1) &&& 15), m3, m4, m5, m6, m7, m8, m9, m10, m11, m12, m13, m14, m15, m16, m17, 0, 4, 0, 16]))), (a4, .inl (cI, 8, .inl (gl [o0, o1, o2, o3, (-1), (-1), (-1), (-1)]))), (a6, .inl (cI, 4000, .inl (pfX2_putBuffer_g_a6_f fb (pfX2_holderOf_0_1_r m5 o0 fb) 0 2)))]) [2, 3, 0, 1] rfl
      have hD := hD.sub (ws' := [(h, .inr (2, [.ref a0, .ref a1, .ref a2, .ref a3, .ref a4, .ref a5, .ref a6])), (a0, .inl (cI, 22, .inl (gl [m0, m1, ((m2 + 1) &&& 15), m3, m4, m5, m6, m7, m8, m9, m10, m11, m12, m13, m14, m15, m16, m17, 0, 4, 0, 16]))), (a4, .inl (cI, 8, .inl (gl [o0, o1, o2, o3, (-1), (-1), (-1), (-1)]))), (a6, .inl (cI, 4000, .inl (pfX2_putBuffer_g_a6_f fb (pfX2_holderOf_0_1_r m5 o0 fb) 0 2)))]) [2, 3, 0, 1] (by decide) rfl
      exact LSX2_moveUsed_1 dC dI cI cB cZ cR h a0 a1 a2 a3 a4 a5 a6 m0 m1 m3 m4 m5 m6 m7 m8 m9 m10 m11 m12 m13 m14 m15 m16 m17 o0 o1 o2 o3 p1 ((m2 + 1) &&& 15) (pfX2_putBuffer_g_a6_f fb (pfX2_holderOf_0_1_r m5 o0 fb) 0 2) (fi + 1) hx hb hml hts hown hN hK hA hRf hRl hRc hRs (fun H locs ls hP hD hS hl => k87 _ _ _ (by rw [e_m2, e_fb]; exact hP) (by rw [e_m2, e_fb]; exact hD) hS (by rw [e_fi]; exact hl)) _ _ _ hP hD hS (lv_sub hl [3, 4, 5, 1, 0] rfl)

set_option maxHeartbeats 4000000 in
set_option maxRecDepth 100000 in
theorem kkX2_moveUsed (l : Launch) (dC : Nat → ClassId) (dI : Nat → Nat → Nat) (cI cB cZ cR : ClassId) (sz : Nat) (h : Nat) (a0 : Nat) (a1 : Nat) (a2 : Nat) (a3 : Nat) (a4 : Nat) (a5 : Nat) (a6 : Nat) (m0 : Int32) (m1 : Int32) (m2 : Int32) (m3 : Int32) (m4 : Int32) (m5 : Int32) (m6 : Int32) (m7 : Int32) (m8 : Int32) (m9 : Int32) (m10 : Int32) (m11 : Int32) (m12 : Int32) (m13 : Int32) (m14 : Int32) (m15 : Int32) (m16 : Int32) (m17 : Int32) (o0 : Int32) (o1 : Int32) (o2 : Int32) (o3 : Int32) (fb : Nat → Int32) (p1 : Int32) : Met l yX2_moveUsed (.code yX2_moveUsed cX2_moveUsed 6 (some .int) :: wsL_law) ({ frames := 2, cells := 0, slots := 0, locals := 46 }) (zPc dC dI (zT cI cB cZ cR) [.ref h, .int p1, .int 0] sz [(h, .inr (2, [.ref a0, .ref a1, .ref a2, .ref a3, .ref a4, .ref a5, .ref a6])), (a0, .inl (cI, 22, .inl (gl [m0, m1, m2, m3, m4, m5, m6, m7, m8, m9, m10, m11, m12, m13, m14, m15, m16, m17, 0, 4, 0, 16]))), (a4, .inl (cI, 8, .inl (gl [o0, o1, o2, o3, (-1), (-1), (-1), (-1)]))), (a6, .inl (cI, 4000, .inl fb))]) (va_Qi (fun (r : Int32) (_ : Unit) => r = (LSX2_moveUsed_0_fi m5 o0 o1 o2 o3 p1 m2 fb 0)) (fun _ : Unit => zB dC dI (zT cI cB cZ cR) (va_A [(h, .inr (2, [.ref a0, .ref a1, .ref a2, .ref a3, .ref a4, .ref a5, .ref a6])), (a0, .inl (cI, 22, .inl (gl [m0, m1, m2, m3, m4, m5, m6, m7, m8, m9, m10, m11, m12, m13, m14, m15, m16, m17, 0, 4, 0, 16]))), (a4, .inl (cI, 8, .inl (gl [o0, o1, o2, o3, (-1), (-1), (-1), (-1)]))), (a6, .inl (cI, 4000, .inl fb))] sz) [(h, .inr (2, [.ref a0, .ref a1, .ref a2, .ref a3, .ref a4, .ref a5, .ref a6])), (a0, .inl (cI, 22, .inl (gl [m0, m1, (LSX2_moveUsed_0_m2 m5 o0 o1 o2 o3 p1 m2 fb 0), m3, m4, m5, m6, m7, m8, m9, m10, m11, m12, m13, m14, m15, m16, m17, 0, 4, 0, 16]))), (a4, .inl (cI, 8, .inl (gl [o0, o1, o2, o3, (-1), (-1), (-1), (-1)]))), (a6, .inl (cI, 4000, .inl (LSX2_moveUsed_0_fb m5 o0 o1 o2 o3 p1 m2 fb 0)))]) (va_A [(h, .inr (2, [.ref a0, .ref a1, .ref a2, .ref a3, .ref a4, .ref a5, .ref a6])), (a0, .inl (cI, 22, .inl (gl [m0, m1, m2, m3, m4, m5, m6, m7, m8, m9, m10, m11, m12, m13, m14, m15, m16, m17, 0, 4, 0, 16]))), (a4, .inl (cI, 8, .inl (gl [o0, o1, o2, o3, (-1), (-1), (-1), (-1)]))), (a6, .inl (cI, 4000, .inl fb))] sz)) 0 0 (va_A [(h, .inr (2, [.ref a0, .ref a1, .ref a2, .ref a3, .ref a4, .ref a5, .ref a6])), (a0, .inl (cI, 22, .inl (gl [m0, m1, m2, m3, m4, m5, m6, m7, m8, m9, m10, m11, m12, m13, m14, m15, m16, m17, 0, 4, 0, 16]))), (a4, .inl (cI, 8, .inl (gl [o0, o1, o2, o3, (-1), (-1), (-1), (-1)]))), (a6, .inl (cI, 4000, .inl fb))] sz) := by
  refine Met.ofW (cc := cX2_moveUsed) (maxL := 6) (ret := (some .int)) (by decide) rfl ?_
  intro p e s m args below meth c s₁ B hml hv
  obtain ⟨rfl, hsz, hP, hK, hD0, hN⟩ := hv
  have hx := B.exec
  have hb := B.bytes
  have hr := B.returns
  have hts := atoms_spec (ws := (.code yX2_moveUsed cX2_moveUsed 6 (some .int) :: wsL_law)) B.pre
  have hown : s.vm.findClass RX2 = some m.cls := findClass_of_methodNamed B.named
  have hlocks := B.notSynchronized
  subst hsz
  have hD := hD0.self (sz := s.heap.size)
  generalize hAe : va_A [(h, .inr (2, [.ref a0, .ref a1, .ref a2, .ref a3, .ref a4, .ref a5, .ref a6])), (a0, .inl (cI, 22, .inl (gl [m0, m1, m2, m3, m4, m5, m6, m7, m8, m9, m10, m11, m12, m13, m14, m15, m16, m17, 0, 4, 0, 16]))), (a4, .inl (cI, 8, .inl (gl [o0, o1, o2, o3, (-1), (-1), (-1), (-1)]))), (a6, .inl (cI, 4000, .inl fb))] s.heap.size = A at hD ⊢
  have hA : ∀ q : Nat, s.heap.size ≤ q → A q := fun q h => by rw [← hAe]; exact Or.inr h
  have hP : va_P (dC, dI) vwCl [(h, .inr (2, [.ref a0, .ref a1, .ref a2, .ref a3, .ref a4, .ref a5, .ref a6])), (a0, .inl (cI, 22, .inl (gl [m0, m1, m2, m3, m4, m5, m6, m7, m8, m9, m10, m11, m12, m13, m14, m15, m16, m17, 0, 4, 0, 16]))), (a4, .inl (cI, 8, .inl (gl [o0, o1, o2, o3, (-1), (-1), (-1), (-1)]))), (a6, .inl (cI, 4000, .inl fb))] s.heap := hP
  have hl := lv_entry ([.ref h, .int p1, .int 0]) (n := 6) (Nat.le_of_ble_eq_true rfl)
  rw [lg_entry_eq]
  generalize (lg_sl ([.ref h, .int p1, .int 0]) ++ List.replicate (6 - (lg_sl ([.ref h, .int p1, .int 0])).length) Slot.unset).toArray = ls at hl ⊢
  have hl : lv_has ls 6 [(0, .ref h), (1, .int p1), (2, .int 0)] := hl
  obtain ⟨H, hH⟩ : ∃ H, H = s.heap := ⟨_, rfl⟩
  rw [← hH] at hP ⊢
  have hS : va_S A s.heap H [] := by rw [hH]; exact va_S.rf
  refine lv_iconst (v := 0) hx hb dX2_moveUsed_0 (by decide) ?_
  refine lv_istore_n (lv' := [(3, .int 0), (0, .ref h), (1, .int p1), (2, .int 0)]) hx hb dX2_moveUsed_1 rfl hl (by decide) rfl (fun ls hl => ?_)
  refine lv_iconst (v := 0) hx hb dX2_moveUsed_2 (by decide) ?_
  refine lv_istore (lv' := [(4, .int 0), (3, .int 0), (0, .ref h), (1, .int p1), (2, .int 0)]) hx hb dX2_moveUsed_3 hl (by decide) rfl (fun ls hl => ?_)
  have hP := hP.sub (ws' := [(h, .inr (2, [.ref a0, .ref a1, .ref a2, .ref a3, .ref a4, .ref a5, .ref a6])), (a0, .inl (cI, 22, .inl (gl [m0, m1, m2, m3, m4, m5, m6, m7, m8, m9, m10, m11, m12, m13, m14, m15, m16, m17, 0, 4, 0, 16]))), (a4, .inl (cI, 8, .inl (gl [o0, o1, o2, o3, (-1), (-1), (-1), (-1)]))), (a6, .inl (cI, 4000, .inl fb))]) [0, 1, 2, 3] rfl
  have hD := hD.sub (ws' := [(h, .inr (2, [.ref a0, .ref a1, .ref a2, .ref a3, .ref a4, .ref a5, .ref a6])), (a0, .inl (cI, 22, .inl (gl [m0, m1, m2, m3, m4, m5, m6, m7, m8, m9, m10, m11, m12, m13, m14, m15, m16, m17, 0, 4, 0, 16]))), (a4, .inl (cI, 8, .inl (gl [o0, o1, o2, o3, (-1), (-1), (-1), (-1)]))), (a6, .inl (cI, 4000, .inl fb))]) [0, 1, 2, 3] (by decide) rfl
  refine LSX2_moveUsed_0 dC dI cI cB cZ cR h a0 a1 a2 a3 a4 a5 a6 m0 m1 m3 m4 m5 m6 m7 m8 m9 m10 m11 m12 m13 m14 m15 m16 m17 o0 o1 o2 o3 p1 m2 fb 0 hx hb hml hts hown hN hK hA (Nat.le_of_ble_eq_true rfl) (Nat.le_of_ble_eq_true rfl) (Nat.le_of_ble_eq_true rfl) (Nat.le_of_ble_eq_true rfl) ?_ _ _ _ hP hD hS (lv_sub hl [2, 3, 4, 1, 0] rfl)
  intro H locs ls hP hD hS hl
  have hP : va_P (dC, dI) vwCl [(h, .inr (2, [.ref a0, .ref a1, .ref a2, .ref a3, .ref a4, .ref a5, .ref a6])), (a0, .inl (cI, 22, .inl (gl [m0, m1, (LSX2_moveUsed_0_m2 m5 o0 o1 o2 o3 p1 m2 fb 0), m3, m4, m5, m6, m7, m8, m9, m10, m11, m12, m13, m14, m15, m16, m17, 0, 4, 0, 16]))), (a4, .inl (cI, 8, .inl (gl [o0, o1, o2, o3, (-1), (-1), (-1), (-1)]))), (a6, .inl (cI, 4000, .inl (LSX2_moveUsed_0_fb m5 o0 o1 o2 o3 p1 m2 fb 0)))] H := hP
  have hD : va_D A [(h, .inr (2, [.ref a0, .ref a1, .ref a2, .ref a3, .ref a4, .ref a5, .ref a6])), (a0, .inl (cI, 22, .inl (gl [m0, m1, (LSX2_moveUsed_0_m2 m5 o0 o1 o2 o3 p1 m2 fb 0), m3, m4, m5, m6, m7, m8, m9, m10, m11, m12, m13, m14, m15, m16, m17, 0, 4, 0, 16]))), (a4, .inl (cI, 8, .inl (gl [o0, o1, o2, o3, (-1), (-1), (-1), (-1)]))), (a6, .inl (cI, 4000, .inl (LSX2_moveUsed_0_fb m5 o0 o1 o2 o3 p1 m2 fb 0)))] := hD
  refine lv_iload_n hx hb dX2_moveUsed_87 rfl (lv_at hl 1 rfl) ?_
  have hP9 := hP.sub (ws' := [(h, .inr (2, [.ref a0, .ref a1, .ref a2, .ref a3, .ref a4, .ref a5, .ref a6])), (a0, .inl (cI, 22, .inl (gl [m0, m1, (LSX2_moveUsed_0_m2 m5 o0 o1 o2 o3 p1 m2 fb 0), m3, m4, m5, m6, m7, m8, m9, m10, m11, m12, m13, m14, m15, m16, m17, 0, 4, 0, 16]))), (a4, .inl (cI, 8, .inl (gl [o0, o1, o2, o3, (-1), (-1), (-1), (-1)]))), (a6, .inl (cI, 4000, .inl (LSX2_moveUsed_0_fb m5 o0 o1 o2 o3 p1 m2 fb 0)))]) [0, 1, 2, 3] rfl
  have hD9 := hD.sub (ws' := [(h, .inr (2, [.ref a0, .ref a1, .ref a2, .ref a3, .ref a4, .ref a5, .ref a6])), (a0, .inl (cI, 22, .inl (gl [m0, m1, (LSX2_moveUsed_0_m2 m5 o0 o1 o2 o3 p1 m2 fb 0), m3, m4, m5, m6, m7, m8, m9, m10, m11, m12, m13, m14, m15, m16, m17, 0, 4, 0, 16]))), (a4, .inl (cI, 8, .inl (gl [o0, o1, o2, o3, (-1), (-1), (-1), (-1)]))), (a6, .inl (cI, 4000, .inl (LSX2_moveUsed_0_fb m5 o0 o1 o2 o3 p1 m2 fb 0)))]) [0, 1, 2, 3] (by decide) rfl
  exact W.iret (v := (LSX2_moveUsed_0_fi m5 o0 o1 o2 o3 p1 m2 fb 0)) hx hb hr (fun t ht hW => ⟨⟨(LSX2_moveUsed_0_fi m5 o0 o1 o2 o3 p1 m2 fb 0), (), rfl, rfl, by rw [ht]; exact hP9, va_K.moved hW.alike hK, hD9⟩, hS.F ht⟩) hS.2.2 dX2_moveUsed_88

set_option maxHeartbeats 4000000 in
set_option maxRecDepth 100000 in
theorem kkX2_tellUsed (l : Launch) (dC : Nat → ClassId) (dI : Nat → Nat → Nat) (cI cB cZ cR : ClassId) (sz : Nat) (h : Nat) (a0 : Nat) (a1 : Nat) (a2 : Nat) (a3 : Nat) (a4 : Nat) (a5 : Nat) (a6 : Nat) (m0 : Int32) (m1 : Int32) (m2 : Int32) (m3 : Int32) (m4 : Int32) (m5 : Int32) (m6 : Int32) (m7 : Int32) (m8 : Int32) (m9 : Int32) (m10 : Int32) (m11 : Int32) (m12 : Int32) (m13 : Int32) (m14 : Int32) (m15 : Int32) (m16 : Int32) (m17 : Int32) (fr : Nat → Int32) (fb : Nat → Int32) (p1 : Int32) (p2 : Int32) : Met l yX2_tellUsed (.code yX2_tellUsed cX2_tellUsed 6 none :: wsL_law) ({ frames := 1, cells := 0, slots := 0, locals := 23 }) (zPc dC dI (zT cI cB cZ cR) [.ref h, .int p1, .int p2] sz [(h, .inr (2, [.ref a0, .ref a1, .ref a2, .ref a3, .ref a4, .ref a5, .ref a6])), (a0, .inl (cI, 22, .inl (gl [m0, m1, m2, m3, m4, m5, m6, m7, m8, m9, m10, m11, m12, m13, m14, m15, m16, m17, 0, 4, 0, 16]))), (a3, .inl (cI, 24, .inl fr)), (a6, .inl (cI, 4000, .inl fb))]) (va_Qv (fun _ : Unit => True) (fun _ : Unit => zB dC dI (zT cI cB cZ cR) (va_A [(h, .inr (2, [.ref a0, .ref a1, .ref a2, .ref a3, .ref a4, .ref a5, .ref a6])), (a0, .inl (cI, 22, .inl (gl [m0, m1, m2, m3, m4, m5, m6, m7, m8, m9, m10, m11, m12, m13, m14, m15, m16, m17, 0, 4, 0, 16]))), (a3, .inl (cI, 24, .inl fr)), (a6, .inl (cI, 4000, .inl fb))] sz) [(h, .inr (2, [.ref a0, .ref a1, .ref a2, .ref a3, .ref a4, .ref a5, .ref a6])), (a0, .inl (cI, 22, .inl (gl [m0, m1, m2, m3, m4, m5, m6, m7, m8, m9, m10, m11, m12, m13, m14, m15, m16, m17, 0, 4, 0, 16]))), (a3, .inl (cI, 24, .inl (pfX2_putRow_a3_f (pfX2_putRow_a3_f fr (m2 &&& 3) 1 (pfX2_ofBuffer_g_r m5 fb p1 2)) (m2 &&& 3) 2 p2))), (a6, .inl (cI, 4000, .inl fb))]) (va_A [(h, .inr (2, [.ref a0, .ref a1, .ref a2, .ref a3, .ref a4, .ref a5, .ref a6])), (a0, .inl (cI, 22, .inl (gl [m0, m1, m2, m3, m4, m5, m6, m7, m8, m9, m10, m11, m12, m13, m14, m15, m16, m17, 0, 4, 0, 16]))), (a3, .inl (cI, 24, .inl fr)), (a6, .inl (cI, 4000, .inl fb))] sz)) 0 0 (va_A [(h, .inr (2, [.ref a0, .ref a1, .ref a2, .ref a3, .ref a4, .ref a5, .ref a6])), (a0, .inl (cI, 22, .inl (gl [m0, m1, m2, m3, m4, m5, m6, m7, m8, m9, m10, m11, m12, m13, m14, m15, m16, m17, 0, 4, 0, 16]))), (a3, .inl (cI, 24, .inl fr)), (a6, .inl (cI, 4000, .inl fb))] sz) := by
  refine Met.ofW (cc := cX2_tellUsed) (maxL := 6) (ret := none) (by decide) rfl ?_
  intro p e s m args below meth c s₁ B hml hv
  obtain ⟨rfl, hsz, hP, hK, hD0, hN⟩ := hv
  have hx := B.exec
  have hb := B.bytes
  have hr := B.returns
  have hts := atoms_spec (ws := (.code yX2_tellUsed cX2_tellUsed 6 none :: wsL_law)) B.pre
  have hown : s.vm.findClass RX2 = some m.cls := findClass_of_methodNamed B.named
  have hlocks := B.notSynchronized
  have hinX2 : ∀ w ∈ u_ws RX2 TX2 7, w ∈ (.code yX2_tellUsed cX2_tellUsed 6 none :: wsL_law) := fun w h => List.mem_cons_of_mem _ (inlX2 w h)
  have k_0 := hts (.fieldLink RX2 11 "RingMarks$Ring" "marks" "[I") (List.mem_cons_of_mem _ wm_61)
  subst hsz
  have hD := hD0.self (sz := s.heap.size)
  generalize hAe : va_A [(h, .inr (2, [.ref a0, .ref a1, .ref a2, .ref a3, .ref a4, .ref a5, .ref a6])), (a0, .inl (cI, 22, .inl (gl [m0, m1, m2, m3, m4, m5, m6, m7, m8, m9, m10, m11, m12, m13, m14, m15, m16, m17, 0, 4, 0, 16]))), (a3, .inl (cI, 24, .inl fr)), (a6, .inl (cI, 4000, .inl fb))] s.heap.size = A at hD ⊢
  have hA : ∀ q : Nat, s.heap.size ≤ q → A q := fun q h => by rw [← hAe]; exact Or.inr h
  have hP : va_P (dC, dI) vwCl [(h, .inr (2, [.ref a0, .ref a1, .ref a2, .ref a3, .ref a4, .ref a5, .ref a6])), (a0, .inl (cI, 22, .inl (gl [m0, m1, m2, m3, m4, m5, m6, m7, m8, m9, m10, m11, m12, m13, m14, m15, m16, m17, 0, 4, 0, 16]))), (a3, .inl (cI, 24, .inl fr)), (a6, .inl (cI, 4000, .inl fb))] s.heap := hP
  have hl := lv_entry ([.ref h, .int p1, .int p2]) (n := 6) (Nat.le_of_ble_eq_true rfl)
  rw [lg_entry_eq]
  generalize (lg_sl ([.ref h, .int p1, .int p2]) ++ List.replicate (6 - (lg_sl ([.ref h, .int p1, .int p2])).length) Slot.unset).toArray = ls at hl ⊢
  have hl : lv_has ls 6 [(0, .ref h), (1, .int p1), (2, .int p2)] := hl
  obtain ⟨H, hH⟩ : ∃ H, H = s.heap := ⟨_, rfl⟩
  rw [← hH] at hP ⊢
  have hS : va_S A s.heap H [] := by rw [hH]; exact va_S.rf
  refine lv_aload_n hx hb dX2_tellUsed_0 rfl (lv_at hl 0 rfl) ?_
  refine va_get (D := (dC, dI)) (ci := 2) (v := .ref a0) (C := RX2) (T := TX2) (N := 7) hx hb hts hinX2 hown hK hP 0 rfl rfl 0 (by decide) k_0 (fun _ h9 => h9) rfl dX2_tellUsed_1 ?_
  refine lv_iconst (v := 2) hx hb dX2_tellUsed_4 (by decide) ?_
  refine za_iald (v := m2) hx hb hK hP 1 0 rfl rfl (zin tn_2 (Nat.le_of_ble_eq_true rfl)) (zrd _ tn_2 rfl) dX2_tellUsed_5 ?_
  refine lv_istore_n (lv' := [(3, .int m2), (0, .ref h), (1, .int p1), (2, .int p2)]) hx hb dX2_tellUsed_6 rfl hl (by decide) rfl (fun ls hl => ?_)
  refine lv_aload_n hx hb dX2_tellUsed_7 rfl (lv_at hl 1 rfl) ?_
  refine lv_iload_n hx hb dX2_tellUsed_8 rfl (lv_at hl 0 rfl) ?_
  refine zcVi (As := [.int m2]) (rest := []) (wr := [(a3, .inl (cI, 24, .inl fr)), (a6, .inl (cI, 4000, .inl fb))]) ⟨hx, hb, hml, hown, hts⟩ (kkX2_placeOf l dC dI cI cB cZ cR H.size h a0 a1 a2 a3 a4 a5 a6 m0 m1 m2 m3 m4 m5 m6 m7 m8 m9 m10 m11 m12 m13 m14 m15 m16 m17 m2 ) (cwV 1 hts (zgV wm_310 wm_311 wm_312 wm_22 wm_313) rfl rfl rfl (by decide +kernel) ⟨Nat.le_of_ble_eq_true rfl, Nat.le_of_ble_eq_true rfl⟩) hN hK hP hD hS hA [0, 1] [2, 3] rfl rfl ⟨rfl, rfl⟩ (by decide) (ci := 2) rfl rfl rfl rfl hl.1 rfl (Nat.le_of_ble_eq_true rfl) dX2_tellUsed_9 ⟨Nat.le_of_ble_eq_true rfl, Nat.le_of_ble_eq_true rfl⟩ (fun r u hu H locs hP hD hS => ?_)
  have hu : r = (m2 &&& 3) := hu
  subst hu
  have hP : va_P (dC, dI) vwCl [(a3, .inl (cI, 24, .inl fr)), (a6, .inl (cI, 4000, .inl fb)), (h, .inr (2, [.ref a0, .ref a1, .ref a2, .ref a3, .ref a4, .ref a5, .ref a6])), (a0, .inl (cI, 22, .inl (gl [m0, m1, m2, m3, m4, m5, m6, m7, m8, m9, m10, m11, m12, m13, m14, m15, m16, m17, 0, 4, 0, 16])))] H := hP
  have hD : va_D A [(a3, .inl (cI, 24, .inl fr)), (a6, .inl (cI, 4000, .inl fb)), (h, .inr (2, [.ref a0, .ref a1, .ref a2, .ref a3, .ref a4, .ref a5, .ref a6])), (a0, .inl (cI, 22, .inl (gl [m0, m1, m2, m3, m4, m5, m6, m7, m8, m9, m10, m11, m12, m13, m14, m15, m16, m17, 0, 4, 0, 16])))] := hD
  refine lv_istore (lv' := [(4, .int (m2 &&& 3)), (3, .int m2), (0, .ref h), (1, .int p1), (2, .int p2)]) hx hb dX2_tellUsed_12 hl (by decide) rfl (fun ls hl => ?_)
  refine lv_aload_n hx hb dX2_tellUsed_14 rfl (lv_at hl 2 rfl) ?_
  refine lv_iload_n hx hb dX2_tellUsed_15 rfl (lv_at hl 3 rfl) ?_
  refine lv_iconst (v := 2) hx hb dX2_tellUsed_16 (by decide) ?_
  refine zcVi (As := [.int p1, .int 2]) (rest := []) (wr := [(a3, .inl (cI, 24, .inl fr))]) ⟨hx, hb, hml, hown, hts⟩ (kkX2_ofBuffer_g l dC dI cI cB cZ cR H.size h a0 a1 a2 a3 a4 a5 a6 m0 m1 m2 m3 m4 m5 m6 m7 m8 m9 m10 m11 m12 m13 m14 m15 m16 m17 fb p1 2 ) (cwV 2 hts (zgV wm_298 wm_299 wm_300 wm_22 wm_301) rfl rfl rfl (by decide +kernel) ⟨Nat.le_of_ble_eq_true rfl, Nat.le_of_ble_eq_true rfl⟩) hN hK hP hD hS hA [2, 3, 1] [0] rfl rfl ⟨rfl, rfl⟩ (by decide) (ci := 2) rfl rfl rfl rfl hl.1 rfl (Nat.le_of_ble_eq_true rfl) dX2_tellUsed_17 ⟨Nat.le_of_ble_eq_true rfl, Nat.le_of_ble_eq_true rfl⟩ (fun r u hu H locs hP hD hS => ?_)
  have hu : r = (pfX2_ofBuffer_g_r m5 fb p1 2) := hu
  subst hu
  have hP : va_P (dC, dI) vwCl [(a3, .inl (cI, 24, .inl fr)), (h, .inr (2, [.ref a0, .ref a1, .ref a2, .ref a3, .ref a4, .ref a5, .ref a6])), (a0, .inl (cI, 22, .inl (gl [m0, m1, m2, m3, m4, m5, m6, m7, m8, m9, m10, m11, m12, m13, m14, m15, m16, m17, 0, 4, 0, 16]))), (a6, .inl (cI, 4000, .inl fb))] H := hP
  have hD : va_D A [(a3, .inl (cI, 24, .inl fr)), (h, .inr (2, [.ref a0, .ref a1, .ref a2, .ref a3, .ref a4, .ref a5, .ref a6])), (a0, .inl (cI, 22, .inl (gl [m0, m1, m2, m3, m4, m5, m6, m7, m8, m9, m10, m11, m12, m13, m14, m15, m16, m17, 0, 4, 0, 16]))), (a6, .inl (cI, 4000, .inl fb))] := hD
  refine lv_istore (lv' := [(5, .int (pfX2_ofBuffer_g_r m5 fb p1 2)), (4, .int (m2 &&& 3)), (3, .int m2), (0, .ref h), (1, .int p1), (2, .int p2)]) hx hb dX2_tellUsed_20 hl (by decide) rfl (fun ls hl => ?_)
  refine lv_aload_n hx hb dX2_tellUsed_22 rfl (lv_at hl 3 rfl) ?_
  refine zcVi (As := []) (rest := []) (wr := [(a3, .inl (cI, 24, .inl fr)), (a6, .inl (cI, 4000, .inl fb))]) ⟨hx, hb, hml, hown, hts⟩ (kkX2_isPacked l dC dI cI cB cZ cR H.size h a0 a1 a2 a3 a4 a5 a6 m0 m1 m2 m3 m4 m5 m6 m7 m8 m9 m10 m11 m12 m13 m14 m15 m16 m17 ) (cwV 0 hts (zgV wm_267 wm_268 wm_269 wm_22 wm_270) rfl rfl rfl (by decide +kernel) ⟨Nat.le_of_ble_eq_true rfl, Nat.le_of_ble_eq_true rfl⟩) hN hK hP hD hS hA [1, 2] [0, 3] rfl rfl ⟨rfl, rfl⟩ (by decide) (ci := 2) rfl rfl rfl rfl hl.1 rfl (Nat.le_of_ble_eq_true rfl) dX2_tellUsed_23 ⟨Nat.le_of_ble_eq_true rfl, Nat.le_of_ble_eq_true rfl⟩ (fun r u hu H locs hP hD hS => ?_)
  have hu : r = 0 := hu
  subst hu
  have hP : va_P (dC, dI) vwCl [(a3, .inl (cI, 24, .inl fr)), (a6, .inl (cI, 4000, .inl fb)), (h, .inr (2, [.ref a0, .ref a1, .ref a2, .ref a3, .ref a4, .ref a5, .ref a6])), (a0, .inl (cI, 22, .inl (gl [m0, m1, m2, m3, m4, m5, m6, m7, m8, m9, m10, m11, m12, m13, m14, m15, m16, m17, 0, 4, 0, 16])))] H := hP
  have hD : va_D A [(a3, .inl (cI, 24, .inl fr)), (a6, .inl (cI, 4000, .inl fb)), (h, .inr (2, [.ref a0, .ref a1, .ref a2, .ref a3, .ref a4, .ref a5, .ref a6])), (a0, .inl (cI, 22, .inl (gl [m0, m1, m2, m3, m4, m5, m6, m7, m8, m9, m10, m11, m12, m13, m14, m15, m16, m17, 0, 4, 0, 16])))] := hD
  refine lv_if_eq (tgt := 56) hx hb dX2_tellUsed_26 (by decide) (fun _ => ?_) (fun c => absurd (by decide) c)
  refine lv_aload_n hx hb dX2_tellUsed_56 rfl (lv_at hl 3 rfl) ?_
  refine lv_iload hx hb dX2_tellUsed_57 (lv_at hl 1 rfl) ?_
  refine lv_iconst (v := 1) hx hb dX2_tellUsed_59 (by decide) ?_
  refine lv_iload hx hb dX2_tellUsed_60 (lv_at hl 0 rfl) ?_
  refine zcVv (As := [.int (m2 &&& 3), .int 1, .int (pfX2_ofBuffer_g_r m5 fb p1 2)]) (rest := []) (wr := [(a6, .inl (cI, 4000, .inl fb)), (a0, .inl (cI, 22, .inl (gl [m0, m1, m2, m3, m4, m5, m6, m7, m8, m9, m10, m11, m12, m13, m14, m15, m16, m17, 0, 4, 0, 16])))]) ⟨hx, hb, hml, hown, hts⟩ (kkX2_putRow l dC dI cI cB cZ cR H.size h a0 a1 a2 a3 a4 a5 a6 fr (m2 &&& 3) 1 (pfX2_ofBuffer_g_r m5 fb p1 2) ) (cwV 3 hts (zgV wm_318 wm_319 wm_320 wm_22 wm_321) rfl rfl rfl (by decide +kernel) ⟨Nat.le_of_ble_eq_true rfl, Nat.le_of_ble_eq_true rfl⟩) hN hK hP hD hS hA [2, 0] [1, 3] rfl rfl ⟨rfl, rfl⟩ (by decide) (ci := 2) rfl rfl rfl rfl hl.1 rfl (Nat.le_of_ble_eq_true rfl) dX2_tellUsed_62 ⟨Nat.le_of_ble_eq_true rfl, Nat.le_of_ble_eq_true rfl⟩ (fun u hu H locs hP hD hS => ?_)
  have hP : va_P (dC, dI) vwCl [(a6, .inl (cI, 4000, .inl fb)), (a0, .inl (cI, 22, .inl (gl [m0, m1, m2, m3, m4, m5, m6, m7, m8, m9, m10, m11, m12, m13, m14, m15, m16, m17, 0, 4, 0, 16]))), (h, .inr (2, [.ref a0, .ref a1, .ref a2, .ref a3, .ref a4, .ref a5, .ref a6])), (a3, .inl (cI, 24, .inl (pfX2_putRow_a3_f fr (m2 &&& 3) 1 (pfX2_ofBuffer_g_r m5 fb p1 2))))] H := hP
  have hD : va_D A [(a6, .inl (cI, 4000, .inl fb)), (a0, .inl (cI, 22, .inl (gl [m0, m1, m2, m3, m4, m5, m6, m7, m8, m9, m10, m11, m12, m13, m14, m15, m16, m17, 0, 4, 0, 16]))), (h, .inr (2, [.ref a0, .ref a1, .ref a2, .ref a3, .ref a4, .ref a5, .ref a6])), (a3, .inl (cI, 24, .inl (pfX2_putRow_a3_f fr (m2 &&& 3) 1 (pfX2_ofBuffer_g_r m5 fb p1 2))))] := hD
  refine lv_aload_n hx hb dX2_tellUsed_65 rfl (lv_at hl 3 rfl) ?_
  refine lv_iload hx hb dX2_tellUsed_66 (lv_at hl 1 rfl) ?_
  refine lv_iconst (v := 2) hx hb dX2_tellUsed_68 (by decide) ?_
  refine lv_iload_n hx hb dX2_tellUsed_69 rfl (lv_at hl 5 rfl) ?_
  refine zcVv (As := [.int (m2 &&& 3), .int 2, .int p2]) (rest := []) (wr := [(a6, .inl (cI, 4000, .inl fb)), (a0, .inl (cI, 22, .inl (gl [m0, m1, m2, m3, m4, m5, m6, m7, m8, m9, m10, m11, m12, m13, m14, m15, m16, m17, 0, 4, 0, 16])))]) ⟨hx, hb, hml, hown, hts⟩ (kkX2_putRow l dC dI cI cB cZ cR H.size h a0 a1 a2 a3 a4 a5 a6 (pfX2_putRow_a3_f fr (m2 &&& 3) 1 (pfX2_ofBuffer_g_r m5 fb p1 2)) (m2 &&& 3) 2 p2 ) (cwV 3 hts (zgV wm_318 wm_319 wm_320 wm_22 wm_321) rfl rfl rfl (by decide +kernel) ⟨Nat.le_of_ble_eq_true rfl, Nat.le_of_ble_eq_true rfl⟩) hN hK hP hD hS hA [2, 3] [0, 1] rfl rfl ⟨rfl, rfl⟩ (by decide) (ci := 2) rfl rfl rfl rfl hl.1 rfl (Nat.le_of_ble_eq_true rfl) dX2_tellUsed_70 ⟨Nat.le_of_ble_eq_true rfl, Nat.le_of_ble_eq_true rfl⟩ (fun u hu H locs hP hD hS => ?_)
  have hP : va_P (dC, dI) vwCl [(a6, .inl (cI, 4000, .inl fb)), (a0, .inl (cI, 22, .inl (gl [m0, m1, m2, m3, m4, m5, m6, m7, m8, m9, m10, m11, m12, m13, m14, m15, m16, m17, 0, 4, 0, 16]))), (h, .inr (2, [.ref a0, .ref a1, .ref a2, .ref a3, .ref a4, .ref a5, .ref a6])), (a3, .inl (cI, 24, .inl (pfX2_putRow_a3_f (pfX2_putRow_a3_f fr (m2 &&& 3) 1 (pfX2_ofBuffer_g_r m5 fb p1 2)) (m2 &&& 3) 2 p2)))] H := hP
  have hD : va_D A [(a6, .inl (cI, 4000, .inl fb)), (a0, .inl (cI, 22, .inl (gl [m0, m1, m2, m3, m4, m5, m6, m7, m8, m9, m10, m11, m12, m13, m14, m15, m16, m17, 0, 4, 0, 16]))), (h, .inr (2, [.ref a0, .ref a1, .ref a2, .ref a3, .ref a4, .ref a5, .ref a6])), (a3, .inl (cI, 24, .inl (pfX2_putRow_a3_f (pfX2_putRow_a3_f fr (m2 &&& 3) 1 (pfX2_ofBuffer_g_r m5 fb p1 2)) (m2 &&& 3) 2 p2)))] := hD
  have hP9 := hP.sub (ws' := [(h, .inr (2, [.ref a0, .ref a1, .ref a2, .ref a3, .ref a4, .ref a5, .ref a6])), (a0, .inl (cI, 22, .inl (gl [m0, m1, m2, m3, m4, m5, m6, m7, m8, m9, m10, m11, m12, m13, m14, m15, m16, m17, 0, 4, 0, 16]))), (a3, .inl (cI, 24, .inl (pfX2_putRow_a3_f (pfX2_putRow_a3_f fr (m2 &&& 3) 1 (pfX2_ofBuffer_g_r m5 fb p1 2)) (m2 &&& 3) 2 p2))), (a6, .inl (cI, 4000, .inl fb))]) [2, 1, 3, 0] rfl
  have hD9 := hD.sub (ws' := [(h, .inr (2, [.ref a0, .ref a1, .ref a2, .ref a3, .ref a4, .ref a5, .ref a6])), (a0, .inl (cI, 22, .inl (gl [m0, m1, m2, m3, m4, m5, m6, m7, m8, m9, m10, m11, m12, m13, m14, m15, m16, m17, 0, 4, 0, 16]))), (a3, .inl (cI, 24, .inl (pfX2_putRow_a3_f (pfX2_putRow_a3_f fr (m2 &&& 3) 1 (pfX2_ofBuffer_g_r m5 fb p1 2)) (m2 &&& 3) 2 p2))), (a6, .inl (cI, 4000, .inl fb))]) [2, 1, 3, 0] (by decide) rfl
  exact W.vret hx hb hr (fun t ht hW => ⟨⟨(), rfl, trivial, by rw [ht]; exact hP9, va_K.moved hW.alike hK, hD9⟩, hS.F ht⟩) hS.2.2 dX2_tellUsed_73

def pfX2_use_g_r (m5 : Int32) (m7 : Int32) (fb : Nat → Int32) (p1 : Int32) (p2 : Int32) : Int32 := if (pfX2_ofBuffer_g_r m5 fb p1 0) = 1 then (if p2 < 0 then (-2) else (if p2 ≤ (pfX2_ofBuffer_g_r m5 fb p1 4) then (if m7 = 0 then 0 else (-4)) else (-2))) else (-1)
def pfX2_use_g_a0_2 (m2 : Int32) (m5 : Int32) (m7 : Int32) (o0 : Int32) (o1 : Int32) (o2 : Int32) (o3 : Int32) (fb : Nat → Int32) (p1 : Int32) (p2 : Int32) : Int32 := if (pfX2_ofBuffer_g_r m5 fb p1 0) = 1 then (if p2 < 0 then m2 else (if p2 ≤ (pfX2_ofBuffer_g_r m5 fb p1 4) then (if m7 = 0 then (LSX2_moveUsed_0_m2 m5 o0 o1 o2 o3 p1 m2 (pfX2_putBuffer_g_a6_f fb p1 6 p2) 0) else m2) else m2)) else m2
def pfX2_use_g_a3_f (m2 : Int32) (m5 : Int32) (m7 : Int32) (fr : Nat → Int32) (fb : Nat → Int32) (p1 : Int32) (p2 : Int32) : Nat → Int32 := if (pfX2_ofBuffer_g_r m5 fb p1 0) = 1 then (if p2 < 0 then fr else (if p2 ≤ (pfX2_ofBuffer_g_r m5 fb p1 4) then (if m7 = 0 then (pfX2_putRow_a3_f (pfX2_putRow_a3_f fr (m2 &&& 3) 1 (pfX2_ofBuffer_g_r m5 fb p1 2)) (m2 &&& 3) 2 p2) else fr) else fr)) else fr
def pfX2_use_g_a6_f (m2 : Int32) (m5 : Int32) (m7 : Int32) (o0 : Int32) (o1 : Int32) (o2 : Int32) (o3 : Int32) (fb : Nat → Int32) (p1 : Int32) (p2 : Int32) : Nat → Int32 := if (pfX2_ofBuffer_g_r m5 fb p1 0) = 1 then (if p2 < 0 then fb else (if p2 ≤ (pfX2_ofBuffer_g_r m5 fb p1 4) then (if m7 = 0 then (LSX2_moveUsed_0_fb m5 o0 o1 o2 o3 p1 m2 (pfX2_putBuffer_g_a6_f fb p1 6 p2) 0) else fb) else fb)) else fb
set_option maxHeartbeats 4000000 in
set_option maxRecDepth 100000 in
theorem kkX2_use_g (l : Launch) (dC : Nat → ClassId) (dI : Nat → Nat → Nat) (cI cB cZ cR : ClassId) (sz : Nat) (h : Nat) (a0 : Nat) (a1 : Nat) (a2 : Nat) (a3 : Nat) (a4 : Nat) (a5 : Nat) (a6 : Nat) (m0 : Int32) (m1 : Int32) (m2 : Int32) (m3 : Int32) (m4 : Int32) (m5 : Int32) (m6 : Int32) (m7 : Int32) (m8 : Int32) (m9 : Int32) (m10 : Int32) (m11 : Int32) (m12 : Int32) (m13 : Int32) (m14 : Int32) (m15 : Int32) (m16 : Int32) (m17 : Int32) (o0 : Int32) (o1 : Int32) (o2 : Int32) (o3 : Int32) (fr : Nat → Int32) (fb : Nat → Int32) (p1 : Int32) (p2 : Int32) : Met l yX2_use (.code yX2_use cX2_use 6 (some .int) :: wsL_law) ({ frames := 3, cells := 0, slots := 0, locals := 71 }) (zPc dC dI (zT cI cB cZ cR) [.ref h, .int p1, .int p2, .int 0] sz [(h, .inr (2, [.ref a0, .ref a1, .ref a2, .ref a3, .ref a4, .ref a5, .ref a6])), (a0, .inl (cI, 22, .inl (gl [m0, m1, m2, m3, m4, m5, m6, m7, m8, m9, m10, m11, m12, m13, m14, m15, m16, m17, 0, 4, 0, 16]))), (a3, .inl (cI, 24, .inl fr)), (a4, .inl (cI, 8, .inl (gl [o0, o1, o2, o3, (-1), (-1), (-1), (-1)]))), (a6, .inl (cI, 4000, .inl fb))]) (va_Qi (fun (r : Int32) (_ : Unit) => r = (pfX2_use_g_r m5 m7 fb p1 p2)) (fun _ : Unit => zB dC dI (zT cI cB cZ cR) (va_A [(h, .inr (2, [.ref a0, .ref a1, .ref a2, .ref a3, .ref a4, .ref a5, .ref a6])), (a0, .inl (cI, 22, .inl (gl [m0, m1, m2, m3, m4, m5, m6, m7, m8, m9, m10, m11, m12, m13, m14, m15, m16, m17, 0, 4, 0, 16]))), (a3, .inl (cI, 24, .inl fr)), (a4, .inl (cI, 8, .inl (gl [o0, o1, o2, o3, (-1), (-1), (-1), (-1)]))), (a6, .inl (cI, 4000, .inl fb))] sz) [(h, .inr (2, [.ref a0, .ref a1, .ref a2, .ref a3, .ref a4, .ref a5, .ref a6])), (a0, .inl (cI, 22, .inl (gl [m0, m1, (pfX2_use_g_a0_2 m2 m5 m7 o0 o1 o2 o3 fb p1 p2), m3, m4, m5, m6, m7, m8, m9, m10, m11, m12, m13, m14, m15, m16, m17, 0, 4, 0, 16]))), (a3, .inl (cI, 24, .inl (pfX2_use_g_a3_f m2 m5 m7 fr fb p1 p2))), (a4, .inl (cI, 8, .inl (gl [o0, o1, o2, o3, (-1), (-1), (-1), (-1)]))), (a6, .inl (cI, 4000, .inl (pfX2_use_g_a6_f m2 m5 m7 o0 o1 o2 o3 fb p1 p2)))]) (va_A [(h, .inr (2, [.ref a0, .ref a1, .ref a2, .ref a3, .ref a4, .ref a5, .ref a6])), (a0, .inl (cI, 22, .inl (gl [m0, m1, m2, m3, m4, m5, m6, m7, m8, m9, m10, m11, m12, m13, m14, m15, m16, m17, 0, 4, 0, 16]))), (a3, .inl (cI, 24, .inl fr)), (a4, .inl (cI, 8, .inl (gl [o0, o1, o2, o3, (-1), (-1), (-1), (-1)]))), (a6, .inl (cI, 4000, .inl fb))] sz)) 0 0 (va_A [(h, .inr (2, [.ref a0, .ref a1, .ref a2, .ref a3, .ref a4, .ref a5, .ref a6])), (a0, .inl (cI, 22, .inl (gl [m0, m1, m2, m3, m4, m5, m6, m7, m8, m9, m10, m11, m12, m13, m14, m15, m16, m17, 0, 4, 0, 16]))), (a3, .inl (cI, 24, .inl fr)), (a4, .inl (cI, 8, .inl (gl [o0, o1, o2, o3, (-1), (-1), (-1), (-1)]))), (a6, .inl (cI, 4000, .inl fb))] sz) := by
  refine Met.ofW (cc := cX2_use) (maxL := 6) (ret := (some .int)) (by decide) rfl ?_
  intro p e s m args below meth c s₁ B hml hv
  obtain ⟨rfl, hsz, hP, hK, hD0, hN⟩ := hv
  have hx := B.exec
  have hb := B.bytes
  have hr := B.returns
  have hts := atoms_spec (ws := (.code yX2_use cX2_use 6 (some .int) :: wsL_law)) B.pre
  have hown : s.vm.findClass RX2 = some m.cls := findClass_of_methodNamed B.named
  have hlocks := B.notSynchronized
  have hinX2 : ∀ w ∈ u_ws RX2 TX2 7, w ∈ (.code yX2_use cX2_use 6 (some .int) :: wsL_law) := fun w h => List.mem_cons_of_mem _ (inlX2 w h)
  have k_0 := hts (.fieldLink RX2 11 "RingMarks$Ring" "marks" "[I") (List.mem_cons_of_mem _ wm_61)
  subst hsz
  have hD := hD0.self (sz := s.heap.size)
  generalize hAe : va_A [(h, .inr (2, [.ref a0, .ref a1, .ref a2, .ref a3, .ref a4, .ref a5, .ref a6])), (a0, .inl (cI, 22, .inl (gl [m0, m1, m2, m3, m4, m5, m6, m7, m8, m9, m10, m11, m12, m13, m14, m15, m16, m17, 0, 4, 0, 16]))), (a3, .inl (cI, 24, .inl fr)), (a4, .inl (cI, 8, .inl (gl [o0, o1, o2, o3, (-1), (-1), (-1), (-1)]))), (a6, .inl (cI, 4000, .inl fb))] s.heap.size = A at hD ⊢
  have hA : ∀ q : Nat, s.heap.size ≤ q → A q := fun q h => by rw [← hAe]; exact Or.inr h
  have hP : va_P (dC, dI) vwCl [(h, .inr (2, [.ref a0, .ref a1, .ref a2, .ref a3, .ref a4, .ref a5, .ref a6])), (a0, .inl (cI, 22, .inl (gl [m0, m1, m2, m3, m4, m5, m6, m7, m8, m9, m10, m11, m12, m13, m14, m15, m16, m17, 0, 4, 0, 16]))), (a3, .inl (cI, 24, .inl fr)), (a4, .inl (cI, 8, .inl (gl [o0, o1, o2, o3, (-1), (-1), (-1), (-1)]))), (a6, .inl (cI, 4000, .inl fb))] s.heap := hP
  have hl := lv_entry ([.ref h, .int p1, .int p2, .int 0]) (n := 6) (Nat.le_of_ble_eq_true rfl)
  rw [lg_entry_eq]
  generalize (lg_sl ([.ref h, .int p1, .int p2, .int 0]) ++ List.replicate (6 - (lg_sl ([.ref h, .int p1, .int p2, .int 0])).length) Slot.unset).toArray = ls at hl ⊢
  have hl : lv_has ls 6 [(0, .ref h), (1, .int p1), (2, .int p2), (3, .int 0)] := hl
  obtain ⟨H, hH⟩ : ∃ H, H = s.heap := ⟨_, rfl⟩
  rw [← hH] at hP ⊢
  have hS : va_S A s.heap H [] := by rw [hH]; exact va_S.rf
  refine lv_aload_n hx hb dX2_use_0 rfl (lv_at hl 0 rfl) ?_
  refine lv_iconst (v := 1) hx hb dX2_use_1 (by decide) ?_
  refine zcVi (As := [.int 1]) (rest := []) (wr := [(a3, .inl (cI, 24, .inl fr)), (a4, .inl (cI, 8, .inl (gl [o0, o1, o2, o3, (-1), (-1), (-1), (-1)]))), (a6, .inl (cI, 4000, .inl fb))]) ⟨hx, hb, hml, hown, hts⟩ (kkX2_hasFeature_1 l dC dI cI cB cZ cR H.size h a0 a1 a2 a3 a4 a5 a6 m0 m1 m2 m3 m4 m5 m6 m7 m8 m9 m10 m11 m12 m13 m14 m15 m16 m17 ) (cwV 1 hts (zgV wm_251 wm_252 wm_253 wm_22 wm_254) rfl rfl rfl (by decide +kernel) ⟨Nat.le_of_ble_eq_true rfl, Nat.le_of_ble_eq_true rfl⟩) hN hK hP hD hS hA [0, 1] [2, 3, 4] rfl rfl ⟨rfl, rfl⟩ (by decide) (ci := 2) rfl rfl rfl rfl hl.1 rfl (Nat.le_of_ble_eq_true rfl) dX2_use_2 ⟨Nat.le_of_ble_eq_true rfl, Nat.le_of_ble_eq_true rfl⟩ (fun r u hu H locs hP hD hS => ?_)
  have hu : r = 0 := hu
  subst hu
  have hP : va_P (dC, dI) vwCl [(a3, .inl (cI, 24, .inl fr)), (a4, .inl (cI, 8, .inl (gl [o0, o1, o2, o3, (-1), (-1), (-1), (-1)]))), (a6, .inl (cI, 4000, .inl fb)), (h, .inr (2, [.ref a0, .ref a1, .ref a2, .ref a3, .ref a4, .ref a5, .ref a6])), (a0, .inl (cI, 22, .inl (gl [m0, m1, m2, m3, m4, m5, m6, m7, m8, m9, m10, m11, m12, m13, m14, m15, m16, m17, 0, 4, 0, 16])))] H := hP
  have hD : va_D A [(a3, .inl (cI, 24, .inl fr)), (a4, .inl (cI, 8, .inl (gl [o0, o1, o2, o3, (-1), (-1), (-1), (-1)]))), (a6, .inl (cI, 4000, .inl fb)), (h, .inr (2, [.ref a0, .ref a1, .ref a2, .ref a3, .ref a4, .ref a5, .ref a6])), (a0, .inl (cI, 22, .inl (gl [m0, m1, m2, m3, m4, m5, m6, m7, m8, m9, m10, m11, m12, m13, m14, m15, m16, m17, 0, 4, 0, 16])))] := hD
  refine lv_istore (lv' := [(4, .int 0), (0, .ref h), (1, .int p1), (2, .int p2), (3, .int 0)]) hx hb dX2_use_5 hl (by decide) rfl (fun ls hl => ?_)
  refine lv_aload_n hx hb dX2_use_7 rfl (lv_at hl 1 rfl) ?_
  refine lv_iload_n hx hb dX2_use_8 rfl (lv_at hl 2 rfl) ?_
  refine lv_iconst (v := 0) hx hb dX2_use_9 (by decide) ?_
  refine zcVi (As := [.int p1, .int 0]) (rest := []) (wr := [(a3, .inl (cI, 24, .inl fr)), (a4, .inl (cI, 8, .inl (gl [o0, o1, o2, o3, (-1), (-1), (-1), (-1)])))]) ⟨hx, hb, hml, hown, hts⟩ (kkX2_ofBuffer_g l dC dI cI cB cZ cR H.size h a0 a1 a2 a3 a4 a5 a6 m0 m1 m2 m3 m4 m5 m6 m7 m8 m9 m10 m11 m12 m13 m14 m15 m16 m17 fb p1 0 ) (cwV 2 hts (zgV wm_298 wm_299 wm_300 wm_22 wm_301) rfl rfl rfl (by decide +kernel) ⟨Nat.le_of_ble_eq_true rfl, Nat.le_of_ble_eq_true rfl⟩) hN hK hP hD hS hA [3, 4, 2] [0, 1] rfl rfl ⟨rfl, rfl⟩ (by decide) (ci := 2) rfl rfl rfl rfl hl.1 rfl (Nat.le_of_ble_eq_true rfl) dX2_use_10 ⟨Nat.le_of_ble_eq_true rfl, Nat.le_of_ble_eq_true rfl⟩ (fun r u hu H locs hP hD hS => ?_)
  have hu : r = (pfX2_ofBuffer_g_r m5 fb p1 0) := hu
  subst hu
  have hP : va_P (dC, dI) vwCl [(a3, .inl (cI, 24, .inl fr)), (a4, .inl (cI, 8, .inl (gl [o0, o1, o2, o3, (-1), (-1), (-1), (-1)]))), (h, .inr (2, [.ref a0, .ref a1, .ref a2, .ref a3, .ref a4, .ref a5, .ref a6])), (a0, .inl (cI, 22, .inl (gl [m0, m1, m2, m3, m4, m5, m6, m7, m8, m9, m10, m11, m12, m13, m14, m15, m16, m17, 0, 4, 0, 16]))), (a6, .inl (cI, 4000, .inl fb))] H := hP
  have hD : va_D A [(a3, .inl (cI, 24, .inl fr)), (a4, .inl (cI, 8, .inl (gl [o0, o1, o2, o3, (-1), (-1), (-1), (-1)]))), (h, .inr (2, [.ref a0, .ref a1, .ref a2, .ref a3, .ref a4, .ref a5, .ref a6])), (a0, .inl (cI, 22, .inl (gl [m0, m1, m2, m3, m4, m5, m6, m7, m8, m9, m10, m11, m12, m13, m14, m15, m16, m17, 0, 4, 0, 16]))), (a6, .inl (cI, 4000, .inl fb))] := hD
  refine lv_iconst (v := 1) hx hb dX2_use_13 (by decide) ?_
  refine lv_icmp_eq (tgt := 19) hx hb dX2_use_14 (by decide) (fun c_1 => ?_) (fun c_1 => ?_)
  · refine lv_iload_n hx hb dX2_use_19 rfl (lv_at hl 3 rfl) ?_
    refine lv_if_lt (tgt := 33) hx hb dX2_use_20 (by decide) (fun c_2 => ?_) (fun c_2 => ?_)
    · refine lv_bipush (v := (-2)) hx hb dX2_use_33 (by decide) ?_
      have e_0 : (pfX2_use_g_r m5 m7 fb p1 p2) = (-2) := by rw [pfX2_use_g_r, if_pos c_1, if_pos c_2]
      have e_1 : (pfX2_use_g_a0_2 m2 m5 m7 o0 o1 o2 o3 fb p1 p2) = m2 := by rw [pfX2_use_g_a0_2, if_pos c_1, if_pos c_2]
      have e_2 : (pfX2_use_g_a3_f m2 m5 m7 fr fb p1 p2) = fr := by rw [pfX2_use_g_a3_f, if_pos c_1, if_pos c_2]
      have e_3 : (pfX2_use_g_a6_f m2 m5 m7 o0 o1 o2 o3 fb p1 p2) = fb := by rw [pfX2_use_g_a6_f, if_pos c_1, if_pos c_2]
      have hP9 := hP.sub (ws' := [(h, .inr (2, [.ref a0, .ref a1, .ref a2, .ref a3, .ref a4, .ref a5, .ref a6])), (a0, .inl (cI, 22, .inl (gl [m0, m1, m2, m3, m4, m5, m6, m7, m8, m9, m10, m11, m12, m13, m14, m15, m16, m17, 0, 4, 0, 16]))), (a3, .inl (cI, 24, .inl fr)), (a4, .inl (cI, 8, .inl (gl [o0, o1, o2, o3, (-1), (-1), (-1), (-1)]))), (a6, .inl (cI, 4000, .inl fb))]) [2, 3, 0, 1, 4] rfl
      have hD9 := hD.sub (ws' := [(h, .inr (2, [.ref a0, .ref a1, .ref a2, .ref a3, .ref a4, .ref a5, .ref a6])), (a0, .inl (cI, 22, .inl (gl [m0, m1, m2, m3, m4, m5, m6, m7, m8, m9, m10, m11, m12, m13, m14, m15, m16, m17, 0, 4, 0, 16]))), (a3, .inl (cI, 24, .inl fr)), (a4, .inl (cI, 8, .inl (gl [o0, o1, o2, o3, (-1), (-1), (-1), (-1)]))), (a6, .inl (cI, 4000, .inl fb))]) [2, 3, 0, 1, 4] (by decide) rfl
      exact W.iret (v := (-2)) hx hb hr (fun t ht hW => ⟨⟨(-2), (), rfl, e_0.symm, by rw [ht, e_1, e_2, e_3]; exact hP9, va_K.moved hW.alike hK, (by rw [e_1, e_2, e_3]; exact hD9)⟩, hS.F ht⟩) hS.2.2 dX2_use_35
    · refine lv_iload_n hx hb dX2_use_23 rfl (lv_at hl 3 rfl) ?_
      refine lv_aload_n hx hb dX2_use_24 rfl (lv_at hl 1 rfl) ?_
      refine lv_iload_n hx hb dX2_use_25 rfl (lv_at hl 2 rfl) ?_
      refine lv_iconst (v := 4) hx hb dX2_use_26 (by decide) ?_
      refine zcVi (As := [.int p1, .int 4]) (rest := [.int p2]) (wr := [(a3, .inl (cI, 24, .inl fr)), (a4, .inl (cI, 8, .inl (gl [o0, o1, o2, o3, (-1), (-1), (-1), (-1)])))]) ⟨hx, hb, hml, hown, hts⟩ (kkX2_ofBuffer_g l dC dI cI cB cZ cR H.size h a0 a1 a2 a3 a4 a5 a6 m0 m1 m2 m3 m4 m5 m6 m7 m8 m9 m10 m11 m12 m13 m14 m15 m16 m17 fb p1 4 ) (cwV 2 hts (zgV wm_298 wm_299 wm_300 wm_22 wm_301) rfl rfl rfl (by decide +kernel) ⟨Nat.le_of_ble_eq_true rfl, Nat.le_of_ble_eq_true rfl⟩) hN hK hP hD hS hA [2, 3, 4] [0, 1] rfl rfl ⟨rfl, rfl⟩ (by decide) (ci := 2) rfl rfl rfl rfl hl.1 rfl (Nat.le_of_ble_eq_true rfl) dX2_use_27 ⟨Nat.le_of_ble_eq_true rfl, Nat.le_of_ble_eq_true rfl⟩ (fun r u hu H locs hP hD hS => ?_)
      have hu : r = (pfX2_ofBuffer_g_r m5 fb p1 4) := hu
      subst hu
      have hP : va_P (dC, dI) vwCl [(a3, .inl (cI, 24, .inl fr)), (a4, .inl (cI, 8, .inl (gl [o0, o1, o2, o3, (-1), (-1), (-1), (-1)]))), (h, .inr (2, [.ref a0, .ref a1, .ref a2, .ref a3, .ref a4, .ref a5, .ref a6])), (a0, .inl (cI, 22, .inl (gl [m0, m1, m2, m3, m4, m5, m6, m7, m8, m9, m10, m11, m12, m13, m14, m15, m16, m17, 0, 4, 0, 16]))), (a6, .inl (cI, 4000, .inl fb))] H := hP
      have hD : va_D A [(a3, .inl (cI, 24, .inl fr)), (a4, .inl (cI, 8, .inl (gl [o0, o1, o2, o3, (-1), (-1), (-1), (-1)]))), (h, .inr (2, [.ref a0, .ref a1, .ref a2, .ref a3, .ref a4, .ref a5, .ref a6])), (a0, .inl (cI, 22, .inl (gl [m0, m1, m2, m3, m4, m5, m6, m7, m8, m9, m10, m11, m12, m13, m14, m15, m16, m17, 0, 4, 0, 16]))), (a6, .inl (cI, 4000, .inl fb))] := hD
      refine lv_icmp_le (tgt := 36) hx hb dX2_use_30 (by decide) (fun c_3 => ?_) (fun c_3 => ?_)
      · refine lv_iload_n hx hb dX2_use_36 rfl (lv_at hl 4 rfl) ?_
        refine lv_if_eq (tgt := 48) hx hb dX2_use_37 (by decide) (fun _ => ?_) (fun c => absurd (by decide) c)
        refine lv_iload hx hb dX2_use_48 (lv_at hl 0 rfl) ?_
        refine lv_if_eq (tgt := 64) hx hb dX2_use_50 (by decide) (fun _ => ?_) (fun c => absurd (by decide) c)
        refine lv_aload_n hx hb dX2_use_64 rfl (lv_at hl 1 rfl) ?_
        refine va_get (D := (dC, dI)) (ci := 2) (v := .ref a0) (C := RX2) (T := TX2) (N := 7) hx hb hts hinX2 hown hK hP 2 rfl rfl 0 (by decide) k_0 (fun _ h9 => h9) rfl dX2_use_65 ?_
        refine lv_bipush (v := 7) hx hb dX2_use_68 (by decide) ?_
        refine za_iald (v := m7) hx hb hK hP 3 0 rfl rfl (zin tn_7 (Nat.le_of_ble_eq_true rfl)) (zrd _ tn_7 rfl) dX2_use_70 ?_
        refine lv_if_eq (tgt := 77) hx hb dX2_use_71 (by decide) (fun c_4 => ?_) (fun c_4 => ?_)
        · refine lv_aload_n hx hb dX2_use_77 rfl (lv_at hl 1 rfl) ?_
          refine lv_iload_n hx hb dX2_use_78 rfl (lv_at hl 2 rfl) ?_
          refine lv_iload_n hx hb dX2_use_79 rfl (lv_at hl 3 rfl) ?_
          refine zcVv (As := [.int p1, .int p2]) (rest := []) (wr := [(a4, .inl (cI, 8, .inl (gl [o0, o1, o2, o3, (-1), (-1), (-1), (-1)])))]) ⟨hx, hb, hml, hown, hts⟩ (kkX2_tellUsed l dC dI cI cB cZ cR H.size h a0 a1 a2 a3 a4 a5 a6 m0 m1 m2 m3 m4 m5 m6 m7 m8 m9 m10 m11 m12 m13 m14 m15 m16 m17 fr fb p1 p2 ) (cwV 2 hts (zgV wm_556 wm_557 wm_558 wm_22 wm_559) rfl rfl rfl (by decide +kernel) ⟨Nat.le_of_ble_eq_true rfl, Nat.le_of_ble_eq_true rfl⟩) hN hK hP hD hS hA [2, 3, 0, 4] [1] rfl rfl ⟨rfl, rfl⟩ (by decide) (ci := 2) rfl rfl rfl rfl hl.1 rfl (Nat.le_of_ble_eq_true rfl) dX2_use_80 ⟨Nat.le_of_ble_eq_true rfl, Nat.le_of_ble_eq_true rfl⟩ (fun u hu H locs hP hD hS => ?_)
          have hP : va_P (dC, dI) vwCl [(a4, .inl (cI, 8, .inl (gl [o0, o1, o2, o3, (-1), (-1), (-1), (-1)]))), (h, .inr (2, [.ref a0, .ref a1, .ref a2, .ref a3, .ref a4, .ref a5, .ref a6])), (a0, .inl (cI, 22, .inl (gl [m0, m1, m2, m3, m4, m5, m6, m7, m8, m9, m10, m11, m12, m13, m14, m15, m16, m17, 0, 4, 0, 16]))), (a3, .inl (cI, 24, .inl (pfX2_putRow_a3_f (pfX2_putRow_a3_f fr (m2 &&& 3) 1 (pfX2_ofBuffer_g_r m5 fb p1 2)) (m2 &&& 3) 2 p2))), (a6, .inl (cI, 4000, .inl fb))] H := hP
          have hD : va_D A [(a4, .inl (cI, 8, .inl (gl [o0, o1, o2, o3, (-1), (-1), (-1), (-1)]))), (h, .inr (2, [.ref a0, .ref a1, .ref a2, .ref a3, .ref a4, .ref a5, .ref a6])), (a0, .inl (cI, 22, .inl (gl [m0, m1, m2, m3, m4, m5, m6, m7, m8, m9, m10, m11, m12, m13, m14, m15, m16, m17, 0, 4, 0, 16]))), (a3, .inl (cI, 24, .inl (pfX2_putRow_a3_f (pfX2_putRow_a3_f fr (m2 &&& 3) 1 (pfX2_ofBuffer_g_r m5 fb p1 2)) (m2 &&& 3) 2 p2))), (a6, .inl (cI, 4000, .inl fb))] := hD
          refine lv_aload_n hx hb dX2_use_83 rfl (lv_at hl 1 rfl) ?_
          refine lv_iload_n hx hb dX2_use_84 rfl (lv_at hl 2 rfl) ?_
          refine lv_bipush (v := 6) hx hb dX2_use_85 (by decide) ?_
          refine lv_iload_n hx hb dX2_use_87 rfl (lv_at hl 3 rfl) ?_
          refine zcVv (As := [.int p1, .int 6, .int p2]) (rest := []) (wr := [(a4, .inl (cI, 8, .inl (gl [o0, o1, o2, o3, (-1), (-1), (-1), (-1)]))), (a0, .inl (cI, 22, .inl (gl [m0, m1, m2, m3, m4, m5, m6, m7, m8, m9, m10, m11, m12, m13, m14, m15, m16, m17, 0, 4, 0, 16]))), (a3, .inl (cI, 24, .inl (pfX2_putRow_a3_f (pfX2_putRow_a3_f fr (m2 &&& 3) 1 (pfX2_ofBuffer_g_r m5 fb p1 2)) (m2 &&& 3) 2 p2)))]) ⟨hx, hb, hml, hown, hts⟩ (kkX2_putBuffer_g l dC dI cI cB cZ cR H.size h a0 a1 a2 a3 a4 a5 a6 fb p1 6 p2 ) (cwV 3 hts (zgV wm_278 wm_279 wm_280 wm_22 wm_281) rfl rfl rfl (by decide +kernel) ⟨Nat.le_of_ble_eq_true rfl, Nat.le_of_ble_eq_true rfl⟩) hN hK hP hD hS hA [1, 4] [0, 2, 3] rfl rfl ⟨rfl, rfl⟩ (by decide) (ci := 2) rfl rfl rfl rfl hl.1 rfl (Nat.le_of_ble_eq_true rfl) dX2_use_88 ⟨Nat.le_of_ble_eq_true rfl, Nat.le_of_ble_eq_true rfl⟩ (fun u hu H locs hP hD hS => ?_)
          have hP : va_P (dC, dI) vwCl [(a4, .inl (cI, 8, .inl (gl [o0, o1, o2, o3, (-1), (-1), (-1), (-1)]))), (a0, .inl (cI, 22, .inl (gl [m0, m1, m2, m3, m4, m5, m6, m7, m8, m9, m10, m11, m12, m13, m14, m15, m16, m17, 0, 4, 0, 16]))), (a3, .inl (cI, 24, .inl (pfX2_putRow_a3_f (pfX2_putRow_a3_f fr (m2 &&& 3) 1 (pfX2_ofBuffer_g_r m5 fb p1 2)) (m2 &&& 3) 2 p2))), (h, .inr (2, [.ref a0, .ref a1, .ref a2, .ref a3, .ref a4, .ref a5, .ref a6])), (a6, .inl (cI, 4000, .inl (pfX2_putBuffer_g_a6_f fb p1 6 p2)))] H := hP
          have hD : va_D A [(a4, .inl (cI, 8, .inl (gl [o0, o1, o2, o3, (-1), (-1), (-1), (-1)]))), (a0, .inl (cI, 22, .inl (gl [m0, m1, m2, m3, m4, m5, m6, m7, m8, m9, m10, m11, m12, m13, m14, m15, m16, m17, 0, 4, 0, 16]))), (a3, .inl (cI, 24, .inl (pfX2_putRow_a3_f (pfX2_putRow_a3_f fr (m2 &&& 3) 1 (pfX2_ofBuffer_g_r m5 fb p1 2)) (m2 &&& 3) 2 p2))), (h, .inr (2, [.ref a0, .ref a1, .ref a2, .ref a3, .ref a4, .ref a5, .ref a6])), (a6, .inl (cI, 4000, .inl (pfX2_putBuffer_g_a6_f fb p1 6 p2)))] := hD
          refine lv_aload_n hx hb dX2_use_91 rfl (lv_at hl 1 rfl) ?_
          refine lv_iload_n hx hb dX2_use_92 rfl (lv_at hl 2 rfl) ?_
          refine lv_iload_n hx hb dX2_use_93 rfl (lv_at hl 4 rfl) ?_
          refine zcVi (As := [.int p1, .int 0]) (rest := []) (wr := [(a3, .inl (cI, 24, .inl (pfX2_putRow_a3_f (pfX2_putRow_a3_f fr (m2 &&& 3) 1 (pfX2_ofBuffer_g_r m5 fb p1 2)) (m2 &&& 3) 2 p2)))]) ⟨hx, hb, hml, hown, hts⟩ (kkX2_moveUsed l dC dI cI cB cZ cR H.size h a0 a1 a2 a3 a4 a5 a6 m0 m1 m2 m3 m4 m5 m6 m7 m8 m9 m10 m11 m12 m13 m14 m15 m16 m17 o0 o1 o2 o3 (pfX2_putBuffer_g_a6_f fb p1 6 p2) p1 ) (cwV 2 hts (zgV wm_560 wm_561 wm_562 wm_22 wm_563) rfl rfl rfl (by decide +kernel) ⟨Nat.le_of_ble_eq_true rfl, Nat.le_of_ble_eq_true rfl⟩) hN hK hP hD hS hA [3, 1, 0, 4] [2] rfl rfl ⟨rfl, rfl⟩ (by decide) (ci := 2) rfl rfl rfl rfl hl.1 rfl (Nat.le_of_ble_eq_true rfl) dX2_use_94 ⟨Nat.le_of_ble_eq_true rfl, Nat.le_of_ble_eq_true rfl⟩ (fun r u hu H locs hP hD hS => ?_)
          have hu : r = (LSX2_moveUsed_0_fi m5 o0 o1 o2 o3 p1 m2 (pfX2_putBuffer_g_a6_f fb p1 6 p2) 0) := hu
          subst hu
          have hP : va_P (dC, dI) vwCl [(a3, .inl (cI, 24, .inl (pfX2_putRow_a3_f (pfX2_putRow_a3_f fr (m2 &&& 3) 1 (pfX2_ofBuffer_g_r m5 fb p1 2)) (m2 &&& 3) 2 p2))), (h, .inr (2, [.ref a0, .ref a1, .ref a2, .ref a3, .ref a4, .ref a5, .ref a6])), (a0, .inl (cI, 22, .inl (gl [m0, m1, (LSX2_moveUsed_0_m2 m5 o0 o1 o2 o3 p1 m2 (pfX2_putBuffer_g_a6_f fb p1 6 p2) 0), m3, m4, m5, m6, m7, m8, m9, m10, m11, m12, m13, m14, m15, m16, m17, 0, 4, 0, 16]))), (a4, .inl (cI, 8, .inl (gl [o0, o1, o2, o3, (-1), (-1), (-1), (-1)]))), (a6, .inl (cI, 4000, .inl (LSX2_moveUsed_0_fb m5 o0 o1 o2 o3 p1 m2 (pfX2_putBuffer_g_a6_f fb p1 6 p2) 0)))] H := hP
          have hD : va_D A [(a3, .inl (cI, 24, .inl (pfX2_putRow_a3_f (pfX2_putRow_a3_f fr (m2 &&& 3) 1 (pfX2_ofBuffer_g_r m5 fb p1 2)) (m2 &&& 3) 2 p2))), (h, .inr (2, [.ref a0, .ref a1, .ref a2, .ref a3, .ref a4, .ref a5, .ref a6])), (a0, .inl (cI, 22, .inl (gl [m0, m1, (LSX2_moveUsed_0_m2 m5 o0 o1 o2 o3 p1 m2 (pfX2_putBuffer_g_a6_f fb p1 6 p2) 0), m3, m4, m5, m6, m7, m8, m9, m10, m11, m12, m13, m14, m15, m16, m17, 0, 4, 0, 16]))), (a4, .inl (cI, 8, .inl (gl [o0, o1, o2, o3, (-1), (-1), (-1), (-1)]))), (a6, .inl (cI, 4000, .inl (LSX2_moveUsed_0_fb m5 o0 o1 o2 o3 p1 m2 (pfX2_putBuffer_g_a6_f fb p1 6 p2) 0)))] := hD
          refine lv_istore (lv' := [(5, .int (LSX2_moveUsed_0_fi m5 o0 o1 o2 o3 p1 m2 (pfX2_putBuffer_g_a6_f fb p1 6 p2) 0)), (4, .int 0), (0, .ref h), (1, .int p1), (2, .int p2), (3, .int 0)]) hx hb dX2_use_97 hl (by decide) rfl (fun ls hl => ?_)
          refine lv_iload_n hx hb dX2_use_99 rfl (lv_at hl 5 rfl) ?_
          refine lv_if_eq (tgt := 108) hx hb dX2_use_100 (by decide) (fun _ => ?_) (fun c => absurd (by decide) c)
          refine lv_iconst (v := 0) hx hb dX2_use_108 (by decide) ?_
          have e_0 : (pfX2_use_g_r m5 m7 fb p1 p2) = 0 := by rw [pfX2_use_g_r, if_pos c_1, if_neg c_2, if_pos c_3, if_pos c_4]
          have e_1 : (pfX2_use_g_a0_2 m2 m5 m7 o0 o1 o2 o3 fb p1 p2) = (LSX2_moveUsed_0_m2 m5 o0 o1 o2 o3 p1 m2 (pfX2_putBuffer_g_a6_f fb p1 6 p2) 0) := by rw [pfX2_use_g_a0_2, if_pos c_1, if_neg c_2, if_pos c_3, if_pos c_4]
          have e_2 : (pfX2_use_g_a3_f m2 m5 m7 fr fb p1 p2) = (pfX2_putRow_a3_f (pfX2_putRow_a3_f fr (m2 &&& 3) 1 (pfX2_ofBuffer_g_r m5 fb p1 2)) (m2 &&& 3) 2 p2) := by rw [pfX2_use_g_a3_f, if_pos c_1, if_neg c_2, if_pos c_3, if_pos c_4]
          have e_3 : (pfX2_use_g_a6_f m2 m5 m7 o0 o1 o2 o3 fb p1 p2) = (LSX2_moveUsed_0_fb m5 o0 o1 o2 o3 p1 m2 (pfX2_putBuffer_g_a6_f fb p1 6 p2) 0) := by rw [pfX2_use_g_a6_f, if_pos c_1, if_neg c_2, if_pos c_3, if_pos c_4]
          have hP9 := hP.sub (ws' := [(h, .inr (2, [.ref a0, .ref a1, .ref a2, .ref a3, .ref a4, .ref a5, .ref a6])), (a0, .inl (cI, 22, .inl (gl [m0, m1, (LSX2_moveUsed_0_m2 m5 o0 o1 o2 o3 p1 m2 (pfX2_putBuffer_g_a6_f fb p1 6 p2) 0), m3, m4, m5, m6, m7, m8, m9, m10, m11, m12, m13, m14, m15, m16, m17, 0, 4, 0, 16]))), (a3, .inl (cI, 24, .inl (pfX2_putRow_a3_f (pfX2_putRow_a3_f fr (m2 &&& 3) 1 (pfX2_ofBuffer_g_r m5 fb p1 2)) (m2 &&& 3) 2 p2))), (a4, .inl (cI, 8, .inl (gl [o0, o1, o2, o3, (-1), (-1), (-1), (-1)]))), (a6, .inl (cI, 4000, .inl (LSX2_moveUsed_0_fb m5 o0 o1 o2 o3 p1 m2 (pfX2_putBuffer_g_a6_f fb p1 6 p2) 0)))]) [1, 2, 0, 3, 4] rfl
          have hD9 := hD.sub (ws' := [(h, .inr (2, [.ref a0, .ref a1, .ref a2, .ref a3, .ref a4, .ref a5, .ref a6])), (a0, .inl (cI, 22, .inl (gl [m0, m1, (LSX2_moveUsed_0_m2 m5 o0 o1 o2 o3 p1 m2 (pfX2_putBuffer_g_a6_f fb p1 6 p2) 0), m3, m4, m5, m6, m7, m8, m9, m10, m11, m12, m13, m14, m15, m16, m17, 0, 4, 0, 16]))), (a3, .inl (cI, 24, .inl (pfX2_putRow_a3_f (pfX2_putRow_a3_f fr (m2 &&& 3) 1 (pfX2_ofBuffer_g_r m5 fb p1 2)) (m2 &&& 3) 2 p2))), (a4, .inl (cI, 8, .inl (gl [o0, o1, o2, o3, (-1), (-1), (-1), (-1)]))), (a6, .inl (cI, 4000, .inl (LSX2_moveUsed_0_fb m5 o0 o1 o2 o3 p1 m2 (pfX2_putBuffer_g_a6_f fb p1 6 p2) 0)))]) [1, 2, 0, 3, 4] (by decide) rfl
          exact W.iret (v := 0) hx hb hr (fun t ht hW => ⟨⟨0, (), rfl, e_0.symm, by rw [ht, e_1, e_2, e_3]; exact hP9, va_K.moved hW.alike hK, (by rw [e_1, e_2, e_3]; exact hD9)⟩, hS.F ht⟩) hS.2.2 dX2_use_109
        · refine lv_bipush (v := (-4)) hx hb dX2_use_74 (by decide) ?_
          have e_0 : (pfX2_use_g_r m5 m7 fb p1 p2) = (-4) := by rw [pfX2_use_g_r, if_pos c_1, if_neg c_2, if_pos c_3, if_neg c_4]
          have e_1 : (pfX2_use_g_a0_2 m2 m5 m7 o0 o1 o2 o3 fb p1 p2) = m2 := by rw [pfX2_use_g_a0_2, if_pos c_1, if_neg c_2, if_pos c_3, if_neg c_4]
          have e_2 : (pfX2_use_g_a3_f m2 m5 m7 fr fb p1 p2) = fr := by rw [pfX2_use_g_a3_f, if_pos c_1, if_neg c_2, if_pos c_3, if_neg c_4]
          have e_3 : (pfX2_use_g_a6_f m2 m5 m7 o0 o1 o2 o3 fb p1 p2) = fb := by rw [pfX2_use_g_a6_f, if_pos c_1, if_neg c_2, if_pos c_3, if_neg c_4]
          have hP9 := hP.sub (ws' := [(h, .inr (2, [.ref a0, .ref a1, .ref a2, .ref a3, .ref a4, .ref a5, .ref a6])), (a0, .inl (cI, 22, .inl (gl [m0, m1, m2, m3, m4, m5, m6, m7, m8, m9, m10, m11, m12, m13, m14, m15, m16, m17, 0, 4, 0, 16]))), (a3, .inl (cI, 24, .inl fr)), (a4, .inl (cI, 8, .inl (gl [o0, o1, o2, o3, (-1), (-1), (-1), (-1)]))), (a6, .inl (cI, 4000, .inl fb))]) [2, 3, 0, 1, 4] rfl
          have hD9 := hD.sub (ws' := [(h, .inr (2, [.ref a0, .ref a1, .ref a2, .ref a3, .ref a4, .ref a5, .ref a6])), (a0, .inl (cI, 22, .inl (gl [m0, m1, m2, m3, m4, m5, m6, m7, m8, m9, m10, m11, m12, m13, m14, m15, m16, m17, 0, 4, 0, 16]))), (a3, .inl (cI, 24, .inl fr)), (a4, .inl (cI, 8, .inl (gl [o0, o1, o2, o3, (-1), (-1), (-1), (-1)]))), (a6, .inl (cI, 4000, .inl fb))]) [2, 3, 0, 1, 4] (by decide) rfl
          exact W.iret (v := (-4)) hx hb hr (fun t ht hW => ⟨⟨(-4), (), rfl, e_0.symm, by rw [ht, e_1, e_2, e_3]; exact hP9, va_K.moved hW.alike hK, (by rw [e_1, e_2, e_3]; exact hD9)⟩, hS.F ht⟩) hS.2.2 dX2_use_76
      · refine lv_bipush (v := (-2)) hx hb dX2_use_33 (by decide) ?_
        have e_0 : (pfX2_use_g_r m5 m7 fb p1 p2) = (-2) := by rw [pfX2_use_g_r, if_pos c_1, if_neg c_2, if_neg c_3]
        have e_1 : (pfX2_use_g_a0_2 m2 m5 m7 o0 o1 o2 o3 fb p1 p2) = m2 := by rw [pfX2_use_g_a0_2, if_pos c_1, if_neg c_2, if_neg c_3]
        have e_2 : (pfX2_use_g_a3_f m2 m5 m7 fr fb p1 p2) = fr := by rw [pfX2_use_g_a3_f, if_pos c_1, if_neg c_2, if_neg c_3]
        have e_3 : (pfX2_use_g_a6_f m2 m5 m7 o0 o1 o2 o3 fb p1 p2) = fb := by rw [pfX2_use_g_a6_f, if_pos c_1, if_neg c_2, if_neg c_3]
        have hP9 := hP.sub (ws' := [(h, .inr (2, [.ref a0, .ref a1, .ref a2, .ref a3, .ref a4, .ref a5, .ref a6])), (a0, .inl (cI, 22, .inl (gl [m0, m1, m2, m3, m4, m5, m6, m7, m8, m9, m10, m11, m12, m13, m14, m15, m16, m17, 0, 4, 0, 16]))), (a3, .inl (cI, 24, .inl fr)), (a4, .inl (cI, 8, .inl (gl [o0, o1, o2, o3, (-1), (-1), (-1), (-1)]))), (a6, .inl (cI, 4000, .inl fb))]) [2, 3, 0, 1, 4] rfl
        have hD9 := hD.sub (ws' := [(h, .inr (2, [.ref a0, .ref a1, .ref a2, .ref a3, .ref a4, .ref a5, .ref a6])), (a0, .inl (cI, 22, .inl (gl [m0, m1, m2, m3, m4, m5, m6, m7, m8, m9, m10, m11, m12, m13, m14, m15, m16, m17, 0, 4, 0, 16]))), (a3, .inl (cI, 24, .inl fr)), (a4, .inl (cI, 8, .inl (gl [o0, o1, o2, o3, (-1), (-1), (-1), (-1)]))), (a6, .inl (cI, 4000, .inl fb))]) [2, 3, 0, 1, 4] (by decide) rfl
        exact W.iret (v := (-2)) hx hb hr (fun t ht hW => ⟨⟨(-2), (), rfl, e_0.symm, by rw [ht, e_1, e_2, e_3]; exact hP9, va_K.moved hW.alike hK, (by rw [e_1, e_2, e_3]; exact hD9)⟩, hS.F ht⟩) hS.2.2 dX2_use_35
  · refine lv_iconst (v := (-1)) hx hb dX2_use_17 (by decide) ?_
    have e_0 : (pfX2_use_g_r m5 m7 fb p1 p2) = (-1) := by rw [pfX2_use_g_r, if_neg c_1]
    have e_1 : (pfX2_use_g_a0_2 m2 m5 m7 o0 o1 o2 o3 fb p1 p2) = m2 := by rw [pfX2_use_g_a0_2, if_neg c_1]
    have e_2 : (pfX2_use_g_a3_f m2 m5 m7 fr fb p1 p2) = fr := by rw [pfX2_use_g_a3_f, if_neg c_1]
    have e_3 : (pfX2_use_g_a6_f m2 m5 m7 o0 o1 o2 o3 fb p1 p2) = fb := by rw [pfX2_use_g_a6_f, if_neg c_1]
    have hP9 := hP.sub (ws' := [(h, .inr (2, [.ref a0, .ref a1, .ref a2, .ref a3, .ref a4, .ref a5, .ref a6])), (a0, .inl (cI, 22, .inl (gl [m0, m1, m2, m3, m4, m5, m6, m7, m8, m9, m10, m11, m12, m13, m14, m15, m16, m17, 0, 4, 0, 16]))), (a3, .inl (cI, 24, .inl fr)), (a4, .inl (cI, 8, .inl (gl [o0, o1, o2, o3, (-1), (-1), (-1), (-1)]))), (a6, .inl (cI, 4000, .inl fb))]) [2, 3, 0, 1, 4] rfl
    have hD9 := hD.sub (ws' := [(h, .inr (2, [.ref a0, .ref a1, .ref a2, .ref a3, .ref a4, .ref a5, .ref a6])), (a0, .inl (cI, 22, .inl (gl [m0, m1, m2, m3, m4, m5, m6, m7, m8, m9, m10, m11, m12, m13, m14, m15, m16, m17, 0, 4, 0, 16]))), (a3, .inl (cI, 24, .inl fr)), (a4, .inl (cI, 8, .inl (gl [o0, o1, o2, o3, (-1), (-1), (-1), (-1)]))), (a6, .inl (cI, 4000, .inl fb))]) [2, 3, 0, 1, 4] (by decide) rfl
    exact W.iret (v := (-1)) hx hb hr (fun t ht hW => ⟨⟨(-1), (), rfl, e_0.symm, by rw [ht, e_1, e_2, e_3]; exact hP9, va_K.moved hW.alike hK, (by rw [e_1, e_2, e_3]; exact hD9)⟩, hS.F ht⟩) hS.2.2 dX2_use_18

def pfX7_isFirstFetchedFinished_r (sd : Int32) (m5 : Int32) (m7 : Int32) (o0 : Int32) (o1 : Int32) (o2 : Int32) (o3 : Int32) (fb : Nat → Int32) : Int32 := if (LSX2_firstFetched_0_ff m5 o0 o1 o2 o3 fb (-1)) = (-1) then 0 else (if (pfX2_use_g_r m5 m7 fb (LSX2_firstFetched_0_ff m5 o0 o1 o2 o3 fb (-1)) (pfX7_draw_10_r sd)) = 0 then 1 else 0)
def pfX7_isFirstFetchedFinished_x_11 (sd : Int32) (m5 : Int32) (o0 : Int32) (o1 : Int32) (o2 : Int32) (o3 : Int32) (fb : Nat → Int32) : Int32 := if (LSX2_firstFetched_0_ff m5 o0 o1 o2 o3 fb (-1)) = (-1) then sd else (pfX7_draw_10_x_11 sd)
def pfX7_isFirstFetchedFinished_a0_2 (sd : Int32) (m2 : Int32) (m5 : Int32) (m7 : Int32) (o0 : Int32) (o1 : Int32) (o2 : Int32) (o3 : Int32) (fb : Nat → Int32) : Int32 := if (LSX2_firstFetched_0_ff m5 o0 o1 o2 o3 fb (-1)) = (-1) then m2 else (pfX2_use_g_a0_2 m2 m5 m7 o0 o1 o2 o3 fb (LSX2_firstFetched_0_ff m5 o0 o1 o2 o3 fb (-1)) (pfX7_draw_10_r sd))
def pfX7_isFirstFetchedFinished_a3_f (sd : Int32) (m2 : Int32) (m5 : Int32) (m7 : Int32) (o0 : Int32) (o1 : Int32) (o2 : Int32) (o3 : Int32) (fr : Nat → Int32) (fb : Nat → Int32) : Nat → Int32 := if (LSX2_firstFetched_0_ff m5 o0 o1 o2 o3 fb (-1)) = (-1) then fr else (pfX2_use_g_a3_f m2 m5 m7 fr fb (LSX2_firstFetched_0_ff m5 o0 o1 o2 o3 fb (-1)) (pfX7_draw_10_r sd))
def pfX7_isFirstFetchedFinished_a6_f (sd : Int32) (m2 : Int32) (m5 : Int32) (m7 : Int32) (o0 : Int32) (o1 : Int32) (o2 : Int32) (o3 : Int32) (fb : Nat → Int32) : Nat → Int32 := if (LSX2_firstFetched_0_ff m5 o0 o1 o2 o3 fb (-1)) = (-1) then fb else (pfX2_use_g_a6_f m2 m5 m7 o0 o1 o2 o3 fb (LSX2_firstFetched_0_ff m5 o0 o1 o2 o3 fb (-1)) (pfX7_draw_10_r sd))
set_option maxHeartbeats 4000000 in
set_option maxRecDepth 100000 in
theorem kkX7_isFirstFetchedFinished (l : Launch) (dC : Nat → ClassId) (dI : Nat → Nat → Nat) (cI cB cZ cR : ClassId) (sz : Nat) (x : Nat) (xt : Nat) (xd : Nat) (h : Nat) (xk : Nat) (xl : Nat) (xw : Nat) (xp : Nat) (xs : Nat) (xr : Nat) (tl : Int32) (sd : Int32) (a0 : Nat) (a1 : Nat) (a2 : Nat) (a3 : Nat) (a4 : Nat) (a5 : Nat) (a6 : Nat) (m0 : Int32) (m1 : Int32) (m2 : Int32) (m3 : Int32) (m4 : Int32) (m5 : Int32) (m6 : Int32) (m7 : Int32) (m8 : Int32) (m9 : Int32) (m13 : Int32) (m14 : Int32) (m15 : Int32) (o0 : Int32) (o1 : Int32) (o2 : Int32) (o3 : Int32) (fr : Nat → Int32) (fb : Nat → Int32) : Met l yX7_isFirstFetchedFinished (.code yX7_isFirstFetchedFinished cX7_isFirstFetchedFinished 2 (some .boolean) :: wsL_law) ({ frames := 4, cells := 0, slots := 0, locals := 96 }) (zPc dC dI (zT cI cB cZ cR) [.ref x] sz [(x, .inr (7, [.ref xt, .ref xd, .ref h, .ref xk, .ref xl, .ref xw, .ref xp, .ref xs, .ref xr, .int 0, .int tl, .int sd, .null])), (h, .inr (2, [.ref a0, .ref a1, .ref a2, .ref a3, .ref a4, .ref a5, .ref a6])), (a0, .inl (cI, 22, .inl (gl [m0, m1, m2, m3, m4, m5, m6, m7, m8, m9, 0, 0, (-1), m13, m14, m15, 0, 0, 0, 4, 0, 16]))), (a3, .inl (cI, 24, .inl fr)), (a4, .inl (cI, 8, .inl (gl [o0, o1, o2, o3, (-1), (-1), (-1), (-1)]))), (a6, .inl (cI, 4000, .inl fb))]) (va_Qi (fun (r : Int32) (_ : Unit) => r = (pfX7_isFirstFetchedFinished_r sd m5 m7 o0 o1 o2 o3 fb)) (fun _ : Unit => zB dC dI (zT cI cB cZ cR) (va_A [(x, .inr (7, [.ref xt, .ref xd, .ref h, .ref xk, .ref xl, .ref xw, .ref xp, .ref xs, .ref xr, .int 0, .int tl, .int sd, .null])), (h, .inr (2, [.ref a0, .ref a1, .ref a2, .ref a3, .ref a4, .ref a5, .ref a6])), (a0, .inl (cI, 22, .inl (gl [m0, m1, m2, m3, m4, m5, m6, m7, m8, m9, 0, 0, (-1), m13, m14, m15, 0, 0, 0, 4, 0, 16]))), (a3, .inl (cI, 24, .inl fr)), (a4, .inl (cI, 8, .inl (gl [o0, o1, o2, o3, (-1), (-1), (-1), (-1)]))), (a6, .inl (cI, 4000, .inl fb))] sz) [(x, .inr (7, [.ref xt, .ref xd, .ref h, .ref xk, .ref xl, .ref xw, .ref xp, .ref xs, .ref xr, .int 0, .int tl, .int (pfX7_isFirstFetchedFinished_x_11 sd m5 o0 o1 o2 o3 fb), .null])), (h, .inr (2, [.ref a0, .ref a1, .ref a2, .ref a3, .ref a4, .ref a5, .ref a6])), (a0, .inl (cI, 22, .inl (gl [m0, m1, (pfX7_isFirstFetchedFinished_a0_2 sd m2 m5 m7 o0 o1 o2 o3 fb), m3, m4, m5, m6, m7, m8, m9, 0, 0, (-1), m13, m14, m15, 0, 0, 0, 4, 0, 16]))), (a3, .inl (cI, 24, .inl (pfX7_isFirstFetchedFinished_a3_f sd m2 m5 m7 o0 o1 o2 o3 fr fb))), (a4, .inl (cI, 8, .inl (gl [o0, o1, o2, o3, (-1), (-1), (-1), (-1)]))), (a6, .inl (cI, 4000, .inl (pfX7_isFirstFetchedFinished_a6_f sd m2 m5 m7 o0 o1 o2 o3 fb)))]) (va_A [(x, .inr (7, [.ref xt, .ref xd, .ref h, .ref xk, .ref xl, .ref xw, .ref xp, .ref xs, .ref xr, .int 0, .int tl, .int sd, .null])), (h, .inr (2, [.ref a0, .ref a1, .ref a2, .ref a3, .ref a4, .ref a5, .ref a6])), (a0, .inl (cI, 22, .inl (gl [m0, m1, m2, m3, m4, m5, m6, m7, m8, m9, 0, 0, (-1), m13, m14, m15, 0, 0, 0, 4, 0, 16]))), (a3, .inl (cI, 24, .inl fr)), (a4, .inl (cI, 8, .inl (gl [o0, o1, o2, o3, (-1), (-1), (-1), (-1)]))), (a6, .inl (cI, 4000, .inl fb))] sz)) 0 0 (va_A [(x, .inr (7, [.ref xt, .ref xd, .ref h, .ref xk, .ref xl, .ref xw, .ref xp, .ref xs, .ref xr, .int 0, .int tl, .int sd, .null])), (h, .inr (2, [.ref a0, .ref a1, .ref a2, .ref a3, .ref a4, .ref a5, .ref a6])), (a0, .inl (cI, 22, .inl (gl [m0, m1, m2, m3, m4, m5, m6, m7, m8, m9, 0, 0, (-1), m13, m14, m15, 0, 0, 0, 4, 0, 16]))), (a3, .inl (cI, 24, .inl fr)), (a4, .inl (cI, 8, .inl (gl [o0, o1, o2, o3, (-1), (-1), (-1), (-1)]))), (a6, .inl (cI, 4000, .inl fb))] sz) := by
  refine Met.ofW (cc := cX7_isFirstFetchedFinished) (maxL := 2) (ret := (some .boolean)) (by decide) rfl ?_
  intro p e s m args below meth c s₁ B hml hv
  obtain ⟨rfl, hsz, hP, hK, hD0, hN⟩ := hv
  have hx := B.exec
  have hb := B.bytes
  have hr := B.returns
  have hts := atoms_spec (ws := (.code yX7_isFirstFetchedFinished cX7_isFirstFetchedFinished 2 (some .boolean) :: wsL_law)) B.pre
  have hown : s.vm.findClass RX7 = some m.cls := findClass_of_methodNamed B.named
  have hlocks := B.notSynchronized
  have hinX7 : ∀ w ∈ u_ws RX7 TX7 13, w ∈ (.code yX7_isFirstFetchedFinished cX7_isFirstFetchedFinished 2 (some .boolean) :: wsL_law) := fun w h => List.mem_cons_of_mem _ (inlX7 w h)
  have k_0 := hts (.fieldLink RX7 26 "RingMarks" "ring" "LRingMarks$Ring;") (List.mem_cons_of_mem _ wm_23)
  subst hsz
  have hD := hD0.self (sz := s.heap.size)
  generalize hAe : va_A [(x, .inr (7, [.ref xt, .ref xd, .ref h, .ref xk, .ref xl, .ref xw, .ref xp, .ref xs, .ref xr, .int 0, .int tl, .int sd, .null])), (h, .inr (2, [.ref a0, .ref a1, .ref a2, .ref a3, .ref a4, .ref a5, .ref a6])), (a0, .inl (cI, 22, .inl (gl [m0, m1, m2, m3, m4, m5, m6, m7, m8, m9, 0, 0, (-1), m13, m14, m15, 0, 0, 0, 4, 0, 16]))), (a3, .inl (cI, 24, .inl fr)), (a4, .inl (cI, 8, .inl (gl [o0, o1, o2, o3, (-1), (-1), (-1), (-1)]))), (a6, .inl (cI, 4000, .inl fb))] s.heap.size = A at hD ⊢
  have hA : ∀ q : Nat, s.heap.size ≤ q → A q := fun q h => by rw [← hAe]; exact Or.inr h
  have hP : va_P (dC, dI) vwCl [(x, .inr (7, [.ref xt, .ref xd, .ref h, .ref xk, .ref xl, .ref xw, .ref xp, .ref xs, .ref xr, .int 0, .int tl, .int sd, .null])), (h, .inr (2, [.ref a0, .ref a1, .ref a2, .ref a3, .ref a4, .ref a5, .ref a6])), (a0, .inl (cI, 22, .inl (gl [m0, m1, m2, m3, m4, m5, m6, m7, m8, m9, 0, 0, (-1), m13, m14, m15, 0, 0, 0, 4, 0, 16]))), (a3, .inl (cI, 24, .inl fr)), (a4, .inl (cI, 8, .inl (gl [o0, o1, o2, o3, (-1), (-1), (-1), (-1)]))), (a6, .inl (cI, 4000, .inl fb))] s.heap := hP
  have hl := lv_entry ([.ref x]) (n := 2) (Nat.le_of_ble_eq_true rfl)
  rw [lg_entry_eq]
  generalize (lg_sl ([.ref x]) ++ List.replicate (2 - (lg_sl ([.ref x])).length) Slot.unset).toArray = ls at hl ⊢
  have hl : lv_has ls 2 [(0, .ref x)] := hl
  obtain ⟨H, hH⟩ : ∃ H, H = s.heap := ⟨_, rfl⟩
  rw [← hH] at hP ⊢
  have hS : va_S A s.heap H [] := by rw [hH]; exact va_S.rf
  refine lv_aload_n hx hb dX7_isFirstFetchedFinished_0 rfl (lv_at hl 0 rfl) ?_
  refine va_get (D := (dC, dI)) (ci := 7) (v := .ref h) (C := RX7) (T := TX7) (N := 13) hx hb hts hinX7 hown hK hP 0 rfl rfl 2 (by decide) k_0 (fun _ h9 => h9) rfl dX7_isFirstFetchedFinished_1 ?_
  refine zcVi (As := []) (rest := []) (wr := [(x, .inr (7, [.ref xt, .ref xd, .ref h, .ref xk, .ref xl, .ref xw, .ref xp, .ref xs, .ref xr, .int 0, .int tl, .int sd, .null])), (a3, .inl (cI, 24, .inl fr))]) ⟨hx, hb, hml, hown, hts⟩ (kkX2_firstFetched l dC dI cI cB cZ cR H.size h a0 a1 a2 a3 a4 a5 a6 m0 m1 m2 m3 m4 m5 m6 m7 m8 m9 0 0 (-1) m13 m14 m15 0 0 o0 o1 o2 o3 fb ) (cwV 0 hts (zgV wm_1192 wm_553 wm_554 wm_22 wm_555) rfl rfl rfl (by decide +kernel) ⟨Nat.le_of_ble_eq_true rfl, Nat.le_of_ble_eq_true rfl⟩) hN hK hP hD hS hA [1, 2, 4, 5] [0, 3] rfl rfl ⟨rfl, rfl⟩ (by decide) (ci := 2) rfl rfl rfl rfl hl.1 rfl (Nat.le_of_ble_eq_true rfl) dX7_isFirstFetchedFinished_4 ⟨Nat.le_of_ble_eq_true rfl, Nat.le_of_ble_eq_true rfl⟩ (fun r u hu H locs hP hD hS => ?_)
  have hu : r = (LSX2_firstFetched_0_ff m5 o0 o1 o2 o3 fb (-1)) := hu
  subst hu
  have hP : va_P (dC, dI) vwCl [(x, .inr (7, [.ref xt, .ref xd, .ref h, .ref xk, .ref xl, .ref xw, .ref xp, .ref xs, .ref xr, .int 0, .int tl, .int sd, .null])), (a3, .inl (cI, 24, .inl fr)), (h, .inr (2, [.ref a0, .ref a1, .ref a2, .ref a3, .ref a4, .ref a5, .ref a6])), (a0, .inl (cI, 22, .inl (gl [m0, m1, m2, m3, m4, m5, m6, m7, m8, m9, 0, 0, (-1), m13, m14, m15, 0, 0, 0, 4, 0, 16]))), (a4, .inl (cI, 8, .inl (gl [o0, o1, o2, o3, (-1), (-1), (-1), (-1)]))), (a6, .inl (cI, 4000, .inl fb))] H := hP
  have hD : va_D A [(x, .inr (7, [.ref xt, .ref xd, .ref h, .ref xk, .ref xl, .ref xw, .ref xp, .ref xs, .ref xr, .int 0, .int tl, .int sd, .null])), (a3, .inl (cI, 24, .inl fr)), (h, .inr (2, [.ref a0, .ref a1, .ref a2, .ref a3, .ref a4, .ref a5, .ref a6])), (a0, .inl (cI, 22, .inl (gl [m0, m1, m2, m3, m4, m5, m6, m7, m8, m9, 0, 0, (-1), m13, m14, m15, 0, 0, 0, 4, 0, 16]))), (a4, .inl (cI, 8, .inl (gl [o0, o1, o2, o3, (-1), (-1), (-1), (-1)]))), (a6, .inl (cI, 4000, .inl fb))] := hD
  refine lv_istore_n (lv' := [(1, .int (LSX2_firstFetched_0_ff m5 o0 o1 o2 o3 fb (-1))), (0, .ref x)]) hx hb dX7_isFirstFetchedFinished_7 rfl hl (by decide) rfl (fun ls hl => ?_)
  refine lv_iload_n hx hb dX7_isFirstFetchedFinished_8 rfl (lv_at hl 0 rfl) ?_
  refine lv_iconst (v := (-1)) hx hb dX7_isFirstFetchedFinished_9 (by decide) ?_
  refine lv_icmp_eq (tgt := 35) hx hb dX7_isFirstFetchedFinished_10 (by decide) (fun c_1 => ?_) (fun c_1 => ?_)
  · refine lv_iconst (v := 0) hx hb dX7_isFirstFetchedFinished_35 (by decide) ?_
    have e_0 : (pfX7_isFirstFetchedFinished_r sd m5 m7 o0 o1 o2 o3 fb) = 0 := by rw [pfX7_isFirstFetchedFinished_r, if_pos c_1]
    have e_1 : (pfX7_isFirstFetchedFinished_x_11 sd m5 o0 o1 o2 o3 fb) = sd := by rw [pfX7_isFirstFetchedFinished_x_11, if_pos c_1]
    have e_2 : (pfX7_isFirstFetchedFinished_a0_2 sd m2 m5 m7 o0 o1 o2 o3 fb) = m2 := by rw [pfX7_isFirstFetchedFinished_a0_2, if_pos c_1]
    have e_3 : (pfX7_isFirstFetchedFinished_a3_f sd m2 m5 m7 o0 o1 o2 o3 fr fb) = fr := by rw [pfX7_isFirstFetchedFinished_a3_f, if_pos c_1]
    have e_4 : (pfX7_isFirstFetchedFinished_a6_f sd m2 m5 m7 o0 o1 o2 o3 fb) = fb := by rw [pfX7_isFirstFetchedFinished_a6_f, if_pos c_1]
    have hP9 := hP.sub (ws' := [(x, .inr (7, [.ref xt, .ref xd, .ref h, .ref xk, .ref xl, .ref xw, .ref xp, .ref xs, .ref xr, .int 0, .int tl, .int sd, .null])), (h, .inr (2, [.ref a0, .ref a1, .ref a2, .ref a3, .ref a4, .ref a5, .ref a6])), (a0, .inl (cI, 22, .inl (gl [m0, m1, m2, m3, m4, m5, m6, m7, m8, m9, 0, 0, (-1), m13, m14, m15, 0, 0, 0, 4, 0, 16]))), (a3, .inl (cI, 24, .inl fr)), (a4, .inl (cI, 8, .inl (gl [o0, o1, o2, o3, (-1), (-1), (-1), (-1)]))), (a6, .inl (cI, 4000, .inl fb))]) [0, 2, 3, 1, 4, 5] rfl
    have hD9 := hD.sub (ws' := [(x, .inr (7, [.ref xt, .ref xd, .ref h, .ref xk, .ref xl, .ref xw, .ref xp, .ref xs, .ref xr, .int 0, .int tl, .int sd, .null])), (h, .inr (2, [.ref a0, .ref a1, .ref a2, .ref a3, .ref a4, .ref a5, .ref a6])), (a0, .inl (cI, 22, .inl (gl [m0, m1, m2, m3, m4, m5, m6, m7, m8, m9, 0, 0, (-1), m13, m14, m15, 0, 0, 0, 4, 0, 16]))), (a3, .inl (cI, 24, .inl fr)), (a4, .inl (cI, 8, .inl (gl [o0, o1, o2, o3, (-1), (-1), (-1), (-1)]))), (a6, .inl (cI, 4000, .inl fb))]) [0, 2, 3, 1, 4, 5] (by decide) rfl
    exact W.zret (v := 0) hx hb hr rfl (fun t ht hW => ⟨⟨0, (), rfl, e_0.symm, by rw [ht, e_1, e_2, e_3, e_4]; exact hP9, va_K.moved hW.alike hK, (by rw [e_1, e_2, e_3, e_4]; exact hD9)⟩, hS.F ht⟩) hS.2.2 dX7_isFirstFetchedFinished_36
  · refine lv_aload_n hx hb dX7_isFirstFetchedFinished_13 rfl (lv_at hl 1 rfl) ?_
    refine va_get (D := (dC, dI)) (ci := 7) (v := .ref h) (C := RX7) (T := TX7) (N := 13) hx hb hts hinX7 hown hK hP 0 rfl rfl 2 (by decide) k_0 (fun _ h9 => h9) rfl dX7_isFirstFetchedFinished_14 ?_
    refine lv_iload_n hx hb dX7_isFirstFetchedFinished_17 rfl (lv_at hl 0 rfl) ?_
    refine lv_aload_n hx hb dX7_isFirstFetchedFinished_18 rfl (lv_at hl 1 rfl) ?_
    refine lv_bipush (v := 10) hx hb dX7_isFirstFetchedFinished_19 (by decide) ?_
    refine zcVi (As := [.int 10]) (rest := [.int (LSX2_firstFetched_0_ff m5 o0 o1 o2 o3 fb (-1)), .ref h]) (wr := [(a3, .inl (cI, 24, .inl fr)), (h, .inr (2, [.ref a0, .ref a1, .ref a2, .ref a3, .ref a4, .ref a5, .ref a6])), (a0, .inl (cI, 22, .inl (gl [m0, m1, m2, m3, m4, m5, m6, m7, m8, m9, 0, 0, (-1), m13, m14, m15, 0, 0, 0, 4, 0, 16]))), (a4, .inl (cI, 8, .inl (gl [o0, o1, o2, o3, (-1), (-1), (-1), (-1)]))), (a6, .inl (cI, 4000, .inl fb))]) ⟨hx, hb, hml, hown, hts⟩ (kkX7_draw_10 l dC dI cI cB cZ cR H.size x xt xd h xk xl xw xp xs xr tl sd ) (cwV 1 hts (zgV wm_1173 wm_1174 wm_1175 wm_2 wm_1176) rfl rfl rfl (by decide +kernel) ⟨Nat.le_of_ble_eq_true rfl, Nat.le_of_ble_eq_true rfl⟩) hN hK hP hD hS hA [0] [1, 2, 3, 4, 5] rfl rfl ⟨rfl, rfl⟩ (by decide) (ci := 7) rfl rfl rfl rfl hl.1 rfl (Nat.le_of_ble_eq_true rfl) dX7_isFirstFetchedFinished_21 ⟨Nat.le_of_ble_eq_true rfl, Nat.le_of_ble_eq_true rfl⟩ (fun r u hu H locs hP hD hS => ?_)
    have hu : r = (pfX7_draw_10_r sd) := hu
    subst hu
    have hP : va_P (dC, dI) vwCl [(a3, .inl (cI, 24, .inl fr)), (h, .inr (2, [.ref a0, .ref a1, .ref a2, .ref a3, .ref a4, .ref a5, .ref a6])), (a0, .inl (cI, 22, .inl (gl [m0, m1, m2, m3, m4, m5, m6, m7, m8, m9, 0, 0, (-1), m13, m14, m15, 0, 0, 0, 4, 0, 16]))), (a4, .inl (cI, 8, .inl (gl [o0, o1, o2, o3, (-1), (-1), (-1), (-1)]))), (a6, .inl (cI, 4000, .inl fb)), (x, .inr (7, [.ref xt, .ref xd, .ref h, .ref xk, .ref xl, .ref xw, .ref xp, .ref xs, .ref xr, .int 0, .int tl, .int (pfX7_draw_10_x_11 sd), .null]))] H := hP
    have hD : va_D A [(a3, .inl (cI, 24, .inl fr)), (h, .inr (2, [.ref a0, .ref a1, .ref a2, .ref a3, .ref a4, .ref a5, .ref a6])), (a0, .inl (cI, 22, .inl (gl [m0, m1, m2, m3, m4, m5, m6, m7, m8, m9, 0, 0, (-1), m13, m14, m15, 0, 0, 0, 4, 0, 16]))), (a4, .inl (cI, 8, .inl (gl [o0, o1, o2, o3, (-1), (-1), (-1), (-1)]))), (a6, .inl (cI, 4000, .inl fb)), (x, .inr (7, [.ref xt, .ref xd, .ref h, .ref xk, .ref xl, .ref xw, .ref xp, .ref xs, .ref xr, .int 0, .int tl, .int (pfX7_draw_10_x_11 sd), .null]))] := hD
    refine lv_iconst (v := 0) hx hb dX7_isFirstFetchedFinished_24 (by decide) ?_
    refine zcVi (As := [.int (LSX2_firstFetched_0_ff m5 o0 o1 o2 o3 fb (-1)), .int (pfX7_draw_10_r sd), .int 0]) (rest := []) (wr := [(x, .inr (7, [.ref xt, .ref xd, .ref h, .ref xk, .ref xl, .ref xw, .ref xp, .ref xs, .ref xr, .int 0, .int tl, .int (pfX7_draw_10_x_11 sd), .null]))]) ⟨hx, hb, hml, hown, hts⟩ (kkX2_use_g l dC dI cI cB cZ cR H.size h a0 a1 a2 a3 a4 a5 a6 m0 m1 m2 m3 m4 m5 m6 m7 m8 m9 0 0 (-1) m13 m14 m15 0 0 o0 o1 o2 o3 fr fb (LSX2_firstFetched_0_ff m5 o0 o1 o2 o3 fb (-1)) (pfX7_draw_10_r sd) ) (cwV 3 hts (zgV wm_548 wm_549 wm_550 wm_22 wm_551) rfl rfl rfl (by decide +kernel) ⟨Nat.le_of_ble_eq_true rfl, Nat.le_of_ble_eq_true rfl⟩) hN hK hP hD hS hA [1, 2, 0, 3, 4] [5] rfl rfl ⟨rfl, rfl⟩ (by decide) (ci := 2) rfl rfl rfl rfl hl.1 rfl (Nat.le_of_ble_eq_true rfl) dX7_isFirstFetchedFinished_25 ⟨Nat.le_of_ble_eq_true rfl, Nat.le_of_ble_eq_true rfl⟩ (fun r u hu H locs hP hD hS => ?_)
    have hu : r = (pfX2_use_g_r m5 m7 fb (LSX2_firstFetched_0_ff m5 o0 o1 o2 o3 fb (-1)) (pfX7_draw_10_r sd)) := hu
    subst hu
    have hP : va_P (dC, dI) vwCl [(x, .inr (7, [.ref xt, .ref xd, .ref h, .ref xk, .ref xl, .ref xw, .ref xp, .ref xs, .ref xr, .int 0, .int tl, .int (pfX7_draw_10_x_11 sd), .null])), (h, .inr (2, [.ref a0, .ref a1, .ref a2, .ref a3, .ref a4, .ref a5, .ref a6])), (a0, .inl (cI, 22, .inl (gl [m0, m1, (pfX2_use_g_a0_2 m2 m5 m7 o0 o1 o2 o3 fb (LSX2_firstFetched_0_ff m5 o0 o1 o2 o3 fb (-1)) (pfX7_draw_10_r sd)), m3, m4, m5, m6, m7, m8, m9, 0, 0, (-1), m13, m14, m15, 0, 0, 0, 4, 0, 16]))), (a3, .inl (cI, 24, .inl (pfX2_use_g_a3_f m2 m5 m7 fr fb (LSX2_firstFetched_0_ff m5 o0 o1 o2 o3 fb (-1)) (pfX7_draw_10_r sd)))), (a4, .inl (cI, 8, .inl (gl [o0, o1, o2, o3, (-1), (-1), (-1), (-1)]))), (a6, .inl (cI, 4000, .inl (pfX2_use_g_a6_f m2 m5 m7 o0 o1 o2 o3 fb (LSX2_firstFetched_0_ff m5 o0 o1 o2 o3 fb (-1)) (pfX7_draw_10_r sd))))] H := hP
    have hD : va_D A [(x, .inr (7, [.ref xt, .ref xd, .ref h, .ref xk, .ref xl, .ref xw, .ref xp, .ref xs, .ref xr, .int 0, .int tl, .int (pfX7_draw_10_x_11 sd), .null])), (h, .inr (2, [.ref a0, .ref a1, .ref a2, .ref a3, .ref a4, .ref a5, .ref a6])), (a0, .inl (cI, 22, .inl (gl [m0, m1, (pfX2_use_g_a0_2 m2 m5 m7 o0 o1 o2 o3 fb (LSX2_firstFetched_0_ff m5 o0 o1 o2 o3 fb (-1)) (pfX7_draw_10_r sd)), m3, m4, m5, m6, m7, m8, m9, 0, 0, (-1), m13, m14, m15, 0, 0, 0, 4, 0, 16]))), (a3, .inl (cI, 24, .inl (pfX2_use_g_a3_f m2 m5 m7 fr fb (LSX2_firstFetched_0_ff m5 o0 o1 o2 o3 fb (-1)) (pfX7_draw_10_r sd)))), (a4, .inl (cI, 8, .inl (gl [o0, o1, o2, o3, (-1), (-1), (-1), (-1)]))), (a6, .inl (cI, 4000, .inl (pfX2_use_g_a6_f m2 m5 m7 o0 o1 o2 o3 fb (LSX2_firstFetched_0_ff m5 o0 o1 o2 o3 fb (-1)) (pfX7_draw_10_r sd))))] := hD
    refine lv_if_ne (tgt := 35) hx hb dX7_isFirstFetchedFinished_28 (by decide) (fun c_2 => ?_) (fun c_2 => ?_)
    · refine lv_iconst (v := 0) hx hb dX7_isFirstFetchedFinished_35 (by decide) ?_
      have e_0 : (pfX7_isFirstFetchedFinished_r sd m5 m7 o0 o1 o2 o3 fb) = 0 := by rw [pfX7_isFirstFetchedFinished_r, if_neg c_1, if_neg c_2]
      have e_1 : (pfX7_isFirstFetchedFinished_x_11 sd m5 o0 o1 o2 o3 fb) = (pfX7_draw_10_x_11 sd) := by rw [pfX7_isFirstFetchedFinished_x_11, if_neg c_1]
      have e_2 : (pfX7_isFirstFetchedFinished_a0_2 sd m2 m5 m7 o0 o1 o2 o3 fb) = (pfX2_use_g_a0_2 m2 m5 m7 o0 o1 o2 o3 fb (LSX2_firstFetched_0_ff m5 o0 o1 o2 o3 fb (-1)) (pfX7_draw_10_r sd)) := by rw [pfX7_isFirstFetchedFinished_a0_2, if_neg c_1]
      have e_3 : (pfX7_isFirstFetchedFinished_a3_f sd m2 m5 m7 o0 o1 o2 o3 fr fb) = (pfX2_use_g_a3_f m2 m5 m7 fr fb (LSX2_firstFetched_0_ff m5 o0 o1 o2 o3 fb (-1)) (pfX7_draw_10_r sd)) := by rw [pfX7_isFirstFetchedFinished_a3_f, if_neg c_1]
      have e_4 : (pfX7_isFirstFetchedFinished_a6_f sd m2 m5 m7 o0 o1 o2 o3 fb) = (pfX2_use_g_a6_f m2 m5 m7 o0 o1 o2 o3 fb (LSX2_firstFetched_0_ff m5 o0 o1 o2 o3 fb (-1)) (pfX7_draw_10_r sd)) := by rw [pfX7_isFirstFetchedFinished_a6_f, if_neg c_1]
      have hP9 := hP.sub (ws' := [(x, .inr (7, [.ref xt, .ref xd, .ref h, .ref xk, .ref xl, .ref xw, .ref xp, .ref xs, .ref xr, .int 0, .int tl, .int (pfX7_draw_10_x_11 sd), .null])), (h, .inr (2, [.ref a0, .ref a1, .ref a2, .ref a3, .ref a4, .ref a5, .ref a6])), (a0, .inl (cI, 22, .inl (gl [m0, m1, (pfX2_use_g_a0_2 m2 m5 m7 o0 o1 o2 o3 fb (LSX2_firstFetched_0_ff m5 o0 o1 o2 o3 fb (-1)) (pfX7_draw_10_r sd)), m3, m4, m5, m6, m7, m8, m9, 0, 0, (-1), m13, m14, m15, 0, 0, 0, 4, 0, 16]))), (a3, .inl (cI, 24, .inl (pfX2_use_g_a3_f m2 m5 m7 fr fb (LSX2_firstFetched_0_ff m5 o0 o1 o2 o3 fb (-1)) (pfX7_draw_10_r sd)))), (a4, .inl (cI, 8, .inl (gl [o0, o1, o2, o3, (-1), (-1), (-1), (-1)]))), (a6, .inl (cI, 4000, .inl (pfX2_use_g_a6_f m2 m5 m7 o0 o1 o2 o3 fb (LSX2_firstFetched_0_ff m5 o0 o1 o2 o3 fb (-1)) (pfX7_draw_10_r sd))))]) [0, 1, 2, 3, 4, 5] rfl
      have hD9 := hD.sub (ws' := [(x, .inr (7, [.ref xt, .ref xd, .ref h, .ref xk, .ref xl, .ref xw, .ref xp, .ref xs, .ref xr, .int 0, .int tl, .int (pfX7_draw_10_x_11 sd), .null])), (h, .inr (2, [.ref a0, .ref a1, .ref a2, .ref a3, .ref a4, .ref a5, .ref a6])), (a0, .inl (cI, 22, .inl (gl [m0, m1, (pfX2_use_g_a0_2 m2 m5 m7 o0 o1 o2 o3 fb (LSX2_firstFetched_0_ff m5 o0 o1 o2 o3 fb (-1)) (pfX7_draw_10_r sd)), m3, m4, m5, m6, m7, m8, m9, 0, 0, (-1), m13, m14, m15, 0, 0, 0, 4, 0, 16]))), (a3, .inl (cI, 24, .inl (pfX2_use_g_a3_f m2 m5 m7 fr fb (LSX2_firstFetched_0_ff m5 o0 o1 o2 o3 fb (-1)) (pfX7_draw_10_r sd)))), (a4, .inl (cI, 8, .inl (gl [o0, o1, o2, o3, (-1), (-1), (-1), (-1)]))), (a6, .inl (cI, 4000, .inl (pfX2_use_g_a6_f m2 m5 m7 o0 o1 o2 o3 fb (LSX2_firstFetched_0_ff m5 o0 o1 o2 o3 fb (-1)) (pfX7_draw_10_r sd))))]) [0, 1, 2, 3, 4, 5] (by decide) rfl
      exact W.zret (v := 0) hx hb hr rfl (fun t ht hW => ⟨⟨0, (), rfl, e_0.symm, by rw [ht, e_1, e_2, e_3, e_4]; exact hP9, va_K.moved hW.alike hK, (by rw [e_1, e_2, e_3, e_4]; exact hD9)⟩, hS.F ht⟩) hS.2.2 dX7_isFirstFetchedFinished_36
    · refine lv_iconst (v := 1) hx hb dX7_isFirstFetchedFinished_31 (by decide) ?_
      refine lv_goto (tgt := 36) hx hb dX7_isFirstFetchedFinished_32 (by decide) ?_
      have e_0 : (pfX7_isFirstFetchedFinished_r sd m5 m7 o0 o1 o2 o3 fb) = 1 := by rw [pfX7_isFirstFetchedFinished_r, if_neg c_1, if_pos c_2]
      have e_1 : (pfX7_isFirstFetchedFinished_x_11 sd m5 o0 o1 o2 o3 fb) = (pfX7_draw_10_x_11 sd) := by rw [pfX7_isFirstFetchedFinished_x_11, if_neg c_1]
      have e_2 : (pfX7_isFirstFetchedFinished_a0_2 sd m2 m5 m7 o0 o1 o2 o3 fb) = (pfX2_use_g_a0_2 m2 m5 m7 o0 o1 o2 o3 fb (LSX2_firstFetched_0_ff m5 o0 o1 o2 o3 fb (-1)) (pfX7_draw_10_r sd)) := by rw [pfX7_isFirstFetchedFinished_a0_2, if_neg c_1]
      have e_3 : (pfX7_isFirstFetchedFinished_a3_f sd m2 m5 m7 o0 o1 o2 o3 fr fb) = (pfX2_use_g_a3_f m2 m5 m7 fr fb (LSX2_firstFetched_0_ff m5 o0 o1 o2 o3 fb (-1)) (pfX7_draw_10_r sd)) := by rw [pfX7_isFirstFetchedFinished_a3_f, if_neg c_1]
      have e_4 : (pfX7_isFirstFetchedFinished_a6_f sd m2 m5 m7 o0 o1 o2 o3 fb) = (pfX2_use_g_a6_f m2 m5 m7 o0 o1 o2 o3 fb (LSX2_firstFetched_0_ff m5 o0 o1 o2 o3 fb (-1)) (pfX7_draw_10_r sd)) := by rw [pfX7_isFirstFetchedFinished_a6_f, if_neg c_1]
      have hP9 := hP.sub (ws' := [(x, .inr (7, [.ref xt, .ref xd, .ref h, .ref xk, .ref xl, .ref xw, .ref xp, .ref xs, .ref xr, .int 0, .int tl, .int (pfX7_draw_10_x_11 sd), .null])), (h, .inr (2, [.ref a0, .ref a1, .ref a2, .ref a3, .ref a4, .ref a5, .ref a6])), (a0, .inl (cI, 22, .inl (gl [m0, m1, (pfX2_use_g_a0_2 m2 m5 m7 o0 o1 o2 o3 fb (LSX2_firstFetched_0_ff m5 o0 o1 o2 o3 fb (-1)) (pfX7_draw_10_r sd)), m3, m4, m5, m6, m7, m8, m9, 0, 0, (-1), m13, m14, m15, 0, 0, 0, 4, 0, 16]))), (a3, .inl (cI, 24, .inl (pfX2_use_g_a3_f m2 m5 m7 fr fb (LSX2_firstFetched_0_ff m5 o0 o1 o2 o3 fb (-1)) (pfX7_draw_10_r sd)))), (a4, .inl (cI, 8, .inl (gl [o0, o1, o2, o3, (-1), (-1), (-1), (-1)]))), (a6, .inl (cI, 4000, .inl (pfX2_use_g_a6_f m2 m5 m7 o0 o1 o2 o3 fb (LSX2_firstFetched_0_ff m5 o0 o1 o2 o3 fb (-1)) (pfX7_draw_10_r sd))))]) [0, 1, 2, 3, 4, 5] rfl
      have hD9 := hD.sub (ws' := [(x, .inr (7, [.ref xt, .ref xd, .ref h, .ref xk, .ref xl, .ref xw, .ref xp, .ref xs, .ref xr, .int 0, .int tl, .int (pfX7_draw_10_x_11 sd), .null])), (h, .inr (2, [.ref a0, .ref a1, .ref a2, .ref a3, .ref a4, .ref a5, .ref a6])), (a0, .inl (cI, 22, .inl (gl [m0, m1, (pfX2_use_g_a0_2 m2 m5 m7 o0 o1 o2 o3 fb (LSX2_firstFetched_0_ff m5 o0 o1 o2 o3 fb (-1)) (pfX7_draw_10_r sd)), m3, m4, m5, m6, m7, m8, m9, 0, 0, (-1), m13, m14, m15, 0, 0, 0, 4, 0, 16]))), (a3, .inl (cI, 24, .inl (pfX2_use_g_a3_f m2 m5 m7 fr fb (LSX2_firstFetched_0_ff m5 o0 o1 o2 o3 fb (-1)) (pfX7_draw_10_r sd)))), (a4, .inl (cI, 8, .inl (gl [o0, o1, o2, o3, (-1), (-1), (-1), (-1)]))), (a6, .inl (cI, 4000, .inl (pfX2_use_g_a6_f m2 m5 m7 o0 o1 o2 o3 fb (LSX2_firstFetched_0_ff m5 o0 o1 o2 o3 fb (-1)) (pfX7_draw_10_r sd))))]) [0, 1, 2, 3, 4, 5] (by decide) rfl
      exact W.zret (v := 1) hx hb hr rfl (fun t ht hW => ⟨⟨1, (), rfl, e_0.symm, by rw [ht, e_1, e_2, e_3, e_4]; exact hP9, va_K.moved hW.alike hK, (by rw [e_1, e_2, e_3, e_4]; exact hD9)⟩, hS.F ht⟩) hS.2.2 dX7_isFirstFetchedFinished_36

def pfX2_release_a4_0 (o0 : Int32) (p1 : Int32) : Int32 := if o0 = p1 then (-1) else o0
def pfX2_release_a4_1 (o1 : Int32) (p1 : Int32) : Int32 := if o1 = p1 then (-1) else o1
def pfX2_release_a4_2 (o2 : Int32) (p1 : Int32) : Int32 := if o2 = p1 then (-1) else o2
def pfX2_release_a4_3 (o3 : Int32) (p1 : Int32) : Int32 := if o3 = p1 then (-1) else o3
set_option maxHeartbeats 4000000 in
set_option maxRecDepth 100000 in
theorem kkX2_release (l : Launch) (dC : Nat → ClassId) (dI : Nat → Nat → Nat) (cI cB cZ cR : ClassId) (sz : Nat) (h : Nat) (a0 : Nat) (a1 : Nat) (a2 : Nat) (a3 : Nat) (a4 : Nat) (a5 : Nat) (a6 : Nat) (m0 : Int32) (m1 : Int32) (m2 : Int32) (m3 : Int32) (m4 : Int32) (m5 : Int32) (m6 : Int32) (m7 : Int32) (m8 : Int32) (m9 : Int32) (m10 : Int32) (m11 : Int32) (m12 : Int32) (m13 : Int32) (m14 : Int32) (m15 : Int32) (m16 : Int32) (m17 : Int32) (o0 : Int32) (o1 : Int32) (o2 : Int32) (o3 : Int32) (fb : Nat → Int32) (p1 : Int32) (hp : ¬ (-1) = p1) : Met l yX2_release (.code yX2_release cX2_release 3 none :: wsL_law) ({ frames := 2, cells := 0, slots := 0, locals := 41 }) (zPc dC dI (zT cI cB cZ cR) [.ref h, .int p1] sz [(h, .inr (2, [.ref a0, .ref a1, .ref a2, .ref a3, .ref a4, .ref a5, .ref a6])), (a0, .inl (cI, 22, .inl (gl [m0, m1, m2, m3, m4, m5, m6, m7, m8, m9, m10, m11, m12, m13, m14, m15, m16, m17, 0, 4, 0, 16]))), (a4, .inl (cI, 8, .inl (gl [o0, o1, o2, o3, (-1), (-1), (-1), (-1)]))), (a5, .inl (cI, 5, .inl (gl [(-1), (-1), (-1), (-1), (-1)]))), (a6, .inl (cI, 4000, .inl fb))]) (va_Qv (fun _ : Unit => True) (fun _ : Unit => zB dC dI (zT cI cB cZ cR) (va_A [(h, .inr (2, [.ref a0, .ref a1, .ref a2, .ref a3, .ref a4, .ref a5, .ref a6])), (a0, .inl (cI, 22, .inl (gl [m0, m1, m2, m3, m4, m5, m6, m7, m8, m9, m10, m11, m12, m13, m14, m15, m16, m17, 0, 4, 0, 16]))), (a4, .inl (cI, 8, .inl (gl [o0, o1, o2, o3, (-1), (-1), (-1), (-1)]))), (a5, .inl (cI, 5, .inl (gl [(-1), (-1), (-1), (-1), (-1)]))), (a6, .inl (cI, 4000, .inl fb))] sz) [(h, .inr (2, [.ref a0, .ref a1, .ref a2, .ref a3, .ref a4, .ref a5, .ref a6])), (a0, .inl (cI, 22, .inl (gl [m0, m1, m2, ((m3 + 1) &&& 15), (m4 + (pfX2_ofBuffer_g_r m5 (pfX2_putBuffer_g_a6_f fb p1 0 3) p1 7)), m5, (m6 - 1), m7, m8, m9, m10, m11, m12, m13, m14, m15, m16, m17, 0, 4, 0, 16]))), (a4, .inl (cI, 8, .inl (gl [(pfX2_release_a4_0 o0 p1), (pfX2_release_a4_1 o1 p1), (pfX2_release_a4_2 o2 p1), (pfX2_release_a4_3 o3 p1), (-1), (-1), (-1), (-1)]))), (a5, .inl (cI, 5, .inl (gl [(-1), (-1), (-1), (-1), (-1)]))), (a6, .inl (cI, 4000, .inl (pfX2_putBuffer_g_a6_f fb p1 0 3)))]) (va_A [(h, .inr (2, [.ref a0, .ref a1, .ref a2, .ref a3, .ref a4, .ref a5, .ref a6])), (a0, .inl (cI, 22, .inl (gl [m0, m1, m2, m3, m4, m5, m6, m7, m8, m9, m10, m11, m12, m13, m14, m15, m16, m17, 0, 4, 0, 16]))), (a4, .inl (cI, 8, .inl (gl [o0, o1, o2, o3, (-1), (-1), (-1), (-1)]))), (a5, .inl (cI, 5, .inl (gl [(-1), (-1), (-1), (-1), (-1)]))), (a6, .inl (cI, 4000, .inl fb))] sz)) 0 0 (va_A [(h, .inr (2, [.ref a0, .ref a1, .ref a2, .ref a3, .ref a4, .ref a5, .ref a6])), (a0, .inl (cI, 22, .inl (gl [m0, m1, m2, m3, m4, m5, m6, m7, m8, m9, m10, m11, m12, m13, m14, m15, m16, m17, 0, 4, 0, 16]))), (a4, .inl (cI, 8, .inl (gl [o0, o1, o2, o3, (-1), (-1), (-1), (-1)]))), (a5, .inl (cI, 5, .inl (gl [(-1), (-1), (-1), (-1), (-1)]))), (a6, .inl (cI, 4000, .inl fb))] sz) := by
  refine Met.ofW (cc := cX2_release) (maxL := 3) (ret := none) (by decide) rfl ?_
  intro p e s m args below meth c s₁ B hml hv
  obtain ⟨rfl, hsz, hP, hK, hD0, hN⟩ := hv
  have hx := B.exec
  have hb := B.bytes
  have hr := B.returns
  have hts := atoms_spec (ws := (.code yX2_release cX2_release 3 none :: wsL_law)) B.pre
  have hown : s.vm.findClass RX2 = some m.cls := findClass_of_methodNamed B.named
  have hlocks := B.notSynchronized
  have hinX2 : ∀ w ∈ u_ws RX2 TX2 7, w ∈ (.code yX2_release cX2_release 3 none :: wsL_law) := fun w h => List.mem_cons_of_mem _ (inlX2 w h)
  have k_0 := hts (.fieldLink RX2 11 "RingMarks$Ring" "marks" "[I") (List.mem_cons_of_mem _ wm_61)
  have k_1 := hts (.fieldLink RX2 24 "RingMarks$Ring" "owners" "[I") (List.mem_cons_of_mem _ wm_65)
  have k_2 := hts (.fieldLink RX2 27 "RingMarks$Ring" "tableOwners" "[I") (List.mem_cons_of_mem _ wm_66)
  subst hsz
  have hD := hD0.self (sz := s.heap.size)
  generalize hAe : va_A [(h, .inr (2, [.ref a0, .ref a1, .ref a2, .ref a3, .ref a4, .ref a5, .ref a6])), (a0, .inl (cI, 22, .inl (gl [m0, m1, m2, m3, m4, m5, m6, m7, m8, m9, m10, m11, m12, m13, m14, m15, m16, m17, 0, 4, 0, 16]))), (a4, .inl (cI, 8, .inl (gl [o0, o1, o2, o3, (-1), (-1), (-1), (-1)]))), (a5, .inl (cI, 5, .inl (gl [(-1), (-1), (-1), (-1), (-1)]))), (a6, .inl (cI, 4000, .inl fb))] s.heap.size = A at hD ⊢
  have hA : ∀ q : Nat, s.heap.size ≤ q → A q := fun q h => by rw [← hAe]; exact Or.inr h
  have hP : va_P (dC, dI) vwCl [(h, .inr (2, [.ref a0, .ref a1, .ref a2, .ref a3, .ref a4, .ref a5, .ref a6])), (a0, .inl (cI, 22, .inl (gl [m0, m1, m2, m3, m4, m5, m6, m7, m8, m9, m10, m11, m12, m13, m14, m15, m16, m17, 0, 4, 0, 16]))), (a4, .inl (cI, 8, .inl (gl [o0, o1, o2, o3, (-1), (-1), (-1), (-1)]))), (a5, .inl (cI, 5, .inl (gl [(-1), (-1), (-1), (-1), (-1)]))), (a6, .inl (cI, 4000, .inl fb))] s.heap := hP
  have hl := lv_entry ([.ref h, .int p1]) (n := 3) (Nat.le_of_ble_eq_true rfl)
  rw [lg_entry_eq]
  generalize (lg_sl ([.ref h, .int p1]) ++ List.replicate (3 - (lg_sl ([.ref h, .int p1])).length) Slot.unset).toArray = ls at hl ⊢
  have hl : lv_has ls 3 [(0, .ref h), (1, .int p1)] := hl
  obtain ⟨H, hH⟩ : ∃ H, H = s.heap := ⟨_, rfl⟩
  rw [← hH] at hP ⊢
  have hS : va_S A s.heap H [] := by rw [hH]; exact va_S.rf
  refine lv_aload_n hx hb dX2_release_0 rfl (lv_at hl 0 rfl) ?_
  refine lv_iload_n hx hb dX2_release_1 rfl (lv_at hl 1 rfl) ?_
  refine lv_iconst (v := 0) hx hb dX2_release_2 (by decide) ?_
  refine lv_iconst (v := 3) hx hb dX2_release_3 (by decide) ?_
  refine zcVv (As := [.int p1, .int 0, .int 3]) (rest := []) (wr := [(a0, .inl (cI, 22, .inl (gl [m0, m1, m2, m3, m4, m5, m6, m7, m8, m9, m10, m11, m12, m13, m14, m15, m16, m17, 0, 4, 0, 16]))), (a4, .inl (cI, 8, .inl (gl [o0, o1, o2, o3, (-1), (-1), (-1), (-1)]))), (a5, .inl (cI, 5, .inl (gl [(-1), (-1), (-1), (-1), (-1)])))]) ⟨hx, hb, hml, hown, hts⟩ (kkX2_putBuffer_g l dC dI cI cB cZ cR H.size h a0 a1 a2 a3 a4 a5 a6 fb p1 0 3 ) (cwV 3 hts (zgV wm_278 wm_279 wm_280 wm_22 wm_281) rfl rfl rfl (by decide +kernel) ⟨Nat.le_of_ble_eq_true rfl, Nat.le_of_ble_eq_true rfl⟩) hN hK hP hD hS hA [0, 4] [1, 2, 3] rfl rfl ⟨rfl, rfl⟩ (by decide) (ci := 2) rfl rfl rfl rfl hl.1 rfl (Nat.le_of_ble_eq_true rfl) dX2_release_4 ⟨Nat.le_of_ble_eq_true rfl, Nat.le_of_ble_eq_true rfl⟩ (fun u hu H locs hP hD hS => ?_)
  have hP : va_P (dC, dI) vwCl [(a0, .inl (cI, 22, .inl (gl [m0, m1, m2, m3, m4, m5, m6, m7, m8, m9, m10, m11, m12, m13, m14, m15, m16, m17, 0, 4, 0, 16]))), (a4, .inl (cI, 8, .inl (gl [o0, o1, o2, o3, (-1), (-1), (-1), (-1)]))), (a5, .inl (cI, 5, .inl (gl [(-1), (-1), (-1), (-1), (-1)]))), (h, .inr (2, [.ref a0, .ref a1, .ref a2, .ref a3, .ref a4, .ref a5, .ref a6])), (a6, .inl (cI, 4000, .inl (pfX2_putBuffer_g_a6_f fb p1 0 3)))] H := hP
  have hD : va_D A [(a0, .inl (cI, 22, .inl (gl [m0, m1, m2, m3, m4, m5, m6, m7, m8, m9, m10, m11, m12, m13, m14, m15, m16, m17, 0, 4, 0, 16]))), (a4, .inl (cI, 8, .inl (gl [o0, o1, o2, o3, (-1), (-1), (-1), (-1)]))), (a5, .inl (cI, 5, .inl (gl [(-1), (-1), (-1), (-1), (-1)]))), (h, .inr (2, [.ref a0, .ref a1, .ref a2, .ref a3, .ref a4, .ref a5, .ref a6])), (a6, .inl (cI, 4000, .inl (pfX2_putBuffer_g_a6_f fb p1 0 3)))] := hD
  refine lv_aload_n hx hb dX2_release_7 rfl (lv_at hl 0 rfl) ?_
  refine va_get (D := (dC, dI)) (ci := 2) (v := .ref a0) (C := RX2) (T := TX2) (N := 7) hx hb hts hinX2 hown hK hP 3 rfl rfl 0 (by decide) k_0 (fun _ h9 => h9) rfl dX2_release_8 ?_
  refine lv_iconst (v := 3) hx hb dX2_release_11 (by decide) ?_
  refine lv_aload_n hx hb dX2_release_12 rfl (lv_at hl 0 rfl) ?_
  refine lv_aload_n hx hb dX2_release_13 rfl (lv_at hl 0 rfl) ?_
  refine va_get (D := (dC, dI)) (ci := 2) (v := .ref a0) (C := RX2) (T := TX2) (N := 7) hx hb hts hinX2 hown hK hP 3 rfl rfl 0 (by decide) k_0 (fun _ h9 => h9) rfl dX2_release_14 ?_
  refine lv_iconst (v := 3) hx hb dX2_release_17 (by decide) ?_
  refine za_iald (v := m3) hx hb hK hP 0 0 rfl rfl (zin tn_3 (Nat.le_of_ble_eq_true rfl)) (zrd _ tn_3 rfl) dX2_release_18 ?_
  refine lv_aload_n hx hb dX2_release_19 rfl (lv_at hl 0 rfl) ?_
  refine lv_iload_n hx hb dX2_release_20 rfl (lv_at hl 1 rfl) ?_
  refine zcVi (As := [.int p1]) (rest := [.int m3, .ref h, .int 3, .ref a0]) (wr := [(a4, .inl (cI, 8, .inl (gl [o0, o1, o2, o3, (-1), (-1), (-1), (-1)]))), (a5, .inl (cI, 5, .inl (gl [(-1), (-1), (-1), (-1), (-1)]))), (a6, .inl (cI, 4000, .inl (pfX2_putBuffer_g_a6_f fb p1 0 3)))]) ⟨hx, hb, hml, hown, hts⟩ (kkX2_strideOf l dC dI cI cB cZ cR H.size h a0 a1 a2 a3 a4 a5 a6 m0 m1 m2 m3 m4 m5 m6 m7 m8 m9 m10 m11 m12 m13 m14 m15 m16 m17 p1 ) (cwV 1 hts (zgV wm_564 wm_565 wm_566 wm_22 wm_567) rfl rfl rfl (by decide +kernel) ⟨Nat.le_of_ble_eq_true rfl, Nat.le_of_ble_eq_true rfl⟩) hN hK hP hD hS hA [3, 0] [1, 2, 4] rfl rfl ⟨rfl, rfl⟩ (by decide) (ci := 2) rfl rfl rfl rfl hl.1 rfl (Nat.le_of_ble_eq_true rfl) dX2_release_21 ⟨Nat.le_of_ble_eq_true rfl, Nat.le_of_ble_eq_true rfl⟩ (fun r u hu H locs hP hD hS => ?_)
  have hu : r = 1 := hu
  subst hu
  have hP : va_P (dC, dI) vwCl [(a4, .inl (cI, 8, .inl (gl [o0, o1, o2, o3, (-1), (-1), (-1), (-1)]))), (a5, .inl (cI, 5, .inl (gl [(-1), (-1), (-1), (-1), (-1)]))), (a6, .inl (cI, 4000, .inl (pfX2_putBuffer_g_a6_f fb p1 0 3))), (h, .inr (2, [.ref a0, .ref a1, .ref a2, .ref a3, .ref a4, .ref a5, .ref a6])), (a0, .inl (cI, 22, .inl (gl [m0, m1, m2, m3, m4, m5, m6, m7, m8, m9, m10, m11, m12, m13, m14, m15, m16, m17, 0, 4, 0, 16])))] H := hP
  have hD : va_D A [(a4, .inl (cI, 8, .inl (gl [o0, o1, o2, o3, (-1), (-1), (-1), (-1)]))), (a5, .inl (cI, 5, .inl (gl [(-1), (-1), (-1), (-1), (-1)]))), (a6, .inl (cI, 4000, .inl (pfX2_putBuffer_g_a6_f fb p1 0 3))), (h, .inr (2, [.ref a0, .ref a1, .ref a2, .ref a3, .ref a4, .ref a5, .ref a6])), (a0, .inl (cI, 22, .inl (gl [m0, m1, m2, m3, m4, m5, m6, m7, m8, m9, m10, m11, m12, m13, m14, m15, m16, m17, 0, 4, 0, 16])))] := hD
  refine zcVi (As := [.int m3, .int 1]) (rest := [.int 3, .ref a0]) (wr := [(a4, .inl (cI, 8, .inl (gl [o0, o1, o2, o3, (-1), (-1), (-1), (-1)]))), (a5, .inl (cI, 5, .inl (gl [(-1), (-1), (-1), (-1), (-1)]))), (a6, .inl (cI, 4000, .inl (pfX2_putBuffer_g_a6_f fb p1 0 3)))]) ⟨hx, hb, hml, hown, hts⟩ (kkX2_moved l dC dI cI cB cZ cR H.size h a0 a1 a2 a3 a4 a5 a6 m0 m1 m2 m3 m4 m5 m6 m7 m8 m9 m10 m11 m12 m13 m14 m15 m16 m17 m3 1 ) (cwV 2 hts (zgV wm_302 wm_303 wm_304 wm_22 wm_305) rfl rfl rfl (by decide +kernel) ⟨Nat.le_of_ble_eq_true rfl, Nat.le_of_ble_eq_true rfl⟩) hN hK hP hD hS hA [3, 4] [0, 1, 2] rfl rfl ⟨rfl, rfl⟩ (by decide) (ci := 2) rfl rfl rfl rfl hl.1 rfl (Nat.le_of_ble_eq_true rfl) dX2_release_24 ⟨Nat.le_of_ble_eq_true rfl, Nat.le_of_ble_eq_true rfl⟩ (fun r u hu H locs hP hD hS => ?_)
  have hu : r = ((m3 + 1) &&& 15) := hu
  subst hu
  have hP : va_P (dC, dI) vwCl [(a4, .inl (cI, 8, .inl (gl [o0, o1, o2, o3, (-1), (-1), (-1), (-1)]))), (a5, .inl (cI, 5, .inl (gl [(-1), (-1), (-1), (-1), (-1)]))), (a6, .inl (cI, 4000, .inl (pfX2_putBuffer_g_a6_f fb p1 0 3))), (h, .inr (2, [.ref a0, .ref a1, .ref a2, .ref a3, .ref a4, .ref a5, .ref a6])), (a0, .inl (cI, 22, .inl (gl [m0, m1, m2, m3, m4, m5, m6, m7, m8, m9, m10, m11, m12, m13, m14, m15, m16, m17, 0, 4, 0, 16])))] H := hP
  have hD : va_D A [(a4, .inl (cI, 8, .inl (gl [o0, o1, o2, o3, (-1), (-1), (-1), (-1)]))), (a5, .inl (cI, 5, .inl (gl [(-1), (-1), (-1), (-1), (-1)]))), (a6, .inl (cI, 4000, .inl (pfX2_putBuffer_g_a6_f fb p1 0 3))), (h, .inr (2, [.ref a0, .ref a1, .ref a2, .ref a3, .ref a4, .ref a5, .ref a6])), (a0, .inl (cI, 22, .inl (gl [m0, m1, m2, m3, m4, m5, m6, m7, m8, m9, m10, m11, m12, m13, m14, m15, m16, m17, 0, 4, 0, 16])))] := hD
  refine za_iast (f' := (gl [m0, m1, m2, ((m3 + 1) &&& 15), m4, m5, m6, m7, m8, m9, m10, m11, m12, m13, m14, m15, m16, m17, 0, 4, 0, 16])) hx hb hK hP hD hS 4 0 rfl rfl (zin tn_3 (Nat.le_of_ble_eq_true rfl)) (zup_gl tn_3 (Nat.le_of_ble_eq_true rfl) rfl) dX2_release_27 (fun H locs hP hD hS => ?_)
  have hP : va_P (dC, dI) vwCl [(a4, .inl (cI, 8, .inl (gl [o0, o1, o2, o3, (-1), (-1), (-1), (-1)]))), (a5, .inl (cI, 5, .inl (gl [(-1), (-1), (-1), (-1), (-1)]))), (a6, .inl (cI, 4000, .inl (pfX2_putBuffer_g_a6_f fb p1 0 3))), (h, .inr (2, [.ref a0, .ref a1, .ref a2, .ref a3, .ref a4, .ref a5, .ref a6])), (a0, .inl (cI, 22, .inl (gl [m0, m1, m2, ((m3 + 1) &&& 15), m4, m5, m6, m7, m8, m9, m10, m11, m12, m13, m14, m15, m16, m17, 0, 4, 0, 16])))] H := hP
  have hD : va_D A [(a4, .inl (cI, 8, .inl (gl [o0, o1, o2, o3, (-1), (-1), (-1), (-1)]))), (a5, .inl (cI, 5, .inl (gl [(-1), (-1), (-1), (-1), (-1)]))), (a6, .inl (cI, 4000, .inl (pfX2_putBuffer_g_a6_f fb p1 0 3))), (h, .inr (2, [.ref a0, .ref a1, .ref a2, .ref a3, .ref a4, .ref a5, .ref a6])), (a0, .inl (cI, 22, .inl (gl [m0, m1, m2, ((m3 + 1) &&& 15), m4, m5, m6, m7, m8, m9, m10, m11, m12, m13, m14, m15, m16, m17, 0, 4, 0, 16])))] := hD
  refine lv_aload_n hx hb dX2_release_28 rfl (lv_at hl 0 rfl) ?_
  refine va_get (D := (dC, dI)) (ci := 2) (v := .ref a0) (C := RX2) (T := TX2) (N := 7) hx hb hts hinX2 hown hK hP 3 rfl rfl 0 (by decide) k_0 (fun _ h9 => h9) rfl dX2_release_29 ?_
  refine lv_iconst (v := 4) hx hb dX2_release_32 (by decide) ?_
  refine lv_dup2_11 hx hb dX2_release_33 rfl rfl ?_
  refine za_iald (v := m4) hx hb hK hP 4 0 rfl rfl (zin tn_4 (Nat.le_of_ble_eq_true rfl)) (zrd _ tn_4 rfl) dX2_release_34 ?_
  refine lv_aload_n hx hb dX2_release_35 rfl (lv_at hl 0 rfl) ?_
  refine lv_iload_n hx hb dX2_release_36 rfl (lv_at hl 1 rfl) ?_
  refine lv_bipush (v := 7) hx hb dX2_release_37 (by decide) ?_
  refine zcVi (As := [.int p1, .int 7]) (rest := [.int m4, .int 4, .ref a0]) (wr := [(a4, .inl (cI, 8, .inl (gl [o0, o1, o2, o3, (-1), (-1), (-1), (-1)]))), (a5, .inl (cI, 5, .inl (gl [(-1), (-1), (-1), (-1), (-1)])))]) ⟨hx, hb, hml, hown, hts⟩ (kkX2_ofBuffer_g l dC dI cI cB cZ cR H.size h a0 a1 a2 a3 a4 a5 a6 m0 m1 m2 ((m3 + 1) &&& 15) m4 m5 m6 m7 m8 m9 m10 m11 m12 m13 m14 m15 m16 m17 (pfX2_putBuffer_g_a6_f fb p1 0 3) p1 7 ) (cwV 2 hts (zgV wm_298 wm_299 wm_300 wm_22 wm_301) rfl rfl rfl (by decide +kernel) ⟨Nat.le_of_ble_eq_true rfl, Nat.le_of_ble_eq_true rfl⟩) hN hK hP hD hS hA [3, 4, 2] [0, 1] rfl rfl ⟨rfl, rfl⟩ (by decide) (ci := 2) rfl rfl rfl rfl hl.1 rfl (Nat.le_of_ble_eq_true rfl) dX2_release_39 ⟨Nat.le_of_ble_eq_true rfl, Nat.le_of_ble_eq_true rfl⟩ (fun r u hu H locs hP hD hS => ?_)
  have hu : r = (pfX2_ofBuffer_g_r m5 (pfX2_putBuffer_g_a6_f fb p1 0 3) p1 7) := hu
  subst hu
  have hP : va_P (dC, dI) vwCl [(a4, .inl (cI, 8, .inl (gl [o0, o1, o2, o3, (-1), (-1), (-1), (-1)]))), (a5, .inl (cI, 5, .inl (gl [(-1), (-1), (-1), (-1), (-1)]))), (h, .inr (2, [.ref a0, .ref a1, .ref a2, .ref a3, .ref a4, .ref a5, .ref a6])), (a0, .inl (cI, 22, .inl (gl [m0, m1, m2, ((m3 + 1) &&& 15), m4, m5, m6, m7, m8, m9, m10, m11, m12, m13, m14, m15, m16, m17, 0, 4, 0, 16]))), (a6, .inl (cI, 4000, .inl (pfX2_putBuffer_g_a6_f fb p1 0 3)))] H := hP
  have hD : va_D A [(a4, .inl (cI, 8, .inl (gl [o0, o1, o2, o3, (-1), (-1), (-1), (-1)]))), (a5, .inl (cI, 5, .inl (gl [(-1), (-1), (-1), (-1), (-1)]))), (h, .inr (2, [.ref a0, .ref a1, .ref a2, .ref a3, .ref a4, .ref a5, .ref a6])), (a0, .inl (cI, 22, .inl (gl [m0, m1, m2, ((m3 + 1) &&& 15), m4, m5, m6, m7, m8, m9, m10, m11, m12, m13, m14, m15, m16, m17, 0, 4, 0, 16]))), (a6, .inl (cI, 4000, .inl (pfX2_putBuffer_g_a6_f fb p1 0 3)))] := hD
  refine lv_iadd hx hb dX2_release_42 ?_
  refine za_iast (f' := (gl [m0, m1, m2, ((m3 + 1) &&& 15), (m4 + (pfX2_ofBuffer_g_r m5 (pfX2_putBuffer_g_a6_f fb p1 0 3) p1 7)), m5, m6, m7, m8, m9, m10, m11, m12, m13, m14, m15, m16, m17, 0, 4, 0, 16])) hx hb hK hP hD hS 3 0 rfl rfl (zin tn_4 (Nat.le_of_ble_eq_true rfl)) (zup_gl tn_4 (Nat.le_of_ble_eq_true rfl) rfl) dX2_release_43 (fun H locs hP hD hS => ?_)
  have hP : va_P (dC, dI) vwCl [(a4, .inl (cI, 8, .inl (gl [o0, o1, o2, o3, (-1), (-1), (-1), (-1)]))), (a5, .inl (cI, 5, .inl (gl [(-1), (-1), (-1), (-1), (-1)]))), (h, .inr (2, [.ref a0, .ref a1, .ref a2, .ref a3, .ref a4, .ref a5, .ref a6])), (a0, .inl (cI, 22, .inl (gl [m0, m1, m2, ((m3 + 1) &&& 15), (m4 + (pfX2_ofBuffer_g_r m5 (pfX2_putBuffer_g_a6_f fb p1 0 3) p1 7)), m5, m6, m7, m8, m9, m10, m11, m12, m13, m14, m15, m16, m17, 0, 4, 0, 16]))), (a6, .inl (cI, 4000, .inl (pfX2_putBuffer_g_a6_f fb p1 0 3)))] H := hP
  have hD : va_D A [(a4, .inl (cI, 8, .inl (gl [o0, o1, o2, o3, (-1), (-1), (-1), (-1)]))), (a5, .inl (cI, 5, .inl (gl [(-1), (-1), (-1), (-1), (-1)]))), (h, .inr (2, [.ref a0, .ref a1, .ref a2, .ref a3, .ref a4, .ref a5, .ref a6])), (a0, .inl (cI, 22, .inl (gl [m0, m1, m2, ((m3 + 1) &&& 15), (m4 + (pfX2_ofBuffer_g_r m5 (pfX2_putBuffer_g_a6_f fb p1 0 3) p1 7)), m5, m6, m7, m8, m9, m10, m11, m12, m13, m14, m15, m16, m17, 0, 4, 0, 16]))), (a6, .inl (cI, 4000, .inl (pfX2_putBuffer_g_a6_f fb p1 0 3)))] := hD
  refine lv_aload_n hx hb dX2_release_44 rfl (lv_at hl 0 rfl) ?_
  refine va_get (D := (dC, dI)) (ci := 2) (v := .ref a0) (C := RX2) (T := TX2) (N := 7) hx hb hts hinX2 hown hK hP 2 rfl rfl 0 (by decide) k_0 (fun _ h9 => h9) rfl dX2_release_45 ?_
  refine lv_bipush (v := 6) hx hb dX2_release_48 (by decide) ?_
  refine lv_dup2_11 hx hb dX2_release_50 rfl rfl ?_
  refine za_iald (v := m6) hx hb hK hP 3 0 rfl rfl (zin tn_6 (Nat.le_of_ble_eq_true rfl)) (zrd _ tn_6 rfl) dX2_release_51 ?_
  refine lv_iconst (v := 1) hx hb dX2_release_52 (by decide) ?_
  refine lv_isub hx hb dX2_release_53 ?_
  refine za_iast (f' := (gl [m0, m1, m2, ((m3 + 1) &&& 15), (m4 + (pfX2_ofBuffer_g_r m5 (pfX2_putBuffer_g_a6_f fb p1 0 3) p1 7)), m5, (m6 - 1), m7, m8, m9, m10, m11, m12, m13, m14, m15, m16, m17, 0, 4, 0, 16])) hx hb hK hP hD hS 3 0 rfl rfl (zin tn_6 (Nat.le_of_ble_eq_true rfl)) (zup_gl tn_6 (Nat.le_of_ble_eq_true rfl) rfl) dX2_release_54 (fun H locs hP hD hS => ?_)
  have hP : va_P (dC, dI) vwCl [(a4, .inl (cI, 8, .inl (gl [o0, o1, o2, o3, (-1), (-1), (-1), (-1)]))), (a5, .inl (cI, 5, .inl (gl [(-1), (-1), (-1), (-1), (-1)]))), (h, .inr (2, [.ref a0, .ref a1, .ref a2, .ref a3, .ref a4, .ref a5, .ref a6])), (a0, .inl (cI, 22, .inl (gl [m0, m1, m2, ((m3 + 1) &&& 15), (m4 + (pfX2_ofBuffer_g_r m5 (pfX2_putBuffer_g_a6_f fb p1 0 3) p1 7)), m5, (m6 - 1), m7, m8, m9, m10, m11, m12, m13, m14, m15, m16, m17, 0, 4, 0, 16]))), (a6, .inl (cI, 4000, .inl (pfX2_putBuffer_g_a6_f fb p1 0 3)))] H := hP
  have hD : va_D A [(a4, .inl (cI, 8, .inl (gl [o0, o1, o2, o3, (-1), (-1), (-1), (-1)]))), (a5, .inl (cI, 5, .inl (gl [(-1), (-1), (-1), (-1), (-1)]))), (h, .inr (2, [.ref a0, .ref a1, .ref a2, .ref a3, .ref a4, .ref a5, .ref a6])), (a0, .inl (cI, 22, .inl (gl [m0, m1, m2, ((m3 + 1) &&& 15), (m4 + (pfX2_ofBuffer_g_r m5 (pfX2_putBuffer_g_a6_f fb p1 0 3) p1 7)), m5, (m6 - 1), m7, m8, m9, m10, m11, m12, m13, m14, m15, m16, m17, 0, 4, 0, 16]))), (a6, .inl (cI, 4000, .inl (pfX2_putBuffer_g_a6_f fb p1 0 3)))] := hD
  refine lv_iconst (v := 0) hx hb dX2_release_55 (by decide) ?_
  refine lv_istore_n (lv' := [(2, .int 0), (0, .ref h), (1, .int p1)]) hx hb dX2_release_56 rfl hl (by decide) rfl (fun ls hl => ?_)
  refine lv_iload_n hx hb dX2_release_57 rfl (lv_at hl 0 rfl) ?_
  refine lv_bipush (v := 8) hx hb dX2_release_58 (by decide) ?_
  refine lv_icmp_ge (tgt := 86) hx hb dX2_release_60 (by decide) (fun c => absurd c (by decide)) (fun _ => ?_)
  refine lv_aload_n hx hb dX2_release_63 rfl (lv_at hl 1 rfl) ?_
  refine va_get (D := (dC, dI)) (ci := 2) (v := .ref a4) (C := RX2) (T := TX2) (N := 7) hx hb hts hinX2 hown hK hP 2 rfl rfl 4 (by decide) k_1 (fun _ h9 => h9) rfl dX2_release_64 ?_
  refine lv_iload_n hx hb dX2_release_67 rfl (lv_at hl 0 rfl) ?_
  refine za_iald (v := o0) hx hb hK hP 0 0 rfl rfl (zin tn_0 (Nat.le_of_ble_eq_true rfl)) (zrd _ tn_0 rfl) dX2_release_68 ?_
  refine lv_iload_n hx hb dX2_release_69 rfl (lv_at hl 2 rfl) ?_
  refine lv_icmp_ne (tgt := 80) hx hb dX2_release_70 (by decide) (fun c_1 => ?_) (fun c_1 => ?_)
  · refine lv_iinc (v := 1) (lv' := [(2, .int 1), (0, .ref h), (1, .int p1)]) hx hb dX2_release_80 hl (k := 0) rfl (by decide) (by decide) rfl (fun ls hl => ?_)
    refine lv_goto (tgt := 57) hx hb dX2_release_83 (by decide) ?_
    refine lv_iload_n hx hb dX2_release_57 rfl (lv_at hl 0 rfl) ?_
    refine lv_bipush (v := 8) hx hb dX2_release_58 (by decide) ?_
    refine lv_icmp_ge (tgt := 86) hx hb dX2_release_60 (by decide) (fun c => absurd c (by decide)) (fun _ => ?_)
    refine lv_aload_n hx hb dX2_release_63 rfl (lv_at hl 1 rfl) ?_
    refine va_get (D := (dC, dI)) (ci := 2) (v := .ref a4) (C := RX2) (T := TX2) (N := 7) hx hb hts hinX2 hown hK hP 2 rfl rfl 4 (by decide) k_1 (fun _ h9 => h9) rfl dX2_release_64 ?_
    refine lv_iload_n hx hb dX2_release_67 rfl (lv_at hl 0 rfl) ?_
    refine za_iald (v := o1) hx hb hK hP 0 0 rfl rfl (zin tn_1 (Nat.le_of_ble_eq_true rfl)) (zrd _ tn_1 rfl) dX2_release_68 ?_
    refine lv_iload_n hx hb dX2_release_69 rfl (lv_at hl 2 rfl) ?_
    refine lv_icmp_ne (tgt := 80) hx hb dX2_release_70 (by decide) (fun c_2 => ?_) (fun c_2 => ?_)
    · refine lv_iinc (v := 2) (lv' := [(2, .int 2), (0, .ref h), (1, .int p1)]) hx hb dX2_release_80 hl (k := 0) rfl (by decide) (by decide) rfl (fun ls hl => ?_)
      refine lv_goto (tgt := 57) hx hb dX2_release_83 (by decide) ?_
      refine lv_iload_n hx hb dX2_release_57 rfl (lv_at hl 0 rfl) ?_
      refine lv_bipush (v := 8) hx hb dX2_release_58 (by decide) ?_
      refine lv_icmp_ge (tgt := 86) hx hb dX2_release_60 (by decide) (fun c => absurd c (by decide)) (fun _ => ?_)
      refine lv_aload_n hx hb dX2_release_63 rfl (lv_at hl 1 rfl) ?_
      refine va_get (D := (dC, dI)) (ci := 2) (v := .ref a4) (C := RX2) (T := TX2) (N := 7) hx hb hts hinX2 hown hK hP 2 rfl rfl 4 (by decide) k_1 (fun _ h9 => h9) rfl dX2_release_64 ?_
      refine lv_iload_n hx hb dX2_release_67 rfl (lv_at hl 0 rfl) ?_
      refine za_iald (v := o2) hx hb hK hP 0 0 rfl rfl (zin tn_2 (Nat.le_of_ble_eq_true rfl)) (zrd _ tn_2 rfl) dX2_release_68 ?_
      refine lv_iload_n hx hb dX2_release_69 rfl (lv_at hl 2 rfl) ?_
      refine lv_icmp_ne (tgt := 80) hx hb dX2_release_70 (by decide) (fun c_3 => ?_) (fun c_3 => ?_)
      · refine lv_iinc (v := 3) (lv' := [(2, .int 3), (0, .ref h), (1, .int p1)]) hx hb dX2_release_80 hl (k := 0) rfl (by decide) (by decide) rfl (fun ls hl => ?_)
        refine lv_goto (tgt := 57) hx hb dX2_release_83 (by decide) ?_
        refine lv_iload_n hx hb dX2_release_57 rfl (lv_at hl 0 rfl) ?_
        refine lv_bipush (v := 8) hx hb dX2_release_58 (by decide) ?_
        refine lv_icmp_ge (tgt := 86) hx hb dX2_release_60 (by decide) (fun c => absurd c (by decide)) (fun _ => ?_)
        refine lv_aload_n hx hb dX2_release_63 rfl (lv_at hl 1 rfl) ?_
        refine va_get (D := (dC, dI)) (ci := 2) (v := .ref a4) (C := RX2) (T := TX2) (N := 7) hx hb hts hinX2 hown hK hP 2 rfl rfl 4 (by decide) k_1 (fun _ h9 => h9) rfl dX2_release_64 ?_
        refine lv_iload_n hx hb dX2_release_67 rfl (lv_at hl 0 rfl) ?_
        refine za_iald (v := o3) hx hb hK hP 0 0 rfl rfl (zin tn_3 (Nat.le_of_ble_eq_true rfl)) (zrd _ tn_3 rfl) dX2_release_68 ?_
        refine lv_iload_n hx hb dX2_release_69 rfl (lv_at hl 2 rfl) ?_
        refine lv_icmp_ne (tgt := 80) hx hb dX2_release_70 (by decide) (fun c_4 => ?_) (fun c_4 => ?_)
        · refine lv_iinc (v := 4) (lv' := [(2, .int 4), (0, .ref h), (1, .int p1)]) hx hb dX2_release_80 hl (k := 0) rfl (by decide) (by decide) rfl (fun ls hl => ?_)
          refine lv_goto (tgt := 57) hx hb dX2_release_83 (by decide) ?_
          refine lv_iload_n hx hb dX2_release_57 rfl (lv_at hl 0 rfl) ?_
          refine lv_bipush (v := 8) hx hb dX2_release_58 (by decide) ?_
          refine lv_icmp_ge (tgt := 86) hx hb dX2_release_60 (by decide) (fun c => absurd c (by decide)) (fun _ => ?_)
          refine lv_aload_n hx hb dX2_release_63 rfl (lv_at hl 1 rfl) ?_
          refine va_get (D := (dC, dI)) (ci := 2) (v := .ref a4) (C := RX2) (T := TX2) (N := 7) hx hb hts hinX2 hown hK hP 2 rfl rfl 4 (by decide) k_1 (fun _ h9 => h9) rfl dX2_release_64 ?_
          refine lv_iload_n hx hb dX2_release_67 rfl (lv_at hl 0 rfl) ?_
          refine za_iald (v := (-1)) hx hb hK hP 0 0 rfl rfl (zin tn_4 (Nat.le_of_ble_eq_true rfl)) (zrd _ tn_4 rfl) dX2_release_68 ?_
          refine lv_iload_n hx hb dX2_release_69 rfl (lv_at hl 2 rfl) ?_
          refine lv_icmp_ne (tgt := 80) hx hb dX2_release_70 (by decide) (fun _ => ?_) (fun c => absurd c hp)
          refine lv_iinc (v := 5) (lv' := [(2, .int 5), (0, .ref h), (1, .int p1)]) hx hb dX2_release_80 hl (k := 0) rfl (by decide) (by decide) rfl (fun ls hl => ?_)
          refine lv_goto (tgt := 57) hx hb dX2_release_83 (by decide) ?_
          refine lv_iload_n hx hb dX2_release_57 rfl (lv_at hl 0 rfl) ?_
          refine lv_bipush (v := 8) hx hb dX2_release_58 (by decide) ?_
          refine lv_icmp_ge (tgt := 86) hx hb dX2_release_60 (by decide) (fun c => absurd c (by decide)) (fun _ => ?_)
          refine lv_aload_n hx hb dX2_release_63 rfl (lv_at hl 1 rfl) ?_
          refine va_get (D := (dC, dI)) (ci := 2) (v := .ref a4) (C := RX2) (T := TX2) (N := 7) hx hb hts hinX2 hown hK hP 2 rfl rfl 4 (by decide) k_1 (fun _ h9 => h9) rfl dX2_release_64 ?_
          refine lv_iload_n hx hb dX2_release_67 rfl (lv_at hl 0 rfl) ?_
          refine za_iald (v := (-1)) hx hb hK hP 0 0 rfl rfl (zin tn_5 (Nat.le_of_ble_eq_true rfl)) (zrd _ tn_5 rfl) dX2_release_68 ?_
          refine lv_iload_n hx hb dX2_release_69 rfl (lv_at hl 2 rfl) ?_
          refine lv_icmp_ne (tgt := 80) hx hb dX2_release_70 (by decide) (fun _ => ?_) (fun c => absurd c hp)
          refine lv_iinc (v := 6) (lv' := [(2, .int 6), (0, .ref h), (1, .int p1)]) hx hb dX2_release_80 hl (k := 0) rfl (by decide) (by decide) rfl (fun ls hl => ?_)
          refine lv_goto (tgt := 57) hx hb dX2_release_83 (by decide) ?_
          refine lv_iload_n hx hb dX2_release_57 rfl (lv_at hl 0 rfl) ?_
          refine lv_bipush (v := 8) hx hb dX2_release_58 (by decide) ?_
          refine lv_icmp_ge (tgt := 86) hx hb dX2_release_60 (by decide) (fun c => absurd c (by decide)) (fun _ => ?_)
          refine lv_aload_n hx hb dX2_release_63 rfl (lv_at hl 1 rfl) ?_
          refine va_get (D := (dC, dI)) (ci := 2) (v := .ref a4) (C := RX2) (T := TX2) (N := 7) hx hb hts hinX2 hown hK hP 2 rfl rfl 4 (by decide) k_1 (fun _ h9 => h9) rfl dX2_release_64 ?_
          refine lv_iload_n hx hb dX2_release_67 rfl (lv_at hl 0 rfl) ?_
          refine za_iald (v := (-1)) hx hb hK hP 0 0 rfl rfl (zin tn_6 (Nat.le_of_ble_eq_true rfl)) (zrd _ tn_6 rfl) dX2_release_68 ?_
          refine lv_iload_n hx hb dX2_release_69 rfl (lv_at hl 2 rfl) ?_
          refine lv_icmp_ne (tgt := 80) hx hb dX2_release_70 (by decide) (fun _ => ?_) (fun c => absurd c hp)
          refine lv_iinc (v := 7) (lv' := [(2, .int 7), (0, .ref h), (1, .int p1)]) hx hb dX2_release_80 hl (k := 0) rfl (by decide) (by decide) rfl (fun ls hl => ?_)
          refine lv_goto (tgt := 57) hx hb dX2_release_83 (by decide) ?_
          refine lv_iload_n hx hb dX2_release_57 rfl (lv_at hl 0 rfl) ?_
          refine lv_bipush (v := 8) hx hb dX2_release_58 (by decide) ?_
          refine lv_icmp_ge (tgt := 86) hx hb dX2_release_60 (by decide) (fun c => absurd c (by decide)) (fun _ => ?_)
          refine lv_aload_n hx hb dX2_release_63 rfl (lv_at hl 1 rfl) ?_
          refine va_get (D := (dC, dI)) (ci := 2) (v := .ref a4) (C := RX2) (T := TX2) (N := 7) hx hb hts hinX2 hown hK hP 2 rfl rfl 4 (by decide) k_1 (fun _ h9 => h9) rfl dX2_release_64 ?_
          refine lv_iload_n hx hb dX2_release_67 rfl (lv_at hl 0 rfl) ?_
          refine za_iald (v := (-1)) hx hb hK hP 0 0 rfl rfl (zin tn_7 (Nat.le_of_ble_eq_true rfl)) (zrd _ tn_7 rfl) dX2_release_68 ?_
          refine lv_iload_n hx hb dX2_release_69 rfl (lv_at hl 2 rfl) ?_
          refine lv_icmp_ne (tgt := 80) hx hb dX2_release_70 (by decide) (fun _ => ?_) (fun c => absurd c hp)
          refine lv_iinc (v := 8) (lv' := [(2, .int 8), (0, .ref h), (1, .int p1)]) hx hb dX2_release_80 hl (k := 0) rfl (by decide) (by decide) rfl (fun ls hl => ?_)
          refine lv_goto (tgt := 57) hx hb dX2_release_83 (by decide) ?_
          refine lv_iload_n hx hb dX2_release_57 rfl (lv_at hl 0 rfl) ?_
          refine lv_bipush (v := 8) hx hb dX2_release_58 (by decide) ?_
          refine lv_icmp_ge (tgt := 86) hx hb dX2_release_60 (by decide) (fun _ => ?_) (fun c => absurd (by decide) c)
          refine lv_iconst (v := 1) hx hb dX2_release_86 (by decide) ?_
          refine lv_istore_n (lv' := [(2, .int 1), (0, .ref h), (1, .int p1)]) hx hb dX2_release_87 rfl hl (by decide) rfl (fun ls hl => ?_)
          refine lv_iload_n hx hb dX2_release_88 rfl (lv_at hl 0 rfl) ?_
          refine lv_iconst (v := 5) hx hb dX2_release_89 (by decide) ?_
          refine lv_icmp_ge (tgt := 116) hx hb dX2_release_90 (by decide) (fun c => absurd c (by decide)) (fun _ => ?_)
          refine lv_aload_n hx hb dX2_release_93 rfl (lv_at hl 1 rfl) ?_
          refine va_get (D := (dC, dI)) (ci := 2) (v := .ref a5) (C := RX2) (T := TX2) (N := 7) hx hb hts hinX2 hown hK hP 2 rfl rfl 5 (by decide) k_2 (fun _ h9 => h9) rfl dX2_release_94 ?_
          refine lv_iload_n hx hb dX2_release_97 rfl (lv_at hl 0 rfl) ?_
          refine za_iald (v := (-1)) hx hb hK hP 1 0 rfl rfl (zin tn_1 (Nat.le_of_ble_eq_true rfl)) (zrd _ tn_1 rfl) dX2_release_98 ?_
          refine lv_iload_n hx hb dX2_release_99 rfl (lv_at hl 2 rfl) ?_
          refine lv_icmp_ne (tgt := 110) hx hb dX2_release_100 (by decide) (fun _ => ?_) (fun c => absurd c hp)
          refine lv_iinc (v := 2) (lv' := [(2, .int 2), (0, .ref h), (1, .int p1)]) hx hb dX2_release_110 hl (k := 0) rfl (by decide) (by decide) rfl (fun ls hl => ?_)
          refine lv_goto (tgt := 88) hx hb dX2_release_113 (by decide) ?_
          refine lv_iload_n hx hb dX2_release_88 rfl (lv_at hl 0 rfl) ?_
          refine lv_iconst (v := 5) hx hb dX2_release_89 (by decide) ?_
          refine lv_icmp_ge (tgt := 116) hx hb dX2_release_90 (by decide) (fun c => absurd c (by decide)) (fun _ => ?_)
          refine lv_aload_n hx hb dX2_release_93 rfl (lv_at hl 1 rfl) ?_
          refine va_get (D := (dC, dI)) (ci := 2) (v := .ref a5) (C := RX2) (T := TX2) (N := 7) hx hb hts hinX2 hown hK hP 2 rfl rfl 5 (by decide) k_2 (fun _ h9 => h9) rfl dX2_release_94 ?_
          refine lv_iload_n hx hb dX2_release_97 rfl (lv_at hl 0 rfl) ?_
          refine za_iald (v := (-1)) hx hb hK hP 1 0 rfl rfl (zin tn_2 (Nat.le_of_ble_eq_true rfl)) (zrd _ tn_2 rfl) dX2_release_98 ?_
          refine lv_iload_n hx hb dX2_release_99 rfl (lv_at hl 2 rfl) ?_
          refine lv_icmp_ne (tgt := 110) hx hb dX2_release_100 (by decide) (fun _ => ?_) (fun c => absurd c hp)
          refine lv_iinc (v := 3) (lv' := [(2, .int 3), (0, .ref h), (1, .int p1)]) hx hb dX2_release_110 hl (k := 0) rfl (by decide) (by decide) rfl (fun ls hl => ?_)
          refine lv_goto (tgt := 88) hx hb dX2_release_113 (by decide) ?_
          refine lv_iload_n hx hb dX2_release_88 rfl (lv_at hl 0 rfl) ?_
          refine lv_iconst (v := 5) hx hb dX2_release_89 (by decide) ?_
          refine lv_icmp_ge (tgt := 116) hx hb dX2_release_90 (by decide) (fun c => absurd c (by decide)) (fun _ => ?_)
          refine lv_aload_n hx hb dX2_release_93 rfl (lv_at hl 1 rfl) ?_
          refine va_get (D := (dC, dI)) (ci := 2) (v := .ref a5) (C := RX2) (T := TX2) (N := 7) hx hb hts hinX2 hown hK hP 2 rfl rfl 5 (by decide) k_2 (fun _ h9 => h9) rfl dX2_release_94 ?_
          refine lv_iload_n hx hb dX2_release_97 rfl (lv_at hl 0 rfl) ?_
          refine za_iald (v := (-1)) hx hb hK hP 1 0 rfl rfl (zin tn_3 (Nat.le_of_ble_eq_true rfl)) (zrd _ tn_3 rfl) dX2_release_98 ?_
          refine lv_iload_n hx hb dX2_release_99 rfl (lv_at hl 2 rfl) ?_
          refine lv_icmp_ne (tgt := 110) hx hb dX2_release_100 (by decide) (fun _ => ?_) (fun c => absurd c hp)
          refine lv_iinc (v := 4) (lv' := [(2, .int 4), (0, .ref h), (1, .int p1)]) hx hb dX2_release_110 hl (k := 0) rfl (by decide) (by decide) rfl (fun ls hl => ?_)
          refine lv_goto (tgt := 88) hx hb dX2_release_113 (by decide) ?_
          refine lv_iload_n hx hb dX2_release_88 rfl (lv_at hl 0 rfl) ?_
          refine lv_iconst (v := 5) hx hb dX2_release_89 (by decide) ?_
          refine lv_icmp_ge (tgt := 116) hx hb dX2_release_90 (by decide) (fun c => absurd c (by decide)) (fun _ => ?_)
          refine lv_aload_n hx hb dX2_release_93 rfl (lv_at hl 1 rfl) ?_
          refine va_get (D := (dC, dI)) (ci := 2) (v := .ref a5) (C := RX2) (T := TX2) (N := 7) hx hb hts hinX2 hown hK hP 2 rfl rfl 5 (by decide) k_2 (fun _ h9 => h9) rfl dX2_release_94 ?_
          refine lv_iload_n hx hb dX2_release_97 rfl (lv_at hl 0 rfl) ?_
          refine za_iald (v := (-1)) hx hb hK hP 1 0 rfl rfl (zin tn_4 (Nat.le_of_ble_eq_true rfl)) (zrd _ tn_4 rfl) dX2_release_98 ?_
          refine lv_iload_n hx hb dX2_release_99 rfl (lv_at hl 2 rfl) ?_
          refine lv_icmp_ne (tgt := 110) hx hb dX2_release_100 (by decide) (fun _ => ?_) (fun c => absurd c hp)
          refine lv_iinc (v := 5) (lv' := [(2, .int 5), (0, .ref h), (1, .int p1)]) hx hb dX2_release_110 hl (k := 0) rfl (by decide) (by decide) rfl (fun ls hl => ?_)
          refine lv_goto (tgt := 88) hx hb dX2_release_113 (by decide) ?_
          refine lv_iload_n hx hb dX2_release_88 rfl (lv_at hl 0 rfl) ?_
          refine lv_iconst (v := 5) hx hb dX2_release_89 (by decide) ?_
          refine lv_icmp_ge (tgt := 116) hx hb dX2_release_90 (by decide) (fun _ => ?_) (fun c => absurd (by decide) c)
          have e_0 : (pfX2_release_a4_0 o0 p1) = o0 := by rw [pfX2_release_a4_0, if_neg c_1]
          have e_1 : (pfX2_release_a4_1 o1 p1) = o1 := by rw [pfX2_release_a4_1, if_neg c_2]
          have e_2 : (pfX2_release_a4_2 o2 p1) = o2 := by rw [pfX2_release_a4_2, if_neg c_3]
          have e_3 : (pfX2_release_a4_3 o3 p1) = o3 := by rw [pfX2_release_a4_3, if_neg c_4]
          have hP9 := hP.sub (ws' := [(h, .inr (2, [.ref a0, .ref a1, .ref a2, .ref a3, .ref a4, .ref a5, .ref a6])), (a0, .inl (cI, 22, .inl (gl [m0, m1, m2, ((m3 + 1) &&& 15), (m4 + (pfX2_ofBuffer_g_r m5 (pfX2_putBuffer_g_a6_f fb p1 0 3) p1 7)), m5, (m6 - 1), m7, m8, m9, m10, m11, m12, m13, m14, m15, m16, m17, 0, 4, 0, 16]))), (a4, .inl (cI, 8, .inl (gl [o0, o1, o2, o3, (-1), (-1), (-1), (-1)]))), (a5, .inl (cI, 5, .inl (gl [(-1), (-1), (-1), (-1), (-1)]))), (a6, .inl (cI, 4000, .inl (pfX2_putBuffer_g_a6_f fb p1 0 3)))]) [2, 3, 0, 1, 4] rfl
          have hD9 := hD.sub (ws' := [(h, .inr (2, [.ref a0, .ref a1, .ref a2, .ref a3, .ref a4, .ref a5, .ref a6])), (a0, .inl (cI, 22, .inl (gl [m0, m1, m2, ((m3 + 1) &&& 15), (m4 + (pfX2_ofBuffer_g_r m5 (pfX2_putBuffer_g_a6_f fb p1 0 3) p1 7)), m5, (m6 - 1), m7, m8, m9, m10, m11, m12, m13, m14, m15, m16, m17, 0, 4, 0, 16]))), (a4, .inl (cI, 8, .inl (gl [o0, o1, o2, o3, (-1), (-1), (-1), (-1)]))), (a5, .inl (cI, 5, .inl (gl [(-1), (-1), (-1), (-1), (-1)]))), (a6, .inl (cI, 4000, .inl (pfX2_putBuffer_g_a6_f fb p1 0 3)))]) [2, 3, 0, 1, 4] (by decide) rfl
          exact W.vret hx hb hr (fun t ht hW => ⟨⟨(), rfl, trivial, by rw [ht, e_0, e_1, e_2, e_3]; exact hP9, va_K.moved hW.alike hK, (by rw [e_0, e_1, e_2, e_3]; exact hD9)⟩, hS.F ht⟩) hS.2.2 dX2_release_116
        · refine lv_aload_n hx hb dX2_release_73 rfl (lv_at hl 1 rfl) ?_
          refine va_get (D := (dC, dI)) (ci := 2) (v := .ref a4) (C := RX2) (T := TX2) (N := 7) hx hb hts hinX2 hown hK hP 2 rfl rfl 4 (by decide) k_1 (fun _ h9 => h9) rfl dX2_release_74 ?_
          refine lv_iload_n hx hb dX2_release_77 rfl (lv_at hl 0 rfl) ?_
          refine lv_iconst (v := (-1)) hx hb dX2_release_78 (by decide) ?_
          refine za_iast (f' := (gl [o0, o1, o2, (-1), (-1), (-1), (-1), (-1)])) hx hb hK hP hD hS 0 0 rfl rfl (zin tn_3 (Nat.le_of_ble_eq_true rfl)) (zup_gl tn_3 (Nat.le_of_ble_eq_true rfl) rfl) dX2_release_79 (fun H locs hP hD hS => ?_)
          have hP : va_P (dC, dI) vwCl [(a4, .inl (cI, 8, .inl (gl [o0, o1, o2, (-1), (-1), (-1), (-1), (-1)]))), (a5, .inl (cI, 5, .inl (gl [(-1), (-1), (-1), (-1), (-1)]))), (h, .inr (2, [.ref a0, .ref a1, .ref a2, .ref a3, .ref a4, .ref a5, .ref a6])), (a0, .inl (cI, 22, .inl (gl [m0, m1, m2, ((m3 + 1) &&& 15), (m4 + (pfX2_ofBuffer_g_r m5 (pfX2_putBuffer_g_a6_f fb p1 0 3) p1 7)), m5, (m6 - 1), m7, m8, m9, m10, m11, m12, m13, m14, m15, m16, m17, 0, 4, 0, 16]))), (a6, .inl (cI, 4000, .inl (pfX2_putBuffer_g_a6_f fb p1 0 3)))] H := hP
          have hD : va_D A [(a4, .inl (cI, 8, .inl (gl [o0, o1, o2, (-1), (-1), (-1), (-1), (-1)]))), (a5, .inl (cI, 5, .inl (gl [(-1), (-1), (-1), (-1), (-1)]))), (h, .inr (2, [.ref a0, .ref a1, .ref a2, .ref a3, .ref a4, .ref a5, .ref a6])), (a0, .inl (cI, 22, .inl (gl [m0, m1, m2, ((m3 + 1) &&& 15), (m4 + (pfX2_ofBuffer_g_r m5 (pfX2_putBuffer_g_a6_f fb p1 0 3) p1 7)), m5, (m6 - 1), m7, m8, m9, m10, m11, m12, m13, m14, m15, m16, m17, 0, 4, 0, 16]))), (a6, .inl (cI, 4000, .inl (pfX2_putBuffer_g_a6_f fb p1 0 3)))] := hD
          refine lv_iinc (v := 4) (lv' := [(2, .int 4), (0, .ref h), (1, .int p1)]) hx hb dX2_release_80 hl (k := 0) rfl (by decide) (by decide) rfl (fun ls hl => ?_)
          refine lv_goto (tgt := 57) hx hb dX2_release_83 (by decide) ?_
          refine lv_iload_n hx hb dX2_release_57 rfl (lv_at hl 0 rfl) ?_
          refine lv_bipush (v := 8) hx hb dX2_release_58 (by decide) ?_
          refine lv_icmp_ge (tgt := 86) hx hb dX2_release_60 (by decide) (fun c => absurd c (by decide)) (fun _ => ?_)
          refine lv_aload_n hx hb dX2_release_63 rfl (lv_at hl 1 rfl) ?_
          refine va_get (D := (dC, dI)) (ci := 2) (v := .ref a4) (C := RX2) (T := TX2) (N := 7) hx hb hts hinX2 hown hK hP 2 rfl rfl 4 (by decide) k_1 (fun _ h9 => h9) rfl dX2_release_64 ?_
          refine lv_iload_n hx hb dX2_release_67 rfl (lv_at hl 0 rfl) ?_
          refine za_iald (v := (-1)) hx hb hK hP 0 0 rfl rfl (zin tn_4 (Nat.le_of_ble_eq_true rfl)) (zrd _ tn_4 rfl) dX2_release_68 ?_
          refine lv_iload_n hx hb dX2_release_69 rfl (lv_at hl 2 rfl) ?_
          refine lv_icmp_ne (tgt := 80) hx hb dX2_release_70 (by decide) (fun _ => ?_) (fun c => absurd c hp)
          refine lv_iinc (v := 5) (lv' := [(2, .int 5), (0, .ref h), (1, .int p1)]) hx hb dX2_release_80 hl (k := 0) rfl (by decide) (by decide) rfl (fun ls hl => ?_)
          refine lv_goto (tgt := 57) hx hb dX2_release_83 (by decide) ?_
          refine lv_iload_n hx hb dX2_release_57 rfl (lv_at hl 0 rfl) ?_
          refine lv_bipush (v := 8) hx hb dX2_release_58 (by decide) ?_
          refine lv_icmp_ge (tgt := 86) hx hb dX2_release_60 (by decide) (fun c => absurd c (by decide)) (fun _ => ?_)
          refine lv_aload_n hx hb dX2_release_63 rfl (lv_at hl 1 rfl) ?_
          refine va_get (D := (dC, dI)) (ci := 2) (v := .ref a4) (C := RX2) (T := TX2) (N := 7) hx hb hts hinX2 hown hK hP 2 rfl rfl 4 (by decide) k_1 (fun _ h9 => h9) rfl dX2_release_64 ?_
          refine lv_iload_n hx hb dX2_release_67 rfl (lv_at hl 0 rfl) ?_
          refine za_iald (v := (-1)) hx hb hK hP 0 0 rfl rfl (zin tn_5 (Nat.le_of_ble_eq_true rfl)) (zrd _ tn_5 rfl) dX2_release_68 ?_
          refine lv_iload_n hx hb dX2_release_69 rfl (lv_at hl 2 rfl) ?_
          refine lv_icmp_ne (tgt := 80) hx hb dX2_release_70 (by decide) (fun _ => ?_) (fun c => absurd c hp)
          refine lv_iinc (v := 6) (lv' := [(2, .int 6), (0, .ref h), (1, .int p1)]) hx hb dX2_release_80 hl (k := 0) rfl (by decide) (by decide) rfl (fun ls hl => ?_)
          refine lv_goto (tgt := 57) hx hb dX2_release_83 (by decide) ?_
          refine lv_iload_n hx hb dX2_release_57 rfl (lv_at hl 0 rfl) ?_
          refine lv_bipush (v := 8) hx hb dX2_release_58 (by decide) ?_
          refine lv_icmp_ge (tgt := 86) hx hb dX2_release_60 (by decide) (fun c => absurd c (by decide)) (fun _ => ?_)
          refine lv_aload_n hx hb dX2_release_63 rfl (lv_at hl 1 rfl) ?_
          refine va_get (D := (dC, dI)) (ci := 2) (v := .ref a4) (C := RX2) (T := TX2) (N := 7) hx hb hts hinX2 hown hK hP 2 rfl rfl 4 (by decide) k_1 (fun _ h9 => h9) rfl dX2_release_64 ?_
          refine lv_iload_n hx hb dX2_release_67 rfl (lv_at hl 0 rfl) ?_
          refine za_iald (v := (-1)) hx hb hK hP 0 0 rfl rfl (zin tn_6 (Nat.le_of_ble_eq_true rfl)) (zrd _ tn_6 rfl) dX2_release_68 ?_
          refine lv_iload_n hx hb dX2_release_69 rfl (lv_at hl 2 rfl) ?_
          refine lv_icmp_ne (tgt := 80) hx hb dX2_release_70 (by decide) (fun _ => ?_) (fun c => absurd c hp)
          refine lv_iinc (v := 7) (lv' := [(2, .int 7), (0, .ref h), (1, .int p1)]) hx hb dX2_release_80 hl (k := 0) rfl (by decide) (by decide) rfl (fun ls hl => ?_)
          refine lv_goto (tgt := 57) hx hb dX2_release_83 (by decide) ?_
          refine lv_iload_n hx hb dX2_release_57 rfl (lv_at hl 0 rfl) ?_
          refine lv_bipush (v := 8) hx hb dX2_release_58 (by decide) ?_
          refine lv_icmp_ge (tgt := 86) hx hb dX2_release_60 (by decide) (fun c => absurd c (by decide)) (fun _ => ?_)
          refine lv_aload_n hx hb dX2_release_63 rfl (lv_at hl 1 rfl) ?_
          refine va_get (D := (dC, dI)) (ci := 2) (v := .ref a4) (C := RX2) (T := TX2) (N := 7) hx hb hts hinX2 hown hK hP 2 rfl rfl 4 (by decide) k_1 (fun _ h9 => h9) rfl dX2_release_64 ?_
          refine lv_iload_n hx hb dX2_release_67 rfl (lv_at hl 0 rfl) ?_
          refine za_iald (v := (-1)) hx hb hK hP 0 0 rfl rfl (zin tn_7 (Nat.le_of_ble_eq_true rfl)) (zrd _ tn_7 rfl) dX2_release_68 ?_
          refine lv_iload_n hx hb dX2_release_69 rfl (lv_at hl 2 rfl) ?_
          refine lv_icmp_ne (tgt := 80) hx hb dX2_release_70 (by decide) (fun _ => ?_) (fun c => absurd c hp)
          refine lv_iinc (v := 8) (lv' := [(2, .int 8), (0, .ref h), (1, .int p1)]) hx hb dX2_release_80 hl (k := 0) rfl (by decide) (by decide) rfl (fun ls hl => ?_)
          refine lv_goto (tgt := 57) hx hb dX2_release_83 (by decide) ?_
          refine lv_iload_n hx hb dX2_release_57 rfl (lv_at hl 0 rfl) ?_
          refine lv_bipush (v := 8) hx hb dX2_release_58 (by decide) ?_
          refine lv_icmp_ge (tgt := 86) hx hb dX2_release_60 (by decide) (fun _ => ?_) (fun c => absurd (by decide) c)
          refine lv_iconst (v := 1) hx hb dX2_release_86 (by decide) ?_
          refine lv_istore_n (lv' := [(2, .int 1), (0, .ref h), (1, .int p1)]) hx hb dX2_release_87 rfl hl (by decide) rfl (fun ls hl => ?_)
          refine lv_iload_n hx hb dX2_release_88 rfl (lv_at hl 0 rfl) ?_
          refine lv_iconst (v := 5) hx hb dX2_release_89 (by decide) ?_
          refine lv_icmp_ge (tgt := 116) hx hb dX2_release_90 (by decide) (fun c => absurd c (by decide)) (fun _ => ?_)
          refine lv_aload_n hx hb dX2_release_93 rfl (lv_at hl 1 rfl) ?_
          refine va_get (D := (dC, dI)) (ci := 2) (v := .ref a5) (C := RX2) (T := TX2) (N := 7) hx hb hts hinX2 hown hK hP 2 rfl rfl 5 (by decide) k_2 (fun _ h9 => h9) rfl dX2_release_94 ?_
          refine lv_iload_n hx hb dX2_release_97 rfl (lv_at hl 0 rfl) ?_
          refine za_iald (v := (-1)) hx hb hK hP 1 0 rfl rfl (zin tn_1 (Nat.le_of_ble_eq_true rfl)) (zrd _ tn_1 rfl) dX2_release_98 ?_
          refine lv_iload_n hx hb dX2_release_99 rfl (lv_at hl 2 rfl) ?_
          refine lv_icmp_ne (tgt := 110) hx hb dX2_release_100 (by decide) (fun _ => ?_) (fun c => absurd c hp)
          refine lv_iinc (v := 2) (lv' := [(2, .int 2), (0, .ref h), (1, .int p1)]) hx hb dX2_release_110 hl (k := 0) rfl (by decide) (by decide) rfl (fun ls hl => ?_)
          refine lv_goto (tgt := 88) hx hb dX2_release_113 (by decide) ?_
          refine lv_iload_n hx hb dX2_release_88 rfl (lv_at hl 0 rfl) ?_
          refine lv_iconst (v := 5) hx hb dX2_release_89 (by decide) ?_
          refine lv_icmp_ge (tgt := 116) hx hb dX2_release_90 (by decide) (fun c => absurd c (by decide)) (fun _ => ?_)
          refine lv_aload_n hx hb dX2_release_93 rfl (lv_at hl 1 rfl) ?_
          refine va_get (D := (dC, dI)) (ci := 2) (v := .ref a5) (C := RX2) (T := TX2) (N := 7) hx hb hts hinX2 hown hK hP 2 rfl rfl 5 (by decide) k_2 (fun _ h9 => h9) rfl dX2_release_94 ?_
          refine lv_iload_n hx hb dX2_release_97 rfl (lv_at hl 0 rfl) ?_
          refine za_iald (v := (-1)) hx hb hK hP 1 0 rfl rfl (zin tn_2 (Nat.le_of_ble_eq_true rfl)) (zrd _ tn_2 rfl) dX2_release_98 ?_
          refine lv_iload_n hx hb dX2_release_99 rfl (lv_at hl 2 rfl) ?_
          refine lv_icmp_ne (tgt := 110) hx hb dX2_release_100 (by decide) (fun _ => ?_) (fun c => absurd c hp)
          refine lv_iinc (v := 3) (lv' := [(2, .int 3), (0, .ref h), (1, .int p1)]) hx hb dX2_release_110 hl (k := 0) rfl (by decide) (by decide) rfl (fun ls hl => ?_)
          refine lv_goto (tgt := 88) hx hb dX2_release_113 (by decide) ?_
          refine lv_iload_n hx hb dX2_release_88 rfl (lv_at hl 0 rfl) ?_
          refine lv_iconst (v := 5) hx hb dX2_release_89 (by decide) ?_
          refine lv_icmp_ge (tgt := 116) hx hb dX2_release_90 (by decide) (fun c => absurd c (by decide)) (fun _ => ?_)
          refine lv_aload_n hx hb dX2_release_93 rfl (lv_at hl 1 rfl) ?_
          refine va_get (D := (dC, dI)) (ci := 2) (v := .ref a5) (C := RX2) (T := TX2) (N := 7) hx hb hts hinX2 hown hK hP 2 rfl rfl 5 (by decide) k_2 (fun _ h9 => h9) rfl dX2_release_94 ?_
          refine lv_iload_n hx hb dX2_release_97 rfl (lv_at hl 0 rfl) ?_
          refine za_iald (v := (-1)) hx hb hK hP 1 0 rfl rfl (zin tn_3 (Nat.le_of_ble_eq_true rfl)) (zrd _ tn_3 rfl) dX2_release_98 ?_
          refine lv_iload_n hx hb dX2_release_99 rfl (lv_at hl 2 rfl) ?_
          refine lv_icmp_ne (tgt := 110) hx hb dX2_release_100 (by decide) (fun _ => ?_) (fun c => absurd c hp)
          refine lv_iinc (v := 4) (lv' := [(2, .int 4), (0, .ref h), (1, .int p1)]) hx hb dX2_release_110 hl (k := 0) rfl (by decide) (by decide) rfl (fun ls hl => ?_)
          refine lv_goto (tgt := 88) hx hb dX2_release_113 (by decide) ?_
          refine lv_iload_n hx hb dX2_release_88 rfl (lv_at hl 0 rfl) ?_
          refine lv_iconst (v := 5) hx hb dX2_release_89 (by decide) ?_
          refine lv_icmp_ge (tgt := 116) hx hb dX2_release_90 (by decide) (fun c => absurd c (by decide)) (fun _ => ?_)
          refine lv_aload_n hx hb dX2_release_93 rfl (lv_at hl 1 rfl) ?_
          refine va_get (D := (dC, dI)) (ci := 2) (v := .ref a5) (C := RX2) (T := TX2) (N := 7) hx hb hts hinX2 hown hK hP 2 rfl rfl 5 (by decide) k_2 (fun _ h9 => h9) rfl dX2_release_94 ?_
          refine lv_iload_n hx hb dX2_release_97 rfl (lv_at hl 0 rfl) ?_
          refine za_iald (v := (-1)) hx hb hK hP 1 0 rfl rfl (zin tn_4 (Nat.le_of_ble_eq_true rfl)) (zrd _ tn_4 rfl) dX2_release_98 ?_
          refine lv_iload_n hx hb dX2_release_99 rfl (lv_at hl 2 rfl) ?_
          refine lv_icmp_ne (tgt := 110) hx hb dX2_release_100 (by decide) (fun _ => ?_) (fun c => absurd c hp)
          refine lv_iinc (v := 5) (lv' := [(2, .int 5), (0, .ref h), (1, .int p1)]) hx hb dX2_release_110 hl (k := 0) rfl (by decide) (by decide) rfl (fun ls hl => ?_)
          refine lv_goto (tgt := 88) hx hb dX2_release_113 (by decide) ?_
          refine lv_iload_n hx hb dX2_release_88 rfl (lv_at hl 0 rfl) ?_
          refine lv_iconst (v := 5) hx hb dX2_release_89 (by decide) ?_
          refine lv_icmp_ge (tgt := 116) hx hb dX2_release_90 (by decide) (fun _ => ?_) (fun c => absurd (by decide) c)
          have e_0 : (pfX2_release_a4_0 o0 p1) = o0 := by rw [pfX2_release_a4_0, if_neg c_1]
          have e_1 : (pfX2_release_a4_1 o1 p1) = o1 := by rw [pfX2_release_a4_1, if_neg c_2]
          have e_2 : (pfX2_release_a4_2 o2 p1) = o2 := by rw [pfX2_release_a4_2, if_neg c_3]
          have e_3 : (pfX2_release_a4_3 o3 p1) = (-1) := by rw [pfX2_release_a4_3, if_pos c_4]
          have hP9 := hP.sub (ws' := [(h, .inr (2, [.ref a0, .ref a1, .ref a2, .ref a3, .ref a4, .ref a5, .ref a6])), (a0, .inl (cI, 22, .inl (gl [m0, m1, m2, ((m3 + 1) &&& 15), (m4 + (pfX2_ofBuffer_g_r m5 (pfX2_putBuffer_g_a6_f fb p1 0 3) p1 7)), m5, (m6 - 1), m7, m8, m9, m10, m11, m12, m13, m14, m15, m16, m17, 0, 4, 0, 16]))), (a4, .inl (cI, 8, .inl (gl [o0, o1, o2, (-1), (-1), (-1), (-1), (-1)]))), (a5, .inl (cI, 5, .inl (gl [(-1), (-1), (-1), (-1), (-1)]))), (a6, .inl (cI, 4000, .inl (pfX2_putBuffer_g_a6_f fb p1 0 3)))]) [2, 3, 0, 1, 4] rfl
          have hD9 := hD.sub (ws' := [(h, .inr (2, [.ref a0, .ref a1, .ref a2, .ref a3, .ref a4, .ref a5, .ref a6])), (a0, .inl (cI, 22, .inl (gl [m0, m1, m2, ((m3 + 1) &&& 15), (m4 + (pfX2_ofBuffer_g_r m5 (pfX2_putBuffer_g_a6_f fb p1 0 3) p1 7)), m5, (m6 - 1), m7, m8, m9, m10, m11, m12, m13, m14, m15, m16, m17, 0, 4, 0, 16]))), (a4, .inl (cI, 8, .inl (gl [o0, o1, o2, (-1), (-1), (-1), (-1), (-1)]))), (a5, .inl (cI, 5, .inl (gl [(-1), (-1), (-1), (-1), (-1)]))), (a6, .inl (cI, 4000, .inl (pfX2_putBuffer_g_a6_f fb p1 0 3)))]) [2, 3, 0, 1, 4] (by decide) rfl
          exact W.vret hx hb hr (fun t ht hW => ⟨⟨(), rfl, trivial, by rw [ht, e_0, e_1, e_2, e_3]; exact hP9, va_K.moved hW.alike hK, (by rw [e_0, e_1, e_2, e_3]; exact hD9)⟩, hS.F ht⟩) hS.2.2 dX2_release_116
      · refine lv_aload_n hx hb dX2_release_73 rfl (lv_at hl 1 rfl) ?_
        refine va_get (D := (dC, dI)) (ci := 2) (v := .ref a4) (C := RX2) (T := TX2) (N := 7) hx hb hts hinX2 hown hK hP 2 rfl rfl 4 (by decide) k_1 (fun _ h9 => h9) rfl dX2_release_74 ?_
        refine lv_iload_n hx hb dX2_release_77 rfl (lv_at hl 0 rfl) ?_
        refine lv_iconst (v := (-1)) hx hb dX2_release_78 (by decide) ?_
        refine za_iast (f' := (gl [o0, o1, (-1), o3, (-1), (-1), (-1), (-1)])) hx hb hK hP hD hS 0 0 rfl rfl (zin tn_2 (Nat.le_of_ble_eq_true rfl)) (zup_gl tn_2 (Nat.le_of_ble_eq_true rfl) rfl) dX2_release_79 (fun H locs hP hD hS => ?_)
        have hP : va_P (dC, dI) vwCl [(a4, .inl (cI, 8, .inl (gl [o0, o1, (-1), o3, (-1), (-1), (-1), (-1)]))), (a5, .inl (cI, 5, .inl (gl [(-1), (-1), (-1), (-1), (-1)]))), (h, .inr (2, [.ref a0, .ref a1, .ref a2, .ref a3, .ref a4, .ref a5, .ref a6])), (a0, .inl (cI, 22, .inl (gl [m0, m1, m2, ((m3 + 1) &&& 15), (m4 + (pfX2_ofBuffer_g_r m5 (pfX2_putBuffer_g_a6_f fb p1 0 3) p1 7)), m5, (m6 - 1), m7, m8, m9, m10, m11, m12, m13, m14, m15, m16, m17, 0, 4, 0, 16]))), (a6, .inl (cI, 4000, .inl (pfX2_putBuffer_g_a6_f fb p1 0 3)))] H := hP
        have hD : va_D A [(a4, .inl (cI, 8, .inl (gl [o0, o1, (-1), o3, (-1), (-1), (-1), (-1)]))), (a5, .inl (cI, 5, .inl (gl [(-1), (-1), (-1), (-1), (-1)]))), (h, .inr (2, [.ref a0, .ref a1, .ref a2, .ref a3, .ref a4, .ref a5, .ref a6])), (a0, .inl (cI, 22, .inl (gl [m0, m1, m2, ((m3 + 1) &&& 15), (m4 + (pfX2_ofBuffer_g_r m5 (pfX2_putBuffer_g_a6_f fb p1 0 3) p1 7)), m5, (m6 - 1), m7, m8, m9, m10, m11, m12, m13, m14, m15, m16, m17, 0, 4, 0, 16]))), (a6, .inl (cI, 4000, .inl (pfX2_putBuffer_g_a6_f fb p1 0 3)))] := hD
        refine lv_iinc (v := 3) (lv' := [(2, .int 3), (0, .ref h), (1, .int p1)]) hx hb dX2_release_80 hl (k := 0) rfl (by decide) (by decide) rfl (fun ls hl => ?_)
        refine lv_goto (tgt := 57) hx hb dX2_release_83 (by decide) ?_
        refine lv_iload_n hx hb dX2_release_57 rfl (lv_at hl 0 rfl) ?_
        refine lv_bipush (v := 8) hx hb dX2_release_58 (by decide) ?_
        refine lv_icmp_ge (tgt := 86) hx hb dX2_release_60 (by decide) (fun c => absurd c (by decide)) (fun _ => ?_)
        refine lv_aload_n hx hb dX2_release_63 rfl (lv_at hl 1 rfl) ?_
        refine va_get (D := (dC, dI)) (ci := 2) (v := .ref a4) (C := RX2) (T := TX2) (N := 7) hx hb hts hinX2 hown hK hP 2 rfl rfl 4 (by decide) k_1 (fun _ h9 => h9) rfl dX2_release_64 ?_
        refine lv_iload_n hx hb dX2_release_67 rfl (lv_at hl 0 rfl) ?_
        refine za_iald (v := o3) hx hb hK hP 0 0 rfl rfl (zin tn_3 (Nat.le_of_ble_eq_true rfl)) (zrd _ tn_3 rfl) dX2_release_68 ?_
        refine lv_iload_n hx hb dX2_release_69 rfl (lv_at hl 2 rfl) ?_
        refine lv_icmp_ne (tgt := 80) hx hb dX2_release_70 (by decide) (fun c_5 => ?_) (fun c_5 => ?_)
        · refine lv_iinc (v := 4) (lv' := [(2, .int 4), (0, .ref h), (1, .int p1)]) hx hb dX2_release_80 hl (k := 0) rfl (by decide) (by decide) rfl (fun ls hl => ?_)
          refine lv_goto (tgt := 57) hx hb dX2_release_83 (by decide) ?_
          refine lv_iload_n hx hb dX2_release_57 rfl (lv_at hl 0 rfl) ?_
          refine lv_bipush (v := 8) hx hb dX2_release_58 (by decide) ?_
          refine lv_icmp_ge (tgt := 86) hx hb dX2_release_60 (by decide) (fun c => absurd c (by decide)) (fun _ => ?_)
          refine lv_aload_n hx hb dX2_release_63 rfl (lv_at hl 1 rfl) ?_
          refine va_get (D := (dC, dI)) (ci := 2) (v := .ref a4) (C := RX2) (T := TX2) (N := 7) hx hb hts hinX2 hown hK hP 2 rfl rfl 4 (by decide) k_1 (fun _ h9 => h9) rfl dX2_release_64 ?_
          refine lv_iload_n hx hb dX2_release_67 rfl (lv_at hl 0 rfl) ?_
          refine za_iald (v := (-1)) hx hb hK hP 0 0 rfl rfl (zin tn_4 (Nat.le_of_ble_eq_true rfl)) (zrd _ tn_4 rfl) dX2_release_68 ?_
          refine lv_iload_n hx hb dX2_release_69 rfl (lv_at hl 2 rfl) ?_
          refine lv_icmp_ne (tgt := 80) hx hb dX2_release_70 (by decide) (fun _ => ?_) (fun c => absurd c hp)
          refine lv_iinc (v := 5) (lv' := [(2, .int 5), (0, .ref h), (1, .int p1)]) hx hb dX2_release_80 hl (k := 0) rfl (by decide) (by decide) rfl (fun ls hl => ?_)
          refine lv_goto (tgt := 57) hx hb dX2_release_83 (by decide) ?_
          refine lv_iload_n hx hb dX2_release_57 rfl (lv_at hl 0 rfl) ?_
          refine lv_bipush (v := 8) hx hb dX2_release_58 (by decide) ?_
          refine lv_icmp_ge (tgt := 86) hx hb dX2_release_60 (by decide) (fun c => absurd c (by decide)) (fun _ => ?_)
          refine lv_aload_n hx hb dX2_release_63 rfl (lv_at hl 1 rfl) ?_
          refine va_get (D := (dC, dI)) (ci := 2) (v := .ref a4) (C := RX2) (T := TX2) (N := 7) hx hb hts hinX2 hown hK hP 2 rfl rfl 4 (by decide) k_1 (fun _ h9 => h9) rfl dX2_release_64 ?_
          refine lv_iload_n hx hb dX2_release_67 rfl (lv_at hl 0 rfl) ?_
          refine za_iald (v := (-1)) hx hb hK hP 0 0 rfl rfl (zin tn_5 (Nat.le_of_ble_eq_true rfl)) (zrd _ tn_5 rfl) dX2_release_68 ?_
          refine lv_iload_n hx hb dX2_release_69 rfl (lv_at hl 2 rfl) ?_
          refine lv_icmp_ne (tgt := 80) hx hb dX2_release_70 (by decide) (fun _ => ?_) (fun c => absurd c hp)
          refine lv_iinc (v := 6) (lv' := [(2, .int 6), (0, .ref h), (1, .int p1)]) hx hb dX2_release_80 hl (k := 0) rfl (by decide) (by decide) rfl (fun ls hl => ?_)
          refine lv_goto (tgt := 57) hx hb dX2_release_83 (by decide) ?_
          refine lv_iload_n hx hb dX2_release_57 rfl (lv_at hl 0 rfl) ?_
          refine lv_bipush (v := 8) hx hb dX2_release_58 (by decide) ?_
          refine lv_icmp_ge (tgt := 86) hx hb dX2_release_60 (by decide) (fun c => absurd c (by decide)) (fun _ => ?_)
          refine lv_aload_n hx hb dX2_release_63 rfl (lv_at hl 1 rfl) ?_
          refine va_get (D := (dC, dI)) (ci := 2) (v := .ref a4) (C := RX2) (T := TX2) (N := 7) hx hb hts hinX2 hown hK hP 2 rfl rfl 4 (by decide) k_1 (fun _ h9 => h9) rfl dX2_release_64 ?_
          refine lv_iload_n hx hb dX2_release_67 rfl (lv_at hl 0 rfl) ?_
          refine za_iald (v := (-1)) hx hb hK hP 0 0 rfl rfl (zin tn_6 (Nat.le_of_ble_eq_true rfl)) (zrd _ tn_6 rfl) dX2_release_68 ?_
          refine lv_iload_n hx hb dX2_release_69 rfl (lv_at hl 2 rfl) ?_
          refine lv_icmp_ne (tgt := 80) hx hb dX2_release_70 (by decide) (fun _ => ?_) (fun c => absurd c hp)
          refine lv_iinc (v := 7) (lv' := [(2, .int 7), (0, .ref h), (1, .int p1)]) hx hb dX2_release_80 hl (k := 0) rfl (by decide) (by decide) rfl (fun ls hl => ?_)
          refine lv_goto (tgt := 57) hx hb dX2_release_83 (by decide) ?_
          refine lv_iload_n hx hb dX2_release_57 rfl (lv_at hl 0 rfl) ?_
          refine lv_bipush (v := 8) hx hb dX2_release_58 (by decide) ?_
          refine lv_icmp_ge (tgt := 86) hx hb dX2_release_60 (by decide) (fun c => absurd c (by decide)) (fun _ => ?_)
          refine lv_aload_n hx hb dX2_release_63 rfl (lv_at hl 1 rfl) ?_
          refine va_get (D := (dC, dI)) (ci := 2) (v := .ref a4) (C := RX2) (T := TX2) (N := 7) hx hb hts hinX2 hown hK hP 2 rfl rfl 4 (by decide) k_1 (fun _ h9 => h9) rfl dX2_release_64 ?_
          refine lv_iload_n hx hb dX2_release_67 rfl (lv_at hl 0 rfl) ?_
          refine za_iald (v := (-1)) hx hb hK hP 0 0 rfl rfl (zin tn_7 (Nat.le_of_ble_eq_true rfl)) (zrd _ tn_7 rfl) dX2_release_68 ?_
          refine lv_iload_n hx hb dX2_release_69 rfl (lv_at hl 2 rfl) ?_
          refine lv_icmp_ne (tgt := 80) hx hb dX2_release_70 (by decide) (fun _ => ?_) (fun c => absurd c hp)
          refine lv_iinc (v := 8) (lv' := [(2, .int 8), (0, .ref h), (1, .int p1)]) hx hb dX2_release_80 hl (k := 0) rfl (by decide) (by decide) rfl (fun ls hl => ?_)
          refine lv_goto (tgt := 57) hx hb dX2_release_83 (by decide) ?_
          refine lv_iload_n hx hb dX2_release_57 rfl (lv_at hl 0 rfl) ?_
          refine lv_bipush (v := 8) hx hb dX2_release_58 (by decide) ?_
          refine lv_icmp_ge (tgt := 86) hx hb dX2_release_60 (by decide) (fun _ => ?_) (fun c => absurd (by decide) c)
          refine lv_iconst (v := 1) hx hb dX2_release_86 (by decide) ?_
          refine lv_istore_n (lv' := [(2, .int 1), (0, .ref h), (1, .int p1)]) hx hb dX2_release_87 rfl hl (by decide) rfl (fun ls hl => ?_)
          refine lv_iload_n hx hb dX2_release_88 rfl (lv_at hl 0 rfl) ?_
          refine lv_iconst (v := 5) hx hb dX2_release_89 (by decide) ?_
          refine lv_icmp_ge (tgt := 116) hx hb dX2_release_90 (by decide) (fun c => absurd c (by decide)) (fun _ => ?_)
          refine lv_aload_n hx hb dX2_release_93 rfl (lv_at hl 1 rfl) ?_
          refine va_get (D := (dC, dI)) (ci := 2) (v := .ref a5) (C := RX2) (T := TX2) (N := 7) hx hb hts hinX2 hown hK hP 2 rfl rfl 5 (by decide) k_2 (fun _ h9 => h9) rfl dX2_release_94 ?_
          refine lv_iload_n hx hb dX2_release_97 rfl (lv_at hl 0 rfl) ?_
          refine za_iald (v := (-1)) hx hb hK hP 1 0 rfl rfl (zin tn_1 (Nat.le_of_ble_eq_true rfl)) (zrd _ tn_1 rfl) dX2_release_98 ?_
          refine lv_iload_n hx hb dX2_release_99 rfl (lv_at hl 2 rfl) ?_
          refine lv_icmp_ne (tgt := 110) hx hb dX2_release_100 (by decide) (fun _ => ?_) (fun c => absurd c hp)
          refine lv_iinc (v := 2) (lv' := [(2, .int 2), (0, .ref h), (1, .int p1)]) hx hb dX2_release_110 hl (k := 0) rfl (by decide) (by decide) rfl (fun ls hl => ?_)
          refine lv_goto (tgt := 88) hx hb dX2_release_113 (by decide) ?_
          refine lv_iload_n hx hb dX2_release_88 rfl (lv_at hl 0 rfl) ?_
          refine lv_iconst (v := 5) hx hb dX2_release_89 (by decide) ?_
          refine lv_icmp_ge (tgt := 116) hx hb dX2_release_90 (by decide) (fun c => absurd c (by decide)) (fun _ => ?_)
          refine lv_aload_n hx hb dX2_release_93 rfl (lv_at hl 1 rfl) ?_
          refine va_get (D := (dC, dI)) (ci := 2) (v := .ref a5) (C := RX2) (T := TX2) (N := 7) hx hb hts hinX2 hown hK hP 2 rfl rfl 5 (by decide) k_2 (fun _ h9 => h9) rfl dX2_release_94 ?_
          refine lv_iload_n hx hb dX2_release_97 rfl (lv_at hl 0 rfl) ?_
          refine za_iald (v := (-1)) hx hb hK hP 1 0 rfl rfl (zin tn_2 (Nat.le_of_ble_eq_true rfl)) (zrd _ tn_2 rfl) dX2_release_98 ?_
          refine lv_iload_n hx hb dX2_release_99 rfl (lv_at hl 2 rfl) ?_
          refine lv_icmp_ne (tgt := 110) hx hb dX2_release_100 (by decide) (fun _ => ?_) (fun c => absurd c hp)
          refine lv_iinc (v := 3) (lv' := [(2, .int 3), (0, .ref h), (1, .int p1)]) hx hb dX2_release_110 hl (k := 0) rfl (by decide) (by decide) rfl (fun ls hl => ?_)
          refine lv_goto (tgt := 88) hx hb dX2_release_113 (by decide) ?_
          refine lv_iload_n hx hb dX2_release_88 rfl (lv_at hl 0 rfl) ?_
          refine lv_iconst (v := 5) hx hb dX2_release_89 (by decide) ?_
          refine lv_icmp_ge (tgt := 116) hx hb dX2_release_90 (by decide) (fun c => absurd c (by decide)) (fun _ => ?_)
          refine lv_aload_n hx hb dX2_release_93 rfl (lv_at hl 1 rfl) ?_
          refine va_get (D := (dC, dI)) (ci := 2) (v := .ref a5) (C := RX2) (T := TX2) (N := 7) hx hb hts hinX2 hown hK hP 2 rfl rfl 5 (by decide) k_2 (fun _ h9 => h9) rfl dX2_release_94 ?_
          refine lv_iload_n hx hb dX2_release_97 rfl (lv_at hl 0 rfl) ?_
          refine za_iald (v := (-1)) hx hb hK hP 1 0 rfl rfl (zin tn_3 (Nat.le_of_ble_eq_true rfl)) (zrd _ tn_3 rfl) dX2_release_98 ?_
          refine lv_iload_n hx hb dX2_release_99 rfl (lv_at hl 2 rfl) ?_
          refine lv_icmp_ne (tgt := 110) hx hb dX2_release_100 (by decide) (fun _ => ?_) (fun c => absurd c hp)
          refine lv_iinc (v := 4) (lv' := [(2, .int 4), (0, .ref h), (1, .int p1)]) hx hb dX2_release_110 hl (k := 0) rfl (by decide) (by decide) rfl (fun ls hl => ?_)
          refine lv_goto (tgt := 88) hx hb dX2_release_113 (by decide) ?_
          refine lv_iload_n hx hb dX2_release_88 rfl (lv_at hl 0 rfl) ?_
          refine lv_iconst (v := 5) hx hb dX2_release_89 (by decide) ?_
          refine lv_icmp_ge (tgt := 116) hx hb dX2_release_90 (by decide) (fun c => absurd c (by decide)) (fun _ => ?_)
          refine lv_aload_n hx hb dX2_release_93 rfl (lv_at hl 1 rfl) ?_
          refine va_get (D := (dC, dI)) (ci := 2) (v := .ref a5) (C := RX2) (T := TX2) (N := 7) hx hb hts hinX2 hown hK hP 2 rfl rfl 5 (by decide) k_2 (fun _ h9 => h9) rfl dX2_release_94 ?_
          refine lv_iload_n hx hb dX2_release_97 rfl (lv_at hl 0 rfl) ?_
          refine za_iald (v := (-1)) hx hb hK hP 1 0 rfl rfl (zin tn_4 (Nat.le_of_ble_eq_true rfl)) (zrd _ tn_4 rfl) dX2_release_98 ?_
          refine lv_iload_n hx hb dX2_release_99 rfl (lv_at hl 2 rfl) ?_
          refine lv_icmp_ne (tgt := 110) hx hb dX2_release_100 (by decide) (fun _ => ?_) (fun c => absurd c hp)
          refine lv_iinc (v := 5) (lv' := [(2, .int 5), (0, .ref h), (1, .int p1)]) hx hb dX2_release_110 hl (k := 0) rfl (by decide) (by decide) rfl (fun ls hl => ?_)
          refine lv_goto (tgt := 88) hx hb dX2_release_113 (by decide) ?_
          refine lv_iload_n hx hb dX2_release_88 rfl (lv_at hl 0 rfl) ?_
          refine lv_iconst (v := 5) hx hb dX2_release_89 (by decide) ?_
          refine lv_icmp_ge (tgt := 116) hx hb dX2_release_90 (by decide) (fun _ => ?_) (fun c => absurd (by decide) c)
          have e_0 : (pfX2_release_a4_0 o0 p1) = o0 := by rw [pfX2_release_a4_0, if_neg c_1]
          have e_1 : (pfX2_release_a4_1 o1 p1) = o1 := by rw [pfX2_release_a4_1, if_neg c_2]
          have e_2 : (pfX2_release_a4_2 o2 p1) = (-1) := by rw [pfX2_release_a4_2, if_pos c_3]
          have e_3 : (pfX2_release_a4_3 o3 p1) = o3 := by rw [pfX2_release_a4_3, if_neg c_5]
          have hP9 := hP.sub (ws' := [(h, .inr (2, [.ref a0, .ref a1, .ref a2, .ref a3, .ref a4, .ref a5, .ref a6])), (a0, .inl (cI, 22, .inl (gl [m0, m1, m2, ((m3 + 1) &&& 15), (m4 + (pfX2_ofBuffer_g_r m5 (pfX2_putBuffer_g_a6_f fb p1 0 3) p1 7)), m5, (m6 - 1), m7, m8, m9, m10, m11, m12, m13, m14, m15, m16, m17, 0, 4, 0, 16]))), (a4, .inl (cI, 8, .inl (gl [o0, o1, (-1), o3, (-1), (-1), (-1), (-1)]))), (a5, .inl (cI, 5, .inl (gl [(-1), (-1), (-1), (-1), (-1)]))), (a6, .inl (cI, 4000, .inl (pfX2_putBuffer_g_a6_f fb p1 0 3)))]) [2, 3, 0, 1, 4] rfl
          have hD9 := hD.sub (ws' := [(h, .inr (2, [.ref a0, .ref a1, .ref a2, .ref a3, .ref a4, .ref a5, .ref a6])), (a0, .inl (cI, 22, .inl (gl [m0, m1, m2, ((m3 + 1) &&& 15), (m4 + (pfX2_ofBuffer_g_r m5 (pfX2_putBuffer_g_a6_f fb p1 0 3) p1 7)), m5, (m6 - 1), m7, m8, m9, m10, m11, m12, m13, m14, m15, m16, m17, 0, 4, 0, 16]))), (a4, .inl (cI, 8, .inl (gl [o0, o1, (-1), o3, (-1), (-1), (-1), (-1)]))), (a5, .inl (cI, 5, .inl (gl [(-1), (-1), (-1), (-1), (-1)]))), (a6, .inl (cI, 4000, .inl (pfX2_putBuffer_g_a6_f fb p1 0 3)))]) [2, 3, 0, 1, 4] (by decide) rfl
          exact W.vret hx hb hr (fun t ht hW => ⟨⟨(), rfl, trivial, by rw [ht, e_0, e_1, e_2, e_3]; exact hP9, va_K.moved hW.alike hK, (by rw [e_0, e_1, e_2, e_3]; exact hD9)⟩, hS.F ht⟩) hS.2.2 dX2_release_116
        · refine lv_aload_n hx hb dX2_release_73 rfl (lv_at hl 1 rfl) ?_
          refine va_get (D := (dC, dI)) (ci := 2) (v := .ref a4) (C := RX2) (T := TX2) (N := 7) hx hb hts hinX2 hown hK hP 2 rfl rfl 4 (by decide) k_1 (fun _ h9 => h9) rfl dX2_release_74 ?_
          refine lv_iload_n hx hb dX2_release_77 rfl (lv_at hl 0 rfl) ?_
          refine lv_iconst (v := (-1)) hx hb dX2_release_78 (by decide) ?_
          refine za_iast (f' := (gl [o0, o1, (-1), (-1), (-1), (-1), (-1), (-1)])) hx hb hK hP hD hS 0 0 rfl rfl (zin tn_3 (Nat.le_of_ble_eq_true rfl)) (zup_gl tn_3 (Nat.le_of_ble_eq_true rfl) rfl) dX2_release_79 (fun H locs hP hD hS => ?_)
          have hP : va_P (dC, dI) vwCl [(a4, .inl (cI, 8, .inl (gl [o0, o1, (-1), (-1), (-1), (-1), (-1), (-1)]))), (a5, .inl (cI, 5, .inl (gl [(-1), (-1), (-1), (-1), (-1)]))), (h, .inr (2, [.ref a0, .ref a1, .ref a2, .ref a3, .ref a4, .ref a5, .ref a6])), (a0, .inl (cI, 22, .inl (gl [m0, m1, m2, ((m3 + 1) &&& 15), (m4 + (pfX2_ofBuffer_g_r m5 (pfX2_putBuffer_g_a6_f fb p1 0 3) p1 7)), m5, (m6 - 1), m7, m8, m9, m10, m11, m12, m13, m14, m15, m16, m17, 0, 4, 0, 16]))), (a6, .inl (cI, 4000, .inl (pfX2_putBuffer_g_a6_f fb p1 0 3)))] H := hP
          have hD : va_D A [(a4, .inl (cI, 8, .inl (gl [o0, o1, (-1), (-1), (-1), (-1), (-1), (-1)]))), (a5, .inl (cI, 5, .inl (gl [(-1), (-1), (-1), (-1), (-1)]))), (h, .inr (2, [.ref a0, .ref a1, .ref a2, .ref a3, .ref a4, .ref a5, .ref a6])), (a0, .inl (cI, 22, .inl (gl [m0, m1, m2, ((m3 + 1) &&& 15), (m4 + (pfX2_ofBuffer_g_r m5 (pfX2_putBuffer_g_a6_f fb p1 0 3) p1 7)), m5, (m6 - 1), m7, m8, m9, m10, m11, m12, m13, m14, m15, m16, m17, 0, 4, 0, 16]))), (a6, .inl (cI, 4000, .inl (pfX2_putBuffer_g_a6_f fb p1 0 3)))] := hD
          refine lv_iinc (v := 4) (lv' := [(2, .int 4), (0, .ref h), (1, .int p1)]) hx hb dX2_release_80 hl (k := 0) rfl (by decide) (by decide) rfl (fun ls hl => ?_)
          refine lv_goto (tgt := 57) hx hb dX2_release_83 (by decide) ?_
          refine lv_iload_n hx hb dX2_release_57 rfl (lv_at hl 0 rfl) ?_
          refine lv_bipush (v := 8) hx hb dX2_release_58 (by decide) ?_
          refine lv_icmp_ge (tgt := 86) hx hb dX2_release_60 (by decide) (fun c => absurd c (by decide)) (fun _ => ?_)
          refine lv_aload_n hx hb dX2_release_63 rfl (lv_at hl 1 rfl) ?_
          refine va_get (D := (dC, dI)) (ci := 2) (v := .ref a4) (C := RX2) (T := TX2) (N := 7) hx hb hts hinX2 hown hK hP 2 rfl rfl 4 (by decide) k_1 (fun _ h9 => h9) rfl dX2_release_64 ?_
          refine lv_iload_n hx hb dX2_release_67 rfl (lv_at hl 0 rfl) ?_
          refine za_iald (v := (-1)) hx hb hK hP 0 0 rfl rfl (zin tn_4 (Nat.le_of_ble_eq_true rfl)) (zrd _ tn_4 rfl) dX2_release_68 ?_
          refine lv_iload_n hx hb dX2_release_69 rfl (lv_at hl 2 rfl) ?_
          refine lv_icmp_ne (tgt := 80) hx hb dX2_release_70 (by decide) (fun _ => ?_) (fun c => absurd c hp)
          refine lv_iinc (v := 5) (lv' := [(2, .int 5), (0, .ref h), (1, .int p1)]) hx hb dX2_release_80 hl (k := 0) rfl (by decide) (by decide) rfl (fun ls hl => ?_)
          refine lv_goto (tgt := 57) hx hb dX2_release_83 (by decide) ?_
          refine lv_iload_n hx hb dX2_release_57 rfl (lv_at hl 0 rfl) ?_
          refine lv_bipush (v := 8) hx hb dX2_release_58 (by decide) ?_
          refine lv_icmp_ge (tgt := 86) hx hb dX2_release_60 (by decide) (fun c => absurd c (by decide)) (fun _ => ?_)
          refine lv_aload_n hx hb dX2_release_63 rfl (lv_at hl 1 rfl) ?_
          refine va_get (D := (dC, dI)) (ci := 2) (v := .ref a4) (C := RX2) (T := TX2) (N := 7) hx hb hts hinX2 hown hK hP 2 rfl rfl 4 (by decide) k_1 (fun _ h9 => h9) rfl dX2_release_64 ?_
          refine lv_iload_n hx hb dX2_release_67 rfl (lv_at hl 0 rfl) ?_
          refine za_iald (v := (-1)) hx hb hK hP 0 0 rfl rfl (zin tn_5 (Nat.le_of_ble_eq_true rfl)) (zrd _ tn_5 rfl) dX2_release_68 ?_
          refine lv_iload_n hx hb dX2_release_69 rfl (lv_at hl 2 rfl) ?_
          refine lv_icmp_ne (tgt := 80) hx hb dX2_release_70 (by decide) (fun _ => ?_) (fun c => absurd c hp)
          refine lv_iinc (v := 6) (lv' := [(2, .int 6), (0, .ref h), (1, .int p1)]) hx hb dX2_release_80 hl (k := 0) rfl (by decide) (by decide) rfl (fun ls hl => ?_)
          refine lv_goto (tgt := 57) hx hb dX2_release_83 (by decide) ?_
          refine lv_iload_n hx hb dX2_release_57 rfl (lv_at hl 0 rfl) ?_
          refine lv_bipush (v := 8) hx hb dX2_release_58 (by decide) ?_
          refine lv_icmp_ge (tgt := 86) hx hb dX2_release_60 (by decide) (fun c => absurd c (by decide)) (fun _ => ?_)
          refine lv_aload_n hx hb dX2_release_63 rfl (lv_at hl 1 rfl) ?_
          refine va_get (D := (dC, dI)) (ci := 2) (v := .ref a4) (C := RX2) (T := TX2) (N := 7) hx hb hts hinX2 hown hK hP 2 rfl rfl 4 (by decide) k_1 (fun _ h9 => h9) rfl dX2_release_64 ?_
          refine lv_iload_n hx hb dX2_release_67 rfl (lv_at hl 0 rfl) ?_
          refine za_iald (v := (-1)) hx hb hK hP 0 0 rfl rfl (zin tn_6 (Nat.le_of_ble_eq_true rfl)) (zrd _ tn_6 rfl) dX2_release_68 ?_
          refine lv_iload_n hx hb dX2_release_69 rfl (lv_at hl 2 rfl) ?_
          refine lv_icmp_ne (tgt := 80) hx hb dX2_release_70 (by decide) (fun _ => ?_) (fun c => absurd c hp)
          refine lv_iinc (v := 7) (lv' := [(2, .int 7), (0, .ref h), (1, .int p1)]) hx hb dX2_release_80 hl (k := 0) rfl (by decide) (by decide) rfl (fun ls hl => ?_)
          refine lv_goto (tgt := 57) hx hb dX2_release_83 (by decide) ?_
          refine lv_iload_n hx hb dX2_release_57 rfl (lv_at hl 0 rfl) ?_
          refine lv_bipush (v := 8) hx hb dX2_release_58 (by decide) ?_
          refine lv_icmp_ge (tgt := 86) hx hb dX2_release_60 (by decide) (fun c => absurd c (by decide)) (fun _ => ?_)
          refine lv_aload_n hx hb dX2_release_63 rfl (lv_at hl 1 rfl) ?_
          refine va_get (D := (dC, dI)) (ci := 2) (v := .ref a4) (C := RX2) (T := TX2) (N := 7) hx hb hts hinX2 hown hK hP 2 rfl rfl 4 (by decide) k_1 (fun _ h9 => h9) rfl dX2_release_64 ?_
          refine lv_iload_n hx hb dX2_release_67 rfl (lv_at hl 0 rfl) ?_
          refine za_iald (v := (-1)) hx hb hK hP 0 0 rfl rfl (zin tn_7 (Nat.le_of_ble_eq_true rfl)) (zrd _ tn_7 rfl) dX2_release_68 ?_
          refine lv_iload_n hx hb dX2_release_69 rfl (lv_at hl 2 rfl) ?_
          refine lv_icmp_ne (tgt := 80) hx hb dX2_release_70 (by decide) (fun _ => ?_) (fun c => absurd c hp)
          refine lv_iinc (v := 8) (lv' := [(2, .int 8), (0, .ref h), (1, .int p1)]) hx hb dX2_release_80 hl (k := 0) rfl (by decide) (by decide) rfl (fun ls hl => ?_)
          refine lv_goto (tgt := 57) hx hb dX2_release_83 (by decide) ?_
          refine lv_iload_n hx hb dX2_release_57 rfl (lv_at hl 0 rfl) ?_
          refine lv_bipush (v := 8) hx hb dX2_release_58 (by decide) ?_
          refine lv_icmp_ge (tgt := 86) hx hb dX2_release_60 (by decide) (fun _ => ?_) (fun c => absurd (by decide) c)
          refine lv_iconst (v := 1) hx hb dX2_release_86 (by decide) ?_
          refine lv_istore_n (lv' := [(2, .int 1), (0, .ref h), (1, .int p1)]) hx hb dX2_release_87 rfl hl (by decide) rfl (fun ls hl => ?_)
          refine lv_iload_n hx hb dX2_release_88 rfl (lv_at hl 0 rfl) ?_
          refine lv_iconst (v := 5) hx hb dX2_release_89 (by decide) ?_
          refine lv_icmp_ge (tgt := 116) hx hb dX2_release_90 (by decide) (fun c => absurd c (by decide)) (fun _ => ?_)
          refine lv_aload_n hx hb dX2_release_93 rfl (lv_at hl 1 rfl) ?_
          refine va_get (D := (dC, dI)) (ci := 2) (v := .ref a5) (C := RX2) (T := TX2) (N := 7) hx hb hts hinX2 hown hK hP 2 rfl rfl 5 (by decide) k_2 (fun _ h9 => h9) rfl dX2_release_94 ?_
          refine lv_iload_n hx hb dX2_release_97 rfl (lv_at hl 0 rfl) ?_
          refine za_iald (v := (-1)) hx hb hK hP 1 0 rfl rfl (zin tn_1 (Nat.le_of_ble_eq_true rfl)) (zrd _ tn_1 rfl) dX2_release_98 ?_
          refine lv_iload_n hx hb dX2_release_99 rfl (lv_at hl 2 rfl) ?_
          refine lv_icmp_ne (tgt := 110) hx hb dX2_release_100 (by decide) (fun _ => ?_) (fun c => absurd c hp)
          refine lv_iinc (v := 2) (lv' := [(2, .int 2), (0, .ref h), (1, .int p1)]) hx hb dX2_release_110 hl (k := 0) rfl (by decide) (by decide) rfl (fun ls hl => ?_)
          refine lv_goto (tgt := 88) hx hb dX2_release_113 (by decide) ?_
          refine lv_iload_n hx hb dX2_release_88 rfl (lv_at hl 0 rfl) ?_
          refine lv_iconst (v := 5) hx hb dX2_release_89 (by decide) ?_
          refine lv_icmp_ge (tgt := 116) hx hb dX2_release_90 (by decide) (fun c => absurd c (by decide)) (fun _ => ?_)
          refine lv_aload_n hx hb dX2_release_93 rfl (lv_at hl 1 rfl) ?_
          refine va_get (D := (dC, dI)) (ci := 2) (v := .ref a5) (C := RX2) (T := TX2) (N := 7) hx hb hts hinX2 hown hK hP 2 rfl rfl 5 (by decide) k_2 (fun _ h9 => h9) rfl dX2_release_94 ?_
          refine lv_iload_n hx hb dX2_release_97 rfl (lv_at hl 0 rfl) ?_
          refine za_iald (v := (-1)) hx hb hK hP 1 0 rfl rfl (zin tn_2 (Nat.le_of_ble_eq_true rfl)) (zrd _ tn_2 rfl) dX2_release_98 ?_
          refine lv_iload_n hx hb dX2_release_99 rfl (lv_at hl 2 rfl) ?_
          refine lv_icmp_ne (tgt := 110) hx hb dX2_release_100 (by decide) (fun _ => ?_) (fun c => absurd c hp)
          refine lv_iinc (v := 3) (lv' := [(2, .int 3), (0, .ref h), (1, .int p1)]) hx hb dX2_release_110 hl (k := 0) rfl (by decide) (by decide) rfl (fun ls hl => ?_)
          refine lv_goto (tgt := 88) hx hb dX2_release_113 (by decide) ?_
          refine lv_iload_n hx hb dX2_release_88 rfl (lv_at hl 0 rfl) ?_
          refine lv_iconst (v := 5) hx hb dX2_release_89 (by decide) ?_
          refine lv_icmp_ge (tgt := 116) hx hb dX2_release_90 (by decide) (fun c => absurd c (by decide)) (fun _ => ?_)
          refine lv_aload_n hx hb dX2_release_93 rfl (lv_at hl 1 rfl) ?_
          refine va_get (D := (dC, dI)) (ci := 2) (v := .ref a5) (C := RX2) (T := TX2) (N := 7) hx hb hts hinX2 hown hK hP 2 rfl rfl 5 (by decide) k_2 (fun _ h9 => h9) rfl dX2_release_94 ?_
          refine lv_iload_n hx hb dX2_release_97 rfl (lv_at hl 0 rfl) ?_
          refine za_iald (v := (-1)) hx hb hK hP 1 0 rfl rfl (zin tn_3 (Nat.le_of_ble_eq_true rfl)) (zrd _ tn_3 rfl) dX2_release_98 ?_
          refine lv_iload_n hx hb dX2_release_99 rfl (lv_at hl 2 rfl) ?_
          refine lv_icmp_ne (tgt := 110) hx hb dX2_release_100 (by decide) (fun _ => ?_) (fun c => absurd c hp)
          refine lv_iinc (v := 4) (lv' := [(2, .int 4), (0, .ref h), (1, .int p1)]) hx hb dX2_release_110 hl (k := 0) rfl (by decide) (by decide) rfl (fun ls hl => ?_)
          refine lv_goto (tgt := 88) hx hb dX2_release_113 (by decide) ?_
          refine lv_iload_n hx hb dX2_release_88 rfl (lv_at hl 0 rfl) ?_
          refine lv_iconst (v := 5) hx hb dX2_release_89 (by decide) ?_
          refine lv_icmp_ge (tgt := 116) hx hb dX2_release_90 (by decide) (fun c => absurd c (by decide)) (fun _ => ?_)
          refine lv_aload_n hx hb dX2_release_93 rfl (lv_at hl 1 rfl) ?_
          refine va_get (D := (dC, dI)) (ci := 2) (v := .ref a5) (C := RX2) (T := TX2) (N := 7) hx hb hts hinX2 hown hK hP 2 rfl rfl 5 (by decide) k_2 (fun _ h9 => h9) rfl dX2_release_94 ?_
          refine lv_iload_n hx hb dX2_release_97 rfl (lv_at hl 0 rfl) ?_
          refine za_iald (v := (-1)) hx hb hK hP 1 0 rfl rfl (zin tn_4 (Nat.le_of_ble_eq_true rfl)) (zrd _ tn_4 rfl) dX2_release_98 ?_
          refine lv_iload_n hx hb dX2_release_99 rfl (lv_at hl 2 rfl) ?_
          refine lv_icmp_ne (tgt := 110) hx hb dX2_release_100 (by decide) (fun _ => ?_) (fun c => absurd c hp)
          refine lv_iinc (v := 5) (lv' := [(2, .int 5), (0, .ref h), (1, .int p1)]) hx hb dX2_release_110 hl (k := 0) rfl (by decide) (by decide) rfl (fun ls hl => ?_)
          refine lv_goto (tgt := 88) hx hb dX2_release_113 (by decide) ?_
          refine lv_iload_n hx hb dX2_release_88 rfl (lv_at hl 0 rfl) ?_
          refine lv_iconst (v := 5) hx hb dX2_release_89 (by decide) ?_
          refine lv_icmp_ge (tgt := 116) hx hb dX2_release_90 (by decide) (fun _ => ?_) (fun c => absurd (by decide) c)
          have e_0 : (pfX2_release_a4_0 o0 p1) = o0 := by rw [pfX2_release_a4_0, if_neg c_1]
          have e_1 : (pfX2_release_a4_1 o1 p1) = o1 := by rw [pfX2_release_a4_1, if_neg c_2]
          have e_2 : (pfX2_release_a4_2 o2 p1) = (-1) := by rw [pfX2_release_a4_2, if_pos c_3]
          have e_3 : (pfX2_release_a4_3 o3 p1) = (-1) := by rw [pfX2_release_a4_3, if_pos c_5]
          have hP9 := hP.sub (ws' := [(h, .inr (2, [.ref a0, .ref a1, .ref a2, .ref a3, .ref a4, .ref a5, .ref a6])), (a0, .inl (cI, 22, .inl (gl [m0, m1, m2, ((m3 + 1) &&& 15), (m4 + (pfX2_ofBuffer_g_r m5 (pfX2_putBuffer_g_a6_f fb p1 0 3) p1 7)), m5, (m6 - 1), m7, m8, m9, m10, m11, m12, m13, m14, m15, m16, m17, 0, 4, 0, 16]))), (a4, .inl (cI, 8, .inl (gl [o0, o1, (-1), (-1), (-1), (-1), (-1), (-1)]))), (a5, .inl (cI, 5, .inl (gl [(-1), (-1), (-1), (-1), (-1)]))), (a6, .inl (cI, 4000, .inl (pfX2_putBuffer_g_a6_f fb p1 0 3)))]) [2, 3, 0, 1, 4] rfl
          have hD9 := hD.sub (ws' := [(h, .inr (2, [.ref a0, .ref a1, .ref a2, .ref a3, .ref a4, .ref a5, .ref a6])), (a0, .inl (cI, 22, .inl (gl [m0, m1, m2, ((m3 + 1) &&& 15), (m4 + (pfX2_ofBuffer_g_r m5 (pfX2_putBuffer_g_a6_f fb p1 0 3) p1 7)), m5, (m6 - 1), m7, m8, m9, m10, m11, m12, m13, m14, m15, m16, m17, 0, 4, 0, 16]))), (a4, .inl (cI, 8, .inl (gl [o0, o1, (-1), (-1), (-1), (-1), (-1), (-1)]))), (a5, .inl (cI, 5, .inl (gl [(-1), (-1), (-1), (-1), (-1)]))), (a6, .inl (cI, 4000, .inl (pfX2_putBuffer_g_a6_f fb p1 0 3)))]) [2, 3, 0, 1, 4] (by decide) rfl
          exact W.vret hx hb hr (fun t ht hW => ⟨⟨(), rfl, trivial, by rw [ht, e_0, e_1, e_2, e_3]; exact hP9, va_K.moved hW.alike hK, (by rw [e_0, e_1, e_2, e_3]; exact hD9)⟩, hS.F ht⟩) hS.2.2 dX2_release_116
    · refine lv_aload_n hx hb dX2_release_73 rfl (lv_at hl 1 rfl) ?_
      refine va_get (D := (dC, dI)) (ci := 2) (v := .ref a4) (C := RX2) (T := TX2) (N := 7) hx hb hts hinX2 hown hK hP 2 rfl rfl 4 (by decide) k_1 (fun _ h9 => h9) rfl dX2_release_74 ?_
      refine lv_iload_n hx hb dX2_release_77 rfl (lv_at hl 0 rfl) ?_
      refine lv_iconst (v := (-1)) hx hb dX2_release_78 (by decide) ?_
      refine za_iast (f' := (gl [o0, (-1), o2, o3, (-1), (-1), (-1), (-1)])) hx hb hK hP hD hS 0 0 rfl rfl (zin tn_1 (Nat.le_of_ble_eq_true rfl)) (zup_gl tn_1 (Nat.le_of_ble_eq_true rfl) rfl) dX2_release_79 (fun H locs hP hD hS => ?_)
      have hP : va_P (dC, dI) vwCl [(a4, .inl (cI, 8, .inl (gl [o0, (-1), o2, o3, (-1), (-1), (-1), (-1)]))), (a5, .inl (cI, 5, .inl (gl [(-1), (-1), (-1), (-1), (-1)]))), (h, .inr (2, [.ref a0, .ref a1, .ref a2, .ref a3, .ref a4, .ref a5, .ref a6])), (a0, .inl (cI, 22, .inl (gl [m0, m1, m2, ((m3 + 1) &&& 15), (m4 + (pfX2_ofBuffer_g_r m5 (pfX2_putBuffer_g_a6_f fb p1 0 3) p1 7)), m5, (m6 - 1), m7, m8, m9, m10, m11, m12, m13, m14, m15, m16, m17, 0, 4, 0, 16]))), (a6, .inl (cI, 4000, .inl (pfX2_putBuffer_g_a6_f fb p1 0 3)))] H := hP
      have hD : va_D A [(a4, .inl (cI, 8, .inl (gl [o0, (-1), o2, o3, (-1), (-1), (-1), (-1)]))), (a5, .inl (cI, 5, .inl (gl [(-1), (-1), (-1), (-1), (-1)]))), (h, .inr (2, [.ref a0, .ref a1, .ref a2, .ref a3, .ref a4, .ref a5, .ref a6])), (a0, .inl (cI, 22, .inl (gl [m0, m1, m2, ((m3 + 1) &&& 15), (m4 + (pfX2_ofBuffer_g_r m5 (pfX2_putBuffer_g_a6_f fb p1 0 3) p1 7)), m5, (m6 - 1), m7, m8, m9, m10, m11, m12, m13, m14, m15, m16, m17, 0, 4, 0, 16]))), (a6, .inl (cI, 4000, .inl (pfX2_putBuffer_g_a6_f fb p1 0 3)))] := hD
      refine lv_iinc (v := 2) (lv' := [(2, .int 2), (0, .ref h), (1, .int p1)]) hx hb dX2_release_80 hl (k := 0) rfl (by decide) (by decide) rfl (fun ls hl => ?_)
      refine lv_goto (tgt := 57) hx hb dX2_release_83 (by decide) ?_
      refine lv_iload_n hx hb dX2_release_57 rfl (lv_at hl 0 rfl) ?_
      refine lv_bipush (v := 8) hx hb dX2_release_58 (by decide) ?_
      refine lv_icmp_ge (tgt := 86) hx hb dX2_release_60 (by decide) (fun c => absurd c (by decide)) (fun _ => ?_)
      refine lv_aload_n hx hb dX2_release_63 rfl (lv_at hl 1 rfl) ?_
      refine va_get (D := (dC, dI)) (ci := 2) (v := .ref a4) (C := RX2) (T := TX2) (N := 7) hx hb hts hinX2 hown hK hP 2 rfl rfl 4 (by decide) k_1 (fun _ h9 => h9) rfl dX2_release_64 ?_
      refine lv_iload_n hx hb dX2_release_67 rfl (lv_at hl 0 rfl) ?_
      refine za_iald (v := o2) hx hb hK hP 0 0 rfl rfl (zin tn_2 (Nat.le_of_ble_eq_true rfl)) (zrd _ tn_2 rfl) dX2_release_68 ?_
      refine lv_iload_n hx hb dX2_release_69 rfl (lv_at hl 2 rfl) ?_
      refine lv_icmp_ne (tgt := 80) hx hb dX2_release_70 (by decide) (fun c_6 => ?_) (fun c_6 => ?_)
      · refine lv_iinc (v := 3) (lv' := [(2, .int 3), (0, .ref h), (1, .int p1)]) hx hb dX2_release_80 hl (k := 0) rfl (by decide) (by decide) rfl (fun ls hl => ?_)
        refine lv_goto (tgt := 57) hx hb dX2_release_83 (by decide) ?_
        refine lv_iload_n hx hb dX2_release_57 rfl (lv_at hl 0 rfl) ?_
        refine lv_bipush (v := 8) hx hb dX2_release_58 (by decide) ?_
        refine lv_icmp_ge (tgt := 86) hx hb dX2_release_60 (by decide) (fun c => absurd c (by decide)) (fun _ => ?_)
        refine lv_aload_n hx hb dX2_release_63 rfl (lv_at hl 1 rfl) ?_
        refine va_get (D := (dC, dI)) (ci := 2) (v := .ref a4) (C := RX2) (T := TX2) (N := 7) hx hb hts hinX2 hown hK hP 2 rfl rfl 4 (by decide) k_1 (fun _ h9 => h9) rfl dX2_release_64 ?_
        refine lv_iload_n hx hb dX2_release_67 rfl (lv_at hl 0 rfl) ?_
        refine za_iald (v := o3) hx hb hK hP 0 0 rfl rfl (zin tn_3 (Nat.le_of_ble_eq_true rfl)) (zrd _ tn_3 rfl) dX2_release_68 ?_
        refine lv_iload_n hx hb dX2_release_69 rfl (lv_at hl 2 rfl) ?_
        refine lv_icmp_ne (tgt := 80) hx hb dX2_release_70 (by decide) (fun c_7 => ?_) (fun c_7 => ?_)
        · refine lv_iinc (v := 4) (lv' := [(2, .int 4), (0, .ref h), (1, .int p1)]) hx hb dX2_release_80 hl (k := 0) rfl (by decide) (by decide) rfl (fun ls hl => ?_)
          refine lv_goto (tgt := 57) hx hb dX2_release_83 (by decide) ?_
          refine lv_iload_n hx hb dX2_release_57 rfl (lv_at hl 0 rfl) ?_
          refine lv_bipush (v := 8) hx hb dX2_release_58 (by decide) ?_
          refine lv_icmp_ge (tgt := 86) hx hb dX2_release_60 (by decide) (fun c => absurd c (by decide)) (fun _ => ?_)
          refine lv_aload_n hx hb dX2_release_63 rfl (lv_at hl 1 rfl) ?_
          refine va_get (D := (dC, dI)) (ci := 2) (v := .ref a4) (C := RX2) (T := TX2) (N := 7) hx hb hts hinX2 hown hK hP 2 rfl rfl 4 (by decide) k_1 (fun _ h9 => h9) rfl dX2_release_64 ?_
          refine lv_iload_n hx hb dX2_release_67 rfl (lv_at hl 0 rfl) ?_
          refine za_iald (v := (-1)) hx hb hK hP 0 0 rfl rfl (zin tn_4 (Nat.le_of_ble_eq_true rfl)) (zrd _ tn_4 rfl) dX2_release_68 ?_
          refine lv_iload_n hx hb dX2_release_69 rfl (lv_at hl 2 rfl) ?_
          refine lv_icmp_ne (tgt := 80) hx hb dX2_release_70 (by decide) (fun _ => ?_) (fun c => absurd c hp)
          refine lv_iinc (v := 5) (lv' := [(2, .int 5), (0, .ref h), (1, .int p1)]) hx hb dX2_release_80 hl (k := 0) rfl (by decide) (by decide) rfl (fun ls hl => ?_)
          refine lv_goto (tgt := 57) hx hb dX2_release_83 (by decide) ?_
          refine lv_iload_n hx hb dX2_release_57 rfl (lv_at hl 0 rfl) ?_
          refine lv_bipush (v := 8) hx hb dX2_release_58 (by decide) ?_
          refine lv_icmp_ge (tgt := 86) hx hb dX2_release_60 (by decide) (fun c => absurd c (by decide)) (fun _ => ?_)
          refine lv_aload_n hx hb dX2_release_63 rfl (lv_at hl 1 rfl) ?_
          refine va_get (D := (dC, dI)) (ci := 2) (v := .ref a4) (C := RX2) (T := TX2) (N := 7) hx hb hts hinX2 hown hK hP 2 rfl rfl 4 (by decide) k_1 (fun _ h9 => h9) rfl dX2_release_64 ?_
          refine lv_iload_n hx hb dX2_release_67 rfl (lv_at hl 0 rfl) ?_
          refine za_iald (v := (-1)) hx hb hK hP 0 0 rfl rfl (zin tn_5 (Nat.le_of_ble_eq_true rfl)) (zrd _ tn_5 rfl) dX2_release_68 ?_
          refine lv_iload_n hx hb dX2_release_69 rfl (lv_at hl 2 rfl) ?_
          refine lv_icmp_ne (tgt := 80) hx hb dX2_release_70 (by decide) (fun _ => ?_) (fun c => absurd c hp)
          refine lv_iinc (v := 6) (lv' := [(2, .int 6), (0, .ref h), (1, .int p1)]) hx hb dX2_release_80 hl (k := 0) rfl (by decide) (by decide) rfl (fun ls hl => ?_)
          refine lv_goto (tgt := 57) hx hb dX2_release_83 (by decide) ?_
          refine lv_iload_n hx hb dX2_release_57 rfl (lv_at hl 0 rfl) ?_
          refine lv_bipush (v := 8) hx hb dX2_release_58 (by decide) ?_
          refine lv_icmp_ge (tgt := 86) hx hb dX2_release_60 (by decide) (fun c => absurd c (by decide)) (fun _ => ?_)
          refine lv_aload_n hx hb dX2_release_63 rfl (lv_at hl 1 rfl) ?_
          refine va_get (D := (dC, dI)) (ci := 2) (v := .ref a4) (C := RX2) (T := TX2) (N := 7) hx hb hts hinX2 hown hK hP 2 rfl rfl 4 (by decide) k_1 (fun _ h9 => h9) rfl dX2_release_64 ?_
          refine lv_iload_n hx hb dX2_release_67 rfl (lv_at hl 0 rfl) ?_
          refine za_iald (v := (-1)) hx hb hK hP 0 0 rfl rfl (zin tn_6 (Nat.le_of_ble_eq_true rfl)) (zrd _ tn_6 rfl) dX2_release_68 ?_
          refine lv_iload_n hx hb dX2_release_69 rfl (lv_at hl 2 rfl) ?_
          refine lv_icmp_ne (tgt := 80) hx hb dX2_release_70 (by decide) (fun _ => ?_) (fun c => absurd c hp)
          refine lv_iinc (v := 7) (lv' := [(2, .int 7), (0, .ref h), (1, .int p1)]) hx hb dX2_release_80 hl (k := 0) rfl (by decide) (by decide) rfl (fun ls hl => ?_)
          refine lv_goto (tgt := 57) hx hb dX2_release_83 (by decide) ?_
          refine lv_iload_n hx hb dX2_release_57 rfl (lv_at hl 0 rfl) ?_
          refine lv_bipush (v := 8) hx hb dX2_release_58 (by decide) ?_
          refine lv_icmp_ge (tgt := 86) hx hb dX2_release_60 (by decide) (fun c => absurd c (by decide)) (fun _ => ?_)
          refine lv_aload_n hx hb dX2_release_63 rfl (lv_at hl 1 rfl) ?_
          refine va_get (D := (dC, dI)) (ci := 2) (v := .ref a4) (C := RX2) (T := TX2) (N := 7) hx hb hts hinX2 hown hK hP 2 rfl rfl 4 (by decide) k_1 (fun _ h9 => h9) rfl dX2_release_64 ?_
          refine lv_iload_n hx hb dX2_release_67 rfl (lv_at hl 0 rfl) ?_
          refine za_iald (v := (-1)) hx hb hK hP 0 0 rfl rfl (zin tn_7 (Nat.le_of_ble_eq_true rfl)) (zrd _ tn_7 rfl) dX2_release_68 ?_
          refine lv_iload_n hx hb dX2_release_69 rfl (lv_at hl 2 rfl) ?_
          refine lv_icmp_ne (tgt := 80) hx hb dX2_release_70 (by decide) (fun _ => ?_) (fun c => absurd c hp)
          refine lv_iinc (v := 8) (lv' := [(2, .int 8), (0, .ref h), (1, .int p1)]) hx hb dX2_release_80 hl (k := 0) rfl (by decide) (by decide) rfl (fun ls hl => ?_)
          refine lv_goto (tgt := 57) hx hb dX2_release_83 (by decide) ?_
          refine lv_iload_n hx hb dX2_release_57 rfl (lv_at hl 0 rfl) ?_
          refine lv_bipush (v := 8) hx hb dX2_release_58 (by decide) ?_
          refine lv_icmp_ge (tgt := 86) hx hb dX2_release_60 (by decide) (fun _ => ?_) (fun c => absurd (by decide) c)
          refine lv_iconst (v := 1) hx hb dX2_release_86 (by decide) ?_
          refine lv_istore_n (lv' := [(2, .int 1), (0, .ref h), (1, .int p1)]) hx hb dX2_release_87 rfl hl (by decide) rfl (fun ls hl => ?_)
          refine lv_iload_n hx hb dX2_release_88 rfl (lv_at hl 0 rfl) ?_
          refine lv_iconst (v := 5) hx hb dX2_release_89 (by decide) ?_
          refine lv_icmp_ge (tgt := 116) hx hb dX2_release_90 (by decide) (fun c => absurd c (by decide)) (fun _ => ?_)
          refine lv_aload_n hx hb dX2_release_93 rfl (lv_at hl 1 rfl) ?_
          refine va_get (D := (dC, dI)) (ci := 2) (v := .ref a5) (C := RX2) (T := TX2) (N := 7) hx hb hts hinX2 hown hK hP 2 rfl rfl 5 (by decide) k_2 (fun _ h9 => h9) rfl dX2_release_94 ?_
          refine lv_iload_n hx hb dX2_release_97 rfl (lv_at hl 0 rfl) ?_
          refine za_iald (v := (-1)) hx hb hK hP 1 0 rfl rfl (zin tn_1 (Nat.le_of_ble_eq_true rfl)) (zrd _ tn_1 rfl) dX2_release_98 ?_
          refine lv_iload_n hx hb dX2_release_99 rfl (lv_at hl 2 rfl) ?_
          refine lv_icmp_ne (tgt := 110) hx hb dX2_release_100 (by decide) (fun _ => ?_) (fun c => absurd c hp)
          refine lv_iinc (v := 2) (lv' := [(2, .int 2), (0, .ref h), (1, .int p1)]) hx hb dX2_release_110 hl (k := 0) rfl (by decide) (by decide) rfl (fun ls hl => ?_)
          refine lv_goto (tgt := 88) hx hb dX2_release_113 (by decide) ?_
          refine lv_iload_n hx hb dX2_release_88 rfl (lv_at hl 0 rfl) ?_
          refine lv_iconst (v := 5) hx hb dX2_release_89 (by decide) ?_
          refine lv_icmp_ge (tgt := 116) hx hb dX2_release_90 (by decide) (fun c => absurd c (by decide)) (fun _ => ?_)
          refine lv_aload_n hx hb dX2_release_93 rfl (lv_at hl 1 rfl) ?_
          refine va_get (D := (dC, dI)) (ci := 2) (v := .ref a5) (C := RX2) (T := TX2) (N := 7) hx hb hts hinX2 hown hK hP 2 rfl rfl 5 (by decide) k_2 (fun _ h9 => h9) rfl dX2_release_94 ?_
          refine lv_iload_n hx hb dX2_release_97 rfl (lv_at hl 0 rfl) ?_
          refine za_iald (v := (-1)) hx hb hK hP 1 0 rfl rfl (zin tn_2 (Nat.le_of_ble_eq_true rfl)) (zrd _ tn_2 rfl) dX2_release_98 ?_
          refine lv_iload_n hx hb dX2_release_99 rfl (lv_at hl 2 rfl) ?_
          refine lv_icmp_ne (tgt := 110) hx hb dX2_release_100 (by decide) (fun _ => ?_) (fun c => absurd c hp)
          refine lv_iinc (v := 3) (lv' := [(2, .int 3), (0, .ref h), (1, .int p1)]) hx hb dX2_release_110 hl (k := 0) rfl (by decide) (by decide) rfl (fun ls hl => ?_)
          refine lv_goto (tgt := 88) hx hb dX2_release_113 (by decide) ?_
          refine lv_iload_n hx hb dX2_release_88 rfl (lv_at hl 0 rfl) ?_
          refine lv_iconst (v := 5) hx hb dX2_release_89 (by decide) ?_
          refine lv_icmp_ge (tgt := 116) hx hb dX2_release_90 (by decide) (fun c => absurd c (by decide)) (fun _ => ?_)
          refine lv_aload_n hx hb dX2_release_93 rfl (lv_at hl 1 rfl) ?_
          refine va_get (D := (dC, dI)) (ci := 2) (v := .ref a5) (C := RX2) (T := TX2) (N := 7) hx hb hts hinX2 hown hK hP 2 rfl rfl 5 (by decide) k_2 (fun _ h9 => h9) rfl dX2_release_94 ?_
          refine lv_iload_n hx hb dX2_release_97 rfl (lv_at hl 0 rfl) ?_
          refine za_iald (v := (-1)) hx hb hK hP 1 0 rfl rfl (zin tn_3 (Nat.le_of_ble_eq_true rfl)) (zrd _ tn_3 rfl) dX2_release_98 ?_
          refine lv_iload_n hx hb dX2_release_99 rfl (lv_at hl 2 rfl) ?_
          refine lv_icmp_ne (tgt := 110) hx hb dX2_release_100 (by decide) (fun _ => ?_) (fun c => absurd c hp)
          refine lv_iinc (v := 4) (lv' := [(2, .int 4), (0, .ref h), (1, .int p1)]) hx hb dX2_release_110 hl (k := 0) rfl (by decide) (by decide) rfl (fun ls hl => ?_)
          refine lv_goto (tgt := 88) hx hb dX2_release_113 (by decide) ?_
          refine lv_iload_n hx hb dX2_release_88 rfl (lv_at hl 0 rfl) ?_
          refine lv_iconst (v := 5) hx hb dX2_release_89 (by decide) ?_
          refine lv_icmp_ge (tgt := 116) hx hb dX2_release_90 (by decide) (fun c => absurd c (by decide)) (fun _ => ?_)
          refine lv_aload_n hx hb dX2_release_93 rfl (lv_at hl 1 rfl) ?_
          refine va_get (D := (dC, dI)) (ci := 2) (v := .ref a5) (C := RX2) (T := TX2) (N := 7) hx hb hts hinX2 hown hK hP 2 rfl rfl 5 (by decide) k_2 (fun _ h9 => h9) rfl dX2_release_94 ?_
          refine lv_iload_n hx hb dX2_release_97 rfl (lv_at hl 0 rfl) ?_
          refine za_iald (v := (-1)) hx hb hK hP 1 0 rfl rfl (zin tn_4 (Nat.le_of_ble_eq_true rfl)) (zrd _ tn_4 rfl) dX2_release_98 ?_
          refine lv_iload_n hx hb dX2_release_99 rfl (lv_at hl 2 rfl) ?_
          refine lv_icmp_ne (tgt := 110) hx hb dX2_release_100 (by decide) (fun _ => ?_) (fun c => absurd c hp)
          refine lv_iinc (v := 5) (lv' := [(2, .int 5), (0, .ref h), (1, .int p1)]) hx hb dX2_release_110 hl (k := 0) rfl (by decide) (by decide) rfl (fun ls hl => ?_)
          refine lv_goto (tgt := 88) hx hb dX2_release_113 (by decide) ?_
          refine lv_iload_n hx hb dX2_release_88 rfl (lv_at hl 0 rfl) ?_
          refine lv_iconst (v := 5) hx hb dX2_release_89 (by decide) ?_
          refine lv_icmp_ge (tgt := 116) hx hb dX2_release_90 (by decide) (fun _ => ?_) (fun c => absurd (by decide) c)
          have e_0 : (pfX2_release_a4_0 o0 p1) = o0 := by rw [pfX2_release_a4_0, if_neg c_1]
          have e_1 : (pfX2_release_a4_1 o1 p1) = (-1) := by rw [pfX2_release_a4_1, if_pos c_2]
          have e_2 : (pfX2_release_a4_2 o2 p1) = o2 := by rw [pfX2_release_a4_2, if_neg c_6]
          have e_3 : (pfX2_release_a4_3 o3 p1) = o3 := by rw [pfX2_release_a4_3, if_neg c_7]
          have hP9 := hP.sub (ws' := [(h, .inr (2, [.ref a0, .ref a1, .ref a2, .ref a3, .ref a4, .ref a5, .ref a6])), (a0, .inl (cI, 22, .inl (gl [m0, m1, m2, ((m3 + 1) &&& 15), (m4 + (pfX2_ofBuffer_g_r m5 (pfX2_putBuffer_g_a6_f fb p1 0 3) p1 7)), m5, (m6 - 1), m7, m8, m9, m10, m11, m12, m13, m14, m15, m16, m17, 0, 4, 0, 16]))), (a4, .inl (cI, 8, .inl (gl [o0, (-1), o2, o3, (-1), (-1), (-1), (-1)]))), (a5, .inl (cI, 5, .inl (gl [(-1), (-1), (-1), (-1), (-1)]))), (a6, .inl (cI, 4000, .inl (pfX2_putBuffer_g_a6_f fb p1 0 3)))]) [2, 3, 0, 1, 4] rfl
          have hD9 := hD.sub (ws' := [(h, .inr (2, [.ref a0, .ref a1, .ref a2, .ref a3, .ref a4, .ref a5, .ref a6])), (a0, .inl (cI, 22, .inl (gl [m0, m1, m2, ((m3 + 1) &&& 15), (m4 + (pfX2_ofBuffer_g_r m5 (pfX2_putBuffer_g_a6_f fb p1 0 3) p1 7)), m5, (m6 - 1), m7, m8, m9, m10, m11, m12, m13, m14, m15, m16, m17, 0, 4, 0, 16]))), (a4, .inl (cI, 8, .inl (gl [o0, (-1), o2, o3, (-1), (-1), (-1), (-1)]))), (a5, .inl (cI, 5, .inl (gl [(-1), (-1), (-1), (-1), (-1)]))), (a6, .inl (cI, 4000, .inl (pfX2_putBuffer_g_a6_f fb p1 0 3)))]) [2, 3, 0, 1, 4] (by decide) rfl
          exact W.vret hx hb hr (fun t ht hW => ⟨⟨(), rfl, trivial, by rw [ht, e_0, e_1, e_2, e_3]; exact hP9, va_K.moved hW.alike hK, (by rw [e_0, e_1, e_2, e_3]; exact hD9)⟩, hS.F ht⟩) hS.2.2 dX2_release_116
        · refine lv_aload_n hx hb dX2_release_73 rfl (lv_at hl 1 rfl) ?_
          refine va_get (D := (dC, dI)) (ci := 2) (v := .ref a4) (C := RX2) (T := TX2) (N := 7) hx hb hts hinX2 hown hK hP 2 rfl rfl 4 (by decide) k_1 (fun _ h9 => h9) rfl dX2_release_74 ?_
          refine lv_iload_n hx hb dX2_release_77 rfl (lv_at hl 0 rfl) ?_
          refine lv_iconst (v := (-1)) hx hb dX2_release_78 (by decide) ?_
          refine za_iast (f' := (gl [o0, (-1), o2, (-1), (-1), (-1), (-1), (-1)])) hx hb hK hP hD hS 0 0 rfl rfl (zin tn_3 (Nat.le_of_ble_eq_true rfl)) (zup_gl tn_3 (Nat.le_of_ble_eq_true rfl) rfl) dX2_release_79 (fun H locs hP hD hS => ?_)
          have hP : va_P (dC, dI) vwCl [(a4, .inl (cI, 8, .inl (gl [o0, (-1), o2, (-1), (-1), (-1), (-1), (-1)]))), (a5, .inl (cI, 5, .inl (gl [(-1), (-1), (-1), (-1), (-1)]))), (h, .inr (2, [.ref a0, .ref a1, .ref a2, .ref a3, .ref a4, .ref a5, .ref a6])), (a0, .inl (cI, 22, .inl (gl [m0, m1, m2, ((m3 + 1) &&& 15), (m4 + (pfX2_ofBuffer_g_r m5 (pfX2_putBuffer_g_a6_f fb p1 0 3) p1 7)), m5, (m6 - 1), m7, m8, m9, m10, m11, m12, m13, m14, m15, m16, m17, 0, 4, 0, 16]))), (a6, .inl (cI, 4000, .inl (pfX2_putBuffer_g_a6_f fb p1 0 3)))] H := hP
          have hD : va_D A [(a4, .inl (cI, 8, .inl (gl [o0, (-1), o2, (-1), (-1), (-1), (-1), (-1)]))), (a5, .inl (cI, 5, .inl (gl [(-1), (-1), (-1), (-1), (-1)]))), (h, .inr (2, [.ref a0, .ref a1, .ref a2, .ref a3, .ref a4, .ref a5, .ref a6])), (a0, .inl (cI, 22, .inl (gl [m0, m1, m2, ((m3 + 1) &&& 15), (m4 + (pfX2_ofBuffer_g_r m5 (pfX2_putBuffer_g_a6_f fb p1 0 3) p1 7)), m5, (m6 - 1), m7, m8, m9, m10, m11, m12, m13, m14, m15, m16, m17, 0, 4, 0, 16]))), (a6, .inl (cI, 4000, .inl (pfX2_putBuffer_g_a6_f fb p1 0 3)))] := hD
          refine lv_iinc (v := 4) (lv' := [(2, .int 4), (0, .ref h), (1, .int p1)]) hx hb dX2_release_80 hl (k := 0) rfl (by decide) (by decide) rfl (fun ls hl => ?_)
          refine lv_goto (tgt := 57) hx hb dX2_release_83 (by decide) ?_
          refine lv_iload_n hx hb dX2_release_57 rfl (lv_at hl 0 rfl) ?_
          refine lv_bipush (v := 8) hx hb dX2_release_58 (by decide) ?_
          refine lv_icmp_ge (tgt := 86) hx hb dX2_release_60 (by decide) (fun c => absurd c (by decide)) (fun _ => ?_)
          refine lv_aload_n hx hb dX2_release_63 rfl (lv_at hl 1 rfl) ?_
          refine va_get (D := (dC, dI)) (ci := 2) (v := .ref a4) (C := RX2) (T := TX2) (N := 7) hx hb hts hinX2 hown hK hP 2 rfl rfl 4 (by decide) k_1 (fun _ h9 => h9) rfl dX2_release_64 ?_
          refine lv_iload_n hx hb dX2_release_67 rfl (lv_at hl 0 rfl) ?_
          refine za_iald (v := (-1)) hx hb hK hP 0 0 rfl rfl (zin tn_4 (Nat.le_of_ble_eq_true rfl)) (zrd _ tn_4 rfl) dX2_release_68 ?_
          refine lv_iload_n hx hb dX2_release_69 rfl (lv_at hl 2 rfl) ?_
          refine lv_icmp_ne (tgt := 80) hx hb dX2_release_70 (by decide) (fun _ => ?_) (fun c => absurd c hp)
          refine lv_iinc (v := 5) (lv' := [(2, .int 5), (0, .ref h), (1, .int p1)]) hx hb dX2_release_80 hl (k := 0) rfl (by decide) (by decide) rfl (fun ls hl => ?_)
          refine lv_goto (tgt := 57) hx hb dX2_release_83 (by decide) ?_
          refine lv_iload_n hx hb dX2_release_57 rfl (lv_at hl 0 rfl) ?_
          refine lv_bipush (v := 8) hx hb dX2_release_58 (by decide) ?_
          refine lv_icmp_ge (tgt := 86) hx hb dX2_release_60 (by decide) (fun c => absurd c (by decide)) (fun _ => ?_)
          refine lv_aload_n hx hb dX2_release_63 rfl (lv_at hl 1 rfl) ?_
          refine va_get (D := (dC, dI)) (ci := 2) (v := .ref a4) (C := RX2) (T := TX2) (N := 7) hx hb hts hinX2 hown hK hP 2 rfl rfl 4 (by decide) k_1 (fun _ h9 => h9) rfl dX2_release_64 ?_
          refine lv_iload_n hx hb dX2_release_67 rfl (lv_at hl 0 rfl) ?_
          refine za_iald (v := (-1)) hx hb hK hP 0 0 rfl rfl (zin tn_5 (Nat.le_of_ble_eq_true rfl)) (zrd _ tn_5 rfl) dX2_release_68 ?_
          refine lv_iload_n hx hb dX2_release_69 rfl (lv_at hl 2 rfl) ?_
          refine lv_icmp_ne (tgt := 80) hx hb dX2_release_70 (by decide) (fun _ => ?_) (fun c => absurd c hp)
          refine lv_iinc (v := 6) (lv' := [(2, .int 6), (0, .ref h), (1, .int p1)]) hx hb dX2_release_80 hl (k := 0) rfl (by decide) (by decide) rfl (fun ls hl => ?_)
          refine lv_goto (tgt := 57) hx hb dX2_release_83 (by decide) ?_
          refine lv_iload_n hx hb dX2_release_57 rfl (lv_at hl 0 rfl) ?_
          refine lv_bipush (v := 8) hx hb dX2_release_58 (by decide) ?_
          refine lv_icmp_ge (tgt := 86) hx hb dX2_release_60 (by decide) (fun c => absurd c (by decide)) (fun _ => ?_)
          refine lv_aload_n hx hb dX2_release_63 rfl (lv_at hl 1 rfl) ?_
          refine va_get (D := (dC, dI)) (ci := 2) (v := .ref a4) (C := RX2) (T := TX2) (N := 7) hx hb hts hinX2 hown hK hP 2 rfl rfl 4 (by decide) k_1 (fun _ h9 => h9) rfl dX2_release_64 ?_
          refine lv_iload_n hx hb dX2_release_67 rfl (lv_at hl 0 rfl) ?_
          refine za_iald (v := (-1)) hx hb hK hP 0 0 rfl rfl (zin tn_6 (Nat.le_of_ble_eq_true rfl)) (zrd _ tn_6 rfl) dX2_release_68 ?_
          refine lv_iload_n hx hb dX2_release_69 rfl (lv_at hl 2 rfl) ?_
          refine lv_icmp_ne (tgt := 80) hx hb dX2_release_70 (by decide) (fun _ => ?_) (fun c => absurd c hp)
          refine lv_iinc (v := 7) (lv' := [(2, .int 7), (0, .ref h), (1, .int p1)]) hx hb dX2_release_80 hl (k := 0) rfl (by decide) (by decide) rfl (fun ls hl => ?_)
          refine lv_goto (tgt := 57) hx hb dX2_release_83 (by decide) ?_
          refine lv_iload_n hx hb dX2_release_57 rfl (lv_at hl 0 rfl) ?_
          refine lv_bipush (v := 8) hx hb dX2_release_58 (by decide) ?_
          refine lv_icmp_ge (tgt := 86) hx hb dX2_release_60 (by decide) (fun c => absurd c (by decide)) (fun _ => ?_)
          refine lv_aload_n hx hb dX2_release_63 rfl (lv_at hl 1 rfl) ?_
          refine va_get (D := (dC, dI)) (ci := 2) (v := .ref a4) (C := RX2) (T := TX2) (N := 7) hx hb hts hinX2 hown hK hP 2 rfl rfl 4 (by decide) k_1 (fun _ h9 => h9) rfl dX2_release_64 ?_
          refine lv_iload_n hx hb dX2_release_67 rfl (lv_at hl 0 rfl) ?_
          refine za_iald (v := (-1)) hx hb hK hP 0 0 rfl rfl (zin tn_7 (Nat.le_of_ble_eq_true rfl)) (zrd _ tn_7 rfl) dX2_release_68 ?_
          refine lv_iload_n hx hb dX2_release_69 rfl (lv_at hl 2 rfl) ?_
          refine lv_icmp_ne (tgt := 80) hx hb dX2_release_70 (by decide) (fun _ => ?_) (fun c => absurd c hp)
          refine lv_iinc (v := 8) (lv' := [(2, .int 8), (0, .ref h), (1, .int p1)]) hx hb dX2_release_80 hl (k := 0) rfl (by decide) (by decide) rfl (fun ls hl => ?_)
          refine lv_goto (tgt := 57) hx hb dX2_release_83 (by decide) ?_
          refine lv_iload_n hx hb dX2_release_57 rfl (lv_at hl 0 rfl) ?_
          refine lv_bipush (v := 8) hx hb dX2_release_58 (by decide) ?_
          refine lv_icmp_ge (tgt := 86) hx hb dX2_release_60 (by decide) (fun _ => ?_) (fun c => absurd (by decide) c)
          refine lv_iconst (v := 1) hx hb dX2_release_86 (by decide) ?_
          refine lv_istore_n (lv' := [(2, .int 1), (0, .ref h), (1, .int p1)]) hx hb dX2_release_87 rfl hl (by decide) rfl (fun ls hl => ?_)
          refine lv_iload_n hx hb dX2_release_88 rfl (lv_at hl 0 rfl) ?_
          refine lv_iconst (v := 5) hx hb dX2_release_89 (by decide) ?_
          refine lv_icmp_ge (tgt := 116) hx hb dX2_release_90 (by decide) (fun c => absurd c (by decide)) (fun _ => ?_)
          refine lv_aload_n hx hb dX2_release_93 rfl (lv_at hl 1 rfl) ?_
          refine va_get (D := (dC, dI)) (ci := 2) (v := .ref a5) (C := RX2) (T := TX2) (N := 7) hx hb hts hinX2 hown hK hP 2 rfl rfl 5 (by decide) k_2 (fun _ h9 => h9) rfl dX2_release_94 ?_
          refine lv_iload_n hx hb dX2_release_97 rfl (lv_at hl 0 rfl) ?_
          refine za_iald (v := (-1)) hx hb hK hP 1 0 rfl rfl (zin tn_1 (Nat.le_of_ble_eq_true rfl)) (zrd _ tn_1 rfl) dX2_release_98 ?_
          refine lv_iload_n hx hb dX2_release_99 rfl (lv_at hl 2 rfl) ?_
          refine lv_icmp_ne (tgt := 110) hx hb dX2_release_100 (by decide) (fun _ => ?_) (fun c => absurd c hp)
          refine lv_iinc (v := 2) (lv' := [(2, .int 2), (0, .ref h), (1, .int p1)]) hx hb dX2_release_110 hl (k := 0) rfl (by decide) (by decide) rfl (fun ls hl => ?_)
          refine lv_goto (tgt := 88) hx hb dX2_release_113 (by decide) ?_
          refine lv_iload_n hx hb dX2_release_88 rfl (lv_at hl 0 rfl) ?_
          refine lv_iconst (v := 5) hx hb dX2_release_89 (by decide) ?_
          refine lv_icmp_ge (tgt := 116) hx hb dX2_release_90 (by decide) (fun c => absurd c (by decide)) (fun _ => ?_)
          refine lv_aload_n hx hb dX2_release_93 rfl (lv_at hl 1 rfl) ?_
          refine va_get (D := (dC, dI)) (ci := 2) (v := .ref a5) (C := RX2) (T := TX2) (N := 7) hx hb hts hinX2 hown hK hP 2 rfl rfl 5 (by decide) k_2 (fun _ h9 => h9) rfl dX2_release_94 ?_
          refine lv_iload_n hx hb dX2_release_97 rfl (lv_at hl 0 rfl) ?_
          refine za_iald (v := (-1)) hx hb hK hP 1 0 rfl rfl (zin tn_2 (Nat.le_of_ble_eq_true rfl)) (zrd _ tn_2 rfl) dX2_release_98 ?_
          refine lv_iload_n hx hb dX2_release_99 rfl (lv_at hl 2 rfl) ?_
          refine lv_icmp_ne (tgt := 110) hx hb dX2_release_100 (by decide) (fun _ => ?_) (fun c => absurd c hp)
          refine lv_iinc (v := 3) (lv' := [(2, .int 3), (0, .ref h), (1, .int p1)]) hx hb dX2_release_110 hl (k := 0) rfl (by decide) (by decide) rfl (fun ls hl => ?_)
          refine lv_goto (tgt := 88) hx hb dX2_release_113 (by decide) ?_
          refine lv_iload_n hx hb dX2_release_88 rfl (lv_at hl 0 rfl) ?_
          refine lv_iconst (v := 5) hx hb dX2_release_89 (by decide) ?_
          refine lv_icmp_ge (tgt := 116) hx hb dX2_release_90 (by decide) (fun c => absurd c (by decide)) (fun _ => ?_)
          refine lv_aload_n hx hb dX2_release_93 rfl (lv_at hl 1 rfl) ?_
          refine va_get (D := (dC, dI)) (ci := 2) (v := .ref a5) (C := RX2) (T := TX2) (N := 7) hx hb hts hinX2 hown hK hP 2 rfl rfl 5 (by decide) k_2 (fun _ h9 => h9) rfl dX2_release_94 ?_
          refine lv_iload_n hx hb dX2_release_97 rfl (lv_at hl 0 rfl) ?_
          refine za_iald (v := (-1)) hx hb hK hP 1 0 rfl rfl (zin tn_3 (Nat.le_of_ble_eq_true rfl)) (zrd _ tn_3 rfl) dX2_release_98 ?_
          refine lv_iload_n hx hb dX2_release_99 rfl (lv_at hl 2 rfl) ?_
          refine lv_icmp_ne (tgt := 110) hx hb dX2_release_100 (by decide) (fun _ => ?_) (fun c => absurd c hp)
          refine lv_iinc (v := 4) (lv' := [(2, .int 4), (0, .ref h), (1, .int p1)]) hx hb dX2_release_110 hl (k := 0) rfl (by decide) (by decide) rfl (fun ls hl => ?_)
          refine lv_goto (tgt := 88) hx hb dX2_release_113 (by decide) ?_
          refine lv_iload_n hx hb dX2_release_88 rfl (lv_at hl 0 rfl) ?_
          refine lv_iconst (v := 5) hx hb dX2_release_89 (by decide) ?_
          refine lv_icmp_ge (tgt := 116) hx hb dX2_release_90 (by decide) (fun c => absurd c (by decide)) (fun _ => ?_)
          refine lv_aload_n hx hb dX2_release_93 rfl (lv_at hl 1 rfl) ?_
          refine va_get (D := (dC, dI)) (ci := 2) (v := .ref a5) (C := RX2) (T := TX2) (N := 7) hx hb hts hinX2 hown hK hP 2 rfl rfl 5 (by decide) k_2 (fun _ h9 => h9) rfl dX2_release_94 ?_
          refine lv_iload_n hx hb dX2_release_97 rfl (lv_at hl 0 rfl) ?_
          refine za_iald (v := (-1)) hx hb hK hP 1 0 rfl rfl (zin tn_4 (Nat.le_of_ble_eq_true rfl)) (zrd _ tn_4 rfl) dX2_release_98 ?_
          refine lv_iload_n hx hb dX2_release_99 rfl (lv_at hl 2 rfl) ?_
          refine lv_icmp_ne (tgt := 110) hx hb dX2_release_100 (by decide) (fun _ => ?_) (fun c => absurd c hp)
          refine lv_iinc (v := 5) (lv' := [(2, .int 5), (0, .ref h), (1, .int p1)]) hx hb dX2_release_110 hl (k := 0) rfl (by decide) (by decide) rfl (fun ls hl => ?_)
          refine lv_goto (tgt := 88) hx hb dX2_release_113 (by decide) ?_
          refine lv_iload_n hx hb dX2_release_88 rfl (lv_at hl 0 rfl) ?_
          refine lv_iconst (v := 5) hx hb dX2_release_89 (by decide) ?_
          refine lv_icmp_ge (tgt := 116) hx hb dX2_release_90 (by decide) (fun _ => ?_) (fun c => absurd (by decide) c)
          have e_0 : (pfX2_release_a4_0 o0 p1) = o0 := by rw [pfX2_release_a4_0, if_neg c_1]
          have e_1 : (pfX2_release_a4_1 o1 p1) = (-1) := by rw [pfX2_release_a4_1, if_pos c_2]
          have e_2 : (pfX2_release_a4_2 o2 p1) = o2 := by rw [pfX2_release_a4_2, if_neg c_6]
          have e_3 : (pfX2_release_a4_3 o3 p1) = (-1) := by rw [pfX2_release_a4_3, if_pos c_7]
          have hP9 := hP.sub (ws' := [(h, .inr (2, [.ref a0, .ref a1, .ref a2, .ref a3, .ref a4, .ref a5, .ref a6])), (a0, .inl (cI, 22, .inl (gl [m0, m1, m2, ((m3 + 1) &&& 15), (m4 + (pfX2_ofBuffer_g_r m5 (pfX2_putBuffer_g_a6_f fb p1 0 3) p1 7)), m5, (m6 - 1), m7, m8, m9, m10, m11, m12, m13, m14, m15, m16, m17, 0, 4, 0, 16]))), (a4, .inl (cI, 8, .inl (gl [o0, (-1), o2, (-1), (-1), (-1), (-1), (-1)]))), (a5, .inl (cI, 5, .inl (gl [(-1), (-1), (-1), (-1), (-1)]))), (a6, .inl (cI, 4000, .inl (pfX2_putBuffer_g_a6_f fb p1 0 3)))]) [2, 3, 0, 1, 4] rfl
          have hD9 := hD.sub (ws' := [(h, .inr (2, [.ref a0, .ref a1, .ref a2, .ref a3, .ref a4, .ref a5, .ref a6])), (a0, .inl (cI, 22, .inl (gl [m0, m1, m2, ((m3 + 1) &&& 15), (m4 + (pfX2_ofBuffer_g_r m5 (pfX2_putBuffer_g_a6_f fb p1 0 3) p1 7)), m5, (m6 - 1), m7, m8, m9, m10, m11, m12, m13, m14, m15, m16, m17, 0, 4, 0, 16]))), (a4, .inl (cI, 8, .inl (gl [o0, (-1), o2, (-1), (-1), (-1), (-1), (-1)]))), (a5, .inl (cI, 5, .inl (gl [(-1), (-1), (-1), (-1), (-1)]))), (a6, .inl (cI, 4000, .inl (pfX2_putBuffer_g_a6_f fb p1 0 3)))]) [2, 3, 0, 1, 4] (by decide) rfl
          exact W.vret hx hb hr (fun t ht hW => ⟨⟨(), rfl, trivial, by rw [ht, e_0, e_1, e_2, e_3]; exact hP9, va_K.moved hW.alike hK, (by rw [e_0, e_1, e_2, e_3]; exact hD9)⟩, hS.F ht⟩) hS.2.2 dX2_release_116
      · refine lv_aload_n hx hb dX2_release_73 rfl (lv_at hl 1 rfl) ?_
        refine va_get (D := (dC, dI)) (ci := 2) (v := .ref a4) (C := RX2) (T := TX2) (N := 7) hx hb hts hinX2 hown hK hP 2 rfl rfl 4 (by decide) k_1 (fun _ h9 => h9) rfl dX2_release_74 ?_
        refine lv_iload_n hx hb dX2_release_77 rfl (lv_at hl 0 rfl) ?_
        refine lv_iconst (v := (-1)) hx hb dX2_release_78 (by decide) ?_
        refine za_iast (f' := (gl [o0, (-1), (-1), o3, (-1), (-1), (-1), (-1)])) hx hb hK hP hD hS 0 0 rfl rfl (zin tn_2 (Nat.le_of_ble_eq_true rfl)) (zup_gl tn_2 (Nat.le_of_ble_eq_true rfl) rfl) dX2_release_79 (fun H locs hP hD hS => ?_)
        have hP : va_P (dC, dI) vwCl [(a4, .inl (cI, 8, .inl (gl [o0, (-1), (-1), o3, (-1), (-1), (-1), (-1)]))), (a5, .inl (cI, 5, .inl (gl [(-1), (-1), (-1), (-1), (-1)]))), (h, .inr (2, [.ref a0, .ref a1, .ref a2, .ref a3, .ref a4, .ref a5, .ref a6])), (a0, .inl (cI, 22, .inl (gl [m0, m1, m2, ((m3 + 1) &&& 15), (m4 + (pfX2_ofBuffer_g_r m5 (pfX2_putBuffer_g_a6_f fb p1 0 3) p1 7)), m5, (m6 - 1), m7, m8, m9, m10, m11, m12, m13, m14, m15, m16, m17, 0, 4, 0, 16]))), (a6, .inl (cI, 4000, .inl (pfX2_putBuffer_g_a6_f fb p1 0 3)))] H := hP
        have hD : va_D A [(a4, .inl (cI, 8, .inl (gl [o0, (-1), (-1), o3, (-1), (-1), (-1), (-1)]))), (a5, .inl (cI, 5, .inl (gl [(-1), (-1), (-1), (-1), (-1)]))), (h, .inr (2, [.ref a0, .ref a1, .ref a2, .ref a3, .ref a4, .ref a5, .ref a6])), (a0, .inl (cI, 22, .inl (gl [m0, m1, m2, ((m3 + 1) &&& 15), (m4 + (pfX2_ofBuffer_g_r m5 (pfX2_putBuffer_g_a6_f fb p1 0 3) p1 7)), m5, (m6 - 1), m7, m8, m9, m10, m11, m12, m13, m14, m15, m16, m17, 0, 4, 0, 16]))), (a6, .inl (cI, 4000, .inl (pfX2_putBuffer_g_a6_f fb p1 0 3)))] := hD
        refine lv_iinc (v := 3) (lv' := [(2, .int 3), (0, .ref h), (1, .int p1)]) hx hb dX2_release_80 hl (k := 0) rfl (by decide) (by decide) rfl (fun ls hl => ?_)
        refine lv_goto (tgt := 57) hx hb dX2_release_83 (by decide) ?_
        refine lv_iload_n hx hb dX2_release_57 rfl (lv_at hl 0 rfl) ?_
        refine lv_bipush (v := 8) hx hb dX2_release_58 (by decide) ?_
        refine lv_icmp_ge (tgt := 86) hx hb dX2_release_60 (by decide) (fun c => absurd c (by decide)) (fun _ => ?_)
        refine lv_aload_n hx hb dX2_release_63 rfl (lv_at hl 1 rfl) ?_
        refine va_get (D := (dC, dI)) (ci := 2) (v := .ref a4) (C := RX2) (T := TX2) (N := 7) hx hb hts hinX2 hown hK hP 2 rfl rfl 4 (by decide) k_1 (fun _ h9 => h9) rfl dX2_release_64 ?_
        refine lv_iload_n hx hb dX2_release_67 rfl (lv_at hl 0 rfl) ?_
        refine za_iald (v := o3) hx hb hK hP 0 0 rfl rfl (zin tn_3 (Nat.le_of_ble_eq_true rfl)) (zrd _ tn_3 rfl) dX2_release_68 ?_
        refine lv_iload_n hx hb dX2_release_69 rfl (lv_at hl 2 rfl) ?_
        refine lv_icmp_ne (tgt := 80) hx hb dX2_release_70 (by decide) (fun c_8 => ?_) (fun c_8 => ?_)
        · refine lv_iinc (v := 4) (lv' := [(2, .int 4), (0, .ref h), (1, .int p1)]) hx hb dX2_release_80 hl (k := 0) rfl (by decide) (by decide) rfl (fun ls hl => ?_)
          refine lv_goto (tgt := 57) hx hb dX2_release_83 (by decide) ?_
          refine lv_iload_n hx hb dX2_release_57 rfl (lv_at hl 0 rfl) ?_
          refine lv_bipush (v := 8) hx hb dX2_release_58 (by decide) ?_
          refine lv_icmp_ge (tgt := 86) hx hb dX2_release_60 (by decide) (fun c => absurd c (by decide)) (fun _ => ?_)
          refine lv_aload_n hx hb dX2_release_63 rfl (lv_at hl 1 rfl) ?_
          refine va_get (D := (dC, dI)) (ci := 2) (v := .ref a4) (C := RX2) (T := TX2) (N := 7) hx hb hts hinX2 hown hK hP 2 rfl rfl 4 (by decide) k_1 (fun _ h9 => h9) rfl dX2_release_64 ?_
          refine lv_iload_n hx hb dX2_release_67 rfl (lv_at hl 0 rfl) ?_
          refine za_iald (v := (-1)) hx hb hK hP 0 0 rfl rfl (zin tn_4 (Nat.le_of_ble_eq_true rfl)) (zrd _ tn_4 rfl) dX2_release_68 ?_
          refine lv_iload_n hx hb dX2_release_69 rfl (lv_at hl 2 rfl) ?_
          refine lv_icmp_ne (tgt := 80) hx hb dX2_release_70 (by decide) (fun _ => ?_) (fun c => absurd c hp)
          refine lv_iinc (v := 5) (lv' := [(2, .int 5), (0, .ref h), (1, .int p1)]) hx hb dX2_release_80 hl (k := 0) rfl (by decide) (by decide) rfl (fun ls hl => ?_)
          refine lv_goto (tgt := 57) hx hb dX2_release_83 (by decide) ?_
          refine lv_iload_n hx hb dX2_release_57 rfl (lv_at hl 0 rfl) ?_
          refine lv_bipush (v := 8) hx hb dX2_release_58 (by decide) ?_
          refine lv_icmp_ge (tgt := 86) hx hb dX2_release_60 (by decide) (fun c => absurd c (by decide)) (fun _ => ?_)
          refine lv_aload_n hx hb dX2_release_63 rfl (lv_at hl 1 rfl) ?_
          refine va_get (D := (dC, dI)) (ci := 2) (v := .ref a4) (C := RX2) (T := TX2) (N := 7) hx hb hts hinX2 hown hK hP 2 rfl rfl 4 (by decide) k_1 (fun _ h9 => h9) rfl dX2_release_64 ?_
          refine lv_iload_n hx hb dX2_release_67 rfl (lv_at hl 0 rfl) ?_
          refine za_iald (v := (-1)) hx hb hK hP 0 0 rfl rfl (zin tn_5 (Nat.le_of_ble_eq_true rfl)) (zrd _ tn_5 rfl) dX2_release_68 ?_
          refine lv_iload_n hx hb dX2_release_69 rfl (lv_at hl 2 rfl) ?_
          refine lv_icmp_ne (tgt := 80) hx hb dX2_release_70 (by decide) (fun _ => ?_) (fun c => absurd c hp)
          refine lv_iinc (v := 6) (lv' := [(2, .int 6), (0, .ref h), (1, .int p1)]) hx hb dX2_release_80 hl (k := 0) rfl (by decide) (by decide) rfl (fun ls hl => ?_)
          refine lv_goto (tgt := 57) hx hb dX2_release_83 (by decide) ?_
          refine lv_iload_n hx hb dX2_release_57 rfl (lv_at hl 0 rfl) ?_
          refine lv_bipush (v := 8) hx hb dX2_release_58 (by decide) ?_
          refine lv_icmp_ge (tgt := 86) hx hb dX2_release_60 (by decide) (fun c => absurd c (by decide)) (fun _ => ?_)
          refine lv_aload_n hx hb dX2_release_63 rfl (lv_at hl 1 rfl) ?_
          refine va_get (D := (dC, dI)) (ci := 2) (v := .ref a4) (C := RX2) (T := TX2) (N := 7) hx hb hts hinX2 hown hK hP 2 rfl rfl 4 (by decide) k_1 (fun _ h9 => h9) rfl dX2_release_64 ?_
          refine lv_iload_n hx hb dX2_release_67 rfl (lv_at hl 0 rfl) ?_
          refine za_iald (v := (-1)) hx hb hK hP 0 0 rfl rfl (zin tn_6 (Nat.le_of_ble_eq_true rfl)) (zrd _ tn_6 rfl) dX2_release_68 ?_
          refine lv_iload_n hx hb dX2_release_69 rfl (lv_at hl 2 rfl) ?_
          refine lv_icmp_ne (tgt := 80) hx hb dX2_release_70 (by decide) (fun _ => ?_) (fun c => absurd c hp)
          refine lv_iinc (v := 7) (lv' := [(2, .int 7), (0, .ref h), (1, .int p1)]) hx hb dX2_release_80 hl (k := 0) rfl (by decide) (by decide) rfl (fun ls hl => ?_)
          refine lv_goto (tgt := 57) hx hb dX2_release_83 (by decide) ?_
          refine lv_iload_n hx hb dX2_release_57 rfl (lv_at hl 0 rfl) ?_
          refine lv_bipush (v := 8) hx hb dX2_release_58 (by decide) ?_
          refine lv_icmp_ge (tgt := 86) hx hb dX2_release_60 (by decide) (fun c => absurd c (by decide)) (fun _ => ?_)
          refine lv_aload_n hx hb dX2_release_63 rfl (lv_at hl 1 rfl) ?_
          refine va_get (D := (dC, dI)) (ci := 2) (v := .ref a4) (C := RX2) (T := TX2) (N := 7) hx hb hts hinX2 hown hK hP 2 rfl rfl 4 (by decide) k_1 (fun _ h9 => h9) rfl dX2_release_64 ?_
          refine lv_iload_n hx hb dX2_release_67 rfl (lv_at hl 0 rfl) ?_
          refine za_iald (v := (-1)) hx hb hK hP 0 0 rfl rfl (zin tn_7 (Nat.le_of_ble_eq_true rfl)) (zrd _ tn_7 rfl) dX2_release_68 ?_
          refine lv_iload_n hx hb dX2_release_69 rfl (lv_at hl 2 rfl) ?_
          refine lv_icmp_ne (tgt := 80) hx hb dX2_release_70 (by decide) (fun _ => ?_) (fun c => absurd c hp)
          refine lv_iinc (v := 8) (lv' := [(2, .int 8), (0, .ref h), (1, .int p1)]) hx hb dX2_release_80 hl (k := 0) rfl (by decide) (by decide) rfl (fun ls hl => ?_)
          refine lv_goto (tgt := 57) hx hb dX2_release_83 (by decide) ?_
          refine lv_iload_n hx hb dX2_release_57 rfl (lv_at hl 0 rfl) ?_
          refine lv_bipush (v := 8) hx hb dX2_release_58 (by decide) ?_
          refine lv_icmp_ge (tgt := 86) hx hb dX2_release_60 (by decide) (fun _ => ?_) (fun c => absurd (by decide) c)
          refine lv_iconst (v := 1) hx hb dX2_release_86 (by decide) ?_
          refine lv_istore_n (lv' := [(2, .int 1), (0, .ref h), (1, .int p1)]) hx hb dX2_release_87 rfl hl (by decide) rfl (fun ls hl => ?_)
          refine lv_iload_n hx hb dX2_release_88 rfl (lv_at hl 0 rfl) ?_
          refine lv_iconst (v := 5) hx hb dX2_release_89 (by decide) ?_
          refine lv_icmp_ge (tgt := 116) hx hb dX2_release_90 (by decide) (fun c => absurd c (by decide)) (fun _ => ?_)
          refine lv_aload_n hx hb dX2_release_93 rfl (lv_at hl 1 rfl) ?_
          refine va_get (D := (dC, dI)) (ci := 2) (v := .ref a5) (C := RX2) (T := TX2) (N := 7) hx hb hts hinX2 hown hK hP 2 rfl rfl 5 (by decide) k_2 (fun _ h9 => h9) rfl dX2_release_94 ?_
          refine lv_iload_n hx hb dX2_release_97 rfl (lv_at hl 0 rfl) ?_
          refine za_iald (v := (-1)) hx hb hK hP 1 0 rfl rfl (zin tn_1 (Nat.le_of_ble_eq_true rfl)) (zrd _ tn_1 rfl) dX2_release_98 ?_
          refine lv_iload_n hx hb dX2_release_99 rfl (lv_at hl 2 rfl) ?_
          refine lv_icmp_ne (tgt := 110) hx hb dX2_release_100 (by decide) (fun _ => ?_) (fun c => absurd c hp)
          refine lv_iinc (v := 2) (lv' := [(2, .int 2), (0, .ref h), (1, .int p1)]) hx hb dX2_release_110 hl (k := 0) rfl (by decide) (by decide) rfl (fun ls hl => ?_)
          refine lv_goto (tgt := 88) hx hb dX2_release_113 (by decide) ?_
          refine lv_iload_n hx hb dX2_release_88 rfl (lv_at hl 0 rfl) ?_
          refine lv_iconst (v := 5) hx hb dX2_release_89 (by decide) ?_
          refine lv_icmp_ge (tgt := 116) hx hb dX2_release_90 (by decide) (fun c => absurd c (by decide)) (fun _ => ?_)
          refine lv_aload_n hx hb dX2_release_93 rfl (lv_at hl 1 rfl) ?_
          refine va_get (D := (dC, dI)) (ci := 2) (v := .ref a5) (C := RX2) (T := TX2) (N := 7) hx hb hts hinX2 hown hK hP 2 rfl rfl 5 (by decide) k_2 (fun _ h9 => h9) rfl dX2_release_94 ?_
          refine lv_iload_n hx hb dX2_release_97 rfl (lv_at hl 0 rfl) ?_
          refine za_iald (v := (-1)) hx hb hK hP 1 0 rfl rfl (zin tn_2 (Nat.le_of_ble_eq_true rfl)) (zrd _ tn_2 rfl) dX2_release_98 ?_
          refine lv_iload_n hx hb dX2_release_99 rfl (lv_at hl 2 rfl) ?_
          refine lv_icmp_ne (tgt := 110) hx hb dX2_release_100 (by decide) (fun _ => ?_) (fun c => absurd c hp)
          refine lv_iinc (v := 3) (lv' := [(2, .int 3), (0, .ref h), (1, .int p1)]) hx hb dX2_release_110 hl (k := 0) rfl (by decide) (by decide) rfl (fun ls hl => ?_)
          refine lv_goto (tgt := 88) hx hb dX2_release_113 (by decide) ?_
          refine lv_iload_n hx hb dX2_release_88 rfl (lv_at hl 0 rfl) ?_
          refine lv_iconst (v := 5) hx hb dX2_release_89 (by decide) ?_
          refine lv_icmp_ge (tgt := 116) hx hb dX2_release_90 (by decide) (fun c => absurd c (by decide)) (fun _ => ?_)
          refine lv_aload_n hx hb dX2_release_93 rfl (lv_at hl 1 rfl) ?_
          refine va_get (D := (dC, dI)) (ci := 2) (v := .ref a5) (C := RX2) (T := TX2) (N := 7) hx hb hts hinX2 hown hK hP 2 rfl rfl 5 (by decide) k_2 (fun _ h9 => h9) rfl dX2_release_94 ?_
          refine lv_iload_n hx hb dX2_release_97 rfl (lv_at hl 0 rfl) ?_
          refine za_iald (v := (-1)) hx hb hK hP 1 0 rfl rfl (zin tn_3 (Nat.le_of_ble_eq_true rfl)) (zrd _ tn_3 rfl) dX2_release_98 ?_
          refine lv_iload_n hx hb dX2_release_99 rfl (lv_at hl 2 rfl) ?_
          refine lv_icmp_ne (tgt := 110) hx hb dX2_release_100 (by decide) (fun _ => ?_) (fun c => absurd c hp)
          refine lv_iinc (v := 4) (lv' := [(2, .int 4), (0, .ref h), (1, .int p1)]) hx hb dX2_release_110 hl (k := 0) rfl (by decide) (by decide) rfl (fun ls hl => ?_)
          refine lv_goto (tgt := 88) hx hb dX2_release_113 (by decide) ?_
          refine lv_iload_n hx hb dX2_release_88 rfl (lv_at hl 0 rfl) ?_
          refine lv_iconst (v := 5) hx hb dX2_release_89 (by decide) ?_
          refine lv_icmp_ge (tgt := 116) hx hb dX2_release_90 (by decide) (fun c => absurd c (by decide)) (fun _ => ?_)
          refine lv_aload_n hx hb dX2_release_93 rfl (lv_at hl 1 rfl) ?_
          refine va_get (D := (dC, dI)) (ci := 2) (v := .ref a5) (C := RX2) (T := TX2) (N := 7) hx hb hts hinX2 hown hK hP 2 rfl rfl 5 (by decide) k_2 (fun _ h9 => h9) rfl dX2_release_94 ?_
          refine lv_iload_n hx hb dX2_release_97 rfl (lv_at hl 0 rfl) ?_
          refine za_iald (v := (-1)) hx hb hK hP 1 0 rfl rfl (zin tn_4 (Nat.le_of_ble_eq_true rfl)) (zrd _ tn_4 rfl) dX2_release_98 ?_
          refine lv_iload_n hx hb dX2_release_99 rfl (lv_at hl 2 rfl) ?_
          refine lv_icmp_ne (tgt := 110) hx hb dX2_release_100 (by decide) (fun _ => ?_) (fun c => absurd c hp)
          refine lv_iinc (v := 5) (lv' := [(2, .int 5), (0, .ref h), (1, .int p1)]) hx hb dX2_release_110 hl (k := 0) rfl (by decide) (by decide) rfl (fun ls hl => ?_)
          refine lv_goto (tgt := 88) hx hb dX2_release_113 (by decide) ?_
          refine lv_iload_n hx hb dX2_release_88 rfl (lv_at hl 0 rfl) ?_
          refine lv_iconst (v := 5) hx hb dX2_release_89 (by decide) ?_
          refine lv_icmp_ge (tgt := 116) hx hb dX2_release_90 (by decide) (fun _ => ?_) (fun c => absurd (by decide) c)
          have e_0 : (pfX2_release_a4_0 o0 p1) = o0 := by rw [pfX2_release_a4_0, if_neg c_1]
          have e_1 : (pfX2_release_a4_1 o1 p1) = (-1) := by rw [pfX2_release_a4_1, if_pos c_2]
          have e_2 : (pfX2_release_a4_2 o2 p1) = (-1) := by rw [pfX2_release_a4_2, if_pos c_6]
          have e_3 : (pfX2_release_a4_3 o3 p1) = o3 := by rw [pfX2_release_a4_3, if_neg c_8]
          have hP9 := hP.sub (ws' := [(h, .inr (2, [.ref a0, .ref a1, .ref a2, .ref a3, .ref a4, .ref a5, .ref a6])), (a0, .inl (cI, 22, .inl (gl [m0, m1, m2, ((m3 + 1) &&& 15), (m4 + (pfX2_ofBuffer_g_r m5 (pfX2_putBuffer_g_a6_f fb p1 0 3) p1 7)), m5, (m6 - 1), m7, m8, m9, m10, m11, m12, m13, m14, m15, m16, m17, 0, 4, 0, 16]))), (a4, .inl (cI, 8, .inl (gl [o0, (-1), (-1), o3, (-1), (-1), (-1), (-1)]))), (a5, .inl (cI, 5, .inl (gl [(-1), (-1), (-1), (-1), (-1)]))), (a6, .inl (cI, 4000, .inl (pfX2_putBuffer_g_a6_f fb p1 0 3)))]) [2, 3, 0, 1, 4] rfl
          have hD9 := hD.sub (ws' := [(h, .inr (2, [.ref a0, .ref a1, .ref a2, .ref a3, .ref a4, .ref a5, .ref a6])), (a0, .inl (cI, 22, .inl (gl [m0, m1, m2, ((m3 + 1) &&& 15), (m4 + (pfX2_ofBuffer_g_r m5 (pfX2_putBuffer_g_a6_f fb p1 0 3) p1 7)), m5, (m6 - 1), m7, m8, m9, m10, m11, m12, m13, m14, m15, m16, m17, 0, 4, 0, 16]))), (a4, .inl (cI, 8, .inl (gl [o0, (-1), (-1), o3, (-1), (-1), (-1), (-1)]))), (a5, .inl (cI, 5, .inl (gl [(-1), (-1), (-1), (-1), (-1)]))), (a6, .inl (cI, 4000, .inl (pfX2_putBuffer_g_a6_f fb p1 0 3)))]) [2, 3, 0, 1, 4] (by decide) rfl
          exact W.vret hx hb hr (fun t ht hW => ⟨⟨(), rfl, trivial, by rw [ht, e_0, e_1, e_2, e_3]; exact hP9, va_K.moved hW.alike hK, (by rw [e_0, e_1, e_2, e_3]; exact hD9)⟩, hS.F ht⟩) hS.2.2 dX2_release_116
        · refine lv_aload_n hx hb dX2_release_73 rfl (lv_at hl 1 rfl) ?_
          refine va_get (D := (dC, dI)) (ci := 2) (v := .ref a4) (C := RX2) (T := TX2) (N := 7) hx hb hts hinX2 hown hK hP 2 rfl rfl 4 (by decide) k_1 (fun _ h9 => h9) rfl dX2_release_74 ?_
          refine lv_iload_n hx hb dX2_release_77 rfl (lv_at hl 0 rfl) ?_
          refine lv_iconst (v := (-1)) hx hb dX2_release_78 (by decide) ?_
          refine za_iast (f' := (gl [o0, (-1), (-1), (-1), (-1), (-1), (-1), (-1)])) hx hb hK hP hD hS 0 0 rfl rfl (zin tn_3 (Nat.le_of_ble_eq_true rfl)) (zup_gl tn_3 (Nat.le_of_ble_eq_true rfl) rfl) dX2_release_79 (fun H locs hP hD hS => ?_)
          have hP : va_P (dC, dI) vwCl [(a4, .inl (cI, 8, .inl (gl [o0, (-1), (-1), (-1), (-1), (-1), (-1), (-1)]))), (a5, .inl (cI, 5, .inl (gl [(-1), (-1), (-1), (-1), (-1)]))), (h, .inr (2, [.ref a0, .ref a1, .ref a2, .ref a3, .ref a4, .ref a5, .ref a6])), (a0, .inl (cI, 22, .inl (gl [m0, m1, m2, ((m3 + 1) &&& 15), (m4 + (pfX2_ofBuffer_g_r m5 (pfX2_putBuffer_g_a6_f fb p1 0 3) p1 7)), m5, (m6 - 1), m7, m8, m9, m10, m11, m12, m13, m14, m15, m16, m17, 0, 4, 0, 16]))), (a6, .inl (cI, 4000, .inl (pfX2_putBuffer_g_a6_f fb p1 0 3)))] H := hP
          have hD : va_D A [(a4, .inl (cI, 8, .inl (gl [o0, (-1), (-1), (-1), (-1), (-1), (-1), (-1)]))), (a5, .inl (cI, 5, .inl (gl [(-1), (-1), (-1), (-1), (-1)]))), (h, .inr (2, [.ref a0, .ref a1, .ref a2, .ref a3, .ref a4, .ref a5, .ref a6])), (a0, .inl (cI, 22, .inl (gl [m0, m1, m2, ((m3 + 1) &&& 15), (m4 + (pfX2_ofBuffer_g_r m5 (pfX2_putBuffer_g_a6_f fb p1 0 3) p1 7)), m5, (m6 - 1), m7, m8, m9, m10, m11, m12, m13, m14, m15, m16, m17, 0, 4, 0, 16]))), (a6, .inl (cI, 4000, .inl (pfX2_putBuffer_g_a6_f fb p1 0 3)))] := hD
          refine lv_iinc (v := 4) (lv' := [(2, .int 4), (0, .ref h), (1, .int p1)]) hx hb dX2_release_80 hl (k := 0) rfl (by decide) (by decide) rfl (fun ls hl => ?_)
          refine lv_goto (tgt := 57) hx hb dX2_release_83 (by decide) ?_
          refine lv_iload_n hx hb dX2_release_57 rfl (lv_at hl 0 rfl) ?_
          refine lv_bipush (v := 8) hx hb dX2_release_58 (by decide) ?_
          refine lv_icmp_ge (tgt := 86) hx hb dX2_release_60 (by decide) (fun c => absurd c (by decide)) (fun _ => ?_)
          refine lv_aload_n hx hb dX2_release_63 rfl (lv_at hl 1 rfl) ?_
          refine va_get (D := (dC, dI)) (ci := 2) (v := .ref a4) (C := RX2) (T := TX2) (N := 7) hx hb hts hinX2 hown hK hP 2 rfl rfl 4 (by decide) k_1 (fun _ h9 => h9) rfl dX2_release_64 ?_
          refine lv_iload_n hx hb dX2_release_67 rfl (lv_at hl 0 rfl) ?_
          refine za_iald (v := (-1)) hx hb hK hP 0 0 rfl rfl (zin tn_4 (Nat.le_of_ble_eq_true rfl)) (zrd _ tn_4 rfl) dX2_release_68 ?_
          refine lv_iload_n hx hb dX2_release_69 rfl (lv_at hl 2 rfl) ?_
          refine lv_icmp_ne (tgt := 80) hx hb dX2_release_70 (by decide) (fun _ => ?_) (fun c => absurd c hp)
          refine lv_iinc (v := 5) (lv' := [(2, .int 5), (0, .ref h), (1, .int p1)]) hx hb dX2_release_80 hl (k := 0) rfl (by decide) (by decide) rfl (fun ls hl => ?_)
          refine lv_goto (tgt := 57) hx hb dX2_release_83 (by decide) ?_
          refine lv_iload_n hx hb dX2_release_57 rfl (lv_at hl 0 rfl) ?_
          refine lv_bipush (v := 8) hx hb dX2_release_58 (by decide) ?_
          refine lv_icmp_ge (tgt := 86) hx hb dX2_release_60 (by decide) (fun c => absurd c (by decide)) (fun _ => ?_)
          refine lv_aload_n hx hb dX2_release_63 rfl (lv_at hl 1 rfl) ?_
          refine va_get (D := (dC, dI)) (ci := 2) (v := .ref a4) (C := RX2) (T := TX2) (N := 7) hx hb hts hinX2 hown hK hP 2 rfl rfl 4 (by decide) k_1 (fun _ h9 => h9) rfl dX2_release_64 ?_
          refine lv_iload_n hx hb dX2_release_67 rfl (lv_at hl 0 rfl) ?_
          refine za_iald (v := (-1)) hx hb hK hP 0 0 rfl rfl (zin tn_5 (Nat.le_of_ble_eq_true rfl)) (zrd _ tn_5 rfl) dX2_release_68 ?_
          refine lv_iload_n hx hb dX2_release_69 rfl (lv_at hl 2 rfl) ?_
          refine lv_icmp_ne (tgt := 80) hx hb dX2_release_70 (by decide) (fun _ => ?_) (fun c => absurd c hp)
          refine lv_iinc (v := 6) (lv' := [(2, .int 6), (0, .ref h), (1, .int p1)]) hx hb dX2_release_80 hl (k := 0) rfl (by decide) (by decide) rfl (fun ls hl => ?_)
          refine lv_goto (tgt := 57) hx hb dX2_release_83 (by decide) ?_
          refine lv_iload_n hx hb dX2_release_57 rfl (lv_at hl 0 rfl) ?_
          refine lv_bipush (v := 8) hx hb dX2_release_58 (by decide) ?_
          refine lv_icmp_ge (tgt := 86) hx hb dX2_release_60 (by decide) (fun c => absurd c (by decide)) (fun _ => ?_)
          refine lv_aload_n hx hb dX2_release_63 rfl (lv_at hl 1 rfl) ?_
          refine va_get (D := (dC, dI)) (ci := 2) (v := .ref a4) (C := RX2) (T := TX2) (N := 7) hx hb hts hinX2 hown hK hP 2 rfl rfl 4 (by decide) k_1 (fun _ h9 => h9) rfl dX2_release_64 ?_
          refine lv_iload_n hx hb dX2_release_67 rfl (lv_at hl 0 rfl) ?_
          refine za_iald (v := (-1)) hx hb hK hP 0 0 rfl rfl (zin tn_6 (Nat.le_of_ble_eq_true rfl)) (zrd _ tn_6 rfl) dX2_release_68 ?_
          refine lv_iload_n hx hb dX2_release_69 rfl (lv_at hl 2 rfl) ?_
          refine lv_icmp_ne (tgt := 80) hx hb dX2_release_70 (by decide) (fun _ => ?_) (fun c => absurd c hp)
          refine lv_iinc (v := 7) (lv' := [(2, .int 7), (0, .ref h), (1, .int p1)]) hx hb dX2_release_80 hl (k := 0) rfl (by decide) (by decide) rfl (fun ls hl => ?_)
          refine lv_goto (tgt := 57) hx hb dX2_release_83 (by decide) ?_
          refine lv_iload_n hx hb dX2_release_57 rfl (lv_at hl 0 rfl) ?_
          refine lv_bipush (v := 8) hx hb dX2_release_58 (by decide) ?_
          refine lv_icmp_ge (tgt := 86) hx hb dX2_release_60 (by decide) (fun c => absurd c (by decide)) (fun _ => ?_)
          refine lv_aload_n hx hb dX2_release_63 rfl (lv_at hl 1 rfl) ?_
          refine va_get (D := (dC, dI)) (ci := 2) (v := .ref a4) (C := RX2) (T := TX2) (N := 7) hx hb hts hinX2 hown hK hP 2 rfl rfl 4 (by decide) k_1 (fun _ h9 => h9) rfl dX2_release_64 ?_
          refine lv_iload_n hx hb dX2_release_67 rfl (lv_at hl 0 rfl) ?_
          refine za_iald (v := (-1)) hx hb hK hP 0 0 rfl rfl (zin tn_7 (Nat.le_of_ble_eq_true rfl)) (zrd _ tn_7 rfl) dX2_release_68 ?_
          refine lv_iload_n hx hb dX2_release_69 rfl (lv_at hl 2 rfl) ?_
          refine lv_icmp_ne (tgt := 80) hx hb dX2_release_70 (by decide) (fun _ => ?_) (fun c => absurd c hp)
          refine lv_iinc (v := 8) (lv' := [(2, .int 8), (0, .ref h), (1, .int p1)]) hx hb dX2_release_80 hl (k := 0) rfl (by decide) (by decide) rfl (fun ls hl => ?_)
          refine lv_goto (tgt := 57) hx hb dX2_release_83 (by decide) ?_
          refine lv_iload_n hx hb dX2_release_57 rfl (lv_at hl 0 rfl) ?_
          refine lv_bipush (v := 8) hx hb dX2_release_58 (by decide) ?_
          refine lv_icmp_ge (tgt := 86) hx hb dX2_release_60 (by decide) (fun _ => ?_) (fun c => absurd (by decide) c)
          refine lv_iconst (v := 1) hx hb dX2_release_86 (by decide) ?_
          refine lv_istore_n (lv' := [(2, .int 1), (0, .ref h), (1, .int p1)]) hx hb dX2_release_87 rfl hl (by decide) rfl (fun ls hl => ?_)
          refine lv_iload_n hx hb dX2_release_88 rfl (lv_at hl 0 rfl) ?_
          refine lv_iconst (v := 5) hx hb dX2_release_89 (by decide) ?_
          refine lv_icmp_ge (tgt := 116) hx hb dX2_release_90 (by decide) (fun c => absurd c (by decide)) (fun _ => ?_)
          refine lv_aload_n hx hb dX2_release_93 rfl (lv_at hl 1 rfl) ?_
          refine va_get (D := (dC, dI)) (ci := 2) (v := .ref a5) (C := RX2) (T := TX2) (N := 7) hx hb hts hinX2 hown hK hP 2 rfl rfl 5 (by decide) k_2 (fun _ h9 => h9) rfl dX2_release_94 ?_
          refine lv_iload_n hx hb dX2_release_97 rfl (lv_at hl 0 rfl) ?_
          refine za_iald (v := (-1)) hx hb hK hP 1 0 rfl rfl (zin tn_1 (Nat.le_of_ble_eq_true rfl)) (zrd _ tn_1 rfl) dX2_release_98 ?_
          refine lv_iload_n hx hb dX2_release_99 rfl (lv_at hl 2 rfl) ?_
          refine lv_icmp_ne (tgt := 110) hx hb dX2_release_100 (by decide) (fun _ => ?_) (fun c => absurd c hp)
          refine lv_iinc (v := 2) (lv' := [(2, .int 2), (0, .ref h), (1, .int p1)]) hx hb dX2_release_110 hl (k := 0) rfl (by decide) (by decide) rfl (fun ls hl => ?_)
          refine lv_goto (tgt := 88) hx hb dX2_release_113 (by decide) ?_
          refine lv_iload_n hx hb dX2_release_88 rfl (lv_at hl 0 rfl) ?_
          refine lv_iconst (v := 5) hx hb dX2_release_89 (by decide) ?_
          refine lv_icmp_ge (tgt := 116) hx hb dX2_release_90 (by decide) (fun c => absurd c (by decide)) (fun _ => ?_)
          refine lv_aload_n hx hb dX2_release_93 rfl (lv_at hl 1 rfl) ?_
          refine va_get (D := (dC, dI)) (ci := 2) (v := .ref a5) (C := RX2) (T := TX2) (N := 7) hx hb hts hinX2 hown hK hP 2 rfl rfl 5 (by decide) k_2 (fun _ h9 => h9) rfl dX2_release_94 ?_
          refine lv_iload_n hx hb dX2_release_97 rfl (lv_at hl 0 rfl) ?_
          refine za_iald (v := (-1)) hx hb hK hP 1 0 rfl rfl (zin tn_2 (Nat.le_of_ble_eq_true rfl)) (zrd _ tn_2 rfl) dX2_release_98 ?_
          refine lv_iload_n hx hb dX2_release_99 rfl (lv_at hl 2 rfl) ?_
          refine lv_icmp_ne (tgt := 110) hx hb dX2_release_100 (by decide) (fun _ => ?_) (fun c => absurd c hp)
          refine lv_iinc (v := 3) (lv' := [(2, .int 3), (0, .ref h), (1, .int p1)]) hx hb dX2_release_110 hl (k := 0) rfl (by decide) (by decide) rfl (fun ls hl => ?_)
          refine lv_goto (tgt := 88) hx hb dX2_release_113 (by decide) ?_
          refine lv_iload_n hx hb dX2_release_88 rfl (lv_at hl 0 rfl) ?_
          refine lv_iconst (v := 5) hx hb dX2_release_89 (by decide) ?_
          refine lv_icmp_ge (tgt := 116) hx hb dX2_release_90 (by decide) (fun c => absurd c (by decide)) (fun _ => ?_)
          refine lv_aload_n hx hb dX2_release_93 rfl (lv_at hl 1 rfl) ?_
          refine va_get (D := (dC, dI)) (ci := 2) (v := .ref a5) (C := RX2) (T := TX2) (N := 7) hx hb hts hinX2 hown hK hP 2 rfl rfl 5 (by decide) k_2 (fun _ h9 => h9) rfl dX2_release_94 ?_
          refine lv_iload_n hx hb dX2_release_97 rfl (lv_at hl 0 rfl) ?_
          refine za_iald (v := (-1)) hx hb hK hP 1 0 rfl rfl (zin tn_3 (Nat.le_of_ble_eq_true rfl)) (zrd _ tn_3 rfl) dX2_release_98 ?_
          refine lv_iload_n hx hb dX2_release_99 rfl (lv_at hl 2 rfl) ?_
          refine lv_icmp_ne (tgt := 110) hx hb dX2_release_100 (by decide) (fun _ => ?_) (fun c => absurd c hp)
          refine lv_iinc (v := 4) (lv' := [(2, .int 4), (0, .ref h), (1, .int p1)]) hx hb dX2_release_110 hl (k := 0) rfl (by decide) (by decide) rfl (fun ls hl => ?_)
          refine lv_goto (tgt := 88) hx hb dX2_release_113 (by decide) ?_
          refine lv_iload_n hx hb dX2_release_88 rfl (lv_at hl 0 rfl) ?_
          refine lv_iconst (v := 5) hx hb dX2_release_89 (by decide) ?_
          refine lv_icmp_ge (tgt := 116) hx hb dX2_release_90 (by decide) (fun c => absurd c (by decide)) (fun _ => ?_)
          refine lv_aload_n hx hb dX2_release_93 rfl (lv_at hl 1 rfl) ?_
          refine va_get (D := (dC, dI)) (ci := 2) (v := .ref a5) (C := RX2) (T := TX2) (N := 7) hx hb hts hinX2 hown hK hP 2 rfl rfl 5 (by decide) k_2 (fun _ h9 => h9) rfl dX2_release_94 ?_
          refine lv_iload_n hx hb dX2_release_97 rfl (lv_at hl 0 rfl) ?_
          refine za_iald (v := (-1)) hx hb hK hP 1 0 rfl rfl (zin tn_4 (Nat.le_of_ble_eq_true rfl)) (zrd _ tn_4 rfl) dX2_release_98 ?_
          refine lv_iload_n hx hb dX2_release_99 rfl (lv_at hl 2 rfl) ?_
          refine lv_icmp_ne (tgt := 110) hx hb dX2_release_100 (by decide) (fun _ => ?_) (fun c => absurd c hp)
          refine lv_iinc (v := 5) (lv' := [(2, .int 5), (0, .ref h), (1, .int p1)]) hx hb dX2_release_110 hl (k := 0) rfl (by decide) (by decide) rfl (fun ls hl => ?_)
          refine lv_goto (tgt := 88) hx hb dX2_release_113 (by decide) ?_
          refine lv_iload_n hx hb dX2_release_88 rfl (lv_at hl 0 rfl) ?_
          refine lv_iconst (v := 5) hx hb dX2_release_89 (by decide) ?_
          refine lv_icmp_ge (tgt := 116) hx hb dX2_release_90 (by decide) (fun _ => ?_) (fun c => absurd (by decide) c)
          have e_0 : (pfX2_release_a4_0 o0 p1) = o0 := by rw [pfX2_release_a4_0, if_neg c_1]
          have e_1 : (pfX2_release_a4_1 o1 p1) = (-1) := by rw [pfX2_release_a4_1, if_pos c_2]
          have e_2 : (pfX2_release_a4_2 o2 p1) = (-1) := by rw [pfX2_release_a4_2, if_pos c_6]
          have e_3 : (pfX2_release_a4_3 o3 p1) = (-1) := by rw [pfX2_release_a4_3, if_pos c_8]
          have hP9 := hP.sub (ws' := [(h, .inr (2, [.ref a0, .ref a1, .ref a2, .ref a3, .ref a4, .ref a5, .ref a6])), (a0, .inl (cI, 22, .inl (gl [m0, m1, m2, ((m3 + 1) &&& 15), (m4 + (pfX2_ofBuffer_g_r m5 (pfX2_putBuffer_g_a6_f fb p1 0 3) p1 7)), m5, (m6 - 1), m7, m8, m9, m10, m11, m12, m13, m14, m15, m16, m17, 0, 4, 0, 16]))), (a4, .inl (cI, 8, .inl (gl [o0, (-1), (-1), (-1), (-1), (-1), (-1), (-1)]))), (a5, .inl (cI, 5, .inl (gl [(-1), (-1), (-1), (-1), (-1)]))), (a6, .inl (cI, 4000, .inl (pfX2_putBuffer_g_a6_f fb p1 0 3)))]) [2, 3, 0, 1, 4] rfl
          have hD9 := hD.sub (ws' := [(h, .inr (2, [.ref a0, .ref a1, .ref a2, .ref a3, .ref a4, .ref a5, .ref a6])), (a0, .inl (cI, 22, .inl (gl [m0, m1, m2, ((m3 + 1) &&& 15), (m4 + (pfX2_ofBuffer_g_r m5 (pfX2_putBuffer_g_a6_f fb p1 0 3) p1 7)), m5, (m6 - 1), m7, m8, m9, m10, m11, m12, m13, m14, m15, m16, m17, 0, 4, 0, 16]))), (a4, .inl (cI, 8, .inl (gl [o0, (-1), (-1), (-1), (-1), (-1), (-1), (-1)]))), (a5, .inl (cI, 5, .inl (gl [(-1), (-1), (-1), (-1), (-1)]))), (a6, .inl (cI, 4000, .inl (pfX2_putBuffer_g_a6_f fb p1 0 3)))]) [2, 3, 0, 1, 4] (by decide) rfl
          exact W.vret hx hb hr (fun t ht hW => ⟨⟨(), rfl, trivial, by rw [ht, e_0, e_1, e_2, e_3]; exact hP9, va_K.moved hW.alike hK, (by rw [e_0, e_1, e_2, e_3]; exact hD9)⟩, hS.F ht⟩) hS.2.2 dX2_release_116
  · refine lv_aload_n hx hb dX2_release_73 rfl (lv_at hl 1 rfl) ?_
    refine va_get (D := (dC, dI)) (ci := 2) (v := .ref a4) (C := RX2) (T := TX2) (N := 7) hx hb hts hinX2 hown hK hP 2 rfl rfl 4 (by decide) k_1 (fun _ h9 => h9) rfl dX2_release_74 ?_
    refine lv_iload_n hx hb dX2_release_77 rfl (lv_at hl 0 rfl) ?_
    refine lv_iconst (v := (-1)) hx hb dX2_release_78 (by decide) ?_
    refine za_iast (f' := (gl [(-1), o1, o2, o3, (-1), (-1), (-1), (-1)])) hx hb hK hP hD hS 0 0 rfl rfl (zin tn_0 (Nat.le_of_ble_eq_true rfl)) (zup_gl tn_0 (Nat.le_of_ble_eq_true rfl) rfl) dX2_release_79 (fun H locs hP hD hS => ?_)
    have hP : va_P (dC, dI) vwCl [(a4, .inl (cI, 8, .inl (gl [(-1), o1, o2, o3, (-1), (-1), (-1), (-1)]))), (a5, .inl (cI, 5, .inl (gl [(-1), (-1), (-1), (-1), (-1)]))), (h, .inr (2, [.ref a0, .ref a1, .ref a2, .ref a3, .ref a4, .ref a5, .ref a6])), (a0, .inl (cI, 22, .inl (gl [m0, m1, m2, ((m3 + 1) &&& 15), (m4 + (pfX2_ofBuffer_g_r m5 (pfX2_putBuffer_g_a6_f fb p1 0 3) p1 7)), m5, (m6 - 1), m7, m8, m9, m10, m11, m12, m13, m14, m15, m16, m17, 0, 4, 0, 16]))), (a6, .inl (cI, 4000, .inl (pfX2_putBuffer_g_a6_f fb p1 0 3)))] H := hP
    have hD : va_D A [(a4, .inl (cI, 8, .inl (gl [(-1), o1, o2, o3, (-1), (-1), (-1), (-1)]))), (a5, .inl (cI, 5, .inl (gl [(-1), (-1), (-1), (-1), (-1)]))), (h, .inr (2, [.ref a0, .ref a1, .ref a2, .ref a3, .ref a4, .ref a5, .ref a6])), (a0, .inl (cI, 22, .inl (gl [m0, m1, m2, ((m3 + 1) &&& 15), (m4 + (pfX2_ofBuffer_g_r m5 (pfX2_putBuffer_g_a6_f fb p1 0 3) p1 7)), m5, (m6 - 1), m7, m8, m9, m10, m11, m12, m13, m14, m15, m16, m17, 0, 4, 0, 16]))), (a6, .inl (cI, 4000, .inl (pfX2_putBuffer_g_a6_f fb p1 0 3)))] := hD
    refine lv_iinc (v := 1) (lv' := [(2, .int 1), (0, .ref h), (1, .int p1)]) hx hb dX2_release_80 hl (k := 0) rfl (by decide) (by decide) rfl (fun ls hl => ?_)
    refine lv_goto (tgt := 57) hx hb dX2_release_83 (by decide) ?_
    refine lv_iload_n hx hb dX2_release_57 rfl (lv_at hl 0 rfl) ?_
    refine lv_bipush (v := 8) hx hb dX2_release_58 (by decide) ?_
    refine lv_icmp_ge (tgt := 86) hx hb dX2_release_60 (by decide) (fun c => absurd c (by decide)) (fun _ => ?_)
    refine lv_aload_n hx hb dX2_release_63 rfl (lv_at hl 1 rfl) ?_
    refine va_get (D := (dC, dI)) (ci := 2) (v := .ref a4) (C := RX2) (T := TX2) (N := 7) hx hb hts hinX2 hown hK hP 2 rfl rfl 4 (by decide) k_1 (fun _ h9 => h9) rfl dX2_release_64 ?_
    refine lv_iload_n hx hb dX2_release_67 rfl (lv_at hl 0 rfl) ?_
    refine za_iald (v := o1) hx hb hK hP 0 0 rfl rfl (zin tn_1 (Nat.le_of_ble_eq_true rfl)) (zrd _ tn_1 rfl) dX2_release_68 ?_
    refine lv_iload_n hx hb dX2_release_69 rfl (lv_at hl 2 rfl) ?_
    refine lv_icmp_ne (tgt := 80) hx hb dX2_release_70 (by decide) (fun c_9 => ?_) (fun c_9 => ?_)
    · refine lv_iinc (v := 2) (lv' := [(2, .int 2), (0, .ref h), (1, .int p1)]) hx hb dX2_release_80 hl (k := 0) rfl (by decide) (by decide) rfl (fun ls hl => ?_)
      refine lv_goto (tgt := 57) hx hb dX2_release_83 (by decide) ?_
      refine lv_iload_n hx hb dX2_release_57 rfl (lv_at hl 0 rfl) ?_
      refine lv_bipush (v := 8) hx hb dX2_release_58 (by decide) ?_
      refine lv_icmp_ge (tgt := 86) hx hb dX2_release_60 (by decide) (fun c => absurd c (by decide)) (fun _ => ?_)
      refine lv_aload_n hx hb dX2_release_63 rfl (lv_at hl 1 rfl) ?_
      refine va_get (D := (dC, dI)) (ci := 2) (v := .ref a4) (C := RX2) (T := TX2) (N := 7) hx hb hts hinX2 hown hK hP 2 rfl rfl 4 (by decide) k_1 (fun _ h9 => h9) rfl dX2_release_64 ?_
      refine lv_iload_n hx hb dX2_release_67 rfl (lv_at hl 0 rfl) ?_
      refine za_iald (v := o2) hx hb hK hP 0 0 rfl rfl (zin tn_2 (Nat.le_of_ble_eq_true rfl)) (zrd _ tn_2 rfl) dX2_release_68 ?_
      refine lv_iload_n hx hb dX2_release_69 rfl (lv_at hl 2 rfl) ?_
      refine lv_icmp_ne (tgt := 80) hx hb dX2_release_70 (by decide) (fun c_10 => ?_) (fun c_10 => ?_)
      · refine lv_iinc (v := 3) (lv' := [(2, .int 3), (0, .ref h), (1, .int p1)]) hx hb dX2_release_80 hl (k := 0) rfl (by decide) (by decide) rfl (fun ls hl => ?_)
        refine lv_goto (tgt := 57) hx hb dX2_release_83 (by decide) ?_
        refine lv_iload_n hx hb dX2_release_57 rfl (lv_at hl 0 rfl) ?_
        refine lv_bipush (v := 8) hx hb dX2_release_58 (by decide) ?_
        refine lv_icmp_ge (tgt := 86) hx hb dX2_release_60 (by decide) (fun c => absurd c (by decide)) (fun _ => ?_)
        refine lv_aload_n hx hb dX2_release_63 rfl (lv_at hl 1 rfl) ?_
        refine va_get (D := (dC, dI)) (ci := 2) (v := .ref a4) (C := RX2) (T := TX2) (N := 7) hx hb hts hinX2 hown hK hP 2 rfl rfl 4 (by decide) k_1 (fun _ h9 => h9) rfl dX2_release_64 ?_
        refine lv_iload_n hx hb dX2_release_67 rfl (lv_at hl 0 rfl) ?_
        refine za_iald (v := o3) hx hb hK hP 0 0 rfl rfl (zin tn_3 (Nat.le_of_ble_eq_true rfl)) (zrd _ tn_3 rfl) dX2_release_68 ?_
        refine lv_iload_n hx hb dX2_release_69 rfl (lv_at hl 2 rfl) ?_
        refine lv_icmp_ne (tgt := 80) hx hb dX2_release_70 (by decide) (fun c_11 => ?_) (fun c_11 => ?_)
        · refine lv_iinc (v := 4) (lv' := [(2, .int 4), (0, .ref h), (1, .int p1)]) hx hb dX2_release_80 hl (k := 0) rfl (by decide) (by decide) rfl (fun ls hl => ?_)
          refine lv_goto (tgt := 57) hx hb dX2_release_83 (by decide) ?_
          refine lv_iload_n hx hb dX2_release_57 rfl (lv_at hl 0 rfl) ?_
          refine lv_bipush (v := 8) hx hb dX2_release_58 (by decide) ?_
          refine lv_icmp_ge (tgt := 86) hx hb dX2_release_60 (by decide) (fun c => absurd c (by decide)) (fun _ => ?_)
          refine lv_aload_n hx hb dX2_release_63 rfl (lv_at hl 1 rfl) ?_
          refine va_get (D := (dC, dI)) (ci := 2) (v := .ref a4) (C := RX2) (T := TX2) (N := 7) hx hb hts hinX2 hown hK hP 2 rfl rfl 4 (by decide) k_1 (fun _ h9 => h9) rfl dX2_release_64 ?_
          refine lv_iload_n hx hb dX2_release_67 rfl (lv_at hl 0 rfl) ?_
          refine za_iald (v := (-1)) hx hb hK hP 0 0 rfl rfl (zin tn_4 (Nat.le_of_ble_eq_true rfl)) (zrd _ tn_4 rfl) dX2_release_68 ?_
          refine lv_iload_n hx hb dX2_release_69 rfl (lv_at hl 2 rfl) ?_
          refine lv_icmp_ne (tgt := 80) hx hb dX2_release_70 (by decide) (fun _ => ?_) (fun c => absurd c hp)
          refine lv_iinc (v := 5) (lv' := [(2, .int 5), (0, .ref h), (1, .int p1)]) hx hb dX2_release_80 hl (k := 0) rfl (by decide) (by decide) rfl (fun ls hl => ?_)
          refine lv_goto (tgt := 57) hx hb dX2_release_83 (by decide) ?_
          refine lv_iload_n hx hb dX2_release_57 rfl (lv_at hl 0 rfl) ?_
          refine lv_bipush (v := 8) hx hb dX2_release_58 (by decide) ?_
          refine lv_icmp_ge (tgt := 86) hx hb dX2_release_60 (by decide) (fun c => absurd c (by decide)) (fun _ => ?_)
          refine lv_aload_n hx hb dX2_release_63 rfl (lv_at hl 1 rfl) ?_
          refine va_get (D := (dC, dI)) (ci := 2) (v := .ref a4) (C := RX2) (T := TX2) (N := 7) hx hb hts hinX2 hown hK hP 2 rfl rfl 4 (by decide) k_1 (fun _ h9 => h9) rfl dX2_release_64 ?_
          refine lv_iload_n hx hb dX2_release_67 rfl (lv_at hl 0 rfl) ?_
          refine za_iald (v := (-1)) hx hb hK hP 0 0 rfl rfl (zin tn_5 (Nat.le_of_ble_eq_true rfl)) (zrd _ tn_5 rfl) dX2_release_68 ?_
          refine lv_iload_n hx hb dX2_release_69 rfl (lv_at hl 2 rfl) ?_
          refine lv_icmp_ne (tgt := 80) hx hb dX2_release_70 (by decide) (fun _ => ?_) (fun c => absurd c hp)
          refine lv_iinc (v := 6) (lv' := [(2, .int 6), (0, .ref h), (1, .int p1)]) hx hb dX2_release_80 hl (k := 0) rfl (by decide) (by decide) rfl (fun ls hl => ?_)
          refine lv_goto (tgt := 57) hx hb dX2_release_83 (by decide) ?_
          refine lv_iload_n hx hb dX2_release_57 rfl (lv_at hl 0 rfl) ?_
          refine lv_bipush (v := 8) hx hb dX2_release_58 (by decide) ?_
          refine lv_icmp_ge (tgt := 86) hx hb dX2_release_60 (by decide) (fun c => absurd c (by decide)) (fun _ => ?_)
          refine lv_aload_n hx hb dX2_release_63 rfl (lv_at hl 1 rfl) ?_
          refine va_get (D := (dC, dI)) (ci := 2) (v := .ref a4) (C := RX2) (T := TX2) (N := 7) hx hb hts hinX2 hown hK hP 2 rfl rfl 4 (by decide) k_1 (fun _ h9 => h9) rfl dX2_release_64 ?_
          refine lv_iload_n hx hb dX2_release_67 rfl (lv_at hl 0 rfl) ?_
          refine za_iald (v := (-1)) hx hb hK hP 0 0 rfl rfl (zin tn_6 (Nat.le_of_ble_eq_true rfl)) (zrd _ tn_6 rfl) dX2_release_68 ?_
          refine lv_iload_n hx hb dX2_release_69 rfl (lv_at hl 2 rfl) ?_
          refine lv_icmp_ne (tgt := 80) hx hb dX2_release_70 (by decide) (fun _ => ?_) (fun c => absurd c hp)
          refine lv_iinc (v := 7) (lv' := [(2, .int 7), (0, .ref h), (1, .int p1)]) hx hb dX2_release_80 hl (k := 0) rfl (by decide) (by decide) rfl (fun ls hl => ?_)
          refine lv_goto (tgt := 57) hx hb dX2_release_83 (by decide) ?_
          refine lv_iload_n hx hb dX2_release_57 rfl (lv_at hl 0 rfl) ?_
          refine lv_bipush (v := 8) hx hb dX2_release_58 (by decide) ?_
          refine lv_icmp_ge (tgt := 86) hx hb dX2_release_60 (by decide) (fun c => absurd c (by decide)) (fun _ => ?_)
          refine lv_aload_n hx hb dX2_release_63 rfl (lv_at hl 1 rfl) ?_
          refine va_get (D := (dC, dI)) (ci := 2) (v := .ref a4) (C := RX2) (T := TX2) (N := 7) hx hb hts hinX2 hown hK hP 2 rfl rfl 4 (by decide) k_1 (fun _ h9 => h9) rfl dX2_release_64 ?_
          refine lv_iload_n hx hb dX2_release_67 rfl (lv_at hl 0 rfl) ?_
          refine za_iald (v := (-1)) hx hb hK hP 0 0 rfl rfl (zin tn_7 (Nat.le_of_ble_eq_true rfl)) (zrd _ tn_7 rfl) dX2_release_68 ?_
          refine lv_iload_n hx hb dX2_release_69 rfl (lv_at hl 2 rfl) ?_
          refine lv_icmp_ne (tgt := 80) hx hb dX2_release_70 (by decide) (fun _ => ?_) (fun c => absurd c hp)
          refine lv_iinc (v := 8) (lv' := [(2, .int 8), (0, .ref h), (1, .int p1)]) hx hb dX2_release_80 hl (k := 0) rfl (by decide) (by decide) rfl (fun ls hl => ?_)
          refine lv_goto (tgt := 57) hx hb dX2_release_83 (by decide) ?_
          refine lv_iload_n hx hb dX2_release_57 rfl (lv_at hl 0 rfl) ?_
          refine lv_bipush (v := 8) hx hb dX2_release_58 (by decide) ?_
          refine lv_icmp_ge (tgt := 86) hx hb dX2_release_60 (by decide) (fun _ => ?_) (fun c => absurd (by decide) c)
          refine lv_iconst (v := 1) hx hb dX2_release_86 (by decide) ?_
          refine lv_istore_n (lv' := [(2, .int 1), (0, .ref h), (1, .int p1)]) hx hb dX2_release_87 rfl hl (by decide) rfl (fun ls hl => ?_)
          refine lv_iload_n hx hb dX2_release_88 rfl (lv_at hl 0 rfl) ?_
          refine lv_iconst (v := 5) hx hb dX2_release_89 (by decide) ?_
          refine lv_icmp_ge (tgt := 116) hx hb dX2_release_90 (by decide) (fun c => absurd c (by decide)) (fun _ => ?_)
          refine lv_aload_n hx hb dX2_release_93 rfl (lv_at hl 1 rfl) ?_
          refine va_get (D := (dC, dI)) (ci := 2) (v := .ref a5) (C := RX2) (T := TX2) (N := 7) hx hb hts hinX2 hown hK hP 2 rfl rfl 5 (by decide) k_2 (fun _ h9 => h9) rfl dX2_release_94 ?_
          refine lv_iload_n hx hb dX2_release_97 rfl (lv_at hl 0 rfl) ?_
          refine za_iald (v := (-1)) hx hb hK hP 1 0 rfl rfl (zin tn_1 (Nat.le_of_ble_eq_true rfl)) (zrd _ tn_1 rfl) dX2_release_98 ?_
          refine lv_iload_n hx hb dX2_release_99 rfl (lv_at hl 2 rfl) ?_
          refine lv_icmp_ne (tgt := 110) hx hb dX2_release_100 (by decide) (fun _ => ?_) (fun c => absurd c hp)
          refine lv_iinc (v := 2) (lv' := [(2, .int 2), (0, .ref h), (1, .int p1)]) hx hb dX2_release_110 hl (k := 0) rfl (by decide) (by decide) rfl (fun ls hl => ?_)
          refine lv_goto (tgt := 88) hx hb dX2_release_113 (by decide) ?_
          refine lv_iload_n hx hb dX2_release_88 rfl (lv_at hl 0 rfl) ?_
          refine lv_iconst (v := 5) hx hb dX2_release_89 (by decide) ?_
          refine lv_icmp_ge (tgt := 116) hx hb dX2_release_90 (by decide) (fun c => absurd c (by decide)) (fun _ => ?_)
          refine lv_aload_n hx hb dX2_release_93 rfl (lv_at hl 1 rfl) ?_
          refine va_get (D := (dC, dI)) (ci := 2) (v := .ref a5) (C := RX2) (T := TX2) (N := 7) hx hb hts hinX2 hown hK hP 2 rfl rfl 5 (by decide) k_2 (fun _ h9 => h9) rfl dX2_release_94 ?_
          refine lv_iload_n hx hb dX2_release_97 rfl (lv_at hl 0 rfl) ?_
          refine za_iald (v := (-1)) hx hb hK hP 1 0 rfl rfl (zin tn_2 (Nat.le_of_ble_eq_true rfl)) (zrd _ tn_2 rfl) dX2_release_98 ?_
          refine lv_iload_n hx hb dX2_release_99 rfl (lv_at hl 2 rfl) ?_
          refine lv_icmp_ne (tgt := 110) hx hb dX2_release_100 (by decide) (fun _ => ?_) (fun c => absurd c hp)
          refine lv_iinc (v := 3) (lv' := [(2, .int 3), (0, .ref h), (1, .int p1)]) hx hb dX2_release_110 hl (k := 0) rfl (by decide) (by decide) rfl (fun ls hl => ?_)
          refine lv_goto (tgt := 88) hx hb dX2_release_113 (by decide) ?_
          refine lv_iload_n hx hb dX2_release_88 rfl (lv_at hl 0 rfl) ?_
          refine lv_iconst (v := 5) hx hb dX2_release_89 (by decide) ?_
          refine lv_icmp_ge (tgt := 116) hx hb dX2_release_90 (by decide) (fun c => absurd c (by decide)) (fun _ => ?_)
          refine lv_aload_n hx hb dX2_release_93 rfl (lv_at hl 1 rfl) ?_
          refine va_get (D := (dC, dI)) (ci := 2) (v := .ref a5) (C := RX2) (T := TX2) (N := 7) hx hb hts hinX2 hown hK hP 2 rfl rfl 5 (by decide) k_2 (fun _ h9 => h9) rfl dX2_release_94 ?_
          refine lv_iload_n hx hb dX2_release_97 rfl (lv_at hl 0 rfl) ?_
          refine za_iald (v := (-1)) hx hb hK hP 1 0 rfl rfl (zin tn_3 (Nat.le_of_ble_eq_true rfl)) (zrd _ tn_3 rfl) dX2_release_98 ?_
          refine lv_iload_n hx hb dX2_release_99 rfl (lv_at hl 2 rfl) ?_
          refine lv_icmp_ne (tgt := 110) hx hb dX2_release_100 (by decide) (fun _ => ?_) (fun c => absurd c hp)
          refine lv_iinc (v := 4) (lv' := [(2, .int 4), (0, .ref h), (1, .int p1)]) hx hb dX2_release_110 hl (k := 0) rfl (by decide) (by decide) rfl (fun ls hl => ?_)
          refine lv_goto (tgt := 88) hx hb dX2_release_113 (by decide) ?_
          refine lv_iload_n hx hb dX2_release_88 rfl (lv_at hl 0 rfl) ?_
          refine lv_iconst (v := 5) hx hb dX2_release_89 (by decide) ?_
          refine lv_icmp_ge (tgt := 116) hx hb dX2_release_90 (by decide) (fun c => absurd c (by decide)) (fun _ => ?_)
          refine lv_aload_n hx hb dX2_release_93 rfl (lv_at hl 1 rfl) ?_
          refine va_get (D := (dC, dI)) (ci := 2) (v := .ref a5) (C := RX2) (T := TX2) (N := 7) hx hb hts hinX2 hown hK hP 2 rfl rfl 5 (by decide) k_2 (fun _ h9 => h9) rfl dX2_release_94 ?_
          refine lv_iload_n hx hb dX2_release_97 rfl (lv_at hl 0 rfl) ?_
          refine za_iald (v := (-1)) hx hb hK hP 1 0 rfl rfl (zin tn_4 (Nat.le_of_ble_eq_true rfl)) (zrd _ tn_4 rfl) dX2_release_98 ?_
          refine lv_iload_n hx hb dX2_release_99 rfl (lv_at hl 2 rfl) ?_
          refine lv_icmp_ne (tgt := 110) hx hb dX2_release_100 (by decide) (fun _ => ?_) (fun c => absurd c hp)
          refine lv_iinc (v := 5) (lv' := [(2, .int 5), (0, .ref h), (1, .int p1)]) hx hb dX2_release_110 hl (k := 0) rfl (by decide) (by decide) rfl (fun ls hl => ?_)
          refine lv_goto (tgt := 88) hx hb dX2_release_113 (by decide) ?_
          refine lv_iload_n hx hb dX2_release_88 rfl (lv_at hl 0 rfl) ?_
          refine lv_iconst (v := 5) hx hb dX2_release_89 (by decide) ?_
          refine lv_icmp_ge (tgt := 116) hx hb dX2_release_90 (by decide) (fun _ => ?_) (fun c => absurd (by decide) c)
          have e_0 : (pfX2_release_a4_0 o0 p1) = (-1) := by rw [pfX2_release_a4_0, if_pos c_1]
          have e_1 : (pfX2_release_a4_1 o1 p1) = o1 := by rw [pfX2_release_a4_1, if_neg c_9]
          have e_2 : (pfX2_release_a4_2 o2 p1) = o2 := by rw [pfX2_release_a4_2, if_neg c_10]
          have e_3 : (pfX2_release_a4_3 o3 p1) = o3 := by rw [pfX2_release_a4_3, if_neg c_11]
          have hP9 := hP.sub (ws' := [(h, .inr (2, [.ref a0, .ref a1, .ref a2, .ref a3, .ref a4, .ref a5, .ref a6])), (a0, .inl (cI, 22, .inl (gl [m0, m1, m2, ((m3 + 1) &&& 15), (m4 + (pfX2_ofBuffer_g_r m5 (pfX2_putBuffer_g_a6_f fb p1 0 3) p1 7)), m5, (m6 - 1), m7, m8, m9, m10, m11, m12, m13, m14, m15, m16, m17, 0, 4, 0, 16]))), (a4, .inl (cI, 8, .inl (gl [(-1), o1, o2, o3, (-1), (-1), (-1), (-1)]))), (a5, .inl (cI, 5, .inl (gl [(-1), (-1), (-1), (-1), (-1)]))), (a6, .inl (cI, 4000, .inl (pfX2_putBuffer_g_a6_f fb p1 0 3)))]) [2, 3, 0, 1, 4] rfl
          have hD9 := hD.sub (ws' := [(h, .inr (2, [.ref a0, .ref a1, .ref a2, .ref a3, .ref a4, .ref a5, .ref a6])), (a0, .inl (cI, 22, .inl (gl [m0, m1, m2, ((m3 + 1) &&& 15), (m4 + (pfX2_ofBuffer_g_r m5 (pfX2_putBuffer_g_a6_f fb p1 0 3) p1 7)), m5, (m6 - 1), m7, m8, m9, m10, m11, m12, m13, m14, m15, m16, m17, 0, 4, 0, 16]))), (a4, .inl (cI, 8, .inl (gl [(-1), o1, o2, o3, (-1), (-1), (-1), (-1)]))), (a5, .inl (cI, 5, .inl (gl [(-1), (-1), (-1), (-1), (-1)]))), (a6, .inl (cI, 4000, .inl (pfX2_putBuffer_g_a6_f fb p1 0 3)))]) [2, 3, 0, 1, 4] (by decide) rfl
          exact W.vret hx hb hr (fun t ht hW => ⟨⟨(), rfl, trivial, by rw [ht, e_0, e_1, e_2, e_3]; exact hP9, va_K.moved hW.alike hK, (by rw [e_0, e_1, e_2, e_3]; exact hD9)⟩, hS.F ht⟩) hS.2.2 dX2_release_116
        · refine lv_aload_n hx hb dX2_release_73 rfl (lv_at hl 1 rfl) ?_
          refine va_get (D := (dC, dI)) (ci := 2) (v := .ref a4) (C := RX2) (T := TX2) (N := 7) hx hb hts hinX2 hown hK hP 2 rfl rfl 4 (by decide) k_1 (fun _ h9 => h9) rfl dX2_release_74 ?_
          refine lv_iload_n hx hb dX2_release_77 rfl (lv_at hl 0 rfl) ?_
          refine lv_iconst (v := (-1)) hx hb dX2_release_78 (by decide) ?_
          refine za_iast (f' := (gl [(-1), o1, o2, (-1), (-1), (-1), (-1), (-1)])) hx hb hK hP hD hS 0 0 rfl rfl (zin tn_3 (Nat.le_of_ble_eq_true rfl)) (zup_gl tn_3 (Nat.le_of_ble_eq_true rfl) rfl) dX2_release_79 (fun H locs hP hD hS => ?_)
          have hP : va_P (dC, dI) vwCl [(a4, .inl (cI, 8, .inl (gl [(-1), o1, o2, (-1), (-1), (-1), (-1), (-1)]))), (a5, .inl (cI, 5, .inl (gl [(-1), (-1), (-1), (-1), (-1)]))), (h, .inr (2, [.ref a0, .ref a1, .ref a2, .ref a3, .ref a4, .ref a5, .ref a6])), (a0, .inl (cI, 22, .inl (gl [m0, m1, m2, ((m3 + 1) &&& 15), (m4 + (pfX2_ofBuffer_g_r m5 (pfX2_putBuffer_g_a6_f fb p1 0 3) p1 7)), m5, (m6 - 1), m7, m8, m9, m10, m11, m12, m13, m14, m15, m16, m17, 0, 4, 0, 16]))), (a6, .inl (cI, 4000, .inl (pfX2_putBuffer_g_a6_f fb p1 0 3)))] H := hP
          have hD : va_D A [(a4, .inl (cI, 8, .inl (gl [(-1), o1, o2, (-1), (-1), (-1), (-1), (-1)]))), (a5, .inl (cI, 5, .inl (gl [(-1), (-1), (-1), (-1), (-1)]))), (h, .inr (2, [.ref a0, .ref a1, .ref a2, .ref a3, .ref a4, .ref a5, .ref a6])), (a0, .inl (cI, 22, .inl (gl [m0, m1, m2, ((m3 + 1) &&& 15), (m4 + (pfX2_ofBuffer_g_r m5 (pfX2_putBuffer_g_a6_f fb p1 0 3) p1 7)), m5, (m6 - 1), m7, m8, m9, m10, m11, m12, m13, m14, m15, m16, m17, 0, 4, 0, 16]))), (a6, .inl (cI, 4000, .inl (pfX2_putBuffer_g_a6_f fb p1 0 3)))] := hD
          refine lv_iinc (v := 4) (lv' := [(2, .int 4), (0, .ref h), (1, .int p1)]) hx hb dX2_release_80 hl (k := 0) rfl (by decide) (by decide) rfl (fun ls hl => ?_)
          refine lv_goto (tgt := 57) hx hb dX2_release_83 (by decide) ?_
          refine lv_iload_n hx hb dX2_release_57 rfl (lv_at hl 0 rfl) ?_
          refine lv_bipush (v := 8) hx hb dX2_release_58 (by decide) ?_
          refine lv_icmp_ge (tgt := 86) hx hb dX2_release_60 (by decide) (fun c => absurd c (by decide)) (fun _ => ?_)
          refine lv_aload_n hx hb dX2_release_63 rfl (lv_at hl 1 rfl) ?_
          refine va_get (D := (dC, dI)) (ci := 2) (v := .ref a4) (C := RX2) (T := TX2) (N := 7) hx hb hts hinX2 hown hK hP 2 rfl rfl 4 (by decide) k_1 (fun _ h9 => h9) rfl dX2_release_64 ?_
          refine lv_iload_n hx hb dX2_release_67 rfl (lv_at hl 0 rfl) ?_
          refine za_iald (v := (-1)) hx hb hK hP 0 0 rfl rfl (zin tn_4 (Nat.le_of_ble_eq_true rfl)) (zrd _ tn_4 rfl) dX2_release_68 ?_
          refine lv_iload_n hx hb dX2_release_69 rfl (lv_at hl 2 rfl) ?_
          refine lv_icmp_ne (tgt := 80) hx hb dX2_release_70 (by decide) (fun _ => ?_) (fun c => absurd c hp)
          refine lv_iinc (v := 5) (lv' := [(2, .int 5), (0, .ref h), (1, .int p1)]) hx hb dX2_release_80 hl (k := 0) rfl (by decide) (by decide) rfl (fun ls hl => ?_)
          refine lv_goto (tgt := 57) hx hb dX2_release_83 (by decide) ?_
          refine lv_iload_n hx hb dX2_release_57 rfl (lv_at hl 0 rfl) ?_
          refine lv_bipush (v := 8) hx hb dX2_release_58 (by decide) ?_
          refine lv_icmp_ge (tgt := 86) hx hb dX2_release_60 (by decide) (fun c => absurd c (by decide)) (fun _ => ?_)
          refine lv_aload_n hx hb dX2_release_63 rfl (lv_at hl 1 rfl) ?_
          refine va_get (D := (dC, dI)) (ci := 2) (v := .ref a4) (C := RX2) (T := TX2) (N := 7) hx hb hts hinX2 hown hK hP 2 rfl rfl 4 (by decide) k_1 (fun _ h9 => h9) rfl dX2_release_64 ?_
          refine lv_iload_n hx hb dX2_release_67 rfl (lv_at hl 0 rfl) ?_
          refine za_iald (v := (-1)) hx hb hK hP 0 0 rfl rfl (zin tn_5 (Nat.le_of_ble_eq_true rfl)) (zrd _ tn_5 rfl) dX2_release_68 ?_
          refine lv_iload_n hx hb dX2_release_69 rfl (lv_at hl 2 rfl) ?_
          refine lv_icmp_ne (tgt := 80) hx hb dX2_release_70 (by decide) (fun _ => ?_) (fun c => absurd c hp)
          refine lv_iinc (v := 6) (lv' := [(2, .int 6), (0, .ref h), (1, .int p1)]) hx hb dX2_release_80 hl (k := 0) rfl (by decide) (by decide) rfl (fun ls hl => ?_)
          refine lv_goto (tgt := 57) hx hb dX2_release_83 (by decide) ?_
          refine lv_iload_n hx hb dX2_release_57 rfl (lv_at hl 0 rfl) ?_
          refine lv_bipush (v := 8) hx hb dX2_release_58 (by decide) ?_
          refine lv_icmp_ge (tgt := 86) hx hb dX2_release_60 (by decide) (fun c => absurd c (by decide)) (fun _ => ?_)
          refine lv_aload_n hx hb dX2_release_63 rfl (lv_at hl 1 rfl) ?_
          refine va_get (D := (dC, dI)) (ci := 2) (v := .ref a4) (C := RX2) (T := TX2) (N := 7) hx hb hts hinX2 hown hK hP 2 rfl rfl 4 (by decide) k_1 (fun _ h9 => h9) rfl dX2_release_64 ?_
          refine lv_iload_n hx hb dX2_release_67 rfl (lv_at hl 0 rfl) ?_
          refine za_iald (v := (-1)) hx hb hK hP 0 0 rfl rfl (zin tn_6 (Nat.le_of_ble_eq_true rfl)) (zrd _ tn_6 rfl) dX2_release_68 ?_
          refine lv_iload_n hx hb dX2_release_69 rfl (lv_at hl 2 rfl) ?_
          refine lv_icmp_ne (tgt := 80) hx hb dX2_release_70 (by decide) (fun _ => ?_) (fun c => absurd c hp)
          refine lv_iinc (v := 7) (lv' := [(2, .int 7), (0, .ref h), (1, .int p1)]) hx hb dX2_release_80 hl (k := 0) rfl (by decide) (by decide) rfl (fun ls hl => ?_)
          refine lv_goto (tgt := 57) hx hb dX2_release_83 (by decide) ?_
          refine lv_iload_n hx hb dX2_release_57 rfl (lv_at hl 0 rfl) ?_
          refine lv_bipush (v := 8) hx hb dX2_release_58 (by decide) ?_
          refine lv_icmp_ge (tgt := 86) hx hb dX2_release_60 (by decide) (fun c => absurd c (by decide)) (fun _ => ?_)
          refine lv_aload_n hx hb dX2_release_63 rfl (lv_at hl 1 rfl) ?_
          refine va_get (D := (dC, dI)) (ci := 2) (v := .ref a4) (C := RX2) (T := TX2) (N := 7) hx hb hts hinX2 hown hK hP 2 rfl rfl 4 (by decide) k_1 (fun _ h9 => h9) rfl dX2_release_64 ?_
          refine lv_iload_n hx hb dX2_release_67 rfl (lv_at hl 0 rfl) ?_
          refine za_iald (v := (-1)) hx hb hK hP 0 0 rfl rfl (zin tn_7 (Nat.le_of_ble_eq_true rfl)) (zrd _ tn_7 rfl) dX2_release_68 ?_
          refine lv_iload_n hx hb dX2_release_69 rfl (lv_at hl 2 rfl) ?_
          refine lv_icmp_ne (tgt := 80) hx hb dX2_release_70 (by decide) (fun _ => ?_) (fun c => absurd c hp)
          refine lv_iinc (v := 8) (lv' := [(2, .int 8), (0, .ref h), (1, .int p1)]) hx hb dX2_release_80 hl (k := 0) rfl (by decide) (by decide) rfl (fun ls hl => ?_)
          refine lv_goto (tgt := 57) hx hb dX2_release_83 (by decide) ?_
          refine lv_iload_n hx hb dX2_release_57 rfl (lv_at hl 0 rfl) ?_
          refine lv_bipush (v := 8) hx hb dX2_release_58 (by decide) ?_
          refine lv_icmp_ge (tgt := 86) hx hb dX2_release_60 (by decide) (fun _ => ?_) (fun c => absurd (by decide) c)
          refine lv_iconst (v := 1) hx hb dX2_release_86 (by decide) ?_
          refine lv_istore_n (lv' := [(2, .int 1), (0, .ref h), (1, .int p1)]) hx hb dX2_release_87 rfl hl (by decide) rfl (fun ls hl => ?_)
          refine lv_iload_n hx hb dX2_release_88 rfl (lv_at hl 0 rfl) ?_
          refine lv_iconst (v := 5) hx hb dX2_release_89 (by decide) ?_
          refine lv_icmp_ge (tgt := 116) hx hb dX2_release_90 (by decide) (fun c => absurd c (by decide)) (fun _ => ?_)
          refine lv_aload_n hx hb dX2_release_93 rfl (lv_at hl 1 rfl) ?_
          refine va_get (D := (dC, dI)) (ci := 2) (v := .ref a5) (C := RX2) (T := TX2) (N := 7) hx hb hts hinX2 hown hK hP 2 rfl rfl 5 (by decide) k_2 (fun _ h9 => h9) rfl dX2_release_94 ?_
          refine lv_iload_n hx hb dX2_release_97 rfl (lv_at hl 0 rfl) ?_
          refine za_iald (v := (-1)) hx hb hK hP 1 0 rfl rfl (zin tn_1 (Nat.le_of_ble_eq_true rfl)) (zrd _ tn_1 rfl) dX2_release_98 ?_
          refine lv_iload_n hx hb dX2_release_99 rfl (lv_at hl 2 rfl) ?_
          refine lv_icmp_ne (tgt := 110) hx hb dX2_release_100 (by decide) (fun _ => ?_) (fun c => absurd c hp)
          refine lv_iinc (v := 2) (lv' := [(2, .int 2), (0, .ref h), (1, .int p1)]) hx hb dX2_release_110 hl (k := 0) rfl (by decide) (by decide) rfl (fun ls hl => ?_)
          refine lv_goto (tgt := 88) hx hb dX2_release_113 (by decide) ?_
          refine lv_iload_n hx hb dX2_release_88 rfl (lv_at hl 0 rfl) ?_
          refine lv_iconst (v := 5) hx hb dX2_release_89 (by decide) ?_
          refine lv_icmp_ge (tgt := 116) hx hb dX2_release_90 (by decide) (fun c => absurd c (by decide)) (fun _ => ?_)
          refine lv_aload_n hx hb dX2_release_93 rfl (lv_at hl 1 rfl) ?_
          refine va_get (D := (dC, dI)) (ci := 2) (v := .ref a5) (C := RX2) (T := TX2) (N := 7) hx hb hts hinX2 hown hK hP 2 rfl rfl 5 (by decide) k_2 (fun _ h9 => h9) rfl dX2_release_94 ?_
          refine lv_iload_n hx hb dX2_release_97 rfl (lv_at hl 0 rfl) ?_
          refine za_iald (v := (-1)) hx hb hK hP 1 0 rfl rfl (zin tn_2 (Nat.le_of_ble_eq_true rfl)) (zrd _ tn_2 rfl) dX2_release_98 ?_
          refine lv_iload_n hx hb dX2_release_99 rfl (lv_at hl 2 rfl) ?_
          refine lv_icmp_ne (tgt := 110) hx hb dX2_release_100 (by decide) (fun _ => ?_) (fun c => absurd c hp)
          refine lv_iinc (v := 3) (lv' := [(2, .int 3), (0, .ref h), (1, .int p1)]) hx hb dX2_release_110 hl (k := 0) rfl (by decide) (by decide) rfl (fun ls hl => ?_)
          refine lv_goto (tgt := 88) hx hb dX2_release_113 (by decide) ?_
          refine lv_iload_n hx hb dX2_release_88 rfl (lv_at hl 0 rfl) ?_
          refine lv_iconst (v := 5) hx hb dX2_release_89 (by decide) ?_
          refine lv_icmp_ge (tgt := 116) hx hb dX2_release_90 (by decide) (fun c => absurd c (by decide)) (fun _ => ?_)
          refine lv_aload_n hx hb dX2_release_93 rfl (lv_at hl 1 rfl) ?_
          refine va_get (D := (dC, dI)) (ci := 2) (v := .ref a5) (C := RX2) (T := TX2) (N := 7) hx hb hts hinX2 hown hK hP 2 rfl rfl 5 (by decide) k_2 (fun _ h9 => h9) rfl dX2_release_94 ?_
          refine lv_iload_n hx hb dX2_release_97 rfl (lv_at hl 0 rfl) ?_
          refine za_iald (v := (-1)) hx hb hK hP 1 0 rfl rfl (zin tn_3 (Nat.le_of_ble_eq_true rfl)) (zrd _ tn_3 rfl) dX2_release_98 ?_
          refine lv_iload_n hx hb dX2_release_99 rfl (lv_at hl 2 rfl) ?_
          refine lv_icmp_ne (tgt := 110) hx hb dX2_release_100 (by decide) (fun _ => ?_) (fun c => absurd c hp)
          refine lv_iinc (v := 4) (lv' := [(2, .int 4), (0, .ref h), (1, .int p1)]) hx hb dX2_release_110 hl (k := 0) rfl (by decide) (by decide) rfl (fun ls hl => ?_)
          refine lv_goto (tgt := 88) hx hb dX2_release_113 (by decide) ?_
          refine lv_iload_n hx hb dX2_release_88 rfl (lv_at hl 0 rfl) ?_
          refine lv_iconst (v := 5) hx hb dX2_release_89 (by decide) ?_
          refine lv_icmp_ge (tgt := 116) hx hb dX2_release_90 (by decide) (fun c => absurd c (by decide)) (fun _ => ?_)
          refine lv_aload_n hx hb dX2_release_93 rfl (lv_at hl 1 rfl) ?_
          refine va_get (D := (dC, dI)) (ci := 2) (v := .ref a5) (C := RX2) (T := TX2) (N := 7) hx hb hts hinX2 hown hK hP 2 rfl rfl 5 (by decide) k_2 (fun _ h9 => h9) rfl dX2_release_94 ?_
          refine lv_iload_n hx hb dX2_release_97 rfl (lv_at hl 0 rfl) ?_
          refine za_iald (v := (-1)) hx hb hK hP 1 0 rfl rfl (zin tn_4 (Nat.le_of_ble_eq_true rfl)) (zrd _ tn_4 rfl) dX2_release_98 ?_
          refine lv_iload_n hx hb dX2_release_99 rfl (lv_at hl 2 rfl) ?_
          refine lv_icmp_ne (tgt := 110) hx hb dX2_release_100 (by decide) (fun _ => ?_) (fun c => absurd c hp)
          refine lv_iinc (v := 5) (lv' := [(2, .int 5), (0, .ref h), (1, .int p1)]) hx hb dX2_release_110 hl (k := 0) rfl (by decide) (by decide) rfl (fun ls hl => ?_)
          refine lv_goto (tgt := 88) hx hb dX2_release_113 (by decide) ?_
          refine lv_iload_n hx hb dX2_release_88 rfl (lv_at hl 0 rfl) ?_
          refine lv_iconst (v := 5) hx hb dX2_release_89 (by decide) ?_
          refine lv_icmp_ge (tgt := 116) hx hb dX2_release_90 (by decide) (fun _ => ?_) (fun c => absurd (by decide) c)
          have e_0 : (pfX2_release_a4_0 o0 p1) = (-1) := by rw [pfX2_release_a4_0, if_pos c_1]
          have e_1 : (pfX2_release_a4_1 o1 p1) = o1 := by rw [pfX2_release_a4_1, if_neg c_9]
          have e_2 : (pfX2_release_a4_2 o2 p1) = o2 := by rw [pfX2_release_a4_2, if_neg c_10]
          have e_3 : (pfX2_release_a4_3 o3 p1) = (-1) := by rw [pfX2_release_a4_3, if_pos c_11]
          have hP9 := hP.sub (ws' := [(h, .inr (2, [.ref a0, .ref a1, .ref a2, .ref a3, .ref a4, .ref a5, .ref a6])), (a0, .inl (cI, 22, .inl (gl [m0, m1, m2, ((m3 + 1) &&& 15), (m4 + (pfX2_ofBuffer_g_r m5 (pfX2_putBuffer_g_a6_f fb p1 0 3) p1 7)), m5, (m6 - 1), m7, m8, m9, m10, m11, m12, m13, m14, m15, m16, m17, 0, 4, 0, 16]))), (a4, .inl (cI, 8, .inl (gl [(-1), o1, o2, (-1), (-1), (-1), (-1), (-1)]))), (a5, .inl (cI, 5, .inl (gl [(-1), (-1), (-1), (-1), (-1)]))), (a6, .inl (cI, 4000, .inl (pfX2_putBuffer_g_a6_f fb p1 0 3)))]) [2, 3, 0, 1, 4] rfl
          have hD9 := hD.sub (ws' := [(h, .inr (2, [.ref a0, .ref a1, .ref a2, .ref a3, .ref a4, .ref a5, .ref a6])), (a0, .inl (cI, 22, .inl (gl [m0, m1, m2, ((m3 + 1) &&& 15), (m4 + (pfX2_ofBuffer_g_r m5 (pfX2_putBuffer_g_a6_f fb p1 0 3) p1 7)), m5, (m6 - 1), m7, m8, m9, m10, m11, m12, m13, m14, m15, m16, m17, 0, 4, 0, 16]))), (a4, .inl (cI, 8, .inl (gl [(-1), o1, o2, (-1), (-1), (-1), (-1), (-1)]))), (a5, .inl (cI, 5, .inl (gl [(-1), (-1), (-1), (-1), (-1)]))), (a6, .inl (cI, 4000, .inl (pfX2_putBuffer_g_a6_f fb p1 0 3)))]) [2, 3, 0, 1, 4] (by decide) rfl
          exact W.vret hx hb hr (fun t ht hW => ⟨⟨(), rfl, trivial, by rw [ht, e_0, e_1, e_2, e_3]; exact hP9, va_K.moved hW.alike hK, (by rw [e_0, e_1, e_2, e_3]; exact hD9)⟩, hS.F ht⟩) hS.2.2 dX2_release_116
      · refine lv_aload_n hx hb dX2_release_73 rfl (lv_at hl 1 rfl) ?_
        refine va_get (D := (dC, dI)) (ci := 2) (v := .ref a4) (C := RX2) (T := TX2) (N := 7) hx hb hts hinX2 hown hK hP 2 rfl rfl 4 (by decide) k_1 (fun _ h9 => h9) rfl dX2_release_74 ?_
        refine lv_iload_n hx hb dX2_release_77 rfl (lv_at hl 0 rfl) ?_
        refine lv_iconst (v := (-1)) hx hb dX2_release_78 (by decide) ?_
        refine za_iast (f' := (gl [(-1), o1, (-1), o3, (-1), (-1), (-1), (-1)])) hx hb hK hP hD hS 0 0 rfl rfl (zin tn_2 (Nat.le_of_ble_eq_true rfl)) (zup_gl tn_2 (Nat.le_of_ble_eq_true rfl) rfl) dX2_release_79 (fun H locs hP hD hS => ?_)
        have hP : va_P (dC, dI) vwCl [(a4, .inl (cI, 8, .inl (gl [(-1), o1, (-1), o3, (-1), (-1), (-1), (-1)]))), (a5, .inl (cI, 5, .inl (gl [(-1), (-1), (-1), (-1), (-1)]))), (h, .inr (2, [.ref a0, .ref a1, .ref a2, .ref a3, .ref a4, .ref a5, .ref a6])), (a0, .inl (cI, 22, .inl (gl [m0, m1, m2, ((m3 + 1) &&& 15), (m4 + (pfX2_ofBuffer_g_r m5 (pfX2_putBuffer_g_a6_f fb p1 0 3) p1 7)), m5, (m6 - 1), m7, m8, m9, m10, m11, m12, m13, m14, m15, m16, m17, 0, 4, 0, 16]))), (a6, .inl (cI, 4000, .inl (pfX2_putBuffer_g_a6_f fb p1 0 3)))] H := hP
        have hD : va_D A [(a4, .inl (cI, 8, .inl (gl [(-1), o1, (-1), o3, (-1), (-1), (-1), (-1)]))), (a5, .inl (cI, 5, .inl (gl [(-1), (-1), (-1), (-1), (-1)]))), (h, .inr (2, [.ref a0, .ref a1, .ref a2, .ref a3, .ref a4, .ref a5, .ref a6])), (a0, .inl (cI, 22, .inl (gl [m0, m1, m2, ((m3 + 1) &&& 15), (m4 + (pfX2_ofBuffer_g_r m5 (pfX2_putBuffer_g_a6_f fb p1 0 3) p1 7)), m5, (m6 - 1), m7, m8, m9, m10, m11, m12, m13, m14, m15, m16, m17, 0, 4, 0, 16]))), (a6, .inl (cI, 4000, .inl (pfX2_putBuffer_g_a6_f fb p1 0 3)))] := hD
        refine lv_iinc (v := 3) (lv' := [(2, .int 3), (0, .ref h), (1, .int p1)]) hx hb dX2_release_80 hl (k := 0) rfl (by decide) (by decide) rfl (fun ls hl => ?_)
        refine lv_goto (tgt := 57) hx hb dX2_release_83 (by decide) ?_
        refine lv_iload_n hx hb dX2_release_57 rfl (lv_at hl 0 rfl) ?_
        refine lv_bipush (v := 8) hx hb dX2_release_58 (by decide) ?_
        refine lv_icmp_ge (tgt := 86) hx hb dX2_release_60 (by decide) (fun c => absurd c (by decide)) (fun _ => ?_)
        refine lv_aload_n hx hb dX2_release_63 rfl (lv_at hl 1 rfl) ?_
        refine va_get (D := (dC, dI)) (ci := 2) (v := .ref a4) (C := RX2) (T := TX2) (N := 7) hx hb hts hinX2 hown hK hP 2 rfl rfl 4 (by decide) k_1 (fun _ h9 => h9) rfl dX2_release_64 ?_
        refine lv_iload_n hx hb dX2_release_67 rfl (lv_at hl 0 rfl) ?_
        refine za_iald (v := o3) hx hb hK hP 0 0 rfl rfl (zin tn_3 (Nat.le_of_ble_eq_true rfl)) (zrd _ tn_3 rfl) dX2_release_68 ?_
        refine lv_iload_n hx hb dX2_release_69 rfl (lv_at hl 2 rfl) ?_
        refine lv_icmp_ne (tgt := 80) hx hb dX2_release_70 (by decide) (fun c_12 => ?_) (fun c_12 => ?_)
        · refine lv_iinc (v := 4) (lv' := [(2, .int 4), (0, .ref h), (1, .int p1)]) hx hb dX2_release_80 hl (k := 0) rfl (by decide) (by decide) rfl (fun ls hl => ?_)
          refine lv_goto (tgt := 57) hx hb dX2_release_83 (by decide) ?_
          refine lv_iload_n hx hb dX2_release_57 rfl (lv_at hl 0 rfl) ?_
          refine lv_bipush (v := 8) hx hb dX2_release_58 (by decide) ?_
          refine lv_icmp_ge (tgt := 86) hx hb dX2_release_60 (by decide) (fun c => absurd c (by decide)) (fun _ => ?_)
          refine lv_aload_n hx hb dX2_release_63 rfl (lv_at hl 1 rfl) ?_
          refine va_get (D := (dC, dI)) (ci := 2) (v := .ref a4) (C := RX2) (T := TX2) (N := 7) hx hb hts hinX2 hown hK hP 2 rfl rfl 4 (by decide) k_1 (fun _ h9 => h9) rfl dX2_release_64 ?_
          refine lv_iload_n hx hb dX2_release_67 rfl (lv_at hl 0 rfl) ?_
          refine za_iald (v := (-1)) hx hb hK hP 0 0 rfl rfl (zin tn_4 (Nat.le_of_ble_eq_true rfl)) (zrd _ tn_4 rfl) dX2_release_68 ?_
          refine lv_iload_n hx hb dX2_release_69 rfl (lv_at hl 2 rfl) ?_
          refine lv_icmp_ne (tgt := 80) hx hb dX2_release_70 (by decide) (fun _ => ?_) (fun c => absurd c hp)
          refine lv_iinc (v := 5) (lv' := [(2, .int 5), (0, .ref h), (1, .int p1)]) hx hb dX2_release_80 hl (k := 0) rfl (by decide) (by decide) rfl (fun ls hl => ?_)
          refine lv_goto (tgt := 57) hx hb dX2_release_83 (by decide) ?_
          refine lv_iload_n hx hb dX2_release_57 rfl (lv_at hl 0 rfl) ?_
          refine lv_bipush (v := 8) hx hb dX2_release_58 (by decide) ?_
          refine lv_icmp_ge (tgt := 86) hx hb dX2_release_60 (by decide) (fun c => absurd c (by decide)) (fun _ => ?_)
          refine lv_aload_n hx hb dX2_release_63 rfl (lv_at hl 1 rfl) ?_
          refine va_get (D := (dC, dI)) (ci := 2) (v := .ref a4) (C := RX2) (T := TX2) (N := 7) hx hb hts hinX2 hown hK hP 2 rfl rfl 4 (by decide) k_1 (fun _ h9 => h9) rfl dX2_release_64 ?_
          refine lv_iload_n hx hb dX2_release_67 rfl (lv_at hl 0 rfl) ?_
          refine za_iald (v := (-1)) hx hb hK hP 0 0 rfl rfl (zin tn_5 (Nat.le_of_ble_eq_true rfl)) (zrd _ tn_5 rfl) dX2_release_68 ?_
          refine lv_iload_n hx hb dX2_release_69 rfl (lv_at hl 2 rfl) ?_
          refine lv_icmp_ne (tgt := 80) hx hb dX2_release_70 (by decide) (fun _ => ?_) (fun c => absurd c hp)
          refine lv_iinc (v := 6) (lv' := [(2, .int 6), (0, .ref h), (1, .int p1)]) hx hb dX2_release_80 hl (k := 0) rfl (by decide) (by decide) rfl (fun ls hl => ?_)
          refine lv_goto (tgt := 57) hx hb dX2_release_83 (by decide) ?_
          refine lv_iload_n hx hb dX2_release_57 rfl (lv_at hl 0 rfl) ?_
          refine lv_bipush (v := 8) hx hb dX2_release_58 (by decide) ?_
          refine lv_icmp_ge (tgt := 86) hx hb dX2_release_60 (by decide) (fun c => absurd c (by decide)) (fun _ => ?_)
          refine lv_aload_n hx hb dX2_release_63 rfl (lv_at hl 1 rfl) ?_
          refine va_get (D := (dC, dI)) (ci := 2) (v := .ref a4) (C := RX2) (T := TX2) (N := 7) hx hb hts hinX2 hown hK hP 2 rfl rfl 4 (by decide) k_1 (fun _ h9 => h9) rfl dX2_release_64 ?_
          refine lv_iload_n hx hb dX2_release_67 rfl (lv_at hl 0 rfl) ?_
          refine za_iald (v := (-1)) hx hb hK hP 0 0 rfl rfl (zin tn_6 (Nat.le_of_ble_eq_true rfl)) (zrd _ tn_6 rfl) dX2_release_68 ?_
          refine lv_iload_n hx hb dX2_release_69 rfl (lv_at hl 2 rfl) ?_
          refine lv_icmp_ne (tgt := 80) hx hb dX2_release_70 (by decide) (fun _ => ?_) (fun c => absurd c hp)
          refine lv_iinc (v := 7) (lv' := [(2, .int 7), (0, .ref h), (1, .int p1)]) hx hb dX2_release_80 hl (k := 0) rfl (by decide) (by decide) rfl (fun ls hl => ?_)
          refine lv_goto (tgt := 57) hx hb dX2_release_83 (by decide) ?_
          refine lv_iload_n hx hb dX2_release_57 rfl (lv_at hl 0 rfl) ?_
          refine lv_bipush (v := 8) hx hb dX2_release_58 (by decide) ?_
          refine lv_icmp_ge (tgt := 86) hx hb dX2_release_60 (by decide) (fun c => absurd c (by decide)) (fun _ => ?_)
          refine lv_aload_n hx hb dX2_release_63 rfl (lv_at hl 1 rfl) ?_
          refine va_get (D := (dC, dI)) (ci := 2) (v := .ref a4) (C := RX2) (T := TX2) (N := 7) hx hb hts hinX2 hown hK hP 2 rfl rfl 4 (by decide) k_1 (fun _ h9 => h9) rfl dX2_release_64 ?_
          refine lv_iload_n hx hb dX2_release_67 rfl (lv_at hl 0 rfl) ?_
          refine za_iald (v := (-1)) hx hb hK hP 0 0 rfl rfl (zin tn_7 (Nat.le_of_ble_eq_true rfl)) (zrd _ tn_7 rfl) dX2_release_68 ?_
          refine lv_iload_n hx hb dX2_release_69 rfl (lv_at hl 2 rfl) ?_
          refine lv_icmp_ne (tgt := 80) hx hb dX2_release_70 (by decide) (fun _ => ?_) (fun c => absurd c hp)
          refine lv_iinc (v := 8) (lv' := [(2, .int 8), (0, .ref h), (1, .int p1)]) hx hb dX2_release_80 hl (k := 0) rfl (by decide) (by decide) rfl (fun ls hl => ?_)
          refine lv_goto (tgt := 57) hx hb dX2_release_83 (by decide) ?_
          refine lv_iload_n hx hb dX2_release_57 rfl (lv_at hl 0 rfl) ?_
          refine lv_bipush (v := 8) hx hb dX2_release_58 (by decide) ?_
          refine lv_icmp_ge (tgt := 86) hx hb dX2_release_60 (by decide) (fun _ => ?_) (fun c => absurd (by decide) c)
          refine lv_iconst (v := 1) hx hb dX2_release_86 (by decide) ?_
          refine lv_istore_n (lv' := [(2, .int 1), (0, .ref h), (1, .int p1)]) hx hb dX2_release_87 rfl hl (by decide) rfl (fun ls hl => ?_)
          refine lv_iload_n hx hb dX2_release_88 rfl (lv_at hl 0 rfl) ?_
          refine lv_iconst (v := 5) hx hb dX2_release_89 (by decide) ?_
          refine lv_icmp_ge (tgt := 116) hx hb dX2_release_90 (by decide) (fun c => absurd c (by decide)) (fun _ => ?_)
          refine lv_aload_n hx hb dX2_release_93 rfl (lv_at hl 1 rfl) ?_
          refine va_get (D := (dC, dI)) (ci := 2) (v := .ref a5) (C := RX2) (T := TX2) (N := 7) hx hb hts hinX2 hown hK hP 2 rfl rfl 5 (by decide) k_2 (fun _ h9 => h9) rfl dX2_release_94 ?_
          refine lv_iload_n hx hb dX2_release_97 rfl (lv_at hl 0 rfl) ?_
          refine za_iald (v := (-1)) hx hb hK hP 1 0 rfl rfl (zin tn_1 (Nat.le_of_ble_eq_true rfl)) (zrd _ tn_1 rfl) dX2_release_98 ?_
          refine lv_iload_n hx hb dX2_release_99 rfl (lv_at hl 2 rfl) ?_
          refine lv_icmp_ne (tgt := 110) hx hb dX2_release_100 (by decide) (fun _ => ?_) (fun c => absurd c hp)
          refine lv_iinc (v := 2) (lv' := [(2, .int 2), (0, .ref h), (1, .int p1)]) hx hb dX2_release_110 hl (k := 0) rfl (by decide) (by decide) rfl (fun ls hl => ?_)
          refine lv_goto (tgt := 88) hx hb dX2_release_113 (by decide) ?_
          refine lv_iload_n hx hb dX2_release_88 rfl (lv_at hl 0 rfl) ?_
          refine lv_iconst (v := 5) hx hb dX2_release_89 (by decide) ?_
          refine lv_icmp_ge (tgt := 116) hx hb dX2_release_90 (by decide) (fun c => absurd c (by decide)) (fun _ => ?_)
          refine lv_aload_n hx hb dX2_release_93 rfl (lv_at hl 1 rfl) ?_
          refine va_get (D := (dC, dI)) (ci := 2) (v := .ref a5) (C := RX2) (T := TX2) (N := 7) hx hb hts hinX2 hown hK hP 2 rfl rfl 5 (by decide) k_2 (fun _ h9 => h9) rfl dX2_release_94 ?_
          refine lv_iload_n hx hb dX2_release_97 rfl (lv_at hl 0 rfl) ?_
          refine za_iald (v := (-1)) hx hb hK hP 1 0 rfl rfl (zin tn_2 (Nat.le_of_ble_eq_true rfl)) (zrd _ tn_2 rfl) dX2_release_98 ?_
          refine lv_iload_n hx hb dX2_release_99 rfl (lv_at hl 2 rfl) ?_
          refine lv_icmp_ne (tgt := 110) hx hb dX2_release_100 (by decide) (fun _ => ?_) (fun c => absurd c hp)
          refine lv_iinc (v := 3) (lv' := [(2, .int 3), (0, .ref h), (1, .int p1)]) hx hb dX2_release_110 hl (k := 0) rfl (by decide) (by decide) rfl (fun ls hl => ?_)
          refine lv_goto (tgt := 88) hx hb dX2_release_113 (by decide) ?_
          refine lv_iload_n hx hb dX2_release_88 rfl (lv_at hl 0 rfl) ?_
          refine lv_iconst (v := 5) hx hb dX2_release_89 (by decide) ?_
          refine lv_icmp_ge (tgt := 116) hx hb dX2_release_90 (by decide) (fun c => absurd c (by decide)) (fun _ => ?_)
          refine lv_aload_n hx hb dX2_release_93 rfl (lv_at hl 1 rfl) ?_
          refine va_get (D := (dC, dI)) (ci := 2) (v := .ref a5) (C := RX2) (T := TX2) (N := 7) hx hb hts hinX2 hown hK hP 2 rfl rfl 5 (by decide) k_2 (fun _ h9 => h9) rfl dX2_release_94 ?_
          refine lv_iload_n hx hb dX2_release_97 rfl (lv_at hl 0 rfl) ?_
          refine za_iald (v := (-1)) hx hb hK hP 1 0 rfl rfl (zin tn_3 (Nat.le_of_ble_eq_true rfl)) (zrd _ tn_3 rfl) dX2_release_98 ?_
          refine lv_iload_n hx hb dX2_release_99 rfl (lv_at hl 2 rfl) ?_
          refine lv_icmp_ne (tgt := 110) hx hb dX2_release_100 (by decide) (fun _ => ?_) (fun c => absurd c hp)
          refine lv_iinc (v := 4) (lv' := [(2, .int 4), (0, .ref h), (1, .int p1)]) hx hb dX2_release_110 hl (k := 0) rfl (by decide) (by decide) rfl (fun ls hl => ?_)
          refine lv_goto (tgt := 88) hx hb dX2_release_113 (by decide) ?_
          refine lv_iload_n hx hb dX2_release_88 rfl (lv_at hl 0 rfl) ?_
          refine lv_iconst (v := 5) hx hb dX2_release_89 (by decide) ?_
          refine lv_icmp_ge (tgt := 116) hx hb dX2_release_90 (by decide) (fun c => absurd c (by decide)) (fun _ => ?_)
          refine lv_aload_n hx hb dX2_release_93 rfl (lv_at hl 1 rfl) ?_
          refine va_get (D := (dC, dI)) (ci := 2) (v := .ref a5) (C := RX2) (T := TX2) (N := 7) hx hb hts hinX2 hown hK hP 2 rfl rfl 5 (by decide) k_2 (fun _ h9 => h9) rfl dX2_release_94 ?_
          refine lv_iload_n hx hb dX2_release_97 rfl (lv_at hl 0 rfl) ?_
          refine za_iald (v := (-1)) hx hb hK hP 1 0 rfl rfl (zin tn_4 (Nat.le_of_ble_eq_true rfl)) (zrd _ tn_4 rfl) dX2_release_98 ?_
          refine lv_iload_n hx hb dX2_release_99 rfl (lv_at hl 2 rfl) ?_
          refine lv_icmp_ne (tgt := 110) hx hb dX2_release_100 (by decide) (fun _ => ?_) (fun c => absurd c hp)
          refine lv_iinc (v := 5) (lv' := [(2, .int 5), (0, .ref h), (1, .int p1)]) hx hb dX2_release_110 hl (k := 0) rfl (by decide) (by decide) rfl (fun ls hl => ?_)
          refine lv_goto (tgt := 88) hx hb dX2_release_113 (by decide) ?_
          refine lv_iload_n hx hb dX2_release_88 rfl (lv_at hl 0 rfl) ?_
          refine lv_iconst (v := 5) hx hb dX2_release_89 (by decide) ?_
          refine lv_icmp_ge (tgt := 116) hx hb dX2_release_90 (by decide) (fun _ => ?_) (fun c => absurd (by decide) c)
          have e_0 : (pfX2_release_a4_0 o0 p1) = (-1) := by rw [pfX2_release_a4_0, if_pos c_1]
          have e_1 : (pfX2_release_a4_1 o1 p1) = o1 := by rw [pfX2_release_a4_1, if_neg c_9]
          have e_2 : (pfX2_release_a4_2 o2 p1) = (-1) := by rw [pfX2_release_a4_2, if_pos c_10]
          have e_3 : (pfX2_release_a4_3 o3 p1) = o3 := by rw [pfX2_release_a4_3, if_neg c_12]
          have hP9 := hP.sub (ws' := [(h, .inr (2, [.ref a0, .ref a1, .ref a2, .ref a3, .ref a4, .ref a5, .ref a6])), (a0, .inl (cI, 22, .inl (gl [m0, m1, m2, ((m3 + 1) &&& 15), (m4 + (pfX2_ofBuffer_g_r m5 (pfX2_putBuffer_g_a6_f fb p1 0 3) p1 7)), m5, (m6 - 1), m7, m8, m9, m10, m11, m12, m13, m14, m15, m16, m17, 0, 4, 0, 16]))), (a4, .inl (cI, 8, .inl (gl [(-1), o1, (-1), o3, (-1), (-1), (-1), (-1)]))), (a5, .inl (cI, 5, .inl (gl [(-1), (-1), (-1), (-1), (-1)]))), (a6, .inl (cI, 4000, .inl (pfX2_putBuffer_g_a6_f fb p1 0 3)))]) [2, 3, 0, 1, 4] rfl
          have hD9 := hD.sub (ws' := [(h, .inr (2, [.ref a0, .ref a1, .ref a2, .ref a3, .ref a4, .ref a5, .ref a6])), (a0, .inl (cI, 22, .inl (gl [m0, m1, m2, ((m3 + 1) &&& 15), (m4 + (pfX2_ofBuffer_g_r m5 (pfX2_putBuffer_g_a6_f fb p1 0 3) p1 7)), m5, (m6 - 1), m7, m8, m9, m10, m11, m12, m13, m14, m15, m16, m17, 0, 4, 0, 16]))), (a4, .inl (cI, 8, .inl (gl [(-1), o1, (-1), o3, (-1), (-1), (-1), (-1)]))), (a5, .inl (cI, 5, .inl (gl [(-1), (-1), (-1), (-1), (-1)]))), (a6, .inl (cI, 4000, .inl (pfX2_putBuffer_g_a6_f fb p1 0 3)))]) [2, 3, 0, 1, 4] (by decide) rfl
          exact W.vret hx hb hr (fun t ht hW => ⟨⟨(), rfl, trivial, by rw [ht, e_0, e_1, e_2, e_3]; exact hP9, va_K.moved hW.alike hK, (by rw [e_0, e_1, e_2, e_3]; exact hD9)⟩, hS.F ht⟩) hS.2.2 dX2_release_116
        · refine lv_aload_n hx hb dX2_release_73 rfl (lv_at hl 1 rfl) ?_
          refine va_get (D := (dC, dI)) (ci := 2) (v := .ref a4) (C := RX2) (T := TX2) (N := 7) hx hb hts hinX2 hown hK hP 2 rfl rfl 4 (by decide) k_1 (fun _ h9 => h9) rfl dX2_release_74 ?_
          refine lv_iload_n hx hb dX2_release_77 rfl (lv_at hl 0 rfl) ?_
          refine lv_iconst (v := (-1)) hx hb dX2_release_78 (by decide) ?_
          refine za_iast (f' := (gl [(-1), o1, (-1), (-1), (-1), (-1), (-1), (-1)])) hx hb hK hP hD hS 0 0 rfl rfl (zin tn_3 (Nat.le_of_ble_eq_true rfl)) (zup_gl tn_3 (Nat.le_of_ble_eq_true rfl) rfl) dX2_release_79 (fun H locs hP hD hS => ?_)
          have hP : va_P (dC, dI) vwCl [(a4, .inl (cI, 8, .inl (gl [(-1), o1, (-1), (-1), (-1), (-1), (-1), (-1)]))), (a5, .inl (cI, 5, .inl (gl [(-1), (-1), (-1), (-1), (-1)]))), (h, .inr (2, [.ref a0, .ref a1, .ref a2, .ref a3, .ref a4, .ref a5, .ref a6])), (a0, .inl (cI, 22, .inl (gl [m0, m1, m2, ((m3 + 1) &&& 15), (m4 + (pfX2_ofBuffer_g_r m5 (pfX2_putBuffer_g_a6_f fb p1 0 3) p1 7)), m5, (m6 - 1), m7, m8, m9, m10, m11, m12, m13, m14, m15, m16, m17, 0, 4, 0, 16]))), (a6, .inl (cI, 4000, .inl (pfX2_putBuffer_g_a6_f fb p1 0 3)))] H := hP
          have hD : va_D A [(a4, .inl (cI, 8, .inl (gl [(-1), o1, (-1), (-1), (-1), (-1), (-1), (-1)]))), (a5, .inl (cI, 5, .inl (gl [(-1), (-1), (-1), (-1), (-1)]))), (h, .inr (2, [.ref a0, .ref a1, .ref a2, .ref a3, .ref a4, .ref a5, .ref a6])), (a0, .inl (cI, 22, .inl (gl [m0, m1, m2, ((m3 + 1) &&& 15), (m4 + (pfX2_ofBuffer_g_r m5 (pfX2_putBuffer_g_a6_f fb p1 0 3) p1 7)), m5, (m6 - 1), m7, m8, m9, m10, m11, m12, m13, m14, m15, m16, m17, 0, 4, 0, 16]))), (a6, .inl (cI, 4000, .inl (pfX2_putBuffer_g_a6_f fb p1 0 3)))] := hD
          refine lv_iinc (v := 4) (lv' := [(2, .int 4), (0, .ref h), (1, .int p1)]) hx hb dX2_release_80 hl (k := 0) rfl (by decide) (by decide) rfl (fun ls hl => ?_)
          refine lv_goto (tgt := 57) hx hb dX2_release_83 (by decide) ?_
          refine lv_iload_n hx hb dX2_release_57 rfl (lv_at hl 0 rfl) ?_
          refine lv_bipush (v := 8) hx hb dX2_release_58 (by decide) ?_
          refine lv_icmp_ge (tgt := 86) hx hb dX2_release_60 (by decide) (fun c => absurd c (by decide)) (fun _ => ?_)
          refine lv_aload_n hx hb dX2_release_63 rfl (lv_at hl 1 rfl) ?_
          refine va_get (D := (dC, dI)) (ci := 2) (v := .ref a4) (C := RX2) (T := TX2) (N := 7) hx hb hts hinX2 hown hK hP 2 rfl rfl 4 (by decide) k_1 (fun _ h9 => h9) rfl dX2_release_64 ?_
          refine lv_iload_n hx hb dX2_release_67 rfl (lv_at hl 0 rfl) ?_
          refine za_iald (v := (-1)) hx hb hK hP 0 0 rfl rfl (zin tn_4 (Nat.le_of_ble_eq_true rfl)) (zrd _ tn_4 rfl) dX2_release_68 ?_
          refine lv_iload_n hx hb dX2_release_69 rfl (lv_at hl 2 rfl) ?_
          refine lv_icmp_ne (tgt := 80) hx hb dX2_release_70 (by decide) (fun _ => ?_) (fun c => absurd c hp)
          refine lv_iinc (v := 5) (lv' := [(2, .int 5), (0, .ref h), (1, .int p1)]) hx hb dX2_release_80 hl (k := 0) rfl (by decide) (by decide) rfl (fun ls hl => ?_)
          refine lv_goto (tgt := 57) hx hb dX2_release_83 (by decide) ?_
          refine lv_iload_n hx hb dX2_release_57 rfl (lv_at hl 0 rfl) ?_
          refine lv_bipush (v := 8) hx hb dX2_release_58 (by decide) ?_
          refine lv_icmp_ge (tgt := 86) hx hb dX2_release_60 (by decide) (fun c => absurd c (by decide)) (fun _ => ?_)
          refine lv_aload_n hx hb dX2_release_63 rfl (lv_at hl 1 rfl) ?_
          refine va_get (D := (dC, dI)) (ci := 2) (v := .ref a4) (C := RX2) (T := TX2) (N := 7) hx hb hts hinX2 hown hK hP 2 rfl rfl 4 (by decide) k_1 (fun _ h9 => h9) rfl dX2_release_64 ?_
          refine lv_iload_n hx hb dX2_release_67 rfl (lv_at hl 0 rfl) ?_
          refine za_iald (v := (-1)) hx hb hK hP 0 0 rfl rfl (zin tn_5 (Nat.le_of_ble_eq_true rfl)) (zrd _ tn_5 rfl) dX2_release_68 ?_
          refine lv_iload_n hx hb dX2_release_69 rfl (lv_at hl 2 rfl) ?_
          refine lv_icmp_ne (tgt := 80) hx hb dX2_release_70 (by decide) (fun _ => ?_) (fun c => absurd c hp)
          refine lv_iinc (v := 6) (lv' := [(2, .int 6), (0, .ref h), (1, .int p1)]) hx hb dX2_release_80 hl (k := 0) rfl (by decide) (by decide) rfl (fun ls hl => ?_)
          refine lv_goto (tgt := 57) hx hb dX2_release_83 (by decide) ?_
          refine lv_iload_n hx hb dX2_release_57 rfl (lv_at hl 0 rfl) ?_
          refine lv_bipush (v := 8) hx hb dX2_release_58 (by decide) ?_
          refine lv_icmp_ge (tgt := 86) hx hb dX2_release_60 (by decide) (fun c => absurd c (by decide)) (fun _ => ?_)
          refine lv_aload_n hx hb dX2_release_63 rfl (lv_at hl 1 rfl) ?_
          refine va_get (D := (dC, dI)) (ci := 2) (v := .ref a4) (C := RX2) (T := TX2) (N := 7) hx hb hts hinX2 hown hK hP 2 rfl rfl 4 (by decide) k_1 (fun _ h9 => h9) rfl dX2_release_64 ?_
          refine lv_iload_n hx hb dX2_release_67 rfl (lv_at hl 0 rfl) ?_
          refine za_iald (v := (-1)) hx hb hK hP 0 0 rfl rfl (zin tn_6 (Nat.le_of_ble_eq_true rfl)) (zrd _ tn_6 rfl) dX2_release_68 ?_
          refine lv_iload_n hx hb dX2_release_69 rfl (lv_at hl 2 rfl) ?_
          refine lv_icmp_ne (tgt := 80) hx hb dX2_release_70 (by decide) (fun _ => ?_) (fun c => absurd c hp)
          refine lv_iinc (v := 7) (lv' := [(2, .int 7), (0, .ref h), (1, .int p1)]) hx hb dX2_release_80 hl (k := 0) rfl (by decide) (by decide) rfl (fun ls hl => ?_)
          refine lv_goto (tgt := 57) hx hb dX2_release_83 (by decide) ?_
          refine lv_iload_n hx hb dX2_release_57 rfl (lv_at hl 0 rfl) ?_
          refine lv_bipush (v := 8) hx hb dX2_release_58 (by decide) ?_
          refine lv_icmp_ge (tgt := 86) hx hb dX2_release_60 (by decide) (fun c => absurd c (by decide)) (fun _ => ?_)
          refine lv_aload_n hx hb dX2_release_63 rfl (lv_at hl 1 rfl) ?_
          refine va_get (D := (dC, dI)) (ci := 2) (v := .ref a4) (C := RX2) (T := TX2) (N := 7) hx hb hts hinX2 hown hK hP 2 rfl rfl 4 (by decide) k_1 (fun _ h9 => h9) rfl dX2_release_64 ?_
          refine lv_iload_n hx hb dX2_release_67 rfl (lv_at hl 0 rfl) ?_
          refine za_iald (v := (-1)) hx hb hK hP 0 0 rfl rfl (zin tn_7 (Nat.le_of_ble_eq_true rfl)) (zrd _ tn_7 rfl) dX2_release_68 ?_
          refine lv_iload_n hx hb dX2_release_69 rfl (lv_at hl 2 rfl) ?_
          refine lv_icmp_ne (tgt := 80) hx hb dX2_release_70 (by decide) (fun _ => ?_) (fun c => absurd c hp)
          refine lv_iinc (v := 8) (lv' := [(2, .int 8), (0, .ref h), (1, .int p1)]) hx hb dX2_release_80 hl (k := 0) rfl (by decide) (by decide) rfl (fun ls hl => ?_)
          refine lv_goto (tgt := 57) hx hb dX2_release_83 (by decide) ?_
          refine lv_iload_n hx hb dX2_release_57 rfl (lv_at hl 0 rfl) ?_
          refine lv_bipush (v := 8) hx hb dX2_release_58 (by decide) ?_
          refine lv_icmp_ge (tgt := 86) hx hb dX2_release_60 (by decide) (fun _ => ?_) (fun c => absurd (by decide) c)
          refine lv_iconst (v := 1) hx hb dX2_release_86 (by decide) ?_
          refine lv_istore_n (lv' := [(2, .int 1), (0, .ref h), (1, .int p1)]) hx hb dX2_release_87 rfl hl (by decide) rfl (fun ls hl => ?_)
          refine lv_iload_n hx hb dX2_release_88 rfl (lv_at hl 0 rfl) ?_
          refine lv_iconst (v := 5) hx hb dX2_release_89 (by decide) ?_
          refine lv_icmp_ge (tgt := 116) hx hb dX2_release_90 (by decide) (fun c => absurd c (by decide)) (fun _ => ?_)
          refine lv_aload_n hx hb dX2_release_93 rfl (lv_at hl 1 rfl) ?_
          refine va_get (D := (dC, dI)) (ci := 2) (v := .ref a5) (C := RX2) (T := TX2) (N := 7) hx hb hts hinX2 hown hK hP 2 rfl rfl 5 (by decide) k_2 (fun _ h9 => h9) rfl dX2_release_94 ?_
          refine lv_iload_n hx hb dX2_release_97 rfl (lv_at hl 0 rfl) ?_
          refine za_iald (v := (-1)) hx hb hK hP 1 0 rfl rfl (zin tn_1 (Nat.le_of_ble_eq_true rfl)) (zrd _ tn_1 rfl) dX2_release_98 ?_
          refine lv_iload_n hx hb dX2_release_99 rfl (lv_at hl 2 rfl) ?_
          refine lv_icmp_ne (tgt := 110) hx hb dX2_release_100 (by decide) (fun _ => ?_) (fun c => absurd c hp)
          refine lv_iinc (v := 2) (lv' := [(2, .int 2), (0, .ref h), (1, .int p1)]) hx hb dX2_release_110 hl (k := 0) rfl (by decide) (by decide) rfl (fun ls hl => ?_)
          refine lv_goto (tgt := 88) hx hb dX2_release_113 (by decide) ?_
          refine lv_iload_n hx hb dX2_release_88 rfl (lv_at hl 0 rfl) ?_
          refine lv_iconst (v := 5) hx hb dX2_release_89 (by decide) ?_
          refine lv_icmp_ge (tgt := 116) hx hb dX2_release_90 (by decide) (fun c => absurd c (by decide)) (fun _ => ?_)
          refine lv_aload_n hx hb dX2_release_93 rfl (lv_at hl 1 rfl) ?_
          refine va_get (D := (dC, dI)) (ci := 2) (v := .ref a5) (C := RX2) (T := TX2) (N := 7) hx hb hts hinX2 hown hK hP 2 rfl rfl 5 (by decide) k_2 (fun _ h9 => h9) rfl dX2_release_94 ?_
          refine lv_iload_n hx hb dX2_release_97 rfl (lv_at hl 0 rfl) ?_
          refine za_iald (v := (-1)) hx hb hK hP 1 0 rfl rfl (zin tn_2 (Nat.le_of_ble_eq_true rfl)) (zrd _ tn_2 rfl) dX2_release_98 ?_
          refine lv_iload_n hx hb dX2_release_99 rfl (lv_at hl 2 rfl) ?_
          refine lv_icmp_ne (tgt := 110) hx hb dX2_release_100 (by decide) (fun _ => ?_) (fun c => absurd c hp)
          refine lv_iinc (v := 3) (lv' := [(2, .int 3), (0, .ref h), (1, .int p1)]) hx hb dX2_release_110 hl (k := 0) rfl (by decide) (by decide) rfl (fun ls hl => ?_)
          refine lv_goto (tgt := 88) hx hb dX2_release_113 (by decide) ?_
          refine lv_iload_n hx hb dX2_release_88 rfl (lv_at hl 0 rfl) ?_
          refine lv_iconst (v := 5) hx hb dX2_release_89 (by decide) ?_
          refine lv_icmp_ge (tgt := 116) hx hb dX2_release_90 (by decide) (fun c => absurd c (by decide)) (fun _ => ?_)
          refine lv_aload_n hx hb dX2_release_93 rfl (lv_at hl 1 rfl) ?_
          refine va_get (D := (dC, dI)) (ci := 2) (v := .ref a5) (C := RX2) (T := TX2) (N := 7) hx hb hts hinX2 hown hK hP 2 rfl rfl 5 (by decide) k_2 (fun _ h9 => h9) rfl dX2_release_94 ?_
          refine lv_iload_n hx hb dX2_release_97 rfl (lv_at hl 0 rfl) ?_
          refine za_iald (v := (-1)) hx hb hK hP 1 0 rfl rfl (zin tn_3 (Nat.le_of_ble_eq_true rfl)) (zrd _ tn_3 rfl) dX2_release_98 ?_
          refine lv_iload_n hx hb dX2_release_99 rfl (lv_at hl 2 rfl) ?_
          refine lv_icmp_ne (tgt := 110) hx hb dX2_release_100 (by decide) (fun _ => ?_) (fun c => absurd c hp)
          refine lv_iinc (v := 4) (lv' := [(2, .int 4), (0, .ref h), (1, .int p1)]) hx hb dX2_release_110 hl (k := 0) rfl (by decide) (by decide) rfl (fun ls hl => ?_)
          refine lv_goto (tgt := 88) hx hb dX2_release_113 (by decide) ?_
          refine lv_iload_n hx hb dX2_release_88 rfl (lv_at hl 0 rfl) ?_
          refine lv_iconst (v := 5) hx hb dX2_release_89 (by decide) ?_
          refine lv_icmp_ge (tgt := 116) hx hb dX2_release_90 (by decide) (fun c => absurd c (by decide)) (fun _ => ?_)
          refine lv_aload_n hx hb dX2_release_93 rfl (lv_at hl 1 rfl) ?_
          refine va_get (D := (dC, dI)) (ci := 2) (v := .ref a5) (C := RX2) (T := TX2) (N := 7) hx hb hts hinX2 hown hK hP 2 rfl rfl 5 (by decide) k_2 (fun _ h9 => h9) rfl dX2_release_94 ?_
          refine lv_iload_n hx hb dX2_release_97 rfl (lv_at hl 0 rfl) ?_
          refine za_iald (v := (-1)) hx hb hK hP 1 0 rfl rfl (zin tn_4 (Nat.le_of_ble_eq_true rfl)) (zrd _ tn_4 rfl) dX2_release_98 ?_
          refine lv_iload_n hx hb dX2_release_99 rfl (lv_at hl 2 rfl) ?_
          refine lv_icmp_ne (tgt := 110) hx hb dX2_release_100 (by decide) (fun _ => ?_) (fun c => absurd c hp)
          refine lv_iinc (v := 5) (lv' := [(2, .int 5), (0, .ref h), (1, .int p1)]) hx hb dX2_release_110 hl (k := 0) rfl (by decide) (by decide) rfl (fun ls hl => ?_)
          refine lv_goto (tgt := 88) hx hb dX2_release_113 (by decide) ?_
          refine lv_iload_n hx hb dX2_release_88 rfl (lv_at hl 0 rfl) ?_
          refine lv_iconst (v := 5) hx hb dX2_release_89 (by decide) ?_
          refine lv_icmp_ge (tgt := 116) hx hb dX2_release_90 (by decide) (fun _ => ?_) (fun c => absurd (by decide) c)
          have e_0 : (pfX2_release_a4_0 o0 p1) = (-1) := by rw [pfX2_release_a4_0, if_pos c_1]
          have e_1 : (pfX2_release_a4_1 o1 p1) = o1 := by rw [pfX2_release_a4_1, if_neg c_9]
          have e_2 : (pfX2_release_a4_2 o2 p1) = (-1) := by rw [pfX2_release_a4_2, if_pos c_10]
          have e_3 : (pfX2_release_a4_3 o3 p1) = (-1) := by rw [pfX2_release_a4_3, if_pos c_12]
          have hP9 := hP.sub (ws' := [(h, .inr (2, [.ref a0, .ref a1, .ref a2, .ref a3, .ref a4, .ref a5, .ref a6])), (a0, .inl (cI, 22, .inl (gl [m0, m1, m2, ((m3 + 1) &&& 15), (m4 + (pfX2_ofBuffer_g_r m5 (pfX2_putBuffer_g_a6_f fb p1 0 3) p1 7)), m5, (m6 - 1), m7, m8, m9, m10, m11, m12, m13, m14, m15, m16, m17, 0, 4, 0, 16]))), (a4, .inl (cI, 8, .inl (gl [(-1), o1, (-1), (-1), (-1), (-1), (-1), (-1)]))), (a5, .inl (cI, 5, .inl (gl [(-1), (-1), (-1), (-1), (-1)]))), (a6, .inl (cI, 4000, .inl (pfX2_putBuffer_g_a6_f fb p1 0 3)))]) [2, 3, 0, 1, 4] rfl
          have hD9 := hD.sub (ws' := [(h, .inr (2, [.ref a0, .ref a1, .ref a2, .ref a3, .ref a4, .ref a5, .ref a6])), (a0, .inl (cI, 22, .inl (gl [m0, m1, m2, ((m3 + 1) &&& 15), (m4 + (pfX2_ofBuffer_g_r m5 (pfX2_putBuffer_g_a6_f fb p1 0 3) p1 7)), m5, (m6 - 1), m7, m8, m9, m10, m11, m12, m13, m14, m15, m16, m17, 0, 4, 0, 16]))), (a4, .inl (cI, 8, .inl (gl [(-1), o1, (-1), (-1), (-1), (-1), (-1), (-1)]))), (a5, .inl (cI, 5, .inl (gl [(-1), (-1), (-1), (-1), (-1)]))), (a6, .inl (cI, 4000, .inl (pfX2_putBuffer_g_a6_f fb p1 0 3)))]) [2, 3, 0, 1, 4] (by decide) rfl
          exact W.vret hx hb hr (fun t ht hW => ⟨⟨(), rfl, trivial, by rw [ht, e_0, e_1, e_2, e_3]; exact hP9, va_K.moved hW.alike hK, (by rw [e_0, e_1, e_2, e_3]; exact hD9)⟩, hS.F ht⟩) hS.2.2 dX2_release_116
    · refine lv_aload_n hx hb dX2_release_73 rfl (lv_at hl 1 rfl) ?_
      refine va_get (D := (dC, dI)) (ci := 2) (v := .ref a4) (C := RX2) (T := TX2) (N := 7) hx hb hts hinX2 hown hK hP 2 rfl rfl 4 (by decide) k_1 (fun _ h9 => h9) rfl dX2_release_74 ?_
      refine lv_iload_n hx hb dX2_release_77 rfl (lv_at hl 0 rfl) ?_
      refine lv_iconst (v := (-1)) hx hb dX2_release_78 (by decide) ?_
      refine za_iast (f' := (gl [(-1), (-1), o2, o3, (-1), (-1), (-1), (-1)])) hx hb hK hP hD hS 0 0 rfl rfl (zin tn_1 (Nat.le_of_ble_eq_true rfl)) (zup_gl tn_1 (Nat.le_of_ble_eq_true rfl) rfl) dX2_release_79 (fun H locs hP hD hS => ?_)
      have hP : va_P (dC, dI) vwCl [(a4, .inl (cI, 8, .inl (gl [(-1), (-1), o2, o3, (-1), (-1), (-1), (-1)]))), (a5, .inl (cI, 5, .inl (gl [(-1), (-1), (-1), (-1), (-1)]))), (h, .inr (2, [.ref a0, .ref a1, .ref a2, .ref a3, .ref a4, .ref a5, .ref a6])), (a0, .inl (cI, 22, .inl (gl [m0, m1, m2, ((m3 + 1) &&& 15), (m4 + (pfX2_ofBuffer_g_r m5 (pfX2_putBuffer_g_a6_f fb p1 0 3) p1 7)), m5, (m6 - 1), m7, m8, m9, m10, m11, m12, m13, m14, m15, m16, m17, 0, 4, 0, 16]))), (a6, .inl (cI, 4000, .inl (pfX2_putBuffer_g_a6_f fb p1 0 3)))] H := hP
      have hD : va_D A [(a4, .inl (cI, 8, .inl (gl [(-1), (-1), o2, o3, (-1), (-1), (-1), (-1)]))), (a5, .inl (cI, 5, .inl (gl [(-1), (-1), (-1), (-1), (-1)]))), (h, .inr (2, [.ref a0, .ref a1, .ref a2, .ref a3, .ref a4, .ref a5, .ref a6])), (a0, .inl (cI, 22, .inl (gl [m0, m1, m2, ((m3 + 1) &&& 15), (m4 + (pfX2_ofBuffer_g_r m5 (pfX2_putBuffer_g_a6_f fb p1 0 3) p1 7)), m5, (m6 - 1), m7, m8, m9, m10, m11, m12, m13, m14, m15, m16, m17, 0, 4, 0, 16]))), (a6, .inl (cI, 4000, .inl (pfX2_putBuffer_g_a6_f fb p1 0 3)))] := hD
      refine lv_iinc (v := 2) (lv' := [(2, .int 2), (0, .ref h), (1, .int p1)]) hx hb dX2_release_80 hl (k := 0) rfl (by decide) (by decide) rfl (fun ls hl => ?_)
      refine lv_goto (tgt := 57) hx hb dX2_release_83 (by decide) ?_
      refine lv_iload_n hx hb dX2_release_57 rfl (lv_at hl 0 rfl) ?_
      refine lv_bipush (v := 8) hx hb dX2_release_58 (by decide) ?_
      refine lv_icmp_ge (tgt := 86) hx hb dX2_release_60 (by decide) (fun c => absurd c (by decide)) (fun _ => ?_)
      refine lv_aload_n hx hb dX2_release_63 rfl (lv_at hl 1 rfl) ?_
      refine va_get (D := (dC, dI)) (ci := 2) (v := .ref a4) (C := RX2) (T := TX2) (N := 7) hx hb hts hinX2 hown hK hP 2 rfl rfl 4 (by decide) k_1 (fun _ h9 => h9) rfl dX2_release_64 ?_
      refine lv_iload_n hx hb dX2_release_67 rfl (lv_at hl 0 rfl) ?_
      refine za_iald (v := o2) hx hb hK hP 0 0 rfl rfl (zin tn_2 (Nat.le_of_ble_eq_true rfl)) (zrd _ tn_2 rfl) dX2_release_68 ?_
      refine lv_iload_n hx hb dX2_release_69 rfl (lv_at hl 2 rfl) ?_
      refine lv_icmp_ne (tgt := 80) hx hb dX2_release_70 (by decide) (fun c_13 => ?_) (fun c_13 => ?_)
      · refine lv_iinc (v := 3) (lv' := [(2, .int 3), (0, .ref h), (1, .int p1)]) hx hb dX2_release_80 hl (k := 0) rfl (by decide) (by decide) rfl (fun ls hl => ?_)
        refine lv_goto (tgt := 57) hx hb dX2_release_83 (by decide) ?_
        refine lv_iload_n hx hb dX2_release_57 rfl (lv_at hl 0 rfl) ?_
        refine lv_bipush (v := 8) hx hb dX2_release_58 (by decide) ?_
        refine lv_icmp_ge (tgt := 86) hx hb dX2_release_60 (by decide) (fun c => absurd c (by decide)) (fun _ => ?_)
        refine lv_aload_n hx hb dX2_release_63 rfl (lv_at hl 1 rfl) ?_
        refine va_get (D := (dC, dI)) (ci := 2) (v := .ref a4) (C := RX2) (T := TX2) (N := 7) hx hb hts hinX2 hown hK hP 2 rfl rfl 4 (by decide) k_1 (fun _ h9 => h9) rfl dX2_release_64 ?_
        refine lv_iload_n hx hb dX2_release_67 rfl (lv_at hl 0 rfl) ?_
        refine za_iald (v := o3) hx hb hK hP 0 0 rfl rfl (zin tn_3 (Nat.le_of_ble_eq_true rfl)) (zrd _ tn_3 rfl) dX2_release_68 ?_
        refine lv_iload_n hx hb dX2_release_69 rfl (lv_at hl 2 rfl) ?_
        refine lv_icmp_ne (tgt := 80) hx hb dX2_release_70 (by decide) (fun c_14 => ?_) (fun c_14 => ?_)
        · refine lv_iinc (v := 4) (lv' := [(2, .int 4), (0, .ref h), (1, .int p1)]) hx hb dX2_release_80 hl (k := 0) rfl (by decide) (by decide) rfl (fun ls hl => ?_)
          refine lv_goto (tgt := 57) hx hb dX2_release_83 (by decide) ?_
          refine lv_iload_n hx hb dX2_release_57 rfl (lv_at hl 0 rfl) ?_
          refine lv_bipush (v := 8) hx hb dX2_release_58 (by decide) ?_
          refine lv_icmp_ge (tgt := 86) hx hb dX2_release_60 (by decide) (fun c => absurd c (by decide)) (fun _ => ?_)
          refine lv_aload_n hx hb dX2_release_63 rfl (lv_at hl 1 rfl) ?_
          refine va_get (D := (dC, dI)) (ci := 2) (v := .ref a4) (C := RX2) (T := TX2) (N := 7) hx hb hts hinX2 hown hK hP 2 rfl rfl 4 (by decide) k_1 (fun _ h9 => h9) rfl dX2_release_64 ?_
          refine lv_iload_n hx hb dX2_release_67 rfl (lv_at hl 0 rfl) ?_
          refine za_iald (v := (-1)) hx hb hK hP 0 0 rfl rfl (zin tn_4 (Nat.le_of_ble_eq_true rfl)) (zrd _ tn_4 rfl) dX2_release_68 ?_
          refine lv_iload_n hx hb dX2_release_69 rfl (lv_at hl 2 rfl) ?_
          refine lv_icmp_ne (tgt := 80) hx hb dX2_release_70 (by decide) (fun _ => ?_) (fun c => absurd c hp)
          refine lv_iinc (v := 5) (lv' := [(2, .int 5), (0, .ref h), (1, .int p1)]) hx hb dX2_release_80 hl (k := 0) rfl (by decide) (by decide) rfl (fun ls hl => ?_)
          refine lv_goto (tgt := 57) hx hb dX2_release_83 (by decide) ?_
          refine lv_iload_n hx hb dX2_release_57 rfl (lv_at hl 0 rfl) ?_
          refine lv_bipush (v := 8) hx hb dX2_release_58 (by decide) ?_
          refine lv_icmp_ge (tgt := 86) hx hb dX2_release_60 (by decide) (fun c => absurd c (by decide)) (fun _ => ?_)
          refine lv_aload_n hx hb dX2_release_63 rfl (lv_at hl 1 rfl) ?_
          refine va_get (D := (dC, dI)) (ci := 2) (v := .ref a4) (C := RX2) (T := TX2) (N := 7) hx hb hts hinX2 hown hK hP 2 rfl rfl 4 (by decide) k_1 (fun _ h9 => h9) rfl dX2_release_64 ?_
          refine lv_iload_n hx hb dX2_release_67 rfl (lv_at hl 0 rfl) ?_
          refine za_iald (v := (-1)) hx hb hK hP 0 0 rfl rfl (zin tn_5 (Nat.le_of_ble_eq_true rfl)) (zrd _ tn_5 rfl) dX2_release_68 ?_
          refine lv_iload_n hx hb dX2_release_69 rfl (lv_at hl 2 rfl) ?_
          refine lv_icmp_ne (tgt := 80) hx hb dX2_release_70 (by decide) (fun _ => ?_) (fun c => absurd c hp)
          refine lv_iinc (v := 6) (lv' := [(2, .int 6), (0, .ref h), (1, .int p1)]) hx hb dX2_release_80 hl (k := 0) rfl (by decide) (by decide) rfl (fun ls hl => ?_)
          refine lv_goto (tgt := 57) hx hb dX2_release_83 (by decide) ?_
          refine lv_iload_n hx hb dX2_release_57 rfl (lv_at hl 0 rfl) ?_
          refine lv_bipush (v := 8) hx hb dX2_release_58 (by decide) ?_
          refine lv_icmp_ge (tgt := 86) hx hb dX2_release_60 (by decide) (fun c => absurd c (by decide)) (fun _ => ?_)
          refine lv_aload_n hx hb dX2_release_63 rfl (lv_at hl 1 rfl) ?_
          refine va_get (D := (dC, dI)) (ci := 2) (v := .ref a4) (C := RX2) (T := TX2) (N := 7) hx hb hts hinX2 hown hK hP 2 rfl rfl 4 (by decide) k_1 (fun _ h9 => h9) rfl dX2_release_64 ?_
          refine lv_iload_n hx hb dX2_release_67 rfl (lv_at hl 0 rfl) ?_
          refine za_iald (v := (-1)) hx hb hK hP 0 0 rfl rfl (zin tn_6 (Nat.le_of_ble_eq_true rfl)) (zrd _ tn_6 rfl) dX2_release_68 ?_
          refine lv_iload_n hx hb dX2_release_69 rfl (lv_at hl 2 rfl) ?_
          refine lv_icmp_ne (tgt := 80) hx hb dX2_release_70 (by decide) (fun _ => ?_) (fun c => absurd c hp)
          refine lv_iinc (v := 7) (lv' := [(2, .int 7), (0, .ref h), (1, .int p1)]) hx hb dX2_release_80 hl (k := 0) rfl (by decide) (by decide) rfl (fun ls hl => ?_)
          refine lv_goto (tgt := 57) hx hb dX2_release_83 (by decide) ?_
          refine lv_iload_n hx hb dX2_release_57 rfl (lv_at hl 0 rfl) ?_
          refine lv_bipush (v := 8) hx hb dX2_release_58 (by decide) ?_
          refine lv_icmp_ge (tgt := 86) hx hb dX2_release_60 (by decide) (fun c => absurd c (by decide)) (fun _ => ?_)
          refine lv_aload_n hx hb dX2_release_63 rfl (lv_at hl 1 rfl) ?_
          refine va_get (D := (dC, dI)) (ci := 2) (v := .ref a4) (C := RX2) (T := TX2) (N := 7) hx hb hts hinX2 hown hK hP 2 rfl rfl 4 (by decide) k_1 (fun _ h9 => h9) rfl dX2_release_64 ?_
          refine lv_iload_n hx hb dX2_release_67 rfl (lv_at hl 0 rfl) ?_
          refine za_iald (v := (-1)) hx hb hK hP 0 0 rfl rfl (zin tn_7 (Nat.le_of_ble_eq_true rfl)) (zrd _ tn_7 rfl) dX2_release_68 ?_
          refine lv_iload_n hx hb dX2_release_69 rfl (lv_at hl 2 rfl) ?_
          refine lv_icmp_ne (tgt := 80) hx hb dX2_release_70 (by decide) (fun _ => ?_) (fun c => absurd c hp)
          refine lv_iinc (v := 8) (lv' := [(2, .int 8), (0, .ref h), (1, .int p1)]) hx hb dX2_release_80 hl (k := 0) rfl (by decide) (by decide) rfl (fun ls hl => ?_)
          refine lv_goto (tgt := 57) hx hb dX2_release_83 (by decide) ?_
          refine lv_iload_n hx hb dX2_release_57 rfl (lv_at hl 0 rfl) ?_
          refine lv_bipush (v := 8) hx hb dX2_release_58 (by decide) ?_
          refine lv_icmp_ge (tgt := 86) hx hb dX2_release_60 (by decide) (fun _ => ?_) (fun c => absurd (by decide) c)
          refine lv_iconst (v := 1) hx hb dX2_release_86 (by decide) ?_
          refine lv_istore_n (lv' := [(2, .int 1), (0, .ref h), (1, .int p1)]) hx hb dX2_release_87 rfl hl (by decide) rfl (fun ls hl => ?_)
          refine lv_iload_n hx hb dX2_release_88 rfl (lv_at hl 0 rfl) ?_
          refine lv_iconst (v := 5) hx hb dX2_release_89 (by decide) ?_
          refine lv_icmp_ge (tgt := 116) hx hb dX2_release_90 (by decide) (fun c => absurd c (by decide)) (fun _ => ?_)
          refine lv_aload_n hx hb dX2_release_93 rfl (lv_at hl 1 rfl) ?_
          refine va_get (D := (dC, dI)) (ci := 2) (v := .ref a5) (C := RX2) (T := TX2) (N := 7) hx hb hts hinX2 hown hK hP 2 rfl rfl 5 (by decide) k_2 (fun _ h9 => h9) rfl dX2_release_94 ?_
          refine lv_iload_n hx hb dX2_release_97 rfl (lv_at hl 0 rfl) ?_
          refine za_iald (v := (-1)) hx hb hK hP 1 0 rfl rfl (zin tn_1 (Nat.le_of_ble_eq_true rfl)) (zrd _ tn_1 rfl) dX2_release_98 ?_
          refine lv_iload_n hx hb dX2_release_99 rfl (lv_at hl 2 rfl) ?_
          refine lv_icmp_ne (tgt := 110) hx hb dX2_release_100 (by decide) (fun _ => ?_) (fun c => absurd c hp)
          refine lv_iinc (v := 2) (lv' := [(2, .int 2), (0, .ref h), (1, .int p1)]) hx hb dX2_release_110 hl (k := 0) rfl (by decide) (by decide) rfl (fun ls hl => ?_)
          refine lv_goto (tgt := 88) hx hb dX2_release_113 (by decide) ?_
          refine lv_iload_n hx hb dX2_release_88 rfl (lv_at hl 0 rfl) ?_
          refine lv_iconst (v := 5) hx hb dX2_release_89 (by decide) ?_
          refine lv_icmp_ge (tgt := 116) hx hb dX2_release_90 (by decide) (fun c => absurd c (by decide)) (fun _ => ?_)
          refine lv_aload_n hx hb dX2_release_93 rfl (lv_at hl 1 rfl) ?_
          refine va_get (D := (dC, dI)) (ci := 2) (v := .ref a5) (C := RX2) (T := TX2) (N := 7) hx hb hts hinX2 hown hK hP 2 rfl rfl 5 (by decide) k_2 (fun _ h9 => h9) rfl dX2_release_94 ?_
          refine lv_iload_n hx hb dX2_release_97 rfl (lv_at hl 0 rfl) ?_
          refine za_iald (v := (-1)) hx hb hK hP 1 0 rfl rfl (zin tn_2 (Nat.le_of_ble_eq_true rfl)) (zrd _ tn_2 rfl) dX2_release_98 ?_
          refine lv_iload_n hx hb dX2_release_99 rfl (lv_at hl 2 rfl) ?_
          refine lv_icmp_ne (tgt := 110) hx hb dX2_release_100 (by decide) (fun _ => ?_) (fun c => absurd c hp)
          refine lv_iinc (v := 3) (lv' := [(2, .int 3), (0, .ref h), (1, .int p1)]) hx hb dX2_release_110 hl (k := 0) rfl (by decide) (by decide) rfl (fun ls hl => ?_)
          refine lv_goto (tgt := 88) hx hb dX2_release_113 (by decide) ?_
          refine lv_iload_n hx hb dX2_release_88 rfl (lv_at hl 0 rfl) ?_
          refine lv_iconst (v := 5) hx hb dX2_release_89 (by decide) ?_
          refine lv_icmp_ge (tgt := 116) hx hb dX2_release_90 (by decide) (fun c => absurd c (by decide)) (fun _ => ?_)
          refine lv_aload_n hx hb dX2_release_93 rfl (lv_at hl 1 rfl) ?_
          refine va_get (D := (dC, dI)) (ci := 2) (v := .ref a5) (C := RX2) (T := TX2) (N := 7) hx hb hts hinX2 hown hK hP 2 rfl rfl 5 (by decide) k_2 (fun _ h9 => h9) rfl dX2_release_94 ?_
          refine lv_iload_n hx hb dX2_release_97 rfl (lv_at hl 0 rfl) ?_
          refine za_iald (v := (-1)) hx hb hK hP 1 0 rfl rfl (zin tn_3 (Nat.le_of_ble_eq_true rfl)) (zrd _ tn_3 rfl) dX2_release_98 ?_
          refine lv_iload_n hx hb dX2_release_99 rfl (lv_at hl 2 rfl) ?_
          refine lv_icmp_ne (tgt := 110) hx hb dX2_release_100 (by decide) (fun _ => ?_) (fun c => absurd c hp)
          refine lv_iinc (v := 4) (lv' := [(2, .int 4), (0, .ref h), (1, .int p1)]) hx hb dX2_release_110 hl (k := 0) rfl (by decide) (by decide) rfl (fun ls hl => ?_)
          refine lv_goto (tgt := 88) hx hb dX2_release_113 (by decide) ?_
          refine lv_iload_n hx hb dX2_release_88 rfl (lv_at hl 0 rfl) ?_
          refine lv_iconst (v := 5) hx hb dX2_release_89 (by decide) ?_
          refine lv_icmp_ge (tgt := 116) hx hb dX2_release_90 (by decide) (fun c => absurd c (by decide)) (fun _ => ?_)
          refine lv_aload_n hx hb dX2_release_93 rfl (lv_at hl 1 rfl) ?_
          refine va_get (D := (dC, dI)) (ci := 2) (v := .ref a5) (C := RX2) (T := TX2) (N := 7) hx hb hts hinX2 hown hK hP 2 rfl rfl 5 (by decide) k_2 (fun _ h9 => h9) rfl dX2_release_94 ?_
          refine lv_iload_n hx hb dX2_release_97 rfl (lv_at hl 0 rfl) ?_
          refine za_iald (v := (-1)) hx hb hK hP 1 0 rfl rfl (zin tn_4 (Nat.le_of_ble_eq_true rfl)) (zrd _ tn_4 rfl) dX2_release_98 ?_
          refine lv_iload_n hx hb dX2_release_99 rfl (lv_at hl 2 rfl) ?_
          refine lv_icmp_ne (tgt := 110) hx hb dX2_release_100 (by decide) (fun _ => ?_) (fun c => absurd c hp)
          refine lv_iinc (v := 5) (lv' := [(2, .int 5), (0, .ref h), (1, .int p1)]) hx hb dX2_release_110 hl (k := 0) rfl (by decide) (by decide) rfl (fun ls hl => ?_)
          refine lv_goto (tgt := 88) hx hb dX2_release_113 (by decide) ?_
          refine lv_iload_n hx hb dX2_release_88 rfl (lv_at hl 0 rfl) ?_
          refine lv_iconst (v := 5) hx hb dX2_release_89 (by decide) ?_
          refine lv_icmp_ge (tgt := 116) hx hb dX2_release_90 (by decide) (fun _ => ?_) (fun c => absurd (by decide) c)
          have e_0 : (pfX2_release_a4_0 o0 p1) = (-1) := by rw [pfX2_release_a4_0, if_pos c_1]
          have e_1 : (pfX2_release_a4_1 o1 p1) = (-1) := by rw [pfX2_release_a4_1, if_pos c_9]
          have e_2 : (pfX2_release_a4_2 o2 p1) = o2 := by rw [pfX2_release_a4_2, if_neg c_13]
          have e_3 : (pfX2_release_a4_3 o3 p1) = o3 := by rw [pfX2_release_a4_3, if_neg c_14]
          have hP9 := hP.sub (ws' := [(h, .inr (2, [.ref a0, .ref a1, .ref a2, .ref a3, .ref a4, .ref a5, .ref a6])), (a0, .inl (cI, 22, .inl (gl [m0, m1, m2, ((m3 + 1) &&& 15), (m4 + (pfX2_ofBuffer_g_r m5 (pfX2_putBuffer_g_a6_f fb p1 0 3) p1 7)), m5, (m6 - 1), m7, m8, m9, m10, m11, m12, m13, m14, m15, m16, m17, 0, 4, 0, 16]))), (a4, .inl (cI, 8, .inl (gl [(-1), (-1), o2, o3, (-1), (-1), (-1), (-1)]))), (a5, .inl (cI, 5, .inl (gl [(-1), (-1), (-1), (-1), (-1)]))), (a6, .inl (cI, 4000, .inl (pfX2_putBuffer_g_a6_f fb p1 0 3)))]) [2, 3, 0, 1, 4] rfl
          have hD9 := hD.sub (ws' := [(h, .inr (2, [.ref a0, .ref a1, .ref a2, .ref a3, .ref a4, .ref a5, .ref a6])), (a0, .inl (cI, 22, .inl (gl [m0, m1, m2, ((m3 + 1) &&& 15), (m4 + (pfX2_ofBuffer_g_r m5 (pfX2_putBuffer_g_a6_f fb p1 0 3) p1 7)), m5, (m6 - 1), m7, m8, m9, m10, m11, m12, m13, m14, m15, m16, m17, 0, 4, 0, 16]))), (a4, .inl (cI, 8, .inl (gl [(-1), (-1), o2, o3, (-1), (-1), (-1), (-1)]))), (a5, .inl (cI, 5, .inl (gl [(-1), (-1), (-1), (-1), (-1)]))), (a6, .inl (cI, 4000, .inl (pfX2_putBuffer_g_a6_f fb p1 0 3)))]) [2, 3, 0, 1, 4] (by decide) rfl
          exact W.vret hx hb hr (fun t ht hW => ⟨⟨(), rfl, trivial, by rw [ht, e_0, e_1, e_2, e_3]; exact hP9, va_K.moved hW.alike hK, (by rw [e_0, e_1, e_2, e_3]; exact hD9)⟩, hS.F ht⟩) hS.2.2 dX2_release_116
        · refine lv_aload_n hx hb dX2_release_73 rfl (lv_at hl 1 rfl) ?_
          refine va_get (D := (dC, dI)) (ci := 2) (v := .ref a4) (C := RX2) (T := TX2) (N := 7) hx hb hts hinX2 hown hK hP 2 rfl rfl 4 (by decide) k_1 (fun _ h9 => h9) rfl dX2_release_74 ?_
          refine lv_iload_n hx hb dX2_release_77 rfl (lv_at hl 0 rfl) ?_
          refine lv_iconst (v := (-1)) hx hb dX2_release_78 (by decide) ?_
          refine za_iast (f' := (gl [(-1), (-1), o2, (-1), (-1), (-1), (-1), (-1)])) hx hb hK hP hD hS 0 0 rfl rfl (zin tn_3 (Nat.le_of_ble_eq_true rfl)) (zup_gl tn_3 (Nat.le_of_ble_eq_true rfl) rfl) dX2_release_79 (fun H locs hP hD hS => ?_)
          have hP : va_P (dC, dI) vwCl [(a4, .inl (cI, 8, .inl (gl [(-1), (-1), o2, (-1), (-1), (-1), (-1), (-1)]))), (a5, .inl (cI, 5, .inl (gl [(-1), (-1), (-1), (-1), (-1)]))), (h, .inr (2, [.ref a0, .ref a1, .ref a2, .ref a3, .ref a4, .ref a5, .ref a6])), (a0, .inl (cI, 22, .inl (gl [m0, m1, m2, ((m3 + 1) &&& 15), (m4 + (pfX2_ofBuffer_g_r m5 (pfX2_putBuffer_g_a6_f fb p1 0 3) p1 7)), m5, (m6 - 1), m7, m8, m9, m10, m11, m12, m13, m14, m15, m16, m17, 0, 4, 0, 16]))), (a6, .inl (cI, 4000, .inl (pfX2_putBuffer_g_a6_f fb p1 0 3)))] H := hP
          have hD : va_D A [(a4, .inl (cI, 8, .inl (gl [(-1), (-1), o2, (-1), (-1), (-1), (-1), (-1)]))), (a5, .inl (cI, 5, .inl (gl [(-1), (-1), (-1), (-1), (-1)]))), (h, .inr (2, [.ref a0, .ref a1, .ref a2, .ref a3, .ref a4, .ref a5, .ref a6])), (a0, .inl (cI, 22, .inl (gl [m0, m1, m2, ((m3 + 1) &&& 15), (m4 + (pfX2_ofBuffer_g_r m5 (pfX2_putBuffer_g_a6_f fb p1 0 3) p1 7)), m5, (m6 - 1), m7, m8, m9, m10, m11, m12, m13, m14, m15, m16, m17, 0, 4, 0, 16]))), (a6, .inl (cI, 4000, .inl (pfX2_putBuffer_g_a6_f fb p1 0 3)))] := hD
          refine lv_iinc (v := 4) (lv' := [(2, .int 4), (0, .ref h), (1, .int p1)]) hx hb dX2_release_80 hl (k := 0) rfl (by decide) (by decide) rfl (fun ls hl => ?_)
          refine lv_goto (tgt := 57) hx hb dX2_release_83 (by decide) ?_
          refine lv_iload_n hx hb dX2_release_57 rfl (lv_at hl 0 rfl) ?_
          refine lv_bipush (v := 8) hx hb dX2_release_58 (by decide) ?_
          refine lv_icmp_ge (tgt := 86) hx hb dX2_release_60 (by decide) (fun c => absurd c (by decide)) (fun _ => ?_)
          refine lv_aload_n hx hb dX2_release_63 rfl (lv_at hl 1 rfl) ?_
          refine va_get (D := (dC, dI)) (ci := 2) (v := .ref a4) (C := RX2) (T := TX2) (N := 7) hx hb hts hinX2 hown hK hP 2 rfl rfl 4 (by decide) k_1 (fun _ h9 => h9) rfl dX2_release_64 ?_
          refine lv_iload_n hx hb dX2_release_67 rfl (lv_at hl 0 rfl) ?_
          refine za_iald (v := (-1)) hx hb hK hP 0 0 rfl rfl (zin tn_4 (Nat.le_of_ble_eq_true rfl)) (zrd _ tn_4 rfl) dX2_release_68 ?_
          refine lv_iload_n hx hb dX2_release_69 rfl (lv_at hl 2 rfl) ?_
          refine lv_icmp_ne (tgt := 80) hx hb dX2_release_70 (by decide) (fun _ => ?_) (fun c => absurd c hp)
          refine lv_iinc (v := 5) (lv' := [(2, .int 5), (0, .ref h), (1, .int p1)]) hx hb dX2_release_80 hl (k := 0) rfl (by decide) (by decide) rfl (fun ls hl => ?_)
          refine lv_goto (tgt := 57) hx hb dX2_release_83 (by decide) ?_
          refine lv_iload_n hx hb dX2_release_57 rfl (lv_at hl 0 rfl) ?_
          refine lv_bipush (v := 8) hx hb dX2_release_58 (by decide) ?_
          refine lv_icmp_ge (tgt := 86) hx hb dX2_release_60 (by decide) (fun c => absurd c (by decide)) (fun _ => ?_)
          refine lv_aload_n hx hb dX2_release_63 rfl (lv_at hl 1 rfl) ?_
          refine va_get (D := (dC, dI)) (ci := 2) (v := .ref a4) (C := RX2) (T := TX2) (N := 7) hx hb hts hinX2 hown hK hP 2 rfl rfl 4 (by decide) k_1 (fun _ h9 => h9) rfl dX2_release_64 ?_
          refine lv_iload_n hx hb dX2_release_67 rfl (lv_at hl 0 rfl) ?_
          refine za_iald (v := (-1)) hx hb hK hP 0 0 rfl rfl (zin tn_5 (Nat.le_of_ble_eq_true rfl)) (zrd _ tn_5 rfl) dX2_release_68 ?_
          refine lv_iload_n hx hb dX2_release_69 rfl (lv_at hl 2 rfl) ?_
          refine lv_icmp_ne (tgt := 80) hx hb dX2_release_70 (by decide) (fun _ => ?_) (fun c => absurd c hp)
          refine lv_iinc (v := 6) (lv' := [(2, .int 6), (0, .ref h), (1, .int p1)]) hx hb dX2_release_80 hl (k := 0) rfl (by decide) (by decide) rfl (fun ls hl => ?_)
          refine lv_goto (tgt := 57) hx hb dX2_release_83 (by decide) ?_
          refine lv_iload_n hx hb dX2_release_57 rfl (lv_at hl 0 rfl) ?_
          refine lv_bipush (v := 8) hx hb dX2_release_58 (by decide) ?_
          refine lv_icmp_ge (tgt := 86) hx hb dX2_release_60 (by decide) (fun c => absurd c (by decide)) (fun _ => ?_)
          refine lv_aload_n hx hb dX2_release_63 rfl (lv_at hl 1 rfl) ?_
          refine va_get (D := (dC, dI)) (ci := 2) (v := .ref a4) (C := RX2) (T := TX2) (N := 7) hx hb hts hinX2 hown hK hP 2 rfl rfl 4 (by decide) k_1 (fun _ h9 => h9) rfl dX2_release_64 ?_
          refine lv_iload_n hx hb dX2_release_67 rfl (lv_at hl 0 rfl) ?_
          refine za_iald (v := (-1)) hx hb hK hP 0 0 rfl rfl (zin tn_6 (Nat.le_of_ble_eq_true rfl)) (zrd _ tn_6 rfl) dX2_release_68 ?_
          refine lv_iload_n hx hb dX2_release_69 rfl (lv_at hl 2 rfl) ?_
          refine lv_icmp_ne (tgt := 80) hx hb dX2_release_70 (by decide) (fun _ => ?_) (fun c => absurd c hp)
          refine lv_iinc (v := 7) (lv' := [(2, .int 7), (0, .ref h), (1, .int p1)]) hx hb dX2_release_80 hl (k := 0) rfl (by decide) (by decide) rfl (fun ls hl => ?_)
          refine lv_goto (tgt := 57) hx hb dX2_release_83 (by decide) ?_
          refine lv_iload_n hx hb dX2_release_57 rfl (lv_at hl 0 rfl) ?_
          refine lv_bipush (v := 8) hx hb dX2_release_58 (by decide) ?_
          refine lv_icmp_ge (tgt := 86) hx hb dX2_release_60 (by decide) (fun c => absurd c (by decide)) (fun _ => ?_)
          refine lv_aload_n hx hb dX2_release_63 rfl (lv_at hl 1 rfl) ?_
          refine va_get (D := (dC, dI)) (ci := 2) (v := .ref a4) (C := RX2) (T := TX2) (N := 7) hx hb hts hinX2 hown hK hP 2 rfl rfl 4 (by decide) k_1 (fun _ h9 => h9) rfl dX2_release_64 ?_
          refine lv_iload_n hx hb dX2_release_67 rfl (lv_at hl 0 rfl) ?_
          refine za_iald (v := (-1)) hx hb hK hP 0 0 rfl rfl (zin tn_7 (Nat.le_of_ble_eq_true rfl)) (zrd _ tn_7 rfl) dX2_release_68 ?_
          refine lv_iload_n hx hb dX2_release_69 rfl (lv_at hl 2 rfl) ?_
          refine lv_icmp_ne (tgt := 80) hx hb dX2_release_70 (by decide) (fun _ => ?_) (fun c => absurd c hp)
          refine lv_iinc (v := 8) (lv' := [(2, .int 8), (0, .ref h), (1, .int p1)]) hx hb dX2_release_80 hl (k := 0) rfl (by decide) (by decide) rfl (fun ls hl => ?_)
          refine lv_goto (tgt := 57) hx hb dX2_release_83 (by decide) ?_
          refine lv_iload_n hx hb dX2_release_57 rfl (lv_at hl 0 rfl) ?_
          refine lv_bipush (v := 8) hx hb dX2_release_58 (by decide) ?_
          refine lv_icmp_ge (tgt := 86) hx hb dX2_release_60 (by decide) (fun _ => ?_) (fun c => absurd (by decide) c)
          refine lv_iconst (v := 1) hx hb dX2_release_86 (by decide) ?_
          refine lv_istore_n (lv' := [(2, .int 1), (0, .ref h), (1, .int p1)]) hx hb dX2_release_87 rfl hl (by decide) rfl (fun ls hl => ?_)
          refine lv_iload_n hx hb dX2_release_88 rfl (lv_at hl 0 rfl) ?_
          refine lv_iconst (v := 5) hx hb dX2_release_89 (by decide) ?_
          refine lv_icmp_ge (tgt := 116) hx hb dX2_release_90 (by decide) (fun c => absurd c (by decide)) (fun _ => ?_)
          refine lv_aload_n hx hb dX2_release_93 rfl (lv_at hl 1 rfl) ?_
          refine va_get (D := (dC, dI)) (ci := 2) (v := .ref a5) (C := RX2) (T := TX2) (N := 7) hx hb hts hinX2 hown hK hP 2 rfl rfl 5 (by decide) k_2 (fun _ h9 => h9) rfl dX2_release_94 ?_
          refine lv_iload_n hx hb dX2_release_97 rfl (lv_at hl 0 rfl) ?_
          refine za_iald (v := (-1)) hx hb hK hP 1 0 rfl rfl (zin tn_1 (Nat.le_of_ble_eq_true rfl)) (zrd _ tn_1 rfl) dX2_release_98 ?_
          refine lv_iload_n hx hb dX2_release_99 rfl (lv_at hl 2 rfl) ?_
          refine lv_icmp_ne (tgt := 110) hx hb dX2_release_100 (by decide) (fun _ => ?_) (fun c => absurd c hp)
          refine lv_iinc (v := 2) (lv' := [(2, .int 2), (0, .ref h), (1, .int p1)]) hx hb dX2_release_110 hl (k := 0) rfl (by decide) (by decide) rfl (fun ls hl => ?_)
          refine lv_goto (tgt := 88) hx hb dX2_release_113 (by decide) ?_
          refine lv_iload_n hx hb dX2_release_88 rfl (lv_at hl 0 rfl) ?_
          refine lv_iconst (v := 5) hx hb dX2_release_89 (by decide) ?_
          refine lv_icmp_ge (tgt := 116) hx hb dX2_release_90 (by decide) (fun c => absurd c (by decide)) (fun _ => ?_)
          refine lv_aload_n hx hb dX2_release_93 rfl (lv_at hl 1 rfl) ?_
          refine va_get (D := (dC, dI)) (ci := 2) (v := .ref a5) (C := RX2) (T := TX2) (N := 7) hx hb hts hinX2 hown hK hP 2 rfl rfl 5 (by decide) k_2 (fun _ h9 => h9) rfl dX2_release_94 ?_
          refine lv_iload_n hx hb dX2_release_97 rfl (lv_at hl 0 rfl) ?_
          refine za_iald (v := (-1)) hx hb hK hP 1 0 rfl rfl (zin tn_2 (Nat.le_of_ble_eq_true rfl)) (zrd _ tn_2 rfl) dX2_release_98 ?_
          refine lv_iload_n hx hb dX2_release_99 rfl (lv_at hl 2 rfl) ?_
          refine lv_icmp_ne (tgt := 110) hx hb dX2_release_100 (by decide) (fun _ => ?_) (fun c => absurd c hp)
          refine lv_iinc (v := 3) (lv' := [(2, .int 3), (0, .ref h), (1, .int p1)]) hx hb dX2_release_110 hl (k := 0) rfl (by decide) (by decide) rfl (fun ls hl => ?_)
          refine lv_goto (tgt := 88) hx hb dX2_release_113 (by decide) ?_
          refine lv_iload_n hx hb dX2_release_88 rfl (lv_at hl 0 rfl) ?_
          refine lv_iconst (v := 5) hx hb dX2_release_89 (by decide) ?_
          refine lv_icmp_ge (tgt := 116) hx hb dX2_release_90 (by decide) (fun c => absurd c (by decide)) (fun _ => ?_)
          refine lv_aload_n hx hb dX2_release_93 rfl (lv_at hl 1 rfl) ?_
          refine va_get (D := (dC, dI)) (ci := 2) (v := .ref a5) (C := RX2) (T := TX2) (N := 7) hx hb hts hinX2 hown hK hP 2 rfl rfl 5 (by decide) k_2 (fun _ h9 => h9) rfl dX2_release_94 ?_
          refine lv_iload_n hx hb dX2_release_97 rfl (lv_at hl 0 rfl) ?_
          refine za_iald (v := (-1)) hx hb hK hP 1 0 rfl rfl (zin tn_3 (Nat.le_of_ble_eq_true rfl)) (zrd _ tn_3 rfl) dX2_release_98 ?_
          refine lv_iload_n hx hb dX2_release_99 rfl (lv_at hl 2 rfl) ?_
          refine lv_icmp_ne (tgt := 110) hx hb dX2_release_100 (by decide) (fun _ => ?_) (fun c => absurd c hp)
          refine lv_iinc (v := 4) (lv' := [(2, .int 4), (0, .ref h), (1, .int p1)]) hx hb dX2_release_110 hl (k := 0) rfl (by decide) (by decide) rfl (fun ls hl => ?_)
          refine lv_goto (tgt := 88) hx hb dX2_release_113 (by decide) ?_
          refine lv_iload_n hx hb dX2_release_88 rfl (lv_at hl 0 rfl) ?_
          refine lv_iconst (v := 5) hx hb dX2_release_89 (by decide) ?_
          refine lv_icmp_ge (tgt := 116) hx hb dX2_release_90 (by decide) (fun c => absurd c (by decide)) (fun _ => ?_)
          refine lv_aload_n hx hb dX2_release_93 rfl (lv_at hl 1 rfl) ?_
          refine va_get (D := (dC, dI)) (ci := 2) (v := .ref a5) (C := RX2) (T := TX2) (N := 7) hx hb hts hinX2 hown hK hP 2 rfl rfl 5 (by decide) k_2 (fun _ h9 => h9) rfl dX2_release_94 ?_
          refine lv_iload_n hx hb dX2_release_97 rfl (lv_at hl 0 rfl) ?_
          refine za_iald (v := (-1)) hx hb hK hP 1 0 rfl rfl (zin tn_4 (Nat.le_of_ble_eq_true rfl)) (zrd _ tn_4 rfl) dX2_release_98 ?_
          refine lv_iload_n hx hb dX2_release_99 rfl (lv_at hl 2 rfl) ?_
          refine lv_icmp_ne (tgt := 110) hx hb dX2_release_100 (by decide) (fun _ => ?_) (fun c => absurd c hp)
          refine lv_iinc (v := 5) (lv' := [(2, .int 5), (0, .ref h), (1, .int p1)]) hx hb dX2_release_110 hl (k := 0) rfl (by decide) (by decide) rfl (fun ls hl => ?_)
          refine lv_goto (tgt := 88) hx hb dX2_release_113 (by decide) ?_
          refine lv_iload_n hx hb dX2_release_88 rfl (lv_at hl 0 rfl) ?_
          refine lv_iconst (v := 5) hx hb dX2_release_89 (by decide) ?_
          refine lv_icmp_ge (tgt := 116) hx hb dX2_release_90 (by decide) (fun _ => ?_) (fun c => absurd (by decide) c)
          have e_0 : (pfX2_release_a4_0 o0 p1) = (-1) := by rw [pfX2_release_a4_0, if_pos c_1]
          have e_1 : (pfX2_release_a4_1 o1 p1) = (-1) := by rw [pfX2_release_a4_1, if_pos c_9]
          have e_2 : (pfX2_release_a4_2 o2 p1) = o2 := by rw [pfX2_release_a4_2, if_neg c_13]
          have e_3 : (pfX2_release_a4_3 o3 p1) = (-1) := by rw [pfX2_release_a4_3, if_pos c_14]
          have hP9 := hP.sub (ws' := [(h, .inr (2, [.ref a0, .ref a1, .ref a2, .ref a3, .ref a4, .ref a5, .ref a6])), (a0, .inl (cI, 22, .inl (gl [m0, m1, m2, ((m3 + 1) &&& 15), (m4 + (pfX2_ofBuffer_g_r m5 (pfX2_putBuffer_g_a6_f fb p1 0 3) p1 7)), m5, (m6 - 1), m7, m8, m9, m10, m11, m12, m13, m14, m15, m16, m17, 0, 4, 0, 16]))), (a4, .inl (cI, 8, .inl (gl [(-1), (-1), o2, (-1), (-1), (-1), (-1), (-1)]))), (a5, .inl (cI, 5, .inl (gl [(-1), (-1), (-1), (-1), (-1)]))), (a6, .inl (cI, 4000, .inl (pfX2_putBuffer_g_a6_f fb p1 0 3)))]) [2, 3, 0, 1, 4] rfl
          have hD9 := hD.sub (ws' := [(h, .inr (2, [.ref a0, .ref a1, .ref a2, .ref a3, .ref a4, .ref a5, .ref a6])), (a0, .inl (cI, 22, .inl (gl [m0, m1, m2, ((m3 + 1) &&& 15), (m4 + (pfX2_ofBuffer_g_r m5 (pfX2_putBuffer_g_a6_f fb p1 0 3) p1 7)), m5, (m6 - 1), m7, m8, m9, m10, m11, m12, m13, m14, m15, m16, m17, 0, 4, 0, 16]))), (a4, .inl (cI, 8, .inl (gl [(-1), (-1), o2, (-1), (-1), (-1), (-1), (-1)]))), (a5, .inl (cI, 5, .inl (gl [(-1), (-1), (-1), (-1), (-1)]))), (a6, .inl (cI, 4000, .inl (pfX2_putBuffer_g_a6_f fb p1 0 3)))]) [2, 3, 0, 1, 4] (by decide) rfl
          exact W.vret hx hb hr (fun t ht hW => ⟨⟨(), rfl, trivial, by rw [ht, e_0, e_1, e_2, e_3]; exact hP9, va_K.moved hW.alike hK, (by rw [e_0, e_1, e_2, e_3]; exact hD9)⟩, hS.F ht⟩) hS.2.2 dX2_release_116
      · refine lv_aload_n hx hb dX2_release_73 rfl (lv_at hl 1 rfl) ?_
        refine va_get (D := (dC, dI)) (ci := 2) (v := .ref a4) (C := RX2) (T := TX2) (N := 7) hx hb hts hinX2 hown hK hP 2 rfl rfl 4 (by decide) k_1 (fun _ h9 => h9) rfl dX2_release_74 ?_
        refine lv_iload_n hx hb dX2_release_77 rfl (lv_at hl 0 rfl) ?_
        refine lv_iconst (v := (-1)) hx hb dX2_release_78 (by decide) ?_
        refine za_iast (f' := (gl [(-1), (-1), (-1), o3, (-1), (-1), (-1), (-1)])) hx hb hK hP hD hS 0 0 rfl rfl (zin tn_2 (Nat.le_of_ble_eq_true rfl)) (zup_gl tn_2 (Nat.le_of_ble_eq_true rfl) rfl) dX2_release_79 (fun H locs hP hD hS => ?_)
        have hP : va_P (dC, dI) vwCl [(a4, .inl (cI, 8, .inl (gl [(-1), (-1), (-1), o3, (-1), (-1), (-1), (-1)]))), (a5, .inl (cI, 5, .inl (gl [(-1), (-1), (-1), (-1), (-1)]))), (h, .inr (2, [.ref a0, .ref a1, .ref a2, .ref a3, .ref a4, .ref a5, .ref a6])), (a0, .inl (cI, 22, .inl (gl [m0, m1, m2, ((m3 + 1) &&& 15), (m4 + (pfX2_ofBuffer_g_r m5 (pfX2_putBuffer_g_a6_f fb p1 0 3) p1 7)), m5, (m6 - 1), m7, m8, m9, m10, m11, m12, m13, m14, m15, m16, m17, 0, 4, 0, 16]))), (a6, .inl (cI, 4000, .inl (pfX2_putBuffer_g_a6_f fb p1 0 3)))] H := hP
        have hD : va_D A [(a4, .inl (cI, 8, .inl (gl [(-1), (-1), (-1), o3, (-1), (-1), (-1), (-1)]))), (a5, .inl (cI, 5, .inl (gl [(-1), (-1), (-1), (-1), (-1)]))), (h, .inr (2, [.ref a0, .ref a1, .ref a2, .ref a3, .ref a4, .ref a5, .ref a6])), (a0, .inl (cI, 22, .inl (gl [m0, m1, m2, ((m3 + 1) &&& 15), (m4 + (pfX2_ofBuffer_g_r m5 (pfX2_putBuffer_g_a6_f fb p1 0 3) p1 7)), m5, (m6 - 1), m7, m8, m9, m10, m11, m12, m13, m14, m15, m16, m17, 0, 4, 0, 16]))), (a6, .inl (cI, 4000, .inl (pfX2_putBuffer_g_a6_f fb p1 0 3)))] := hD
        refine lv_iinc (v := 3) (lv' := [(2, .int 3), (0, .ref h), (1, .int p1)]) hx hb dX2_release_80 hl (k := 0) rfl (by decide) (by decide) rfl (fun ls hl => ?_)
        refine lv_goto (tgt := 57) hx hb dX2_release_83 (by decide) ?_
        refine lv_iload_n hx hb dX2_release_57 rfl (lv_at hl 0 rfl) ?_
        refine lv_bipush (v := 8) hx hb dX2_release_58 (by decide) ?_
        refine lv_icmp_ge (tgt := 86) hx hb dX2_release_60 (by decide) (fun c => absurd c (by decide)) (fun _ => ?_)
        refine lv_aload_n hx hb dX2_release_63 rfl (lv_at hl 1 rfl) ?_
        refine va_get (D := (dC, dI)) (ci := 2) (v := .ref a4) (C := RX2) (T := TX2) (N := 7) hx hb hts hinX2 hown hK hP 2 rfl rfl 4 (by decide) k_1 (fun _ h9 => h9) rfl dX2_release_64 ?_
        refine lv_iload_n hx hb dX2_release_67 rfl (lv_at hl 0 rfl) ?_
        refine za_iald (v := o3) hx hb hK hP 0 0 rfl rfl (zin tn_3 (Nat.le_of_ble_eq_true rfl)) (zrd _ tn_3 rfl) dX2_release_68 ?_
        refine lv_iload_n hx hb dX2_release_69 rfl (lv_at hl 2 rfl) ?_
        refine lv_icmp_ne (tgt := 80) hx hb dX2_release_70 (by decide) (fun c_15 => ?_) (fun c_15 => ?_)
        · refine lv_iinc (v := 4) (lv' := [(2, .int 4), (0, .ref h), (1, .int p1)]) hx hb dX2_release_80 hl (k := 0) rfl (by decide) (by decide) rfl (fun ls hl => ?_)
          refine lv_goto (tgt := 57) hx hb dX2_release_83 (by decide) ?_
          refine lv_iload_n hx hb dX2_release_57 rfl (lv_at hl 0 rfl) ?_
          refine lv_bipush (v := 8) hx hb dX2_release_58 (by decide) ?_
          refine lv_icmp_ge (tgt := 86) hx hb dX2_release_60 (by decide) (fun c => absurd c (by decide)) (fun _ => ?_)
          refine lv_aload_n hx hb dX2_release_63 rfl (lv_at hl 1 rfl) ?_
          refine va_get (D := (dC, dI)) (ci := 2) (v := .ref a4) (C := RX2) (T := TX2) (N := 7) hx hb hts hinX2 hown hK hP 2 rfl rfl 4 (by decide) k_1 (fun _ h9 => h9) rfl dX2_release_64 ?_
          refine lv_iload_n hx hb dX2_release_67 rfl (lv_at hl 0 rfl) ?_
          refine za_iald (v := (-1)) hx hb hK hP 0 0 rfl rfl (zin tn_4 (Nat.le_of_ble_eq_true rfl)) (zrd _ tn_4 rfl) dX2_release_68 ?_
          refine lv_iload_n hx hb dX2_release_69 rfl (lv_at hl 2 rfl) ?_
          refine lv_icmp_ne (tgt := 80) hx hb dX2_release_70 (by decide) (fun _ => ?_) (fun c => absurd c hp)
          refine lv_iinc (v := 5) (lv' := [(2, .int 5), (0, .ref h), (1, .int p1)]) hx hb dX2_release_80 hl (k := 0) rfl (by decide) (by decide) rfl (fun ls hl => ?_)
          refine lv_goto (tgt := 57) hx hb dX2_release_83 (by decide) ?_
          refine lv_iload_n hx hb dX2_release_57 rfl (lv_at hl 0 rfl) ?_
          refine lv_bipush (v := 8) hx hb dX2_release_58 (by decide) ?_
          refine lv_icmp_ge (tgt := 86) hx hb dX2_release_60 (by decide) (fun c => absurd c (by decide)) (fun _ => ?_)
          refine lv_aload_n hx hb dX2_release_63 rfl (lv_at hl 1 rfl) ?_
          refine va_get (D := (dC, dI)) (ci := 2) (v := .ref a4) (C := RX2) (T := TX2) (N := 7) hx hb hts hinX2 hown hK hP 2 rfl rfl 4 (by decide) k_1 (fun _ h9 => h9) rfl dX2_release_64 ?_
          refine lv_iload_n hx hb dX2_release_67 rfl (lv_at hl 0 rfl) ?_
          refine za_iald (v := (-1)) hx hb hK hP 0 0 rfl rfl (zin tn_5 (Nat.le_of_ble_eq_true rfl)) (zrd _ tn_5 rfl) dX2_release_68 ?_
          refine lv_iload_n hx hb dX2_release_69 rfl (lv_at hl 2 rfl) ?_
          refine lv_icmp_ne (tgt := 80) hx hb dX2_release_70 (by decide) (fun _ => ?_) (fun c => absurd c hp)
          refine lv_iinc (v := 6) (lv' := [(2, .int 6), (0, .ref h), (1, .int p1)]) hx hb dX2_release_80 hl (k := 0) rfl (by decide) (by decide) rfl (fun ls hl => ?_)
          refine lv_goto (tgt := 57) hx hb dX2_release_83 (by decide) ?_
          refine lv_iload_n hx hb dX2_release_57 rfl (lv_at hl 0 rfl) ?_
          refine lv_bipush (v := 8) hx hb dX2_release_58 (by decide) ?_
          refine lv_icmp_ge (tgt := 86) hx hb dX2_release_60 (by decide) (fun c => absurd c (by decide)) (fun _ => ?_)
          refine lv_aload_n hx hb dX2_release_63 rfl (lv_at hl 1 rfl) ?_
          refine va_get (D := (dC, dI)) (ci := 2) (v := .ref a4) (C := RX2) (T := TX2) (N := 7) hx hb hts hinX2 hown hK hP 2 rfl rfl 4 (by decide) k_1 (fun _ h9 => h9) rfl dX2_release_64 ?_
          refine lv_iload_n hx hb dX2_release_67 rfl (lv_at hl 0 rfl) ?_
          refine za_iald (v := (-1)) hx hb hK hP 0 0 rfl rfl (zin tn_6 (Nat.le_of_ble_eq_true rfl)) (zrd _ tn_6 rfl) dX2_release_68 ?_
          refine lv_iload_n hx hb dX2_release_69 rfl (lv_at hl 2 rfl) ?_
          refine lv_icmp_ne (tgt := 80) hx hb dX2_release_70 (by decide) (fun _ => ?_) (fun c => absurd c hp)
          refine lv_iinc (v := 7) (lv' := [(2, .int 7), (0, .ref h), (1, .int p1)]) hx hb dX2_release_80 hl (k := 0) rfl (by decide) (by decide) rfl (fun ls hl => ?_)
          refine lv_goto (tgt := 57) hx hb dX2_release_83 (by decide) ?_
          refine lv_iload_n hx hb dX2_release_57 rfl (lv_at hl 0 rfl) ?_
          refine lv_bipush (v := 8) hx hb dX2_release_58 (by decide) ?_
          refine lv_icmp_ge (tgt := 86) hx hb dX2_release_60 (by decide) (fun c => absurd c (by decide)) (fun _ => ?_)
          refine lv_aload_n hx hb dX2_release_63 rfl (lv_at hl 1 rfl) ?_
          refine va_get (D := (dC, dI)) (ci := 2) (v := .ref a4) (C := RX2) (T := TX2) (N := 7) hx hb hts hinX2 hown hK hP 2 rfl rfl 4 (by decide) k_1 (fun _ h9 => h9) rfl dX2_release_64 ?_
          refine lv_iload_n hx hb dX2_release_67 rfl (lv_at hl 0 rfl) ?_
          refine za_iald (v := (-1)) hx hb hK hP 0 0 rfl rfl (zin tn_7 (Nat.le_of_ble_eq_true rfl)) (zrd _ tn_7 rfl) dX2_release_68 ?_
          refine lv_iload_n hx hb dX2_release_69 rfl (lv_at hl 2 rfl) ?_
          refine lv_icmp_ne (tgt := 80) hx hb dX2_release_70 (by decide) (fun _ => ?_) (fun c => absurd c hp)
          refine lv_iinc (v := 8) (lv' := [(2, .int 8), (0, .ref h), (1, .int p1)]) hx hb dX2_release_80 hl (k := 0) rfl (by decide) (by decide) rfl (fun ls hl => ?_)
          refine lv_goto (tgt := 57) hx hb dX2_release_83 (by decide) ?_
          refine lv_iload_n hx hb dX2_release_57 rfl (lv_at hl 0 rfl) ?_
          refine lv_bipush (v := 8) hx hb dX2_release_58 (by decide) ?_
          refine lv_icmp_ge (tgt := 86) hx hb dX2_release_60 (by decide) (fun _ => ?_) (fun c => absurd (by decide) c)
          refine lv_iconst (v := 1) hx hb dX2_release_86 (by decide) ?_
          refine lv_istore_n (lv' := [(2, .int 1), (0, .ref h), (1, .int p1)]) hx hb dX2_release_87 rfl hl (by decide) rfl (fun ls hl => ?_)
          refine lv_iload_n hx hb dX2_release_88 rfl (lv_at hl 0 rfl) ?_
          refine lv_iconst (v := 5) hx hb dX2_release_89 (by decide) ?_
          refine lv_icmp_ge (tgt := 116) hx hb dX2_release_90 (by decide) (fun c => absurd c (by decide)) (fun _ => ?_)
          refine lv_aload_n hx hb dX2_release_93 rfl (lv_at hl 1 rfl) ?_
          refine va_get (D := (dC, dI)) (ci := 2) (v := .ref a5) (C := RX2) (T := TX2) (N := 7) hx hb hts hinX2 hown hK hP 2 rfl rfl 5 (by decide) k_2 (fun _ h9 => h9) rfl dX2_release_94 ?_
          refine lv_iload_n hx hb dX2_release_97 rfl (lv_at hl 0 rfl) ?_
          refine za_iald (v := (-1)) hx hb hK hP 1 0 rfl rfl (zin tn_1 (Nat.le_of_ble_eq_true rfl)) (zrd _ tn_1 rfl) dX2_release_98 ?_
          refine lv_iload_n hx hb dX2_release_99 rfl (lv_at hl 2 rfl) ?_
          refine lv_icmp_ne (tgt := 110) hx hb dX2_release_100 (by decide) (fun _ => ?_) (fun c => absurd c hp)
          refine lv_iinc (v := 2) (lv' := [(2, .int 2), (0, .ref h), (1, .int p1)]) hx hb dX2_release_110 hl (k := 0) rfl (by decide) (by decide) rfl (fun ls hl => ?_)
          refine lv_goto (tgt := 88) hx hb dX2_release_113 (by decide) ?_
          refine lv_iload_n hx hb dX2_release_88 rfl (lv_at hl 0 rfl) ?_
          refine lv_iconst (v := 5) hx hb dX2_release_89 (by decide) ?_
          refine lv_icmp_ge (tgt := 116) hx hb dX2_release_90 (by decide) (fun c => absurd c (by decide)) (fun _ => ?_)
          refine lv_aload_n hx hb dX2_release_93 rfl (lv_at hl 1 rfl) ?_
          refine va_get (D := (dC, dI)) (ci := 2) (v := .ref a5) (C := RX2) (T := TX2) (N := 7) hx hb hts hinX2 hown hK hP 2 rfl rfl 5 (by decide) k_2 (fun _ h9 => h9) rfl dX2_release_94 ?_
          refine lv_iload_n hx hb dX2_release_97 rfl (lv_at hl 0 rfl) ?_
          refine za_iald (v := (-1)) hx hb hK hP 1 0 rfl rfl (zin tn_2 (Nat.le_of_ble_eq_true rfl)) (zrd _ tn_2 rfl) dX2_release_98 ?_
          refine lv_iload_n hx hb dX2_release_99 rfl (lv_at hl 2 rfl) ?_
          refine lv_icmp_ne (tgt := 110) hx hb dX2_release_100 (by decide) (fun _ => ?_) (fun c => absurd c hp)
          refine lv_iinc (v := 3) (lv' := [(2, .int 3), (0, .ref h), (1, .int p1)]) hx hb dX2_release_110 hl (k := 0) rfl (by decide) (by decide) rfl (fun ls hl => ?_)
          refine lv_goto (tgt := 88) hx hb dX2_release_113 (by decide) ?_
          refine lv_iload_n hx hb dX2_release_88 rfl (lv_at hl 0 rfl) ?_
          refine lv_iconst (v := 5) hx hb dX2_release_89 (by decide) ?_
          refine lv_icmp_ge (tgt := 116) hx hb dX2_release_90 (by decide) (fun c => absurd c (by decide)) (fun _ => ?_)
          refine lv_aload_n hx hb dX2_release_93 rfl (lv_at hl 1 rfl) ?_
          refine va_get (D := (dC, dI)) (ci := 2) (v := .ref a5) (C := RX2) (T := TX2) (N := 7) hx hb hts hinX2 hown hK hP 2 rfl rfl 5 (by decide) k_2 (fun _ h9 => h9) rfl dX2_release_94 ?_
          refine lv_iload_n hx hb dX2_release_97 rfl (lv_at hl 0 rfl) ?_
          refine za_iald (v := (-1)) hx hb hK hP 1 0 rfl rfl (zin tn_3 (Nat.le_of_ble_eq_true rfl)) (zrd _ tn_3 rfl) dX2_release_98 ?_
          refine lv_iload_n hx hb dX2_release_99 rfl (lv_at hl 2 rfl) ?_
          refine lv_icmp_ne (tgt := 110) hx hb dX2_release_100 (by decide) (fun _ => ?_) (fun c => absurd c hp)
          refine lv_iinc (v := 4) (lv' := [(2, .int 4), (0, .ref h), (1, .int p1)]) hx hb dX2_release_110 hl (k := 0) rfl (by decide) (by decide) rfl (fun ls hl => ?_)
          refine lv_goto (tgt := 88) hx hb dX2_release_113 (by decide) ?_
          refine lv_iload_n hx hb dX2_release_88 rfl (lv_at hl 0 rfl) ?_
          refine lv_iconst (v := 5) hx hb dX2_release_89 (by decide) ?_
          refine lv_icmp_ge (tgt := 116) hx hb dX2_release_90 (by decide) (fun c => absurd c (by decide)) (fun _ => ?_)
          refine lv_aload_n hx hb dX2_release_93 rfl (lv_at hl 1 rfl) ?_
          refine va_get (D := (dC, dI)) (ci := 2) (v := .ref a5) (C := RX2) (T := TX2) (N := 7) hx hb hts hinX2 hown hK hP 2 rfl rfl 5 (by decide) k_2 (fun _ h9 => h9) rfl dX2_release_94 ?_
          refine lv_iload_n hx hb dX2_release_97 rfl (lv_at hl 0 rfl) ?_
          refine za_iald (v := (-1)) hx hb hK hP 1 0 rfl rfl (zin tn_4 (Nat.le_of_ble_eq_true rfl)) (zrd _ tn_4 rfl) dX2_release_98 ?_
          refine lv_iload_n hx hb dX2_release_99 rfl (lv_at hl 2 rfl) ?_
          refine lv_icmp_ne (tgt := 110) hx hb dX2_release_100 (by decide) (fun _ => ?_) (fun c => absurd c hp)
          refine lv_iinc (v := 5) (lv' := [(2, .int 5), (0, .ref h), (1, .int p1)]) hx hb dX2_release_110 hl (k := 0) rfl (by decide) (by decide) rfl (fun ls hl => ?_)
          refine lv_goto (tgt := 88) hx hb dX2_release_113 (by decide) ?_
          refine lv_iload_n hx hb dX2_release_88 rfl (lv_at hl 0 rfl) ?_
          refine lv_iconst (v := 5) hx hb dX2_release_89 (by decide) ?_
          refine lv_icmp_ge (tgt := 116) hx hb dX2_release_90 (by decide) (fun _ => ?_) (fun c => absurd (by decide) c)
          have e_0 : (pfX2_release_a4_0 o0 p1) = (-1) := by rw [pfX2_release_a4_0, if_pos c_1]
          have e_1 : (pfX2_release_a4_1 o1 p1) = (-1) := by rw [pfX2_release_a4_1, if_pos c_9]
          have e_2 : (pfX2_release_a4_2 o2 p1) = (-1) := by rw [pfX2_release_a4_2, if_pos c_13]
          have e_3 : (pfX2_release_a4_3 o3 p1) = o3 := by rw [pfX2_release_a4_3, if_neg c_15]
          have hP9 := hP.sub (ws' := [(h, .inr (2, [.ref a0, .ref a1, .ref a2, .ref a3, .ref a4, .ref a5, .ref a6])), (a0, .inl (cI, 22, .inl (gl [m0, m1, m2, ((m3 + 1) &&& 15), (m4 + (pfX2_ofBuffer_g_r m5 (pfX2_putBuffer_g_a6_f fb p1 0 3) p1 7)), m5, (m6 - 1), m7, m8, m9, m10, m11, m12, m13, m14, m15, m16, m17, 0, 4, 0, 16]))), (a4, .inl (cI, 8, .inl (gl [(-1), (-1), (-1), o3, (-1), (-1), (-1), (-1)]))), (a5, .inl (cI, 5, .inl (gl [(-1), (-1), (-1), (-1), (-1)]))), (a6, .inl (cI, 4000, .inl (pfX2_putBuffer_g_a6_f fb p1 0 3)))]) [2, 3, 0, 1, 4] rfl
          have hD9 := hD.sub (ws' := [(h, .inr (2, [.ref a0, .ref a1, .ref a2, .ref a3, .ref a4, .ref a5, .ref a6])), (a0, .inl (cI, 22, .inl (gl [m0, m1, m2, ((m3 + 1) &&& 15), (m4 + (pfX2_ofBuffer_g_r m5 (pfX2_putBuffer_g_a6_f fb p1 0 3) p1 7)), m5, (m6 - 1), m7, m8, m9, m10, m11, m12, m13, m14, m15, m16, m17, 0, 4, 0, 16]))), (a4, .inl (cI, 8, .inl (gl [(-1), (-1), (-1), o3, (-1), (-1), (-1), (-1)]))), (a5, .inl (cI, 5, .inl (gl [(-1), (-1), (-1), (-1), (-1)]))), (a6, .inl (cI, 4000, .inl (pfX2_putBuffer_g_a6_f fb p1 0 3)))]) [2, 3, 0, 1, 4] (by decide) rfl
          exact W.vret hx hb hr (fun t ht hW => ⟨⟨(), rfl, trivial, by rw [ht, e_0, e_1, e_2, e_3]; exact hP9, va_K.moved hW.alike hK, (by rw [e_0, e_1, e_2, e_3]; exact hD9)⟩, hS.F ht⟩) hS.2.2 dX2_release_116
        · refine lv_aload_n hx hb dX2_release_73 rfl (lv_at hl 1 rfl) ?_
          refine va_get (D := (dC, dI)) (ci := 2) (v := .ref a4) (C := RX2) (T := TX2) (N := 7) hx hb hts hinX2 hown hK hP 2 rfl rfl 4 (by decide) k_1 (fun _ h9 => h9) rfl dX2_release_74 ?_
          refine lv_iload_n hx hb dX2_release_77 rfl (lv_at hl 0 rfl) ?_
          refine lv_iconst (v := (-1)) hx hb dX2_release_78 (by decide) ?_
          refine za_iast (f' := (gl [(-1), (-1), (-1), (-1), (-1), (-1), (-1), (-1)])) hx hb hK hP hD hS 0 0 rfl rfl (zin tn_3 (Nat.le_of_ble_eq_true rfl)) (zup_gl tn_3 (Nat.le_of_ble_eq_true rfl) rfl) dX2_release_79 (fun H locs hP hD hS => ?_)
          have hP : va_P (dC, dI) vwCl [(a4, .inl (cI, 8, .inl (gl [(-1), (-1), (-1), (-1), (-1), (-1), (-1), (-1)]))), (a5, .inl (cI, 5, .inl (gl [(-1), (-1), (-1), (-1), (-1)]))), (h, .inr (2, [.ref a0, .ref a1, .ref a2, .ref a3, .ref a4, .ref a5, .ref a6])), (a0, .inl (cI, 22, .inl (gl [m0, m1, m2, ((m3 + 1) &&& 15), (m4 + (pfX2_ofBuffer_g_r m5 (pfX2_putBuffer_g_a6_f fb p1 0 3) p1 7)), m5, (m6 - 1), m7, m8, m9, m10, m11, m12, m13, m14, m15, m16, m17, 0, 4, 0, 16]))), (a6, .inl (cI, 4000, .inl (pfX2_putBuffer_g_a6_f fb p1 0 3)))] H := hP
          have hD : va_D A [(a4, .inl (cI, 8, .inl (gl [(-1), (-1), (-1), (-1), (-1), (-1), (-1), (-1)]))), (a5, .inl (cI, 5, .inl (gl [(-1), (-1), (-1), (-1), (-1)]))), (h, .inr (2, [.ref a0, .ref a1, .ref a2, .ref a3, .ref a4, .ref a5, .ref a6])), (a0, .inl (cI, 22, .inl (gl [m0, m1, m2, ((m3 + 1) &&& 15), (m4 + (pfX2_ofBuffer_g_r m5 (pfX2_putBuffer_g_a6_f fb p1 0 3) p1 7)), m5, (m6 - 1), m7, m8, m9, m10, m11, m12, m13, m14, m15, m16, m17, 0, 4, 0, 16]))), (a6, .inl (cI, 4000, .inl (pfX2_putBuffer_g_a6_f fb p1 0 3)))] := hD
          refine lv_iinc (v := 4) (lv' := [(2, .int 4), (0, .ref h), (1, .int p1)]) hx hb dX2_release_80 hl (k := 0) rfl (by decide) (by decide) rfl (fun ls hl => ?_)
          refine lv_goto (tgt := 57) hx hb dX2_release_83 (by decide) ?_
          refine lv_iload_n hx hb dX2_release_57 rfl (lv_at hl 0 rfl) ?_
          refine lv_bipush (v := 8) hx hb dX2_release_58 (by decide) ?_
          refine lv_icmp_ge (tgt := 86) hx hb dX2_release_60 (by decide) (fun c => absurd c (by decide)) (fun _ => ?_)
          refine lv_aload_n hx hb dX2_release_63 rfl (lv_at hl 1 rfl) ?_
          refine va_get (D := (dC, dI)) (ci := 2) (v := .ref a4) (C := RX2) (T := TX2) (N := 7) hx hb hts hinX2 hown hK hP 2 rfl rfl 4 (by decide) k_1 (fun _ h9 => h9) rfl dX2_release_64 ?_
          refine lv_iload_n hx hb dX2_release_67 rfl (lv_at hl 0 rfl) ?_
          refine za_iald (v := (-1)) hx hb hK hP 0 0 rfl rfl (zin tn_4 (Nat.le_of_ble_eq_true rfl)) (zrd _ tn_4 rfl) dX2_release_68 ?_
          refine lv_iload_n hx hb dX2_release_69 rfl (lv_at hl 2 rfl) ?_
          refine lv_icmp_ne (tgt := 80) hx hb dX2_release_70 (by decide) (fun _ => ?_) (fun c => absurd c hp)
          refine lv_iinc (v := 5) (lv' := [(2, .int 5), (0, .ref h), (1, .int p1)]) hx hb dX2_release_80 hl (k := 0) rfl (by decide) (by decide) rfl (fun ls hl => ?_)
          refine lv_goto (tgt := 57) hx hb dX2_release_83 (by decide) ?_
          refine lv_iload_n hx hb dX2_release_57 rfl (lv_at hl 0 rfl) ?_
          refine lv_bipush (v := 8) hx hb dX2_release_58 (by decide) ?_
          refine lv_icmp_ge (tgt := 86) hx hb dX2_release_60 (by decide) (fun c => absurd c (by decide)) (fun _ => ?_)
          refine lv_aload_n hx hb dX2_release_63 rfl (lv_at hl 1 rfl) ?_
          refine va_get (D := (dC, dI)) (ci := 2) (v := .ref a4) (C := RX2) (T := TX2) (N := 7) hx hb hts hinX2 hown hK hP 2 rfl rfl 4 (by decide) k_1 (fun _ h9 => h9) rfl dX2_release_64 ?_
          refine lv_iload_n hx hb dX2_release_67 rfl (lv_at hl 0 rfl) ?_
          refine za_iald (v := (-1)) hx hb hK hP 0 0 rfl rfl (zin tn_5 (Nat.le_of_ble_eq_true rfl)) (zrd _ tn_5 rfl) dX2_release_68 ?_
          refine lv_iload_n hx hb dX2_release_69 rfl (lv_at hl 2 rfl) ?_
          refine lv_icmp_ne (tgt := 80) hx hb dX2_release_70 (by decide) (fun _ => ?_) (fun c => absurd c hp)
          refine lv_iinc (v := 6) (lv' := [(2, .int 6), (0, .ref h), (1, .int p1)]) hx hb dX2_release_80 hl (k := 0) rfl (by decide) (by decide) rfl (fun ls hl => ?_)
          refine lv_goto (tgt := 57) hx hb dX2_release_83 (by decide) ?_
          refine lv_iload_n hx hb dX2_release_57 rfl (lv_at hl 0 rfl) ?_
          refine lv_bipush (v := 8) hx hb dX2_release_58 (by decide) ?_
          refine lv_icmp_ge (tgt := 86) hx hb dX2_release_60 (by decide) (fun c => absurd c (by decide)) (fun _ => ?_)
          refine lv_aload_n hx hb dX2_release_63 rfl (lv_at hl 1 rfl) ?_
          refine va_get (D := (dC, dI)) (ci := 2) (v := .ref a4) (C := RX2) (T := TX2) (N := 7) hx hb hts hinX2 hown hK hP 2 rfl rfl 4 (by decide) k_1 (fun _ h9 => h9) rfl dX2_release_64 ?_
          refine lv_iload_n hx hb dX2_release_67 rfl (lv_at hl 0 rfl) ?_
          refine za_iald (v := (-1)) hx hb hK hP 0 0 rfl rfl (zin tn_6 (Nat.le_of_ble_eq_true rfl)) (zrd _ tn_6 rfl) dX2_release_68 ?_
          refine lv_iload_n hx hb dX2_release_69 rfl (lv_at hl 2 rfl) ?_
          refine lv_icmp_ne (tgt := 80) hx hb dX2_release_70 (by decide) (fun _ => ?_) (fun c => absurd c hp)
          refine lv_iinc (v := 7) (lv' := [(2, .int 7), (0, .ref h), (1, .int p1)]) hx hb dX2_release_80 hl (k := 0) rfl (by decide) (by decide) rfl (fun ls hl => ?_)
          refine lv_goto (tgt := 57) hx hb dX2_release_83 (by decide) ?_
          refine lv_iload_n hx hb dX2_release_57 rfl (lv_at hl 0 rfl) ?_
          refine lv_bipush (v := 8) hx hb dX2_release_58 (by decide) ?_
          refine lv_icmp_ge (tgt := 86) hx hb dX2_release_60 (by decide) (fun c => absurd c (by decide)) (fun _ => ?_)
          refine lv_aload_n hx hb dX2_release_63 rfl (lv_at hl 1 rfl) ?_
          refine va_get (D := (dC, dI)) (ci := 2) (v := .ref a4) (C := RX2) (T := TX2) (N := 7) hx hb hts hinX2 hown hK hP 2 rfl rfl 4 (by decide) k_1 (fun _ h9 => h9) rfl dX2_release_64 ?_
          refine lv_iload_n hx hb dX2_release_67 rfl (lv_at hl 0 rfl) ?_
          refine za_iald (v := (-1)) hx hb hK hP 0 0 rfl rfl (zin tn_7 (Nat.le_of_ble_eq_true rfl)) (zrd _ tn_7 rfl) dX2_release_68 ?_
          refine lv_iload_n hx hb dX2_release_69 rfl (lv_at hl 2 rfl) ?_
          refine lv_icmp_ne (tgt := 80) hx hb dX2_release_70 (by decide) (fun _ => ?_) (fun c => absurd c hp)
          refine lv_iinc (v := 8) (lv' := [(2, .int 8), (0, .ref h), (1, .int p1)]) hx hb dX2_release_80 hl (k := 0) rfl (by decide) (by decide) rfl (fun ls hl => ?_)
          refine lv_goto (tgt := 57) hx hb dX2_release_83 (by decide) ?_
          refine lv_iload_n hx hb dX2_release_57 rfl (lv_at hl 0 rfl) ?_
          refine lv_bipush (v := 8) hx hb dX2_release_58 (by decide) ?_
          refine lv_icmp_ge (tgt := 86) hx hb dX2_release_60 (by decide) (fun _ => ?_) (fun c => absurd (by decide) c)
          refine lv_iconst (v := 1) hx hb dX2_release_86 (by decide) ?_
          refine lv_istore_n (lv' := [(2, .int 1), (0, .ref h), (1, .int p1)]) hx hb dX2_release_87 rfl hl (by decide) rfl (fun ls hl => ?_)
          refine lv_iload_n hx hb dX2_release_88 rfl (lv_at hl 0 rfl) ?_
          refine lv_iconst (v := 5) hx hb dX2_release_89 (by decide) ?_
          refine lv_icmp_ge (tgt := 116) hx hb dX2_release_90 (by decide) (fun c => absurd c (by decide)) (fun _ => ?_)
          refine lv_aload_n hx hb dX2_release_93 rfl (lv_at hl 1 rfl) ?_
          refine va_get (D := (dC, dI)) (ci := 2) (v := .ref a5) (C := RX2) (T := TX2) (N := 7) hx hb hts hinX2 hown hK hP 2 rfl rfl 5 (by decide) k_2 (fun _ h9 => h9) rfl dX2_release_94 ?_
          refine lv_iload_n hx hb dX2_release_97 rfl (lv_at hl 0 rfl) ?_
          refine za_iald (v := (-1)) hx hb hK hP 1 0 rfl rfl (zin tn_1 (Nat.le_of_ble_eq_true rfl)) (zrd _ tn_1 rfl) dX2_release_98 ?_
          refine lv_iload_n hx hb dX2_release_99 rfl (lv_at hl 2 rfl) ?_
          refine lv_icmp_ne (tgt := 110) hx hb dX2_release_100 (by decide) (fun _ => ?_) (fun c => absurd c hp)
          refine lv_iinc (v := 2) (lv' := [(2, .int 2), (0, .ref h), (1, .int p1)]) hx hb dX2_release_110 hl (k := 0) rfl (by decide) (by decide) rfl (fun ls hl => ?_)
          refine lv_goto (tgt := 88) hx hb dX2_release_113 (by decide) ?_
          refine lv_iload_n hx hb dX2_release_88 rfl (lv_at hl 0 rfl) ?_
          refine lv_iconst (v := 5) hx hb dX2_release_89 (by decide) ?_
          refine lv_icmp_ge (tgt := 116) hx hb dX2_release_90 (by decide) (fun c => absurd c (by decide)) (fun _ => ?_)
          refine lv_aload_n hx hb dX2_release_93 rfl (lv_at hl 1 rfl) ?_
          refine va_get (D := (dC, dI)) (ci := 2) (v := .ref a5) (C := RX2) (T := TX2) (N := 7) hx hb hts hinX2 hown hK hP 2 rfl rfl 5 (by decide) k_2 (fun _ h9 => h9) rfl dX2_release_94 ?_
          refine lv_iload_n hx hb dX2_release_97 rfl (lv_at hl 0 rfl) ?_
          refine za_iald (v := (-1)) hx hb hK hP 1 0 rfl rfl (zin tn_2 (Nat.le_of_ble_eq_true rfl)) (zrd _ tn_2 rfl) dX2_release_98 ?_
          refine lv_iload_n hx hb dX2_release_99 rfl (lv_at hl 2 rfl) ?_
          refine lv_icmp_ne (tgt := 110) hx hb dX2_release_100 (by decide) (fun _ => ?_) (fun c => absurd c hp)
          refine lv_iinc (v := 3) (lv' := [(2, .int 3), (0, .ref h), (1, .int p1)]) hx hb dX2_release_110 hl (k := 0) rfl (by decide) (by decide) rfl (fun ls hl => ?_)
          refine lv_goto (tgt := 88) hx hb dX2_release_113 (by decide) ?_
          refine lv_iload_n hx hb dX2_release_88 rfl (lv_at hl 0 rfl) ?_
          refine lv_iconst (v := 5) hx hb dX2_release_89 (by decide) ?_
          refine lv_icmp_ge (tgt := 116) hx hb dX2_release_90 (by decide) (fun c => absurd c (by decide)) (fun _ => ?_)
          refine lv_aload_n hx hb dX2_release_93 rfl (lv_at hl 1 rfl) ?_
          refine va_get (D := (dC, dI)) (ci := 2) (v := .ref a5) (C := RX2) (T := TX2) (N := 7) hx hb hts hinX2 hown hK hP 2 rfl rfl 5 (by decide) k_2 (fun _ h9 => h9) rfl dX2_release_94 ?_
          refine lv_iload_n hx hb dX2_release_97 rfl (lv_at hl 0 rfl) ?_
          refine za_iald (v := (-1)) hx hb hK hP 1 0 rfl rfl (zin tn_3 (Nat.le_of_ble_eq_true rfl)) (zrd _ tn_3 rfl) dX2_release_98 ?_
          refine lv_iload_n hx hb dX2_release_99 rfl (lv_at hl 2 rfl) ?_
          refine lv_icmp_ne (tgt := 110) hx hb dX2_release_100 (by decide) (fun _ => ?_) (fun c => absurd c hp)
          refine lv_iinc (v := 4) (lv' := [(2, .int 4), (0, .ref h), (1, .int p1)]) hx hb dX2_release_110 hl (k := 0) rfl (by decide) (by decide) rfl (fun ls hl => ?_)
          refine lv_goto (tgt := 88) hx hb dX2_release_113 (by decide) ?_
          refine lv_iload_n hx hb dX2_release_88 rfl (lv_at hl 0 rfl) ?_
          refine lv_iconst (v := 5) hx hb dX2_release_89 (by decide) ?_
          refine lv_icmp_ge (tgt := 116) hx hb dX2_release_90 (by decide) (fun c => absurd c (by decide)) (fun _ => ?_)
          refine lv_aload_n hx hb dX2_release_93 rfl (lv_at hl 1 rfl) ?_
          refine va_get (D := (dC, dI)) (ci := 2) (v := .ref a5) (C := RX2) (T := TX2) (N := 7) hx hb hts hinX2 hown hK hP 2 rfl rfl 5 (by decide) k_2 (fun _ h9 => h9) rfl dX2_release_94 ?_
          refine lv_iload_n hx hb dX2_release_97 rfl (lv_at hl 0 rfl) ?_
          refine za_iald (v := (-1)) hx hb hK hP 1 0 rfl rfl (zin tn_4 (Nat.le_of_ble_eq_true rfl)) (zrd _ tn_4 rfl) dX2_release_98 ?_
          refine lv_iload_n hx hb dX2_release_99 rfl (lv_at hl 2 rfl) ?_
          refine lv_icmp_ne (tgt := 110) hx hb dX2_release_100 (by decide) (fun _ => ?_) (fun c => absurd c hp)
          refine lv_iinc (v := 5) (lv' := [(2, .int 5), (0, .ref h), (1, .int p1)]) hx hb dX2_release_110 hl (k := 0) rfl (by decide) (by decide) rfl (fun ls hl => ?_)
          refine lv_goto (tgt := 88) hx hb dX2_release_113 (by decide) ?_
          refine lv_iload_n hx hb dX2_release_88 rfl (lv_at hl 0 rfl) ?_
          refine lv_iconst (v := 5) hx hb dX2_release_89 (by decide) ?_
          refine lv_icmp_ge (tgt := 116) hx hb dX2_release_90 (by decide) (fun _ => ?_) (fun c => absurd (by decide) c)
          have e_0 : (pfX2_release_a4_0 o0 p1) = (-1) := by rw [pfX2_release_a4_0, if_pos c_1]
          have e_1 : (pfX2_release_a4_1 o1 p1) = (-1) := by rw [pfX2_release_a4_1, if_pos c_9]
          have e_2 : (pfX2_release_a4_2 o2 p1) = (-1) := by rw [pfX2_release_a4_2, if_pos c_13]
          have e_3 : (pfX2_release_a4_3 o3 p1) = (-1) := by rw [pfX2_release_a4_3, if_pos c_15]
          have hP9 := hP.sub (ws' := [(h, .inr (2, [.ref a0, .ref a1, .ref a2, .ref a3, .ref a4, .ref a5, .ref a6])), (a0, .inl (cI, 22, .inl (gl [m0, m1, m2, ((m3 + 1) &&& 15), (m4 + (pfX2_ofBuffer_g_r m5 (pfX2_putBuffer_g_a6_f fb p1 0 3) p1 7)), m5, (m6 - 1), m7, m8, m9, m10, m11, m12, m13, m14, m15, m16, m17, 0, 4, 0, 16]))), (a4, .inl (cI, 8, .inl (gl [(-1), (-1), (-1), (-1), (-1), (-1), (-1), (-1)]))), (a5, .inl (cI, 5, .inl (gl [(-1), (-1), (-1), (-1), (-1)]))), (a6, .inl (cI, 4000, .inl (pfX2_putBuffer_g_a6_f fb p1 0 3)))]) [2, 3, 0, 1, 4] rfl
          have hD9 := hD.sub (ws' := [(h, .inr (2, [.ref a0, .ref a1, .ref a2, .ref a3, .ref a4, .ref a5, .ref a6])), (a0, .inl (cI, 22, .inl (gl [m0, m1, m2, ((m3 + 1) &&& 15), (m4 + (pfX2_ofBuffer_g_r m5 (pfX2_putBuffer_g_a6_f fb p1 0 3) p1 7)), m5, (m6 - 1), m7, m8, m9, m10, m11, m12, m13, m14, m15, m16, m17, 0, 4, 0, 16]))), (a4, .inl (cI, 8, .inl (gl [(-1), (-1), (-1), (-1), (-1), (-1), (-1), (-1)]))), (a5, .inl (cI, 5, .inl (gl [(-1), (-1), (-1), (-1), (-1)]))), (a6, .inl (cI, 4000, .inl (pfX2_putBuffer_g_a6_f fb p1 0 3)))]) [2, 3, 0, 1, 4] (by decide) rfl
          exact W.vret hx hb hr (fun t ht hW => ⟨⟨(), rfl, trivial, by rw [ht, e_0, e_1, e_2, e_3]; exact hP9, va_K.moved hW.alike hK, (by rw [e_0, e_1, e_2, e_3]; exact hD9)⟩, hS.F ht⟩) hS.2.2 dX2_release_116

set_option maxHeartbeats 4000000 in
set_option maxRecDepth 100000 in
theorem kkX2_lengthGathered (l : Launch) (dC : Nat → ClassId) (dI : Nat → Nat → Nat) (cI cB cZ cR : ClassId) (sz : Nat) (h : Nat) (a0 : Nat) (a1 : Nat) (a2 : Nat) (a3 : Nat) (a4 : Nat) (a5 : Nat) (a6 : Nat) (m0 : Int32) (m1 : Int32) (m2 : Int32) (m3 : Int32) (m4 : Int32) (m5 : Int32) (m6 : Int32) (m7 : Int32) (m8 : Int32) (m9 : Int32) (m13 : Int32) (m14 : Int32) (m15 : Int32) : Met l yX2_lengthGathered (.code yX2_lengthGathered cX2_lengthGathered 1 (some .int) :: wsL_law) ({ frames := 0, cells := 0, slots := 0, locals := 0 }) (zPc dC dI (zT cI cB cZ cR) [.ref h] sz [(h, .inr (2, [.ref a0, .ref a1, .ref a2, .ref a3, .ref a4, .ref a5, .ref a6])), (a0, .inl (cI, 22, .inl (gl [m0, m1, m2, m3, m4, m5, m6, m7, m8, m9, 0, 0, (-1), m13, m14, m15, 0, 0, 0, 4, 0, 16])))]) (va_Qi (fun (r : Int32) (_ : Unit) => r = m13) (fun _ : Unit => zB dC dI (zT cI cB cZ cR) (va_A [(h, .inr (2, [.ref a0, .ref a1, .ref a2, .ref a3, .ref a4, .ref a5, .ref a6])), (a0, .inl (cI, 22, .inl (gl [m0, m1, m2, m3, m4, m5, m6, m7, m8, m9, 0, 0, (-1), m13, m14, m15, 0, 0, 0, 4, 0, 16])))] sz) [(h, .inr (2, [.ref a0, .ref a1, .ref a2, .ref a3, .ref a4, .ref a5, .ref a6])), (a0, .inl (cI, 22, .inl (gl [m0, m1, m2, m3, m4, m5, m6, m7, m8, m9, 0, 0, (-1), m13, m14, m15, 0, 0, 0, 4, 0, 16])))]) (va_A [(h, .inr (2, [.ref a0, .ref a1, .ref a2, .ref a3, .ref a4, .ref a5, .ref a6])), (a0, .inl (cI, 22, .inl (gl [m0, m1, m2, m3, m4, m5, m6, m7, m8, m9, 0, 0, (-1), m13, m14, m15, 0, 0, 0, 4, 0, 16])))] sz)) 0 0 (va_A [(h, .inr (2, [.ref a0, .ref a1, .ref a2, .ref a3, .ref a4, .ref a5, .ref a6])), (a0, .inl (cI, 22, .inl (gl [m0, m1, m2, m3, m4, m5, m6, m7, m8, m9, 0, 0, (-1), m13, m14, m15, 0, 0, 0, 4, 0, 16])))] sz) := by
  refine Met.ofW (cc := cX2_lengthGathered) (maxL := 1) (ret := (some .int)) (by decide) rfl ?_
  intro p e s m args below meth c s₁ B hml hv
  obtain ⟨rfl, hsz, hP, hK, hD0, hN⟩ := hv
  have hx := B.exec
  have hb := B.bytes
  have hr := B.returns
  have hts := atoms_spec (ws := (.code yX2_lengthGathered cX2_lengthGathered 1 (some .int) :: wsL_law)) B.pre
  have hown : s.vm.findClass RX2 = some m.cls := findClass_of_methodNamed B.named
  have hlocks := B.notSynchronized
  have hinX2 : ∀ w ∈ u_ws RX2 TX2 7, w ∈ (.code yX2_lengthGathered cX2_lengthGathered 1 (some .int) :: wsL_law) := fun w h => List.mem_cons_of_mem _ (inlX2 w h)
  have k_0 := hts (.fieldLink RX2 11 "RingMarks$Ring" "marks" "[I") (List.mem_cons_of_mem _ wm_61)
  subst hsz
  have hD := hD0.self (sz := s.heap.size)
  generalize hAe : va_A [(h, .inr (2, [.ref a0, .ref a1, .ref a2, .ref a3, .ref a4, .ref a5, .ref a6])), (a0, .inl (cI, 22, .inl (gl [m0, m1, m2, m3, m4, m5, m6, m7, m8, m9, 0, 0, (-1), m13, m14, m15, 0, 0, 0, 4, 0, 16])))] s.heap.size = A at hD ⊢
  have hA : ∀ q : Nat, s.heap.size ≤ q → A q := fun q h => by rw [← hAe]; exact Or.inr h
  have hP : va_P (dC, dI) vwCl [(h, .inr (2, [.ref a0, .ref a1, .ref a2, .ref a3, .ref a4, .ref a5, .ref a6])), (a0, .inl (cI, 22, .inl (gl [m0, m1, m2, m3, m4, m5, m6, m7, m8, m9, 0, 0, (-1), m13, m14, m15, 0, 0, 0, 4, 0, 16])))] s.heap := hP
  have hl := lv_entry ([.ref h]) (n := 1) (Nat.le_of_ble_eq_true rfl)
  rw [lg_entry_eq]
  generalize (lg_sl ([.ref h]) ++ List.replicate (1 - (lg_sl ([.ref h])).length) Slot.unset).toArray = ls at hl ⊢
  have hl : lv_has ls 1 [(0, .ref h)] := hl
  obtain ⟨H, hH⟩ : ∃ H, H = s.heap := ⟨_, rfl⟩
  rw [← hH] at hP ⊢
  have hS : va_S A s.heap H [] := by rw [hH]; exact va_S.rf
  refine lv_aload_n hx hb dX2_lengthGathered_0 rfl (lv_at hl 0 rfl) ?_
  refine va_get (D := (dC, dI)) (ci := 2) (v := .ref a0) (C := RX2) (T := TX2) (N := 7) hx hb hts hinX2 hown hK hP 0 rfl rfl 0 (by decide) k_0 (fun _ h9 => h9) rfl dX2_lengthGathered_1 ?_
  refine lv_bipush (v := 12) hx hb dX2_lengthGathered_4 (by decide) ?_
  refine za_iald (v := (-1)) hx hb hK hP 1 0 rfl rfl (zin tn_12 (Nat.le_of_ble_eq_true rfl)) (zrd _ tn_12 rfl) dX2_lengthGathered_6 ?_
  refine lv_iconst (v := (-1)) hx hb dX2_lengthGathered_7 (by decide) ?_
  refine lv_icmp_ne (tgt := 21) hx hb dX2_lengthGathered_8 (by decide) (fun c => absurd (by decide) c) (fun _ => ?_)
  refine lv_aload_n hx hb dX2_lengthGathered_11 rfl (lv_at hl 0 rfl) ?_
  refine va_get (D := (dC, dI)) (ci := 2) (v := .ref a0) (C := RX2) (T := TX2) (N := 7) hx hb hts hinX2 hown hK hP 0 rfl rfl 0 (by decide) k_0 (fun _ h9 => h9) rfl dX2_lengthGathered_12 ?_
  refine lv_bipush (v := 13) hx hb dX2_lengthGathered_15 (by decide) ?_
  refine za_iald (v := m13) hx hb hK hP 1 0 rfl rfl (zin tn_13 (Nat.le_of_ble_eq_true rfl)) (zrd _ tn_13 rfl) dX2_lengthGathered_17 ?_
  refine lv_goto (tgt := 22) hx hb dX2_lengthGathered_18 (by decide) ?_
  have hP9 := hP.sub (ws' := [(h, .inr (2, [.ref a0, .ref a1, .ref a2, .ref a3, .ref a4, .ref a5, .ref a6])), (a0, .inl (cI, 22, .inl (gl [m0, m1, m2, m3, m4, m5, m6, m7, m8, m9, 0, 0, (-1), m13, m14, m15, 0, 0, 0, 4, 0, 16])))]) [0, 1] rfl
  have hD9 := hD.sub (ws' := [(h, .inr (2, [.ref a0, .ref a1, .ref a2, .ref a3, .ref a4, .ref a5, .ref a6])), (a0, .inl (cI, 22, .inl (gl [m0, m1, m2, m3, m4, m5, m6, m7, m8, m9, 0, 0, (-1), m13, m14, m15, 0, 0, 0, 4, 0, 16])))]) [0, 1] (by decide) rfl
  exact W.iret (v := m13) hx hb hr (fun t ht hW => ⟨⟨m13, (), rfl, rfl, by rw [ht]; exact hP9, va_K.moved hW.alike hK, hD9⟩, hS.F ht⟩) hS.2.2 dX2_lengthGathered_22

def pfX2_gather_g_r (m2 : Int32) (m3 : Int32) (m5 : Int32) (o0 : Int32) (o1 : Int32) (o2 : Int32) (o3 : Int32) (fr : Nat → Int32) (fb : Nat → Int32) : Int32 := if m3 = m2 then (-1) else (if (pfX2_holderOf_g_2_r m5 o0 o1 o2 o3 fb (pfX2_rowAt_r fr (m3 &&& 3) 1)) = (-1) then (-2) else (pfX2_holderOf_g_2_r m5 o0 o1 o2 o3 fb (pfX2_rowAt_r fr (m3 &&& 3) 1)))
def pfX2_gather_g_a0_3 (m2 : Int32) (m3 : Int32) (m5 : Int32) (o0 : Int32) (o1 : Int32) (o2 : Int32) (o3 : Int32) (fr : Nat → Int32) (fb : Nat → Int32) : Int32 := if m3 = m2 then m3 else (if (pfX2_holderOf_g_2_r m5 o0 o1 o2 o3 fb (pfX2_rowAt_r fr (m3 &&& 3) 1)) = (-1) then m3 else ((m3 + 1) &&& 15))
def pfX2_gather_g_a0_4 (m2 : Int32) (m3 : Int32) (m4 : Int32) (m5 : Int32) (o0 : Int32) (o1 : Int32) (o2 : Int32) (o3 : Int32) (fr : Nat → Int32) (fb : Nat → Int32) : Int32 := if m3 = m2 then m4 else (if (pfX2_holderOf_g_2_r m5 o0 o1 o2 o3 fb (pfX2_rowAt_r fr (m3 &&& 3) 1)) = (-1) then m4 else (m4 + (pfX2_ofBuffer_g_r m5 (pfX2_putBuffer_g_a6_f fb (pfX2_holderOf_g_2_r m5 o0 o1 o2 o3 fb (pfX2_rowAt_r fr (m3 &&& 3) 1)) 0 3) (pfX2_holderOf_g_2_r m5 o0 o1 o2 o3 fb (pfX2_rowAt_r fr (m3 &&& 3) 1)) 7)))
def pfX2_gather_g_a0_6 (m2 : Int32) (m3 : Int32) (m5 : Int32) (m6 : Int32) (o0 : Int32) (o1 : Int32) (o2 : Int32) (o3 : Int32) (fr : Nat → Int32) (fb : Nat → Int32) : Int32 := if m3 = m2 then m6 else (if (pfX2_holderOf_g_2_r m5 o0 o1 o2 o3 fb (pfX2_rowAt_r fr (m3 &&& 3) 1)) = (-1) then m6 else (m6 - 1))
def pfX2_gather_g_a0_13 (m2 : Int32) (m3 : Int32) (m5 : Int32) (m13 : Int32) (o0 : Int32) (o1 : Int32) (o2 : Int32) (o3 : Int32) (fr : Nat → Int32) (fb : Nat → Int32) : Int32 := if m3 = m2 then m13 else (if (pfX2_holderOf_g_2_r m5 o0 o1 o2 o3 fb (pfX2_rowAt_r fr (m3 &&& 3) 1)) = (-1) then m13 else (pfX2_rowAt_r fr (m3 &&& 3) 2))
def pfX2_gather_g_a4_0 (m2 : Int32) (m3 : Int32) (m5 : Int32) (o0 : Int32) (o1 : Int32) (o2 : Int32) (o3 : Int32) (fr : Nat → Int32) (fb : Nat → Int32) : Int32 := if m3 = m2 then o0 else (if (pfX2_holderOf_g_2_r m5 o0 o1 o2 o3 fb (pfX2_rowAt_r fr (m3 &&& 3) 1)) = (-1) then o0 else (pfX2_release_a4_0 o0 (pfX2_holderOf_g_2_r m5 o0 o1 o2 o3 fb (pfX2_rowAt_r fr (m3 &&& 3) 1))))
def pfX2_gather_g_a4_1 (m2 : Int32) (m3 : Int32) (m5 : Int32) (o0 : Int32) (o1 : Int32) (o2 : Int32) (o3 : Int32) (fr : Nat → Int32) (fb : Nat → Int32) : Int32 := if m3 = m2 then o1 else (if (pfX2_holderOf_g_2_r m5 o0 o1 o2 o3 fb (pfX2_rowAt_r fr (m3 &&& 3) 1)) = (-1) then o1 else (pfX2_release_a4_1 o1 (pfX2_holderOf_g_2_r m5 o0 o1 o2 o3 fb (pfX2_rowAt_r fr (m3 &&& 3) 1))))
def pfX2_gather_g_a4_2 (m2 : Int32) (m3 : Int32) (m5 : Int32) (o0 : Int32) (o1 : Int32) (o2 : Int32) (o3 : Int32) (fr : Nat → Int32) (fb : Nat → Int32) : Int32 := if m3 = m2 then o2 else (if (pfX2_holderOf_g_2_r m5 o0 o1 o2 o3 fb (pfX2_rowAt_r fr (m3 &&& 3) 1)) = (-1) then o2 else (pfX2_release_a4_2 o2 (pfX2_holderOf_g_2_r m5 o0 o1 o2 o3 fb (pfX2_rowAt_r fr (m3 &&& 3) 1))))
def pfX2_gather_g_a4_3 (m2 : Int32) (m3 : Int32) (m5 : Int32) (o0 : Int32) (o1 : Int32) (o2 : Int32) (o3 : Int32) (fr : Nat → Int32) (fb : Nat → Int32) : Int32 := if m3 = m2 then o3 else (if (pfX2_holderOf_g_2_r m5 o0 o1 o2 o3 fb (pfX2_rowAt_r fr (m3 &&& 3) 1)) = (-1) then o3 else (pfX2_release_a4_3 o3 (pfX2_holderOf_g_2_r m5 o0 o1 o2 o3 fb (pfX2_rowAt_r fr (m3 &&& 3) 1))))
def pfX2_gather_g_a6_f (m2 : Int32) (m3 : Int32) (m5 : Int32) (o0 : Int32) (o1 : Int32) (o2 : Int32) (o3 : Int32) (fr : Nat → Int32) (fb : Nat → Int32) : Nat → Int32 := if m3 = m2 then fb else (if (pfX2_holderOf_g_2_r m5 o0 o1 o2 o3 fb (pfX2_rowAt_r fr (m3 &&& 3) 1)) = (-1) then fb else (pfX2_putBuffer_g_a6_f fb (pfX2_holderOf_g_2_r m5 o0 o1 o2 o3 fb (pfX2_rowAt_r fr (m3 &&& 3) 1)) 0 3))
set_option maxHeartbeats 4000000 in
set_option maxRecDepth 100000 in
theorem kkX2_gather_g (l : Launch) (dC : Nat → ClassId) (dI : Nat → Nat → Nat) (cI cB cZ cR : ClassId) (sz : Nat) (h : Nat) (a0 : Nat) (a1 : Nat) (a2 : Nat) (a3 : Nat) (a4 : Nat) (a5 : Nat) (a6 : Nat) (m0 : Int32) (m1 : Int32) (m2 : Int32) (m3 : Int32) (m4 : Int32) (m5 : Int32) (m6 : Int32) (m7 : Int32) (m8 : Int32) (m9 : Int32) (m13 : Int32) (m14 : Int32) (m15 : Int32) (o0 : Int32) (o1 : Int32) (o2 : Int32) (o3 : Int32) (fr : Nat → Int32) (fb : Nat → Int32) : Met l yX2_gather (.code yX2_gather cX2_gather 5 (some .int) :: wsL_law) ({ frames := 3, cells := 0, slots := 0, locals := 63 }) (zPc dC dI (zT cI cB cZ cR) [.ref h] sz [(h, .inr (2, [.ref a0, .ref a1, .ref a2, .ref a3, .ref a4, .ref a5, .ref a6])), (a0, .inl (cI, 22, .inl (gl [m0, m1, m2, m3, m4, m5, m6, m7, m8, m9, 0, 0, (-1), m13, m14, m15, 0, 0, 0, 4, 0, 16]))), (a3, .inl (cI, 24, .inl fr)), (a4, .inl (cI, 8, .inl (gl [o0, o1, o2, o3, (-1), (-1), (-1), (-1)]))), (a5, .inl (cI, 5, .inl (gl [(-1), (-1), (-1), (-1), (-1)]))), (a6, .inl (cI, 4000, .inl fb))]) (va_Qi (fun (r : Int32) (_ : Unit) => r = (pfX2_gather_g_r m2 m3 m5 o0 o1 o2 o3 fr fb)) (fun _ : Unit => zB dC dI (zT cI cB cZ cR) (va_A [(h, .inr (2, [.ref a0, .ref a1, .ref a2, .ref a3, .ref a4, .ref a5, .ref a6])), (a0, .inl (cI, 22, .inl (gl [m0, m1, m2, m3, m4, m5, m6, m7, m8, m9, 0, 0, (-1), m13, m14, m15, 0, 0, 0, 4, 0, 16]))), (a3, .inl (cI, 24, .inl fr)), (a4, .inl (cI, 8, .inl (gl [o0, o1, o2, o3, (-1), (-1), (-1), (-1)]))), (a5, .inl (cI, 5, .inl (gl [(-1), (-1), (-1), (-1), (-1)]))), (a6, .inl (cI, 4000, .inl fb))] sz) [(h, .inr (2, [.ref a0, .ref a1, .ref a2, .ref a3, .ref a4, .ref a5, .ref a6])), (a0, .inl (cI, 22, .inl (gl [m0, m1, m2, (pfX2_gather_g_a0_3 m2 m3 m5 o0 o1 o2 o3 fr fb), (pfX2_gather_g_a0_4 m2 m3 m4 m5 o0 o1 o2 o3 fr fb), m5, (pfX2_gather_g_a0_6 m2 m3 m5 m6 o0 o1 o2 o3 fr fb), m7, m8, m9, 0, 0, (-1), (pfX2_gather_g_a0_13 m2 m3 m5 m13 o0 o1 o2 o3 fr fb), m14, m15, 0, 0, 0, 4, 0, 16]))), (a3, .inl (cI, 24, .inl fr)), (a4, .inl (cI, 8, .inl (gl [(pfX2_gather_g_a4_0 m2 m3 m5 o0 o1 o2 o3 fr fb), (pfX2_gather_g_a4_1 m2 m3 m5 o0 o1 o2 o3 fr fb), (pfX2_gather_g_a4_2 m2 m3 m5 o0 o1 o2 o3 fr fb), (pfX2_gather_g_a4_3 m2 m3 m5 o0 o1 o2 o3 fr fb), (-1), (-1), (-1), (-1)]))), (a5, .inl (cI, 5, .inl (gl [(-1), (-1), (-1), (-1), (-1)]))), (a6, .inl (cI, 4000, .inl (pfX2_gather_g_a6_f m2 m3 m5 o0 o1 o2 o3 fr fb)))]) (va_A [(h, .inr (2, [.ref a0, .ref a1, .ref a2, .ref a3, .ref a4, .ref a5, .ref a6])), (a0, .inl (cI, 22, .inl (gl [m0, m1, m2, m3, m4, m5, m6, m7, m8, m9, 0, 0, (-1), m13, m14, m15, 0, 0, 0, 4, 0, 16]))), (a3, .inl (cI, 24, .inl fr)), (a4, .inl (cI, 8, .inl (gl [o0, o1, o2, o3, (-1), (-1), (-1), (-1)]))), (a5, .inl (cI, 5, .inl (gl [(-1), (-1), (-1), (-1), (-1)]))), (a6, .inl (cI, 4000, .inl fb))] sz)) 0 0 (va_A [(h, .inr (2, [.ref a0, .ref a1, .ref a2, .ref a3, .ref a4, .ref a5, .ref a6])), (a0, .inl (cI, 22, .inl (gl [m0, m1, m2, m3, m4, m5, m6, m7, m8, m9, 0, 0, (-1), m13, m14, m15, 0, 0, 0, 4, 0, 16]))), (a3, .inl (cI, 24, .inl fr)), (a4, .inl (cI, 8, .inl (gl [o0, o1, o2, o3, (-1), (-1), (-1), (-1)]))), (a5, .inl (cI, 5, .inl (gl [(-1), (-1), (-1), (-1), (-1)]))), (a6, .inl (cI, 4000, .inl fb))] sz) := by
  refine Met.ofW (cc := cX2_gather) (maxL := 5) (ret := (some .int)) (by decide) rfl ?_
  intro p e s m args below meth c s₁ B hml hv
  obtain ⟨rfl, hsz, hP, hK, hD0, hN⟩ := hv
  have hx := B.exec
  have hb := B.bytes
  have hr := B.returns
  have hts := atoms_spec (ws := (.code yX2_gather cX2_gather 5 (some .int) :: wsL_law)) B.pre
  have hown : s.vm.findClass RX2 = some m.cls := findClass_of_methodNamed B.named
  have hlocks := B.notSynchronized
  have hinX2 : ∀ w ∈ u_ws RX2 TX2 7, w ∈ (.code yX2_gather cX2_gather 5 (some .int) :: wsL_law) := fun w h => List.mem_cons_of_mem _ (inlX2 w h)
  have k_0 := hts (.fieldLink RX2 11 "RingMarks$Ring" "marks" "[I") (List.mem_cons_of_mem _ wm_61)
  subst hsz
  have hD := hD0.self (sz := s.heap.size)
  generalize hAe : va_A [(h, .inr (2, [.ref a0, .ref a1, .ref a2, .ref a3, .ref a4, .ref a5, .ref a6])), (a0, .inl (cI, 22, .inl (gl [m0, m1, m2, m3, m4, m5, m6, m7, m8, m9, 0, 0, (-1), m13, m14, m15, 0, 0, 0, 4, 0, 16]))), (a3, .inl (cI, 24, .inl fr)), (a4, .inl (cI, 8, .inl (gl [o0, o1, o2, o3, (-1), (-1), (-1), (-1)]))), (a5, .inl (cI, 5, .inl (gl [(-1), (-1), (-1), (-1), (-1)]))), (a6, .inl (cI, 4000, .inl fb))] s.heap.size = A at hD ⊢
  have hA : ∀ q : Nat, s.heap.size ≤ q → A q := fun q h => by rw [← hAe]; exact Or.inr h
  have hP : va_P (dC, dI) vwCl [(h, .inr (2, [.ref a0, .ref a1, .ref a2, .ref a3, .ref a4, .ref a5, .ref a6])), (a0, .inl (cI, 22, .inl (gl [m0, m1, m2, m3, m4, m5, m6, m7, m8, m9, 0, 0, (-1), m13, m14, m15, 0, 0, 0, 4, 0, 16]))), (a3, .inl (cI, 24, .inl fr)), (a4, .inl (cI, 8, .inl (gl [o0, o1, o2, o3, (-1), (-1), (-1), (-1)]))), (a5, .inl (cI, 5, .inl (gl [(-1), (-1), (-1), (-1), (-1)]))), (a6, .inl (cI, 4000, .inl fb))] s.heap := hP
  have hl := lv_entry ([.ref h]) (n := 5) (Nat.le_of_ble_eq_true rfl)
  rw [lg_entry_eq]
  generalize (lg_sl ([.ref h]) ++ List.replicate (5 - (lg_sl ([.ref h])).length) Slot.unset).toArray = ls at hl ⊢
  have hl : lv_has ls 5 [(0, .ref h)] := hl
  obtain ⟨H, hH⟩ : ∃ H, H = s.heap := ⟨_, rfl⟩
  rw [← hH] at hP ⊢
  have hS : va_S A s.heap H [] := by rw [hH]; exact va_S.rf
  refine lv_aload_n hx hb dX2_gather_0 rfl (lv_at hl 0 rfl) ?_
  refine va_get (D := (dC, dI)) (ci := 2) (v := .ref a0) (C := RX2) (T := TX2) (N := 7) hx hb hts hinX2 hown hK hP 0 rfl rfl 0 (by decide) k_0 (fun _ h9 => h9) rfl dX2_gather_1 ?_
  refine lv_bipush (v := 12) hx hb dX2_gather_4 (by decide) ?_
  refine za_iald (v := (-1)) hx hb hK hP 1 0 rfl rfl (zin tn_12 (Nat.le_of_ble_eq_true rfl)) (zrd _ tn_12 rfl) dX2_gather_6 ?_
  refine lv_iconst (v := (-1)) hx hb dX2_gather_7 (by decide) ?_
  refine lv_icmp_ne (tgt := 140) hx hb dX2_gather_8 (by decide) (fun c => absurd (by decide) c) (fun _ => ?_)
  refine lv_aload_n hx hb dX2_gather_11 rfl (lv_at hl 0 rfl) ?_
  refine va_get (D := (dC, dI)) (ci := 2) (v := .ref a0) (C := RX2) (T := TX2) (N := 7) hx hb hts hinX2 hown hK hP 0 rfl rfl 0 (by decide) k_0 (fun _ h9 => h9) rfl dX2_gather_12 ?_
  refine lv_iconst (v := 3) hx hb dX2_gather_15 (by decide) ?_
  refine za_iald (v := m3) hx hb hK hP 1 0 rfl rfl (zin tn_3 (Nat.le_of_ble_eq_true rfl)) (zrd _ tn_3 rfl) dX2_gather_16 ?_
  refine lv_istore_n (lv' := [(1, .int m3), (0, .ref h)]) hx hb dX2_gather_17 rfl hl (by decide) rfl (fun ls hl => ?_)
  refine lv_aload_n hx hb dX2_gather_18 rfl (lv_at hl 1 rfl) ?_
  refine lv_iload_n hx hb dX2_gather_19 rfl (lv_at hl 0 rfl) ?_
  refine zcVi (As := [.int m3]) (rest := []) (wr := [(a3, .inl (cI, 24, .inl fr)), (a4, .inl (cI, 8, .inl (gl [o0, o1, o2, o3, (-1), (-1), (-1), (-1)]))), (a5, .inl (cI, 5, .inl (gl [(-1), (-1), (-1), (-1), (-1)]))), (a6, .inl (cI, 4000, .inl fb))]) ⟨hx, hb, hml, hown, hts⟩ (kkX2_placeOf l dC dI cI cB cZ cR H.size h a0 a1 a2 a3 a4 a5 a6 m0 m1 m2 m3 m4 m5 m6 m7 m8 m9 0 0 (-1) m13 m14 m15 0 0 m3 ) (cwV 1 hts (zgV wm_310 wm_311 wm_312 wm_22 wm_313) rfl rfl rfl (by decide +kernel) ⟨Nat.le_of_ble_eq_true rfl, Nat.le_of_ble_eq_true rfl⟩) hN hK hP hD hS hA [0, 1] [2, 3, 4, 5] rfl rfl ⟨rfl, rfl⟩ (by decide) (ci := 2) rfl rfl rfl rfl hl.1 rfl (Nat.le_of_ble_eq_true rfl) dX2_gather_20 ⟨Nat.le_of_ble_eq_true rfl, Nat.le_of_ble_eq_true rfl⟩ (fun r u hu H locs hP hD hS => ?_)
  have hu : r = (m3 &&& 3) := hu
  subst hu
  have hP : va_P (dC, dI) vwCl [(a3, .inl (cI, 24, .inl fr)), (a4, .inl (cI, 8, .inl (gl [o0, o1, o2, o3, (-1), (-1), (-1), (-1)]))), (a5, .inl (cI, 5, .inl (gl [(-1), (-1), (-1), (-1), (-1)]))), (a6, .inl (cI, 4000, .inl fb)), (h, .inr (2, [.ref a0, .ref a1, .ref a2, .ref a3, .ref a4, .ref a5, .ref a6])), (a0, .inl (cI, 22, .inl (gl [m0, m1, m2, m3, m4, m5, m6, m7, m8, m9, 0, 0, (-1), m13, m14, m15, 0, 0, 0, 4, 0, 16])))] H := hP
  have hD : va_D A [(a3, .inl (cI, 24, .inl fr)), (a4, .inl (cI, 8, .inl (gl [o0, o1, o2, o3, (-1), (-1), (-1), (-1)]))), (a5, .inl (cI, 5, .inl (gl [(-1), (-1), (-1), (-1), (-1)]))), (a6, .inl (cI, 4000, .inl fb)), (h, .inr (2, [.ref a0, .ref a1, .ref a2, .ref a3, .ref a4, .ref a5, .ref a6])), (a0, .inl (cI, 22, .inl (gl [m0, m1, m2, m3, m4, m5, m6, m7, m8, m9, 0, 0, (-1), m13, m14, m15, 0, 0, 0, 4, 0, 16])))] := hD
  refine lv_istore_n (lv' := [(2, .int (m3 &&& 3)), (1, .int m3), (0, .ref h)]) hx hb dX2_gather_23 rfl hl (by decide) rfl (fun ls hl => ?_)
  refine lv_aload_n hx hb dX2_gather_24 rfl (lv_at hl 2 rfl) ?_
  refine zcVi (As := []) (rest := []) (wr := [(a3, .inl (cI, 24, .inl fr)), (a4, .inl (cI, 8, .inl (gl [o0, o1, o2, o3, (-1), (-1), (-1), (-1)]))), (a5, .inl (cI, 5, .inl (gl [(-1), (-1), (-1), (-1), (-1)]))), (a6, .inl (cI, 4000, .inl fb))]) ⟨hx, hb, hml, hown, hts⟩ (kkX2_isPacked l dC dI cI cB cZ cR H.size h a0 a1 a2 a3 a4 a5 a6 m0 m1 m2 m3 m4 m5 m6 m7 m8 m9 0 0 (-1) m13 m14 m15 0 0 ) (cwV 0 hts (zgV wm_267 wm_268 wm_269 wm_22 wm_270) rfl rfl rfl (by decide +kernel) ⟨Nat.le_of_ble_eq_true rfl, Nat.le_of_ble_eq_true rfl⟩) hN hK hP hD hS hA [4, 5] [0, 1, 2, 3] rfl rfl ⟨rfl, rfl⟩ (by decide) (ci := 2) rfl rfl rfl rfl hl.1 rfl (Nat.le_of_ble_eq_true rfl) dX2_gather_25 ⟨Nat.le_of_ble_eq_true rfl, Nat.le_of_ble_eq_true rfl⟩ (fun r u hu H locs hP hD hS => ?_)
  have hu : r = 0 := hu
  subst hu
  have hP : va_P (dC, dI) vwCl [(a3, .inl (cI, 24, .inl fr)), (a4, .inl (cI, 8, .inl (gl [o0, o1, o2, o3, (-1), (-1), (-1), (-1)]))), (a5, .inl (cI, 5, .inl (gl [(-1), (-1), (-1), (-1), (-1)]))), (a6, .inl (cI, 4000, .inl fb)), (h, .inr (2, [.ref a0, .ref a1, .ref a2, .ref a3, .ref a4, .ref a5, .ref a6])), (a0, .inl (cI, 22, .inl (gl [m0, m1, m2, m3, m4, m5, m6, m7, m8, m9, 0, 0, (-1), m13, m14, m15, 0, 0, 0, 4, 0, 16])))] H := hP
  have hD : va_D A [(a3, .inl (cI, 24, .inl fr)), (a4, .inl (cI, 8, .inl (gl [o0, o1, o2, o3, (-1), (-1), (-1), (-1)]))), (a5, .inl (cI, 5, .inl (gl [(-1), (-1), (-1), (-1), (-1)]))), (a6, .inl (cI, 4000, .inl fb)), (h, .inr (2, [.ref a0, .ref a1, .ref a2, .ref a3, .ref a4, .ref a5, .ref a6])), (a0, .inl (cI, 22, .inl (gl [m0, m1, m2, m3, m4, m5, m6, m7, m8, m9, 0, 0, (-1), m13, m14, m15, 0, 0, 0, 4, 0, 16])))] := hD
  refine lv_if_eq (tgt := 40) hx hb dX2_gather_28 (by decide) (fun _ => ?_) (fun c => absurd (by decide) c)
  refine lv_iload_n hx hb dX2_gather_40 rfl (lv_at hl 1 rfl) ?_
  refine lv_aload_n hx hb dX2_gather_41 rfl (lv_at hl 2 rfl) ?_
  refine va_get (D := (dC, dI)) (ci := 2) (v := .ref a0) (C := RX2) (T := TX2) (N := 7) hx hb hts hinX2 hown hK hP 4 rfl rfl 0 (by decide) k_0 (fun _ h9 => h9) rfl dX2_gather_42 ?_
  refine lv_iconst (v := 2) hx hb dX2_gather_45 (by decide) ?_
  refine za_iald (v := m2) hx hb hK hP 5 0 rfl rfl (zin tn_2 (Nat.le_of_ble_eq_true rfl)) (zrd _ tn_2 rfl) dX2_gather_46 ?_
  refine lv_icmp_eq (tgt := 54) hx hb dX2_gather_47 (by decide) (fun c_1 => ?_) (fun c_1 => ?_)
  · refine lv_iconst (v := 0) hx hb dX2_gather_54 (by decide) ?_
    refine lv_istore_n (lv' := [(3, .int 0), (2, .int (m3 &&& 3)), (1, .int m3), (0, .ref h)]) hx hb dX2_gather_55 rfl hl (by decide) rfl (fun ls hl => ?_)
    refine lv_iload_n hx hb dX2_gather_56 rfl (lv_at hl 0 rfl) ?_
    refine lv_if_ne (tgt := 62) hx hb dX2_gather_57 (by decide) (fun c => absurd (by decide) c) (fun _ => ?_)
    refine lv_iconst (v := (-1)) hx hb dX2_gather_60 (by decide) ?_
    have e_0 : (pfX2_gather_g_r m2 m3 m5 o0 o1 o2 o3 fr fb) = (-1) := by rw [pfX2_gather_g_r, if_pos c_1]
    have e_1 : (pfX2_gather_g_a0_3 m2 m3 m5 o0 o1 o2 o3 fr fb) = m3 := by rw [pfX2_gather_g_a0_3, if_pos c_1]
    have e_2 : (pfX2_gather_g_a0_4 m2 m3 m4 m5 o0 o1 o2 o3 fr fb) = m4 := by rw [pfX2_gather_g_a0_4, if_pos c_1]
    have e_3 : (pfX2_gather_g_a0_6 m2 m3 m5 m6 o0 o1 o2 o3 fr fb) = m6 := by rw [pfX2_gather_g_a0_6, if_pos c_1]
    have e_4 : (pfX2_gather_g_a0_13 m2 m3 m5 m13 o0 o1 o2 o3 fr fb) = m13 := by rw [pfX2_gather_g_a0_13, if_pos c_1]
    have e_5 : (pfX2_gather_g_a4_0 m2 m3 m5 o0 o1 o2 o3 fr fb) = o0 := by rw [pfX2_gather_g_a4_0, if_pos c_1]
    have e_6 : (pfX2_gather_g_a4_1 m2 m3 m5 o0 o1 o2 o3 fr fb) = o1 := by rw [pfX2_gather_g_a4_1, if_pos c_1]
    have e_7 : (pfX2_gather_g_a4_2 m2 m3 m5 o0 o1 o2 o3 fr fb) = o2 := by rw [pfX2_gather_g_a4_2, if_pos c_1]
    have e_8 : (pfX2_gather_g_a4_3 m2 m3 m5 o0 o1 o2 o3 fr fb) = o3 := by rw [pfX2_gather_g_a4_3, if_pos c_1]
    have e_9 : (pfX2_gather_g_a6_f m2 m3 m5 o0 o1 o2 o3 fr fb) = fb := by rw [pfX2_gather_g_a6_f, if_pos c_1]
    have hP9 := hP.sub (ws' := [(h, .inr (2, [.ref a0, .ref a1, .ref a2, .ref a3, .ref a4, .ref a5, .ref a6])), (a0, .inl (cI, 22, .inl (gl [m0, m1, m2, m3, m4, m5, m6, m7, m8, m9, 0, 0, (-1), m13, m14, m15, 0, 0, 0, 4, 0, 16]))), (a3, .inl (cI, 24, .inl fr)), (a4, .inl (cI, 8, .inl (gl [o0, o1, o2, o3, (-1), (-1), (-1), (-1)]))), (a5, .inl (cI, 5, .inl (gl [(-1), (-1), (-1), (-1), (-1)]))), (a6, .inl (cI, 4000, .inl fb))]) [4, 5, 0, 1, 2, 3] rfl
    have hD9 := hD.sub (ws' := [(h, .inr (2, [.ref a0, .ref a1, .ref a2, .ref a3, .ref a4, .ref a5, .ref a6])), (a0, .inl (cI, 22, .inl (gl [m0, m1, m2, m3, m4, m5, m6, m7, m8, m9, 0, 0, (-1), m13, m14, m15, 0, 0, 0, 4, 0, 16]))), (a3, .inl (cI, 24, .inl fr)), (a4, .inl (cI, 8, .inl (gl [o0, o1, o2, o3, (-1), (-1), (-1), (-1)]))), (a5, .inl (cI, 5, .inl (gl [(-1), (-1), (-1), (-1), (-1)]))), (a6, .inl (cI, 4000, .inl fb))]) [4, 5, 0, 1, 2, 3] (by decide) rfl
    exact W.iret (v := (-1)) hx hb hr (fun t ht hW => ⟨⟨(-1), (), rfl, e_0.symm, by rw [ht, e_1, e_2, e_3, e_4, e_5, e_6, e_7, e_8, e_9]; exact hP9, va_K.moved hW.alike hK, (by rw [e_1, e_2, e_3, e_4, e_5, e_6, e_7, e_8, e_9]; exact hD9)⟩, hS.F ht⟩) hS.2.2 dX2_gather_61
  · refine lv_iconst (v := 1) hx hb dX2_gather_50 (by decide) ?_
    refine lv_goto (tgt := 55) hx hb dX2_gather_51 (by decide) ?_
    refine lv_istore_n (lv' := [(3, .int 1), (2, .int (m3 &&& 3)), (1, .int m3), (0, .ref h)]) hx hb dX2_gather_55 rfl hl (by decide) rfl (fun ls hl => ?_)
    refine lv_iload_n hx hb dX2_gather_56 rfl (lv_at hl 0 rfl) ?_
    refine lv_if_ne (tgt := 62) hx hb dX2_gather_57 (by decide) (fun _ => ?_) (fun c => absurd c (by decide))
    refine lv_aload_n hx hb dX2_gather_62 rfl (lv_at hl 3 rfl) ?_
    refine lv_aload_n hx hb dX2_gather_63 rfl (lv_at hl 3 rfl) ?_
    refine zcVi (As := []) (rest := [.ref h]) (wr := [(a3, .inl (cI, 24, .inl fr)), (a4, .inl (cI, 8, .inl (gl [o0, o1, o2, o3, (-1), (-1), (-1), (-1)]))), (a5, .inl (cI, 5, .inl (gl [(-1), (-1), (-1), (-1), (-1)]))), (a6, .inl (cI, 4000, .inl fb))]) ⟨hx, hb, hml, hown, hts⟩ (kkX2_isPacked l dC dI cI cB cZ cR H.size h a0 a1 a2 a3 a4 a5 a6 m0 m1 m2 m3 m4 m5 m6 m7 m8 m9 0 0 (-1) m13 m14 m15 0 0 ) (cwV 0 hts (zgV wm_267 wm_268 wm_269 wm_22 wm_270) rfl rfl rfl (by decide +kernel) ⟨Nat.le_of_ble_eq_true rfl, Nat.le_of_ble_eq_true rfl⟩) hN hK hP hD hS hA [4, 5] [0, 1, 2, 3] rfl rfl ⟨rfl, rfl⟩ (by decide) (ci := 2) rfl rfl rfl rfl hl.1 rfl (Nat.le_of_ble_eq_true rfl) dX2_gather_64 ⟨Nat.le_of_ble_eq_true rfl, Nat.le_of_ble_eq_true rfl⟩ (fun r u hu H locs hP hD hS => ?_)
    have hu : r = 0 := hu
    subst hu
    have hP : va_P (dC, dI) vwCl [(a3, .inl (cI, 24, .inl fr)), (a4, .inl (cI, 8, .inl (gl [o0, o1, o2, o3, (-1), (-1), (-1), (-1)]))), (a5, .inl (cI, 5, .inl (gl [(-1), (-1), (-1), (-1), (-1)]))), (a6, .inl (cI, 4000, .inl fb)), (h, .inr (2, [.ref a0, .ref a1, .ref a2, .ref a3, .ref a4, .ref a5, .ref a6])), (a0, .inl (cI, 22, .inl (gl [m0, m1, m2, m3, m4, m5, m6, m7, m8, m9, 0, 0, (-1), m13, m14, m15, 0, 0, 0, 4, 0, 16])))] H := hP
    have hD : va_D A [(a3, .inl (cI, 24, .inl fr)), (a4, .inl (cI, 8, .inl (gl [o0, o1, o2, o3, (-1), (-1), (-1), (-1)]))), (a5, .inl (cI, 5, .inl (gl [(-1), (-1), (-1), (-1), (-1)]))), (a6, .inl (cI, 4000, .inl fb)), (h, .inr (2, [.ref a0, .ref a1, .ref a2, .ref a3, .ref a4, .ref a5, .ref a6])), (a0, .inl (cI, 22, .inl (gl [m0, m1, m2, m3, m4, m5, m6, m7, m8, m9, 0, 0, (-1), m13, m14, m15, 0, 0, 0, 4, 0, 16])))] := hD
    refine lv_if_eq (tgt := 80) hx hb dX2_gather_67 (by decide) (fun _ => ?_) (fun c => absurd (by decide) c)
    refine lv_aload_n hx hb dX2_gather_80 rfl (lv_at hl 3 rfl) ?_
    refine lv_iload_n hx hb dX2_gather_81 rfl (lv_at hl 1 rfl) ?_
    refine lv_iconst (v := 1) hx hb dX2_gather_82 (by decide) ?_
    refine zcVi (As := [.int (m3 &&& 3), .int 1]) (rest := [.ref h]) (wr := [(a4, .inl (cI, 8, .inl (gl [o0, o1, o2, o3, (-1), (-1), (-1), (-1)]))), (a5, .inl (cI, 5, .inl (gl [(-1), (-1), (-1), (-1), (-1)]))), (a6, .inl (cI, 4000, .inl fb))]) ⟨hx, hb, hml, hown, hts⟩ (kkX2_rowAt l dC dI cI cB cZ cR H.size h a0 a1 a2 a3 a4 a5 a6 m0 m1 m2 m3 m4 m5 m6 m7 m8 m9 0 0 (-1) m13 m14 m15 0 0 fr (m3 &&& 3) 1 ) (cwV 2 hts (zgV wm_448 wm_449 wm_450 wm_22 wm_451) rfl rfl rfl (by decide +kernel) ⟨Nat.le_of_ble_eq_true rfl, Nat.le_of_ble_eq_true rfl⟩) hN hK hP hD hS hA [4, 5, 0] [1, 2, 3] rfl rfl ⟨rfl, rfl⟩ (by decide) (ci := 2) rfl rfl rfl rfl hl.1 rfl (Nat.le_of_ble_eq_true rfl) dX2_gather_83 ⟨Nat.le_of_ble_eq_true rfl, Nat.le_of_ble_eq_true rfl⟩ (fun r u hu H locs hP hD hS => ?_)
    have hu : r = (pfX2_rowAt_r fr (m3 &&& 3) 1) := hu
    subst hu
    have hP : va_P (dC, dI) vwCl [(a4, .inl (cI, 8, .inl (gl [o0, o1, o2, o3, (-1), (-1), (-1), (-1)]))), (a5, .inl (cI, 5, .inl (gl [(-1), (-1), (-1), (-1), (-1)]))), (a6, .inl (cI, 4000, .inl fb)), (h, .inr (2, [.ref a0, .ref a1, .ref a2, .ref a3, .ref a4, .ref a5, .ref a6])), (a0, .inl (cI, 22, .inl (gl [m0, m1, m2, m3, m4, m5, m6, m7, m8, m9, 0, 0, (-1), m13, m14, m15, 0, 0, 0, 4, 0, 16]))), (a3, .inl (cI, 24, .inl fr))] H := hP
    have hD : va_D A [(a4, .inl (cI, 8, .inl (gl [o0, o1, o2, o3, (-1), (-1), (-1), (-1)]))), (a5, .inl (cI, 5, .inl (gl [(-1), (-1), (-1), (-1), (-1)]))), (a6, .inl (cI, 4000, .inl fb)), (h, .inr (2, [.ref a0, .ref a1, .ref a2, .ref a3, .ref a4, .ref a5, .ref a6])), (a0, .inl (cI, 22, .inl (gl [m0, m1, m2, m3, m4, m5, m6, m7, m8, m9, 0, 0, (-1), m13, m14, m15, 0, 0, 0, 4, 0, 16]))), (a3, .inl (cI, 24, .inl fr))] := hD
    refine lv_iconst (v := 2) hx hb dX2_gather_86 (by decide) ?_
    refine zcVi (As := [.int (pfX2_rowAt_r fr (m3 &&& 3) 1), .int 2]) (rest := []) (wr := [(a5, .inl (cI, 5, .inl (gl [(-1), (-1), (-1), (-1), (-1)]))), (a3, .inl (cI, 24, .inl fr))]) ⟨hx, hb, hml, hown, hts⟩ (kkX2_holderOf_g_2 l dC dI cI cB cZ cR H.size h a0 a1 a2 a3 a4 a5 a6 m0 m1 m2 m3 m4 m5 m6 m7 m8 m9 0 0 (-1) m13 m14 m15 0 0 o0 o1 o2 o3 fb (pfX2_rowAt_r fr (m3 &&& 3) 1) ) (cwV 2 hts (zgV wm_488 wm_489 wm_490 wm_22 wm_491) rfl rfl rfl (by decide +kernel) ⟨Nat.le_of_ble_eq_true rfl, Nat.le_of_ble_eq_true rfl⟩) hN hK hP hD hS hA [3, 4, 0, 2] [1, 5] rfl rfl ⟨rfl, rfl⟩ (by decide) (ci := 2) rfl rfl rfl rfl hl.1 rfl (Nat.le_of_ble_eq_true rfl) dX2_gather_87 ⟨Nat.le_of_ble_eq_true rfl, Nat.le_of_ble_eq_true rfl⟩ (fun r u hu H locs hP hD hS => ?_)
    have hu : r = (pfX2_holderOf_g_2_r m5 o0 o1 o2 o3 fb (pfX2_rowAt_r fr (m3 &&& 3) 1)) := hu
    subst hu
    have hP : va_P (dC, dI) vwCl [(a5, .inl (cI, 5, .inl (gl [(-1), (-1), (-1), (-1), (-1)]))), (a3, .inl (cI, 24, .inl fr)), (h, .inr (2, [.ref a0, .ref a1, .ref a2, .ref a3, .ref a4, .ref a5, .ref a6])), (a0, .inl (cI, 22, .inl (gl [m0, m1, m2, m3, m4, m5, m6, m7, m8, m9, 0, 0, (-1), m13, m14, m15, 0, 0, 0, 4, 0, 16]))), (a4, .inl (cI, 8, .inl (gl [o0, o1, o2, o3, (-1), (-1), (-1), (-1)]))), (a6, .inl (cI, 4000, .inl fb))] H := hP
    have hD : va_D A [(a5, .inl (cI, 5, .inl (gl [(-1), (-1), (-1), (-1), (-1)]))), (a3, .inl (cI, 24, .inl fr)), (h, .inr (2, [.ref a0, .ref a1, .ref a2, .ref a3, .ref a4, .ref a5, .ref a6])), (a0, .inl (cI, 22, .inl (gl [m0, m1, m2, m3, m4, m5, m6, m7, m8, m9, 0, 0, (-1), m13, m14, m15, 0, 0, 0, 4, 0, 16]))), (a4, .inl (cI, 8, .inl (gl [o0, o1, o2, o3, (-1), (-1), (-1), (-1)]))), (a6, .inl (cI, 4000, .inl fb))] := hD
    refine lv_istore (lv' := [(4, .int (pfX2_holderOf_g_2_r m5 o0 o1 o2 o3 fb (pfX2_rowAt_r fr (m3 &&& 3) 1))), (3, .int 1), (2, .int (m3 &&& 3)), (1, .int m3), (0, .ref h)]) hx hb dX2_gather_90 hl (by decide) rfl (fun ls hl => ?_)
    refine lv_iload hx hb dX2_gather_92 (lv_at hl 0 rfl) ?_
    refine lv_iconst (v := (-1)) hx hb dX2_gather_94 (by decide) ?_
    refine lv_icmp_ne (tgt := 101) hx hb dX2_gather_95 (by decide) (fun c_2 => ?_) (fun c_2 => ?_)
    · refine lv_aload_n hx hb dX2_gather_101 rfl (lv_at hl 4 rfl) ?_
      refine va_get (D := (dC, dI)) (ci := 2) (v := .ref a0) (C := RX2) (T := TX2) (N := 7) hx hb hts hinX2 hown hK hP 2 rfl rfl 0 (by decide) k_0 (fun _ h9 => h9) rfl dX2_gather_102 ?_
      refine lv_bipush (v := 12) hx hb dX2_gather_105 (by decide) ?_
      refine lv_iload hx hb dX2_gather_107 (lv_at hl 0 rfl) ?_
      refine za_iast (f' := (gl [m0, m1, m2, m3, m4, m5, m6, m7, m8, m9, 0, 0, (pfX2_holderOf_g_2_r m5 o0 o1 o2 o3 fb (pfX2_rowAt_r fr (m3 &&& 3) 1)), m13, m14, m15, 0, 0, 0, 4, 0, 16])) hx hb hK hP hD hS 3 0 rfl rfl (zin tn_12 (Nat.le_of_ble_eq_true rfl)) (zup_gl tn_12 (Nat.le_of_ble_eq_true rfl) rfl) dX2_gather_109 (fun H locs hP hD hS => ?_)
      have hP : va_P (dC, dI) vwCl [(a5, .inl (cI, 5, .inl (gl [(-1), (-1), (-1), (-1), (-1)]))), (a3, .inl (cI, 24, .inl fr)), (h, .inr (2, [.ref a0, .ref a1, .ref a2, .ref a3, .ref a4, .ref a5, .ref a6])), (a0, .inl (cI, 22, .inl (gl [m0, m1, m2, m3, m4, m5, m6, m7, m8, m9, 0, 0, (pfX2_holderOf_g_2_r m5 o0 o1 o2 o3 fb (pfX2_rowAt_r fr (m3 &&& 3) 1)), m13, m14, m15, 0, 0, 0, 4, 0, 16]))), (a4, .inl (cI, 8, .inl (gl [o0, o1, o2, o3, (-1), (-1), (-1), (-1)]))), (a6, .inl (cI, 4000, .inl fb))] H := hP
      have hD : va_D A [(a5, .inl (cI, 5, .inl (gl [(-1), (-1), (-1), (-1), (-1)]))), (a3, .inl (cI, 24, .inl fr)), (h, .inr (2, [.ref a0, .ref a1, .ref a2, .ref a3, .ref a4, .ref a5, .ref a6])), (a0, .inl (cI, 22, .inl (gl [m0, m1, m2, m3, m4, m5, m6, m7, m8, m9, 0, 0, (pfX2_holderOf_g_2_r m5 o0 o1 o2 o3 fb (pfX2_rowAt_r fr (m3 &&& 3) 1)), m13, m14, m15, 0, 0, 0, 4, 0, 16]))), (a4, .inl (cI, 8, .inl (gl [o0, o1, o2, o3, (-1), (-1), (-1), (-1)]))), (a6, .inl (cI, 4000, .inl fb))] := hD
      refine lv_aload_n hx hb dX2_gather_110 rfl (lv_at hl 4 rfl) ?_
      refine va_get (D := (dC, dI)) (ci := 2) (v := .ref a0) (C := RX2) (T := TX2) (N := 7) hx hb hts hinX2 hown hK hP 2 rfl rfl 0 (by decide) k_0 (fun _ h9 => h9) rfl dX2_gather_111 ?_
      refine lv_bipush (v := 13) hx hb dX2_gather_114 (by decide) ?_
      refine lv_aload_n hx hb dX2_gather_116 rfl (lv_at hl 4 rfl) ?_
      refine zcVi (As := []) (rest := [.int 13, .ref a0]) (wr := [(a5, .inl (cI, 5, .inl (gl [(-1), (-1), (-1), (-1), (-1)]))), (a3, .inl (cI, 24, .inl fr)), (a4, .inl (cI, 8, .inl (gl [o0, o1, o2, o3, (-1), (-1), (-1), (-1)]))), (a6, .inl (cI, 4000, .inl fb))]) ⟨hx, hb, hml, hown, hts⟩ (kkX2_isPacked l dC dI cI cB cZ cR H.size h a0 a1 a2 a3 a4 a5 a6 m0 m1 m2 m3 m4 m5 m6 m7 m8 m9 0 0 (pfX2_holderOf_g_2_r m5 o0 o1 o2 o3 fb (pfX2_rowAt_r fr (m3 &&& 3) 1)) m13 m14 m15 0 0 ) (cwV 0 hts (zgV wm_267 wm_268 wm_269 wm_22 wm_270) rfl rfl rfl (by decide +kernel) ⟨Nat.le_of_ble_eq_true rfl, Nat.le_of_ble_eq_true rfl⟩) hN hK hP hD hS hA [2, 3] [0, 1, 4, 5] rfl rfl ⟨rfl, rfl⟩ (by decide) (ci := 2) rfl rfl rfl rfl hl.1 rfl (Nat.le_of_ble_eq_true rfl) dX2_gather_117 ⟨Nat.le_of_ble_eq_true rfl, Nat.le_of_ble_eq_true rfl⟩ (fun r u hu H locs hP hD hS => ?_)
      have hu : r = 0 := hu
      subst hu
      have hP : va_P (dC, dI) vwCl [(a5, .inl (cI, 5, .inl (gl [(-1), (-1), (-1), (-1), (-1)]))), (a3, .inl (cI, 24, .inl fr)), (a4, .inl (cI, 8, .inl (gl [o0, o1, o2, o3, (-1), (-1), (-1), (-1)]))), (a6, .inl (cI, 4000, .inl fb)), (h, .inr (2, [.ref a0, .ref a1, .ref a2, .ref a3, .ref a4, .ref a5, .ref a6])), (a0, .inl (cI, 22, .inl (gl [m0, m1, m2, m3, m4, m5, m6, m7, m8, m9, 0, 0, (pfX2_holderOf_g_2_r m5 o0 o1 o2 o3 fb (pfX2_rowAt_r fr (m3 &&& 3) 1)), m13, m14, m15, 0, 0, 0, 4, 0, 16])))] H := hP
      have hD : va_D A [(a5, .inl (cI, 5, .inl (gl [(-1), (-1), (-1), (-1), (-1)]))), (a3, .inl (cI, 24, .inl fr)), (a4, .inl (cI, 8, .inl (gl [o0, o1, o2, o3, (-1), (-1), (-1), (-1)]))), (a6, .inl (cI, 4000, .inl fb)), (h, .inr (2, [.ref a0, .ref a1, .ref a2, .ref a3, .ref a4, .ref a5, .ref a6])), (a0, .inl (cI, 22, .inl (gl [m0, m1, m2, m3, m4, m5, m6, m7, m8, m9, 0, 0, (pfX2_holderOf_g_2_r m5 o0 o1 o2 o3 fb (pfX2_rowAt_r fr (m3 &&& 3) 1)), m13, m14, m15, 0, 0, 0, 4, 0, 16])))] := hD
      refine lv_if_eq (tgt := 133) hx hb dX2_gather_120 (by decide) (fun _ => ?_) (fun c => absurd (by decide) c)
      refine lv_aload_n hx hb dX2_gather_133 rfl (lv_at hl 4 rfl) ?_
      refine lv_iload_n hx hb dX2_gather_134 rfl (lv_at hl 2 rfl) ?_
      refine lv_iconst (v := 2) hx hb dX2_gather_135 (by decide) ?_
      refine zcVi (As := [.int (m3 &&& 3), .int 2]) (rest := [.int 13, .ref a0]) (wr := [(a5, .inl (cI, 5, .inl (gl [(-1), (-1), (-1), (-1), (-1)]))), (a4, .inl (cI, 8, .inl (gl [o0, o1, o2, o3, (-1), (-1), (-1), (-1)]))), (a6, .inl (cI, 4000, .inl fb))]) ⟨hx, hb, hml, hown, hts⟩ (kkX2_rowAt l dC dI cI cB cZ cR H.size h a0 a1 a2 a3 a4 a5 a6 m0 m1 m2 m3 m4 m5 m6 m7 m8 m9 0 0 (pfX2_holderOf_g_2_r m5 o0 o1 o2 o3 fb (pfX2_rowAt_r fr (m3 &&& 3) 1)) m13 m14 m15 0 0 fr (m3 &&& 3) 2 ) (cwV 2 hts (zgV wm_448 wm_449 wm_450 wm_22 wm_451) rfl rfl rfl (by decide +kernel) ⟨Nat.le_of_ble_eq_true rfl, Nat.le_of_ble_eq_true rfl⟩) hN hK hP hD hS hA [4, 5, 1] [0, 2, 3] rfl rfl ⟨rfl, rfl⟩ (by decide) (ci := 2) rfl rfl rfl rfl hl.1 rfl (Nat.le_of_ble_eq_true rfl) dX2_gather_136 ⟨Nat.le_of_ble_eq_true rfl, Nat.le_of_ble_eq_true rfl⟩ (fun r u hu H locs hP hD hS => ?_)
      have hu : r = (pfX2_rowAt_r fr (m3 &&& 3) 2) := hu
      subst hu
      have hP : va_P (dC, dI) vwCl [(a5, .inl (cI, 5, .inl (gl [(-1), (-1), (-1), (-1), (-1)]))), (a4, .inl (cI, 8, .inl (gl [o0, o1, o2, o3, (-1), (-1), (-1), (-1)]))), (a6, .inl (cI, 4000, .inl fb)), (h, .inr (2, [.ref a0, .ref a1, .ref a2, .ref a3, .ref a4, .ref a5, .ref a6])), (a0, .inl (cI, 22, .inl (gl [m0, m1, m2, m3, m4, m5, m6, m7, m8, m9, 0, 0, (pfX2_holderOf_g_2_r m5 o0 o1 o2 o3 fb (pfX2_rowAt_r fr (m3 &&& 3) 1)), m13, m14, m15, 0, 0, 0, 4, 0, 16]))), (a3, .inl (cI, 24, .inl fr))] H := hP
      have hD : va_D A [(a5, .inl (cI, 5, .inl (gl [(-1), (-1), (-1), (-1), (-1)]))), (a4, .inl (cI, 8, .inl (gl [o0, o1, o2, o3, (-1), (-1), (-1), (-1)]))), (a6, .inl (cI, 4000, .inl fb)), (h, .inr (2, [.ref a0, .ref a1, .ref a2, .ref a3, .ref a4, .ref a5, .ref a6])), (a0, .inl (cI, 22, .inl (gl [m0, m1, m2, m3, m4, m5, m6, m7, m8, m9, 0, 0, (pfX2_holderOf_g_2_r m5 o0 o1 o2 o3 fb (pfX2_rowAt_r fr (m3 &&& 3) 1)), m13, m14, m15, 0, 0, 0, 4, 0, 16]))), (a3, .inl (cI, 24, .inl fr))] := hD
      refine za_iast (f' := (gl [m0, m1, m2, m3, m4, m5, m6, m7, m8, m9, 0, 0, (pfX2_holderOf_g_2_r m5 o0 o1 o2 o3 fb (pfX2_rowAt_r fr (m3 &&& 3) 1)), (pfX2_rowAt_r fr (m3 &&& 3) 2), m14, m15, 0, 0, 0, 4, 0, 16])) hx hb hK hP hD hS 4 0 rfl rfl (zin tn_13 (Nat.le_of_ble_eq_true rfl)) (zup_gl tn_13 (Nat.le_of_ble_eq_true rfl) rfl) dX2_gather_139 (fun H locs hP hD hS => ?_)
      have hP : va_P (dC, dI) vwCl [(a5, .inl (cI, 5, .inl (gl [(-1), (-1), (-1), (-1), (-1)]))), (a4, .inl (cI, 8, .inl (gl [o0, o1, o2, o3, (-1), (-1), (-1), (-1)]))), (a6, .inl (cI, 4000, .inl fb)), (h, .inr (2, [.ref a0, .ref a1, .ref a2, .ref a3, .ref a4, .ref a5, .ref a6])), (a0, .inl (cI, 22, .inl (gl [m0, m1, m2, m3, m4, m5, m6, m7, m8, m9, 0, 0, (pfX2_holderOf_g_2_r m5 o0 o1 o2 o3 fb (pfX2_rowAt_r fr (m3 &&& 3) 1)), (pfX2_rowAt_r fr (m3 &&& 3) 2), m14, m15, 0, 0, 0, 4, 0, 16]))), (a3, .inl (cI, 24, .inl fr))] H := hP
      have hD : va_D A [(a5, .inl (cI, 5, .inl (gl [(-1), (-1), (-1), (-1), (-1)]))), (a4, .inl (cI, 8, .inl (gl [o0, o1, o2, o3, (-1), (-1), (-1), (-1)]))), (a6, .inl (cI, 4000, .inl fb)), (h, .inr (2, [.ref a0, .ref a1, .ref a2, .ref a3, .ref a4, .ref a5, .ref a6])), (a0, .inl (cI, 22, .inl (gl [m0, m1, m2, m3, m4, m5, m6, m7, m8, m9, 0, 0, (pfX2_holderOf_g_2_r m5 o0 o1 o2 o3 fb (pfX2_rowAt_r fr (m3 &&& 3) 1)), (pfX2_rowAt_r fr (m3 &&& 3) 2), m14, m15, 0, 0, 0, 4, 0, 16]))), (a3, .inl (cI, 24, .inl fr))] := hD
      refine lv_aload_n hx hb dX2_gather_140 rfl (lv_at hl 4 rfl) ?_
      refine lv_iconst (v := 1) hx hb dX2_gather_141 (by decide) ?_
      refine zcVi (As := [.int 1]) (rest := []) (wr := [(a5, .inl (cI, 5, .inl (gl [(-1), (-1), (-1), (-1), (-1)]))), (a4, .inl (cI, 8, .inl (gl [o0, o1, o2, o3, (-1), (-1), (-1), (-1)]))), (a6, .inl (cI, 4000, .inl fb)), (a3, .inl (cI, 24, .inl fr))]) ⟨hx, hb, hml, hown, hts⟩ (kkX2_hasFeature_1 l dC dI cI cB cZ cR H.size h a0 a1 a2 a3 a4 a5 a6 m0 m1 m2 m3 m4 m5 m6 m7 m8 m9 0 0 (pfX2_holderOf_g_2_r m5 o0 o1 o2 o3 fb (pfX2_rowAt_r fr (m3 &&& 3) 1)) (pfX2_rowAt_r fr (m3 &&& 3) 2) m14 m15 0 0 ) (cwV 1 hts (zgV wm_251 wm_252 wm_253 wm_22 wm_254) rfl rfl rfl (by decide +kernel) ⟨Nat.le_of_ble_eq_true rfl, Nat.le_of_ble_eq_true rfl⟩) hN hK hP hD hS hA [3, 4] [0, 1, 2, 5] rfl rfl ⟨rfl, rfl⟩ (by decide) (ci := 2) rfl rfl rfl rfl hl.1 rfl (Nat.le_of_ble_eq_true rfl) dX2_gather_142 ⟨Nat.le_of_ble_eq_true rfl, Nat.le_of_ble_eq_true rfl⟩ (fun r u hu H locs hP hD hS => ?_)
      have hu : r = 0 := hu
      subst hu
      have hP : va_P (dC, dI) vwCl [(a5, .inl (cI, 5, .inl (gl [(-1), (-1), (-1), (-1), (-1)]))), (a4, .inl (cI, 8, .inl (gl [o0, o1, o2, o3, (-1), (-1), (-1), (-1)]))), (a6, .inl (cI, 4000, .inl fb)), (a3, .inl (cI, 24, .inl fr)), (h, .inr (2, [.ref a0, .ref a1, .ref a2, .ref a3, .ref a4, .ref a5, .ref a6])), (a0, .inl (cI, 22, .inl (gl [m0, m1, m2, m3, m4, m5, m6, m7, m8, m9, 0, 0, (pfX2_holderOf_g_2_r m5 o0 o1 o2 o3 fb (pfX2_rowAt_r fr (m3 &&& 3) 1)), (pfX2_rowAt_r fr (m3 &&& 3) 2), m14, m15, 0, 0, 0, 4, 0, 16])))] H := hP
      have hD : va_D A [(a5, .inl (cI, 5, .inl (gl [(-1), (-1), (-1), (-1), (-1)]))), (a4, .inl (cI, 8, .inl (gl [o0, o1, o2, o3, (-1), (-1), (-1), (-1)]))), (a6, .inl (cI, 4000, .inl fb)), (a3, .inl (cI, 24, .inl fr)), (h, .inr (2, [.ref a0, .ref a1, .ref a2, .ref a3, .ref a4, .ref a5, .ref a6])), (a0, .inl (cI, 22, .inl (gl [m0, m1, m2, m3, m4, m5, m6, m7, m8, m9, 0, 0, (pfX2_holderOf_g_2_r m5 o0 o1 o2 o3 fb (pfX2_rowAt_r fr (m3 &&& 3) 1)), (pfX2_rowAt_r fr (m3 &&& 3) 2), m14, m15, 0, 0, 0, 4, 0, 16])))] := hD
      refine lv_if_eq (tgt := 155) hx hb dX2_gather_145 (by decide) (fun _ => ?_) (fun c => absurd (by decide) c)
      refine lv_aload_n hx hb dX2_gather_155 rfl (lv_at hl 4 rfl) ?_
      refine va_get (D := (dC, dI)) (ci := 2) (v := .ref a0) (C := RX2) (T := TX2) (N := 7) hx hb hts hinX2 hown hK hP 4 rfl rfl 0 (by decide) k_0 (fun _ h9 => h9) rfl dX2_gather_156 ?_
      refine lv_bipush (v := 12) hx hb dX2_gather_159 (by decide) ?_
      refine za_iald (v := (pfX2_holderOf_g_2_r m5 o0 o1 o2 o3 fb (pfX2_rowAt_r fr (m3 &&& 3) 1))) hx hb hK hP 5 0 rfl rfl (zin tn_12 (Nat.le_of_ble_eq_true rfl)) (zrd _ tn_12 rfl) dX2_gather_161 ?_
      refine lv_istore_n (lv' := [(1, .int (pfX2_holderOf_g_2_r m5 o0 o1 o2 o3 fb (pfX2_rowAt_r fr (m3 &&& 3) 1))), (4, .int (pfX2_holderOf_g_2_r m5 o0 o1 o2 o3 fb (pfX2_rowAt_r fr (m3 &&& 3) 1))), (3, .int 1), (2, .int (m3 &&& 3)), (0, .ref h)]) hx hb dX2_gather_162 rfl hl (by decide) rfl (fun ls hl => ?_)
      refine lv_iload_n hx hb dX2_gather_163 rfl (lv_at hl 0 rfl) ?_
      refine lv_aload_n hx hb dX2_gather_164 rfl (lv_at hl 4 rfl) ?_
      refine va_get (D := (dC, dI)) (ci := 2) (v := .ref a0) (C := RX2) (T := TX2) (N := 7) hx hb hts hinX2 hown hK hP 4 rfl rfl 0 (by decide) k_0 (fun _ h9 => h9) rfl dX2_gather_165 ?_
      refine lv_bipush (v := 12) hx hb dX2_gather_168 (by decide) ?_
      refine za_iald (v := (pfX2_holderOf_g_2_r m5 o0 o1 o2 o3 fb (pfX2_rowAt_r fr (m3 &&& 3) 1))) hx hb hK hP 5 0 rfl rfl (zin tn_12 (Nat.le_of_ble_eq_true rfl)) (zrd _ tn_12 rfl) dX2_gather_170 ?_
      refine lv_icmp_ne (tgt := 182) hx hb dX2_gather_171 (by decide) (fun c => absurd rfl c) (fun _ => ?_)
      refine lv_aload_n hx hb dX2_gather_174 rfl (lv_at hl 4 rfl) ?_
      refine va_get (D := (dC, dI)) (ci := 2) (v := .ref a0) (C := RX2) (T := TX2) (N := 7) hx hb hts hinX2 hown hK hP 4 rfl rfl 0 (by decide) k_0 (fun _ h9 => h9) rfl dX2_gather_175 ?_
      refine lv_bipush (v := 12) hx hb dX2_gather_178 (by decide) ?_
      refine lv_iconst (v := (-1)) hx hb dX2_gather_180 (by decide) ?_
      refine za_iast (f' := (gl [m0, m1, m2, m3, m4, m5, m6, m7, m8, m9, 0, 0, (-1), (pfX2_rowAt_r fr (m3 &&& 3) 2), m14, m15, 0, 0, 0, 4, 0, 16])) hx hb hK hP hD hS 5 0 rfl rfl (zin tn_12 (Nat.le_of_ble_eq_true rfl)) (zup_gl tn_12 (Nat.le_of_ble_eq_true rfl) rfl) dX2_gather_181 (fun H locs hP hD hS => ?_)
      have hP : va_P (dC, dI) vwCl [(a5, .inl (cI, 5, .inl (gl [(-1), (-1), (-1), (-1), (-1)]))), (a4, .inl (cI, 8, .inl (gl [o0, o1, o2, o3, (-1), (-1), (-1), (-1)]))), (a6, .inl (cI, 4000, .inl fb)), (a3, .inl (cI, 24, .inl fr)), (h, .inr (2, [.ref a0, .ref a1, .ref a2, .ref a3, .ref a4, .ref a5, .ref a6])), (a0, .inl (cI, 22, .inl (gl [m0, m1, m2, m3, m4, m5, m6, m7, m8, m9, 0, 0, (-1), (pfX2_rowAt_r fr (m3 &&& 3) 2), m14, m15, 0, 0, 0, 4, 0, 16])))] H := hP
      have hD : va_D A [(a5, .inl (cI, 5, .inl (gl [(-1), (-1), (-1), (-1), (-1)]))), (a4, .inl (cI, 8, .inl (gl [o0, o1, o2, o3, (-1), (-1), (-1), (-1)]))), (a6, .inl (cI, 4000, .inl fb)), (a3, .inl (cI, 24, .inl fr)), (h, .inr (2, [.ref a0, .ref a1, .ref a2, .ref a3, .ref a4, .ref a5, .ref a6])), (a0, .inl (cI, 22, .inl (gl [m0, m1, m2, m3, m4, m5, m6, m7, m8, m9, 0, 0, (-1), (pfX2_rowAt_r fr (m3 &&& 3) 2), m14, m15, 0, 0, 0, 4, 0, 16])))] := hD
      refine lv_aload_n hx hb dX2_gather_182 rfl (lv_at hl 4 rfl) ?_
      refine lv_iload_n hx hb dX2_gather_183 rfl (lv_at hl 0 rfl) ?_
      refine zcVv (As := [.int (pfX2_holderOf_g_2_r m5 o0 o1 o2 o3 fb (pfX2_rowAt_r fr (m3 &&& 3) 1))]) (rest := []) (wr := [(a3, .inl (cI, 24, .inl fr))]) ⟨hx, hb, hml, hown, hts⟩ (kkX2_release l dC dI cI cB cZ cR H.size h a0 a1 a2 a3 a4 a5 a6 m0 m1 m2 m3 m4 m5 m6 m7 m8 m9 0 0 (-1) (pfX2_rowAt_r fr (m3 &&& 3) 2) m14 m15 0 0 o0 o1 o2 o3 fb (pfX2_holderOf_g_2_r m5 o0 o1 o2 o3 fb (pfX2_rowAt_r fr (m3 &&& 3) 1)) (fun z => c_2 z.symm)) (cwV 1 hts (zgV wm_612 wm_613 wm_614 wm_22 wm_615) rfl rfl rfl (by decide +kernel) ⟨Nat.le_of_ble_eq_true rfl, Nat.le_of_ble_eq_true rfl⟩) hN hK hP hD hS hA [4, 5, 1, 0, 2] [3] rfl rfl ⟨rfl, rfl⟩ (by decide) (ci := 2) rfl rfl rfl rfl hl.1 rfl (Nat.le_of_ble_eq_true rfl) dX2_gather_184 ⟨Nat.le_of_ble_eq_true rfl, Nat.le_of_ble_eq_true rfl⟩ (fun u hu H locs hP hD hS => ?_)
      have hP : va_P (dC, dI) vwCl [(a3, .inl (cI, 24, .inl fr)), (h, .inr (2, [.ref a0, .ref a1, .ref a2, .ref a3, .ref a4, .ref a5, .ref a6])), (a0, .inl (cI, 22, .inl (gl [m0, m1, m2, ((m3 + 1) &&& 15), (m4 + (pfX2_ofBuffer_g_r m5 (pfX2_putBuffer_g_a6_f fb (pfX2_holderOf_g_2_r m5 o0 o1 o2 o3 fb (pfX2_rowAt_r fr (m3 &&& 3) 1)) 0 3) (pfX2_holderOf_g_2_r m5 o0 o1 o2 o3 fb (pfX2_rowAt_r fr (m3 &&& 3) 1)) 7)), m5, (m6 - 1), m7, m8, m9, 0, 0, (-1), (pfX2_rowAt_r fr (m3 &&& 3) 2), m14, m15, 0, 0, 0, 4, 0, 16]))), (a4, .inl (cI, 8, .inl (gl [(pfX2_release_a4_0 o0 (pfX2_holderOf_g_2_r m5 o0 o1 o2 o3 fb (pfX2_rowAt_r fr (m3 &&& 3) 1))), (pfX2_release_a4_1 o1 (pfX2_holderOf_g_2_r m5 o0 o1 o2 o3 fb (pfX2_rowAt_r fr (m3 &&& 3) 1))), (pfX2_release_a4_2 o2 (pfX2_holderOf_g_2_r m5 o0 o1 o2 o3 fb (pfX2_rowAt_r fr (m3 &&& 3) 1))), (pfX2_release_a4_3 o3 (pfX2_holderOf_g_2_r m5 o0 o1 o2 o3 fb (pfX2_rowAt_r fr (m3 &&& 3) 1))), (-1), (-1), (-1), (-1)]))), (a5, .inl (cI, 5, .inl (gl [(-1), (-1), (-1), (-1), (-1)]))), (a6, .inl (cI, 4000, .inl (pfX2_putBuffer_g_a6_f fb (pfX2_holderOf_g_2_r m5 o0 o1 o2 o3 fb (pfX2_rowAt_r fr (m3 &&& 3) 1)) 0 3)))] H := hP
      have hD : va_D A [(a3, .inl (cI, 24, .inl fr)), (h, .inr (2, [.ref a0, .ref a1, .ref a2, .ref a3, .ref a4, .ref a5, .ref a6])), (a0, .inl (cI, 22, .inl (gl [m0, m1, m2, ((m3 + 1) &&& 15), (m4 + (pfX2_ofBuffer_g_r m5 (pfX2_putBuffer_g_a6_f fb (pfX2_holderOf_g_2_r m5 o0 o1 o2 o3 fb (pfX2_rowAt_r fr (m3 &&& 3) 1)) 0 3) (pfX2_holderOf_g_2_r m5 o0 o1 o2 o3 fb (pfX2_rowAt_r fr (m3 &&& 3) 1)) 7)), m5, (m6 - 1), m7, m8, m9, 0, 0, (-1), (pfX2_rowAt_r fr (m3 &&& 3) 2), m14, m15, 0, 0, 0, 4, 0, 16]))), (a4, .inl (cI, 8, .inl (gl [(pfX2_release_a4_0 o0 (pfX2_holderOf_g_2_r m5 o0 o1 o2 o3 fb (pfX2_rowAt_r fr (m3 &&& 3) 1))), (pfX2_release_a4_1 o1 (pfX2_holderOf_g_2_r m5 o0 o1 o2 o3 fb (pfX2_rowAt_r fr (m3 &&& 3) 1))), (pfX2_release_a4_2 o2 (pfX2_holderOf_g_2_r m5 o0 o1 o2 o3 fb (pfX2_rowAt_r fr (m3 &&& 3) 1))), (pfX2_release_a4_3 o3 (pfX2_holderOf_g_2_r m5 o0 o1 o2 o3 fb (pfX2_rowAt_r fr (m3 &&& 3) 1))), (-1), (-1), (-1), (-1)]))), (a5, .inl (cI, 5, .inl (gl [(-1), (-1), (-1), (-1), (-1)]))), (a6, .inl (cI, 4000, .inl (pfX2_putBuffer_g_a6_f fb (pfX2_holderOf_g_2_r m5 o0 o1 o2 o3 fb (pfX2_rowAt_r fr (m3 &&& 3) 1)) 0 3)))] := hD
      refine lv_iload_n hx hb dX2_gather_187 rfl (lv_at hl 0 rfl) ?_
      have e_0 : (pfX2_gather_g_r m2 m3 m5 o0 o1 o2 o3 fr fb) = (pfX2_holderOf_g_2_r m5 o0 o1 o2 o3 fb (pfX2_rowAt_r fr (m3 &&& 3) 1)) := by rw [pfX2_gather_g_r, if_neg c_1, if_neg c_2]
      have e_1 : (pfX2_gather_g_a0_3 m2 m3 m5 o0 o1 o2 o3 fr fb) = ((m3 + 1) &&& 15) := by rw [pfX2_gather_g_a0_3, if_neg c_1, if_neg c_2]
      have e_2 : (pfX2_gather_g_a0_4 m2 m3 m4 m5 o0 o1 o2 o3 fr fb) = (m4 + (pfX2_ofBuffer_g_r m5 (pfX2_putBuffer_g_a6_f fb (pfX2_holderOf_g_2_r m5 o0 o1 o2 o3 fb (pfX2_rowAt_r fr (m3 &&& 3) 1)) 0 3) (pfX2_holderOf_g_2_r m5 o0 o1 o2 o3 fb (pfX2_rowAt_r fr (m3 &&& 3) 1)) 7)) := by rw [pfX2_gather_g_a0_4, if_neg c_1, if_neg c_2]
      have e_3 : (pfX2_gather_g_a0_6 m2 m3 m5 m6 o0 o1 o2 o3 fr fb) = (m6 - 1) := by rw [pfX2_gather_g_a0_6, if_neg c_1, if_neg c_2]
      have e_4 : (pfX2_gather_g_a0_13 m2 m3 m5 m13 o0 o1 o2 o3 fr fb) = (pfX2_rowAt_r fr (m3 &&& 3) 2) := by rw [pfX2_gather_g_a0_13, if_neg c_1, if_neg c_2]
      have e_5 : (pfX2_gather_g_a4_0 m2 m3 m5 o0 o1 o2 o3 fr fb) = (pfX2_release_a4_0 o0 (pfX2_holderOf_g_2_r m5 o0 o1 o2 o3 fb (pfX2_rowAt_r fr (m3 &&& 3) 1))) := by rw [pfX2_gather_g_a4_0, if_neg c_1, if_neg c_2]
      have e_6 : (pfX2_gather_g_a4_1 m2 m3 m5 o0 o1 o2 o3 fr fb) = (pfX2_release_a4_1 o1 (pfX2_holderOf_g_2_r m5 o0 o1 o2 o3 fb (pfX2_rowAt_r fr (m3 &&& 3) 1))) := by rw [pfX2_gather_g_a4_1, if_neg c_1, if_neg c_2]
      have e_7 : (pfX2_gather_g_a4_2 m2 m3 m5 o0 o1 o2 o3 fr fb) = (pfX2_release_a4_2 o2 (pfX2_holderOf_g_2_r m5 o0 o1 o2 o3 fb (pfX2_rowAt_r fr (m3 &&& 3) 1))) := by rw [pfX2_gather_g_a4_2, if_neg c_1, if_neg c_2]
      have e_8 : (pfX2_gather_g_a4_3 m2 m3 m5 o0 o1 o2 o3 fr fb) = (pfX2_release_a4_3 o3 (pfX2_holderOf_g_2_r m5 o0 o1 o2 o3 fb (pfX2_rowAt_r fr (m3 &&& 3) 1))) := by rw [pfX2_gather_g_a4_3, if_neg c_1, if_neg c_2]
      have e_9 : (pfX2_gather_g_a6_f m2 m3 m5 o0 o1 o2 o3 fr fb) = (pfX2_putBuffer_g_a6_f fb (pfX2_holderOf_g_2_r m5 o0 o1 o2 o3 fb (pfX2_rowAt_r fr (m3 &&& 3) 1)) 0 3) := by rw [pfX2_gather_g_a6_f, if_neg c_1, if_neg c_2]
      have hP9 := hP.sub (ws' := [(h, .inr (2, [.ref a0, .ref a1, .ref a2, .ref a3, .ref a4, .ref a5, .ref a6])), (a0, .inl (cI, 22, .inl (gl [m0, m1, m2, ((m3 + 1) &&& 15), (m4 + (pfX2_ofBuffer_g_r m5 (pfX2_putBuffer_g_a6_f fb (pfX2_holderOf_g_2_r m5 o0 o1 o2 o3 fb (pfX2_rowAt_r fr (m3 &&& 3) 1)) 0 3) (pfX2_holderOf_g_2_r m5 o0 o1 o2 o3 fb (pfX2_rowAt_r fr (m3 &&& 3) 1)) 7)), m5, (m6 - 1), m7, m8, m9, 0, 0, (-1), (pfX2_rowAt_r fr (m3 &&& 3) 2), m14, m15, 0, 0, 0, 4, 0, 16]))), (a3, .inl (cI, 24, .inl fr)), (a4, .inl (cI, 8, .inl (gl [(pfX2_release_a4_0 o0 (pfX2_holderOf_g_2_r m5 o0 o1 o2 o3 fb (pfX2_rowAt_r fr (m3 &&& 3) 1))), (pfX2_release_a4_1 o1 (pfX2_holderOf_g_2_r m5 o0 o1 o2 o3 fb (pfX2_rowAt_r fr (m3 &&& 3) 1))), (pfX2_release_a4_2 o2 (pfX2_holderOf_g_2_r m5 o0 o1 o2 o3 fb (pfX2_rowAt_r fr (m3 &&& 3) 1))), (pfX2_release_a4_3 o3 (pfX2_holderOf_g_2_r m5 o0 o1 o2 o3 fb (pfX2_rowAt_r fr (m3 &&& 3) 1))), (-1), (-1), (-1), (-1)]))), (a5, .inl (cI, 5, .inl (gl [(-1), (-1), (-1), (-1), (-1)]))), (a6, .inl (cI, 4000, .inl (pfX2_putBuffer_g_a6_f fb (pfX2_holderOf_g_2_r m5 o0 o1 o2 o3 fb (pfX2_rowAt_r fr (m3 &&& 3) 1)) 0 3)))]) [1, 2, 0, 3, 4, 5] rfl
      have hD9 := hD.sub (ws' := [(h, .inr (2, [.ref a0, .ref a1, .ref a2, .ref a3, .ref a4, .ref a5, .ref a6])), (a0, .inl (cI, 22, .inl (gl [m0, m1, m2, ((m3 + 1) &&& 15), (m4 + (pfX2_ofBuffer_g_r m5 (pfX2_putBuffer_g_a6_f fb (pfX2_holderOf_g_2_r m5 o0 o1 o2 o3 fb (pfX2_rowAt_r fr (m3 &&& 3) 1)) 0 3) (pfX2_holderOf_g_2_r m5 o0 o1 o2 o3 fb (pfX2_rowAt_r fr (m3 &&& 3) 1)) 7)), m5, (m6 - 1), m7, m8, m9, 0, 0, (-1), (pfX2_rowAt_r fr (m3 &&& 3) 2), m14, m15, 0, 0, 0, 4, 0, 16]))), (a3, .inl (cI, 24, .inl fr)), (a4, .inl (cI, 8, .inl (gl [(pfX2_release_a4_0 o0 (pfX2_holderOf_g_2_r m5 o0 o1 o2 o3 fb (pfX2_rowAt_r fr (m3 &&& 3) 1))), (pfX2_release_a4_1 o1 (pfX2_holderOf_g_2_r m5 o0 o1 o2 o3 fb (pfX2_rowAt_r fr (m3 &&& 3) 1))), (pfX2_release_a4_2 o2 (pfX2_holderOf_g_2_r m5 o0 o1 o2 o3 fb (pfX2_rowAt_r fr (m3 &&& 3) 1))), (pfX2_release_a4_3 o3 (pfX2_holderOf_g_2_r m5 o0 o1 o2 o3 fb (pfX2_rowAt_r fr (m3 &&& 3) 1))), (-1), (-1), (-1), (-1)]))), (a5, .inl (cI, 5, .inl (gl [(-1), (-1), (-1), (-1), (-1)]))), (a6, .inl (cI, 4000, .inl (pfX2_putBuffer_g_a6_f fb (pfX2_holderOf_g_2_r m5 o0 o1 o2 o3 fb (pfX2_rowAt_r fr (m3 &&& 3) 1)) 0 3)))]) [1, 2, 0, 3, 4, 5] (by decide) rfl
      exact W.iret (v := (pfX2_holderOf_g_2_r m5 o0 o1 o2 o3 fb (pfX2_rowAt_r fr (m3 &&& 3) 1))) hx hb hr (fun t ht hW => ⟨⟨(pfX2_holderOf_g_2_r m5 o0 o1 o2 o3 fb (pfX2_rowAt_r fr (m3 &&& 3) 1)), (), rfl, e_0.symm, by rw [ht, e_1, e_2, e_3, e_4, e_5, e_6, e_7, e_8, e_9]; exact hP9, va_K.moved hW.alike hK, (by rw [e_1, e_2, e_3, e_4, e_5, e_6, e_7, e_8, e_9]; exact hD9)⟩, hS.F ht⟩) hS.2.2 dX2_gather_188
    · refine lv_bipush (v := (-2)) hx hb dX2_gather_98 (by decide) ?_
      have e_0 : (pfX2_gather_g_r m2 m3 m5 o0 o1 o2 o3 fr fb) = (-2) := by rw [pfX2_gather_g_r, if_neg c_1, if_pos c_2]
      have e_1 : (pfX2_gather_g_a0_3 m2 m3 m5 o0 o1 o2 o3 fr fb) = m3 := by rw [pfX2_gather_g_a0_3, if_neg c_1, if_pos c_2]
      have e_2 : (pfX2_gather_g_a0_4 m2 m3 m4 m5 o0 o1 o2 o3 fr fb) = m4 := by rw [pfX2_gather_g_a0_4, if_neg c_1, if_pos c_2]
      have e_3 : (pfX2_gather_g_a0_6 m2 m3 m5 m6 o0 o1 o2 o3 fr fb) = m6 := by rw [pfX2_gather_g_a0_6, if_neg c_1, if_pos c_2]
      have e_4 : (pfX2_gather_g_a0_13 m2 m3 m5 m13 o0 o1 o2 o3 fr fb) = m13 := by rw [pfX2_gather_g_a0_13, if_neg c_1, if_pos c_2]
      have e_5 : (pfX2_gather_g_a4_0 m2 m3 m5 o0 o1 o2 o3 fr fb) = o0 := by rw [pfX2_gather_g_a4_0, if_neg c_1, if_pos c_2]
      have e_6 : (pfX2_gather_g_a4_1 m2 m3 m5 o0 o1 o2 o3 fr fb) = o1 := by rw [pfX2_gather_g_a4_1, if_neg c_1, if_pos c_2]
      have e_7 : (pfX2_gather_g_a4_2 m2 m3 m5 o0 o1 o2 o3 fr fb) = o2 := by rw [pfX2_gather_g_a4_2, if_neg c_1, if_pos c_2]
      have e_8 : (pfX2_gather_g_a4_3 m2 m3 m5 o0 o1 o2 o3 fr fb) = o3 := by rw [pfX2_gather_g_a4_3, if_neg c_1, if_pos c_2]
      have e_9 : (pfX2_gather_g_a6_f m2 m3 m5 o0 o1 o2 o3 fr fb) = fb := by rw [pfX2_gather_g_a6_f, if_neg c_1, if_pos c_2]
      have hP9 := hP.sub (ws' := [(h, .inr (2, [.ref a0, .ref a1, .ref a2, .ref a3, .ref a4, .ref a5, .ref a6])), (a0, .inl (cI, 22, .inl (gl [m0, m1, m2, m3, m4, m5, m6, m7, m8, m9, 0, 0, (-1), m13, m14, m15, 0, 0, 0, 4, 0, 16]))), (a3, .inl (cI, 24, .inl fr)), (a4, .inl (cI, 8, .inl (gl [o0, o1, o2, o3, (-1), (-1), (-1), (-1)]))), (a5, .inl (cI, 5, .inl (gl [(-1), (-1), (-1), (-1), (-1)]))), (a6, .inl (cI, 4000, .inl fb))]) [2, 3, 1, 4, 0, 5] rfl
      have hD9 := hD.sub (ws' := [(h, .inr (2, [.ref a0, .ref a1, .ref a2, .ref a3, .ref a4, .ref a5, .ref a6])), (a0, .inl (cI, 22, .inl (gl [m0, m1, m2, m3, m4, m5, m6, m7, m8, m9, 0, 0, (-1), m13, m14, m15, 0, 0, 0, 4, 0, 16]))), (a3, .inl (cI, 24, .inl fr)), (a4, .inl (cI, 8, .inl (gl [o0, o1, o2, o3, (-1), (-1), (-1), (-1)]))), (a5, .inl (cI, 5, .inl (gl [(-1), (-1), (-1), (-1), (-1)]))), (a6, .inl (cI, 4000, .inl fb))]) [2, 3, 1, 4, 0, 5] (by decide) rfl
      exact W.iret (v := (-2)) hx hb hr (fun t ht hW => ⟨⟨(-2), (), rfl, e_0.symm, by rw [ht, e_1, e_2, e_3, e_4, e_5, e_6, e_7, e_8, e_9]; exact hP9, va_K.moved hW.alike hK, (by rw [e_1, e_2, e_3, e_4, e_5, e_6, e_7, e_8, e_9]; exact hD9)⟩, hS.F ht⟩) hS.2.2 dX2_gather_100

def pfX7_reap_g_x_10 (tl : Int32) (m2 : Int32) (m3 : Int32) (m5 : Int32) (m13 : Int32) (o0 : Int32) (o1 : Int32) (o2 : Int32) (o3 : Int32) (fr : Nat → Int32) (fb : Nat → Int32) : Int32 := if (pfX2_gather_g_r m2 m3 m5 o0 o1 o2 o3 fr fb) < 0 then tl else (pfX2_gather_g_a0_13 m2 m3 m5 m13 o0 o1 o2 o3 fr fb)
set_option maxHeartbeats 4000000 in
set_option maxRecDepth 100000 in
theorem kkX7_reap_g (l : Launch) (dC : Nat → ClassId) (dI : Nat → Nat → Nat) (cI cB cZ cR : ClassId) (sz : Nat) (x : Nat) (xt : Nat) (xd : Nat) (h : Nat) (xk : Nat) (xl : Nat) (xw : Nat) (xp : Nat) (xs : Nat) (xr : Nat) (tl : Int32) (sd : Int32) (a0 : Nat) (a1 : Nat) (a2 : Nat) (a3 : Nat) (a4 : Nat) (a5 : Nat) (a6 : Nat) (m0 : Int32) (m1 : Int32) (m2 : Int32) (m3 : Int32) (m4 : Int32) (m5 : Int32) (m6 : Int32) (m7 : Int32) (m8 : Int32) (m9 : Int32) (m13 : Int32) (m14 : Int32) (m15 : Int32) (o0 : Int32) (o1 : Int32) (o2 : Int32) (o3 : Int32) (fr : Nat → Int32) (fb : Nat → Int32) : Met l yX7_reap (.code yX7_reap cX7_reap 2 (some .int) :: wsL_law) ({ frames := 4, cells := 0, slots := 0, locals := 87 }) (zPc dC dI (zT cI cB cZ cR) [.ref x] sz [(x, .inr (7, [.ref xt, .ref xd, .ref h, .ref xk, .ref xl, .ref xw, .ref xp, .ref xs, .ref xr, .int 0, .int tl, .int sd, .null])), (h, .inr (2, [.ref a0, .ref a1, .ref a2, .ref a3, .ref a4, .ref a5, .ref a6])), (a0, .inl (cI, 22, .inl (gl [m0, m1, m2, m3, m4, m5, m6, m7, m8, m9, 0, 0, (-1), m13, m14, m15, 0, 0, 0, 4, 0, 16]))), (a3, .inl (cI, 24, .inl fr)), (a4, .inl (cI, 8, .inl (gl [o0, o1, o2, o3, (-1), (-1), (-1), (-1)]))), (a5, .inl (cI, 5, .inl (gl [(-1), (-1), (-1), (-1), (-1)]))), (a6, .inl (cI, 4000, .inl fb))]) (va_Qi (fun (r : Int32) (_ : Unit) => r = (pfX2_gather_g_r m2 m3 m5 o0 o1 o2 o3 fr fb)) (fun _ : Unit => zB dC dI (zT cI cB cZ cR) (va_A [(x, .inr (7, [.ref xt, .ref xd, .ref h, .ref xk, .ref xl, .ref xw, .ref xp, .ref xs, .ref xr, .int 0, .int tl, .int sd, .null])), (h, .inr (2, [.ref a0, .ref a1, .ref a2, .ref a3, .ref a4, .ref a5, .ref a6])), (a0, .inl (cI, 22, .inl (gl [m0, m1, m2, m3, m4, m5, m6, m7, m8, m9, 0, 0, (-1), m13, m14, m15, 0, 0, 0, 4, 0, 16]))), (a3, .inl (cI, 24, .inl fr)), (a4, .inl (cI, 8, .inl (gl [o0, o1, o2, o3, (-1), (-1), (-1), (-1)]))), (a5, .inl (cI, 5, .inl (gl [(-1), (-1), (-1), (-1), (-1)]))), (a6, .inl (cI, 4000, .inl fb))] sz) [(x, .inr (7, [.ref xt, .ref xd, .ref h, .ref xk, .ref xl, .ref xw, .ref xp, .ref xs, .ref xr, .int 0, .int (pfX7_reap_g_x_10 tl m2 m3 m5 m13 o0 o1 o2 o3 fr fb), .int sd, .null])), (h, .inr (2, [.ref a0, .ref a1, .ref a2, .ref a3, .ref a4, .ref a5, .ref a6])), (a0, .inl (cI, 22, .inl (gl [m0, m1, m2, (pfX2_gather_g_a0_3 m2 m3 m5 o0 o1 o2 o3 fr fb), (pfX2_gather_g_a0_4 m2 m3 m4 m5 o0 o1 o2 o3 fr fb), m5, (pfX2_gather_g_a0_6 m2 m3 m5 m6 o0 o1 o2 o3 fr fb), m7, m8, m9, 0, 0, (-1), (pfX2_gather_g_a0_13 m2 m3 m5 m13 o0 o1 o2 o3 fr fb), m14, m15, 0, 0, 0, 4, 0, 16]))), (a3, .inl (cI, 24, .inl fr)), (a4, .inl (cI, 8, .inl (gl [(pfX2_gather_g_a4_0 m2 m3 m5 o0 o1 o2 o3 fr fb), (pfX2_gather_g_a4_1 m2 m3 m5 o0 o1 o2 o3 fr fb), (pfX2_gather_g_a4_2 m2 m3 m5 o0 o1 o2 o3 fr fb), (pfX2_gather_g_a4_3 m2 m3 m5 o0 o1 o2 o3 fr fb), (-1), (-1), (-1), (-1)]))), (a5, .inl (cI, 5, .inl (gl [(-1), (-1), (-1), (-1), (-1)]))), (a6, .inl (cI, 4000, .inl (pfX2_gather_g_a6_f m2 m3 m5 o0 o1 o2 o3 fr fb)))]) (va_A [(x, .inr (7, [.ref xt, .ref xd, .ref h, .ref xk, .ref xl, .ref xw, .ref xp, .ref xs, .ref xr, .int 0, .int tl, .int sd, .null])), (h, .inr (2, [.ref a0, .ref a1, .ref a2, .ref a3, .ref a4, .ref a5, .ref a6])), (a0, .inl (cI, 22, .inl (gl [m0, m1, m2, m3, m4, m5, m6, m7, m8, m9, 0, 0, (-1), m13, m14, m15, 0, 0, 0, 4, 0, 16]))), (a3, .inl (cI, 24, .inl fr)), (a4, .inl (cI, 8, .inl (gl [o0, o1, o2, o3, (-1), (-1), (-1), (-1)]))), (a5, .inl (cI, 5, .inl (gl [(-1), (-1), (-1), (-1), (-1)]))), (a6, .inl (cI, 4000, .inl fb))] sz)) 0 0 (va_A [(x, .inr (7, [.ref xt, .ref xd, .ref h, .ref xk, .ref xl, .ref xw, .ref xp, .ref xs, .ref xr, .int 0, .int tl, .int sd, .null])), (h, .inr (2, [.ref a0, .ref a1, .ref a2, .ref a3, .ref a4, .ref a5, .ref a6])), (a0, .inl (cI, 22, .inl (gl [m0, m1, m2, m3, m4, m5, m6, m7, m8, m9, 0, 0, (-1), m13, m14, m15, 0, 0, 0, 4, 0, 16]))), (a3, .inl (cI, 24, .inl fr)), (a4, .inl (cI, 8, .inl (gl [o0, o1, o2, o3, (-1), (-1), (-1), (-1)]))), (a5, .inl (cI, 5, .inl (gl [(-1), (-1), (-1), (-1), (-1)]))), (a6, .inl (cI, 4000, .inl fb))] sz) := by
  refine Met.ofW (cc := cX7_reap) (maxL := 2) (ret := (some .int)) (by decide) rfl ?_
  intro p e s m args below meth c s₁ B hml hv
  obtain ⟨rfl, hsz, hP, hK, hD0, hN⟩ := hv
  have hx := B.exec
  have hb := B.bytes
  have hr := B.returns
  have hts := atoms_spec (ws := (.code yX7_reap cX7_reap 2 (some .int) :: wsL_law)) B.pre
  have hown : s.vm.findClass RX7 = some m.cls := findClass_of_methodNamed B.named
  have hlocks := B.notSynchronized
  have hinX7 : ∀ w ∈ u_ws RX7 TX7 13, w ∈ (.code yX7_reap cX7_reap 2 (some .int) :: wsL_law) := fun w h => List.mem_cons_of_mem _ (inlX7 w h)
  have k_0 := hts (.fieldLink RX7 26 "RingMarks" "ring" "LRingMarks$Ring;") (List.mem_cons_of_mem _ wm_23)
  have k_1 := hts (.fieldLink RX7 66 "RingMarks" "toldLength" "I") (List.mem_cons_of_mem _ wm_41)
  subst hsz
  have hD := hD0.self (sz := s.heap.size)
  generalize hAe : va_A [(x, .inr (7, [.ref xt, .ref xd, .ref h, .ref xk, .ref xl, .ref xw, .ref xp, .ref xs, .ref xr, .int 0, .int tl, .int sd, .null])), (h, .inr (2, [.ref a0, .ref a1, .ref a2, .ref a3, .ref a4, .ref a5, .ref a6])), (a0, .inl (cI, 22, .inl (gl [m0, m1, m2, m3, m4, m5, m6, m7, m8, m9, 0, 0, (-1), m13, m14, m15, 0, 0, 0, 4, 0, 16]))), (a3, .inl (cI, 24, .inl fr)), (a4, .inl (cI, 8, .inl (gl [o0, o1, o2, o3, (-1), (-1), (-1), (-1)]))), (a5, .inl (cI, 5, .inl (gl [(-1), (-1), (-1), (-1), (-1)]))), (a6, .inl (cI, 4000, .inl fb))] s.heap.size = A at hD ⊢
  have hA : ∀ q : Nat, s.heap.size ≤ q → A q := fun q h => by rw [← hAe]; exact Or.inr h
  have hP : va_P (dC, dI) vwCl [(x, .inr (7, [.ref xt, .ref xd, .ref h, .ref xk, .ref xl, .ref xw, .ref xp, .ref xs, .ref xr, .int 0, .int tl, .int sd, .null])), (h, .inr (2, [.ref a0, .ref a1, .ref a2, .ref a3, .ref a4, .ref a5, .ref a6])), (a0, .inl (cI, 22, .inl (gl [m0, m1, m2, m3, m4, m5, m6, m7, m8, m9, 0, 0, (-1), m13, m14, m15, 0, 0, 0, 4, 0, 16]))), (a3, .inl (cI, 24, .inl fr)), (a4, .inl (cI, 8, .inl (gl [o0, o1, o2, o3, (-1), (-1), (-1), (-1)]))), (a5, .inl (cI, 5, .inl (gl [(-1), (-1), (-1), (-1), (-1)]))), (a6, .inl (cI, 4000, .inl fb))] s.heap := hP
  have hl := lv_entry ([.ref x]) (n := 2) (Nat.le_of_ble_eq_true rfl)
  rw [lg_entry_eq]
  generalize (lg_sl ([.ref x]) ++ List.replicate (2 - (lg_sl ([.ref x])).length) Slot.unset).toArray = ls at hl ⊢
  have hl : lv_has ls 2 [(0, .ref x)] := hl
  obtain ⟨H, hH⟩ : ∃ H, H = s.heap := ⟨_, rfl⟩
  rw [← hH] at hP ⊢
  have hS : va_S A s.heap H [] := by rw [hH]; exact va_S.rf
  refine lv_aload_n hx hb dX7_reap_0 rfl (lv_at hl 0 rfl) ?_
  refine va_get (D := (dC, dI)) (ci := 7) (v := .ref h) (C := RX7) (T := TX7) (N := 13) hx hb hts hinX7 hown hK hP 0 rfl rfl 2 (by decide) k_0 (fun _ h9 => h9) rfl dX7_reap_1 ?_
  refine zcVi (As := []) (rest := []) (wr := [(x, .inr (7, [.ref xt, .ref xd, .ref h, .ref xk, .ref xl, .ref xw, .ref xp, .ref xs, .ref xr, .int 0, .int tl, .int sd, .null]))]) ⟨hx, hb, hml, hown, hts⟩ (kkX2_gather_g l dC dI cI cB cZ cR H.size h a0 a1 a2 a3 a4 a5 a6 m0 m1 m2 m3 m4 m5 m6 m7 m8 m9 m13 m14 m15 o0 o1 o2 o3 fr fb ) (cwV 0 hts (zgV wm_604 wm_605 wm_606 wm_22 wm_607) rfl rfl rfl (by decide +kernel) ⟨Nat.le_of_ble_eq_true rfl, Nat.le_of_ble_eq_true rfl⟩) hN hK hP hD hS hA [1, 2, 3, 4, 5, 6] [0] rfl rfl ⟨rfl, rfl⟩ (by decide) (ci := 2) rfl rfl rfl rfl hl.1 rfl (Nat.le_of_ble_eq_true rfl) dX7_reap_4 ⟨Nat.le_of_ble_eq_true rfl, Nat.le_of_ble_eq_true rfl⟩ (fun r u hu H locs hP hD hS => ?_)
  have hu : r = (pfX2_gather_g_r m2 m3 m5 o0 o1 o2 o3 fr fb) := hu
  subst hu
  have hP : va_P (dC, dI) vwCl [(x, .inr (7, [.ref xt, .ref xd, .ref h, .ref xk, .ref xl, .ref xw, .ref xp, .ref xs, .ref xr, .int 0, .int tl, .int sd, .null])), (h, .inr (2, [.ref a0, .ref a1, .ref a2, .ref a3, .ref a4, .ref a5, .ref a6])), (a0, .inl (cI, 22, .inl (gl [m0, m1, m2, (pfX2_gather_g_a0_3 m2 m3 m5 o0 o1 o2 o3 fr fb), (pfX2_gather_g_a0_4 m2 m3 m4 m5 o0 o1 o2 o3 fr fb), m5, (pfX2_gather_g_a0_6 m2 m3 m5 m6 o0 o1 o2 o3 fr fb), m7, m8, m9, 0, 0, (-1), (pfX2_gather_g_a0_13 m2 m3 m5 m13 o0 o1 o2 o3 fr fb), m14, m15, 0, 0, 0, 4, 0, 16]))), (a3, .inl (cI, 24, .inl fr)), (a4, .inl (cI, 8, .inl (gl [(pfX2_gather_g_a4_0 m2 m3 m5 o0 o1 o2 o3 fr fb), (pfX2_gather_g_a4_1 m2 m3 m5 o0 o1 o2 o3 fr fb), (pfX2_gather_g_a4_2 m2 m3 m5 o0 o1 o2 o3 fr fb), (pfX2_gather_g_a4_3 m2 m3 m5 o0 o1 o2 o3 fr fb), (-1), (-1), (-1), (-1)]))), (a5, .inl (cI, 5, .inl (gl [(-1), (-1), (-1), (-1), (-1)]))), (a6, .inl (cI, 4000, .inl (pfX2_gather_g_a6_f m2 m3 m5 o0 o1 o2 o3 fr fb)))] H := hP
  have hD : va_D A [(x, .inr (7, [.ref xt, .ref xd, .ref h, .ref xk, .ref xl, .ref xw, .ref xp, .ref xs, .ref xr, .int 0, .int tl, .int sd, .null])), (h, .inr (2, [.ref a0, .ref a1, .ref a2, .ref a3, .ref a4, .ref a5, .ref a6])), (a0, .inl (cI, 22, .inl (gl [m0, m1, m2, (pfX2_gather_g_a0_3 m2 m3 m5 o0 o1 o2 o3 fr fb), (pfX2_gather_g_a0_4 m2 m3 m4 m5 o0 o1 o2 o3 fr fb), m5, (pfX2_gather_g_a0_6 m2 m3 m5 m6 o0 o1 o2 o3 fr fb), m7, m8, m9, 0, 0, (-1), (pfX2_gather_g_a0_13 m2 m3 m5 m13 o0 o1 o2 o3 fr fb), m14, m15, 0, 0, 0, 4, 0, 16]))), (a3, .inl (cI, 24, .inl fr)), (a4, .inl (cI, 8, .inl (gl [(pfX2_gather_g_a4_0 m2 m3 m5 o0 o1 o2 o3 fr fb), (pfX2_gather_g_a4_1 m2 m3 m5 o0 o1 o2 o3 fr fb), (pfX2_gather_g_a4_2 m2 m3 m5 o0 o1 o2 o3 fr fb), (pfX2_gather_g_a4_3 m2 m3 m5 o0 o1 o2 o3 fr fb), (-1), (-1), (-1), (-1)]))), (a5, .inl (cI, 5, .inl (gl [(-1), (-1), (-1), (-1), (-1)]))), (a6, .inl (cI, 4000, .inl (pfX2_gather_g_a6_f m2 m3 m5 o0 o1 o2 o3 fr fb)))] := hD
  refine lv_istore_n (lv' := [(1, .int (pfX2_gather_g_r m2 m3 m5 o0 o1 o2 o3 fr fb)), (0, .ref x)]) hx hb dX7_reap_7 rfl hl (by decide) rfl (fun ls hl => ?_)
  refine lv_iload_n hx hb dX7_reap_8 rfl (lv_at hl 0 rfl) ?_
  refine lv_if_lt (tgt := 23) hx hb dX7_reap_9 (by decide) (fun c_1 => ?_) (fun c_1 => ?_)
  · refine lv_iload_n hx hb dX7_reap_23 rfl (lv_at hl 0 rfl) ?_
    have e_0 : (pfX7_reap_g_x_10 tl m2 m3 m5 m13 o0 o1 o2 o3 fr fb) = tl := by rw [pfX7_reap_g_x_10, if_pos c_1]
    have hP9 := hP.sub (ws' := [(x, .inr (7, [.ref xt, .ref xd, .ref h, .ref xk, .ref xl, .ref xw, .ref xp, .ref xs, .ref xr, .int 0, .int tl, .int sd, .null])), (h, .inr (2, [.ref a0, .ref a1, .ref a2, .ref a3, .ref a4, .ref a5, .ref a6])), (a0, .inl (cI, 22, .inl (gl [m0, m1, m2, (pfX2_gather_g_a0_3 m2 m3 m5 o0 o1 o2 o3 fr fb), (pfX2_gather_g_a0_4 m2 m3 m4 m5 o0 o1 o2 o3 fr fb), m5, (pfX2_gather_g_a0_6 m2 m3 m5 m6 o0 o1 o2 o3 fr fb), m7, m8, m9, 0, 0, (-1), (pfX2_gather_g_a0_13 m2 m3 m5 m13 o0 o1 o2 o3 fr fb), m14, m15, 0, 0, 0, 4, 0, 16]))), (a3, .inl (cI, 24, .inl fr)), (a4, .inl (cI, 8, .inl (gl [(pfX2_gather_g_a4_0 m2 m3 m5 o0 o1 o2 o3 fr fb), (pfX2_gather_g_a4_1 m2 m3 m5 o0 o1 o2 o3 fr fb), (pfX2_gather_g_a4_2 m2 m3 m5 o0 o1 o2 o3 fr fb), (pfX2_gather_g_a4_3 m2 m3 m5 o0 o1 o2 o3 fr fb), (-1), (-1), (-1), (-1)]))), (a5, .inl (cI, 5, .inl (gl [(-1), (-1), (-1), (-1), (-1)]))), (a6, .inl (cI, 4000, .inl (pfX2_gather_g_a6_f m2 m3 m5 o0 o1 o2 o3 fr fb)))]) [0, 1, 2, 3, 4, 5, 6] rfl
    have hD9 := hD.sub (ws' := [(x, .inr (7, [.ref xt, .ref xd, .ref h, .ref xk, .ref xl, .ref xw, .ref xp, .ref xs, .ref xr, .int 0, .int tl, .int sd, .null])), (h, .inr (2, [.ref a0, .ref a1, .ref a2, .ref a3, .ref a4, .ref a5, .ref a6])), (a0, .inl (cI, 22, .inl (gl [m0, m1, m2, (pfX2_gather_g_a0_3 m2 m3 m5 o0 o1 o2 o3 fr fb), (pfX2_gather_g_a0_4 m2 m3 m4 m5 o0 o1 o2 o3 fr fb), m5, (pfX2_gather_g_a0_6 m2 m3 m5 m6 o0 o1 o2 o3 fr fb), m7, m8, m9, 0, 0, (-1), (pfX2_gather_g_a0_13 m2 m3 m5 m13 o0 o1 o2 o3 fr fb), m14, m15, 0, 0, 0, 4, 0, 16]))), (a3, .inl (cI, 24, .inl fr)), (a4, .inl (cI, 8, .inl (gl [(pfX2_gather_g_a4_0 m2 m3 m5 o0 o1 o2 o3 fr fb), (pfX2_gather_g_a4_1 m2 m3 m5 o0 o1 o2 o3 fr fb), (pfX2_gather_g_a4_2 m2 m3 m5 o0 o1 o2 o3 fr fb), (pfX2_gather_g_a4_3 m2 m3 m5 o0 o1 o2 o3 fr fb), (-1), (-1), (-1), (-1)]))), (a5, .inl (cI, 5, .inl (gl [(-1), (-1), (-1), (-1), (-1)]))), (a6, .inl (cI, 4000, .inl (pfX2_gather_g_a6_f m2 m3 m5 o0 o1 o2 o3 fr fb)))]) [0, 1, 2, 3, 4, 5, 6] (by decide) rfl
    exact W.iret (v := (pfX2_gather_g_r m2 m3 m5 o0 o1 o2 o3 fr fb)) hx hb hr (fun t ht hW => ⟨⟨(pfX2_gather_g_r m2 m3 m5 o0 o1 o2 o3 fr fb), (), rfl, rfl, by rw [ht, e_0]; exact hP9, va_K.moved hW.alike hK, (by rw [e_0]; exact hD9)⟩, hS.F ht⟩) hS.2.2 dX7_reap_24
  · refine lv_aload_n hx hb dX7_reap_12 rfl (lv_at hl 1 rfl) ?_
    refine lv_aload_n hx hb dX7_reap_13 rfl (lv_at hl 1 rfl) ?_
    refine va_get (D := (dC, dI)) (ci := 7) (v := .ref h) (C := RX7) (T := TX7) (N := 13) hx hb hts hinX7 hown hK hP 0 rfl rfl 2 (by decide) k_0 (fun _ h9 => h9) rfl dX7_reap_14 ?_
    refine zcVi (As := []) (rest := [.ref x]) (wr := [(x, .inr (7, [.ref xt, .ref xd, .ref h, .ref xk, .ref xl, .ref xw, .ref xp, .ref xs, .ref xr, .int 0, .int tl, .int sd, .null])), (a3, .inl (cI, 24, .inl fr)), (a4, .inl (cI, 8, .inl (gl [(pfX2_gather_g_a4_0 m2 m3 m5 o0 o1 o2 o3 fr fb), (pfX2_gather_g_a4_1 m2 m3 m5 o0 o1 o2 o3 fr fb), (pfX2_gather_g_a4_2 m2 m3 m5 o0 o1 o2 o3 fr fb), (pfX2_gather_g_a4_3 m2 m3 m5 o0 o1 o2 o3 fr fb), (-1), (-1), (-1), (-1)]))), (a5, .inl (cI, 5, .inl (gl [(-1), (-1), (-1), (-1), (-1)]))), (a6, .inl (cI, 4000, .inl (pfX2_gather_g_a6_f m2 m3 m5 o0 o1 o2 o3 fr fb)))]) ⟨hx, hb, hml, hown, hts⟩ (kkX2_lengthGathered l dC dI cI cB cZ cR H.size h a0 a1 a2 a3 a4 a5 a6 m0 m1 m2 (pfX2_gather_g_a0_3 m2 m3 m5 o0 o1 o2 o3 fr fb) (pfX2_gather_g_a0_4 m2 m3 m4 m5 o0 o1 o2 o3 fr fb) m5 (pfX2_gather_g_a0_6 m2 m3 m5 m6 o0 o1 o2 o3 fr fb) m7 m8 m9 (pfX2_gather_g_a0_13 m2 m3 m5 m13 o0 o1 o2 o3 fr fb) m14 m15 ) (cwV 0 hts (zgV wm_616 wm_617 wm_618 wm_22 wm_619) rfl rfl rfl (by decide +kernel) ⟨Nat.le_of_ble_eq_true rfl, Nat.le_of_ble_eq_true rfl⟩) hN hK hP hD hS hA [1, 2] [0, 3, 4, 5, 6] rfl rfl ⟨rfl, rfl⟩ (by decide) (ci := 2) rfl rfl rfl rfl hl.1 rfl (Nat.le_of_ble_eq_true rfl) dX7_reap_17 ⟨Nat.le_of_ble_eq_true rfl, Nat.le_of_ble_eq_true rfl⟩ (fun r u hu H locs hP hD hS => ?_)
    have hu : r = (pfX2_gather_g_a0_13 m2 m3 m5 m13 o0 o1 o2 o3 fr fb) := hu
    subst hu
    have hP : va_P (dC, dI) vwCl [(x, .inr (7, [.ref xt, .ref xd, .ref h, .ref xk, .ref xl, .ref xw, .ref xp, .ref xs, .ref xr, .int 0, .int tl, .int sd, .null])), (a3, .inl (cI, 24, .inl fr)), (a4, .inl (cI, 8, .inl (gl [(pfX2_gather_g_a4_0 m2 m3 m5 o0 o1 o2 o3 fr fb), (pfX2_gather_g_a4_1 m2 m3 m5 o0 o1 o2 o3 fr fb), (pfX2_gather_g_a4_2 m2 m3 m5 o0 o1 o2 o3 fr fb), (pfX2_gather_g_a4_3 m2 m3 m5 o0 o1 o2 o3 fr fb), (-1), (-1), (-1), (-1)]))), (a5, .inl (cI, 5, .inl (gl [(-1), (-1), (-1), (-1), (-1)]))), (a6, .inl (cI, 4000, .inl (pfX2_gather_g_a6_f m2 m3 m5 o0 o1 o2 o3 fr fb))), (h, .inr (2, [.ref a0, .ref a1, .ref a2, .ref a3, .ref a4, .ref a5, .ref a6])), (a0, .inl (cI, 22, .inl (gl [m0, m1, m2, (pfX2_gather_g_a0_3 m2 m3 m5 o0 o1 o2 o3 fr fb), (pfX2_gather_g_a0_4 m2 m3 m4 m5 o0 o1 o2 o3 fr fb), m5, (pfX2_gather_g_a0_6 m2 m3 m5 m6 o0 o1 o2 o3 fr fb), m7, m8, m9, 0, 0, (-1), (pfX2_gather_g_a0_13 m2 m3 m5 m13 o0 o1 o2 o3 fr fb), m14, m15, 0, 0, 0, 4, 0, 16])))] H := hP
    have hD : va_D A [(x, .inr (7, [.ref xt, .ref xd, .ref h, .ref xk, .ref xl, .ref xw, .ref xp, .ref xs, .ref xr, .int 0, .int tl, .int sd, .null])), (a3, .inl (cI, 24, .inl fr)), (a4, .inl (cI, 8, .inl (gl [(pfX2_gather_g_a4_0 m2 m3 m5 o0 o1 o2 o3 fr fb), (pfX2_gather_g_a4_1 m2 m3 m5 o0 o1 o2 o3 fr fb), (pfX2_gather_g_a4_2 m2 m3 m5 o0 o1 o2 o3 fr fb), (pfX2_gather_g_a4_3 m2 m3 m5 o0 o1 o2 o3 fr fb), (-1), (-1), (-1), (-1)]))), (a5, .inl (cI, 5, .inl (gl [(-1), (-1), (-1), (-1), (-1)]))), (a6, .inl (cI, 4000, .inl (pfX2_gather_g_a6_f m2 m3 m5 o0 o1 o2 o3 fr fb))), (h, .inr (2, [.ref a0, .ref a1, .ref a2, .ref a3, .ref a4, .ref a5, .ref a6])), (a0, .inl (cI, 22, .inl (gl [m0, m1, m2, (pfX2_gather_g_a0_3 m2 m3 m5 o0 o1 o2 o3 fr fb), (pfX2_gather_g_a0_4 m2 m3 m4 m5 o0 o1 o2 o3 fr fb), m5, (pfX2_gather_g_a0_6 m2 m3 m5 m6 o0 o1 o2 o3 fr fb), m7, m8, m9, 0, 0, (-1), (pfX2_gather_g_a0_13 m2 m3 m5 m13 o0 o1 o2 o3 fr fb), m14, m15, 0, 0, 0, 4, 0, 16])))] := hD
    refine va_put (D := (dC, dI)) (ci := 7) (v := .int (pfX2_gather_g_a0_13 m2 m3 m5 m13 o0 o1 o2 o3 fr fb)) (ty := tyX7 10) (C := RX7) (T := TX7) (N := 13) hx hb hts hinX7 tyX7 tyX7_ok nmX7 hown hK hP hD hS 0 rfl rfl 10 (by decide) k_1 (fun _ h9 => h9) rfl (by decide +kernel) rfl rfl (Nat.le_of_ble_eq_true rfl) dX7_reap_20 (fun H locs hP hD hS => ?_)
    have hP : va_P (dC, dI) vwCl [(x, .inr (7, [.ref xt, .ref xd, .ref h, .ref xk, .ref xl, .ref xw, .ref xp, .ref xs, .ref xr, .int 0, .int (pfX2_gather_g_a0_13 m2 m3 m5 m13 o0 o1 o2 o3 fr fb), .int sd, .null])), (a3, .inl (cI, 24, .inl fr)), (a4, .inl (cI, 8, .inl (gl [(pfX2_gather_g_a4_0 m2 m3 m5 o0 o1 o2 o3 fr fb), (pfX2_gather_g_a4_1 m2 m3 m5 o0 o1 o2 o3 fr fb), (pfX2_gather_g_a4_2 m2 m3 m5 o0 o1 o2 o3 fr fb), (pfX2_gather_g_a4_3 m2 m3 m5 o0 o1 o2 o3 fr fb), (-1), (-1), (-1), (-1)]))), (a5, .inl (cI, 5, .inl (gl [(-1), (-1), (-1), (-1), (-1)]))), (a6, .inl (cI, 4000, .inl (pfX2_gather_g_a6_f m2 m3 m5 o0 o1 o2 o3 fr fb))), (h, .inr (2, [.ref a0, .ref a1, .ref a2, .ref a3, .ref a4, .ref a5, .ref a6])), (a0, .inl (cI, 22, .inl (gl [m0, m1, m2, (pfX2_gather_g_a0_3 m2 m3 m5 o0 o1 o2 o3 fr fb), (pfX2_gather_g_a0_4 m2 m3 m4 m5 o0 o1 o2 o3 fr fb), m5, (pfX2_gather_g_a0_6 m2 m3 m5 m6 o0 o1 o2 o3 fr fb), m7, m8, m9, 0, 0, (-1), (pfX2_gather_g_a0_13 m2 m3 m5 m13 o0 o1 o2 o3 fr fb), m14, m15, 0, 0, 0, 4, 0, 16])))] H := hP
    have hD : va_D A [(x, .inr (7, [.ref xt, .ref xd, .ref h, .ref xk, .ref xl, .ref xw, .ref xp, .ref xs, .ref xr, .int 0, .int (pfX2_gather_g_a0_13 m2 m3 m5 m13 o0 o1 o2 o3 fr fb), .int sd, .null])), (a3, .inl (cI, 24, .inl fr)), (a4, .inl (cI, 8, .inl (gl [(pfX2_gather_g_a4_0 m2 m3 m5 o0 o1 o2 o3 fr fb), (pfX2_gather_g_a4_1 m2 m3 m5 o0 o1 o2 o3 fr fb), (pfX2_gather_g_a4_2 m2 m3 m5 o0 o1 o2 o3 fr fb), (pfX2_gather_g_a4_3 m2 m3 m5 o0 o1 o2 o3 fr fb), (-1), (-1), (-1), (-1)]))), (a5, .inl (cI, 5, .inl (gl [(-1), (-1), (-1), (-1), (-1)]))), (a6, .inl (cI, 4000, .inl (pfX2_gather_g_a6_f m2 m3 m5 o0 o1 o2 o3 fr fb))), (h, .inr (2, [.ref a0, .ref a1, .ref a2, .ref a3, .ref a4, .ref a5, .ref a6])), (a0, .inl (cI, 22, .inl (gl [m0, m1, m2, (pfX2_gather_g_a0_3 m2 m3 m5 o0 o1 o2 o3 fr fb), (pfX2_gather_g_a0_4 m2 m3 m4 m5 o0 o1 o2 o3 fr fb), m5, (pfX2_gather_g_a0_6 m2 m3 m5 m6 o0 o1 o2 o3 fr fb), m7, m8, m9, 0, 0, (-1), (pfX2_gather_g_a0_13 m2 m3 m5 m13 o0 o1 o2 o3 fr fb), m14, m15, 0, 0, 0, 4, 0, 16])))] := hD
    refine lv_iload_n hx hb dX7_reap_23 rfl (lv_at hl 0 rfl) ?_
    have e_0 : (pfX7_reap_g_x_10 tl m2 m3 m5 m13 o0 o1 o2 o3 fr fb) = (pfX2_gather_g_a0_13 m2 m3 m5 m13 o0 o1 o2 o3 fr fb) := by rw [pfX7_reap_g_x_10, if_neg c_1]
    have hP9 := hP.sub (ws' := [(x, .inr (7, [.ref xt, .ref xd, .ref h, .ref xk, .ref xl, .ref xw, .ref xp, .ref xs, .ref xr, .int 0, .int (pfX2_gather_g_a0_13 m2 m3 m5 m13 o0 o1 o2 o3 fr fb), .int sd, .null])), (h, .inr (2, [.ref a0, .ref a1, .ref a2, .ref a3, .ref a4, .ref a5, .ref a6])), (a0, .inl (cI, 22, .inl (gl [m0, m1, m2, (pfX2_gather_g_a0_3 m2 m3 m5 o0 o1 o2 o3 fr fb), (pfX2_gather_g_a0_4 m2 m3 m4 m5 o0 o1 o2 o3 fr fb), m5, (pfX2_gather_g_a0_6 m2 m3 m5 m6 o0 o1 o2 o3 fr fb), m7, m8, m9, 0, 0, (-1), (pfX2_gather_g_a0_13 m2 m3 m5 m13 o0 o1 o2 o3 fr fb), m14, m15, 0, 0, 0, 4, 0, 16]))), (a3, .inl (cI, 24, .inl fr)), (a4, .inl (cI, 8, .inl (gl [(pfX2_gather_g_a4_0 m2 m3 m5 o0 o1 o2 o3 fr fb), (pfX2_gather_g_a4_1 m2 m3 m5 o0 o1 o2 o3 fr fb), (pfX2_gather_g_a4_2 m2 m3 m5 o0 o1 o2 o3 fr fb), (pfX2_gather_g_a4_3 m2 m3 m5 o0 o1 o2 o3 fr fb), (-1), (-1), (-1), (-1)]))), (a5, .inl (cI, 5, .inl (gl [(-1), (-1), (-1), (-1), (-1)]))), (a6, .inl (cI, 4000, .inl (pfX2_gather_g_a6_f m2 m3 m5 o0 o1 o2 o3 fr fb)))]) [0, 5, 6, 1, 2, 3, 4] rfl
    have hD9 := hD.sub (ws' := [(x, .inr (7, [.ref xt, .ref xd, .ref h, .ref xk, .ref xl, .ref xw, .ref xp, .ref xs, .ref xr, .int 0, .int (pfX2_gather_g_a0_13 m2 m3 m5 m13 o0 o1 o2 o3 fr fb), .int sd, .null])), (h, .inr (2, [.ref a0, .ref a1, .ref a2, .ref a3, .ref a4, .ref a5, .ref a6])), (a0, .inl (cI, 22, .inl (gl [m0, m1, m2, (pfX2_gather_g_a0_3 m2 m3 m5 o0 o1 o2 o3 fr fb), (pfX2_gather_g_a0_4 m2 m3 m4 m5 o0 o1 o2 o3 fr fb), m5, (pfX2_gather_g_a0_6 m2 m3 m5 m6 o0 o1 o2 o3 fr fb), m7, m8, m9, 0, 0, (-1), (pfX2_gather_g_a0_13 m2 m3 m5 m13 o0 o1 o2 o3 fr fb), m14, m15, 0, 0, 0, 4, 0, 16]))), (a3, .inl (cI, 24, .inl fr)), (a4, .inl (cI, 8, .inl (gl [(pfX2_gather_g_a4_0 m2 m3 m5 o0 o1 o2 o3 fr fb), (pfX2_gather_g_a4_1 m2 m3 m5 o0 o1 o2 o3 fr fb), (pfX2_gather_g_a4_2 m2 m3 m5 o0 o1 o2 o3 fr fb), (pfX2_gather_g_a4_3 m2 m3 m5 o0 o1 o2 o3 fr fb), (-1), (-1), (-1), (-1)]))), (a5, .inl (cI, 5, .inl (gl [(-1), (-1), (-1), (-1), (-1)]))), (a6, .inl (cI, 4000, .inl (pfX2_gather_g_a6_f m2 m3 m5 o0 o1 o2 o3 fr fb)))]) [0, 5, 6, 1, 2, 3, 4] (by decide) rfl
    exact W.iret (v := (pfX2_gather_g_r m2 m3 m5 o0 o1 o2 o3 fr fb)) hx hb hr (fun t ht hW => ⟨⟨(pfX2_gather_g_r m2 m3 m5 o0 o1 o2 o3 fr fb), (), rfl, rfl, by rw [ht, e_0]; exact hP9, va_K.moved hW.alike hK, (by rw [e_0]; exact hD9)⟩, hS.F ht⟩) hS.2.2 dX7_reap_24

def pfX2_isNoticeDue_g_r (p1 : Int32) (p2 : Int32) : Int32 := if p1 = p2 then 0 else 1
set_option maxHeartbeats 4000000 in
set_option maxRecDepth 100000 in
theorem kkX2_isNoticeDue_g (l : Launch) (dC : Nat → ClassId) (dI : Nat → Nat → Nat) (cI cB cZ cR : ClassId) (sz : Nat) (h : Nat) (a0 : Nat) (a1 : Nat) (a2 : Nat) (a3 : Nat) (a4 : Nat) (a5 : Nat) (a6 : Nat) (m0 : Int32) (m1 : Int32) (m2 : Int32) (m3 : Int32) (m4 : Int32) (m5 : Int32) (m6 : Int32) (m7 : Int32) (m8 : Int32) (m9 : Int32) (m10 : Int32) (m11 : Int32) (m12 : Int32) (m13 : Int32) (m14 : Int32) (m15 : Int32) (m16 : Int32) (m17 : Int32) (p1 : Int32) (p2 : Int32) : Met l yX2_isNoticeDue (.code yX2_isNoticeDue cX2_isNoticeDue 5 (some .boolean) :: wsL_law) ({ frames := 1, cells := 0, slots := 0, locals := 21 }) (zPc dC dI (zT cI cB cZ cR) [.ref h, .int p1, .int p2, .int 0, .int 0] sz [(h, .inr (2, [.ref a0, .ref a1, .ref a2, .ref a3, .ref a4, .ref a5, .ref a6])), (a0, .inl (cI, 22, .inl (gl [m0, m1, m2, m3, m4, m5, m6, m7, m8, m9, m10, m11, m12, m13, m14, m15, m16, m17, 0, 4, 0, 16])))]) (va_Qi (fun (r : Int32) (_ : Unit) => r = (pfX2_isNoticeDue_g_r p1 p2)) (fun _ : Unit => zB dC dI (zT cI cB cZ cR) (va_A [(h, .inr (2, [.ref a0, .ref a1, .ref a2, .ref a3, .ref a4, .ref a5, .ref a6])), (a0, .inl (cI, 22, .inl (gl [m0, m1, m2, m3, m4, m5, m6, m7, m8, m9, m10, m11, m12, m13, m14, m15, m16, m17, 0, 4, 0, 16])))] sz) [(h, .inr (2, [.ref a0, .ref a1, .ref a2, .ref a3, .ref a4, .ref a5, .ref a6])), (a0, .inl (cI, 22, .inl (gl [m0, m1, m2, m3, m4, m5, m6, m7, m8, m9, m10, m11, m12, m13, m14, m15, m16, m17, 0, 4, 0, 16])))]) (va_A [(h, .inr (2, [.ref a0, .ref a1, .ref a2, .ref a3, .ref a4, .ref a5, .ref a6])), (a0, .inl (cI, 22, .inl (gl [m0, m1, m2, m3, m4, m5, m6, m7, m8, m9, m10, m11, m12, m13, m14, m15, m16, m17, 0, 4, 0, 16])))] sz)) 0 0 (va_A [(h, .inr (2, [.ref a0, .ref a1, .ref a2, .ref a3, .ref a4, .ref a5, .ref a6])), (a0, .inl (cI, 22, .inl (gl [m0, m1, m2, m3, m4, m5, m6, m7, m8, m9, m10, m11, m12, m13, m14, m15, m16, m17, 0, 4, 0, 16])))] sz) := by
  refine Met.ofW (cc := cX2_isNoticeDue) (maxL := 5) (ret := (some .boolean)) (by decide) rfl ?_
  intro p e s m args below meth c s₁ B hml hv
  obtain ⟨rfl, hsz, hP, hK, hD0, hN⟩ := hv
  have hx := B.exec
  have hb := B.bytes
  have hr := B.returns
  have hts := atoms_spec (ws := (.code yX2_isNoticeDue cX2_isNoticeDue 5 (some .boolean) :: wsL_law)) B.pre
  have hown : s.vm.findClass RX2 = some m.cls := findClass_of_methodNamed B.named
  have hlocks := B.notSynchronized
  subst hsz
  have hD := hD0.self (sz := s.heap.size)
  generalize hAe : va_A [(h, .inr (2, [.ref a0, .ref a1, .ref a2, .ref a3, .ref a4, .ref a5, .ref a6])), (a0, .inl (cI, 22, .inl (gl [m0, m1, m2, m3, m4, m5, m6, m7, m8, m9, m10, m11, m12, m13, m14, m15, m16, m17, 0, 4, 0, 16])))] s.heap.size = A at hD ⊢
  have hA : ∀ q : Nat, s.heap.size ≤ q → A q := fun q h => by rw [← hAe]; exact Or.inr h
  have hP : va_P (dC, dI) vwCl [(h, .inr (2, [.ref a0, .ref a1, .ref a2, .ref a3, .ref a4, .ref a5, .ref a6])), (a0, .inl (cI, 22, .inl (gl [m0, m1, m2, m3, m4, m5, m6, m7, m8, m9, m10, m11, m12, m13, m14, m15, m16, m17, 0, 4, 0, 16])))] s.heap := hP
  have hl := lv_entry ([.ref h, .int p1, .int p2, .int 0, .int 0]) (n := 5) (Nat.le_of_ble_eq_true rfl)
  rw [lg_entry_eq]
  generalize (lg_sl ([.ref h, .int p1, .int p2, .int 0, .int 0]) ++ List.replicate (5 - (lg_sl ([.ref h, .int p1, .int p2, .int 0, .int 0])).length) Slot.unset).toArray = ls at hl ⊢
  have hl : lv_has ls 5 [(0, .ref h), (1, .int p1), (2, .int p2), (3, .int 0), (4, .int 0)] := hl
  obtain ⟨H, hH⟩ : ∃ H, H = s.heap := ⟨_, rfl⟩
  rw [← hH] at hP ⊢
  have hS : va_S A s.heap H [] := by rw [hH]; exact va_S.rf
  refine lv_aload_n hx hb dX2_isNoticeDue_0 rfl (lv_at hl 0 rfl) ?_
  refine lv_iconst (v := 4) hx hb dX2_isNoticeDue_1 (by decide) ?_
  refine zcVi (As := [.int 4]) (rest := []) (wr := []) ⟨hx, hb, hml, hown, hts⟩ (kkX2_hasFeature_4 l dC dI cI cB cZ cR H.size h a0 a1 a2 a3 a4 a5 a6 m0 m1 m2 m3 m4 m5 m6 m7 m8 m9 m10 m11 m12 m13 m14 m15 m16 m17 ) (cwV 1 hts (zgV wm_251 wm_252 wm_253 wm_22 wm_254) rfl rfl rfl (by decide +kernel) ⟨Nat.le_of_ble_eq_true rfl, Nat.le_of_ble_eq_true rfl⟩) hN hK hP hD hS hA [0, 1] [] rfl rfl ⟨rfl, rfl⟩ (by decide) (ci := 2) rfl rfl rfl rfl hl.1 rfl (Nat.le_of_ble_eq_true rfl) dX2_isNoticeDue_2 ⟨Nat.le_of_ble_eq_true rfl, Nat.le_of_ble_eq_true rfl⟩ (fun r u hu H locs hP hD hS => ?_)
  have hu : r = 0 := hu
  subst hu
  have hP : va_P (dC, dI) vwCl [(h, .inr (2, [.ref a0, .ref a1, .ref a2, .ref a3, .ref a4, .ref a5, .ref a6])), (a0, .inl (cI, 22, .inl (gl [m0, m1, m2, m3, m4, m5, m6, m7, m8, m9, m10, m11, m12, m13, m14, m15, m16, m17, 0, 4, 0, 16])))] H := hP
  have hD : va_D A [(h, .inr (2, [.ref a0, .ref a1, .ref a2, .ref a3, .ref a4, .ref a5, .ref a6])), (a0, .inl (cI, 22, .inl (gl [m0, m1, m2, m3, m4, m5, m6, m7, m8, m9, m10, m11, m12, m13, m14, m15, m16, m17, 0, 4, 0, 16])))] := hD
  refine lv_if_eq (tgt := 19) hx hb dX2_isNoticeDue_5 (by decide) (fun _ => ?_) (fun c => absurd (by decide) c)
  refine lv_iload_n hx hb dX2_isNoticeDue_19 rfl (lv_at hl 1 rfl) ?_
  refine lv_iload_n hx hb dX2_isNoticeDue_20 rfl (lv_at hl 2 rfl) ?_
  refine lv_icmp_eq (tgt := 33) hx hb dX2_isNoticeDue_21 (by decide) (fun c_1 => ?_) (fun c_1 => ?_)
  · refine lv_iconst (v := 0) hx hb dX2_isNoticeDue_33 (by decide) ?_
    have e_0 : (pfX2_isNoticeDue_g_r p1 p2) = 0 := by rw [pfX2_isNoticeDue_g_r, if_pos c_1]
    have hP9 := hP.sub (ws' := [(h, .inr (2, [.ref a0, .ref a1, .ref a2, .ref a3, .ref a4, .ref a5, .ref a6])), (a0, .inl (cI, 22, .inl (gl [m0, m1, m2, m3, m4, m5, m6, m7, m8, m9, m10, m11, m12, m13, m14, m15, m16, m17, 0, 4, 0, 16])))]) [0, 1] rfl
    have hD9 := hD.sub (ws' := [(h, .inr (2, [.ref a0, .ref a1, .ref a2, .ref a3, .ref a4, .ref a5, .ref a6])), (a0, .inl (cI, 22, .inl (gl [m0, m1, m2, m3, m4, m5, m6, m7, m8, m9, m10, m11, m12, m13, m14, m15, m16, m17, 0, 4, 0, 16])))]) [0, 1] (by decide) rfl
    exact W.zret (v := 0) hx hb hr rfl (fun t ht hW => ⟨⟨0, (), rfl, e_0.symm, by rw [ht]; exact hP9, va_K.moved hW.alike hK, hD9⟩, hS.F ht⟩) hS.2.2 dX2_isNoticeDue_34
  · refine lv_iload hx hb dX2_isNoticeDue_24 (lv_at hl 4 rfl) ?_
    refine lv_if_ne (tgt := 33) hx hb dX2_isNoticeDue_26 (by decide) (fun c => absurd (by decide) c) (fun _ => ?_)
    refine lv_iconst (v := 1) hx hb dX2_isNoticeDue_29 (by decide) ?_
    refine lv_goto (tgt := 34) hx hb dX2_isNoticeDue_30 (by decide) ?_
    have e_0 : (pfX2_isNoticeDue_g_r p1 p2) = 1 := by rw [pfX2_isNoticeDue_g_r, if_neg c_1]
    have hP9 := hP.sub (ws' := [(h, .inr (2, [.ref a0, .ref a1, .ref a2, .ref a3, .ref a4, .ref a5, .ref a6])), (a0, .inl (cI, 22, .inl (gl [m0, m1, m2, m3, m4, m5, m6, m7, m8, m9, m10, m11, m12, m13, m14, m15, m16, m17, 0, 4, 0, 16])))]) [0, 1] rfl
    have hD9 := hD.sub (ws' := [(h, .inr (2, [.ref a0, .ref a1, .ref a2, .ref a3, .ref a4, .ref a5, .ref a6])), (a0, .inl (cI, 22, .inl (gl [m0, m1, m2, m3, m4, m5, m6, m7, m8, m9, m10, m11, m12, m13, m14, m15, m16, m17, 0, 4, 0, 16])))]) [0, 1] (by decide) rfl
    exact W.zret (v := 1) hx hb hr rfl (fun t ht hW => ⟨⟨1, (), rfl, e_0.symm, by rw [ht]; exact hP9, va_K.moved hW.alike hK, hD9⟩, hS.F ht⟩) hS.2.2 dX2_isNoticeDue_34

def pfX2_notifyDevice_g_r (m0 : Int32) (m14 : Int32) : Int32 := if (pfX2_isNoticeDue_g_r m14 m0) = 0 then 0 else 1
def pfX2_notifyDevice_g_a0_8 (m0 : Int32) (m8 : Int32) (m14 : Int32) : Int32 := if (pfX2_isNoticeDue_g_r m14 m0) = 0 then (m8 + 0) else (m8 + 1)
set_option maxHeartbeats 4000000 in
set_option maxRecDepth 100000 in
theorem kkX2_notifyDevice_g (l : Launch) (dC : Nat → ClassId) (dI : Nat → Nat → Nat) (cI cB cZ cR : ClassId) (sz : Nat) (h : Nat) (a0 : Nat) (a1 : Nat) (a2 : Nat) (a3 : Nat) (a4 : Nat) (a5 : Nat) (a6 : Nat) (m0 : Int32) (m1 : Int32) (m2 : Int32) (m3 : Int32) (m4 : Int32) (m5 : Int32) (m6 : Int32) (m7 : Int32) (m8 : Int32) (m9 : Int32) (m13 : Int32) (m14 : Int32) (m15 : Int32) : Met l yX2_notifyDevice (.code yX2_notifyDevice cX2_notifyDevice 2 (some .int) :: wsL_law) ({ frames := 2, cells := 0, slots := 0, locals := 45 }) (zPc dC dI (zT cI cB cZ cR) [.ref h] sz [(h, .inr (2, [.ref a0, .ref a1, .ref a2, .ref a3, .ref a4, .ref a5, .ref a6])), (a0, .inl (cI, 22, .inl (gl [m0, m1, m2, m3, m4, m5, m6, m7, m8, m9, 0, 0, (-1), m13, m14, m15, 0, 0, 0, 4, 0, 16])))]) (va_Qi (fun (r : Int32) (_ : Unit) => r = (pfX2_notifyDevice_g_r m0 m14)) (fun _ : Unit => zB dC dI (zT cI cB cZ cR) (va_A [(h, .inr (2, [.ref a0, .ref a1, .ref a2, .ref a3, .ref a4, .ref a5, .ref a6])), (a0, .inl (cI, 22, .inl (gl [m0, m1, m2, m3, m4, m5, m6, m7, m8, m9, 0, 0, (-1), m13, m14, m15, 0, 0, 0, 4, 0, 16])))] sz) [(h, .inr (2, [.ref a0, .ref a1, .ref a2, .ref a3, .ref a4, .ref a5, .ref a6])), (a0, .inl (cI, 22, .inl (gl [m0, m1, m2, m3, m4, m5, m6, m7, (pfX2_notifyDevice_g_a0_8 m0 m8 m14), m9, 0, 0, (-1), m13, m0, m15, 0, 0, 0, 4, 0, 16])))]) (va_A [(h, .inr (2, [.ref a0, .ref a1, .ref a2, .ref a3, .ref a4, .ref a5, .ref a6])), (a0, .inl (cI, 22, .inl (gl [m0, m1, m2, m3, m4, m5, m6, m7, m8, m9, 0, 0, (-1), m13, m14, m15, 0, 0, 0, 4, 0, 16])))] sz)) 0 0 (va_A [(h, .inr (2, [.ref a0, .ref a1, .ref a2, .ref a3, .ref a4, .ref a5, .ref a6])), (a0, .inl (cI, 22, .inl (gl [m0, m1, m2, m3, m4, m5, m6, m7, m8, m9, 0, 0, (-1), m13, m14, m15, 0, 0, 0, 4, 0, 16])))] sz) := by
  refine Met.ofW (cc := cX2_notifyDevice) (maxL := 2) (ret := (some .int)) (by decide) rfl ?_
  intro p e s m args below meth c s₁ B hml hv
  obtain ⟨rfl, hsz, hP, hK, hD0, hN⟩ := hv
  have hx := B.exec
  have hb := B.bytes
  have hr := B.returns
  have hts := atoms_spec (ws := (.code yX2_notifyDevice cX2_notifyDevice 2 (some .int) :: wsL_law)) B.pre
  have hown : s.vm.findClass RX2 = some m.cls := findClass_of_methodNamed B.named
  have hlocks := B.notSynchronized
  have hinX2 : ∀ w ∈ u_ws RX2 TX2 7, w ∈ (.code yX2_notifyDevice cX2_notifyDevice 2 (some .int) :: wsL_law) := fun w h => List.mem_cons_of_mem _ (inlX2 w h)
  have k_0 := hts (.fieldLink RX2 11 "RingMarks$Ring" "marks" "[I") (List.mem_cons_of_mem _ wm_61)
  subst hsz
  have hD := hD0.self (sz := s.heap.size)
  generalize hAe : va_A [(h, .inr (2, [.ref a0, .ref a1, .ref a2, .ref a3, .ref a4, .ref a5, .ref a6])), (a0, .inl (cI, 22, .inl (gl [m0, m1, m2, m3, m4, m5, m6, m7, m8, m9, 0, 0, (-1), m13, m14, m15, 0, 0, 0, 4, 0, 16])))] s.heap.size = A at hD ⊢
  have hA : ∀ q : Nat, s.heap.size ≤ q → A q := fun q h => by rw [← hAe]; exact Or.inr h
  have hP : va_P (dC, dI) vwCl [(h, .inr (2, [.ref a0, .ref a1, .ref a2, .ref a3, .ref a4, .ref a5, .ref a6])), (a0, .inl (cI, 22, .inl (gl [m0, m1, m2, m3, m4, m5, m6, m7, m8, m9, 0, 0, (-1), m13, m14, m15, 0, 0, 0, 4, 0, 16])))] s.heap := hP
  have hl := lv_entry ([.ref h]) (n := 2) (Nat.le_of_ble_eq_true rfl)
  rw [lg_entry_eq]
  generalize (lg_sl ([.ref h]) ++ List.replicate (2 - (lg_sl ([.ref h])).length) Slot.unset).toArray = ls at hl ⊢
  have hl : lv_has ls 2 [(0, .ref h)] := hl
  obtain ⟨H, hH⟩ : ∃ H, H = s.heap := ⟨_, rfl⟩
  rw [← hH] at hP ⊢
  have hS : va_S A s.heap H [] := by rw [hH]; exact va_S.rf
  refine lv_aload_n hx hb dX2_notifyDevice_0 rfl (lv_at hl 0 rfl) ?_
  refine lv_aload_n hx hb dX2_notifyDevice_1 rfl (lv_at hl 0 rfl) ?_
  refine va_get (D := (dC, dI)) (ci := 2) (v := .ref a0) (C := RX2) (T := TX2) (N := 7) hx hb hts hinX2 hown hK hP 0 rfl rfl 0 (by decide) k_0 (fun _ h9 => h9) rfl dX2_notifyDevice_2 ?_
  refine lv_bipush (v := 14) hx hb dX2_notifyDevice_5 (by decide) ?_
  refine za_iald (v := m14) hx hb hK hP 1 0 rfl rfl (zin tn_14 (Nat.le_of_ble_eq_true rfl)) (zrd _ tn_14 rfl) dX2_notifyDevice_7 ?_
  refine lv_aload_n hx hb dX2_notifyDevice_8 rfl (lv_at hl 0 rfl) ?_
  refine va_get (D := (dC, dI)) (ci := 2) (v := .ref a0) (C := RX2) (T := TX2) (N := 7) hx hb hts hinX2 hown hK hP 0 rfl rfl 0 (by decide) k_0 (fun _ h9 => h9) rfl dX2_notifyDevice_9 ?_
  refine lv_iconst (v := 0) hx hb dX2_notifyDevice_12 (by decide) ?_
  refine za_iald (v := m0) hx hb hK hP 1 0 rfl rfl (zin tn_0 (Nat.le_of_ble_eq_true rfl)) (zrd _ tn_0 rfl) dX2_notifyDevice_13 ?_
  refine lv_aload_n hx hb dX2_notifyDevice_14 rfl (lv_at hl 0 rfl) ?_
  refine va_get (D := (dC, dI)) (ci := 2) (v := .ref a0) (C := RX2) (T := TX2) (N := 7) hx hb hts hinX2 hown hK hP 0 rfl rfl 0 (by decide) k_0 (fun _ h9 => h9) rfl dX2_notifyDevice_15 ?_
  refine lv_bipush (v := 10) hx hb dX2_notifyDevice_18 (by decide) ?_
  refine za_iald (v := 0) hx hb hK hP 1 0 rfl rfl (zin tn_10 (Nat.le_of_ble_eq_true rfl)) (zrd _ tn_10 rfl) dX2_notifyDevice_20 ?_
  refine lv_aload_n hx hb dX2_notifyDevice_21 rfl (lv_at hl 0 rfl) ?_
  refine va_get (D := (dC, dI)) (ci := 2) (v := .ref a0) (C := RX2) (T := TX2) (N := 7) hx hb hts hinX2 hown hK hP 0 rfl rfl 0 (by decide) k_0 (fun _ h9 => h9) rfl dX2_notifyDevice_22 ?_
  refine lv_bipush (v := 17) hx hb dX2_notifyDevice_25 (by decide) ?_
  refine za_iald (v := 0) hx hb hK hP 1 0 rfl rfl (zin tn_17 (Nat.le_of_ble_eq_true rfl)) (zrd _ tn_17 rfl) dX2_notifyDevice_27 ?_
  refine zcVi (As := [.int m14, .int m0, .int 0, .int 0]) (rest := []) (wr := []) ⟨hx, hb, hml, hown, hts⟩ (kkX2_isNoticeDue_g l dC dI cI cB cZ cR H.size h a0 a1 a2 a3 a4 a5 a6 m0 m1 m2 m3 m4 m5 m6 m7 m8 m9 0 0 (-1) m13 m14 m15 0 0 m14 m0 ) (cwV 4 hts (zgV wm_648 wm_649 wm_650 wm_22 wm_651) rfl rfl rfl (by decide +kernel) ⟨Nat.le_of_ble_eq_true rfl, Nat.le_of_ble_eq_true rfl⟩) hN hK hP hD hS hA [0, 1] [] rfl rfl ⟨rfl, rfl⟩ (by decide) (ci := 2) rfl rfl rfl rfl hl.1 rfl (Nat.le_of_ble_eq_true rfl) dX2_notifyDevice_28 ⟨Nat.le_of_ble_eq_true rfl, Nat.le_of_ble_eq_true rfl⟩ (fun r u hu H locs hP hD hS => ?_)
  have hu : r = (pfX2_isNoticeDue_g_r m14 m0) := hu
  subst hu
  have hP : va_P (dC, dI) vwCl [(h, .inr (2, [.ref a0, .ref a1, .ref a2, .ref a3, .ref a4, .ref a5, .ref a6])), (a0, .inl (cI, 22, .inl (gl [m0, m1, m2, m3, m4, m5, m6, m7, m8, m9, 0, 0, (-1), m13, m14, m15, 0, 0, 0, 4, 0, 16])))] H := hP
  have hD : va_D A [(h, .inr (2, [.ref a0, .ref a1, .ref a2, .ref a3, .ref a4, .ref a5, .ref a6])), (a0, .inl (cI, 22, .inl (gl [m0, m1, m2, m3, m4, m5, m6, m7, m8, m9, 0, 0, (-1), m13, m14, m15, 0, 0, 0, 4, 0, 16])))] := hD
  refine lv_istore_n (lv' := [(1, .int (pfX2_isNoticeDue_g_r m14 m0)), (0, .ref h)]) hx hb dX2_notifyDevice_31 rfl hl (by decide) rfl (fun ls hl => ?_)
  refine lv_aload_n hx hb dX2_notifyDevice_32 rfl (lv_at hl 1 rfl) ?_
  refine va_get (D := (dC, dI)) (ci := 2) (v := .ref a0) (C := RX2) (T := TX2) (N := 7) hx hb hts hinX2 hown hK hP 0 rfl rfl 0 (by decide) k_0 (fun _ h9 => h9) rfl dX2_notifyDevice_33 ?_
  refine lv_bipush (v := 14) hx hb dX2_notifyDevice_36 (by decide) ?_
  refine lv_aload_n hx hb dX2_notifyDevice_38 rfl (lv_at hl 1 rfl) ?_
  refine va_get (D := (dC, dI)) (ci := 2) (v := .ref a0) (C := RX2) (T := TX2) (N := 7) hx hb hts hinX2 hown hK hP 0 rfl rfl 0 (by decide) k_0 (fun _ h9 => h9) rfl dX2_notifyDevice_39 ?_
  refine lv_iconst (v := 0) hx hb dX2_notifyDevice_42 (by decide) ?_
  refine za_iald (v := m0) hx hb hK hP 1 0 rfl rfl (zin tn_0 (Nat.le_of_ble_eq_true rfl)) (zrd _ tn_0 rfl) dX2_notifyDevice_43 ?_
  refine za_iast (f' := (gl [m0, m1, m2, m3, m4, m5, m6, m7, m8, m9, 0, 0, (-1), m13, m0, m15, 0, 0, 0, 4, 0, 16])) hx hb hK hP hD hS 1 0 rfl rfl (zin tn_14 (Nat.le_of_ble_eq_true rfl)) (zup_gl tn_14 (Nat.le_of_ble_eq_true rfl) rfl) dX2_notifyDevice_44 (fun H locs hP hD hS => ?_)
  have hP : va_P (dC, dI) vwCl [(h, .inr (2, [.ref a0, .ref a1, .ref a2, .ref a3, .ref a4, .ref a5, .ref a6])), (a0, .inl (cI, 22, .inl (gl [m0, m1, m2, m3, m4, m5, m6, m7, m8, m9, 0, 0, (-1), m13, m0, m15, 0, 0, 0, 4, 0, 16])))] H := hP
  have hD : va_D A [(h, .inr (2, [.ref a0, .ref a1, .ref a2, .ref a3, .ref a4, .ref a5, .ref a6])), (a0, .inl (cI, 22, .inl (gl [m0, m1, m2, m3, m4, m5, m6, m7, m8, m9, 0, 0, (-1), m13, m0, m15, 0, 0, 0, 4, 0, 16])))] := hD
  refine lv_aload_n hx hb dX2_notifyDevice_45 rfl (lv_at hl 1 rfl) ?_
  refine va_get (D := (dC, dI)) (ci := 2) (v := .ref a0) (C := RX2) (T := TX2) (N := 7) hx hb hts hinX2 hown hK hP 0 rfl rfl 0 (by decide) k_0 (fun _ h9 => h9) rfl dX2_notifyDevice_46 ?_
  refine lv_bipush (v := 8) hx hb dX2_notifyDevice_49 (by decide) ?_
  refine lv_dup2_11 hx hb dX2_notifyDevice_51 rfl rfl ?_
  refine za_iald (v := m8) hx hb hK hP 1 0 rfl rfl (zin tn_8 (Nat.le_of_ble_eq_true rfl)) (zrd _ tn_8 rfl) dX2_notifyDevice_52 ?_
  refine lv_iload_n hx hb dX2_notifyDevice_53 rfl (lv_at hl 0 rfl) ?_
  refine lv_if_eq (tgt := 61) hx hb dX2_notifyDevice_54 (by decide) (fun c_1 => ?_) (fun c_1 => ?_)
  · refine lv_iconst (v := 0) hx hb dX2_notifyDevice_61 (by decide) ?_
    refine lv_iadd hx hb dX2_notifyDevice_62 ?_
    refine za_iast (f' := (gl [m0, m1, m2, m3, m4, m5, m6, m7, (m8 + 0), m9, 0, 0, (-1), m13, m0, m15, 0, 0, 0, 4, 0, 16])) hx hb hK hP hD hS 1 0 rfl rfl (zin tn_8 (Nat.le_of_ble_eq_true rfl)) (zup_gl tn_8 (Nat.le_of_ble_eq_true rfl) rfl) dX2_notifyDevice_63 (fun H locs hP hD hS => ?_)
    have hP : va_P (dC, dI) vwCl [(h, .inr (2, [.ref a0, .ref a1, .ref a2, .ref a3, .ref a4, .ref a5, .ref a6])), (a0, .inl (cI, 22, .inl (gl [m0, m1, m2, m3, m4, m5, m6, m7, (m8 + 0), m9, 0, 0, (-1), m13, m0, m15, 0, 0, 0, 4, 0, 16])))] H := hP
    have hD : va_D A [(h, .inr (2, [.ref a0, .ref a1, .ref a2, .ref a3, .ref a4, .ref a5, .ref a6])), (a0, .inl (cI, 22, .inl (gl [m0, m1, m2, m3, m4, m5, m6, m7, (m8 + 0), m9, 0, 0, (-1), m13, m0, m15, 0, 0, 0, 4, 0, 16])))] := hD
    refine lv_iload_n hx hb dX2_notifyDevice_64 rfl (lv_at hl 0 rfl) ?_
    refine lv_if_eq (tgt := 72) hx hb dX2_notifyDevice_65 (by decide) (fun _ => ?_) (fun c => absurd c_1 c)
    refine lv_iconst (v := 0) hx hb dX2_notifyDevice_72 (by decide) ?_
    have e_0 : (pfX2_notifyDevice_g_r m0 m14) = 0 := by rw [pfX2_notifyDevice_g_r, if_pos c_1]
    have e_1 : (pfX2_notifyDevice_g_a0_8 m0 m8 m14) = (m8 + 0) := by rw [pfX2_notifyDevice_g_a0_8, if_pos c_1]
    have hP9 := hP.sub (ws' := [(h, .inr (2, [.ref a0, .ref a1, .ref a2, .ref a3, .ref a4, .ref a5, .ref a6])), (a0, .inl (cI, 22, .inl (gl [m0, m1, m2, m3, m4, m5, m6, m7, (m8 + 0), m9, 0, 0, (-1), m13, m0, m15, 0, 0, 0, 4, 0, 16])))]) [0, 1] rfl
    have hD9 := hD.sub (ws' := [(h, .inr (2, [.ref a0, .ref a1, .ref a2, .ref a3, .ref a4, .ref a5, .ref a6])), (a0, .inl (cI, 22, .inl (gl [m0, m1, m2, m3, m4, m5, m6, m7, (m8 + 0), m9, 0, 0, (-1), m13, m0, m15, 0, 0, 0, 4, 0, 16])))]) [0, 1] (by decide) rfl
    exact W.iret (v := 0) hx hb hr (fun t ht hW => ⟨⟨0, (), rfl, e_0.symm, by rw [ht, e_1]; exact hP9, va_K.moved hW.alike hK, (by rw [e_1]; exact hD9)⟩, hS.F ht⟩) hS.2.2 dX2_notifyDevice_73
  · refine lv_iconst (v := 1) hx hb dX2_notifyDevice_57 (by decide) ?_
    refine lv_goto (tgt := 62) hx hb dX2_notifyDevice_58 (by decide) ?_
    refine lv_iadd hx hb dX2_notifyDevice_62 ?_
    refine za_iast (f' := (gl [m0, m1, m2, m3, m4, m5, m6, m7, (m8 + 1), m9, 0, 0, (-1), m13, m0, m15, 0, 0, 0, 4, 0, 16])) hx hb hK hP hD hS 1 0 rfl rfl (zin tn_8 (Nat.le_of_ble_eq_true rfl)) (zup_gl tn_8 (Nat.le_of_ble_eq_true rfl) rfl) dX2_notifyDevice_63 (fun H locs hP hD hS => ?_)
    have hP : va_P (dC, dI) vwCl [(h, .inr (2, [.ref a0, .ref a1, .ref a2, .ref a3, .ref a4, .ref a5, .ref a6])), (a0, .inl (cI, 22, .inl (gl [m0, m1, m2, m3, m4, m5, m6, m7, (m8 + 1), m9, 0, 0, (-1), m13, m0, m15, 0, 0, 0, 4, 0, 16])))] H := hP
    have hD : va_D A [(h, .inr (2, [.ref a0, .ref a1, .ref a2, .ref a3, .ref a4, .ref a5, .ref a6])), (a0, .inl (cI, 22, .inl (gl [m0, m1, m2, m3, m4, m5, m6, m7, (m8 + 1), m9, 0, 0, (-1), m13, m0, m15, 0, 0, 0, 4, 0, 16])))] := hD
    refine lv_iload_n hx hb dX2_notifyDevice_64 rfl (lv_at hl 0 rfl) ?_
    refine lv_if_eq (tgt := 72) hx hb dX2_notifyDevice_65 (by decide) (fun c => absurd c c_1) (fun _ => ?_)
    refine lv_iconst (v := 1) hx hb dX2_notifyDevice_68 (by decide) ?_
    refine lv_goto (tgt := 73) hx hb dX2_notifyDevice_69 (by decide) ?_
    have e_0 : (pfX2_notifyDevice_g_r m0 m14) = 1 := by rw [pfX2_notifyDevice_g_r, if_neg c_1]
    have e_1 : (pfX2_notifyDevice_g_a0_8 m0 m8 m14) = (m8 + 1) := by rw [pfX2_notifyDevice_g_a0_8, if_neg c_1]
    have hP9 := hP.sub (ws' := [(h, .inr (2, [.ref a0, .ref a1, .ref a2, .ref a3, .ref a4, .ref a5, .ref a6])), (a0, .inl (cI, 22, .inl (gl [m0, m1, m2, m3, m4, m5, m6, m7, (m8 + 1), m9, 0, 0, (-1), m13, m0, m15, 0, 0, 0, 4, 0, 16])))]) [0, 1] rfl
    have hD9 := hD.sub (ws' := [(h, .inr (2, [.ref a0, .ref a1, .ref a2, .ref a3, .ref a4, .ref a5, .ref a6])), (a0, .inl (cI, 22, .inl (gl [m0, m1, m2, m3, m4, m5, m6, m7, (m8 + 1), m9, 0, 0, (-1), m13, m0, m15, 0, 0, 0, 4, 0, 16])))]) [0, 1] (by decide) rfl
    exact W.iret (v := 1) hx hb hr (fun t ht hW => ⟨⟨1, (), rfl, e_0.symm, by rw [ht, e_1]; exact hP9, va_K.moved hW.alike hK, (by rw [e_1]; exact hD9)⟩, hS.F ht⟩) hS.2.2 dX2_notifyDevice_73

def pfX2_notifyDriver_g_r (m2 : Int32) (m15 : Int32) : Int32 := if (pfX2_isNoticeDue_g_r m15 m2) = 0 then 0 else 1
def pfX2_notifyDriver_g_a0_9 (m2 : Int32) (m9 : Int32) (m15 : Int32) : Int32 := if (pfX2_isNoticeDue_g_r m15 m2) = 0 then (m9 + 0) else (m9 + 1)
set_option maxHeartbeats 4000000 in
set_option maxRecDepth 100000 in
theorem kkX2_notifyDriver_g (l : Launch) (dC : Nat → ClassId) (dI : Nat → Nat → Nat) (cI cB cZ cR : ClassId) (sz : Nat) (h : Nat) (a0 : Nat) (a1 : Nat) (a2 : Nat) (a3 : Nat) (a4 : Nat) (a5 : Nat) (a6 : Nat) (m0 : Int32) (m1 : Int32) (m2 : Int32) (m3 : Int32) (m4 : Int32) (m5 : Int32) (m6 : Int32) (m7 : Int32) (m8 : Int32) (m9 : Int32) (m13 : Int32) (m14 : Int32) (m15 : Int32) : Met l yX2_notifyDriver (.code yX2_notifyDriver cX2_notifyDriver 2 (some .int) :: wsL_law) ({ frames := 2, cells := 0, slots := 0, locals := 45 }) (zPc dC dI (zT cI cB cZ cR) [.ref h] sz [(h, .inr (2, [.ref a0, .ref a1, .ref a2, .ref a3, .ref a4, .ref a5, .ref a6])), (a0, .inl (cI, 22, .inl (gl [m0, m1, m2, m3, m4, m5, m6, m7, m8, m9, 0, 0, (-1), m13, m14, m15, 0, 0, 0, 4, 0, 16])))]) (va_Qi (fun (r : Int32) (_ : Unit) => r = (pfX2_notifyDriver_g_r m2 m15)) (fun _ : Unit => zB dC dI (zT cI cB cZ cR) (va_A [(h, .inr (2, [.ref a0, .ref a1, .ref a2, .ref a3, .ref a4, .ref a5, .ref a6])), (a0, .inl (cI, 22, .inl (gl [m0, m1, m2, m3, m4, m5, m6, m7, m8, m9, 0, 0, (-1), m13, m14, m15, 0, 0, 0, 4, 0, 16])))] sz) [(h, .inr (2, [.ref a0, .ref a1, .ref a2, .ref a3, .ref a4, .ref a5, .ref a6])), (a0, .inl (cI, 22, .inl (gl [m0, m1, m2, m3, m4, m5, m6, m7, m8, (pfX2_notifyDriver_g_a0_9 m2 m9 m15), 0, 0, (-1), m13, m14, m2, 0, 0, 0, 4, 0, 16])))]) (va_A [(h, .inr (2, [.ref a0, .ref a1, .ref a2, .ref a3, .ref a4, .ref a5, .ref a6])), (a0, .inl (cI, 22, .inl (gl [m0, m1, m2, m3, m4, m5, m6, m7, m8, m9, 0, 0, (-1), m13, m14, m15, 0, 0, 0, 4, 0, 16])))] sz)) 0 0 (va_A [(h, .inr (2, [.ref a0, .ref a1, .ref a2, .ref a3, .ref a4, .ref a5, .ref a6])), (a0, .inl (cI, 22, .inl (gl [m0, m1, m2, m3, m4, m5, m6, m7, m8, m9, 0, 0, (-1), m13, m14, m15, 0, 0, 0, 4, 0, 16])))] sz) := by
  refine Met.ofW (cc := cX2_notifyDriver) (maxL := 2) (ret := (some .int)) (by decide) rfl ?_
  intro p e s m args below meth c s₁ B hml hv
  obtain ⟨rfl, hsz, hP, hK, hD0, hN⟩ := hv
  have hx := B.exec
  have hb := B.bytes
  have hr := B.returns
  have hts := atoms_spec (ws := (.code yX2_notifyDriver cX2_notifyDriver 2 (some .int) :: wsL_law)) B.pre
  have hown : s.vm.findClass RX2 = some m.cls := findClass_of_methodNamed B.named
  have hlocks := B.notSynchronized
  have hinX2 : ∀ w ∈ u_ws RX2 TX2 7, w ∈ (.code yX2_notifyDriver cX2_notifyDriver 2 (some .int) :: wsL_law) := fun w h => List.mem_cons_of_mem _ (inlX2 w h)
  have k_0 := hts (.fieldLink RX2 11 "RingMarks$Ring" "marks" "[I") (List.mem_cons_of_mem _ wm_61)
  subst hsz
  have hD := hD0.self (sz := s.heap.size)
  generalize hAe : va_A [(h, .inr (2, [.ref a0, .ref a1, .ref a2, .ref a3, .ref a4, .ref a5, .ref a6])), (a0, .inl (cI, 22, .inl (gl [m0, m1, m2, m3, m4, m5, m6, m7, m8, m9, 0, 0, (-1), m13, m14, m15, 0, 0, 0, 4, 0, 16])))] s.heap.size = A at hD ⊢
  have hA : ∀ q : Nat, s.heap.size ≤ q → A q := fun q h => by rw [← hAe]; exact Or.inr h
  have hP : va_P (dC, dI) vwCl [(h, .inr (2, [.ref a0, .ref a1, .ref a2, .ref a3, .ref a4, .ref a5, .ref a6])), (a0, .inl (cI, 22, .inl (gl [m0, m1, m2, m3, m4, m5, m6, m7, m8, m9, 0, 0, (-1), m13, m14, m15, 0, 0, 0, 4, 0, 16])))] s.heap := hP
  have hl := lv_entry ([.ref h]) (n := 2) (Nat.le_of_ble_eq_true rfl)
  rw [lg_entry_eq]
  generalize (lg_sl ([.ref h]) ++ List.replicate (2 - (lg_sl ([.ref h])).length) Slot.unset).toArray = ls at hl ⊢
  have hl : lv_has ls 2 [(0, .ref h)] := hl
  obtain ⟨H, hH⟩ : ∃ H, H = s.heap := ⟨_, rfl⟩
  rw [← hH] at hP ⊢
  have hS : va_S A s.heap H [] := by rw [hH]; exact va_S.rf
  refine lv_aload_n hx hb dX2_notifyDriver_0 rfl (lv_at hl 0 rfl) ?_
  refine lv_aload_n hx hb dX2_notifyDriver_1 rfl (lv_at hl 0 rfl) ?_
  refine va_get (D := (dC, dI)) (ci := 2) (v := .ref a0) (C := RX2) (T := TX2) (N := 7) hx hb hts hinX2 hown hK hP 0 rfl rfl 0 (by decide) k_0 (fun _ h9 => h9) rfl dX2_notifyDriver_2 ?_
  refine lv_bipush (v := 15) hx hb dX2_notifyDriver_5 (by decide) ?_
  refine za_iald (v := m15) hx hb hK hP 1 0 rfl rfl (zin tn_15 (Nat.le_of_ble_eq_true rfl)) (zrd _ tn_15 rfl) dX2_notifyDriver_7 ?_
  refine lv_aload_n hx hb dX2_notifyDriver_8 rfl (lv_at hl 0 rfl) ?_
  refine va_get (D := (dC, dI)) (ci := 2) (v := .ref a0) (C := RX2) (T := TX2) (N := 7) hx hb hts hinX2 hown hK hP 0 rfl rfl 0 (by decide) k_0 (fun _ h9 => h9) rfl dX2_notifyDriver_9 ?_
  refine lv_iconst (v := 2) hx hb dX2_notifyDriver_12 (by decide) ?_
  refine za_iald (v := m2) hx hb hK hP 1 0 rfl rfl (zin tn_2 (Nat.le_of_ble_eq_true rfl)) (zrd _ tn_2 rfl) dX2_notifyDriver_13 ?_
  refine lv_aload_n hx hb dX2_notifyDriver_14 rfl (lv_at hl 0 rfl) ?_
  refine va_get (D := (dC, dI)) (ci := 2) (v := .ref a0) (C := RX2) (T := TX2) (N := 7) hx hb hts hinX2 hown hK hP 0 rfl rfl 0 (by decide) k_0 (fun _ h9 => h9) rfl dX2_notifyDriver_15 ?_
  refine lv_bipush (v := 11) hx hb dX2_notifyDriver_18 (by decide) ?_
  refine za_iald (v := 0) hx hb hK hP 1 0 rfl rfl (zin tn_11 (Nat.le_of_ble_eq_true rfl)) (zrd _ tn_11 rfl) dX2_notifyDriver_20 ?_
  refine lv_aload_n hx hb dX2_notifyDriver_21 rfl (lv_at hl 0 rfl) ?_
  refine va_get (D := (dC, dI)) (ci := 2) (v := .ref a0) (C := RX2) (T := TX2) (N := 7) hx hb hts hinX2 hown hK hP 0 rfl rfl 0 (by decide) k_0 (fun _ h9 => h9) rfl dX2_notifyDriver_22 ?_
  refine lv_bipush (v := 16) hx hb dX2_notifyDriver_25 (by decide) ?_
  refine za_iald (v := 0) hx hb hK hP 1 0 rfl rfl (zin tn_16 (Nat.le_of_ble_eq_true rfl)) (zrd _ tn_16 rfl) dX2_notifyDriver_27 ?_
  refine zcVi (As := [.int m15, .int m2, .int 0, .int 0]) (rest := []) (wr := []) ⟨hx, hb, hml, hown, hts⟩ (kkX2_isNoticeDue_g l dC dI cI cB cZ cR H.size h a0 a1 a2 a3 a4 a5 a6 m0 m1 m2 m3 m4 m5 m6 m7 m8 m9 0 0 (-1) m13 m14 m15 0 0 m15 m2 ) (cwV 4 hts (zgV wm_648 wm_649 wm_650 wm_22 wm_651) rfl rfl rfl (by decide +kernel) ⟨Nat.le_of_ble_eq_true rfl, Nat.le_of_ble_eq_true rfl⟩) hN hK hP hD hS hA [0, 1] [] rfl rfl ⟨rfl, rfl⟩ (by decide) (ci := 2) rfl rfl rfl rfl hl.1 rfl (Nat.le_of_ble_eq_true rfl) dX2_notifyDriver_28 ⟨Nat.le_of_ble_eq_true rfl, Nat.le_of_ble_eq_true rfl⟩ (fun r u hu H locs hP hD hS => ?_)
  have hu : r = (pfX2_isNoticeDue_g_r m15 m2) := hu
  subst hu
  have hP : va_P (dC, dI) vwCl [(h, .inr (2, [.ref a0, .ref a1, .ref a2, .ref a3, .ref a4, .ref a5, .ref a6])), (a0, .inl (cI, 22, .inl (gl [m0, m1, m2, m3, m4, m5, m6, m7, m8, m9, 0, 0, (-1), m13, m14, m15, 0, 0, 0, 4, 0, 16])))] H := hP
  have hD : va_D A [(h, .inr (2, [.ref a0, .ref a1, .ref a2, .ref a3, .ref a4, .ref a5, .ref a6])), (a0, .inl (cI, 22, .inl (gl [m0, m1, m2, m3, m4, m5, m6, m7, m8, m9, 0, 0, (-1), m13, m14, m15, 0, 0, 0, 4, 0, 16])))] := hD
  refine lv_istore_n (lv' := [(1, .int (pfX2_isNoticeDue_g_r m15 m2)), (0, .ref h)]) hx hb dX2_notifyDriver_31 rfl hl (by decide) rfl (fun ls hl => ?_)
  refine lv_aload_n hx hb dX2_notifyDriver_32 rfl (lv_at hl 1 rfl) ?_
  refine va_get (D := (dC, dI)) (ci := 2) (v := .ref a0) (C := RX2) (T := TX2) (N := 7) hx hb hts hinX2 hown hK hP 0 rfl rfl 0 (by decide) k_0 (fun _ h9 => h9) rfl dX2_notifyDriver_33 ?_
  refine lv_bipush (v := 15) hx hb dX2_notifyDriver_36 (by decide) ?_
  refine lv_aload_n hx hb dX2_notifyDriver_38 rfl (lv_at hl 1 rfl) ?_
  refine va_get (D := (dC, dI)) (ci := 2) (v := .ref a0) (C := RX2) (T := TX2) (N := 7) hx hb hts hinX2 hown hK hP 0 rfl rfl 0 (by decide) k_0 (fun _ h9 => h9) rfl dX2_notifyDriver_39 ?_
  refine lv_iconst (v := 2) hx hb dX2_notifyDriver_42 (by decide) ?_
  refine za_iald (v := m2) hx hb hK hP 1 0 rfl rfl (zin tn_2 (Nat.le_of_ble_eq_true rfl)) (zrd _ tn_2 rfl) dX2_notifyDriver_43 ?_
  refine za_iast (f' := (gl [m0, m1, m2, m3, m4, m5, m6, m7, m8, m9, 0, 0, (-1), m13, m14, m2, 0, 0, 0, 4, 0, 16])) hx hb hK hP hD hS 1 0 rfl rfl (zin tn_15 (Nat.le_of_ble_eq_true rfl)) (zup_gl tn_15 (Nat.le_of_ble_eq_true rfl) rfl) dX2_notifyDriver_44 (fun H locs hP hD hS => ?_)
  have hP : va_P (dC, dI) vwCl [(h, .inr (2, [.ref a0, .ref a1, .ref a2, .ref a3, .ref a4, .ref a5, .ref a6])), (a0, .inl (cI, 22, .inl (gl [m0, m1, m2, m3, m4, m5, m6, m7, m8, m9, 0, 0, (-1), m13, m14, m2, 0, 0, 0, 4, 0, 16])))] H := hP
  have hD : va_D A [(h, .inr (2, [.ref a0, .ref a1, .ref a2, .ref a3, .ref a4, .ref a5, .ref a6])), (a0, .inl (cI, 22, .inl (gl [m0, m1, m2, m3, m4, m5, m6, m7, m8, m9, 0, 0, (-1), m13, m14, m2, 0, 0, 0, 4, 0, 16])))] := hD
  refine lv_aload_n hx hb dX2_notifyDriver_45 rfl (lv_at hl 1 rfl) ?_
  refine va_get (D := (dC, dI)) (ci := 2) (v := .ref a0) (C := RX2) (T := TX2) (N := 7) hx hb hts hinX2 hown hK hP 0 rfl rfl 0 (by decide) k_0 (fun _ h9 => h9) rfl dX2_notifyDriver_46 ?_
  refine lv_bipush (v := 9) hx hb dX2_notifyDriver_49 (by decide) ?_
  refine lv_dup2_11 hx hb dX2_notifyDriver_51 rfl rfl ?_
  refine za_iald (v := m9) hx hb hK hP 1 0 rfl rfl (zin tn_9 (Nat.le_of_ble_eq_true rfl)) (zrd _ tn_9 rfl) dX2_notifyDriver_52 ?_
  refine lv_iload_n hx hb dX2_notifyDriver_53 rfl (lv_at hl 0 rfl) ?_
  refine lv_if_eq (tgt := 61) hx hb dX2_notifyDriver_54 (by decide) (fun c_1 => ?_) (fun c_1 => ?_)
  · refine lv_iconst (v := 0) hx hb dX2_notifyDriver_61 (by decide) ?_
    refine lv_iadd hx hb dX2_notifyDriver_62 ?_
    refine za_iast (f' := (gl [m0, m1, m2, m3, m4, m5, m6, m7, m8, (m9 + 0), 0, 0, (-1), m13, m14, m2, 0, 0, 0, 4, 0, 16])) hx hb hK hP hD hS 1 0 rfl rfl (zin tn_9 (Nat.le_of_ble_eq_true rfl)) (zup_gl tn_9 (Nat.le_of_ble_eq_true rfl) rfl) dX2_notifyDriver_63 (fun H locs hP hD hS => ?_)
    have hP : va_P (dC, dI) vwCl [(h, .inr (2, [.ref a0, .ref a1, .ref a2, .ref a3, .ref a4, .ref a5, .ref a6])), (a0, .inl (cI, 22, .inl (gl [m0, m1, m2, m3, m4, m5, m6, m7, m8, (m9 + 0), 0, 0, (-1), m13, m14, m2, 0, 0, 0, 4, 0, 16])))] H := hP
    have hD : va_D A [(h, .inr (2, [.ref a0, .ref a1, .ref a2, .ref a3, .ref a4, .ref a5, .ref a6])), (a0, .inl (cI, 22, .inl (gl [m0, m1, m2, m3, m4, m5, m6, m7, m8, (m9 + 0), 0, 0, (-1), m13, m14, m2, 0, 0, 0, 4, 0, 16])))] := hD
    refine lv_iload_n hx hb dX2_notifyDriver_64 rfl (lv_at hl 0 rfl) ?_
    refine lv_if_eq (tgt := 72) hx hb dX2_notifyDriver_65 (by decide) (fun _ => ?_) (fun c => absurd c_1 c)
    refine lv_iconst (v := 0) hx hb dX2_notifyDriver_72 (by decide) ?_
    have e_0 : (pfX2_notifyDriver_g_r m2 m15) = 0 := by rw [pfX2_notifyDriver_g_r, if_pos c_1]
    have e_1 : (pfX2_notifyDriver_g_a0_9 m2 m9 m15) = (m9 + 0) := by rw [pfX2_notifyDriver_g_a0_9, if_pos c_1]
    have hP9 := hP.sub (ws' := [(h, .inr (2, [.ref a0, .ref a1, .ref a2, .ref a3, .ref a4, .ref a5, .ref a6])), (a0, .inl (cI, 22, .inl (gl [m0, m1, m2, m3, m4, m5, m6, m7, m8, (m9 + 0), 0, 0, (-1), m13, m14, m2, 0, 0, 0, 4, 0, 16])))]) [0, 1] rfl
    have hD9 := hD.sub (ws' := [(h, .inr (2, [.ref a0, .ref a1, .ref a2, .ref a3, .ref a4, .ref a5, .ref a6])), (a0, .inl (cI, 22, .inl (gl [m0, m1, m2, m3, m4, m5, m6, m7, m8, (m9 + 0), 0, 0, (-1), m13, m14, m2, 0, 0, 0, 4, 0, 16])))]) [0, 1] (by decide) rfl
    exact W.iret (v := 0) hx hb hr (fun t ht hW => ⟨⟨0, (), rfl, e_0.symm, by rw [ht, e_1]; exact hP9, va_K.moved hW.alike hK, (by rw [e_1]; exact hD9)⟩, hS.F ht⟩) hS.2.2 dX2_notifyDriver_73
  · refine lv_iconst (v := 1) hx hb dX2_notifyDriver_57 (by decide) ?_
    refine lv_goto (tgt := 62) hx hb dX2_notifyDriver_58 (by decide) ?_
    refine lv_iadd hx hb dX2_notifyDriver_62 ?_
    refine za_iast (f' := (gl [m0, m1, m2, m3, m4, m5, m6, m7, m8, (m9 + 1), 0, 0, (-1), m13, m14, m2, 0, 0, 0, 4, 0, 16])) hx hb hK hP hD hS 1 0 rfl rfl (zin tn_9 (Nat.le_of_ble_eq_true rfl)) (zup_gl tn_9 (Nat.le_of_ble_eq_true rfl) rfl) dX2_notifyDriver_63 (fun H locs hP hD hS => ?_)
    have hP : va_P (dC, dI) vwCl [(h, .inr (2, [.ref a0, .ref a1, .ref a2, .ref a3, .ref a4, .ref a5, .ref a6])), (a0, .inl (cI, 22, .inl (gl [m0, m1, m2, m3, m4, m5, m6, m7, m8, (m9 + 1), 0, 0, (-1), m13, m14, m2, 0, 0, 0, 4, 0, 16])))] H := hP
    have hD : va_D A [(h, .inr (2, [.ref a0, .ref a1, .ref a2, .ref a3, .ref a4, .ref a5, .ref a6])), (a0, .inl (cI, 22, .inl (gl [m0, m1, m2, m3, m4, m5, m6, m7, m8, (m9 + 1), 0, 0, (-1), m13, m14, m2, 0, 0, 0, 4, 0, 16])))] := hD
    refine lv_iload_n hx hb dX2_notifyDriver_64 rfl (lv_at hl 0 rfl) ?_
    refine lv_if_eq (tgt := 72) hx hb dX2_notifyDriver_65 (by decide) (fun c => absurd c c_1) (fun _ => ?_)
    refine lv_iconst (v := 1) hx hb dX2_notifyDriver_68 (by decide) ?_
    refine lv_goto (tgt := 73) hx hb dX2_notifyDriver_69 (by decide) ?_
    have e_0 : (pfX2_notifyDriver_g_r m2 m15) = 1 := by rw [pfX2_notifyDriver_g_r, if_neg c_1]
    have e_1 : (pfX2_notifyDriver_g_a0_9 m2 m9 m15) = (m9 + 1) := by rw [pfX2_notifyDriver_g_a0_9, if_neg c_1]
    have hP9 := hP.sub (ws' := [(h, .inr (2, [.ref a0, .ref a1, .ref a2, .ref a3, .ref a4, .ref a5, .ref a6])), (a0, .inl (cI, 22, .inl (gl [m0, m1, m2, m3, m4, m5, m6, m7, m8, (m9 + 1), 0, 0, (-1), m13, m14, m2, 0, 0, 0, 4, 0, 16])))]) [0, 1] rfl
    have hD9 := hD.sub (ws' := [(h, .inr (2, [.ref a0, .ref a1, .ref a2, .ref a3, .ref a4, .ref a5, .ref a6])), (a0, .inl (cI, 22, .inl (gl [m0, m1, m2, m3, m4, m5, m6, m7, m8, (m9 + 1), 0, 0, (-1), m13, m14, m2, 0, 0, 0, 4, 0, 16])))]) [0, 1] (by decide) rfl
    exact W.iret (v := 1) hx hb hr (fun t ht hW => ⟨⟨1, (), rfl, e_0.symm, by rw [ht, e_1]; exact hP9, va_K.moved hW.alike hK, (by rw [e_1]; exact hD9)⟩, hS.F ht⟩) hS.2.2 dX2_notifyDriver_73
