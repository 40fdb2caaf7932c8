theorem jrd {L : List Int32} {F : Nat → Int32} {k : Nat} (h : k < 2 ^ 31) (h24 : 24 ≤ k) : jn L F (nI k).toNatClampNeg = F k := by
  rw [nI_clamp h, jn_hi (by omega)]
theorem jwr {L : List Int32} {F : Nat → Int32} {k : Nat} {x : Int32} (h : k < 2 ^ 31) (h24 : 24 ≤ k) : upd (jn L F) (nI k).toNatClampNeg x = jn L (upd F k x) := by
  exact zup_jh (q := True) ⟨nI_clamp h, trivial⟩ (by omega)

set_option maxHeartbeats 4000000 in
set_option maxRecDepth 100000 in
theorem kkX8_of_0 (l : Launch) (dC : Nat → ClassId) (dI : Nat → Nat → Nat) (cI cB cZ cR : ClassId) (sz : Nat) (p1 : Int32) : Met l yX8_of (.code yX8_of cX8_of 2 (some .int) :: wsL_law) ({ frames := 0, cells := 0, slots := 0, locals := 0 }) (zPc dC dI (zT cI cB cZ cR) [.int p1, .int 0] sz []) (va_Qi (fun (r : Int32) (_ : Unit) => r = (168 + p1)) (fun _ : Unit => zB dC dI (zT cI cB cZ cR) (va_A [] sz) []) (va_A [] sz)) 0 0 (va_A [] sz) := by
  refine Met.ofW (cc := cX8_of) (maxL := 2) (ret := (some .int)) (by decide) rfl ?_
  intro p e s m args below meth c s₁ B hml hv
  obtain ⟨rfl, hsz, hP, hK, hD0, hN⟩ := hv
  have hx := B.exec
  have hb := B.bytes
  have hr := B.returns
  have hts := atoms_spec (ws := (.code yX8_of cX8_of 2 (some .int) :: wsL_law)) B.pre
  have hown : s.vm.findClass RX8 = some m.cls := findClass_of_methodNamed B.named
  have hlocks := B.notSynchronized
  subst hsz
  have hD := hD0.self (sz := s.heap.size)
  generalize hAe : va_A [] s.heap.size = A at hD ⊢
  have hA : ∀ q : Nat, s.heap.size ≤ q → A q := fun q h => by rw [← hAe]; exact Or.inr h
  have hP : va_P (dC, dI) vwCl [] s.heap := hP
  have hl := lv_entry ([.int p1, .int 0]) (n := 2) (Nat.le_of_ble_eq_true rfl)
  rw [lg_entry_eq]
  generalize (lg_sl ([.int p1, .int 0]) ++ List.replicate (2 - (lg_sl ([.int p1, .int 0])).length) Slot.unset).toArray = ls at hl ⊢
  have hl : lv_has ls 2 [(0, .int p1), (1, .int 0)] := hl
  obtain ⟨H, hH⟩ : ∃ H, H = s.heap := ⟨_, rfl⟩
  rw [← hH] at hP ⊢
  have hS : va_S A s.heap H [] := by rw [hH]; exact va_S.rf
  refine lv_sipush (v := 168) hx hb dX8_of_0 (by decide) ?_
  refine lv_sipush (v := 500) hx hb dX8_of_3 (by decide) ?_
  refine lv_iload_n hx hb dX8_of_6 rfl (lv_at hl 1 rfl) ?_
  refine lv_imul hx hb dX8_of_7 ?_
  refine tp (y := 0) (by decide) ?_
  refine lv_iadd hx hb dX8_of_8 ?_
  refine tp (y := 168) (by decide) ?_
  refine lv_iload_n hx hb dX8_of_9 rfl (lv_at hl 0 rfl) ?_
  refine lv_iadd hx hb dX8_of_10 ?_
  have hP9 := hP.sub (ws' := []) [] rfl
  have hD9 := hD.sub (ws' := []) [] (by decide) rfl
  exact W.iret (v := (168 + p1)) hx hb hr (fun t ht hW => ⟨⟨(168 + p1), (), rfl, rfl, by rw [ht]; exact hP9, va_K.moved hW.alike hK, hD9⟩, hS.F ht⟩) hS.2.2 dX8_of_11

set_option maxHeartbeats 4000000 in
set_option maxRecDepth 100000 in
theorem kkX8_of_1 (l : Launch) (dC : Nat → ClassId) (dI : Nat → Nat → Nat) (cI cB cZ cR : ClassId) (sz : Nat) (p1 : Int32) : Met l yX8_of (.code yX8_of cX8_of 2 (some .int) :: wsL_law) ({ frames := 0, cells := 0, slots := 0, locals := 0 }) (zPc dC dI (zT cI cB cZ cR) [.int p1, .int 1] sz []) (va_Qi (fun (r : Int32) (_ : Unit) => r = (668 + p1)) (fun _ : Unit => zB dC dI (zT cI cB cZ cR) (va_A [] sz) []) (va_A [] sz)) 0 0 (va_A [] sz) := by
  refine Met.ofW (cc := cX8_of) (maxL := 2) (ret := (some .int)) (by decide) rfl ?_
  intro p e s m args below meth c s₁ B hml hv
  obtain ⟨rfl, hsz, hP, hK, hD0, hN⟩ := hv
  have hx := B.exec
  have hb := B.bytes
  have hr := B.returns
  have hts := atoms_spec (ws := (.code yX8_of cX8_of 2 (some .int) :: wsL_law)) B.pre
  have hown : s.vm.findClass RX8 = some m.cls := findClass_of_methodNamed B.named
  have hlocks := B.notSynchronized
  subst hsz
  have hD := hD0.self (sz := s.heap.size)
  generalize hAe : va_A [] s.heap.size = A at hD ⊢
  have hA : ∀ q : Nat, s.heap.size ≤ q → A q := fun q h => by rw [← hAe]; exact Or.inr h
  have hP : va_P (dC, dI) vwCl [] s.heap := hP
  have hl := lv_entry ([.int p1, .int 1]) (n := 2) (Nat.le_of_ble_eq_true rfl)
  rw [lg_entry_eq]
  generalize (lg_sl ([.int p1, .int 1]) ++ List.replicate (2 - (lg_sl ([.int p1, .int 1])).length) Slot.unset).toArray = ls at hl ⊢
  have hl : lv_has ls 2 [(0, .int p1), (1, .int 1)] := hl
  obtain ⟨H, hH⟩ : ∃ H, H = s.heap := ⟨_, rfl⟩
  rw [← hH] at hP ⊢
  have hS : va_S A s.heap H [] := by rw [hH]; exact va_S.rf
  refine lv_sipush (v := 168) hx hb dX8_of_0 (by decide) ?_
  refine lv_sipush (v := 500) hx hb dX8_of_3 (by decide) ?_
  refine lv_iload_n hx hb dX8_of_6 rfl (lv_at hl 1 rfl) ?_
  refine lv_imul hx hb dX8_of_7 ?_
  refine tp (y := 500) (by decide) ?_
  refine lv_iadd hx hb dX8_of_8 ?_
  refine tp (y := 668) (by decide) ?_
  refine lv_iload_n hx hb dX8_of_9 rfl (lv_at hl 0 rfl) ?_
  refine lv_iadd hx hb dX8_of_10 ?_
  have hP9 := hP.sub (ws' := []) [] rfl
  have hD9 := hD.sub (ws' := []) [] (by decide) rfl
  exact W.iret (v := (668 + p1)) hx hb hr (fun t ht hW => ⟨⟨(668 + p1), (), rfl, rfl, by rw [ht]; exact hP9, va_K.moved hW.alike hK, hD9⟩, hS.F ht⟩) hS.2.2 dX8_of_11

set_option maxHeartbeats 4000000 in
set_option maxRecDepth 100000 in
theorem kkX8_of_2 (l : Launch) (dC : Nat → ClassId) (dI : Nat → Nat → Nat) (cI cB cZ cR : ClassId) (sz : Nat) (p1 : Int32) : Met l yX8_of (.code yX8_of cX8_of 2 (some .int) :: wsL_law) ({ frames := 0, cells := 0, slots := 0, locals := 0 }) (zPc dC dI (zT cI cB cZ cR) [.int p1, .int 2] sz []) (va_Qi (fun (r : Int32) (_ : Unit) => r = (1168 + p1)) (fun _ : Unit => zB dC dI (zT cI cB cZ cR) (va_A [] sz) []) (va_A [] sz)) 0 0 (va_A [] sz) := by
  refine Met.ofW (cc := cX8_of) (maxL := 2) (ret := (some .int)) (by decide) rfl ?_
  intro p e s m args below meth c s₁ B hml hv
  obtain ⟨rfl, hsz, hP, hK, hD0, hN⟩ := hv
  have hx := B.exec
  have hb := B.bytes
  have hr := B.returns
  have hts := atoms_spec (ws := (.code yX8_of cX8_of 2 (some .int) :: wsL_law)) B.pre
  have hown : s.vm.findClass RX8 = some m.cls := findClass_of_methodNamed B.named
  have hlocks := B.notSynchronized
  subst hsz
  have hD := hD0.self (sz := s.heap.size)
  generalize hAe : va_A [] s.heap.size = A at hD ⊢
  have hA : ∀ q : Nat, s.heap.size ≤ q → A q := fun q h => by rw [← hAe]; exact Or.inr h
  have hP : va_P (dC, dI) vwCl [] s.heap := hP
  have hl := lv_entry ([.int p1, .int 2]) (n := 2) (Nat.le_of_ble_eq_true rfl)
  rw [lg_entry_eq]
  generalize (lg_sl ([.int p1, .int 2]) ++ List.replicate (2 - (lg_sl ([.int p1, .int 2])).length) Slot.unset).toArray = ls at hl ⊢
  have hl : lv_has ls 2 [(0, .int p1), (1, .int 2)] := hl
  obtain ⟨H, hH⟩ : ∃ H, H = s.heap := ⟨_, rfl⟩
  rw [← hH] at hP ⊢
  have hS : va_S A s.heap H [] := by rw [hH]; exact va_S.rf
  refine lv_sipush (v := 168) hx hb dX8_of_0 (by decide) ?_
  refine lv_sipush (v := 500) hx hb dX8_of_3 (by decide) ?_
  refine lv_iload_n hx hb dX8_of_6 rfl (lv_at hl 1 rfl) ?_
  refine lv_imul hx hb dX8_of_7 ?_
  refine tp (y := 1000) (by decide) ?_
  refine lv_iadd hx hb dX8_of_8 ?_
  refine tp (y := 1168) (by decide) ?_
  refine lv_iload_n hx hb dX8_of_9 rfl (lv_at hl 0 rfl) ?_
  refine lv_iadd hx hb dX8_of_10 ?_
  have hP9 := hP.sub (ws' := []) [] rfl
  have hD9 := hD.sub (ws' := []) [] (by decide) rfl
  exact W.iret (v := (1168 + p1)) hx hb hr (fun t ht hW => ⟨⟨(1168 + p1), (), rfl, rfl, by rw [ht]; exact hP9, va_K.moved hW.alike hK, hD9⟩, hS.F ht⟩) hS.2.2 dX8_of_11

set_option maxHeartbeats 4000000 in
set_option maxRecDepth 100000 in
theorem kkX8_of_3 (l : Launch) (dC : Nat → ClassId) (dI : Nat → Nat → Nat) (cI cB cZ cR : ClassId) (sz : Nat) (p1 : Int32) : Met l yX8_of (.code yX8_of cX8_of 2 (some .int) :: wsL_law) ({ frames := 0, cells := 0, slots := 0, locals := 0 }) (zPc dC dI (zT cI cB cZ cR) [.int p1, .int 3] sz []) (va_Qi (fun (r : Int32) (_ : Unit) => r = (1668 + p1)) (fun _ : Unit => zB dC dI (zT cI cB cZ cR) (va_A [] sz) []) (va_A [] sz)) 0 0 (va_A [] sz) := by
  refine Met.ofW (cc := cX8_of) (maxL := 2) (ret := (some .int)) (by decide) rfl ?_
  intro p e s m args below meth c s₁ B hml hv
  obtain ⟨rfl, hsz, hP, hK, hD0, hN⟩ := hv
  have hx := B.exec
  have hb := B.bytes
  have hr := B.returns
  have hts := atoms_spec (ws := (.code yX8_of cX8_of 2 (some .int) :: wsL_law)) B.pre
  have hown : s.vm.findClass RX8 = some m.cls := findClass_of_methodNamed B.named
  have hlocks := B.notSynchronized
  subst hsz
  have hD := hD0.self (sz := s.heap.size)
  generalize hAe : va_A [] s.heap.size = A at hD ⊢
  have hA : ∀ q : Nat, s.heap.size ≤ q → A q := fun q h => by rw [← hAe]; exact Or.inr h
  have hP : va_P (dC, dI) vwCl [] s.heap := hP
  have hl := lv_entry ([.int p1, .int 3]) (n := 2) (Nat.le_of_ble_eq_true rfl)
  rw [lg_entry_eq]
  generalize (lg_sl ([.int p1, .int 3]) ++ List.replicate (2 - (lg_sl ([.int p1, .int 3])).length) Slot.unset).toArray = ls at hl ⊢
  have hl : lv_has ls 2 [(0, .int p1), (1, .int 3)] := hl
  obtain ⟨H, hH⟩ : ∃ H, H = s.heap := ⟨_, rfl⟩
  rw [← hH] at hP ⊢
  have hS : va_S A s.heap H [] := by rw [hH]; exact va_S.rf
  refine lv_sipush (v := 168) hx hb dX8_of_0 (by decide) ?_
  refine lv_sipush (v := 500) hx hb dX8_of_3 (by decide) ?_
  refine lv_iload_n hx hb dX8_of_6 rfl (lv_at hl 1 rfl) ?_
  refine lv_imul hx hb dX8_of_7 ?_
  refine tp (y := 1500) (by decide) ?_
  refine lv_iadd hx hb dX8_of_8 ?_
  refine tp (y := 1668) (by decide) ?_
  refine lv_iload_n hx hb dX8_of_9 rfl (lv_at hl 0 rfl) ?_
  refine lv_iadd hx hb dX8_of_10 ?_
  have hP9 := hP.sub (ws' := []) [] rfl
  have hD9 := hD.sub (ws' := []) [] (by decide) rfl
  exact W.iret (v := (1668 + p1)) hx hb hr (fun t ht hW => ⟨⟨(1668 + p1), (), rfl, rfl, by rw [ht]; exact hP9, va_K.moved hW.alike hK, hD9⟩, hS.F ht⟩) hS.2.2 dX8_of_11

set_option maxHeartbeats 4000000 in
set_option maxRecDepth 100000 in
theorem kkX8_of_4 (l : Launch) (dC : Nat → ClassId) (dI : Nat → Nat → Nat) (cI cB cZ cR : ClassId) (sz : Nat) (p1 : Int32) : Met l yX8_of (.code yX8_of cX8_of 2 (some .int) :: wsL_law) ({ frames := 0, cells := 0, slots := 0, locals := 0 }) (zPc dC dI (zT cI cB cZ cR) [.int p1, .int 4] sz []) (va_Qi (fun (r : Int32) (_ : Unit) => r = (2168 + p1)) (fun _ : Unit => zB dC dI (zT cI cB cZ cR) (va_A [] sz) []) (va_A [] sz)) 0 0 (va_A [] sz) := by
  refine Met.ofW (cc := cX8_of) (maxL := 2) (ret := (some .int)) (by decide) rfl ?_
  intro p e s m args below meth c s₁ B hml hv
  obtain ⟨rfl, hsz, hP, hK, hD0, hN⟩ := hv
  have hx := B.exec
  have hb := B.bytes
  have hr := B.returns
  have hts := atoms_spec (ws := (.code yX8_of cX8_of 2 (some .int) :: wsL_law)) B.pre
  have hown : s.vm.findClass RX8 = some m.cls := findClass_of_methodNamed B.named
  have hlocks := B.notSynchronized
  subst hsz
  have hD := hD0.self (sz := s.heap.size)
  generalize hAe : va_A [] s.heap.size = A at hD ⊢
  have hA : ∀ q : Nat, s.heap.size ≤ q → A q := fun q h => by rw [← hAe]; exact Or.inr h
  have hP : va_P (dC, dI) vwCl [] s.heap := hP
  have hl := lv_entry ([.int p1, .int 4]) (n := 2) (Nat.le_of_ble_eq_true rfl)
  rw [lg_entry_eq]
  generalize (lg_sl ([.int p1, .int 4]) ++ List.replicate (2 - (lg_sl ([.int p1, .int 4])).length) Slot.unset).toArray = ls at hl ⊢
  have hl : lv_has ls 2 [(0, .int p1), (1, .int 4)] := hl
  obtain ⟨H, hH⟩ : ∃ H, H = s.heap := ⟨_, rfl⟩
  rw [← hH] at hP ⊢
  have hS : va_S A s.heap H [] := by rw [hH]; exact va_S.rf
  refine lv_sipush (v := 168) hx hb dX8_of_0 (by decide) ?_
  refine lv_sipush (v := 500) hx hb dX8_of_3 (by decide) ?_
  refine lv_iload_n hx hb dX8_of_6 rfl (lv_at hl 1 rfl) ?_
  refine lv_imul hx hb dX8_of_7 ?_
  refine tp (y := 2000) (by decide) ?_
  refine lv_iadd hx hb dX8_of_8 ?_
  refine tp (y := 2168) (by decide) ?_
  refine lv_iload_n hx hb dX8_of_9 rfl (lv_at hl 0 rfl) ?_
  refine lv_iadd hx hb dX8_of_10 ?_
  have hP9 := hP.sub (ws' := []) [] rfl
  have hD9 := hD.sub (ws' := []) [] (by decide) rfl
  exact W.iret (v := (2168 + p1)) hx hb hr (fun t ht hW => ⟨⟨(2168 + p1), (), rfl, rfl, by rw [ht]; exact hP9, va_K.moved hW.alike hK, hD9⟩, hS.F ht⟩) hS.2.2 dX8_of_11

set_option maxHeartbeats 4000000 in
set_option maxRecDepth 100000 in
theorem kkX8_of_5 (l : Launch) (dC : Nat → ClassId) (dI : Nat → Nat → Nat) (cI cB cZ cR : ClassId) (sz : Nat) (p1 : Int32) : Met l yX8_of (.code yX8_of cX8_of 2 (some .int) :: wsL_law) ({ frames := 0, cells := 0, slots := 0, locals := 0 }) (zPc dC dI (zT cI cB cZ cR) [.int p1, .int 5] sz []) (va_Qi (fun (r : Int32) (_ : Unit) => r = (2668 + p1)) (fun _ : Unit => zB dC dI (zT cI cB cZ cR) (va_A [] sz) []) (va_A [] sz)) 0 0 (va_A [] sz) := by
  refine Met.ofW (cc := cX8_of) (maxL := 2) (ret := (some .int)) (by decide) rfl ?_
  intro p e s m args below meth c s₁ B hml hv
  obtain ⟨rfl, hsz, hP, hK, hD0, hN⟩ := hv
  have hx := B.exec
  have hb := B.bytes
  have hr := B.returns
  have hts := atoms_spec (ws := (.code yX8_of cX8_of 2 (some .int) :: wsL_law)) B.pre
  have hown : s.vm.findClass RX8 = some m.cls := findClass_of_methodNamed B.named
  have hlocks := B.notSynchronized
  subst hsz
  have hD := hD0.self (sz := s.heap.size)
  generalize hAe : va_A [] s.heap.size = A at hD ⊢
  have hA : ∀ q : Nat, s.heap.size ≤ q → A q := fun q h => by rw [← hAe]; exact Or.inr h
  have hP : va_P (dC, dI) vwCl [] s.heap := hP
  have hl := lv_entry ([.int p1, .int 5]) (n := 2) (Nat.le_of_ble_eq_true rfl)
  rw [lg_entry_eq]
  generalize (lg_sl ([.int p1, .int 5]) ++ List.replicate (2 - (lg_sl ([.int p1, .int 5])).length) Slot.unset).toArray = ls at hl ⊢
  have hl : lv_has ls 2 [(0, .int p1), (1, .int 5)] := hl
  obtain ⟨H, hH⟩ : ∃ H, H = s.heap := ⟨_, rfl⟩
  rw [← hH] at hP ⊢
  have hS : va_S A s.heap H [] := by rw [hH]; exact va_S.rf
  refine lv_sipush (v := 168) hx hb dX8_of_0 (by decide) ?_
  refine lv_sipush (v := 500) hx hb dX8_of_3 (by decide) ?_
  refine lv_iload_n hx hb dX8_of_6 rfl (lv_at hl 1 rfl) ?_
  refine lv_imul hx hb dX8_of_7 ?_
  refine tp (y := 2500) (by decide) ?_
  refine lv_iadd hx hb dX8_of_8 ?_
  refine tp (y := 2668) (by decide) ?_
  refine lv_iload_n hx hb dX8_of_9 rfl (lv_at hl 0 rfl) ?_
  refine lv_iadd hx hb dX8_of_10 ?_
  have hP9 := hP.sub (ws' := []) [] rfl
  have hD9 := hD.sub (ws' := []) [] (by decide) rfl
  exact W.iret (v := (2668 + p1)) hx hb hr (fun t ht hW => ⟨⟨(2668 + p1), (), rfl, rfl, by rw [ht]; exact hP9, va_K.moved hW.alike hK, hD9⟩, hS.F ht⟩) hS.2.2 dX8_of_11

set_option maxHeartbeats 4000000 in
set_option maxRecDepth 100000 in
theorem kkX8_of_6 (l : Launch) (dC : Nat → ClassId) (dI : Nat → Nat → Nat) (cI cB cZ cR : ClassId) (sz : Nat) (p1 : Int32) : Met l yX8_of (.code yX8_of cX8_of 2 (some .int) :: wsL_law) ({ frames := 0, cells := 0, slots := 0, locals := 0 }) (zPc dC dI (zT cI cB cZ cR) [.int p1, .int 6] sz []) (va_Qi (fun (r : Int32) (_ : Unit) => r = (3168 + p1)) (fun _ : Unit => zB dC dI (zT cI cB cZ cR) (va_A [] sz) []) (va_A [] sz)) 0 0 (va_A [] sz) := by
  refine Met.ofW (cc := cX8_of) (maxL := 2) (ret := (some .int)) (by decide) rfl ?_
  intro p e s m args below meth c s₁ B hml hv
  obtain ⟨rfl, hsz, hP, hK, hD0, hN⟩ := hv
  have hx := B.exec
  have hb := B.bytes
  have hr := B.returns
  have hts := atoms_spec (ws := (.code yX8_of cX8_of 2 (some .int) :: wsL_law)) B.pre
  have hown : s.vm.findClass RX8 = some m.cls := findClass_of_methodNamed B.named
  have hlocks := B.notSynchronized
  subst hsz
  have hD := hD0.self (sz := s.heap.size)
  generalize hAe : va_A [] s.heap.size = A at hD ⊢
  have hA : ∀ q : Nat, s.heap.size ≤ q → A q := fun q h => by rw [← hAe]; exact Or.inr h
  have hP : va_P (dC, dI) vwCl [] s.heap := hP
  have hl := lv_entry ([.int p1, .int 6]) (n := 2) (Nat.le_of_ble_eq_true rfl)
  rw [lg_entry_eq]
  generalize (lg_sl ([.int p1, .int 6]) ++ List.replicate (2 - (lg_sl ([.int p1, .int 6])).length) Slot.unset).toArray = ls at hl ⊢
  have hl : lv_has ls 2 [(0, .int p1), (1, .int 6)] := hl
  obtain ⟨H, hH⟩ : ∃ H, H = s.heap := ⟨_, rfl⟩
  rw [← hH] at hP ⊢
  have hS : va_S A s.heap H [] := by rw [hH]; exact va_S.rf
  refine lv_sipush (v := 168) hx hb dX8_of_0 (by decide) ?_
  refine lv_sipush (v := 500) hx hb dX8_of_3 (by decide) ?_
  refine lv_iload_n hx hb dX8_of_6 rfl (lv_at hl 1 rfl) ?_
  refine lv_imul hx hb dX8_of_7 ?_
  refine tp (y := 3000) (by decide) ?_
  refine lv_iadd hx hb dX8_of_8 ?_
  refine tp (y := 3168) (by decide) ?_
  refine lv_iload_n hx hb dX8_of_9 rfl (lv_at hl 0 rfl) ?_
  refine lv_iadd hx hb dX8_of_10 ?_
  have hP9 := hP.sub (ws' := []) [] rfl
  have hD9 := hD.sub (ws' := []) [] (by decide) rfl
  exact W.iret (v := (3168 + p1)) hx hb hr (fun t ht hW => ⟨⟨(3168 + p1), (), rfl, rfl, by rw [ht]; exact hP9, va_K.moved hW.alike hK, hD9⟩, hS.F ht⟩) hS.2.2 dX8_of_11

set_option maxHeartbeats 4000000 in
set_option maxRecDepth 100000 in
theorem kkX8_of_7 (l : Launch) (dC : Nat → ClassId) (dI : Nat → Nat → Nat) (cI cB cZ cR : ClassId) (sz : Nat) (p1 : Int32) : Met l yX8_of (.code yX8_of cX8_of 2 (some .int) :: wsL_law) ({ frames := 0, cells := 0, slots := 0, locals := 0 }) (zPc dC dI (zT cI cB cZ cR) [.int p1, .int 7] sz []) (va_Qi (fun (r : Int32) (_ : Unit) => r = (3668 + p1)) (fun _ : Unit => zB dC dI (zT cI cB cZ cR) (va_A [] sz) []) (va_A [] sz)) 0 0 (va_A [] sz) := by
  refine Met.ofW (cc := cX8_of) (maxL := 2) (ret := (some .int)) (by decide) rfl ?_
  intro p e s m args below meth c s₁ B hml hv
  obtain ⟨rfl, hsz, hP, hK, hD0, hN⟩ := hv
  have hx := B.exec
  have hb := B.bytes
  have hr := B.returns
  have hts := atoms_spec (ws := (.code yX8_of cX8_of 2 (some .int) :: wsL_law)) B.pre
  have hown : s.vm.findClass RX8 = some m.cls := findClass_of_methodNamed B.named
  have hlocks := B.notSynchronized
  subst hsz
  have hD := hD0.self (sz := s.heap.size)
  generalize hAe : va_A [] s.heap.size = A at hD ⊢
  have hA : ∀ q : Nat, s.heap.size ≤ q → A q := fun q h => by rw [← hAe]; exact Or.inr h
  have hP : va_P (dC, dI) vwCl [] s.heap := hP
  have hl := lv_entry ([.int p1, .int 7]) (n := 2) (Nat.le_of_ble_eq_true rfl)
  rw [lg_entry_eq]
  generalize (lg_sl ([.int p1, .int 7]) ++ List.replicate (2 - (lg_sl ([.int p1, .int 7])).length) Slot.unset).toArray = ls at hl ⊢
  have hl : lv_has ls 2 [(0, .int p1), (1, .int 7)] := hl
  obtain ⟨H, hH⟩ : ∃ H, H = s.heap := ⟨_, rfl⟩
  rw [← hH] at hP ⊢
  have hS : va_S A s.heap H [] := by rw [hH]; exact va_S.rf
  refine lv_sipush (v := 168) hx hb dX8_of_0 (by decide) ?_
  refine lv_sipush (v := 500) hx hb dX8_of_3 (by decide) ?_
  refine lv_iload_n hx hb dX8_of_6 rfl (lv_at hl 1 rfl) ?_
  refine lv_imul hx hb dX8_of_7 ?_
  refine tp (y := 3500) (by decide) ?_
  refine lv_iadd hx hb dX8_of_8 ?_
  refine tp (y := 3668) (by decide) ?_
  refine lv_iload_n hx hb dX8_of_9 rfl (lv_at hl 0 rfl) ?_
  refine lv_iadd hx hb dX8_of_10 ?_
  have hP9 := hP.sub (ws' := []) [] rfl
  have hD9 := hD.sub (ws' := []) [] (by decide) rfl
  exact W.iret (v := (3668 + p1)) hx hb hr (fun t ht hW => ⟨⟨(3668 + p1), (), rfl, rfl, by rw [ht]; exact hP9, va_K.moved hW.alike hK, hD9⟩, hS.F ht⟩) hS.2.2 dX8_of_11

set_option maxHeartbeats 4000000 in
set_option maxRecDepth 100000 in
theorem kkX8_of_8 (l : Launch) (dC : Nat → ClassId) (dI : Nat → Nat → Nat) (cI cB cZ cR : ClassId) (sz : Nat) (p1 : Int32) : Met l yX8_of (.code yX8_of cX8_of 2 (some .int) :: wsL_law) ({ frames := 0, cells := 0, slots := 0, locals := 0 }) (zPc dC dI (zT cI cB cZ cR) [.int p1, .int 8] sz []) (va_Qi (fun (r : Int32) (_ : Unit) => r = (4168 + p1)) (fun _ : Unit => zB dC dI (zT cI cB cZ cR) (va_A [] sz) []) (va_A [] sz)) 0 0 (va_A [] sz) := by
  refine Met.ofW (cc := cX8_of) (maxL := 2) (ret := (some .int)) (by decide) rfl ?_
  intro p e s m args below meth c s₁ B hml hv
  obtain ⟨rfl, hsz, hP, hK, hD0, hN⟩ := hv
  have hx := B.exec
  have hb := B.bytes
  have hr := B.returns
  have hts := atoms_spec (ws := (.code yX8_of cX8_of 2 (some .int) :: wsL_law)) B.pre
  have hown : s.vm.findClass RX8 = some m.cls := findClass_of_methodNamed B.named
  have hlocks := B.notSynchronized
  subst hsz
  have hD := hD0.self (sz := s.heap.size)
  generalize hAe : va_A [] s.heap.size = A at hD ⊢
  have hA : ∀ q : Nat, s.heap.size ≤ q → A q := fun q h => by rw [← hAe]; exact Or.inr h
  have hP : va_P (dC, dI) vwCl [] s.heap := hP
  have hl := lv_entry ([.int p1, .int 8]) (n := 2) (Nat.le_of_ble_eq_true rfl)
  rw [lg_entry_eq]
  generalize (lg_sl ([.int p1, .int 8]) ++ List.replicate (2 - (lg_sl ([.int p1, .int 8])).length) Slot.unset).toArray = ls at hl ⊢
  have hl : lv_has ls 2 [(0, .int p1), (1, .int 8)] := hl
  obtain ⟨H, hH⟩ : ∃ H, H = s.heap := ⟨_, rfl⟩
  rw [← hH] at hP ⊢
  have hS : va_S A s.heap H [] := by rw [hH]; exact va_S.rf
  refine lv_sipush (v := 168) hx hb dX8_of_0 (by decide) ?_
  refine lv_sipush (v := 500) hx hb dX8_of_3 (by decide) ?_
  refine lv_iload_n hx hb dX8_of_6 rfl (lv_at hl 1 rfl) ?_
  refine lv_imul hx hb dX8_of_7 ?_
  refine tp (y := 4000) (by decide) ?_
  refine lv_iadd hx hb dX8_of_8 ?_
  refine tp (y := 4168) (by decide) ?_
  refine lv_iload_n hx hb dX8_of_9 rfl (lv_at hl 0 rfl) ?_
  refine lv_iadd hx hb dX8_of_10 ?_
  have hP9 := hP.sub (ws' := []) [] rfl
  have hD9 := hD.sub (ws' := []) [] (by decide) rfl
  exact W.iret (v := (4168 + p1)) hx hb hr (fun t ht hW => ⟨⟨(4168 + p1), (), rfl, rfl, by rw [ht]; exact hP9, va_K.moved hW.alike hK, hD9⟩, hS.F ht⟩) hS.2.2 dX8_of_11

set_option maxHeartbeats 4000000 in
set_option maxRecDepth 100000 in
theorem kkX8_isPacked_d (l : Launch) (dC : Nat → ClassId) (dI : Nat → Nat → Nat) (cI cB cZ cR : ClassId) (sz : Nat) (y : Nat) (yt : Nat) (yr : Nat) (yk : Nat) (yz : Nat) (yp : Nat) (yl : Nat) (yw : Nat) (yd : Nat) (ys : Nat) (yn : Nat) (ym : Nat) (yf : Nat) (yo : Nat) (yh : Nat) (yb : Nat) (yx : Nat) (v1 : Int32) (v2 : Int32) (v7 : Int32) (v8 : Int32) (v9 : Int32) (v10 : Int32) (v13 : Int32) (v14 : Int32) (v15 : Int32) (v16 : Int32) (v17 : Int32) (v18 : Int32) (v19 : Int32) (v20 : Int32) (v21 : Int32) (v23 : Int32) (v27 : Int32) (v32 : Int32) (v33 : Int32) (v34 : Int32) (v35 : Int32) (v36 : Int32) (v37 : Int32) (v38 : Int32) (v40 : Int32) (v41 : Int32) (v42 : Int32) (oo : Nat) (sn : Nat) (us : Nat) (tk : Nat) (bb : Nat) (e7 : Int32) (e8 : Int32) (e13 : Int32) (e14 : Int32) (e15 : Int32) (e18 : Int32) (gr : Nat → Int32) : Met l yX8_isPacked (.code yX8_isPacked cX8_isPacked 1 (some .boolean) :: wsL_law) ({ frames := 0, cells := 0, slots := 0, locals := 0 }) (zPc dC dI (zT cI cB cZ cR) [.ref y] sz [(y, .inr (8, [.ref yt, .int v1, .int v2, .ref yr, .ref yk, .ref yz, .ref yp, .int v7, .int v8, .int v9, .int v10, .ref yl, .ref yw, .int v13, .int v14, .int v15, .int v16, .int v17, .int v18, .int v19, .int v20, .int v21, .ref yd, .int v23, .ref ys, .ref yn, .ref ym, .int v27, .ref yf, .ref yo, .ref yh, .ref yb, .int v32, .int v33, .int v34, .int v35, .int v36, .int v37, .int v38, .ref yx, .int v40, .int v41, .int v42])), (yr, .inl (cI, 4668, .inl (jn [0, 4, 0, (nI oo), (nI sn), (nI us), (nI tk), e7, e8, 0, 0, 0, 0, e13, e14, e15, (nI bb), (-1), e18, 0, 0, 0, 0, 0] gr)))]) (va_Qi (fun (r : Int32) (_ : Unit) => r = 0) (fun _ : Unit => zB dC dI (zT cI cB cZ cR) (va_A [(y, .inr (8, [.ref yt, .int v1, .int v2, .ref yr, .ref yk, .ref yz, .ref yp, .int v7, .int v8, .int v9, .int v10, .ref yl, .ref yw, .int v13, .int v14, .int v15, .int v16, .int v17, .int v18, .int v19, .int v20, .int v21, .ref yd, .int v23, .ref ys, .ref yn, .ref ym, .int v27, .ref yf, .ref yo, .ref yh, .ref yb, .int v32, .int v33, .int v34, .int v35, .int v36, .int v37, .int v38, .ref yx, .int v40, .int v41, .int v42])), (yr, .inl (cI, 4668, .inl (jn [0, 4, 0, (nI oo), (nI sn), (nI us), (nI tk), e7, e8, 0, 0, 0, 0, e13, e14, e15, (nI bb), (-1), e18, 0, 0, 0, 0, 0] gr)))] sz) [(y, .inr (8, [.ref yt, .int v1, .int v2, .ref yr, .ref yk, .ref yz, .ref yp, .int v7, .int v8, .int v9, .int v10, .ref yl, .ref yw, .int v13, .int v14, .int v15, .int v16, .int v17, .int v18, .int v19, .int v20, .int v21, .ref yd, .int v23, .ref ys, .ref yn, .ref ym, .int v27, .ref yf, .ref yo, .ref yh, .ref yb, .int v32, .int v33, .int v34, .int v35, .int v36, .int v37, .int v38, .ref yx, .int v40, .int v41, .int v42])), (yr, .inl (cI, 4668, .inl (jn [0, 4, 0, (nI oo), (nI sn), (nI us), (nI tk), e7, e8, 0, 0, 0, 0, e13, e14, e15, (nI bb), (-1), e18, 0, 0, 0, 0, 0] gr)))]) (va_A [(y, .inr (8, [.ref yt, .int v1, .int v2, .ref yr, .ref yk, .ref yz, .ref yp, .int v7, .int v8, .int v9, .int v10, .ref yl, .ref yw, .int v13, .int v14, .int v15, .int v16, .int v17, .int v18, .int v19, .int v20, .int v21, .ref yd, .int v23, .ref ys, .ref yn, .ref ym, .int v27, .ref yf, .ref yo, .ref yh, .ref yb, .int v32, .int v33, .int v34, .int v35, .int v36, .int v37, .int v38, .ref yx, .int v40, .int v41, .int v42])), (yr, .inl (cI, 4668, .inl (jn [0, 4, 0, (nI oo), (nI sn), (nI us), (nI tk), e7, e8, 0, 0, 0, 0, e13, e14, e15, (nI bb), (-1), e18, 0, 0, 0, 0, 0] gr)))] sz)) 0 0 (va_A [(y, .inr (8, [.ref yt, .int v1, .int v2, .ref yr, .ref yk, .ref yz, .ref yp, .int v7, .int v8, .int v9, .int v10, .ref yl, .ref yw, .int v13, .int v14, .int v15, .int v16, .int v17, .int v18, .int v19, .int v20, .int v21, .ref yd, .int v23, .ref ys, .ref yn, .ref ym, .int v27, .ref yf, .ref yo, .ref yh, .ref yb, .int v32, .int v33, .int v34, .int v35, .int v36, .int v37, .int v38, .ref yx, .int v40, .int v41, .int v42])), (yr, .inl (cI, 4668, .inl (jn [0, 4, 0, (nI oo), (nI sn), (nI us), (nI tk), e7, e8, 0, 0, 0, 0, e13, e14, e15, (nI bb), (-1), e18, 0, 0, 0, 0, 0] gr)))] sz) := by
  refine Met.ofW (cc := cX8_isPacked) (maxL := 1) (ret := (some .boolean)) (by decide) rfl ?_
  intro p e s m args below meth c s₁ B hml hv
  obtain ⟨rfl, hsz, hP, hK, hD0, hN⟩ := hv
  have hx := B.exec
  have hb := B.bytes
  have hr := B.returns
  have hts := atoms_spec (ws := (.code yX8_isPacked cX8_isPacked 1 (some .boolean) :: wsL_law)) B.pre
  have hown : s.vm.findClass RX8 = some m.cls := findClass_of_methodNamed B.named
  have hlocks := B.notSynchronized
  have hinX8 : ∀ w ∈ u_ws RX8 TX8 43, w ∈ (.code yX8_isPacked cX8_isPacked 1 (some .boolean) :: wsL_law) := fun w h => List.mem_cons_of_mem _ (inlX8 w h)
  have k_0 := hts (.fieldLink RX8 13 "RingMarksModel" "\x72" "[I") (List.mem_cons_of_mem _ wm_128)
  subst hsz
  have hD := hD0.self (sz := s.heap.size)
  generalize hAe : va_A [(y, .inr (8, [.ref yt, .int v1, .int v2, .ref yr, .ref yk, .ref yz, .ref yp, .int v7, .int v8, .int v9, .int v10, .ref yl, .ref yw, .int v13, .int v14, .int v15, .int v16, .int v17, .int v18, .int v19, .int v20, .int v21, .ref yd, .int v23, .ref ys, .ref yn, .ref ym, .int v27, .ref yf, .ref yo, .ref yh, .ref yb, .int v32, .int v33, .int v34, .int v35, .int v36, .int v37, .int v38, .ref yx, .int v40, .int v41, .int v42])), (yr, .inl (cI, 4668, .inl (jn [0, 4, 0, (nI oo), (nI sn), (nI us), (nI tk), e7, e8, 0, 0, 0, 0, e13, e14, e15, (nI bb), (-1), e18, 0, 0, 0, 0, 0] gr)))] s.heap.size = A at hD ⊢
  have hA : ∀ q : Nat, s.heap.size ≤ q → A q := fun q h => by rw [← hAe]; exact Or.inr h
  have hP : va_P (dC, dI) vwCl [(y, .inr (8, [.ref yt, .int v1, .int v2, .ref yr, .ref yk, .ref yz, .ref yp, .int v7, .int v8, .int v9, .int v10, .ref yl, .ref yw, .int v13, .int v14, .int v15, .int v16, .int v17, .int v18, .int v19, .int v20, .int v21, .ref yd, .int v23, .ref ys, .ref yn, .ref ym, .int v27, .ref yf, .ref yo, .ref yh, .ref yb, .int v32, .int v33, .int v34, .int v35, .int v36, .int v37, .int v38, .ref yx, .int v40, .int v41, .int v42])), (yr, .inl (cI, 4668, .inl (jn [0, 4, 0, (nI oo), (nI sn), (nI us), (nI tk), e7, e8, 0, 0, 0, 0, e13, e14, e15, (nI bb), (-1), e18, 0, 0, 0, 0, 0] gr)))] s.heap := hP
  have hl := lv_entry ([.ref y]) (n := 1) (Nat.le_of_ble_eq_true rfl)
  rw [lg_entry_eq]
  generalize (lg_sl ([.ref y]) ++ List.replicate (1 - (lg_sl ([.ref y])).length) Slot.unset).toArray = ls at hl ⊢
  have hl : lv_has ls 1 [(0, .ref y)] := hl
  obtain ⟨H, hH⟩ : ∃ H, H = s.heap := ⟨_, rfl⟩
  rw [← hH] at hP ⊢
  have hS : va_S A s.heap H [] := by rw [hH]; exact va_S.rf
  refine lv_aload_n hx hb dX8_isPacked_0 rfl (lv_at hl 0 rfl) ?_
  refine va_get (D := (dC, dI)) (ci := 8) (v := .ref yr) (C := RX8) (T := TX8) (N := 43) hx hb hts hinX8 hown hK hP 0 rfl rfl 3 (by decide) k_0 (fun _ h9 => h9) rfl dX8_isPacked_1 ?_
  refine lv_iconst (v := 0) hx hb dX8_isPacked_4 (by decide) ?_
  refine za_iald (v := 0) hx hb hK hP 1 0 rfl rfl (zin tn_0 (Nat.le_of_ble_eq_true rfl)) (zrd _ tn_0 rfl) dX8_isPacked_5 ?_
  refine lv_iconst (v := 1) hx hb dX8_isPacked_6 (by decide) ?_
  refine lv_icmp_ne (tgt := 14) hx hb dX8_isPacked_7 (by decide) (fun _ => ?_) (fun c => absurd c (by decide))
  refine lv_iconst (v := 0) hx hb dX8_isPacked_14 (by decide) ?_
  have hP9 := hP.sub (ws' := [(y, .inr (8, [.ref yt, .int v1, .int v2, .ref yr, .ref yk, .ref yz, .ref yp, .int v7, .int v8, .int v9, .int v10, .ref yl, .ref yw, .int v13, .int v14, .int v15, .int v16, .int v17, .int v18, .int v19, .int v20, .int v21, .ref yd, .int v23, .ref ys, .ref yn, .ref ym, .int v27, .ref yf, .ref yo, .ref yh, .ref yb, .int v32, .int v33, .int v34, .int v35, .int v36, .int v37, .int v38, .ref yx, .int v40, .int v41, .int v42])), (yr, .inl (cI, 4668, .inl (jn [0, 4, 0, (nI oo), (nI sn), (nI us), (nI tk), e7, e8, 0, 0, 0, 0, e13, e14, e15, (nI bb), (-1), e18, 0, 0, 0, 0, 0] gr)))]) [0, 1] rfl
  have hD9 := hD.sub (ws' := [(y, .inr (8, [.ref yt, .int v1, .int v2, .ref yr, .ref yk, .ref yz, .ref yp, .int v7, .int v8, .int v9, .int v10, .ref yl, .ref yw, .int v13, .int v14, .int v15, .int v16, .int v17, .int v18, .int v19, .int v20, .int v21, .ref yd, .int v23, .ref ys, .ref yn, .ref ym, .int v27, .ref yf, .ref yo, .ref yh, .ref yb, .int v32, .int v33, .int v34, .int v35, .int v36, .int v37, .int v38, .ref yx, .int v40, .int v41, .int v42])), (yr, .inl (cI, 4668, .inl (jn [0, 4, 0, (nI oo), (nI sn), (nI us), (nI tk), e7, e8, 0, 0, 0, 0, e13, e14, e15, (nI bb), (-1), e18, 0, 0, 0, 0, 0] gr)))]) [0, 1] (by decide) rfl
  exact W.zret (v := 0) hx hb hr rfl (fun t ht hW => ⟨⟨0, (), rfl, rfl, by rw [ht]; exact hP9, va_K.moved hW.alike hK, hD9⟩, hS.F ht⟩) hS.2.2 dX8_isPacked_15

def pfX8_isOut_r (gr : Nat → Int32) (b : Nat) : Int32 := if 3 ≤ (gr ((168 + b))) then 0 else 1
set_option maxHeartbeats 4000000 in
set_option maxRecDepth 100000 in
theorem kkX8_isOut (l : Launch) (dC : Nat → ClassId) (dI : Nat → Nat → Nat) (cI cB cZ cR : ClassId) (sz : Nat) (y : Nat) (yt : Nat) (yr : Nat) (yk : Nat) (yz : Nat) (yp : Nat) (yl : Nat) (yw : Nat) (yd : Nat) (ys : Nat) (yn : Nat) (ym : Nat) (yf : Nat) (yo : Nat) (yh : Nat) (yb : Nat) (yx : Nat) (v1 : Int32) (v2 : Int32) (v7 : Int32) (v8 : Int32) (v9 : Int32) (v10 : Int32) (v13 : Int32) (v14 : Int32) (v15 : Int32) (v16 : Int32) (v17 : Int32) (v18 : Int32) (v19 : Int32) (v20 : Int32) (v21 : Int32) (v23 : Int32) (v27 : Int32) (v32 : Int32) (v33 : Int32) (v34 : Int32) (v35 : Int32) (v36 : Int32) (v37 : Int32) (v38 : Int32) (v40 : Int32) (v41 : Int32) (v42 : Int32) (oo : Nat) (sn : Nat) (us : Nat) (tk : Nat) (bb : Nat) (e7 : Int32) (e8 : Int32) (e13 : Int32) (e14 : Int32) (e15 : Int32) (e18 : Int32) (gr : Nat → Int32) (b : Nat) (hb : b < 500) : Met l yX8_isOut (.code yX8_isOut cX8_isOut 2 (some .boolean) :: wsL_law) ({ frames := 1, cells := 0, slots := 0, locals := 21 }) (zPc dC dI (zT cI cB cZ cR) [.ref y, .int (nI b)] sz [(y, .inr (8, [.ref yt, .int v1, .int v2, .ref yr, .ref yk, .ref yz, .ref yp, .int v7, .int v8, .int v9, .int v10, .ref yl, .ref yw, .int v13, .int v14, .int v15, .int v16, .int v17, .int v18, .int v19, .int v20, .int v21, .ref yd, .int v23, .ref ys, .ref yn, .ref ym, .int v27, .ref yf, .ref yo, .ref yh, .ref yb, .int v32, .int v33, .int v34, .int v35, .int v36, .int v37, .int v38, .ref yx, .int v40, .int v41, .int v42])), (yr, .inl (cI, 4668, .inl (jn [0, 4, 0, (nI oo), (nI sn), (nI us), (nI tk), e7, e8, 0, 0, 0, 0, e13, e14, e15, (nI bb), (-1), e18, 0, 0, 0, 0, 0] gr)))]) (va_Qi (fun (r : Int32) (_ : Unit) => r = (pfX8_isOut_r gr b)) (fun _ : Unit => zB dC dI (zT cI cB cZ cR) (va_A [(y, .inr (8, [.ref yt, .int v1, .int v2, .ref yr, .ref yk, .ref yz, .ref yp, .int v7, .int v8, .int v9, .int v10, .ref yl, .ref yw, .int v13, .int v14, .int v15, .int v16, .int v17, .int v18, .int v19, .int v20, .int v21, .ref yd, .int v23, .ref ys, .ref yn, .ref ym, .int v27, .ref yf, .ref yo, .ref yh, .ref yb, .int v32, .int v33, .int v34, .int v35, .int v36, .int v37, .int v38, .ref yx, .int v40, .int v41, .int v42])), (yr, .inl (cI, 4668, .inl (jn [0, 4, 0, (nI oo), (nI sn), (nI us), (nI tk), e7, e8, 0, 0, 0, 0, e13, e14, e15, (nI bb), (-1), e18, 0, 0, 0, 0, 0] gr)))] sz) [(y, .inr (8, [.ref yt, .int v1, .int v2, .ref yr, .ref yk, .ref yz, .ref yp, .int v7, .int v8, .int v9, .int v10, .ref yl, .ref yw, .int v13, .int v14, .int v15, .int v16, .int v17, .int v18, .int v19, .int v20, .int v21, .ref yd, .int v23, .ref ys, .ref yn, .ref ym, .int v27, .ref yf, .ref yo, .ref yh, .ref yb, .int v32, .int v33, .int v34, .int v35, .int v36, .int v37, .int v38, .ref yx, .int v40, .int v41, .int v42])), (yr, .inl (cI, 4668, .inl (jn [0, 4, 0, (nI oo), (nI sn), (nI us), (nI tk), e7, e8, 0, 0, 0, 0, e13, e14, e15, (nI bb), (-1), e18, 0, 0, 0, 0, 0] gr)))]) (va_A [(y, .inr (8, [.ref yt, .int v1, .int v2, .ref yr, .ref yk, .ref yz, .ref yp, .int v7, .int v8, .int v9, .int v10, .ref yl, .ref yw, .int v13, .int v14, .int v15, .int v16, .int v17, .int v18, .int v19, .int v20, .int v21, .ref yd, .int v23, .ref ys, .ref yn, .ref ym, .int v27, .ref yf, .ref yo, .ref yh, .ref yb, .int v32, .int v33, .int v34, .int v35, .int v36, .int v37, .int v38, .ref yx, .int v40, .int v41, .int v42])), (yr, .inl (cI, 4668, .inl (jn [0, 4, 0, (nI oo), (nI sn), (nI us), (nI tk), e7, e8, 0, 0, 0, 0, e13, e14, e15, (nI bb), (-1), e18, 0, 0, 0, 0, 0] gr)))] sz)) 0 0 (va_A [(y, .inr (8, [.ref yt, .int v1, .int v2, .ref yr, .ref yk, .ref yz, .ref yp, .int v7, .int v8, .int v9, .int v10, .ref yl, .ref yw, .int v13, .int v14, .int v15, .int v16, .int v17, .int v18, .int v19, .int v20, .int v21, .ref yd, .int v23, .ref ys, .ref yn, .ref ym, .int v27, .ref yf, .ref yo, .ref yh, .ref yb, .int v32, .int v33, .int v34, .int v35, .int v36, .int v37, .int v38, .ref yx, .int v40, .int v41, .int v42])), (yr, .inl (cI, 4668, .inl (jn [0, 4, 0, (nI oo), (nI sn), (nI us), (nI tk), e7, e8, 0, 0, 0, 0, e13, e14, e15, (nI bb), (-1), e18, 0, 0, 0, 0, 0] gr)))] sz) := by
  refine Met.ofW (cc := cX8_isOut) (maxL := 2) (ret := (some .boolean)) (by decide) rfl ?_
  intro p e s m args below meth c s₁ B hml hv
  obtain ⟨rfl, hsz, hP, hK, hD0, hN⟩ := hv
  have hx := B.exec
  have hb := B.bytes
  have hr := B.returns
  have hts := atoms_spec (ws := (.code yX8_isOut cX8_isOut 2 (some .boolean) :: wsL_law)) B.pre
  have hown : s.vm.findClass RX8 = some m.cls := findClass_of_methodNamed B.named
  have hlocks := B.notSynchronized
  have hinX8 : ∀ w ∈ u_ws RX8 TX8 43, w ∈ (.code yX8_isOut cX8_isOut 2 (some .boolean) :: wsL_law) := fun w h => List.mem_cons_of_mem _ (inlX8 w h)
  have k_0 := hts (.fieldLink RX8 13 "RingMarksModel" "\x72" "[I") (List.mem_cons_of_mem _ wm_128)
  subst hsz
  have hD := hD0.self (sz := s.heap.size)
  generalize hAe : va_A [(y, .inr (8, [.ref yt, .int v1, .int v2, .ref yr, .ref yk, .ref yz, .ref yp, .int v7, .int v8, .int v9, .int v10, .ref yl, .ref yw, .int v13, .int v14, .int v15, .int v16, .int v17, .int v18, .int v19, .int v20, .int v21, .ref yd, .int v23, .ref ys, .ref yn, .ref ym, .int v27, .ref yf, .ref yo, .ref yh, .ref yb, .int v32, .int v33, .int v34, .int v35, .int v36, .int v37, .int v38, .ref yx, .int v40, .int v41, .int v42])), (yr, .inl (cI, 4668, .inl (jn [0, 4, 0, (nI oo), (nI sn), (nI us), (nI tk), e7, e8, 0, 0, 0, 0, e13, e14, e15, (nI bb), (-1), e18, 0, 0, 0, 0, 0] gr)))] s.heap.size = A at hD ⊢
  have hA : ∀ q : Nat, s.heap.size ≤ q → A q := fun q h => by rw [← hAe]; exact Or.inr h
  have hP : va_P (dC, dI) vwCl [(y, .inr (8, [.ref yt, .int v1, .int v2, .ref yr, .ref yk, .ref yz, .ref yp, .int v7, .int v8, .int v9, .int v10, .ref yl, .ref yw, .int v13, .int v14, .int v15, .int v16, .int v17, .int v18, .int v19, .int v20, .int v21, .ref yd, .int v23, .ref ys, .ref yn, .ref ym, .int v27, .ref yf, .ref yo, .ref yh, .ref yb, .int v32, .int v33, .int v34, .int v35, .int v36, .int v37, .int v38, .ref yx, .int v40, .int v41, .int v42])), (yr, .inl (cI, 4668, .inl (jn [0, 4, 0, (nI oo), (nI sn), (nI us), (nI tk), e7, e8, 0, 0, 0, 0, e13, e14, e15, (nI bb), (-1), e18, 0, 0, 0, 0, 0] gr)))] s.heap := hP
  have hl := lv_entry ([.ref y, .int (nI b)]) (n := 2) (Nat.le_of_ble_eq_true rfl)
  rw [lg_entry_eq]
  generalize (lg_sl ([.ref y, .int (nI b)]) ++ List.replicate (2 - (lg_sl ([.ref y, .int (nI b)])).length) Slot.unset).toArray = ls at hl ⊢
  have hl : lv_has ls 2 [(0, .ref y), (1, .int (nI b))] := hl
  obtain ⟨H, hH⟩ : ∃ H, H = s.heap := ⟨_, rfl⟩
  rw [← hH] at hP ⊢
  have hS : va_S A s.heap H [] := by rw [hH]; exact va_S.rf
  refine lv_aload_n hx hb dX8_isOut_0 rfl (lv_at hl 0 rfl) ?_
  refine va_get (D := (dC, dI)) (ci := 8) (v := .ref yr) (C := RX8) (T := TX8) (N := 43) hx hb hts hinX8 hown hK hP 0 rfl rfl 3 (by decide) k_0 (fun _ h9 => h9) rfl dX8_isOut_1 ?_
  refine lv_iload_n hx hb dX8_isOut_4 rfl (lv_at hl 1 rfl) ?_
  refine lv_iconst (v := 0) hx hb dX8_isOut_5 (by decide) ?_
  refine zcSi (As := [.int (nI b), .int 0]) (rest := [.ref yr]) (wr := [(y, .inr (8, [.ref yt, .int v1, .int v2, .ref yr, .ref yk, .ref yz, .ref yp, .int v7, .int v8, .int v9, .int v10, .ref yl, .ref yw, .int v13, .int v14, .int v15, .int v16, .int v17, .int v18, .int v19, .int v20, .int v21, .ref yd, .int v23, .ref ys, .ref yn, .ref ym, .int v27, .ref yf, .ref yo, .ref yh, .ref yb, .int v32, .int v33, .int v34, .int v35, .int v36, .int v37, .int v38, .ref yx, .int v40, .int v41, .int v42])), (yr, .inl (cI, 4668, .inl (jn [0, 4, 0, (nI oo), (nI sn), (nI us), (nI tk), e7, e8, 0, 0, 0, 0, e13, e14, e15, (nI bb), (-1), e18, 0, 0, 0, 0, 0] gr)))]) ⟨hx, hb, hml, hown, hts⟩ (kkX8_of_0 l dC dI cI cB cZ cR H.size (nI b) ) (va_cwS 2 hts (zgS wm_369 wm_370 wm_5 wm_371) rfl rfl rfl (by decide +kernel) ⟨Nat.le_of_ble_eq_true rfl, Nat.le_of_ble_eq_true rfl⟩) hN hK hP hD hS hA [] [0, 1] rfl rfl ⟨rfl, rfl⟩ (by decide) rfl hl.1 rfl (Nat.le_of_ble_eq_true rfl) dX8_isOut_6 ⟨Nat.le_of_ble_eq_true rfl, Nat.le_of_ble_eq_true rfl⟩ (fun r u hu H locs hP hD hS => ?_)
  have hu : r = (168 + (nI b)) := hu
  subst hu
  have hP : va_P (dC, dI) vwCl [(y, .inr (8, [.ref yt, .int v1, .int v2, .ref yr, .ref yk, .ref yz, .ref yp, .int v7, .int v8, .int v9, .int v10, .ref yl, .ref yw, .int v13, .int v14, .int v15, .int v16, .int v17, .int v18, .int v19, .int v20, .int v21, .ref yd, .int v23, .ref ys, .ref yn, .ref ym, .int v27, .ref yf, .ref yo, .ref yh, .ref yb, .int v32, .int v33, .int v34, .int v35, .int v36, .int v37, .int v38, .ref yx, .int v40, .int v41, .int v42])), (yr, .inl (cI, 4668, .inl (jn [0, 4, 0, (nI oo), (nI sn), (nI us), (nI tk), e7, e8, 0, 0, 0, 0, e13, e14, e15, (nI bb), (-1), e18, 0, 0, 0, 0, 0] gr)))] H := hP
  have hD : va_D A [(y, .inr (8, [.ref yt, .int v1, .int v2, .ref yr, .ref yk, .ref yz, .ref yp, .int v7, .int v8, .int v9, .int v10, .ref yl, .ref yw, .int v13, .int v14, .int v15, .int v16, .int v17, .int v18, .int v19, .int v20, .int v21, .ref yd, .int v23, .ref ys, .ref yn, .ref ym, .int v27, .ref yf, .ref yo, .ref yh, .ref yb, .int v32, .int v33, .int v34, .int v35, .int v36, .int v37, .int v38, .ref yx, .int v40, .int v41, .int v42])), (yr, .inl (cI, 4668, .inl (jn [0, 4, 0, (nI oo), (nI sn), (nI us), (nI tk), e7, e8, 0, 0, 0, 0, e13, e14, e15, (nI bb), (-1), e18, 0, 0, 0, 0, 0] gr)))] := hD
  refine tp (y := (nI (168 + b))) ((show nI 168 + nI b = _ from nI_add _ _)) ?_
  refine za_iald (v := (gr ((168 + b)))) hx hb hK hP 1 0 rfl rfl (vp_in_nI (by omega) (by decide)) (jrd (by omega) (by omega)) dX8_isOut_9 ?_
  refine lv_iconst (v := 3) hx hb dX8_isOut_10 (by decide) ?_
  refine lv_icmp_ge (tgt := 18) hx hb dX8_isOut_11 (by decide) (fun c_1 => ?_) (fun c_1 => ?_)
  · refine lv_iconst (v := 0) hx hb dX8_isOut_18 (by decide) ?_
    have e_0 : (pfX8_isOut_r gr b) = 0 := by rw [pfX8_isOut_r, if_pos c_1]
    have hP9 := hP.sub (ws' := [(y, .inr (8, [.ref yt, .int v1, .int v2, .ref yr, .ref yk, .ref yz, .ref yp, .int v7, .int v8, .int v9, .int v10, .ref yl, .ref yw, .int v13, .int v14, .int v15, .int v16, .int v17, .int v18, .int v19, .int v20, .int v21, .ref yd, .int v23, .ref ys, .ref yn, .ref ym, .int v27, .ref yf, .ref yo, .ref yh, .ref yb, .int v32, .int v33, .int v34, .int v35, .int v36, .int v37, .int v38, .ref yx, .int v40, .int v41, .int v42])), (yr, .inl (cI, 4668, .inl (jn [0, 4, 0, (nI oo), (nI sn), (nI us), (nI tk), e7, e8, 0, 0, 0, 0, e13, e14, e15, (nI bb), (-1), e18, 0, 0, 0, 0, 0] gr)))]) [0, 1] rfl
    have hD9 := hD.sub (ws' := [(y, .inr (8, [.ref yt, .int v1, .int v2, .ref yr, .ref yk, .ref yz, .ref yp, .int v7, .int v8, .int v9, .int v10, .ref yl, .ref yw, .int v13, .int v14, .int v15, .int v16, .int v17, .int v18, .int v19, .int v20, .int v21, .ref yd, .int v23, .ref ys, .ref yn, .ref ym, .int v27, .ref yf, .ref yo, .ref yh, .ref yb, .int v32, .int v33, .int v34, .int v35, .int v36, .int v37, .int v38, .ref yx, .int v40, .int v41, .int v42])), (yr, .inl (cI, 4668, .inl (jn [0, 4, 0, (nI oo), (nI sn), (nI us), (nI tk), e7, e8, 0, 0, 0, 0, e13, e14, e15, (nI bb), (-1), e18, 0, 0, 0, 0, 0] gr)))]) [0, 1] (by decide) rfl
    exact W.zret (v := 0) hx hb hr rfl (fun t ht hW => ⟨⟨0, (), rfl, e_0.symm, by rw [ht]; exact hP9, va_K.moved hW.alike hK, hD9⟩, hS.F ht⟩) hS.2.2 dX8_isOut_19
  · refine lv_iconst (v := 1) hx hb dX8_isOut_14 (by decide) ?_
    refine lv_goto (tgt := 19) hx hb dX8_isOut_15 (by decide) ?_
    have e_0 : (pfX8_isOut_r gr b) = 1 := by rw [pfX8_isOut_r, if_neg c_1]
    have hP9 := hP.sub (ws' := [(y, .inr (8, [.ref yt, .int v1, .int v2, .ref yr, .ref yk, .ref yz, .ref yp, .int v7, .int v8, .int v9, .int v10, .ref yl, .ref yw, .int v13, .int v14, .int v15, .int v16, .int v17, .int v18, .int v19, .int v20, .int v21, .ref yd, .int v23, .ref ys, .ref yn, .ref ym, .int v27, .ref yf, .ref yo, .ref yh, .ref yb, .int v32, .int v33, .int v34, .int v35, .int v36, .int v37, .int v38, .ref yx, .int v40, .int v41, .int v42])), (yr, .inl (cI, 4668, .inl (jn [0, 4, 0, (nI oo), (nI sn), (nI us), (nI tk), e7, e8, 0, 0, 0, 0, e13, e14, e15, (nI bb), (-1), e18, 0, 0, 0, 0, 0] gr)))]) [0, 1] rfl
    have hD9 := hD.sub (ws' := [(y, .inr (8, [.ref yt, .int v1, .int v2, .ref yr, .ref yk, .ref yz, .ref yp, .int v7, .int v8, .int v9, .int v10, .ref yl, .ref yw, .int v13, .int v14, .int v15, .int v16, .int v17, .int v18, .int v19, .int v20, .int v21, .ref yd, .int v23, .ref ys, .ref yn, .ref ym, .int v27, .ref yf, .ref yo, .ref yh, .ref yb, .int v32, .int v33, .int v34, .int v35, .int v36, .int v37, .int v38, .ref yx, .int v40, .int v41, .int v42])), (yr, .inl (cI, 4668, .inl (jn [0, 4, 0, (nI oo), (nI sn), (nI us), (nI tk), e7, e8, 0, 0, 0, 0, e13, e14, e15, (nI bb), (-1), e18, 0, 0, 0, 0, 0] gr)))]) [0, 1] (by decide) rfl
    exact W.zret (v := 1) hx hb hr rfl (fun t ht hW => ⟨⟨1, (), rfl, e_0.symm, by rw [ht]; exact hP9, va_K.moved hW.alike hK, hD9⟩, hS.F ht⟩) hS.2.2 dX8_isOut_19

def hbits (gr : Nat → Int32) : Nat → Int32
  | 0 => 0
  | i + 1 => if (pfX8_isOut_r gr i) = 0 then hbits gr i else (hbits gr i ||| gr (4168 + i))
def freeP (gr : Nat → Int32) : Nat → Int32
  | 0 => 4
  | i + 1 => if (pfX8_isOut_r gr i) = 0 then freeP gr i else (freeP gr i - gr (3668 + i))
def whF (gr : Nat → Int32) (st hd : Int32) : Nat → Nat → Int32
  | 0, _ => -1
  | n + 1, i => if gr (168 + i) = st then (if gr (1168 + i) = hd then nI i else whF gr st hd n (i + 1)) else whF gr st hd n (i + 1)
def foF (gr : Nat → Int32) (st : Int32) : Nat → Nat → Int32
  | 0, _ => -1
  | n + 1, i => if gr (168 + i) = st then nI i else foF gr st n (i + 1)

set_option maxHeartbeats 4000000 in
set_option maxRecDepth 100000 in
theorem NLX8_heldBits {p : Program} {l : Launch} {e : Env} {R : Room} {s : State} {m : MethodId} {args : Array Value} {below : List Frame} {meth : Method} {c : Code} {Q : State → Prop} {A : Nat → Prop} {cells slots : Nat} (dC : Nat → ClassId) (dI : Nat → Nat → Nat) (cI cB cZ cR : ClassId) (y : Nat) (yt : Nat) (yr : Nat) (yk : Nat) (yz : Nat) (yp : Nat) (yl : Nat) (yw : Nat) (yd : Nat) (ys : Nat) (yn : Nat) (ym : Nat) (yf : Nat) (yo : Nat) (yh : Nat) (yb : Nat) (yx : Nat) (v1 : Int32) (v2 : Int32) (v7 : Int32) (v8 : Int32) (v9 : Int32) (v10 : Int32) (v13 : Int32) (v14 : Int32) (v15 : Int32) (v16 : Int32) (v17 : Int32) (v18 : Int32) (v19 : Int32) (v20 : Int32) (v21 : Int32) (v23 : Int32) (v27 : Int32) (v32 : Int32) (v33 : Int32) (v34 : Int32) (v35 : Int32) (v36 : Int32) (v37 : Int32) (v38 : Int32) (v40 : Int32) (v41 : Int32) (v42 : Int32) (oo : Nat) (sn : Nat) (us : Nat) (tk : Nat) (bb : Nat) (e7 : Int32) (e8 : Int32) (e13 : Int32) (e14 : Int32) (e15 : Int32) (e18 : Int32) (gr : Nat → Int32) (hbb : bb ≤ 500) (FY0 : List Value) (hFY0 : FY0 = [.ref yt, .int v1, .int v2, .ref yr, .ref yk, .ref yz, .ref yp, .int v7, .int v8, .int v9, .int v10, .ref yl, .ref yw, .int v13, .int v14, .int v15, .int v16, .int v17, .int v18, .int v19, .int v20, .int v21, .ref yd, .int v23, .ref ys, .ref yn, .ref ym, .int v27, .ref yf, .ref yo, .ref yh, .ref yb, .int v32, .int v33, .int v34, .int v35, .int v36, .int v37, .int v38, .ref yx, .int v40, .int v41, .int v42]) (hx : p.tables.exec = Jvm.exec) (hb : c.code = cX8_heldBits) (hml : c.maxLocals = 3) (hts : ∀ w ∈ (.code yX8_heldBits cX8_heldBits 3 (some .int) :: wsL_law), w.before args s = true) (hown : s.vm.findClass RX8 = some m.cls) (hN : zN s) (hK : va_K (dC, dI) vwCl (zT cI cB cZ cR) s) (hA : ∀ q : Nat, s.heap.size ≤ q → A q) (hRf : 2 ≤ R.frames) (hRl : 42 ≤ R.locals) (hRc : cells ≤ R.cells) (hRs : slots ≤ R.slots)
    (k43 : ∀ (H : Heap) (locs : List Loc) (ls : Array Slot), va_P (dC, dI) vwCl [(y, .inr (8, FY0)), (yr, .inl (cI, 4668, .inl (jn [0, 4, 0, (nI oo), (nI sn), (nI us), (nI tk), e7, e8, 0, 0, 0, 0, e13, e14, e15, (nI bb), (-1), e18, 0, 0, 0, 0, 0] gr)))] H → va_D A [(y, .inr (8, FY0)), (yr, .inl (cI, 4668, .inl (jn [0, 4, 0, (nI oo), (nI sn), (nI us), (nI tk), e7, e8, 0, 0, 0, 0, e13, e14, e15, (nI bb), (-1), e18, 0, 0, 0, 0, 0] gr)))] → va_S A s.heap H locs → lv_has ls 3 [(0, .ref y), (1, .int (hbits gr bb))] → W p l e R s m args below meth c H locs cells slots Q (F0 m 43 ls []))
    : ∀ (n i : Nat), i + n = bb → ∀ (H : Heap) (locs : List Loc) (ls : Array Slot), va_P (dC, dI) vwCl [(y, .inr (8, FY0)), (yr, .inl (cI, 4668, .inl (jn [0, 4, 0, (nI oo), (nI sn), (nI us), (nI tk), e7, e8, 0, 0, 0, 0, e13, e14, e15, (nI bb), (-1), e18, 0, 0, 0, 0, 0] gr)))] H → va_D A [(y, .inr (8, FY0)), (yr, .inl (cI, 4668, .inl (jn [0, 4, 0, (nI oo), (nI sn), (nI us), (nI tk), e7, e8, 0, 0, 0, 0, e13, e14, e15, (nI bb), (-1), e18, 0, 0, 0, 0, 0] gr)))] → va_S A s.heap H locs → lv_has ls 3 [(0, .ref y), (1, .int (hbits gr i)), (2, .int (nI i))] → W p l e R s m args below meth c H locs cells slots Q (F0 m 4 ls []) := by
  have hinX8 : ∀ w ∈ u_ws RX8 TX8 43, w ∈ (.code yX8_heldBits cX8_heldBits 3 (some .int) :: wsL_law) := fun w h => List.mem_cons_of_mem _ (inlX8 w h)
  subst hFY0
  have kw_0 := hts (.fieldLink RX8 13 "RingMarksModel" "\x72" "[I") (List.mem_cons_of_mem _ wm_128)
  intro n
  induction n with
  | zero =>
    intro i hi  H locs ls hP hD hS hl
    have hin : i = bb := by omega
    have hge : (nI bb) ≤ (nI i) := by rw [hin]; exact Int32.le_refl _
    refine lv_iload_n hx hb dX8_heldBits_4 rfl (lv_at hl 2 rfl) ?_
    refine lv_aload_n hx hb dX8_heldBits_5 rfl (lv_at hl 0 rfl) ?_
    refine va_get (D := (dC, dI)) (ci := 8) (v := .ref yr) (C := RX8) (T := TX8) (N := 43) hx hb hts hinX8 hown hK hP 0 rfl rfl 3 (by decide) kw_0 (fun _ h9 => h9) rfl dX8_heldBits_6 ?_
    refine lv_bipush (v := 16) hx hb dX8_heldBits_9 (by decide) ?_
    refine za_iald (v := (nI bb)) hx hb hK hP 1 0 rfl rfl (zin tn_16 (Nat.le_of_ble_eq_true rfl)) (zrd _ tn_16 rfl) dX8_heldBits_11 ?_
    refine lv_icmp_ge (tgt := 43) hx hb dX8_heldBits_12 (by decide) (fun _ => ?_) (fun c => absurd hge c)
    subst hin; exact k43 _ _ _ hP hD hS (lv_sub hl [0, 1] rfl)
  | succ n ih =>
    intro i hi  H locs ls hP hD hS hl
    have hlt : i < bb := by omega
    have hge : ¬ (nI bb) ≤ (nI i) := nI_ge hlt (by omega)
    refine lv_iload_n hx hb dX8_heldBits_4 rfl (lv_at hl 2 rfl) ?_
    refine lv_aload_n hx hb dX8_heldBits_5 rfl (lv_at hl 0 rfl) ?_
    refine va_get (D := (dC, dI)) (ci := 8) (v := .ref yr) (C := RX8) (T := TX8) (N := 43) hx hb hts hinX8 hown hK hP 0 rfl rfl 3 (by decide) kw_0 (fun _ h9 => h9) rfl dX8_heldBits_6 ?_
    refine lv_bipush (v := 16) hx hb dX8_heldBits_9 (by decide) ?_
    refine za_iald (v := (nI bb)) hx hb hK hP 1 0 rfl rfl (zin tn_16 (Nat.le_of_ble_eq_true rfl)) (zrd _ tn_16 rfl) dX8_heldBits_11 ?_
    refine lv_icmp_ge (tgt := 43) hx hb dX8_heldBits_12 (by decide) (fun c => absurd c hge) (fun _ => ?_)
    refine lv_aload_n hx hb dX8_heldBits_15 rfl (lv_at hl 0 rfl) ?_
    refine lv_iload_n hx hb dX8_heldBits_16 rfl (lv_at hl 2 rfl) ?_
    refine zcVi (As := [.int (nI i)]) (rest := []) (wr := []) ⟨hx, hb, hml, hown, hts⟩ (kkX8_isOut l dC dI cI cB cZ cR H.size y yt yr yk yz yp yl yw yd ys yn ym yf yo yh yb yx v1 v2 v7 v8 v9 v10 v13 v14 v15 v16 v17 v18 v19 v20 v21 v23 v27 v32 v33 v34 v35 v36 v37 v38 v40 v41 v42 oo sn us tk bb e7 e8 e13 e14 e15 e18 gr i (by omega)) (cwV 1 hts (zgV wm_365 wm_366 wm_367 wm_5 wm_368) rfl rfl rfl (by decide +kernel) ⟨Nat.le_trans (Nat.le_of_ble_eq_true rfl) hRf, Nat.le_trans (Nat.le_of_ble_eq_true rfl) hRl⟩) hN hK hP hD hS hA [0, 1] [] rfl rfl ⟨rfl, rfl⟩ (by decide) (ci := 8) rfl rfl rfl rfl hl.1 rfl (Nat.le_of_ble_eq_true rfl) dX8_heldBits_17 ⟨hRc, hRs⟩ (fun r u hu H locs hP hD hS => ?_)
    have hu : r = (pfX8_isOut_r gr i) := hu
    subst hu
    have hP : va_P (dC, dI) vwCl [(y, .inr (8, [.ref yt, .int v1, .int v2, .ref yr, .ref yk, .ref yz, .ref yp, .int v7, .int v8, .int v9, .int v10, .ref yl, .ref yw, .int v13, .int v14, .int v15, .int v16, .int v17, .int v18, .int v19, .int v20, .int v21, .ref yd, .int v23, .ref ys, .ref yn, .ref ym, .int v27, .ref yf, .ref yo, .ref yh, .ref yb, .int v32, .int v33, .int v34, .int v35, .int v36, .int v37, .int v38, .ref yx, .int v40, .int v41, .int v42])), (yr, .inl (cI, 4668, .inl (jn [0, 4, 0, (nI oo), (nI sn), (nI us), (nI tk), e7, e8, 0, 0, 0, 0, e13, e14, e15, (nI bb), (-1), e18, 0, 0, 0, 0, 0] gr)))] H := hP
    have hD : va_D A [(y, .inr (8, [.ref yt, .int v1, .int v2, .ref yr, .ref yk, .ref yz, .ref yp, .int v7, .int v8, .int v9, .int v10, .ref yl, .ref yw, .int v13, .int v14, .int v15, .int v16, .int v17, .int v18, .int v19, .int v20, .int v21, .ref yd, .int v23, .ref ys, .ref yn, .ref ym, .int v27, .ref yf, .ref yo, .ref yh, .ref yb, .int v32, .int v33, .int v34, .int v35, .int v36, .int v37, .int v38, .ref yx, .int v40, .int v41, .int v42])), (yr, .inl (cI, 4668, .inl (jn [0, 4, 0, (nI oo), (nI sn), (nI us), (nI tk), e7, e8, 0, 0, 0, 0, e13, e14, e15, (nI bb), (-1), e18, 0, 0, 0, 0, 0] gr)))] := hD
    refine lv_if_eq (tgt := 37) hx hb dX8_heldBits_20 (by decide) (fun c_1 => ?_) (fun c_1 => ?_)
    · refine lv_iinc (v := (nI (i + 1))) (lv' := [(2, .int (nI (i + 1))), (0, .ref y), (1, .int (hbits gr i))]) hx hb dX8_heldBits_37 hl (k := 2) rfl (show (nI i) + Int32.ofInt 1 = _ from nI_add _ 1) (by decide) rfl (fun ls hl => ?_)
      refine lv_goto (tgt := 4) hx hb dX8_heldBits_40 (by decide) ?_
      have e_0 : (hbits gr (i + 1)) = (hbits gr i) := by rw [hbits, if_pos c_1]
      exact ih (i + 1) (by omega)  _ _ _ hP hD hS (by rw [e_0]; exact (lv_sub hl [1, 2, 0] rfl))
    · refine lv_iload_n hx hb dX8_heldBits_23 rfl (lv_at hl 1 rfl) ?_
      refine lv_aload_n hx hb dX8_heldBits_24 rfl (lv_at hl 0 rfl) ?_
      refine va_get (D := (dC, dI)) (ci := 8) (v := .ref yr) (C := RX8) (T := TX8) (N := 43) hx hb hts hinX8 hown hK hP 0 rfl rfl 3 (by decide) kw_0 (fun _ h9 => h9) rfl dX8_heldBits_25 ?_
      refine lv_iload_n hx hb dX8_heldBits_28 rfl (lv_at hl 2 rfl) ?_
      refine lv_bipush (v := 8) hx hb dX8_heldBits_29 (by decide) ?_
      refine zcSi (As := [.int (nI i), .int 8]) (rest := [.ref yr, .int (hbits gr i)]) (wr := [(y, .inr (8, [.ref yt, .int v1, .int v2, .ref yr, .ref yk, .ref yz, .ref yp, .int v7, .int v8, .int v9, .int v10, .ref yl, .ref yw, .int v13, .int v14, .int v15, .int v16, .int v17, .int v18, .int v19, .int v20, .int v21, .ref yd, .int v23, .ref ys, .ref yn, .ref ym, .int v27, .ref yf, .ref yo, .ref yh, .ref yb, .int v32, .int v33, .int v34, .int v35, .int v36, .int v37, .int v38, .ref yx, .int v40, .int v41, .int v42])), (yr, .inl (cI, 4668, .inl (jn [0, 4, 0, (nI oo), (nI sn), (nI us), (nI tk), e7, e8, 0, 0, 0, 0, e13, e14, e15, (nI bb), (-1), e18, 0, 0, 0, 0, 0] gr)))]) ⟨hx, hb, hml, hown, hts⟩ (kkX8_of_8 l dC dI cI cB cZ cR H.size (nI i) ) (va_cwS 2 hts (zgS wm_369 wm_370 wm_5 wm_371) rfl rfl rfl (by decide +kernel) ⟨Nat.le_trans (Nat.le_of_ble_eq_true rfl) hRf, Nat.le_trans (Nat.le_of_ble_eq_true rfl) hRl⟩) hN hK hP hD hS hA [] [0, 1] rfl rfl ⟨rfl, rfl⟩ (by decide) rfl hl.1 rfl (Nat.le_of_ble_eq_true rfl) dX8_heldBits_31 ⟨hRc, hRs⟩ (fun r u hu H locs hP hD hS => ?_)
      have hu : r = (4168 + (nI i)) := hu
      subst hu
      have hP : va_P (dC, dI) vwCl [(y, .inr (8, [.ref yt, .int v1, .int v2, .ref yr, .ref yk, .ref yz, .ref yp, .int v7, .int v8, .int v9, .int v10, .ref yl, .ref yw, .int v13, .int v14, .int v15, .int v16, .int v17, .int v18, .int v19, .int v20, .int v21, .ref yd, .int v23, .ref ys, .ref yn, .ref ym, .int v27, .ref yf, .ref yo, .ref yh, .ref yb, .int v32, .int v33, .int v34, .int v35, .int v36, .int v37, .int v38, .ref yx, .int v40, .int v41, .int v42])), (yr, .inl (cI, 4668, .inl (jn [0, 4, 0, (nI oo), (nI sn), (nI us), (nI tk), e7, e8, 0, 0, 0, 0, e13, e14, e15, (nI bb), (-1), e18, 0, 0, 0, 0, 0] gr)))] H := hP
      have hD : va_D A [(y, .inr (8, [.ref yt, .int v1, .int v2, .ref yr, .ref yk, .ref yz, .ref yp, .int v7, .int v8, .int v9, .int v10, .ref yl, .ref yw, .int v13, .int v14, .int v15, .int v16, .int v17, .int v18, .int v19, .int v20, .int v21, .ref yd, .int v23, .ref ys, .ref yn, .ref ym, .int v27, .ref yf, .ref yo, .ref yh, .ref yb, .int v32, .int v33, .int v34, .int v35, .int v36, .int v37, .int v38, .ref yx, .int v40, .int v41, .int v42])), (yr, .inl (cI, 4668, .inl (jn [0, 4, 0, (nI oo), (nI sn), (nI us), (nI tk), e7, e8, 0, 0, 0, 0, e13, e14, e15, (nI bb), (-1), e18, 0, 0, 0, 0, 0] gr)))] := hD
      refine tp (y := (nI (4168 + i))) ((show nI 4168 + nI i = _ from nI_add _ _)) ?_
      refine za_iald (v := (gr ((4168 + i)))) hx hb hK hP 1 0 rfl rfl (vp_in_nI (by omega) (by decide)) (jrd (by omega) (by omega)) dX8_heldBits_34 ?_
      refine lv_ior hx hb dX8_heldBits_35 ?_
      refine lv_istore_n (lv' := [(1, .int ((hbits gr i) ||| (gr ((4168 + i))))), (0, .ref y), (2, .int (nI i))]) hx hb dX8_heldBits_36 rfl hl (by decide) rfl (fun ls hl => ?_)
      refine lv_iinc (v := (nI (i + 1))) (lv' := [(2, .int (nI (i + 1))), (1, .int ((hbits gr i) ||| (gr ((4168 + i))))), (0, .ref y)]) hx hb dX8_heldBits_37 hl (k := 2) rfl (show (nI i) + Int32.ofInt 1 = _ from nI_add _ 1) (by decide) rfl (fun ls hl => ?_)
      refine lv_goto (tgt := 4) hx hb dX8_heldBits_40 (by decide) ?_
      have e_0 : (hbits gr (i + 1)) = ((hbits gr i) ||| (gr ((4168 + i)))) := by rw [hbits, if_neg c_1]
      exact ih (i + 1) (by omega)  _ _ _ hP hD hS (by rw [e_0]; exact (lv_sub hl [2, 1, 0] rfl))

set_option maxHeartbeats 4000000 in
set_option maxRecDepth 100000 in
theorem kkX8_heldBits (l : Launch) (dC : Nat → ClassId) (dI : Nat → Nat → Nat) (cI cB cZ cR : ClassId) (sz : Nat) (y : Nat) (yt : Nat) (yr : Nat) (yk : Nat) (yz : Nat) (yp : Nat) (yl : Nat) (yw : Nat) (yd : Nat) (ys : Nat) (yn : Nat) (ym : Nat) (yf : Nat) (yo : Nat) (yh : Nat) (yb : Nat) (yx : Nat) (v1 : Int32) (v2 : Int32) (v7 : Int32) (v8 : Int32) (v9 : Int32) (v10 : Int32) (v13 : Int32) (v14 : Int32) (v15 : Int32) (v16 : Int32) (v17 : Int32) (v18 : Int32) (v19 : Int32) (v20 : Int32) (v21 : Int32) (v23 : Int32) (v27 : Int32) (v32 : Int32) (v33 : Int32) (v34 : Int32) (v35 : Int32) (v36 : Int32) (v37 : Int32) (v38 : Int32) (v40 : Int32) (v41 : Int32) (v42 : Int32) (oo : Nat) (sn : Nat) (us : Nat) (tk : Nat) (bb : Nat) (e7 : Int32) (e8 : Int32) (e13 : Int32) (e14 : Int32) (e15 : Int32) (e18 : Int32) (gr : Nat → Int32) (hbb : bb ≤ 500) : Met l yX8_heldBits (.code yX8_heldBits cX8_heldBits 3 (some .int) :: wsL_law) ({ frames := 2, cells := 0, slots := 0, locals := 42 }) (zPc dC dI (zT cI cB cZ cR) [.ref y] sz [(y, .inr (8, [.ref yt, .int v1, .int v2, .ref yr, .ref yk, .ref yz, .ref yp, .int v7, .int v8, .int v9, .int v10, .ref yl, .ref yw, .int v13, .int v14, .int v15, .int v16, .int v17, .int v18, .int v19, .int v20, .int v21, .ref yd, .int v23, .ref ys, .ref yn, .ref ym, .int v27, .ref yf, .ref yo, .ref yh, .ref yb, .int v32, .int v33, .int v34, .int v35, .int v36, .int v37, .int v38, .ref yx, .int v40, .int v41, .int v42])), (yr, .inl (cI, 4668, .inl (jn [0, 4, 0, (nI oo), (nI sn), (nI us), (nI tk), e7, e8, 0, 0, 0, 0, e13, e14, e15, (nI bb), (-1), e18, 0, 0, 0, 0, 0] gr)))]) (va_Qi (fun (r : Int32) (_ : Unit) => r = (hbits gr bb)) (fun _ : Unit => zB dC dI (zT cI cB cZ cR) (va_A [(y, .inr (8, [.ref yt, .int v1, .int v2, .ref yr, .ref yk, .ref yz, .ref yp, .int v7, .int v8, .int v9, .int v10, .ref yl, .ref yw, .int v13, .int v14, .int v15, .int v16, .int v17, .int v18, .int v19, .int v20, .int v21, .ref yd, .int v23, .ref ys, .ref yn, .ref ym, .int v27, .ref yf, .ref yo, .ref yh, .ref yb, .int v32, .int v33, .int v34, .int v35, .int v36, .int v37, .int v38, .ref yx, .int v40, .int v41, .int v42])), (yr, .inl (cI, 4668, .inl (jn [0, 4, 0, (nI oo), (nI sn), (nI us), (nI tk), e7, e8, 0, 0, 0, 0, e13, e14, e15, (nI bb), (-1), e18, 0, 0, 0, 0, 0] gr)))] sz) [(y, .inr (8, [.ref yt, .int v1, .int v2, .ref yr, .ref yk, .ref yz, .ref yp, .int v7, .int v8, .int v9, .int v10, .ref yl, .ref yw, .int v13, .int v14, .int v15, .int v16, .int v17, .int v18, .int v19, .int v20, .int v21, .ref yd, .int v23, .ref ys, .ref yn, .ref ym, .int v27, .ref yf, .ref yo, .ref yh, .ref yb, .int v32, .int v33, .int v34, .int v35, .int v36, .int v37, .int v38, .ref yx, .int v40, .int v41, .int v42])), (yr, .inl (cI, 4668, .inl (jn [0, 4, 0, (nI oo), (nI sn), (nI us), (nI tk), e7, e8, 0, 0, 0, 0, e13, e14, e15, (nI bb), (-1), e18, 0, 0, 0, 0, 0] gr)))]) (va_A [(y, .inr (8, [.ref yt, .int v1, .int v2, .ref yr, .ref yk, .ref yz, .ref yp, .int v7, .int v8, .int v9, .int v10, .ref yl, .ref yw, .int v13, .int v14, .int v15, .int v16, .int v17, .int v18, .int v19, .int v20, .int v21, .ref yd, .int v23, .ref ys, .ref yn, .ref ym, .int v27, .ref yf, .ref yo, .ref yh, .ref yb, .int v32, .int v33, .int v34, .int v35, .int v36, .int v37, .int v38, .ref yx, .int v40, .int v41, .int v42])), (yr, .inl (cI, 4668, .inl (jn [0, 4, 0, (nI oo), (nI sn), (nI us), (nI tk), e7, e8, 0, 0, 0, 0, e13, e14, e15, (nI bb), (-1), e18, 0, 0, 0, 0, 0] gr)))] sz)) 0 0 (va_A [(y, .inr (8, [.ref yt, .int v1, .int v2, .ref yr, .ref yk, .ref yz, .ref yp, .int v7, .int v8, .int v9, .int v10, .ref yl, .ref yw, .int v13, .int v14, .int v15, .int v16, .int v17, .int v18, .int v19, .int v20, .int v21, .ref yd, .int v23, .ref ys, .ref yn, .ref ym, .int v27, .ref yf, .ref yo, .ref yh, .ref yb, .int v32, .int v33, .int v34, .int v35, .int v36, .int v37, .int v38, .ref yx, .int v40, .int v41, .int v42])), (yr, .inl (cI, 4668, .inl (jn [0, 4, 0, (nI oo), (nI sn), (nI us), (nI tk), e7, e8, 0, 0, 0, 0, e13, e14, e15, (nI bb), (-1), e18, 0, 0, 0, 0, 0] gr)))] sz) := by
  refine Met.ofW (cc := cX8_heldBits) (maxL := 3) (ret := (some .int)) (by decide) rfl ?_
  intro p e s m args below meth c s₁ B hml hv
  obtain ⟨rfl, hsz, hP, hK, hD0, hN⟩ := hv
  have hx := B.exec
  have hb := B.bytes
  have hr := B.returns
  have hts := atoms_spec (ws := (.code yX8_heldBits cX8_heldBits 3 (some .int) :: wsL_law)) B.pre
  have hown : s.vm.findClass RX8 = some m.cls := findClass_of_methodNamed B.named
  have hlocks := B.notSynchronized
  subst hsz
  have hD := hD0.self (sz := s.heap.size)
  generalize hAe : va_A [(y, .inr (8, [.ref yt, .int v1, .int v2, .ref yr, .ref yk, .ref yz, .ref yp, .int v7, .int v8, .int v9, .int v10, .ref yl, .ref yw, .int v13, .int v14, .int v15, .int v16, .int v17, .int v18, .int v19, .int v20, .int v21, .ref yd, .int v23, .ref ys, .ref yn, .ref ym, .int v27, .ref yf, .ref yo, .ref yh, .ref yb, .int v32, .int v33, .int v34, .int v35, .int v36, .int v37, .int v38, .ref yx, .int v40, .int v41, .int v42])), (yr, .inl (cI, 4668, .inl (jn [0, 4, 0, (nI oo), (nI sn), (nI us), (nI tk), e7, e8, 0, 0, 0, 0, e13, e14, e15, (nI bb), (-1), e18, 0, 0, 0, 0, 0] gr)))] s.heap.size = A at hD ⊢
  have hA : ∀ q : Nat, s.heap.size ≤ q → A q := fun q h => by rw [← hAe]; exact Or.inr h
  have hP : va_P (dC, dI) vwCl [(y, .inr (8, [.ref yt, .int v1, .int v2, .ref yr, .ref yk, .ref yz, .ref yp, .int v7, .int v8, .int v9, .int v10, .ref yl, .ref yw, .int v13, .int v14, .int v15, .int v16, .int v17, .int v18, .int v19, .int v20, .int v21, .ref yd, .int v23, .ref ys, .ref yn, .ref ym, .int v27, .ref yf, .ref yo, .ref yh, .ref yb, .int v32, .int v33, .int v34, .int v35, .int v36, .int v37, .int v38, .ref yx, .int v40, .int v41, .int v42])), (yr, .inl (cI, 4668, .inl (jn [0, 4, 0, (nI oo), (nI sn), (nI us), (nI tk), e7, e8, 0, 0, 0, 0, e13, e14, e15, (nI bb), (-1), e18, 0, 0, 0, 0, 0] gr)))] s.heap := hP
  have hl := lv_entry ([.ref y]) (n := 3) (Nat.le_of_ble_eq_true rfl)
  rw [lg_entry_eq]
  generalize (lg_sl ([.ref y]) ++ List.replicate (3 - (lg_sl ([.ref y])).length) Slot.unset).toArray = ls at hl ⊢
  have hl : lv_has ls 3 [(0, .ref y)] := hl
  obtain ⟨H, hH⟩ : ∃ H, H = s.heap := ⟨_, rfl⟩
  rw [← hH] at hP ⊢
  have hS : va_S A s.heap H [] := by rw [hH]; exact va_S.rf
  refine lv_iconst (v := 0) hx hb dX8_heldBits_0 (by decide) ?_
  refine lv_istore_n (lv' := [(1, .int 0), (0, .ref y)]) hx hb dX8_heldBits_1 rfl hl (by decide) rfl (fun ls hl => ?_)
  refine lv_iconst (v := 0) hx hb dX8_heldBits_2 (by decide) ?_
  refine lv_istore_n (lv' := [(2, .int 0), (1, .int 0), (0, .ref y)]) hx hb dX8_heldBits_3 rfl hl (by decide) rfl (fun ls hl => ?_)
  have hP := hP.sub (ws' := [(y, .inr (8, [.ref yt, .int v1, .int v2, .ref yr, .ref yk, .ref yz, .ref yp, .int v7, .int v8, .int v9, .int v10, .ref yl, .ref yw, .int v13, .int v14, .int v15, .int v16, .int v17, .int v18, .int v19, .int v20, .int v21, .ref yd, .int v23, .ref ys, .ref yn, .ref ym, .int v27, .ref yf, .ref yo, .ref yh, .ref yb, .int v32, .int v33, .int v34, .int v35, .int v36, .int v37, .int v38, .ref yx, .int v40, .int v41, .int v42])), (yr, .inl (cI, 4668, .inl (jn [0, 4, 0, (nI oo), (nI sn), (nI us), (nI tk), e7, e8, 0, 0, 0, 0, e13, e14, e15, (nI bb), (-1), e18, 0, 0, 0, 0, 0] gr)))]) [0, 1] rfl
  have hD := hD.sub (ws' := [(y, .inr (8, [.ref yt, .int v1, .int v2, .ref yr, .ref yk, .ref yz, .ref yp, .int v7, .int v8, .int v9, .int v10, .ref yl, .ref yw, .int v13, .int v14, .int v15, .int v16, .int v17, .int v18, .int v19, .int v20, .int v21, .ref yd, .int v23, .ref ys, .ref yn, .ref ym, .int v27, .ref yf, .ref yo, .ref yh, .ref yb, .int v32, .int v33, .int v34, .int v35, .int v36, .int v37, .int v38, .ref yx, .int v40, .int v41, .int v42])), (yr, .inl (cI, 4668, .inl (jn [0, 4, 0, (nI oo), (nI sn), (nI us), (nI tk), e7, e8, 0, 0, 0, 0, e13, e14, e15, (nI bb), (-1), e18, 0, 0, 0, 0, 0] gr)))]) [0, 1] (by decide) rfl
  have hl0 : lv_has ls 3 [(0, .ref y), (1, .int (hbits gr 0)), (2, .int (nI 0))] := (lv_sub hl [2, 1, 0] rfl)
  refine NLX8_heldBits dC dI cI cB cZ cR y yt yr yk yz yp yl yw yd ys yn ym yf yo yh yb yx v1 v2 v7 v8 v9 v10 v13 v14 v15 v16 v17 v18 v19 v20 v21 v23 v27 v32 v33 v34 v35 v36 v37 v38 v40 v41 v42 oo sn us tk bb e7 e8 e13 e14 e15 e18 gr hbb _ rfl hx hb hml hts hown hN hK hA (Nat.le_of_ble_eq_true rfl) (Nat.le_of_ble_eq_true rfl) (Nat.le_of_ble_eq_true rfl) (Nat.le_of_ble_eq_true rfl) ?_ bb 0 (by omega) _ _ _ hP hD hS hl0
  intro H locs ls hP hD hS hl
  have hP : va_P (dC, dI) vwCl [(y, .inr (8, [.ref yt, .int v1, .int v2, .ref yr, .ref yk, .ref yz, .ref yp, .int v7, .int v8, .int v9, .int v10, .ref yl, .ref yw, .int v13, .int v14, .int v15, .int v16, .int v17, .int v18, .int v19, .int v20, .int v21, .ref yd, .int v23, .ref ys, .ref yn, .ref ym, .int v27, .ref yf, .ref yo, .ref yh, .ref yb, .int v32, .int v33, .int v34, .int v35, .int v36, .int v37, .int v38, .ref yx, .int v40, .int v41, .int v42])), (yr, .inl (cI, 4668, .inl (jn [0, 4, 0, (nI oo), (nI sn), (nI us), (nI tk), e7, e8, 0, 0, 0, 0, e13, e14, e15, (nI bb), (-1), e18, 0, 0, 0, 0, 0] gr)))] H := hP
  have hD : va_D A [(y, .inr (8, [.ref yt, .int v1, .int v2, .ref yr, .ref yk, .ref yz, .ref yp, .int v7, .int v8, .int v9, .int v10, .ref yl, .ref yw, .int v13, .int v14, .int v15, .int v16, .int v17, .int v18, .int v19, .int v20, .int v21, .ref yd, .int v23, .ref ys, .ref yn, .ref ym, .int v27, .ref yf, .ref yo, .ref yh, .ref yb, .int v32, .int v33, .int v34, .int v35, .int v36, .int v37, .int v38, .ref yx, .int v40, .int v41, .int v42])), (yr, .inl (cI, 4668, .inl (jn [0, 4, 0, (nI oo), (nI sn), (nI us), (nI tk), e7, e8, 0, 0, 0, 0, e13, e14, e15, (nI bb), (-1), e18, 0, 0, 0, 0, 0] gr)))] := hD
  refine lv_iload_n hx hb dX8_heldBits_43 rfl (lv_at hl 1 rfl) ?_
  have hP9 := hP.sub (ws' := [(y, .inr (8, [.ref yt, .int v1, .int v2, .ref yr, .ref yk, .ref yz, .ref yp, .int v7, .int v8, .int v9, .int v10, .ref yl, .ref yw, .int v13, .int v14, .int v15, .int v16, .int v17, .int v18, .int v19, .int v20, .int v21, .ref yd, .int v23, .ref ys, .ref yn, .ref ym, .int v27, .ref yf, .ref yo, .ref yh, .ref yb, .int v32, .int v33, .int v34, .int v35, .int v36, .int v37, .int v38, .ref yx, .int v40, .int v41, .int v42])), (yr, .inl (cI, 4668, .inl (jn [0, 4, 0, (nI oo), (nI sn), (nI us), (nI tk), e7, e8, 0, 0, 0, 0, e13, e14, e15, (nI bb), (-1), e18, 0, 0, 0, 0, 0] gr)))]) [0, 1] rfl
  have hD9 := hD.sub (ws' := [(y, .inr (8, [.ref yt, .int v1, .int v2, .ref yr, .ref yk, .ref yz, .ref yp, .int v7, .int v8, .int v9, .int v10, .ref yl, .ref yw, .int v13, .int v14, .int v15, .int v16, .int v17, .int v18, .int v19, .int v20, .int v21, .ref yd, .int v23, .ref ys, .ref yn, .ref ym, .int v27, .ref yf, .ref yo, .ref yh, .ref yb, .int v32, .int v33, .int v34, .int v35, .int v36, .int v37, .int v38, .ref yx, .int v40, .int v41, .int v42])), (yr, .inl (cI, 4668, .inl (jn [0, 4, 0, (nI oo), (nI sn), (nI us), (nI tk), e7, e8, 0, 0, 0, 0, e13, e14, e15, (nI bb), (-1), e18, 0, 0, 0, 0, 0] gr)))]) [0, 1] (by decide) rfl
  exact W.iret (v := (hbits gr bb)) hx hb hr (fun t ht hW => ⟨⟨(hbits gr bb), (), rfl, rfl, by rw [ht]; exact hP9, va_K.moved hW.alike hK, hD9⟩, hS.F ht⟩) hS.2.2 dX8_heldBits_44

set_option maxHeartbeats 4000000 in
set_option maxRecDepth 100000 in
theorem NLX8_freePlaces {p : Program} {l : Launch} {e : Env} {R : Room} {s : State} {m : MethodId} {args : Array Value} {below : List Frame} {meth : Method} {c : Code} {Q : State → Prop} {A : Nat → Prop} {cells slots : Nat} (dC : Nat → ClassId) (dI : Nat → Nat → Nat) (cI cB cZ cR : ClassId) (y : Nat) (yt : Nat) (yr : Nat) (yk : Nat) (yz : Nat) (yp : Nat) (yl : Nat) (yw : Nat) (yd : Nat) (ys : Nat) (yn : Nat) (ym : Nat) (yf : Nat) (yo : Nat) (yh : Nat) (yb : Nat) (yx : Nat) (v1 : Int32) (v2 : Int32) (v7 : Int32) (v8 : Int32) (v9 : Int32) (v10 : Int32) (v13 : Int32) (v14 : Int32) (v15 : Int32) (v16 : Int32) (v17 : Int32) (v18 : Int32) (v19 : Int32) (v20 : Int32) (v21 : Int32) (v23 : Int32) (v27 : Int32) (v32 : Int32) (v33 : Int32) (v34 : Int32) (v35 : Int32) (v36 : Int32) (v37 : Int32) (v38 : Int32) (v40 : Int32) (v41 : Int32) (v42 : Int32) (oo : Nat) (sn : Nat) (us : Nat) (tk : Nat) (bb : Nat) (e7 : Int32) (e8 : Int32) (e13 : Int32) (e14 : Int32) (e15 : Int32) (e18 : Int32) (gr : Nat → Int32) (hbb : bb ≤ 500) (FY0 : List Value) (hFY0 : FY0 = [.ref yt, .int v1, .int v2, .ref yr, .ref yk, .ref yz, .ref yp, .int v7, .int v8, .int v9, .int v10, .ref yl, .ref yw, .int v13, .int v14, .int v15, .int v16, .int v17, .int v18, .int v19, .int v20, .int v21, .ref yd, .int v23, .ref ys, .ref yn, .ref ym, .int v27, .ref yf, .ref yo, .ref yh, .ref yb, .int v32, .int v33, .int v34, .int v35, .int v36, .int v37, .int v38, .ref yx, .int v40, .int v41, .int v42]) (hx : p.tables.exec = Jvm.exec) (hb : c.code = cX8_freePlaces) (hml : c.maxLocals = 3) (hts : ∀ w ∈ (.code yX8_freePlaces cX8_freePlaces 3 (some .int) :: wsL_law), w.before args s = true) (hown : s.vm.findClass RX8 = some m.cls) (hN : zN s) (hK : va_K (dC, dI) vwCl (zT cI cB cZ cR) s) (hA : ∀ q : Nat, s.heap.size ≤ q → A q) (hRf : 2 ≤ R.frames) (hRl : 42 ≤ R.locals) (hRc : cells ≤ R.cells) (hRs : slots ≤ R.slots)
    (k48 : ∀ (H : Heap) (locs : List Loc) (ls : Array Slot), va_P (dC, dI) vwCl [(y, .inr (8, FY0)), (yr, .inl (cI, 4668, .inl (jn [0, 4, 0, (nI oo), (nI sn), (nI us), (nI tk), e7, e8, 0, 0, 0, 0, e13, e14, e15, (nI bb), (-1), e18, 0, 0, 0, 0, 0] gr)))] H → va_D A [(y, .inr (8, FY0)), (yr, .inl (cI, 4668, .inl (jn [0, 4, 0, (nI oo), (nI sn), (nI us), (nI tk), e7, e8, 0, 0, 0, 0, e13, e14, e15, (nI bb), (-1), e18, 0, 0, 0, 0, 0] gr)))] → va_S A s.heap H locs → lv_has ls 3 [(0, .ref y), (1, .int (freeP gr bb))] → W p l e R s m args below meth c H locs cells slots Q (F0 m 48 ls []))
    : ∀ (n i : Nat), i + n = bb → ∀ (H : Heap) (locs : List Loc) (ls : Array Slot), va_P (dC, dI) vwCl [(y, .inr (8, FY0)), (yr, .inl (cI, 4668, .inl (jn [0, 4, 0, (nI oo), (nI sn), (nI us), (nI tk), e7, e8, 0, 0, 0, 0, e13, e14, e15, (nI bb), (-1), e18, 0, 0, 0, 0, 0] gr)))] H → va_D A [(y, .inr (8, FY0)), (yr, .inl (cI, 4668, .inl (jn [0, 4, 0, (nI oo), (nI sn), (nI us), (nI tk), e7, e8, 0, 0, 0, 0, e13, e14, e15, (nI bb), (-1), e18, 0, 0, 0, 0, 0] gr)))] → va_S A s.heap H locs → lv_has ls 3 [(0, .ref y), (1, .int (freeP gr i)), (2, .int (nI i))] → W p l e R s m args below meth c H locs cells slots Q (F0 m 9 ls []) := by
  have hinX8 : ∀ w ∈ u_ws RX8 TX8 43, w ∈ (.code yX8_freePlaces cX8_freePlaces 3 (some .int) :: wsL_law) := fun w h => List.mem_cons_of_mem _ (inlX8 w h)
  subst hFY0
  have kw_0 := hts (.fieldLink RX8 13 "RingMarksModel" "\x72" "[I") (List.mem_cons_of_mem _ wm_128)
  intro n
  induction n with
  | zero =>
    intro i hi  H locs ls hP hD hS hl
    have hin : i = bb := by omega
    have hge : (nI bb) ≤ (nI i) := by rw [hin]; exact Int32.le_refl _
    refine lv_iload_n hx hb dX8_freePlaces_9 rfl (lv_at hl 2 rfl) ?_
    refine lv_aload_n hx hb dX8_freePlaces_10 rfl (lv_at hl 0 rfl) ?_
    refine va_get (D := (dC, dI)) (ci := 8) (v := .ref yr) (C := RX8) (T := TX8) (N := 43) hx hb hts hinX8 hown hK hP 0 rfl rfl 3 (by decide) kw_0 (fun _ h9 => h9) rfl dX8_freePlaces_11 ?_
    refine lv_bipush (v := 16) hx hb dX8_freePlaces_14 (by decide) ?_
    refine za_iald (v := (nI bb)) hx hb hK hP 1 0 rfl rfl (zin tn_16 (Nat.le_of_ble_eq_true rfl)) (zrd _ tn_16 rfl) dX8_freePlaces_16 ?_
    refine lv_icmp_ge (tgt := 48) hx hb dX8_freePlaces_17 (by decide) (fun _ => ?_) (fun c => absurd hge c)
    subst hin; exact k48 _ _ _ hP hD hS (lv_sub hl [0, 1] rfl)
  | succ n ih =>
    intro i hi  H locs ls hP hD hS hl
    have hlt : i < bb := by omega
    have hge : ¬ (nI bb) ≤ (nI i) := nI_ge hlt (by omega)
    refine lv_iload_n hx hb dX8_freePlaces_9 rfl (lv_at hl 2 rfl) ?_
    refine lv_aload_n hx hb dX8_freePlaces_10 rfl (lv_at hl 0 rfl) ?_
    refine va_get (D := (dC, dI)) (ci := 8) (v := .ref yr) (C := RX8) (T := TX8) (N := 43) hx hb hts hinX8 hown hK hP 0 rfl rfl 3 (by decide) kw_0 (fun _ h9 => h9) rfl dX8_freePlaces_11 ?_
    refine lv_bipush (v := 16) hx hb dX8_freePlaces_14 (by decide) ?_
    refine za_iald (v := (nI bb)) hx hb hK hP 1 0 rfl rfl (zin tn_16 (Nat.le_of_ble_eq_true rfl)) (zrd _ tn_16 rfl) dX8_freePlaces_16 ?_
    refine lv_icmp_ge (tgt := 48) hx hb dX8_freePlaces_17 (by decide) (fun c => absurd c hge) (fun _ => ?_)
    refine lv_aload_n hx hb dX8_freePlaces_20 rfl (lv_at hl 0 rfl) ?_
    refine lv_iload_n hx hb dX8_freePlaces_21 rfl (lv_at hl 2 rfl) ?_
    refine zcVi (As := [.int (nI i)]) (rest := []) (wr := []) ⟨hx, hb, hml, hown, hts⟩ (kkX8_isOut l dC dI cI cB cZ cR H.size y yt yr yk yz yp yl yw yd ys yn ym yf yo yh yb yx v1 v2 v7 v8 v9 v10 v13 v14 v15 v16 v17 v18 v19 v20 v21 v23 v27 v32 v33 v34 v35 v36 v37 v38 v40 v41 v42 oo sn us tk bb e7 e8 e13 e14 e15 e18 gr i (by omega)) (cwV 1 hts (zgV wm_365 wm_366 wm_367 wm_5 wm_368) rfl rfl rfl (by decide +kernel) ⟨Nat.le_trans (Nat.le_of_ble_eq_true rfl) hRf, Nat.le_trans (Nat.le_of_ble_eq_true rfl) hRl⟩) hN hK hP hD hS hA [0, 1] [] rfl rfl ⟨rfl, rfl⟩ (by decide) (ci := 8) rfl rfl rfl rfl hl.1 rfl (Nat.le_of_ble_eq_true rfl) dX8_freePlaces_22 ⟨hRc, hRs⟩ (fun r u hu H locs hP hD hS => ?_)
    have hu : r = (pfX8_isOut_r gr i) := hu
    subst hu
    have hP : va_P (dC, dI) vwCl [(y, .inr (8, [.ref yt, .int v1, .int v2, .ref yr, .ref yk, .ref yz, .ref yp, .int v7, .int v8, .int v9, .int v10, .ref yl, .ref yw, .int v13, .int v14, .int v15, .int v16, .int v17, .int v18, .int v19, .int v20, .int v21, .ref yd, .int v23, .ref ys, .ref yn, .ref ym, .int v27, .ref yf, .ref yo, .ref yh, .ref yb, .int v32, .int v33, .int v34, .int v35, .int v36, .int v37, .int v38, .ref yx, .int v40, .int v41, .int v42])), (yr, .inl (cI, 4668, .inl (jn [0, 4, 0, (nI oo), (nI sn), (nI us), (nI tk), e7, e8, 0, 0, 0, 0, e13, e14, e15, (nI bb), (-1), e18, 0, 0, 0, 0, 0] gr)))] H := hP
    have hD : va_D A [(y, .inr (8, [.ref yt, .int v1, .int v2, .ref yr, .ref yk, .ref yz, .ref yp, .int v7, .int v8, .int v9, .int v10, .ref yl, .ref yw, .int v13, .int v14, .int v15, .int v16, .int v17, .int v18, .int v19, .int v20, .int v21, .ref yd, .int v23, .ref ys, .ref yn, .ref ym, .int v27, .ref yf, .ref yo, .ref yh, .ref yb, .int v32, .int v33, .int v34, .int v35, .int v36, .int v37, .int v38, .ref yx, .int v40, .int v41, .int v42])), (yr, .inl (cI, 4668, .inl (jn [0, 4, 0, (nI oo), (nI sn), (nI us), (nI tk), e7, e8, 0, 0, 0, 0, e13, e14, e15, (nI bb), (-1), e18, 0, 0, 0, 0, 0] gr)))] := hD
    refine lv_if_eq (tgt := 42) hx hb dX8_freePlaces_25 (by decide) (fun c_1 => ?_) (fun c_1 => ?_)
    · refine lv_iinc (v := (nI (i + 1))) (lv' := [(2, .int (nI (i + 1))), (0, .ref y), (1, .int (freeP gr i))]) hx hb dX8_freePlaces_42 hl (k := 2) rfl (show (nI i) + Int32.ofInt 1 = _ from nI_add _ 1) (by decide) rfl (fun ls hl => ?_)
      refine lv_goto (tgt := 9) hx hb dX8_freePlaces_45 (by decide) ?_
      have e_0 : (freeP gr (i + 1)) = (freeP gr i) := by rw [freeP, if_pos c_1]
      exact ih (i + 1) (by omega)  _ _ _ hP hD hS (by rw [e_0]; exact (lv_sub hl [1, 2, 0] rfl))
    · refine lv_iload_n hx hb dX8_freePlaces_28 rfl (lv_at hl 1 rfl) ?_
      refine lv_aload_n hx hb dX8_freePlaces_29 rfl (lv_at hl 0 rfl) ?_
      refine va_get (D := (dC, dI)) (ci := 8) (v := .ref yr) (C := RX8) (T := TX8) (N := 43) hx hb hts hinX8 hown hK hP 0 rfl rfl 3 (by decide) kw_0 (fun _ h9 => h9) rfl dX8_freePlaces_30 ?_
      refine lv_iload_n hx hb dX8_freePlaces_33 rfl (lv_at hl 2 rfl) ?_
      refine lv_bipush (v := 7) hx hb dX8_freePlaces_34 (by decide) ?_
      refine zcSi (As := [.int (nI i), .int 7]) (rest := [.ref yr, .int (freeP gr i)]) (wr := [(y, .inr (8, [.ref yt, .int v1, .int v2, .ref yr, .ref yk, .ref yz, .ref yp, .int v7, .int v8, .int v9, .int v10, .ref yl, .ref yw, .int v13, .int v14, .int v15, .int v16, .int v17, .int v18, .int v19, .int v20, .int v21, .ref yd, .int v23, .ref ys, .ref yn, .ref ym, .int v27, .ref yf, .ref yo, .ref yh, .ref yb, .int v32, .int v33, .int v34, .int v35, .int v36, .int v37, .int v38, .ref yx, .int v40, .int v41, .int v42])), (yr, .inl (cI, 4668, .inl (jn [0, 4, 0, (nI oo), (nI sn), (nI us), (nI tk), e7, e8, 0, 0, 0, 0, e13, e14, e15, (nI bb), (-1), e18, 0, 0, 0, 0, 0] gr)))]) ⟨hx, hb, hml, hown, hts⟩ (kkX8_of_7 l dC dI cI cB cZ cR H.size (nI i) ) (va_cwS 2 hts (zgS wm_369 wm_370 wm_5 wm_371) rfl rfl rfl (by decide +kernel) ⟨Nat.le_trans (Nat.le_of_ble_eq_true rfl) hRf, Nat.le_trans (Nat.le_of_ble_eq_true rfl) hRl⟩) hN hK hP hD hS hA [] [0, 1] rfl rfl ⟨rfl, rfl⟩ (by decide) rfl hl.1 rfl (Nat.le_of_ble_eq_true rfl) dX8_freePlaces_36 ⟨hRc, hRs⟩ (fun r u hu H locs hP hD hS => ?_)
      have hu : r = (3668 + (nI i)) := hu
      subst hu
      have hP : va_P (dC, dI) vwCl [(y, .inr (8, [.ref yt, .int v1, .int v2, .ref yr, .ref yk, .ref yz, .ref yp, .int v7, .int v8, .int v9, .int v10, .ref yl, .ref yw, .int v13, .int v14, .int v15, .int v16, .int v17, .int v18, .int v19, .int v20, .int v21, .ref yd, .int v23, .ref ys, .ref yn, .ref ym, .int v27, .ref yf, .ref yo, .ref yh, .ref yb, .int v32, .int v33, .int v34, .int v35, .int v36, .int v37, .int v38, .ref yx, .int v40, .int v41, .int v42])), (yr, .inl (cI, 4668, .inl (jn [0, 4, 0, (nI oo), (nI sn), (nI us), (nI tk), e7, e8, 0, 0, 0, 0, e13, e14, e15, (nI bb), (-1), e18, 0, 0, 0, 0, 0] gr)))] H := hP
      have hD : va_D A [(y, .inr (8, [.ref yt, .int v1, .int v2, .ref yr, .ref yk, .ref yz, .ref yp, .int v7, .int v8, .int v9, .int v10, .ref yl, .ref yw, .int v13, .int v14, .int v15, .int v16, .int v17, .int v18, .int v19, .int v20, .int v21, .ref yd, .int v23, .ref ys, .ref yn, .ref ym, .int v27, .ref yf, .ref yo, .ref yh, .ref yb, .int v32, .int v33, .int v34, .int v35, .int v36, .int v37, .int v38, .ref yx, .int v40, .int v41, .int v42])), (yr, .inl (cI, 4668, .inl (jn [0, 4, 0, (nI oo), (nI sn), (nI us), (nI tk), e7, e8, 0, 0, 0, 0, e13, e14, e15, (nI bb), (-1), e18, 0, 0, 0, 0, 0] gr)))] := hD
      refine tp (y := (nI (3668 + i))) ((show nI 3668 + nI i = _ from nI_add _ _)) ?_
      refine za_iald (v := (gr ((3668 + i)))) hx hb hK hP 1 0 rfl rfl (vp_in_nI (by omega) (by decide)) (jrd (by omega) (by omega)) dX8_freePlaces_39 ?_
      refine lv_isub hx hb dX8_freePlaces_40 ?_
      refine lv_istore_n (lv' := [(1, .int ((freeP gr i) - (gr ((3668 + i))))), (0, .ref y), (2, .int (nI i))]) hx hb dX8_freePlaces_41 rfl hl (by decide) rfl (fun ls hl => ?_)
      refine lv_iinc (v := (nI (i + 1))) (lv' := [(2, .int (nI (i + 1))), (1, .int ((freeP gr i) - (gr ((3668 + i))))), (0, .ref y)]) hx hb dX8_freePlaces_42 hl (k := 2) rfl (show (nI i) + Int32.ofInt 1 = _ from nI_add _ 1) (by decide) rfl (fun ls hl => ?_)
      refine lv_goto (tgt := 9) hx hb dX8_freePlaces_45 (by decide) ?_
      have e_0 : (freeP gr (i + 1)) = ((freeP gr i) - (gr ((3668 + i)))) := by rw [freeP, if_neg c_1]
      exact ih (i + 1) (by omega)  _ _ _ hP hD hS (by rw [e_0]; exact (lv_sub hl [2, 1, 0] rfl))

set_option maxHeartbeats 4000000 in
set_option maxRecDepth 100000 in
theorem kkX8_freePlaces_g (l : Launch) (dC : Nat → ClassId) (dI : Nat → Nat → Nat) (cI cB cZ cR : ClassId) (sz : Nat) (y : Nat) (yt : Nat) (yr : Nat) (yk : Nat) (yz : Nat) (yp : Nat) (yl : Nat) (yw : Nat) (yd : Nat) (ys : Nat) (yn : Nat) (ym : Nat) (yf : Nat) (yo : Nat) (yh : Nat) (yb : Nat) (yx : Nat) (v1 : Int32) (v2 : Int32) (v7 : Int32) (v8 : Int32) (v9 : Int32) (v10 : Int32) (v13 : Int32) (v14 : Int32) (v15 : Int32) (v16 : Int32) (v17 : Int32) (v18 : Int32) (v19 : Int32) (v20 : Int32) (v21 : Int32) (v23 : Int32) (v27 : Int32) (v32 : Int32) (v33 : Int32) (v34 : Int32) (v35 : Int32) (v36 : Int32) (v37 : Int32) (v38 : Int32) (v40 : Int32) (v41 : Int32) (v42 : Int32) (oo : Nat) (sn : Nat) (us : Nat) (tk : Nat) (bb : Nat) (e7 : Int32) (e8 : Int32) (e13 : Int32) (e14 : Int32) (e15 : Int32) (e18 : Int32) (gr : Nat → Int32) (hbb : bb ≤ 500) : Met l yX8_freePlaces (.code yX8_freePlaces cX8_freePlaces 3 (some .int) :: wsL_law) ({ frames := 2, cells := 0, slots := 0, locals := 42 }) (zPc dC dI (zT cI cB cZ cR) [.ref y] sz [(y, .inr (8, [.ref yt, .int v1, .int v2, .ref yr, .ref yk, .ref yz, .ref yp, .int v7, .int v8, .int v9, .int v10, .ref yl, .ref yw, .int v13, .int v14, .int v15, .int v16, .int v17, .int v18, .int v19, .int v20, .int v21, .ref yd, .int v23, .ref ys, .ref yn, .ref ym, .int v27, .ref yf, .ref yo, .ref yh, .ref yb, .int v32, .int v33, .int v34, .int v35, .int v36, .int v37, .int v38, .ref yx, .int v40, .int v41, .int v42])), (yr, .inl (cI, 4668, .inl (jn [0, 4, 0, (nI oo), (nI sn), (nI us), (nI tk), e7, e8, 0, 0, 0, 0, e13, e14, e15, (nI bb), (-1), e18, 0, 0, 0, 0, 0] gr)))]) (va_Qi (fun (r : Int32) (_ : Unit) => r = (freeP gr bb)) (fun _ : Unit => zB dC dI (zT cI cB cZ cR) (va_A [(y, .inr (8, [.ref yt, .int v1, .int v2, .ref yr, .ref yk, .ref yz, .ref yp, .int v7, .int v8, .int v9, .int v10, .ref yl, .ref yw, .int v13, .int v14, .int v15, .int v16, .int v17, .int v18, .int v19, .int v20, .int v21, .ref yd, .int v23, .ref ys, .ref yn, .ref ym, .int v27, .ref yf, .ref yo, .ref yh, .ref yb, .int v32, .int v33, .int v34, .int v35, .int v36, .int v37, .int v38, .ref yx, .int v40, .int v41, .int v42])), (yr, .inl (cI, 4668, .inl (jn [0, 4, 0, (nI oo), (nI sn), (nI us), (nI tk), e7, e8, 0, 0, 0, 0, e13, e14, e15, (nI bb), (-1), e18, 0, 0, 0, 0, 0] gr)))] sz) [(y, .inr (8, [.ref yt, .int v1, .int v2, .ref yr, .ref yk, .ref yz, .ref yp, .int v7, .int v8, .int v9, .int v10, .ref yl, .ref yw, .int v13, .int v14, .int v15, .int v16, .int v17, .int v18, .int v19, .int v20, .int v21, .ref yd, .int v23, .ref ys, .ref yn, .ref ym, .int v27, .ref yf, .ref yo, .ref yh, .ref yb, .int v32, .int v33, .int v34, .int v35, .int v36, .int v37, .int v38, .ref yx, .int v40, .int v41, .int v42])), (yr, .inl (cI, 4668, .inl (jn [0, 4, 0, (nI oo), (nI sn), (nI us), (nI tk), e7, e8, 0, 0, 0, 0, e13, e14, e15, (nI bb), (-1), e18, 0, 0, 0, 0, 0] gr)))]) (va_A [(y, .inr (8, [.ref yt, .int v1, .int v2, .ref yr, .ref yk, .ref yz, .ref yp, .int v7, .int v8, .int v9, .int v10, .ref yl, .ref yw, .int v13, .int v14, .int v15, .int v16, .int v17, .int v18, .int v19, .int v20, .int v21, .ref yd, .int v23, .ref ys, .ref yn, .ref ym, .int v27, .ref yf, .ref yo, .ref yh, .ref yb, .int v32, .int v33, .int v34, .int v35, .int v36, .int v37, .int v38, .ref yx, .int v40, .int v41, .int v42])), (yr, .inl (cI, 4668, .inl (jn [0, 4, 0, (nI oo), (nI sn), (nI us), (nI tk), e7, e8, 0, 0, 0, 0, e13, e14, e15, (nI bb), (-1), e18, 0, 0, 0, 0, 0] gr)))] sz)) 0 0 (va_A [(y, .inr (8, [.ref yt, .int v1, .int v2, .ref yr, .ref yk, .ref yz, .ref yp, .int v7, .int v8, .int v9, .int v10, .ref yl, .ref yw, .int v13, .int v14, .int v15, .int v16, .int v17, .int v18, .int v19, .int v20, .int v21, .ref yd, .int v23, .ref ys, .ref yn, .ref ym, .int v27, .ref yf, .ref yo, .ref yh, .ref yb, .int v32, .int v33, .int v34, .int v35, .int v36, .int v37, .int v38, .ref yx, .int v40, .int v41, .int v42])), (yr, .inl (cI, 4668, .inl (jn [0, 4, 0, (nI oo), (nI sn), (nI us), (nI tk), e7, e8, 0, 0, 0, 0, e13, e14, e15, (nI bb), (-1), e18, 0, 0, 0, 0, 0] gr)))] sz) := by
  refine Met.ofW (cc := cX8_freePlaces) (maxL := 3) (ret := (some .int)) (by decide) rfl ?_
  intro p e s m args below meth c s₁ B hml hv
  obtain ⟨rfl, hsz, hP, hK, hD0, hN⟩ := hv
  have hx := B.exec
  have hb := B.bytes
  have hr := B.returns
  have hts := atoms_spec (ws := (.code yX8_freePlaces cX8_freePlaces 3 (some .int) :: wsL_law)) B.pre
  have hown : s.vm.findClass RX8 = some m.cls := findClass_of_methodNamed B.named
  have hlocks := B.notSynchronized
  have hinX8 : ∀ w ∈ u_ws RX8 TX8 43, w ∈ (.code yX8_freePlaces cX8_freePlaces 3 (some .int) :: wsL_law) := fun w h => List.mem_cons_of_mem _ (inlX8 w h)
  have k_0 := hts (.fieldLink RX8 13 "RingMarksModel" "\x72" "[I") (List.mem_cons_of_mem _ wm_128)
  subst hsz
  have hD := hD0.self (sz := s.heap.size)
  generalize hAe : va_A [(y, .inr (8, [.ref yt, .int v1, .int v2, .ref yr, .ref yk, .ref yz, .ref yp, .int v7, .int v8, .int v9, .int v10, .ref yl, .ref yw, .int v13, .int v14, .int v15, .int v16, .int v17, .int v18, .int v19, .int v20, .int v21, .ref yd, .int v23, .ref ys, .ref yn, .ref ym, .int v27, .ref yf, .ref yo, .ref yh, .ref yb, .int v32, .int v33, .int v34, .int v35, .int v36, .int v37, .int v38, .ref yx, .int v40, .int v41, .int v42])), (yr, .inl (cI, 4668, .inl (jn [0, 4, 0, (nI oo), (nI sn), (nI us), (nI tk), e7, e8, 0, 0, 0, 0, e13, e14, e15, (nI bb), (-1), e18, 0, 0, 0, 0, 0] gr)))] s.heap.size = A at hD ⊢
  have hA : ∀ q : Nat, s.heap.size ≤ q → A q := fun q h => by rw [← hAe]; exact Or.inr h
  have hP : va_P (dC, dI) vwCl [(y, .inr (8, [.ref yt, .int v1, .int v2, .ref yr, .ref yk, .ref yz, .ref yp, .int v7, .int v8, .int v9, .int v10, .ref yl, .ref yw, .int v13, .int v14, .int v15, .int v16, .int v17, .int v18, .int v19, .int v20, .int v21, .ref yd, .int v23, .ref ys, .ref yn, .ref ym, .int v27, .ref yf, .ref yo, .ref yh, .ref yb, .int v32, .int v33, .int v34, .int v35, .int v36, .int v37, .int v38, .ref yx, .int v40, .int v41, .int v42])), (yr, .inl (cI, 4668, .inl (jn [0, 4, 0, (nI oo), (nI sn), (nI us), (nI tk), e7, e8, 0, 0, 0, 0, e13, e14, e15, (nI bb), (-1), e18, 0, 0, 0, 0, 0] gr)))] s.heap := hP
  have hl := lv_entry ([.ref y]) (n := 3) (Nat.le_of_ble_eq_true rfl)
  rw [lg_entry_eq]
  generalize (lg_sl ([.ref y]) ++ List.replicate (3 - (lg_sl ([.ref y])).length) Slot.unset).toArray = ls at hl ⊢
  have hl : lv_has ls 3 [(0, .ref y)] := hl
  obtain ⟨H, hH⟩ : ∃ H, H = s.heap := ⟨_, rfl⟩
  rw [← hH] at hP ⊢
  have hS : va_S A s.heap H [] := by rw [hH]; exact va_S.rf
  refine lv_aload_n hx hb dX8_freePlaces_0 rfl (lv_at hl 0 rfl) ?_
  refine va_get (D := (dC, dI)) (ci := 8) (v := .ref yr) (C := RX8) (T := TX8) (N := 43) hx hb hts hinX8 hown hK hP 0 rfl rfl 3 (by decide) k_0 (fun _ h9 => h9) rfl dX8_freePlaces_1 ?_
  refine lv_iconst (v := 1) hx hb dX8_freePlaces_4 (by decide) ?_
  refine za_iald (v := 4) hx hb hK hP 1 0 rfl rfl (zin tn_1 (Nat.le_of_ble_eq_true rfl)) (zrd _ tn_1 rfl) dX8_freePlaces_5 ?_
  refine lv_istore_n (lv' := [(1, .int 4), (0, .ref y)]) hx hb dX8_freePlaces_6 rfl hl (by decide) rfl (fun ls hl => ?_)
  refine lv_iconst (v := 0) hx hb dX8_freePlaces_7 (by decide) ?_
  refine lv_istore_n (lv' := [(2, .int 0), (1, .int 4), (0, .ref y)]) hx hb dX8_freePlaces_8 rfl hl (by decide) rfl (fun ls hl => ?_)
  have hP := hP.sub (ws' := [(y, .inr (8, [.ref yt, .int v1, .int v2, .ref yr, .ref yk, .ref yz, .ref yp, .int v7, .int v8, .int v9, .int v10, .ref yl, .ref yw, .int v13, .int v14, .int v15, .int v16, .int v17, .int v18, .int v19, .int v20, .int v21, .ref yd, .int v23, .ref ys, .ref yn, .ref ym, .int v27, .ref yf, .ref yo, .ref yh, .ref yb, .int v32, .int v33, .int v34, .int v35, .int v36, .int v37, .int v38, .ref yx, .int v40, .int v41, .int v42])), (yr, .inl (cI, 4668, .inl (jn [0, 4, 0, (nI oo), (nI sn), (nI us), (nI tk), e7, e8, 0, 0, 0, 0, e13, e14, e15, (nI bb), (-1), e18, 0, 0, 0, 0, 0] gr)))]) [0, 1] rfl
  have hD := hD.sub (ws' := [(y, .inr (8, [.ref yt, .int v1, .int v2, .ref yr, .ref yk, .ref yz, .ref yp, .int v7, .int v8, .int v9, .int v10, .ref yl, .ref yw, .int v13, .int v14, .int v15, .int v16, .int v17, .int v18, .int v19, .int v20, .int v21, .ref yd, .int v23, .ref ys, .ref yn, .ref ym, .int v27, .ref yf, .ref yo, .ref yh, .ref yb, .int v32, .int v33, .int v34, .int v35, .int v36, .int v37, .int v38, .ref yx, .int v40, .int v41, .int v42])), (yr, .inl (cI, 4668, .inl (jn [0, 4, 0, (nI oo), (nI sn), (nI us), (nI tk), e7, e8, 0, 0, 0, 0, e13, e14, e15, (nI bb), (-1), e18, 0, 0, 0, 0, 0] gr)))]) [0, 1] (by decide) rfl
  have hl0 : lv_has ls 3 [(0, .ref y), (1, .int (freeP gr 0)), (2, .int (nI 0))] := (lv_sub hl [2, 1, 0] rfl)
  refine NLX8_freePlaces dC dI cI cB cZ cR y yt yr yk yz yp yl yw yd ys yn ym yf yo yh yb yx v1 v2 v7 v8 v9 v10 v13 v14 v15 v16 v17 v18 v19 v20 v21 v23 v27 v32 v33 v34 v35 v36 v37 v38 v40 v41 v42 oo sn us tk bb e7 e8 e13 e14 e15 e18 gr hbb _ rfl hx hb hml hts hown hN hK hA (Nat.le_of_ble_eq_true rfl) (Nat.le_of_ble_eq_true rfl) (Nat.le_of_ble_eq_true rfl) (Nat.le_of_ble_eq_true rfl) ?_ bb 0 (by omega) _ _ _ hP hD hS hl0
  intro H locs ls hP hD hS hl
  have hP : va_P (dC, dI) vwCl [(y, .inr (8, [.ref yt, .int v1, .int v2, .ref yr, .ref yk, .ref yz, .ref yp, .int v7, .int v8, .int v9, .int v10, .ref yl, .ref yw, .int v13, .int v14, .int v15, .int v16, .int v17, .int v18, .int v19, .int v20, .int v21, .ref yd, .int v23, .ref ys, .ref yn, .ref ym, .int v27, .ref yf, .ref yo, .ref yh, .ref yb, .int v32, .int v33, .int v34, .int v35, .int v36, .int v37, .int v38, .ref yx, .int v40, .int v41, .int v42])), (yr, .inl (cI, 4668, .inl (jn [0, 4, 0, (nI oo), (nI sn), (nI us), (nI tk), e7, e8, 0, 0, 0, 0, e13, e14, e15, (nI bb), (-1), e18, 0, 0, 0, 0, 0] gr)))] H := hP
  have hD : va_D A [(y, .inr (8, [.ref yt, .int v1, .int v2, .ref yr, .ref yk, .ref yz, .ref yp, .int v7, .int v8, .int v9, .int v10, .ref yl, .ref yw, .int v13, .int v14, .int v15, .int v16, .int v17, .int v18, .int v19, .int v20, .int v21, .ref yd, .int v23, .ref ys, .ref yn, .ref ym, .int v27, .ref yf, .ref yo, .ref yh, .ref yb, .int v32, .int v33, .int v34, .int v35, .int v36, .int v37, .int v38, .ref yx, .int v40, .int v41, .int v42])), (yr, .inl (cI, 4668, .inl (jn [0, 4, 0, (nI oo), (nI sn), (nI us), (nI tk), e7, e8, 0, 0, 0, 0, e13, e14, e15, (nI bb), (-1), e18, 0, 0, 0, 0, 0] gr)))] := hD
  refine lv_iload_n hx hb dX8_freePlaces_48 rfl (lv_at hl 1 rfl) ?_
  have hP9 := hP.sub (ws' := [(y, .inr (8, [.ref yt, .int v1, .int v2, .ref yr, .ref yk, .ref yz, .ref yp, .int v7, .int v8, .int v9, .int v10, .ref yl, .ref yw, .int v13, .int v14, .int v15, .int v16, .int v17, .int v18, .int v19, .int v20, .int v21, .ref yd, .int v23, .ref ys, .ref yn, .ref ym, .int v27, .ref yf, .ref yo, .ref yh, .ref yb, .int v32, .int v33, .int v34, .int v35, .int v36, .int v37, .int v38, .ref yx, .int v40, .int v41, .int v42])), (yr, .inl (cI, 4668, .inl (jn [0, 4, 0, (nI oo), (nI sn), (nI us), (nI tk), e7, e8, 0, 0, 0, 0, e13, e14, e15, (nI bb), (-1), e18, 0, 0, 0, 0, 0] gr)))]) [0, 1] rfl
  have hD9 := hD.sub (ws' := [(y, .inr (8, [.ref yt, .int v1, .int v2, .ref yr, .ref yk, .ref yz, .ref yp, .int v7, .int v8, .int v9, .int v10, .ref yl, .ref yw, .int v13, .int v14, .int v15, .int v16, .int v17, .int v18, .int v19, .int v20, .int v21, .ref yd, .int v23, .ref ys, .ref yn, .ref ym, .int v27, .ref yf, .ref yo, .ref yh, .ref yb, .int v32, .int v33, .int v34, .int v35, .int v36, .int v37, .int v38, .ref yx, .int v40, .int v41, .int v42])), (yr, .inl (cI, 4668, .inl (jn [0, 4, 0, (nI oo), (nI sn), (nI us), (nI tk), e7, e8, 0, 0, 0, 0, e13, e14, e15, (nI bb), (-1), e18, 0, 0, 0, 0, 0] gr)))]) [0, 1] (by decide) rfl
  exact W.iret (v := (freeP gr bb)) hx hb hr (fun t ht hW => ⟨⟨(freeP gr bb), (), rfl, rfl, by rw [ht]; exact hP9, va_K.moved hW.alike hK, hD9⟩, hS.F ht⟩) hS.2.2 dX8_freePlaces_49

set_option maxHeartbeats 4000000 in
set_option maxRecDepth 100000 in
theorem NLX8_withHead {p : Program} {l : Launch} {e : Env} {R : Room} {s : State} {m : MethodId} {args : Array Value} {below : List Frame} {meth : Method} {c : Code} {Q : State → Prop} {A : Nat → Prop} {cells slots : Nat} (dC : Nat → ClassId) (dI : Nat → Nat → Nat) (cI cB cZ cR : ClassId) (y : Nat) (yt : Nat) (yr : Nat) (yk : Nat) (yz : Nat) (yp : Nat) (yl : Nat) (yw : Nat) (yd : Nat) (ys : Nat) (yn : Nat) (ym : Nat) (yf : Nat) (yo : Nat) (yh : Nat) (yb : Nat) (yx : Nat) (v1 : Int32) (v2 : Int32) (v7 : Int32) (v8 : Int32) (v9 : Int32) (v10 : Int32) (v13 : Int32) (v14 : Int32) (v15 : Int32) (v16 : Int32) (v17 : Int32) (v18 : Int32) (v19 : Int32) (v20 : Int32) (v21 : Int32) (v23 : Int32) (v27 : Int32) (v32 : Int32) (v33 : Int32) (v34 : Int32) (v35 : Int32) (v36 : Int32) (v37 : Int32) (v38 : Int32) (v40 : Int32) (v41 : Int32) (v42 : Int32) (oo : Nat) (sn : Nat) (us : Nat) (tk : Nat) (bb : Nat) (e7 : Int32) (e8 : Int32) (e13 : Int32) (e14 : Int32) (e15 : Int32) (e18 : Int32) (gr : Nat → Int32) (st : Int32) (hd : Int32) (hbb : bb ≤ 500) (FY0 : List Value) (hFY0 : FY0 = [.ref yt, .int v1, .int v2, .ref yr, .ref yk, .ref yz, .ref yp, .int v7, .int v8, .int v9, .int v10, .ref yl, .ref yw, .int v13, .int v14, .int v15, .int v16, .int v17, .int v18, .int v19, .int v20, .int v21, .ref yd, .int v23, .ref ys, .ref yn, .ref ym, .int v27, .ref yf, .ref yo, .ref yh, .ref yb, .int v32, .int v33, .int v34, .int v35, .int v36, .int v37, .int v38, .ref yx, .int v40, .int v41, .int v42]) (hx : p.tables.exec = Jvm.exec) (hb : c.code = cX8_withHead) (hml : c.maxLocals = 4) (hts : ∀ w ∈ (.code yX8_withHead cX8_withHead 4 (some .int) :: wsL_law), w.before args s = true) (hown : s.vm.findClass RX8 = some m.cls) (hN : zN s) (hK : va_K (dC, dI) vwCl (zT cI cB cZ cR) s) (hA : ∀ q : Nat, s.heap.size ≤ q → A q) (hRf : 1 ≤ R.frames) (hRl : 21 ≤ R.locals) (hRc : cells ≤ R.cells) (hRs : slots ≤ R.slots)
    (rv : Int32)
    (k42 : ∀ (H : Heap) (locs : List Loc) (ls : Array Slot), va_P (dC, dI) vwCl [(y, .inr (8, FY0)), (yr, .inl (cI, 4668, .inl (jn [0, 4, 0, (nI oo), (nI sn), (nI us), (nI tk), e7, e8, 0, 0, 0, 0, e13, e14, e15, (nI bb), (-1), e18, 0, 0, 0, 0, 0] gr)))] H → va_D A [(y, .inr (8, FY0)), (yr, .inl (cI, 4668, .inl (jn [0, 4, 0, (nI oo), (nI sn), (nI us), (nI tk), e7, e8, 0, 0, 0, 0, e13, e14, e15, (nI bb), (-1), e18, 0, 0, 0, 0, 0] gr)))] → va_S A s.heap H locs → lv_has ls 4 [(0, .ref y)] → W p l e R s m args below meth c H locs cells slots Q (F0 m 42 ls [.int rv]))
    (k50 : ∀ (H : Heap) (locs : List Loc) (ls : Array Slot), va_P (dC, dI) vwCl [(y, .inr (8, FY0)), (yr, .inl (cI, 4668, .inl (jn [0, 4, 0, (nI oo), (nI sn), (nI us), (nI tk), e7, e8, 0, 0, 0, 0, e13, e14, e15, (nI bb), (-1), e18, 0, 0, 0, 0, 0] gr)))] H → va_D A [(y, .inr (8, FY0)), (yr, .inl (cI, 4668, .inl (jn [0, 4, 0, (nI oo), (nI sn), (nI us), (nI tk), e7, e8, 0, 0, 0, 0, e13, e14, e15, (nI bb), (-1), e18, 0, 0, 0, 0, 0] gr)))] → va_S A s.heap H locs → lv_has ls 4 [(0, .ref y)] → W p l e R s m args below meth c H locs cells slots Q (F0 m 50 ls [.int rv]))
    : ∀ (n i : Nat), i + n = bb → (whF gr st hd n i) = rv → ∀ (H : Heap) (locs : List Loc) (ls : Array Slot), va_P (dC, dI) vwCl [(y, .inr (8, FY0)), (yr, .inl (cI, 4668, .inl (jn [0, 4, 0, (nI oo), (nI sn), (nI us), (nI tk), e7, e8, 0, 0, 0, 0, e13, e14, e15, (nI bb), (-1), e18, 0, 0, 0, 0, 0] gr)))] H → va_D A [(y, .inr (8, FY0)), (yr, .inl (cI, 4668, .inl (jn [0, 4, 0, (nI oo), (nI sn), (nI us), (nI tk), e7, e8, 0, 0, 0, 0, e13, e14, e15, (nI bb), (-1), e18, 0, 0, 0, 0, 0] gr)))] → va_S A s.heap H locs → lv_has ls 4 [(0, .ref y), (1, .int st), (2, .int hd), (3, .int (nI i))] → W p l e R s m args below meth c H locs cells slots Q (F0 m 2 ls []) := by
  have hinX8 : ∀ w ∈ u_ws RX8 TX8 43, w ∈ (.code yX8_withHead cX8_withHead 4 (some .int) :: wsL_law) := fun w h => List.mem_cons_of_mem _ (inlX8 w h)
  subst hFY0
  have kw_0 := hts (.fieldLink RX8 13 "RingMarksModel" "\x72" "[I") (List.mem_cons_of_mem _ wm_128)
  intro n
  induction n with
  | zero =>
    intro i hi hrv H locs ls hP hD hS hl
    have hin : i = bb := by omega
    have hge : (nI bb) ≤ (nI i) := by rw [hin]; exact Int32.le_refl _
    refine lv_iload_n hx hb dX8_withHead_2 rfl (lv_at hl 3 rfl) ?_
    refine lv_aload_n hx hb dX8_withHead_3 rfl (lv_at hl 0 rfl) ?_
    refine va_get (D := (dC, dI)) (ci := 8) (v := .ref yr) (C := RX8) (T := TX8) (N := 43) hx hb hts hinX8 hown hK hP 0 rfl rfl 3 (by decide) kw_0 (fun _ h9 => h9) rfl dX8_withHead_4 ?_
    refine lv_bipush (v := 16) hx hb dX8_withHead_7 (by decide) ?_
    refine za_iald (v := (nI bb)) hx hb hK hP 1 0 rfl rfl (zin tn_16 (Nat.le_of_ble_eq_true rfl)) (zrd _ tn_16 rfl) dX8_withHead_9 ?_
    refine lv_icmp_ge (tgt := 49) hx hb dX8_withHead_10 (by decide) (fun _ => ?_) (fun c => absurd hge c)
    refine lv_iconst (v := (-1)) hx hb dX8_withHead_49 (by decide) ?_
    have e_r : (whF gr st hd 0 i) = (-1) := by rw [whF]
    refine tp (y := rv) (e_r.symm.trans hrv) ?_
    exact k50 _ _ _ hP hD hS (lv_sub hl [0] rfl)
  | succ n ih =>
    intro i hi hrv H locs ls hP hD hS hl
    have hlt : i < bb := by omega
    have hge : ¬ (nI bb) ≤ (nI i) := nI_ge hlt (by omega)
    refine lv_iload_n hx hb dX8_withHead_2 rfl (lv_at hl 3 rfl) ?_
    refine lv_aload_n hx hb dX8_withHead_3 rfl (lv_at hl 0 rfl) ?_
    refine va_get (D := (dC, dI)) (ci := 8) (v := .ref yr) (C := RX8) (T := TX8) (N := 43) hx hb hts hinX8 hown hK hP 0 rfl rfl 3 (by decide) kw_0 (fun _ h9 => h9) rfl dX8_withHead_4 ?_
    refine lv_bipush (v := 16) hx hb dX8_withHead_7 (by decide) ?_
    refine za_iald (v := (nI bb)) hx hb hK hP 1 0 rfl rfl (zin tn_16 (Nat.le_of_ble_eq_true rfl)) (zrd _ tn_16 rfl) dX8_withHead_9 ?_
    refine lv_icmp_ge (tgt := 49) hx hb dX8_withHead_10 (by decide) (fun c => absurd c hge) (fun _ => ?_)
    refine lv_aload_n hx hb dX8_withHead_13 rfl (lv_at hl 0 rfl) ?_
    refine va_get (D := (dC, dI)) (ci := 8) (v := .ref yr) (C := RX8) (T := TX8) (N := 43) hx hb hts hinX8 hown hK hP 0 rfl rfl 3 (by decide) kw_0 (fun _ h9 => h9) rfl dX8_withHead_14 ?_
    refine lv_iload_n hx hb dX8_withHead_17 rfl (lv_at hl 3 rfl) ?_
    refine lv_iconst (v := 0) hx hb dX8_withHead_18 (by decide) ?_
    refine zcSi (As := [.int (nI i), .int 0]) (rest := [.ref yr]) (wr := [(y, .inr (8, [.ref yt, .int v1, .int v2, .ref yr, .ref yk, .ref yz, .ref yp, .int v7, .int v8, .int v9, .int v10, .ref yl, .ref yw, .int v13, .int v14, .int v15, .int v16, .int v17, .int v18, .int v19, .int v20, .int v21, .ref yd, .int v23, .ref ys, .ref yn, .ref ym, .int v27, .ref yf, .ref yo, .ref yh, .ref yb, .int v32, .int v33, .int v34, .int v35, .int v36, .int v37, .int v38, .ref yx, .int v40, .int v41, .int v42])), (yr, .inl (cI, 4668, .inl (jn [0, 4, 0, (nI oo), (nI sn), (nI us), (nI tk), e7, e8, 0, 0, 0, 0, e13, e14, e15, (nI bb), (-1), e18, 0, 0, 0, 0, 0] gr)))]) ⟨hx, hb, hml, hown, hts⟩ (kkX8_of_0 l dC dI cI cB cZ cR H.size (nI i) ) (va_cwS 2 hts (zgS wm_369 wm_370 wm_5 wm_371) rfl rfl rfl (by decide +kernel) ⟨Nat.le_trans (Nat.le_of_ble_eq_true rfl) hRf, Nat.le_trans (Nat.le_of_ble_eq_true rfl) hRl⟩) hN hK hP hD hS hA [] [0, 1] rfl rfl ⟨rfl, rfl⟩ (by decide) rfl hl.1 rfl (Nat.le_of_ble_eq_true rfl) dX8_withHead_19 ⟨hRc, hRs⟩ (fun r u hu H locs hP hD hS => ?_)
    have hu : r = (168 + (nI i)) := hu
    subst hu
    have hP : va_P (dC, dI) vwCl [(y, .inr (8, [.ref yt, .int v1, .int v2, .ref yr, .ref yk, .ref yz, .ref yp, .int v7, .int v8, .int v9, .int v10, .ref yl, .ref yw, .int v13, .int v14, .int v15, .int v16, .int v17, .int v18, .int v19, .int v20, .int v21, .ref yd, .int v23, .ref ys, .ref yn, .ref ym, .int v27, .ref yf, .ref yo, .ref yh, .ref yb, .int v32, .int v33, .int v34, .int v35, .int v36, .int v37, .int v38, .ref yx, .int v40, .int v41, .int v42])), (yr, .inl (cI, 4668, .inl (jn [0, 4, 0, (nI oo), (nI sn), (nI us), (nI tk), e7, e8, 0, 0, 0, 0, e13, e14, e15, (nI bb), (-1), e18, 0, 0, 0, 0, 0] gr)))] H := hP
    have hD : va_D A [(y, .inr (8, [.ref yt, .int v1, .int v2, .ref yr, .ref yk, .ref yz, .ref yp, .int v7, .int v8, .int v9, .int v10, .ref yl, .ref yw, .int v13, .int v14, .int v15, .int v16, .int v17, .int v18, .int v19, .int v20, .int v21, .ref yd, .int v23, .ref ys, .ref yn, .ref ym, .int v27, .ref yf, .ref yo, .ref yh, .ref yb, .int v32, .int v33, .int v34, .int v35, .int v36, .int v37, .int v38, .ref yx, .int v40, .int v41, .int v42])), (yr, .inl (cI, 4668, .inl (jn [0, 4, 0, (nI oo), (nI sn), (nI us), (nI tk), e7, e8, 0, 0, 0, 0, e13, e14, e15, (nI bb), (-1), e18, 0, 0, 0, 0, 0] gr)))] := hD
    refine tp (y := (nI (168 + i))) ((show nI 168 + nI i = _ from nI_add _ _)) ?_
    refine za_iald (v := (gr ((168 + i)))) hx hb hK hP 1 0 rfl rfl (vp_in_nI (by omega) (by decide)) (jrd (by omega) (by omega)) dX8_withHead_22 ?_
    refine lv_iload_n hx hb dX8_withHead_23 rfl (lv_at hl 1 rfl) ?_
    refine lv_icmp_ne (tgt := 43) hx hb dX8_withHead_24 (by decide) (fun c_1 => ?_) (fun c_1 => ?_)
    · refine lv_iinc (v := (nI (i + 1))) (lv' := [(3, .int (nI (i + 1))), (0, .ref y), (1, .int st), (2, .int hd)]) hx hb dX8_withHead_43 hl (k := 3) rfl (show (nI i) + Int32.ofInt 1 = _ from nI_add _ 1) (by decide) rfl (fun ls hl => ?_)
      refine lv_goto (tgt := 2) hx hb dX8_withHead_46 (by decide) ?_
      have e_r : (whF gr st hd (n + 1) i) = (whF gr st hd n (i + 1)) := by rw [whF, if_neg c_1]
      exact ih (i + 1) (by omega) (e_r.symm.trans hrv) _ _ _ hP hD hS ((lv_sub hl [1, 2, 3, 0] rfl))
    · refine lv_aload_n hx hb dX8_withHead_27 rfl (lv_at hl 0 rfl) ?_
      refine va_get (D := (dC, dI)) (ci := 8) (v := .ref yr) (C := RX8) (T := TX8) (N := 43) hx hb hts hinX8 hown hK hP 0 rfl rfl 3 (by decide) kw_0 (fun _ h9 => h9) rfl dX8_withHead_28 ?_
      refine lv_iload_n hx hb dX8_withHead_31 rfl (lv_at hl 3 rfl) ?_
      refine lv_iconst (v := 2) hx hb dX8_withHead_32 (by decide) ?_
      refine zcSi (As := [.int (nI i), .int 2]) (rest := [.ref yr]) (wr := [(y, .inr (8, [.ref yt, .int v1, .int v2, .ref yr, .ref yk, .ref yz, .ref yp, .int v7, .int v8, .int v9, .int v10, .ref yl, .ref yw, .int v13, .int v14, .int v15, .int v16, .int v17, .int v18, .int v19, .int v20, .int v21, .ref yd, .int v23, .ref ys, .ref yn, .ref ym, .int v27, .ref yf, .ref yo, .ref yh, .ref yb, .int v32, .int v33, .int v34, .int v35, .int v36, .int v37, .int v38, .ref yx, .int v40, .int v41, .int v42])), (yr, .inl (cI, 4668, .inl (jn [0, 4, 0, (nI oo), (nI sn), (nI us), (nI tk), e7, e8, 0, 0, 0, 0, e13, e14, e15, (nI bb), (-1), e18, 0, 0, 0, 0, 0] gr)))]) ⟨hx, hb, hml, hown, hts⟩ (kkX8_of_2 l dC dI cI cB cZ cR H.size (nI i) ) (va_cwS 2 hts (zgS wm_369 wm_370 wm_5 wm_371) rfl rfl rfl (by decide +kernel) ⟨Nat.le_trans (Nat.le_of_ble_eq_true rfl) hRf, Nat.le_trans (Nat.le_of_ble_eq_true rfl) hRl⟩) hN hK hP hD hS hA [] [0, 1] rfl rfl ⟨rfl, rfl⟩ (by decide) rfl hl.1 rfl (Nat.le_of_ble_eq_true rfl) dX8_withHead_33 ⟨hRc, hRs⟩ (fun r u hu H locs hP hD hS => ?_)
      have hu : r = (1168 + (nI i)) := hu
      subst hu
      have hP : va_P (dC, dI) vwCl [(y, .inr (8, [.ref yt, .int v1, .int v2, .ref yr, .ref yk, .ref yz, .ref yp, .int v7, .int v8, .int v9, .int v10, .ref yl, .ref yw, .int v13, .int v14, .int v15, .int v16, .int v17, .int v18, .int v19, .int v20, .int v21, .ref yd, .int v23, .ref ys, .ref yn, .ref ym, .int v27, .ref yf, .ref yo, .ref yh, .ref yb, .int v32, .int v33, .int v34, .int v35, .int v36, .int v37, .int v38, .ref yx, .int v40, .int v41, .int v42])), (yr, .inl (cI, 4668, .inl (jn [0, 4, 0, (nI oo), (nI sn), (nI us), (nI tk), e7, e8, 0, 0, 0, 0, e13, e14, e15, (nI bb), (-1), e18, 0, 0, 0, 0, 0] gr)))] H := hP
      have hD : va_D A [(y, .inr (8, [.ref yt, .int v1, .int v2, .ref yr, .ref yk, .ref yz, .ref yp, .int v7, .int v8, .int v9, .int v10, .ref yl, .ref yw, .int v13, .int v14, .int v15, .int v16, .int v17, .int v18, .int v19, .int v20, .int v21, .ref yd, .int v23, .ref ys, .ref yn, .ref ym, .int v27, .ref yf, .ref yo, .ref yh, .ref yb, .int v32, .int v33, .int v34, .int v35, .int v36, .int v37, .int v38, .ref yx, .int v40, .int v41, .int v42])), (yr, .inl (cI, 4668, .inl (jn [0, 4, 0, (nI oo), (nI sn), (nI us), (nI tk), e7, e8, 0, 0, 0, 0, e13, e14, e15, (nI bb), (-1), e18, 0, 0, 0, 0, 0] gr)))] := hD
      refine tp (y := (nI (1168 + i))) ((show nI 1168 + nI i = _ from nI_add _ _)) ?_
      refine za_iald (v := (gr ((1168 + i)))) hx hb hK hP 1 0 rfl rfl (vp_in_nI (by omega) (by decide)) (jrd (by omega) (by omega)) dX8_withHead_36 ?_
      refine lv_iload_n hx hb dX8_withHead_37 rfl (lv_at hl 2 rfl) ?_
      refine lv_icmp_ne (tgt := 43) hx hb dX8_withHead_38 (by decide) (fun c_2 => ?_) (fun c_2 => ?_)
      · refine lv_iinc (v := (nI (i + 1))) (lv' := [(3, .int (nI (i + 1))), (0, .ref y), (1, .int st), (2, .int hd)]) hx hb dX8_withHead_43 hl (k := 3) rfl (show (nI i) + Int32.ofInt 1 = _ from nI_add _ 1) (by decide) rfl (fun ls hl => ?_)
        refine lv_goto (tgt := 2) hx hb dX8_withHead_46 (by decide) ?_
        have e_r : (whF gr st hd (n + 1) i) = (whF gr st hd n (i + 1)) := by rw [whF, if_pos c_1, if_neg c_2]
        exact ih (i + 1) (by omega) (e_r.symm.trans hrv) _ _ _ hP hD hS ((lv_sub hl [1, 2, 3, 0] rfl))
      · refine lv_iload_n hx hb dX8_withHead_41 rfl (lv_at hl 3 rfl) ?_
        have e_r : (whF gr st hd (n + 1) i) = (nI i) := by rw [whF, if_pos c_1, if_pos c_2]
        refine tp (y := rv) (e_r.symm.trans hrv) ?_
        exact k42 _ _ _ hP hD hS (lv_sub hl [0] rfl)

set_option maxHeartbeats 4000000 in
set_option maxRecDepth 100000 in
theorem kkX8_withHead (l : Launch) (dC : Nat → ClassId) (dI : Nat → Nat → Nat) (cI cB cZ cR : ClassId) (sz : Nat) (y : Nat) (yt : Nat) (yr : Nat) (yk : Nat) (yz : Nat) (yp : Nat) (yl : Nat) (yw : Nat) (yd : Nat) (ys : Nat) (yn : Nat) (ym : Nat) (yf : Nat) (yo : Nat) (yh : Nat) (yb : Nat) (yx : Nat) (v1 : Int32) (v2 : Int32) (v7 : Int32) (v8 : Int32) (v9 : Int32) (v10 : Int32) (v13 : Int32) (v14 : Int32) (v15 : Int32) (v16 : Int32) (v17 : Int32) (v18 : Int32) (v19 : Int32) (v20 : Int32) (v21 : Int32) (v23 : Int32) (v27 : Int32) (v32 : Int32) (v33 : Int32) (v34 : Int32) (v35 : Int32) (v36 : Int32) (v37 : Int32) (v38 : Int32) (v40 : Int32) (v41 : Int32) (v42 : Int32) (oo : Nat) (sn : Nat) (us : Nat) (tk : Nat) (bb : Nat) (e7 : Int32) (e8 : Int32) (e13 : Int32) (e14 : Int32) (e15 : Int32) (e18 : Int32) (gr : Nat → Int32) (st : Int32) (hd : Int32) (hbb : bb ≤ 500) : Met l yX8_withHead (.code yX8_withHead cX8_withHead 4 (some .int) :: wsL_law) ({ frames := 1, cells := 0, slots := 0, locals := 21 }) (zPc dC dI (zT cI cB cZ cR) [.ref y, .int st, .int hd] sz [(y, .inr (8, [.ref yt, .int v1, .int v2, .ref yr, .ref yk, .ref yz, .ref yp, .int v7, .int v8, .int v9, .int v10, .ref yl, .ref yw, .int v13, .int v14, .int v15, .int v16, .int v17, .int v18, .int v19, .int v20, .int v21, .ref yd, .int v23, .ref ys, .ref yn, .ref ym, .int v27, .ref yf, .ref yo, .ref yh, .ref yb, .int v32, .int v33, .int v34, .int v35, .int v36, .int v37, .int v38, .ref yx, .int v40, .int v41, .int v42])), (yr, .inl (cI, 4668, .inl (jn [0, 4, 0, (nI oo), (nI sn), (nI us), (nI tk), e7, e8, 0, 0, 0, 0, e13, e14, e15, (nI bb), (-1), e18, 0, 0, 0, 0, 0] gr)))]) (va_Qi (fun (r : Int32) (_ : Unit) => r = (whF gr st hd bb 0)) (fun _ : Unit => zB dC dI (zT cI cB cZ cR) (va_A [(y, .inr (8, [.ref yt, .int v1, .int v2, .ref yr, .ref yk, .ref yz, .ref yp, .int v7, .int v8, .int v9, .int v10, .ref yl, .ref yw, .int v13, .int v14, .int v15, .int v16, .int v17, .int v18, .int v19, .int v20, .int v21, .ref yd, .int v23, .ref ys, .ref yn, .ref ym, .int v27, .ref yf, .ref yo, .ref yh, .ref yb, .int v32, .int v33, .int v34, .int v35, .int v36, .int v37, .int v38, .ref yx, .int v40, .int v41, .int v42])), (yr, .inl (cI, 4668, .inl (jn [0, 4, 0, (nI oo), (nI sn), (nI us), (nI tk), e7, e8, 0, 0, 0, 0, e13, e14, e15, (nI bb), (-1), e18, 0, 0, 0, 0, 0] gr)))] sz) [(y, .inr (8, [.ref yt, .int v1, .int v2, .ref yr, .ref yk, .ref yz, .ref yp, .int v7, .int v8, .int v9, .int v10, .ref yl, .ref yw, .int v13, .int v14, .int v15, .int v16, .int v17, .int v18, .int v19, .int v20, .int v21, .ref yd, .int v23, .ref ys, .ref yn, .ref ym, .int v27, .ref yf, .ref yo, .ref yh, .ref yb, .int v32, .int v33, .int v34, .int v35, .int v36, .int v37, .int v38, .ref yx, .int v40, .int v41, .int v42])), (yr, .inl (cI, 4668, .inl (jn [0, 4, 0, (nI oo), (nI sn), (nI us), (nI tk), e7, e8, 0, 0, 0, 0, e13, e14, e15, (nI bb), (-1), e18, 0, 0, 0, 0, 0] gr)))]) (va_A [(y, .inr (8, [.ref yt, .int v1, .int v2, .ref yr, .ref yk, .ref yz, .ref yp, .int v7, .int v8, .int v9, .int v10, .ref yl, .ref yw, .int v13, .int v14, .int v15, .int v16, .int v17, .int v18, .int v19, .int v20, .int v21, .ref yd, .int v23, .ref ys, .ref yn, .ref ym, .int v27, .ref yf, .ref yo, .ref yh, .ref yb, .int v32, .int v33, .int v34, .int v35, .int v36, .int v37, .int v38, .ref yx, .int v40, .int v41, .int v42])), (yr, .inl (cI, 4668, .inl (jn [0, 4, 0, (nI oo), (nI sn), (nI us), (nI tk), e7, e8, 0, 0, 0, 0, e13, e14, e15, (nI bb), (-1), e18, 0, 0, 0, 0, 0] gr)))] sz)) 0 0 (va_A [(y, .inr (8, [.ref yt, .int v1, .int v2, .ref yr, .ref yk, .ref yz, .ref yp, .int v7, .int v8, .int v9, .int v10, .ref yl, .ref yw, .int v13, .int v14, .int v15, .int v16, .int v17, .int v18, .int v19, .int v20, .int v21, .ref yd, .int v23, .ref ys, .ref yn, .ref ym, .int v27, .ref yf, .ref yo, .ref yh, .ref yb, .int v32, .int v33, .int v34, .int v35, .int v36, .int v37, .int v38, .ref yx, .int v40, .int v41, .int v42])), (yr, .inl (cI, 4668, .inl (jn [0, 4, 0, (nI oo), (nI sn), (nI us), (nI tk), e7, e8, 0, 0, 0, 0, e13, e14, e15, (nI bb), (-1), e18, 0, 0, 0, 0, 0] gr)))] sz) := by
  refine Met.ofW (cc := cX8_withHead) (maxL := 4) (ret := (some .int)) (by decide) rfl ?_
  intro p e s m args below meth c s₁ B hml hv
  obtain ⟨rfl, hsz, hP, hK, hD0, hN⟩ := hv
  have hx := B.exec
  have hb := B.bytes
  have hr := B.returns
  have hts := atoms_spec (ws := (.code yX8_withHead cX8_withHead 4 (some .int) :: wsL_law)) B.pre
  have hown : s.vm.findClass RX8 = some m.cls := findClass_of_methodNamed B.named
  have hlocks := B.notSynchronized
  subst hsz
  have hD := hD0.self (sz := s.heap.size)
  generalize hAe : va_A [(y, .inr (8, [.ref yt, .int v1, .int v2, .ref yr, .ref yk, .ref yz, .ref yp, .int v7, .int v8, .int v9, .int v10, .ref yl, .ref yw, .int v13, .int v14, .int v15, .int v16, .int v17, .int v18, .int v19, .int v20, .int v21, .ref yd, .int v23, .ref ys, .ref yn, .ref ym, .int v27, .ref yf, .ref yo, .ref yh, .ref yb, .int v32, .int v33, .int v34, .int v35, .int v36, .int v37, .int v38, .ref yx, .int v40, .int v41, .int v42])), (yr, .inl (cI, 4668, .inl (jn [0, 4, 0, (nI oo), (nI sn), (nI us), (nI tk), e7, e8, 0, 0, 0, 0, e13, e14, e15, (nI bb), (-1), e18, 0, 0, 0, 0, 0] gr)))] s.heap.size = A at hD ⊢
  have hA : ∀ q : Nat, s.heap.size ≤ q → A q := fun q h => by rw [← hAe]; exact Or.inr h
  have hP : va_P (dC, dI) vwCl [(y, .inr (8, [.ref yt, .int v1, .int v2, .ref yr, .ref yk, .ref yz, .ref yp, .int v7, .int v8, .int v9, .int v10, .ref yl, .ref yw, .int v13, .int v14, .int v15, .int v16, .int v17, .int v18, .int v19, .int v20, .int v21, .ref yd, .int v23, .ref ys, .ref yn, .ref ym, .int v27, .ref yf, .ref yo, .ref yh, .ref yb, .int v32, .int v33, .int v34, .int v35, .int v36, .int v37, .int v38, .ref yx, .int v40, .int v41, .int v42])), (yr, .inl (cI, 4668, .inl (jn [0, 4, 0, (nI oo), (nI sn), (nI us), (nI tk), e7, e8, 0, 0, 0, 0, e13, e14, e15, (nI bb), (-1), e18, 0, 0, 0, 0, 0] gr)))] s.heap := hP
  have hl := lv_entry ([.ref y, .int st, .int hd]) (n := 4) (Nat.le_of_ble_eq_true rfl)
  rw [lg_entry_eq]
  generalize (lg_sl ([.ref y, .int st, .int hd]) ++ List.replicate (4 - (lg_sl ([.ref y, .int st, .int hd])).length) Slot.unset).toArray = ls at hl ⊢
  have hl : lv_has ls 4 [(0, .ref y), (1, .int st), (2, .int hd)] := hl
  obtain ⟨H, hH⟩ : ∃ H, H = s.heap := ⟨_, rfl⟩
  rw [← hH] at hP ⊢
  have hS : va_S A s.heap H [] := by rw [hH]; exact va_S.rf
  refine lv_iconst (v := 0) hx hb dX8_withHead_0 (by decide) ?_
  refine lv_istore_n (lv' := [(3, .int 0), (0, .ref y), (1, .int st), (2, .int hd)]) hx hb dX8_withHead_1 rfl hl (by decide) rfl (fun ls hl => ?_)
  have hP := hP.sub (ws' := [(y, .inr (8, [.ref yt, .int v1, .int v2, .ref yr, .ref yk, .ref yz, .ref yp, .int v7, .int v8, .int v9, .int v10, .ref yl, .ref yw, .int v13, .int v14, .int v15, .int v16, .int v17, .int v18, .int v19, .int v20, .int v21, .ref yd, .int v23, .ref ys, .ref yn, .ref ym, .int v27, .ref yf, .ref yo, .ref yh, .ref yb, .int v32, .int v33, .int v34, .int v35, .int v36, .int v37, .int v38, .ref yx, .int v40, .int v41, .int v42])), (yr, .inl (cI, 4668, .inl (jn [0, 4, 0, (nI oo), (nI sn), (nI us), (nI tk), e7, e8, 0, 0, 0, 0, e13, e14, e15, (nI bb), (-1), e18, 0, 0, 0, 0, 0] gr)))]) [0, 1] rfl
  have hD := hD.sub (ws' := [(y, .inr (8, [.ref yt, .int v1, .int v2, .ref yr, .ref yk, .ref yz, .ref yp, .int v7, .int v8, .int v9, .int v10, .ref yl, .ref yw, .int v13, .int v14, .int v15, .int v16, .int v17, .int v18, .int v19, .int v20, .int v21, .ref yd, .int v23, .ref ys, .ref yn, .ref ym, .int v27, .ref yf, .ref yo, .ref yh, .ref yb, .int v32, .int v33, .int v34, .int v35, .int v36, .int v37, .int v38, .ref yx, .int v40, .int v41, .int v42])), (yr, .inl (cI, 4668, .inl (jn [0, 4, 0, (nI oo), (nI sn), (nI us), (nI tk), e7, e8, 0, 0, 0, 0, e13, e14, e15, (nI bb), (-1), e18, 0, 0, 0, 0, 0] gr)))]) [0, 1] (by decide) rfl
  have hl0 : lv_has ls 4 [(0, .ref y), (1, .int st), (2, .int hd), (3, .int (nI 0))] := (lv_sub hl [1, 2, 3, 0] rfl)
  refine NLX8_withHead dC dI cI cB cZ cR y yt yr yk yz yp yl yw yd ys yn ym yf yo yh yb yx v1 v2 v7 v8 v9 v10 v13 v14 v15 v16 v17 v18 v19 v20 v21 v23 v27 v32 v33 v34 v35 v36 v37 v38 v40 v41 v42 oo sn us tk bb e7 e8 e13 e14 e15 e18 gr st hd hbb _ rfl hx hb hml hts hown hN hK hA (Nat.le_of_ble_eq_true rfl) (Nat.le_of_ble_eq_true rfl) (Nat.le_of_ble_eq_true rfl) (Nat.le_of_ble_eq_true rfl) (whF gr st hd bb 0) ?_ ?_ bb 0 (by omega) rfl _ _ _ hP hD hS hl0
  · intro H locs ls hP hD hS hl
    have hP : va_P (dC, dI) vwCl [(y, .inr (8, [.ref yt, .int v1, .int v2, .ref yr, .ref yk, .ref yz, .ref yp, .int v7, .int v8, .int v9, .int v10, .ref yl, .ref yw, .int v13, .int v14, .int v15, .int v16, .int v17, .int v18, .int v19, .int v20, .int v21, .ref yd, .int v23, .ref ys, .ref yn, .ref ym, .int v27, .ref yf, .ref yo, .ref yh, .ref yb, .int v32, .int v33, .int v34, .int v35, .int v36, .int v37, .int v38, .ref yx, .int v40, .int v41, .int v42])), (yr, .inl (cI, 4668, .inl (jn [0, 4, 0, (nI oo), (nI sn), (nI us), (nI tk), e7, e8, 0, 0, 0, 0, e13, e14, e15, (nI bb), (-1), e18, 0, 0, 0, 0, 0] gr)))] H := hP
    have hD : va_D A [(y, .inr (8, [.ref yt, .int v1, .int v2, .ref yr, .ref yk, .ref yz, .ref yp, .int v7, .int v8, .int v9, .int v10, .ref yl, .ref yw, .int v13, .int v14, .int v15, .int v16, .int v17, .int v18, .int v19, .int v20, .int v21, .ref yd, .int v23, .ref ys, .ref yn, .ref ym, .int v27, .ref yf, .ref yo, .ref yh, .ref yb, .int v32, .int v33, .int v34, .int v35, .int v36, .int v37, .int v38, .ref yx, .int v40, .int v41, .int v42])), (yr, .inl (cI, 4668, .inl (jn [0, 4, 0, (nI oo), (nI sn), (nI us), (nI tk), e7, e8, 0, 0, 0, 0, e13, e14, e15, (nI bb), (-1), e18, 0, 0, 0, 0, 0] gr)))] := hD
    have hP9 := hP.sub (ws' := [(y, .inr (8, [.ref yt, .int v1, .int v2, .ref yr, .ref yk, .ref yz, .ref yp, .int v7, .int v8, .int v9, .int v10, .ref yl, .ref yw, .int v13, .int v14, .int v15, .int v16, .int v17, .int v18, .int v19, .int v20, .int v21, .ref yd, .int v23, .ref ys, .ref yn, .ref ym, .int v27, .ref yf, .ref yo, .ref yh, .ref yb, .int v32, .int v33, .int v34, .int v35, .int v36, .int v37, .int v38, .ref yx, .int v40, .int v41, .int v42])), (yr, .inl (cI, 4668, .inl (jn [0, 4, 0, (nI oo), (nI sn), (nI us), (nI tk), e7, e8, 0, 0, 0, 0, e13, e14, e15, (nI bb), (-1), e18, 0, 0, 0, 0, 0] gr)))]) [0, 1] rfl
    have hD9 := hD.sub (ws' := [(y, .inr (8, [.ref yt, .int v1, .int v2, .ref yr, .ref yk, .ref yz, .ref yp, .int v7, .int v8, .int v9, .int v10, .ref yl, .ref yw, .int v13, .int v14, .int v15, .int v16, .int v17, .int v18, .int v19, .int v20, .int v21, .ref yd, .int v23, .ref ys, .ref yn, .ref ym, .int v27, .ref yf, .ref yo, .ref yh, .ref yb, .int v32, .int v33, .int v34, .int v35, .int v36, .int v37, .int v38, .ref yx, .int v40, .int v41, .int v42])), (yr, .inl (cI, 4668, .inl (jn [0, 4, 0, (nI oo), (nI sn), (nI us), (nI tk), e7, e8, 0, 0, 0, 0, e13, e14, e15, (nI bb), (-1), e18, 0, 0, 0, 0, 0] gr)))]) [0, 1] (by decide) rfl
    exact W.iret (v := (whF gr st hd bb 0)) hx hb hr (fun t ht hW => ⟨⟨(whF gr st hd bb 0), (), rfl, rfl, by rw [ht]; exact hP9, va_K.moved hW.alike hK, hD9⟩, hS.F ht⟩) hS.2.2 dX8_withHead_42
  · intro H locs ls hP hD hS hl
    have hP : va_P (dC, dI) vwCl [(y, .inr (8, [.ref yt, .int v1, .int v2, .ref yr, .ref yk, .ref yz, .ref yp, .int v7, .int v8, .int v9, .int v10, .ref yl, .ref yw, .int v13, .int v14, .int v15, .int v16, .int v17, .int v18, .int v19, .int v20, .int v21, .ref yd, .int v23, .ref ys, .ref yn, .ref ym, .int v27, .ref yf, .ref yo, .ref yh, .ref yb, .int v32, .int v33, .int v34, .int v35, .int v36, .int v37, .int v38, .ref yx, .int v40, .int v41, .int v42])), (yr, .inl (cI, 4668, .inl (jn [0, 4, 0, (nI oo), (nI sn), (nI us), (nI tk), e7, e8, 0, 0, 0, 0, e13, e14, e15, (nI bb), (-1), e18, 0, 0, 0, 0, 0] gr)))] H := hP
    have hD : va_D A [(y, .inr (8, [.ref yt, .int v1, .int v2, .ref yr, .ref yk, .ref yz, .ref yp, .int v7, .int v8, .int v9, .int v10, .ref yl, .ref yw, .int v13, .int v14, .int v15, .int v16, .int v17, .int v18, .int v19, .int v20, .int v21, .ref yd, .int v23, .ref ys, .ref yn, .ref ym, .int v27, .ref yf, .ref yo, .ref yh, .ref yb, .int v32, .int v33, .int v34, .int v35, .int v36, .int v37, .int v38, .ref yx, .int v40, .int v41, .int v42])), (yr, .inl (cI, 4668, .inl (jn [0, 4, 0, (nI oo), (nI sn), (nI us), (nI tk), e7, e8, 0, 0, 0, 0, e13, e14, e15, (nI bb), (-1), e18, 0, 0, 0, 0, 0] gr)))] := hD
    have hP9 := hP.sub (ws' := [(y, .inr (8, [.ref yt, .int v1, .int v2, .ref yr, .ref yk, .ref yz, .ref yp, .int v7, .int v8, .int v9, .int v10, .ref yl, .ref yw, .int v13, .int v14, .int v15, .int v16, .int v17, .int v18, .int v19, .int v20, .int v21, .ref yd, .int v23, .ref ys, .ref yn, .ref ym, .int v27, .ref yf, .ref yo, .ref yh, .ref yb, .int v32, .int v33, .int v34, .int v35, .int v36, .int v37, .int v38, .ref yx, .int v40, .int v41, .int v42])), (yr, .inl (cI, 4668, .inl (jn [0, 4, 0, (nI oo), (nI sn), (nI us), (nI tk), e7, e8, 0, 0, 0, 0, e13, e14, e15, (nI bb), (-1), e18, 0, 0, 0, 0, 0] gr)))]) [0, 1] rfl
    have hD9 := hD.sub (ws' := [(y, .inr (8, [.ref yt, .int v1, .int v2, .ref yr, .ref yk, .ref yz, .ref yp, .int v7, .int v8, .int v9, .int v10, .ref yl, .ref yw, .int v13, .int v14, .int v15, .int v16, .int v17, .int v18, .int v19, .int v20, .int v21, .ref yd, .int v23, .ref ys, .ref yn, .ref ym, .int v27, .ref yf, .ref yo, .ref yh, .ref yb, .int v32, .int v33, .int v34, .int v35, .int v36, .int v37, .int v38, .ref yx, .int v40, .int v41, .int v42])), (yr, .inl (cI, 4668, .inl (jn [0, 4, 0, (nI oo), (nI sn), (nI us), (nI tk), e7, e8, 0, 0, 0, 0, e13, e14, e15, (nI bb), (-1), e18, 0, 0, 0, 0, 0] gr)))]) [0, 1] (by decide) rfl
    exact W.iret (v := (whF gr st hd bb 0)) hx hb hr (fun t ht hW => ⟨⟨(whF gr st hd bb 0), (), rfl, rfl, by rw [ht]; exact hP9, va_K.moved hW.alike hK, hD9⟩, hS.F ht⟩) hS.2.2 dX8_withHead_50

set_option maxHeartbeats 4000000 in
set_option maxRecDepth 100000 in
theorem NLX8_firstOf {p : Program} {l : Launch} {e : Env} {R : Room} {s : State} {m : MethodId} {args : Array Value} {below : List Frame} {meth : Method} {c : Code} {Q : State → Prop} {A : Nat → Prop} {cells slots : Nat} (dC : Nat → ClassId) (dI : Nat → Nat → Nat) (cI cB cZ cR : ClassId) (y : Nat) (yt : Nat) (yr : Nat) (yk : Nat) (yz : Nat) (yp : Nat) (yl : Nat) (yw : Nat) (yd : Nat) (ys : Nat) (yn : Nat) (ym : Nat) (yf : Nat) (yo : Nat) (yh : Nat) (yb : Nat) (yx : Nat) (v1 : Int32) (v2 : Int32) (v7 : Int32) (v8 : Int32) (v9 : Int32) (v10 : Int32) (v13 : Int32) (v14 : Int32) (v15 : Int32) (v16 : Int32) (v17 : Int32) (v18 : Int32) (v19 : Int32) (v20 : Int32) (v21 : Int32) (v23 : Int32) (v27 : Int32) (v32 : Int32) (v33 : Int32) (v34 : Int32) (v35 : Int32) (v36 : Int32) (v37 : Int32) (v38 : Int32) (v40 : Int32) (v41 : Int32) (v42 : Int32) (oo : Nat) (sn : Nat) (us : Nat) (tk : Nat) (bb : Nat) (e7 : Int32) (e8 : Int32) (e13 : Int32) (e14 : Int32) (e15 : Int32) (e18 : Int32) (gr : Nat → Int32) (st : Int32) (hbb : bb ≤ 500) (FY0 : List Value) (hFY0 : FY0 = [.ref yt, .int v1, .int v2, .ref yr, .ref yk, .ref yz, .ref yp, .int v7, .int v8, .int v9, .int v10, .ref yl, .ref yw, .int v13, .int v14, .int v15, .int v16, .int v17, .int v18, .int v19, .int v20, .int v21, .ref yd, .int v23, .ref ys, .ref yn, .ref ym, .int v27, .ref yf, .ref yo, .ref yh, .ref yb, .int v32, .int v33, .int v34, .int v35, .int v36, .int v37, .int v38, .ref yx, .int v40, .int v41, .int v42]) (hx : p.tables.exec = Jvm.exec) (hb : c.code = cX8_firstOf) (hml : c.maxLocals = 3) (hts : ∀ w ∈ (.code yX8_firstOf cX8_firstOf 3 (some .int) :: wsL_law), w.before args s = true) (hown : s.vm.findClass RX8 = some m.cls) (hN : zN s) (hK : va_K (dC, dI) vwCl (zT cI cB cZ cR) s) (hA : ∀ q : Nat, s.heap.size ≤ q → A q) (hRf : 1 ≤ R.frames) (hRl : 21 ≤ R.locals) (hRc : cells ≤ R.cells) (hRs : slots ≤ R.slots)
    (rv : Int32)
    (k28 : ∀ (H : Heap) (locs : List Loc) (ls : Array Slot), va_P (dC, dI) vwCl [(y, .inr (8, FY0)), (yr, .inl (cI, 4668, .inl (jn [0, 4, 0, (nI oo), (nI sn), (nI us), (nI tk), e7, e8, 0, 0, 0, 0, e13, e14, e15, (nI bb), (-1), e18, 0, 0, 0, 0, 0] gr)))] H → va_D A [(y, .inr (8, FY0)), (yr, .inl (cI, 4668, .inl (jn [0, 4, 0, (nI oo), (nI sn), (nI us), (nI tk), e7, e8, 0, 0, 0, 0, e13, e14, e15, (nI bb), (-1), e18, 0, 0, 0, 0, 0] gr)))] → va_S A s.heap H locs → lv_has ls 3 [(0, .ref y)] → W p l e R s m args below meth c H locs cells slots Q (F0 m 28 ls [.int rv]))
    (k36 : ∀ (H : Heap) (locs : List Loc) (ls : Array Slot), va_P (dC, dI) vwCl [(y, .inr (8, FY0)), (yr, .inl (cI, 4668, .inl (jn [0, 4, 0, (nI oo), (nI sn), (nI us), (nI tk), e7, e8, 0, 0, 0, 0, e13, e14, e15, (nI bb), (-1), e18, 0, 0, 0, 0, 0] gr)))] H → va_D A [(y, .inr (8, FY0)), (yr, .inl (cI, 4668, .inl (jn [0, 4, 0, (nI oo), (nI sn), (nI us), (nI tk), e7, e8, 0, 0, 0, 0, e13, e14, e15, (nI bb), (-1), e18, 0, 0, 0, 0, 0] gr)))] → va_S A s.heap H locs → lv_has ls 3 [(0, .ref y)] → W p l e R s m args below meth c H locs cells slots Q (F0 m 36 ls [.int rv]))
    : ∀ (n i : Nat), i + n = bb → (foF gr st n i) = rv → ∀ (H : Heap) (locs : List Loc) (ls : Array Slot), va_P (dC, dI) vwCl [(y, .inr (8, FY0)), (yr, .inl (cI, 4668, .inl (jn [0, 4, 0, (nI oo), (nI sn), (nI us), (nI tk), e7, e8, 0, 0, 0, 0, e13, e14, e15, (nI bb), (-1), e18, 0, 0, 0, 0, 0] gr)))] H → va_D A [(y, .inr (8, FY0)), (yr, .inl (cI, 4668, .inl (jn [0, 4, 0, (nI oo), (nI sn), (nI us), (nI tk), e7, e8, 0, 0, 0, 0, e13, e14, e15, (nI bb), (-1), e18, 0, 0, 0, 0, 0] gr)))] → va_S A s.heap H locs → lv_has ls 3 [(0, .ref y), (1, .int st), (2, .int (nI i))] → W p l e R s m args below meth c H locs cells slots Q (F0 m 2 ls []) := by
  have hinX8 : ∀ w ∈ u_ws RX8 TX8 43, w ∈ (.code yX8_firstOf cX8_firstOf 3 (some .int) :: wsL_law) := fun w h => List.mem_cons_of_mem _ (inlX8 w h)
  subst hFY0
  have kw_0 := hts (.fieldLink RX8 13 "RingMarksModel" "\x72" "[I") (List.mem_cons_of_mem _ wm_128)
  intro n
  induction n with
  | zero =>
    intro i hi hrv H locs ls hP hD hS hl
    have hin : i = bb := by omega
    have hge : (nI bb) ≤ (nI i) := by rw [hin]; exact Int32.le_refl _
    refine lv_iload_n hx hb dX8_firstOf_2 rfl (lv_at hl 2 rfl) ?_
    refine lv_aload_n hx hb dX8_firstOf_3 rfl (lv_at hl 0 rfl) ?_
    refine va_get (D := (dC, dI)) (ci := 8) (v := .ref yr) (C := RX8) (T := TX8) (N := 43) hx hb hts hinX8 hown hK hP 0 rfl rfl 3 (by decide) kw_0 (fun _ h9 => h9) rfl dX8_firstOf_4 ?_
    refine lv_bipush (v := 16) hx hb dX8_firstOf_7 (by decide) ?_
    refine za_iald (v := (nI bb)) hx hb hK hP 1 0 rfl rfl (zin tn_16 (Nat.le_of_ble_eq_true rfl)) (zrd _ tn_16 rfl) dX8_firstOf_9 ?_
    refine lv_icmp_ge (tgt := 35) hx hb dX8_firstOf_10 (by decide) (fun _ => ?_) (fun c => absurd hge c)
    refine lv_iconst (v := (-1)) hx hb dX8_firstOf_35 (by decide) ?_
    have e_r : (foF gr st 0 i) = (-1) := by rw [foF]
    refine tp (y := rv) (e_r.symm.trans hrv) ?_
    exact k36 _ _ _ hP hD hS (lv_sub hl [0] rfl)
  | succ n ih =>
    intro i hi hrv H locs ls hP hD hS hl
    have hlt : i < bb := by omega
    have hge : ¬ (nI bb) ≤ (nI i) := nI_ge hlt (by omega)
    refine lv_iload_n hx hb dX8_firstOf_2 rfl (lv_at hl 2 rfl) ?_
    refine lv_aload_n hx hb dX8_firstOf_3 rfl (lv_at hl 0 rfl) ?_
    refine va_get (D := (dC, dI)) (ci := 8) (v := .ref yr) (C := RX8) (T := TX8) (N := 43) hx hb hts hinX8 hown hK hP 0 rfl rfl 3 (by decide) kw_0 (fun _ h9 => h9) rfl dX8_firstOf_4 ?_
    refine lv_bipush (v := 16) hx hb dX8_firstOf_7 (by decide) ?_
    refine za_iald (v := (nI bb)) hx hb hK hP 1 0 rfl rfl (zin tn_16 (Nat.le_of_ble_eq_true rfl)) (zrd _ tn_16 rfl) dX8_firstOf_9 ?_
    refine lv_icmp_ge (tgt := 35) hx hb dX8_firstOf_10 (by decide) (fun c => absurd c hge) (fun _ => ?_)
    refine lv_aload_n hx hb dX8_firstOf_13 rfl (lv_at hl 0 rfl) ?_
    refine va_get (D := (dC, dI)) (ci := 8) (v := .ref yr) (C := RX8) (T := TX8) (N := 43) hx hb hts hinX8 hown hK hP 0 rfl rfl 3 (by decide) kw_0 (fun _ h9 => h9) rfl dX8_firstOf_14 ?_
    refine lv_iload_n hx hb dX8_firstOf_17 rfl (lv_at hl 2 rfl) ?_
    refine lv_iconst (v := 0) hx hb dX8_firstOf_18 (by decide) ?_
    refine zcSi (As := [.int (nI i), .int 0]) (rest := [.ref yr]) (wr := [(y, .inr (8, [.ref yt, .int v1, .int v2, .ref yr, .ref yk, .ref yz, .ref yp, .int v7, .int v8, .int v9, .int v10, .ref yl, .ref yw, .int v13, .int v14, .int v15, .int v16, .int v17, .int v18, .int v19, .int v20, .int v21, .ref yd, .int v23, .ref ys, .ref yn, .ref ym, .int v27, .ref yf, .ref yo, .ref yh, .ref yb, .int v32, .int v33, .int v34, .int v35, .int v36, .int v37, .int v38, .ref yx, .int v40, .int v41, .int v42])), (yr, .inl (cI, 4668, .inl (jn [0, 4, 0, (nI oo), (nI sn), (nI us), (nI tk), e7, e8, 0, 0, 0, 0, e13, e14, e15, (nI bb), (-1), e18, 0, 0, 0, 0, 0] gr)))]) ⟨hx, hb, hml, hown, hts⟩ (kkX8_of_0 l dC dI cI cB cZ cR H.size (nI i) ) (va_cwS 2 hts (zgS wm_369 wm_370 wm_5 wm_371) rfl rfl rfl (by decide +kernel) ⟨Nat.le_trans (Nat.le_of_ble_eq_true rfl) hRf, Nat.le_trans (Nat.le_of_ble_eq_true rfl) hRl⟩) hN hK hP hD hS hA [] [0, 1] rfl rfl ⟨rfl, rfl⟩ (by decide) rfl hl.1 rfl (Nat.le_of_ble_eq_true rfl) dX8_firstOf_19 ⟨hRc, hRs⟩ (fun r u hu H locs hP hD hS => ?_)
    have hu : r = (168 + (nI i)) := hu
    subst hu
    have hP : va_P (dC, dI) vwCl [(y, .inr (8, [.ref yt, .int v1, .int v2, .ref yr, .ref yk, .ref yz, .ref yp, .int v7, .int v8, .int v9, .int v10, .ref yl, .ref yw, .int v13, .int v14, .int v15, .int v16, .int v17, .int v18, .int v19, .int v20, .int v21, .ref yd, .int v23, .ref ys, .ref yn, .ref ym, .int v27, .ref yf, .ref yo, .ref yh, .ref yb, .int v32, .int v33, .int v34, .int v35, .int v36, .int v37, .int v38, .ref yx, .int v40, .int v41, .int v42])), (yr, .inl (cI, 4668, .inl (jn [0, 4, 0, (nI oo), (nI sn), (nI us), (nI tk), e7, e8, 0, 0, 0, 0, e13, e14, e15, (nI bb), (-1), e18, 0, 0, 0, 0, 0] gr)))] H := hP
    have hD : va_D A [(y, .inr (8, [.ref yt, .int v1, .int v2, .ref yr, .ref yk, .ref yz, .ref yp, .int v7, .int v8, .int v9, .int v10, .ref yl, .ref yw, .int v13, .int v14, .int v15, .int v16, .int v17, .int v18, .int v19, .int v20, .int v21, .ref yd, .int v23, .ref ys, .ref yn, .ref ym, .int v27, .ref yf, .ref yo, .ref yh, .ref yb, .int v32, .int v33, .int v34, .int v35, .int v36, .int v37, .int v38, .ref yx, .int v40, .int v41, .int v42])), (yr, .inl (cI, 4668, .inl (jn [0, 4, 0, (nI oo), (nI sn), (nI us), (nI tk), e7, e8, 0, 0, 0, 0, e13, e14, e15, (nI bb), (-1), e18, 0, 0, 0, 0, 0] gr)))] := hD
    refine tp (y := (nI (168 + i))) ((show nI 168 + nI i = _ from nI_add _ _)) ?_
    refine za_iald (v := (gr ((168 + i)))) hx hb hK hP 1 0 rfl rfl (vp_in_nI (by omega) (by decide)) (jrd (by omega) (by omega)) dX8_firstOf_22 ?_
    refine lv_iload_n hx hb dX8_firstOf_23 rfl (lv_at hl 1 rfl) ?_
    refine lv_icmp_ne (tgt := 29) hx hb dX8_firstOf_24 (by decide) (fun c_1 => ?_) (fun c_1 => ?_)
    · refine lv_iinc (v := (nI (i + 1))) (lv' := [(2, .int (nI (i + 1))), (0, .ref y), (1, .int st)]) hx hb dX8_firstOf_29 hl (k := 2) rfl (show (nI i) + Int32.ofInt 1 = _ from nI_add _ 1) (by decide) rfl (fun ls hl => ?_)
      refine lv_goto (tgt := 2) hx hb dX8_firstOf_32 (by decide) ?_
      have e_r : (foF gr st (n + 1) i) = (foF gr st n (i + 1)) := by rw [foF, if_neg c_1]
      exact ih (i + 1) (by omega) (e_r.symm.trans hrv) _ _ _ hP hD hS ((lv_sub hl [1, 2, 0] rfl))
    · refine lv_iload_n hx hb dX8_firstOf_27 rfl (lv_at hl 2 rfl) ?_
      have e_r : (foF gr st (n + 1) i) = (nI i) := by rw [foF, if_pos c_1]
      refine tp (y := rv) (e_r.symm.trans hrv) ?_
      exact k28 _ _ _ hP hD hS (lv_sub hl [0] rfl)

set_option maxHeartbeats 4000000 in
set_option maxRecDepth 100000 in
theorem kkX8_firstOf (l : Launch) (dC : Nat → ClassId) (dI : Nat → Nat → Nat) (cI cB cZ cR : ClassId) (sz : Nat) (y : Nat) (yt : Nat) (yr : Nat) (yk : Nat) (yz : Nat) (yp : Nat) (yl : Nat) (yw : Nat) (yd : Nat) (ys : Nat) (yn : Nat) (ym : Nat) (yf : Nat) (yo : Nat) (yh : Nat) (yb : Nat) (yx : Nat) (v1 : Int32) (v2 : Int32) (v7 : Int32) (v8 : Int32) (v9 : Int32) (v10 : Int32) (v13 : Int32) (v14 : Int32) (v15 : Int32) (v16 : Int32) (v17 : Int32) (v18 : Int32) (v19 : Int32) (v20 : Int32) (v21 : Int32) (v23 : Int32) (v27 : Int32) (v32 : Int32) (v33 : Int32) (v34 : Int32) (v35 : Int32) (v36 : Int32) (v37 : Int32) (v38 : Int32) (v40 : Int32) (v41 : Int32) (v42 : Int32) (oo : Nat) (sn : Nat) (us : Nat) (tk : Nat) (bb : Nat) (e7 : Int32) (e8 : Int32) (e13 : Int32) (e14 : Int32) (e15 : Int32) (e18 : Int32) (gr : Nat → Int32) (st : Int32) (hbb : bb ≤ 500) : Met l yX8_firstOf (.code yX8_firstOf cX8_firstOf 3 (some .int) :: wsL_law) ({ frames := 1, cells := 0, slots := 0, locals := 21 }) (zPc dC dI (zT cI cB cZ cR) [.ref y, .int st] sz [(y, .inr (8, [.ref yt, .int v1, .int v2, .ref yr, .ref yk, .ref yz, .ref yp, .int v7, .int v8, .int v9, .int v10, .ref yl, .ref yw, .int v13, .int v14, .int v15, .int v16, .int v17, .int v18, .int v19, .int v20, .int v21, .ref yd, .int v23, .ref ys, .ref yn, .ref ym, .int v27, .ref yf, .ref yo, .ref yh, .ref yb, .int v32, .int v33, .int v34, .int v35, .int v36, .int v37, .int v38, .ref yx, .int v40, .int v41, .int v42])), (yr, .inl (cI, 4668, .inl (jn [0, 4, 0, (nI oo), (nI sn), (nI us), (nI tk), e7, e8, 0, 0, 0, 0, e13, e14, e15, (nI bb), (-1), e18, 0, 0, 0, 0, 0] gr)))]) (va_Qi (fun (r : Int32) (_ : Unit) => r = (foF gr st bb 0)) (fun _ : Unit => zB dC dI (zT cI cB cZ cR) (va_A [(y, .inr (8, [.ref yt, .int v1, .int v2, .ref yr, .ref yk, .ref yz, .ref yp, .int v7, .int v8, .int v9, .int v10, .ref yl, .ref yw, .int v13, .int v14, .int v15, .int v16, .int v17, .int v18, .int v19, .int v20, .int v21, .ref yd, .int v23, .ref ys, .ref yn, .ref ym, .int v27, .ref yf, .ref yo, .ref yh, .ref yb, .int v32, .int v33, .int v34, .int v35, .int v36, .int v37, .int v38, .ref yx, .int v40, .int v41, .int v42])), (yr, .inl (cI, 4668, .inl (jn [0, 4, 0, (nI oo), (nI sn), (nI us), (nI tk), e7, e8, 0, 0, 0, 0, e13, e14, e15, (nI bb), (-1), e18, 0, 0, 0, 0, 0] gr)))] sz) [(y, .inr (8, [.ref yt, .int v1, .int v2, .ref yr, .ref yk, .ref yz, .ref yp, .int v7, .int v8, .int v9, .int v10, .ref yl, .ref yw, .int v13, .int v14, .int v15, .int v16, .int v17, .int v18, .int v19, .int v20, .int v21, .ref yd, .int v23, .ref ys, .ref yn, .ref ym, .int v27, .ref yf, .ref yo, .ref yh, .ref yb, .int v32, .int v33, .int v34, .int v35, .int v36, .int v37, .int v38, .ref yx, .int v40, .int v41, .int v42])), (yr, .inl (cI, 4668, .inl (jn [0, 4, 0, (nI oo), (nI sn), (nI us), (nI tk), e7, e8, 0, 0, 0, 0, e13, e14, e15, (nI bb), (-1), e18, 0, 0, 0, 0, 0] gr)))]) (va_A [(y, .inr (8, [.ref yt, .int v1, .int v2, .ref yr, .ref yk, .ref yz, .ref yp, .int v7, .int v8, .int v9, .int v10, .ref yl, .ref yw, .int v13, .int v14, .int v15, .int v16, .int v17, .int v18, .int v19, .int v20, .int v21, .ref yd, .int v23, .ref ys, .ref yn, .ref ym, .int v27, .ref yf, .ref yo, .ref yh, .ref yb, .int v32, .int v33, .int v34, .int v35, .int v36, .int v37, .int v38, .ref yx, .int v40, .int v41, .int v42])), (yr, .inl (cI, 4668, .inl (jn [0, 4, 0, (nI oo), (nI sn), (nI us), (nI tk), e7, e8, 0, 0, 0, 0, e13, e14, e15, (nI bb), (-1), e18, 0, 0, 0, 0, 0] gr)))] sz)) 0 0 (va_A [(y, .inr (8, [.ref yt, .int v1, .int v2, .ref yr, .ref yk, .ref yz, .ref yp, .int v7, .int v8, .int v9, .int v10, .ref yl, .ref yw, .int v13, .int v14, .int v15, .int v16, .int v17, .int v18, .int v19, .int v20, .int v21, .ref yd, .int v23, .ref ys, .ref yn, .ref ym, .int v27, .ref yf, .ref yo, .ref yh, .ref yb, .int v32, .int v33, .int v34, .int v35, .int v36, .int v37, .int v38, .ref yx, .int v40, .int v41, .int v42])), (yr, .inl (cI, 4668, .inl (jn [0, 4, 0, (nI oo), (nI sn), (nI us), (nI tk), e7, e8, 0, 0, 0, 0, e13, e14, e15, (nI bb), (-1), e18, 0, 0, 0, 0, 0] gr)))] sz) := by
  refine Met.ofW (cc := cX8_firstOf) (maxL := 3) (ret := (some .int)) (by decide) rfl ?_
  intro p e s m args below meth c s₁ B hml hv
  obtain ⟨rfl, hsz, hP, hK, hD0, hN⟩ := hv
  have hx := B.exec
  have hb := B.bytes
  have hr := B.returns
  have hts := atoms_spec (ws := (.code yX8_firstOf cX8_firstOf 3 (some .int) :: wsL_law)) B.pre
  have hown : s.vm.findClass RX8 = some m.cls := findClass_of_methodNamed B.named
  have hlocks := B.notSynchronized
  subst hsz
  have hD := hD0.self (sz := s.heap.size)
  generalize hAe : va_A [(y, .inr (8, [.ref yt, .int v1, .int v2, .ref yr, .ref yk, .ref yz, .ref yp, .int v7, .int v8, .int v9, .int v10, .ref yl, .ref yw, .int v13, .int v14, .int v15, .int v16, .int v17, .int v18, .int v19, .int v20, .int v21, .ref yd, .int v23, .ref ys, .ref yn, .ref ym, .int v27, .ref yf, .ref yo, .ref yh, .ref yb, .int v32, .int v33, .int v34, .int v35, .int v36, .int v37, .int v38, .ref yx, .int v40, .int v41, .int v42])), (yr, .inl (cI, 4668, .inl (jn [0, 4, 0, (nI oo), (nI sn), (nI us), (nI tk), e7, e8, 0, 0, 0, 0, e13, e14, e15, (nI bb), (-1), e18, 0, 0, 0, 0, 0] gr)))] s.heap.size = A at hD ⊢
  have hA : ∀ q : Nat, s.heap.size ≤ q → A q := fun q h => by rw [← hAe]; exact Or.inr h
  have hP : va_P (dC, dI) vwCl [(y, .inr (8, [.ref yt, .int v1, .int v2, .ref yr, .ref yk, .ref yz, .ref yp, .int v7, .int v8, .int v9, .int v10, .ref yl, .ref yw, .int v13, .int v14, .int v15, .int v16, .int v17, .int v18, .int v19, .int v20, .int v21, .ref yd, .int v23, .ref ys, .ref yn, .ref ym, .int v27, .ref yf, .ref yo, .ref yh, .ref yb, .int v32, .int v33, .int v34, .int v35, .int v36, .int v37, .int v38, .ref yx, .int v40, .int v41, .int v42])), (yr, .inl (cI, 4668, .inl (jn [0, 4, 0, (nI oo), (nI sn), (nI us), (nI tk), e7, e8, 0, 0, 0, 0, e13, e14, e15, (nI bb), (-1), e18, 0, 0, 0, 0, 0] gr)))] s.heap := hP
  have hl := lv_entry ([.ref y, .int st]) (n := 3) (Nat.le_of_ble_eq_true rfl)
  rw [lg_entry_eq]
  generalize (lg_sl ([.ref y, .int st]) ++ List.replicate (3 - (lg_sl ([.ref y, .int st])).length) Slot.unset).toArray = ls at hl ⊢
  have hl : lv_has ls 3 [(0, .ref y), (1, .int st)] := hl
  obtain ⟨H, hH⟩ : ∃ H, H = s.heap := ⟨_, rfl⟩
  rw [← hH] at hP ⊢
  have hS : va_S A s.heap H [] := by rw [hH]; exact va_S.rf
  refine lv_iconst (v := 0) hx hb dX8_firstOf_0 (by decide) ?_
  refine lv_istore_n (lv' := [(2, .int 0), (0, .ref y), (1, .int st)]) hx hb dX8_firstOf_1 rfl hl (by decide) rfl (fun ls hl => ?_)
  have hP := hP.sub (ws' := [(y, .inr (8, [.ref yt, .int v1, .int v2, .ref yr, .ref yk, .ref yz, .ref yp, .int v7, .int v8, .int v9, .int v10, .ref yl, .ref yw, .int v13, .int v14, .int v15, .int v16, .int v17, .int v18, .int v19, .int v20, .int v21, .ref yd, .int v23, .ref ys, .ref yn, .ref ym, .int v27, .ref yf, .ref yo, .ref yh, .ref yb, .int v32, .int v33, .int v34, .int v35, .int v36, .int v37, .int v38, .ref yx, .int v40, .int v41, .int v42])), (yr, .inl (cI, 4668, .inl (jn [0, 4, 0, (nI oo), (nI sn), (nI us), (nI tk), e7, e8, 0, 0, 0, 0, e13, e14, e15, (nI bb), (-1), e18, 0, 0, 0, 0, 0] gr)))]) [0, 1] rfl
  have hD := hD.sub (ws' := [(y, .inr (8, [.ref yt, .int v1, .int v2, .ref yr, .ref yk, .ref yz, .ref yp, .int v7, .int v8, .int v9, .int v10, .ref yl, .ref yw, .int v13, .int v14, .int v15, .int v16, .int v17, .int v18, .int v19, .int v20, .int v21, .ref yd, .int v23, .ref ys, .ref yn, .ref ym, .int v27, .ref yf, .ref yo, .ref yh, .ref yb, .int v32, .int v33, .int v34, .int v35, .int v36, .int v37, .int v38, .ref yx, .int v40, .int v41, .int v42])), (yr, .inl (cI, 4668, .inl (jn [0, 4, 0, (nI oo), (nI sn), (nI us), (nI tk), e7, e8, 0, 0, 0, 0, e13, e14, e15, (nI bb), (-1), e18, 0, 0, 0, 0, 0] gr)))]) [0, 1] (by decide) rfl
  have hl0 : lv_has ls 3 [(0, .ref y), (1, .int st), (2, .int (nI 0))] := (lv_sub hl [1, 2, 0] rfl)
  refine NLX8_firstOf dC dI cI cB cZ cR y yt yr yk yz yp yl yw yd ys yn ym yf yo yh yb yx v1 v2 v7 v8 v9 v10 v13 v14 v15 v16 v17 v18 v19 v20 v21 v23 v27 v32 v33 v34 v35 v36 v37 v38 v40 v41 v42 oo sn us tk bb e7 e8 e13 e14 e15 e18 gr st hbb _ rfl hx hb hml hts hown hN hK hA (Nat.le_of_ble_eq_true rfl) (Nat.le_of_ble_eq_true rfl) (Nat.le_of_ble_eq_true rfl) (Nat.le_of_ble_eq_true rfl) (foF gr st bb 0) ?_ ?_ bb 0 (by omega) rfl _ _ _ hP hD hS hl0
  · intro H locs ls hP hD hS hl
    have hP : va_P (dC, dI) vwCl [(y, .inr (8, [.ref yt, .int v1, .int v2, .ref yr, .ref yk, .ref yz, .ref yp, .int v7, .int v8, .int v9, .int v10, .ref yl, .ref yw, .int v13, .int v14, .int v15, .int v16, .int v17, .int v18, .int v19, .int v20, .int v21, .ref yd, .int v23, .ref ys, .ref yn, .ref ym, .int v27, .ref yf, .ref yo, .ref yh, .ref yb, .int v32, .int v33, .int v34, .int v35, .int v36, .int v37, .int v38, .ref yx, .int v40, .int v41, .int v42])), (yr, .inl (cI, 4668, .inl (jn [0, 4, 0, (nI oo), (nI sn), (nI us), (nI tk), e7, e8, 0, 0, 0, 0, e13, e14, e15, (nI bb), (-1), e18, 0, 0, 0, 0, 0] gr)))] H := hP
    have hD : va_D A [(y, .inr (8, [.ref yt, .int v1, .int v2, .ref yr, .ref yk, .ref yz, .ref yp, .int v7, .int v8, .int v9, .int v10, .ref yl, .ref yw, .int v13, .int v14, .int v15, .int v16, .int v17, .int v18, .int v19, .int v20, .int v21, .ref yd, .int v23, .ref ys, .ref yn, .ref ym, .int v27, .ref yf, .ref yo, .ref yh, .ref yb, .int v32, .int v33, .int v34, .int v35, .int v36, .int v37, .int v38, .ref yx, .int v40, .int v41, .int v42])), (yr, .inl (cI, 4668, .inl (jn [0, 4, 0, (nI oo), (nI sn), (nI us), (nI tk), e7, e8, 0, 0, 0, 0, e13, e14, e15, (nI bb), (-1), e18, 0, 0, 0, 0, 0] gr)))] := hD
    have hP9 := hP.sub (ws' := [(y, .inr (8, [.ref yt, .int v1, .int v2, .ref yr, .ref yk, .ref yz, .ref yp, .int v7, .int v8, .int v9, .int v10, .ref yl, .ref yw, .int v13, .int v14, .int v15, .int v16, .int v17, .int v18, .int v19, .int v20, .int v21, .ref yd, .int v23, .ref ys, .ref yn, .ref ym, .int v27, .ref yf, .ref yo, .ref yh, .ref yb, .int v32, .int v33, .int v34, .int v35, .int v36, .int v37, .int v38, .ref yx, .int v40, .int v41, .int v42])), (yr, .inl (cI, 4668, .inl (jn [0, 4, 0, (nI oo), (nI sn), (nI us), (nI tk), e7, e8, 0, 0, 0, 0, e13, e14, e15, (nI bb), (-1), e18, 0, 0, 0, 0, 0] gr)))]) [0, 1] rfl
    have hD9 := hD.sub (ws' := [(y, .inr (8, [.ref yt, .int v1, .int v2, .ref yr, .ref yk, .ref yz, .ref yp, .int v7, .int v8, .int v9, .int v10, .ref yl, .ref yw, .int v13, .int v14, .int v15, .int v16, .int v17, .int v18, .int v19, .int v20, .int v21, .ref yd, .int v23, .ref ys, .ref yn, .ref ym, .int v27, .ref yf, .ref yo, .ref yh, .ref yb, .int v32, .int v33, .int v34, .int v35, .int v36, .int v37, .int v38, .ref yx, .int v40, .int v41, .int v42])), (yr, .inl (cI, 4668, .inl (jn [0, 4, 0, (nI oo), (nI sn), (nI us), (nI tk), e7, e8, 0, 0, 0, 0, e13, e14, e15, (nI bb), (-1), e18, 0, 0, 0, 0, 0] gr)))]) [0, 1] (by decide) rfl
    exact W.iret (v := (foF gr st bb 0)) hx hb hr (fun t ht hW => ⟨⟨(foF gr st bb 0), (), rfl, rfl, by rw [ht]; exact hP9, va_K.moved hW.alike hK, hD9⟩, hS.F ht⟩) hS.2.2 dX8_firstOf_28
  · intro H locs ls hP hD hS hl
    have hP : va_P (dC, dI) vwCl [(y, .inr (8, [.ref yt, .int v1, .int v2, .ref yr, .ref yk, .ref yz, .ref yp, .int v7, .int v8, .int v9, .int v10, .ref yl, .ref yw, .int v13, .int v14, .int v15, .int v16, .int v17, .int v18, .int v19, .int v20, .int v21, .ref yd, .int v23, .ref ys, .ref yn, .ref ym, .int v27, .ref yf, .ref yo, .ref yh, .ref yb, .int v32, .int v33, .int v34, .int v35, .int v36, .int v37, .int v38, .ref yx, .int v40, .int v41, .int v42])), (yr, .inl (cI, 4668, .inl (jn [0, 4, 0, (nI oo), (nI sn), (nI us), (nI tk), e7, e8, 0, 0, 0, 0, e13, e14, e15, (nI bb), (-1), e18, 0, 0, 0, 0, 0] gr)))] H := hP
    have hD : va_D A [(y, .inr (8, [.ref yt, .int v1, .int v2, .ref yr, .ref yk, .ref yz, .ref yp, .int v7, .int v8, .int v9, .int v10, .ref yl, .ref yw, .int v13, .int v14, .int v15, .int v16, .int v17, .int v18, .int v19, .int v20, .int v21, .ref yd, .int v23, .ref ys, .ref yn, .ref ym, .int v27, .ref yf, .ref yo, .ref yh, .ref yb, .int v32, .int v33, .int v34, .int v35, .int v36, .int v37, .int v38, .ref yx, .int v40, .int v41, .int v42])), (yr, .inl (cI, 4668, .inl (jn [0, 4, 0, (nI oo), (nI sn), (nI us), (nI tk), e7, e8, 0, 0, 0, 0, e13, e14, e15, (nI bb), (-1), e18, 0, 0, 0, 0, 0] gr)))] := hD
    have hP9 := hP.sub (ws' := [(y, .inr (8, [.ref yt, .int v1, .int v2, .ref yr, .ref yk, .ref yz, .ref yp, .int v7, .int v8, .int v9, .int v10, .ref yl, .ref yw, .int v13, .int v14, .int v15, .int v16, .int v17, .int v18, .int v19, .int v20, .int v21, .ref yd, .int v23, .ref ys, .ref yn, .ref ym, .int v27, .ref yf, .ref yo, .ref yh, .ref yb, .int v32, .int v33, .int v34, .int v35, .int v36, .int v37, .int v38, .ref yx, .int v40, .int v41, .int v42])), (yr, .inl (cI, 4668, .inl (jn [0, 4, 0, (nI oo), (nI sn), (nI us), (nI tk), e7, e8, 0, 0, 0, 0, e13, e14, e15, (nI bb), (-1), e18, 0, 0, 0, 0, 0] gr)))]) [0, 1] rfl
    have hD9 := hD.sub (ws' := [(y, .inr (8, [.ref yt, .int v1, .int v2, .ref yr, .ref yk, .ref yz, .ref yp, .int v7, .int v8, .int v9, .int v10, .ref yl, .ref yw, .int v13, .int v14, .int v15, .int v16, .int v17, .int v18, .int v19, .int v20, .int v21, .ref yd, .int v23, .ref ys, .ref yn, .ref ym, .int v27, .ref yf, .ref yo, .ref yh, .ref yb, .int v32, .int v33, .int v34, .int v35, .int v36, .int v37, .int v38, .ref yx, .int v40, .int v41, .int v42])), (yr, .inl (cI, 4668, .inl (jn [0, 4, 0, (nI oo), (nI sn), (nI us), (nI tk), e7, e8, 0, 0, 0, 0, e13, e14, e15, (nI bb), (-1), e18, 0, 0, 0, 0, 0] gr)))]) [0, 1] (by decide) rfl
    exact W.iret (v := (foF gr st bb 0)) hx hb hr (fun t ht hW => ⟨⟨(foF gr st bb 0), (), rfl, rfl, by rw [ht]; exact hP9, va_K.moved hW.alike hK, hD9⟩, hS.F ht⟩) hS.2.2 dX8_firstOf_36

set_option maxHeartbeats 4000000 in
set_option maxRecDepth 100000 in
theorem kkX8_firstFetched (l : Launch) (dC : Nat → ClassId) (dI : Nat → Nat → Nat) (cI cB cZ cR : ClassId) (sz : Nat) (y : Nat) (yt : Nat) (yr : Nat) (yk : Nat) (yz : Nat) (yp : Nat) (yl : Nat) (yw : Nat) (yd : Nat) (ys : Nat) (yn : Nat) (ym : Nat) (yf : Nat) (yo : Nat) (yh : Nat) (yb : Nat) (yx : Nat) (v1 : Int32) (v2 : Int32) (v7 : Int32) (v8 : Int32) (v9 : Int32) (v10 : Int32) (v13 : Int32) (v14 : Int32) (v15 : Int32) (v16 : Int32) (v17 : Int32) (v18 : Int32) (v19 : Int32) (v20 : Int32) (v21 : Int32) (v23 : Int32) (v27 : Int32) (v32 : Int32) (v33 : Int32) (v34 : Int32) (v35 : Int32) (v36 : Int32) (v37 : Int32) (v38 : Int32) (v40 : Int32) (v41 : Int32) (v42 : Int32) (oo : Nat) (sn : Nat) (us : Nat) (tk : Nat) (bb : Nat) (e7 : Int32) (e8 : Int32) (e13 : Int32) (e14 : Int32) (e15 : Int32) (e18 : Int32) (gr : Nat → Int32) (hbb : bb ≤ 500) : Met l yX8_firstFetched (.code yX8_firstFetched cX8_firstFetched 1 (some .int) :: wsL_law) ({ frames := 2, cells := 0, slots := 0, locals := 43 }) (zPc dC dI (zT cI cB cZ cR) [.ref y] sz [(y, .inr (8, [.ref yt, .int v1, .int v2, .ref yr, .ref yk, .ref yz, .ref yp, .int v7, .int v8, .int v9, .int v10, .ref yl, .ref yw, .int v13, .int v14, .int v15, .int v16, .int v17, .int v18, .int v19, .int v20, .int v21, .ref yd, .int v23, .ref ys, .ref yn, .ref ym, .int v27, .ref yf, .ref yo, .ref yh, .ref yb, .int v32, .int v33, .int v34, .int v35, .int v36, .int v37, .int v38, .ref yx, .int v40, .int v41, .int v42])), (yr, .inl (cI, 4668, .inl (jn [0, 4, 0, (nI oo), (nI sn), (nI us), (nI tk), e7, e8, 0, 0, 0, 0, e13, e14, e15, (nI bb), (-1), e18, 0, 0, 0, 0, 0] gr)))]) (va_Qi (fun (r : Int32) (_ : Unit) => r = (foF gr 1 bb 0)) (fun _ : Unit => zB dC dI (zT cI cB cZ cR) (va_A [(y, .inr (8, [.ref yt, .int v1, .int v2, .ref yr, .ref yk, .ref yz, .ref yp, .int v7, .int v8, .int v9, .int v10, .ref yl, .ref yw, .int v13, .int v14, .int v15, .int v16, .int v17, .int v18, .int v19, .int v20, .int v21, .ref yd, .int v23, .ref ys, .ref yn, .ref ym, .int v27, .ref yf, .ref yo, .ref yh, .ref yb, .int v32, .int v33, .int v34, .int v35, .int v36, .int v37, .int v38, .ref yx, .int v40, .int v41, .int v42])), (yr, .inl (cI, 4668, .inl (jn [0, 4, 0, (nI oo), (nI sn), (nI us), (nI tk), e7, e8, 0, 0, 0, 0, e13, e14, e15, (nI bb), (-1), e18, 0, 0, 0, 0, 0] gr)))] sz) [(y, .inr (8, [.ref yt, .int v1, .int v2, .ref yr, .ref yk, .ref yz, .ref yp, .int v7, .int v8, .int v9, .int v10, .ref yl, .ref yw, .int v13, .int v14, .int v15, .int v16, .int v17, .int v18, .int v19, .int v20, .int v21, .ref yd, .int v23, .ref ys, .ref yn, .ref ym, .int v27, .ref yf, .ref yo, .ref yh, .ref yb, .int v32, .int v33, .int v34, .int v35, .int v36, .int v37, .int v38, .ref yx, .int v40, .int v41, .int v42])), (yr, .inl (cI, 4668, .inl (jn [0, 4, 0, (nI oo), (nI sn), (nI us), (nI tk), e7, e8, 0, 0, 0, 0, e13, e14, e15, (nI bb), (-1), e18, 0, 0, 0, 0, 0] gr)))]) (va_A [(y, .inr (8, [.ref yt, .int v1, .int v2, .ref yr, .ref yk, .ref yz, .ref yp, .int v7, .int v8, .int v9, .int v10, .ref yl, .ref yw, .int v13, .int v14, .int v15, .int v16, .int v17, .int v18, .int v19, .int v20, .int v21, .ref yd, .int v23, .ref ys, .ref yn, .ref ym, .int v27, .ref yf, .ref yo, .ref yh, .ref yb, .int v32, .int v33, .int v34, .int v35, .int v36, .int v37, .int v38, .ref yx, .int v40, .int v41, .int v42])), (yr, .inl (cI, 4668, .inl (jn [0, 4, 0, (nI oo), (nI sn), (nI us), (nI tk), e7, e8, 0, 0, 0, 0, e13, e14, e15, (nI bb), (-1), e18, 0, 0, 0, 0, 0] gr)))] sz)) 0 0 (va_A [(y, .inr (8, [.ref yt, .int v1, .int v2, .ref yr, .ref yk, .ref yz, .ref yp, .int v7, .int v8, .int v9, .int v10, .ref yl, .ref yw, .int v13, .int v14, .int v15, .int v16, .int v17, .int v18, .int v19, .int v20, .int v21, .ref yd, .int v23, .ref ys, .ref yn, .ref ym, .int v27, .ref yf, .ref yo, .ref yh, .ref yb, .int v32, .int v33, .int v34, .int v35, .int v36, .int v37, .int v38, .ref yx, .int v40, .int v41, .int v42])), (yr, .inl (cI, 4668, .inl (jn [0, 4, 0, (nI oo), (nI sn), (nI us), (nI tk), e7, e8, 0, 0, 0, 0, e13, e14, e15, (nI bb), (-1), e18, 0, 0, 0, 0, 0] gr)))] sz) := by
  refine Met.ofW (cc := cX8_firstFetched) (maxL := 1) (ret := (some .int)) (by decide) rfl ?_
  intro p e s m args below meth c s₁ B hml hv
  obtain ⟨rfl, hsz, hP, hK, hD0, hN⟩ := hv
  have hx := B.exec
  have hb := B.bytes
  have hr := B.returns
  have hts := atoms_spec (ws := (.code yX8_firstFetched cX8_firstFetched 1 (some .int) :: wsL_law)) B.pre
  have hown : s.vm.findClass RX8 = some m.cls := findClass_of_methodNamed B.named
  have hlocks := B.notSynchronized
  subst hsz
  have hD := hD0.self (sz := s.heap.size)
  generalize hAe : va_A [(y, .inr (8, [.ref yt, .int v1, .int v2, .ref yr, .ref yk, .ref yz, .ref yp, .int v7, .int v8, .int v9, .int v10, .ref yl, .ref yw, .int v13, .int v14, .int v15, .int v16, .int v17, .int v18, .int v19, .int v20, .int v21, .ref yd, .int v23, .ref ys, .ref yn, .ref ym, .int v27, .ref yf, .ref yo, .ref yh, .ref yb, .int v32, .int v33, .int v34, .int v35, .int v36, .int v37, .int v38, .ref yx, .int v40, .int v41, .int v42])), (yr, .inl (cI, 4668, .inl (jn [0, 4, 0, (nI oo), (nI sn), (nI us), (nI tk), e7, e8, 0, 0, 0, 0, e13, e14, e15, (nI bb), (-1), e18, 0, 0, 0, 0, 0] gr)))] s.heap.size = A at hD ⊢
  have hA : ∀ q : Nat, s.heap.size ≤ q → A q := fun q h => by rw [← hAe]; exact Or.inr h
  have hP : va_P (dC, dI) vwCl [(y, .inr (8, [.ref yt, .int v1, .int v2, .ref yr, .ref yk, .ref yz, .ref yp, .int v7, .int v8, .int v9, .int v10, .ref yl, .ref yw, .int v13, .int v14, .int v15, .int v16, .int v17, .int v18, .int v19, .int v20, .int v21, .ref yd, .int v23, .ref ys, .ref yn, .ref ym, .int v27, .ref yf, .ref yo, .ref yh, .ref yb, .int v32, .int v33, .int v34, .int v35, .int v36, .int v37, .int v38, .ref yx, .int v40, .int v41, .int v42])), (yr, .inl (cI, 4668, .inl (jn [0, 4, 0, (nI oo), (nI sn), (nI us), (nI tk), e7, e8, 0, 0, 0, 0, e13, e14, e15, (nI bb), (-1), e18, 0, 0, 0, 0, 0] gr)))] s.heap := hP
  have hl := lv_entry ([.ref y]) (n := 1) (Nat.le_of_ble_eq_true rfl)
  rw [lg_entry_eq]
  generalize (lg_sl ([.ref y]) ++ List.replicate (1 - (lg_sl ([.ref y])).length) Slot.unset).toArray = ls at hl ⊢
  have hl : lv_has ls 1 [(0, .ref y)] := hl
  obtain ⟨H, hH⟩ : ∃ H, H = s.heap := ⟨_, rfl⟩
  rw [← hH] at hP ⊢
  have hS : va_S A s.heap H [] := by rw [hH]; exact va_S.rf
  refine lv_aload_n hx hb dX8_firstFetched_0 rfl (lv_at hl 0 rfl) ?_
  refine lv_iconst (v := 1) hx hb dX8_firstFetched_1 (by decide) ?_
  refine zcVi (As := [.int 1]) (rest := []) (wr := []) ⟨hx, hb, hml, hown, hts⟩ (kkX8_firstOf l dC dI cI cB cZ cR H.size y yt yr yk yz yp yl yw yd ys yn ym yf yo yh yb yx v1 v2 v7 v8 v9 v10 v13 v14 v15 v16 v17 v18 v19 v20 v21 v23 v27 v32 v33 v34 v35 v36 v37 v38 v40 v41 v42 oo sn us tk bb e7 e8 e13 e14 e15 e18 gr 1 hbb) (cwV 1 hts (zgV wm_584 wm_585 wm_586 wm_5 wm_587) rfl rfl rfl (by decide +kernel) ⟨Nat.le_of_ble_eq_true rfl, Nat.le_of_ble_eq_true rfl⟩) hN hK hP hD hS hA [0, 1] [] rfl rfl ⟨rfl, rfl⟩ (by decide) (ci := 8) rfl rfl rfl rfl hl.1 rfl (Nat.le_of_ble_eq_true rfl) dX8_firstFetched_2 ⟨Nat.le_of_ble_eq_true rfl, Nat.le_of_ble_eq_true rfl⟩ (fun r u hu H locs hP hD hS => ?_)
  have hu : r = (foF gr 1 bb 0) := hu
  subst hu
  have hP : va_P (dC, dI) vwCl [(y, .inr (8, [.ref yt, .int v1, .int v2, .ref yr, .ref yk, .ref yz, .ref yp, .int v7, .int v8, .int v9, .int v10, .ref yl, .ref yw, .int v13, .int v14, .int v15, .int v16, .int v17, .int v18, .int v19, .int v20, .int v21, .ref yd, .int v23, .ref ys, .ref yn, .ref ym, .int v27, .ref yf, .ref yo, .ref yh, .ref yb, .int v32, .int v33, .int v34, .int v35, .int v36, .int v37, .int v38, .ref yx, .int v40, .int v41, .int v42])), (yr, .inl (cI, 4668, .inl (jn [0, 4, 0, (nI oo), (nI sn), (nI us), (nI tk), e7, e8, 0, 0, 0, 0, e13, e14, e15, (nI bb), (-1), e18, 0, 0, 0, 0, 0] gr)))] H := hP
  have hD : va_D A [(y, .inr (8, [.ref yt, .int v1, .int v2, .ref yr, .ref yk, .ref yz, .ref yp, .int v7, .int v8, .int v9, .int v10, .ref yl, .ref yw, .int v13, .int v14, .int v15, .int v16, .int v17, .int v18, .int v19, .int v20, .int v21, .ref yd, .int v23, .ref ys, .ref yn, .ref ym, .int v27, .ref yf, .ref yo, .ref yh, .ref yb, .int v32, .int v33, .int v34, .int v35, .int v36, .int v37, .int v38, .ref yx, .int v40, .int v41, .int v42])), (yr, .inl (cI, 4668, .inl (jn [0, 4, 0, (nI oo), (nI sn), (nI us), (nI tk), e7, e8, 0, 0, 0, 0, e13, e14, e15, (nI bb), (-1), e18, 0, 0, 0, 0, 0] gr)))] := hD
  have hP9 := hP.sub (ws' := [(y, .inr (8, [.ref yt, .int v1, .int v2, .ref yr, .ref yk, .ref yz, .ref yp, .int v7, .int v8, .int v9, .int v10, .ref yl, .ref yw, .int v13, .int v14, .int v15, .int v16, .int v17, .int v18, .int v19, .int v20, .int v21, .ref yd, .int v23, .ref ys, .ref yn, .ref ym, .int v27, .ref yf, .ref yo, .ref yh, .ref yb, .int v32, .int v33, .int v34, .int v35, .int v36, .int v37, .int v38, .ref yx, .int v40, .int v41, .int v42])), (yr, .inl (cI, 4668, .inl (jn [0, 4, 0, (nI oo), (nI sn), (nI us), (nI tk), e7, e8, 0, 0, 0, 0, e13, e14, e15, (nI bb), (-1), e18, 0, 0, 0, 0, 0] gr)))]) [0, 1] rfl
  have hD9 := hD.sub (ws' := [(y, .inr (8, [.ref yt, .int v1, .int v2, .ref yr, .ref yk, .ref yz, .ref yp, .int v7, .int v8, .int v9, .int v10, .ref yl, .ref yw, .int v13, .int v14, .int v15, .int v16, .int v17, .int v18, .int v19, .int v20, .int v21, .ref yd, .int v23, .ref ys, .ref yn, .ref ym, .int v27, .ref yf, .ref yo, .ref yh, .ref yb, .int v32, .int v33, .int v34, .int v35, .int v36, .int v37, .int v38, .ref yx, .int v40, .int v41, .int v42])), (yr, .inl (cI, 4668, .inl (jn [0, 4, 0, (nI oo), (nI sn), (nI us), (nI tk), e7, e8, 0, 0, 0, 0, e13, e14, e15, (nI bb), (-1), e18, 0, 0, 0, 0, 0] gr)))]) [0, 1] (by decide) rfl
  exact W.iret (v := (foF gr 1 bb 0)) hx hb hr (fun t ht hW => ⟨⟨(foF gr 1 bb 0), (), rfl, rfl, by rw [ht]; exact hP9, va_K.moved hW.alike hK, hD9⟩, hS.F ht⟩) hS.2.2 dX8_firstFetched_5
