theorem mv16 {a : Nat} (h : a < 16) : ((nI a + 1) - (nI a + 1) / 16 * 16) = nI ((a + 1) % 16) := by
  rw [nI_1]
  exact (show nI (a + 1) - nI (a + 1) / nI 16 * nI 16 = _ from pk_rem (by omega) (by decide) (by decide))
/-- how many of the four descriptors are free -/
def cnt4 (h : Int32) : Nat := (if (pfX8_bitOf_r h 0) = 0 then 1 else 0) + (if (pfX8_bitOf_r h 1) = 0 then 1 else 0) + (if (pfX8_bitOf_r h 2) = 0 then 1 else 0) + (if (pfX8_bitOf_r h 3) = 0 then 1 else 0)

set_option maxHeartbeats 4000000 in
set_option maxRecDepth 100000 in
theorem kkX8_bitOf_2_0 (l : Launch) (dC : Nat → ClassId) (dI : Nat → Nat → Nat) (cI cB cZ cR : ClassId) (sz : Nat) : Met l yX8_bitOf (.code yX8_bitOf cX8_bitOf 2 (some .boolean) :: wsL_law) ({ frames := 0, cells := 0, slots := 0, locals := 0 }) (zPc dC dI (zT cI cB cZ cR) [.int 2, .int 0] sz []) (va_Qi (fun (r : Int32) (_ : Unit) => r = 0) (fun _ : Unit => zB dC dI (zT cI cB cZ cR) (va_A [] sz) []) (va_A [] sz)) 0 0 (va_A [] sz) := by
  refine Met.ofW (cc := cX8_bitOf) (maxL := 2) (ret := (some .boolean)) (by decide) rfl ?_
  intro p e s m args below meth c s₁ B hml hv
  obtain ⟨rfl, hsz, hP, hK, hD0, hN⟩ := hv
  have hx := B.exec
  have hb := B.bytes
  have hr := B.returns
  have hts := atoms_spec (ws := (.code yX8_bitOf cX8_bitOf 2 (some .boolean) :: wsL_law)) B.pre
  have hown : s.vm.findClass RX8 = some m.cls := findClass_of_methodNamed B.named
  have hlocks := B.notSynchronized
  subst hsz
  have hD := hD0.self (sz := s.heap.size)
  generalize hAe : va_A [] s.heap.size = A at hD ⊢
  have hA : ∀ q : Nat, s.heap.size ≤ q → A q := fun q h => by rw [← hAe]; exact Or.inr h
  have hP : va_P (dC, dI) vwCl [] s.heap := hP
  have hl := lv_entry ([.int 2, .int 0]) (n := 2) (Nat.le_of_ble_eq_true rfl)
  rw [lg_entry_eq]
  generalize (lg_sl ([.int 2, .int 0]) ++ List.replicate (2 - (lg_sl ([.int 2, .int 0])).length) Slot.unset).toArray = ls at hl ⊢
  have hl : lv_has ls 2 [(0, .int 2), (1, .int 0)] := hl
  obtain ⟨H, hH⟩ : ∃ H, H = s.heap := ⟨_, rfl⟩
  rw [← hH] at hP ⊢
  have hS : va_S A s.heap H [] := by rw [hH]; exact va_S.rf
  refine lv_iload_n hx hb dX8_bitOf_0 rfl (lv_at hl 0 rfl) ?_
  refine lv_iload_n hx hb dX8_bitOf_1 rfl (lv_at hl 1 rfl) ?_
  refine lv_ishr hx hb dX8_bitOf_2 ?_
  refine tp (y := 2) (by decide) ?_
  refine lv_iconst (v := 1) hx hb dX8_bitOf_3 (by decide) ?_
  refine lv_iand hx hb dX8_bitOf_4 ?_
  refine tp (y := 0) (by decide) ?_
  refine lv_iconst (v := 1) hx hb dX8_bitOf_5 (by decide) ?_
  refine lv_icmp_ne (tgt := 13) hx hb dX8_bitOf_6 (by decide) (fun _ => ?_) (fun c => absurd c (by decide))
  refine lv_iconst (v := 0) hx hb dX8_bitOf_13 (by decide) ?_
  have hP9 := hP.sub (ws' := []) [] rfl
  have hD9 := hD.sub (ws' := []) [] (by decide) rfl
  exact W.zret (v := 0) hx hb hr rfl (fun t ht hW => ⟨⟨0, (), rfl, rfl, by rw [ht]; exact hP9, va_K.moved hW.alike hK, hD9⟩, hS.F ht⟩) hS.2.2 dX8_bitOf_14

set_option maxHeartbeats 4000000 in
set_option maxRecDepth 100000 in
theorem kkX8_bitOf_2_1 (l : Launch) (dC : Nat → ClassId) (dI : Nat → Nat → Nat) (cI cB cZ cR : ClassId) (sz : Nat) : Met l yX8_bitOf (.code yX8_bitOf cX8_bitOf 2 (some .boolean) :: wsL_law) ({ frames := 0, cells := 0, slots := 0, locals := 0 }) (zPc dC dI (zT cI cB cZ cR) [.int 2, .int 1] sz []) (va_Qi (fun (r : Int32) (_ : Unit) => r = 1) (fun _ : Unit => zB dC dI (zT cI cB cZ cR) (va_A [] sz) []) (va_A [] sz)) 0 0 (va_A [] sz) := by
  refine Met.ofW (cc := cX8_bitOf) (maxL := 2) (ret := (some .boolean)) (by decide) rfl ?_
  intro p e s m args below meth c s₁ B hml hv
  obtain ⟨rfl, hsz, hP, hK, hD0, hN⟩ := hv
  have hx := B.exec
  have hb := B.bytes
  have hr := B.returns
  have hts := atoms_spec (ws := (.code yX8_bitOf cX8_bitOf 2 (some .boolean) :: wsL_law)) B.pre
  have hown : s.vm.findClass RX8 = some m.cls := findClass_of_methodNamed B.named
  have hlocks := B.notSynchronized
  subst hsz
  have hD := hD0.self (sz := s.heap.size)
  generalize hAe : va_A [] s.heap.size = A at hD ⊢
  have hA : ∀ q : Nat, s.heap.size ≤ q → A q := fun q h => by rw [← hAe]; exact Or.inr h
  have hP : va_P (dC, dI) vwCl [] s.heap := hP
  have hl := lv_entry ([.int 2, .int 1]) (n := 2) (Nat.le_of_ble_eq_true rfl)
  rw [lg_entry_eq]
  generalize (lg_sl ([.int 2, .int 1]) ++ List.replicate (2 - (lg_sl ([.int 2, .int 1])).length) Slot.unset).toArray = ls at hl ⊢
  have hl : lv_has ls 2 [(0, .int 2), (1, .int 1)] := hl
  obtain ⟨H, hH⟩ : ∃ H, H = s.heap := ⟨_, rfl⟩
  rw [← hH] at hP ⊢
  have hS : va_S A s.heap H [] := by rw [hH]; exact va_S.rf
  refine lv_iload_n hx hb dX8_bitOf_0 rfl (lv_at hl 0 rfl) ?_
  refine lv_iload_n hx hb dX8_bitOf_1 rfl (lv_at hl 1 rfl) ?_
  refine lv_ishr hx hb dX8_bitOf_2 ?_
  refine tp (y := 1) (by decide) ?_
  refine lv_iconst (v := 1) hx hb dX8_bitOf_3 (by decide) ?_
  refine lv_iand hx hb dX8_bitOf_4 ?_
  refine tp (y := 1) (by decide) ?_
  refine lv_iconst (v := 1) hx hb dX8_bitOf_5 (by decide) ?_
  refine lv_icmp_ne (tgt := 13) hx hb dX8_bitOf_6 (by decide) (fun c => absurd (by decide) c) (fun _ => ?_)
  refine lv_iconst (v := 1) hx hb dX8_bitOf_9 (by decide) ?_
  refine lv_goto (tgt := 14) hx hb dX8_bitOf_10 (by decide) ?_
  have hP9 := hP.sub (ws' := []) [] rfl
  have hD9 := hD.sub (ws' := []) [] (by decide) rfl
  exact W.zret (v := 1) hx hb hr rfl (fun t ht hW => ⟨⟨1, (), rfl, rfl, by rw [ht]; exact hP9, va_K.moved hW.alike hK, hD9⟩, hS.F ht⟩) hS.2.2 dX8_bitOf_14

set_option maxHeartbeats 4000000 in
set_option maxRecDepth 100000 in
theorem kkX8_bitOf_2_2 (l : Launch) (dC : Nat → ClassId) (dI : Nat → Nat → Nat) (cI cB cZ cR : ClassId) (sz : Nat) : Met l yX8_bitOf (.code yX8_bitOf cX8_bitOf 2 (some .boolean) :: wsL_law) ({ frames := 0, cells := 0, slots := 0, locals := 0 }) (zPc dC dI (zT cI cB cZ cR) [.int 2, .int 2] sz []) (va_Qi (fun (r : Int32) (_ : Unit) => r = 0) (fun _ : Unit => zB dC dI (zT cI cB cZ cR) (va_A [] sz) []) (va_A [] sz)) 0 0 (va_A [] sz) := by
  refine Met.ofW (cc := cX8_bitOf) (maxL := 2) (ret := (some .boolean)) (by decide) rfl ?_
  intro p e s m args below meth c s₁ B hml hv
  obtain ⟨rfl, hsz, hP, hK, hD0, hN⟩ := hv
  have hx := B.exec
  have hb := B.bytes
  have hr := B.returns
  have hts := atoms_spec (ws := (.code yX8_bitOf cX8_bitOf 2 (some .boolean) :: wsL_law)) B.pre
  have hown : s.vm.findClass RX8 = some m.cls := findClass_of_methodNamed B.named
  have hlocks := B.notSynchronized
  subst hsz
  have hD := hD0.self (sz := s.heap.size)
  generalize hAe : va_A [] s.heap.size = A at hD ⊢
  have hA : ∀ q : Nat, s.heap.size ≤ q → A q := fun q h => by rw [← hAe]; exact Or.inr h
  have hP : va_P (dC, dI) vwCl [] s.heap := hP
  have hl := lv_entry ([.int 2, .int 2]) (n := 2) (Nat.le_of_ble_eq_true rfl)
  rw [lg_entry_eq]
  generalize (lg_sl ([.int 2, .int 2]) ++ List.replicate (2 - (lg_sl ([.int 2, .int 2])).length) Slot.unset).toArray = ls at hl ⊢
  have hl : lv_has ls 2 [(0, .int 2), (1, .int 2)] := hl
  obtain ⟨H, hH⟩ : ∃ H, H = s.heap := ⟨_, rfl⟩
  rw [← hH] at hP ⊢
  have hS : va_S A s.heap H [] := by rw [hH]; exact va_S.rf
  refine lv_iload_n hx hb dX8_bitOf_0 rfl (lv_at hl 0 rfl) ?_
  refine lv_iload_n hx hb dX8_bitOf_1 rfl (lv_at hl 1 rfl) ?_
  refine lv_ishr hx hb dX8_bitOf_2 ?_
  refine tp (y := 0) (by decide) ?_
  refine lv_iconst (v := 1) hx hb dX8_bitOf_3 (by decide) ?_
  refine lv_iand hx hb dX8_bitOf_4 ?_
  refine tp (y := 0) (by decide) ?_
  refine lv_iconst (v := 1) hx hb dX8_bitOf_5 (by decide) ?_
  refine lv_icmp_ne (tgt := 13) hx hb dX8_bitOf_6 (by decide) (fun _ => ?_) (fun c => absurd c (by decide))
  refine lv_iconst (v := 0) hx hb dX8_bitOf_13 (by decide) ?_
  have hP9 := hP.sub (ws' := []) [] rfl
  have hD9 := hD.sub (ws' := []) [] (by decide) rfl
  exact W.zret (v := 0) hx hb hr rfl (fun t ht hW => ⟨⟨0, (), rfl, rfl, by rw [ht]; exact hP9, va_K.moved hW.alike hK, hD9⟩, hS.F ht⟩) hS.2.2 dX8_bitOf_14

set_option maxHeartbeats 4000000 in
set_option maxRecDepth 100000 in
theorem kkX8_bitOf_2_3 (l : Launch) (dC : Nat → ClassId) (dI : Nat → Nat → Nat) (cI cB cZ cR : ClassId) (sz : Nat) : Met l yX8_bitOf (.code yX8_bitOf cX8_bitOf 2 (some .boolean) :: wsL_law) ({ frames := 0, cells := 0, slots := 0, locals := 0 }) (zPc dC dI (zT cI cB cZ cR) [.int 2, .int 3] sz []) (va_Qi (fun (r : Int32) (_ : Unit) => r = 0) (fun _ : Unit => zB dC dI (zT cI cB cZ cR) (va_A [] sz) []) (va_A [] sz)) 0 0 (va_A [] sz) := by
  refine Met.ofW (cc := cX8_bitOf) (maxL := 2) (ret := (some .boolean)) (by decide) rfl ?_
  intro p e s m args below meth c s₁ B hml hv
  obtain ⟨rfl, hsz, hP, hK, hD0, hN⟩ := hv
  have hx := B.exec
  have hb := B.bytes
  have hr := B.returns
  have hts := atoms_spec (ws := (.code yX8_bitOf cX8_bitOf 2 (some .boolean) :: wsL_law)) B.pre
  have hown : s.vm.findClass RX8 = some m.cls := findClass_of_methodNamed B.named
  have hlocks := B.notSynchronized
  subst hsz
  have hD := hD0.self (sz := s.heap.size)
  generalize hAe : va_A [] s.heap.size = A at hD ⊢
  have hA : ∀ q : Nat, s.heap.size ≤ q → A q := fun q h => by rw [← hAe]; exact Or.inr h
  have hP : va_P (dC, dI) vwCl [] s.heap := hP
  have hl := lv_entry ([.int 2, .int 3]) (n := 2) (Nat.le_of_ble_eq_true rfl)
  rw [lg_entry_eq]
  generalize (lg_sl ([.int 2, .int 3]) ++ List.replicate (2 - (lg_sl ([.int 2, .int 3])).length) Slot.unset).toArray = ls at hl ⊢
  have hl : lv_has ls 2 [(0, .int 2), (1, .int 3)] := hl
  obtain ⟨H, hH⟩ : ∃ H, H = s.heap := ⟨_, rfl⟩
  rw [← hH] at hP ⊢
  have hS : va_S A s.heap H [] := by rw [hH]; exact va_S.rf
  refine lv_iload_n hx hb dX8_bitOf_0 rfl (lv_at hl 0 rfl) ?_
  refine lv_iload_n hx hb dX8_bitOf_1 rfl (lv_at hl 1 rfl) ?_
  refine lv_ishr hx hb dX8_bitOf_2 ?_
  refine tp (y := 0) (by decide) ?_
  refine lv_iconst (v := 1) hx hb dX8_bitOf_3 (by decide) ?_
  refine lv_iand hx hb dX8_bitOf_4 ?_
  refine tp (y := 0) (by decide) ?_
  refine lv_iconst (v := 1) hx hb dX8_bitOf_5 (by decide) ?_
  refine lv_icmp_ne (tgt := 13) hx hb dX8_bitOf_6 (by decide) (fun _ => ?_) (fun c => absurd c (by decide))
  refine lv_iconst (v := 0) hx hb dX8_bitOf_13 (by decide) ?_
  have hP9 := hP.sub (ws' := []) [] rfl
  have hD9 := hD.sub (ws' := []) [] (by decide) rfl
  exact W.zret (v := 0) hx hb hr rfl (fun t ht hW => ⟨⟨0, (), rfl, rfl, by rw [ht]; exact hP9, va_K.moved hW.alike hK, hD9⟩, hS.F ht⟩) hS.2.2 dX8_bitOf_14

set_option maxHeartbeats 4000000 in
set_option maxRecDepth 100000 in
theorem kkX8_bitOf_4_0 (l : Launch) (dC : Nat → ClassId) (dI : Nat → Nat → Nat) (cI cB cZ cR : ClassId) (sz : Nat) : Met l yX8_bitOf (.code yX8_bitOf cX8_bitOf 2 (some .boolean) :: wsL_law) ({ frames := 0, cells := 0, slots := 0, locals := 0 }) (zPc dC dI (zT cI cB cZ cR) [.int 4, .int 0] sz []) (va_Qi (fun (r : Int32) (_ : Unit) => r = 0) (fun _ : Unit => zB dC dI (zT cI cB cZ cR) (va_A [] sz) []) (va_A [] sz)) 0 0 (va_A [] sz) := by
  refine Met.ofW (cc := cX8_bitOf) (maxL := 2) (ret := (some .boolean)) (by decide) rfl ?_
  intro p e s m args below meth c s₁ B hml hv
  obtain ⟨rfl, hsz, hP, hK, hD0, hN⟩ := hv
  have hx := B.exec
  have hb := B.bytes
  have hr := B.returns
  have hts := atoms_spec (ws := (.code yX8_bitOf cX8_bitOf 2 (some .boolean) :: wsL_law)) B.pre
  have hown : s.vm.findClass RX8 = some m.cls := findClass_of_methodNamed B.named
  have hlocks := B.notSynchronized
  subst hsz
  have hD := hD0.self (sz := s.heap.size)
  generalize hAe : va_A [] s.heap.size = A at hD ⊢
  have hA : ∀ q : Nat, s.heap.size ≤ q → A q := fun q h => by rw [← hAe]; exact Or.inr h
  have hP : va_P (dC, dI) vwCl [] s.heap := hP
  have hl := lv_entry ([.int 4, .int 0]) (n := 2) (Nat.le_of_ble_eq_true rfl)
  rw [lg_entry_eq]
  generalize (lg_sl ([.int 4, .int 0]) ++ List.replicate (2 - (lg_sl ([.int 4, .int 0])).length) Slot.unset).toArray = ls at hl ⊢
  have hl : lv_has ls 2 [(0, .int 4), (1, .int 0)] := hl
  obtain ⟨H, hH⟩ : ∃ H, H = s.heap := ⟨_, rfl⟩
  rw [← hH] at hP ⊢
  have hS : va_S A s.heap H [] := by rw [hH]; exact va_S.rf
  refine lv_iload_n hx hb dX8_bitOf_0 rfl (lv_at hl 0 rfl) ?_
  refine lv_iload_n hx hb dX8_bitOf_1 rfl (lv_at hl 1 rfl) ?_
  refine lv_ishr hx hb dX8_bitOf_2 ?_
  refine tp (y := 4) (by decide) ?_
  refine lv_iconst (v := 1) hx hb dX8_bitOf_3 (by decide) ?_
  refine lv_iand hx hb dX8_bitOf_4 ?_
  refine tp (y := 0) (by decide) ?_
  refine lv_iconst (v := 1) hx hb dX8_bitOf_5 (by decide) ?_
  refine lv_icmp_ne (tgt := 13) hx hb dX8_bitOf_6 (by decide) (fun _ => ?_) (fun c => absurd c (by decide))
  refine lv_iconst (v := 0) hx hb dX8_bitOf_13 (by decide) ?_
  have hP9 := hP.sub (ws' := []) [] rfl
  have hD9 := hD.sub (ws' := []) [] (by decide) rfl
  exact W.zret (v := 0) hx hb hr rfl (fun t ht hW => ⟨⟨0, (), rfl, rfl, by rw [ht]; exact hP9, va_K.moved hW.alike hK, hD9⟩, hS.F ht⟩) hS.2.2 dX8_bitOf_14

set_option maxHeartbeats 4000000 in
set_option maxRecDepth 100000 in
theorem kkX8_bitOf_4_1 (l : Launch) (dC : Nat → ClassId) (dI : Nat → Nat → Nat) (cI cB cZ cR : ClassId) (sz : Nat) : Met l yX8_bitOf (.code yX8_bitOf cX8_bitOf 2 (some .boolean) :: wsL_law) ({ frames := 0, cells := 0, slots := 0, locals := 0 }) (zPc dC dI (zT cI cB cZ cR) [.int 4, .int 1] sz []) (va_Qi (fun (r : Int32) (_ : Unit) => r = 0) (fun _ : Unit => zB dC dI (zT cI cB cZ cR) (va_A [] sz) []) (va_A [] sz)) 0 0 (va_A [] sz) := by
  refine Met.ofW (cc := cX8_bitOf) (maxL := 2) (ret := (some .boolean)) (by decide) rfl ?_
  intro p e s m args below meth c s₁ B hml hv
  obtain ⟨rfl, hsz, hP, hK, hD0, hN⟩ := hv
  have hx := B.exec
  have hb := B.bytes
  have hr := B.returns
  have hts := atoms_spec (ws := (.code yX8_bitOf cX8_bitOf 2 (some .boolean) :: wsL_law)) B.pre
  have hown : s.vm.findClass RX8 = some m.cls := findClass_of_methodNamed B.named
  have hlocks := B.notSynchronized
  subst hsz
  have hD := hD0.self (sz := s.heap.size)
  generalize hAe : va_A [] s.heap.size = A at hD ⊢
  have hA : ∀ q : Nat, s.heap.size ≤ q → A q := fun q h => by rw [← hAe]; exact Or.inr h
  have hP : va_P (dC, dI) vwCl [] s.heap := hP
  have hl := lv_entry ([.int 4, .int 1]) (n := 2) (Nat.le_of_ble_eq_true rfl)
  rw [lg_entry_eq]
  generalize (lg_sl ([.int 4, .int 1]) ++ List.replicate (2 - (lg_sl ([.int 4, .int 1])).length) Slot.unset).toArray = ls at hl ⊢
  have hl : lv_has ls 2 [(0, .int 4), (1, .int 1)] := hl
  obtain ⟨H, hH⟩ : ∃ H, H = s.heap := ⟨_, rfl⟩
  rw [← hH] at hP ⊢
  have hS : va_S A s.heap H [] := by rw [hH]; exact va_S.rf
  refine lv_iload_n hx hb dX8_bitOf_0 rfl (lv_at hl 0 rfl) ?_
  refine lv_iload_n hx hb dX8_bitOf_1 rfl (lv_at hl 1 rfl) ?_
  refine lv_ishr hx hb dX8_bitOf_2 ?_
  refine tp (y := 2) (by decide) ?_
  refine lv_iconst (v := 1) hx hb dX8_bitOf_3 (by decide) ?_
  refine lv_iand hx hb dX8_bitOf_4 ?_
  refine tp (y := 0) (by decide) ?_
  refine lv_iconst (v := 1) hx hb dX8_bitOf_5 (by decide) ?_
  refine lv_icmp_ne (tgt := 13) hx hb dX8_bitOf_6 (by decide) (fun _ => ?_) (fun c => absurd c (by decide))
  refine lv_iconst (v := 0) hx hb dX8_bitOf_13 (by decide) ?_
  have hP9 := hP.sub (ws' := []) [] rfl
  have hD9 := hD.sub (ws' := []) [] (by decide) rfl
  exact W.zret (v := 0) hx hb hr rfl (fun t ht hW => ⟨⟨0, (), rfl, rfl, by rw [ht]; exact hP9, va_K.moved hW.alike hK, hD9⟩, hS.F ht⟩) hS.2.2 dX8_bitOf_14

set_option maxHeartbeats 4000000 in
set_option maxRecDepth 100000 in
theorem kkX8_bitOf_4_2 (l : Launch) (dC : Nat → ClassId) (dI : Nat → Nat → Nat) (cI cB cZ cR : ClassId) (sz : Nat) : Met l yX8_bitOf (.code yX8_bitOf cX8_bitOf 2 (some .boolean) :: wsL_law) ({ frames := 0, cells := 0, slots := 0, locals := 0 }) (zPc dC dI (zT cI cB cZ cR) [.int 4, .int 2] sz []) (va_Qi (fun (r : Int32) (_ : Unit) => r = 1) (fun _ : Unit => zB dC dI (zT cI cB cZ cR) (va_A [] sz) []) (va_A [] sz)) 0 0 (va_A [] sz) := by
  refine Met.ofW (cc := cX8_bitOf) (maxL := 2) (ret := (some .boolean)) (by decide) rfl ?_
  intro p e s m args below meth c s₁ B hml hv
  obtain ⟨rfl, hsz, hP, hK, hD0, hN⟩ := hv
  have hx := B.exec
  have hb := B.bytes
  have hr := B.returns
  have hts := atoms_spec (ws := (.code yX8_bitOf cX8_bitOf 2 (some .boolean) :: wsL_law)) B.pre
  have hown : s.vm.findClass RX8 = some m.cls := findClass_of_methodNamed B.named
  have hlocks := B.notSynchronized
  subst hsz
  have hD := hD0.self (sz := s.heap.size)
  generalize hAe : va_A [] s.heap.size = A at hD ⊢
  have hA : ∀ q : Nat, s.heap.size ≤ q → A q := fun q h => by rw [← hAe]; exact Or.inr h
  have hP : va_P (dC, dI) vwCl [] s.heap := hP
  have hl := lv_entry ([.int 4, .int 2]) (n := 2) (Nat.le_of_ble_eq_true rfl)
  rw [lg_entry_eq]
  generalize (lg_sl ([.int 4, .int 2]) ++ List.replicate (2 - (lg_sl ([.int 4, .int 2])).length) Slot.unset).toArray = ls at hl ⊢
  have hl : lv_has ls 2 [(0, .int 4), (1, .int 2)] := hl
  obtain ⟨H, hH⟩ : ∃ H, H = s.heap := ⟨_, rfl⟩
  rw [← hH] at hP ⊢
  have hS : va_S A s.heap H [] := by rw [hH]; exact va_S.rf
  refine lv_iload_n hx hb dX8_bitOf_0 rfl (lv_at hl 0 rfl) ?_
  refine lv_iload_n hx hb dX8_bitOf_1 rfl (lv_at hl 1 rfl) ?_
  refine lv_ishr hx hb dX8_bitOf_2 ?_
  refine tp (y := 1) (by decide) ?_
  refine lv_iconst (v := 1) hx hb dX8_bitOf_3 (by decide) ?_
  refine lv_iand hx hb dX8_bitOf_4 ?_
  refine tp (y := 1) (by decide) ?_
  refine lv_iconst (v := 1) hx hb dX8_bitOf_5 (by decide) ?_
  refine lv_icmp_ne (tgt := 13) hx hb dX8_bitOf_6 (by decide) (fun c => absurd (by decide) c) (fun _ => ?_)
  refine lv_iconst (v := 1) hx hb dX8_bitOf_9 (by decide) ?_
  refine lv_goto (tgt := 14) hx hb dX8_bitOf_10 (by decide) ?_
  have hP9 := hP.sub (ws' := []) [] rfl
  have hD9 := hD.sub (ws' := []) [] (by decide) rfl
  exact W.zret (v := 1) hx hb hr rfl (fun t ht hW => ⟨⟨1, (), rfl, rfl, by rw [ht]; exact hP9, va_K.moved hW.alike hK, hD9⟩, hS.F ht⟩) hS.2.2 dX8_bitOf_14

set_option maxHeartbeats 4000000 in
set_option maxRecDepth 100000 in
theorem kkX8_bitOf_4_3 (l : Launch) (dC : Nat → ClassId) (dI : Nat → Nat → Nat) (cI cB cZ cR : ClassId) (sz : Nat) : Met l yX8_bitOf (.code yX8_bitOf cX8_bitOf 2 (some .boolean) :: wsL_law) ({ frames := 0, cells := 0, slots := 0, locals := 0 }) (zPc dC dI (zT cI cB cZ cR) [.int 4, .int 3] sz []) (va_Qi (fun (r : Int32) (_ : Unit) => r = 0) (fun _ : Unit => zB dC dI (zT cI cB cZ cR) (va_A [] sz) []) (va_A [] sz)) 0 0 (va_A [] sz) := by
  refine Met.ofW (cc := cX8_bitOf) (maxL := 2) (ret := (some .boolean)) (by decide) rfl ?_
  intro p e s m args below meth c s₁ B hml hv
  obtain ⟨rfl, hsz, hP, hK, hD0, hN⟩ := hv
  have hx := B.exec
  have hb := B.bytes
  have hr := B.returns
  have hts := atoms_spec (ws := (.code yX8_bitOf cX8_bitOf 2 (some .boolean) :: wsL_law)) B.pre
  have hown : s.vm.findClass RX8 = some m.cls := findClass_of_methodNamed B.named
  have hlocks := B.notSynchronized
  subst hsz
  have hD := hD0.self (sz := s.heap.size)
  generalize hAe : va_A [] s.heap.size = A at hD ⊢
  have hA : ∀ q : Nat, s.heap.size ≤ q → A q := fun q h => by rw [← hAe]; exact Or.inr h
  have hP : va_P (dC, dI) vwCl [] s.heap := hP
  have hl := lv_entry ([.int 4, .int 3]) (n := 2) (Nat.le_of_ble_eq_true rfl)
  rw [lg_entry_eq]
  generalize (lg_sl ([.int 4, .int 3]) ++ List.replicate (2 - (lg_sl ([.int 4, .int 3])).length) Slot.unset).toArray = ls at hl ⊢
  have hl : lv_has ls 2 [(0, .int 4), (1, .int 3)] := hl
  obtain ⟨H, hH⟩ : ∃ H, H = s.heap := ⟨_, rfl⟩
  rw [← hH] at hP ⊢
  have hS : va_S A s.heap H [] := by rw [hH]; exact va_S.rf
  refine lv_iload_n hx hb dX8_bitOf_0 rfl (lv_at hl 0 rfl) ?_
  refine lv_iload_n hx hb dX8_bitOf_1 rfl (lv_at hl 1 rfl) ?_
  refine lv_ishr hx hb dX8_bitOf_2 ?_
  refine tp (y := 0) (by decide) ?_
  refine lv_iconst (v := 1) hx hb dX8_bitOf_3 (by decide) ?_
  refine lv_iand hx hb dX8_bitOf_4 ?_
  refine tp (y := 0) (by decide) ?_
  refine lv_iconst (v := 1) hx hb dX8_bitOf_5 (by decide) ?_
  refine lv_icmp_ne (tgt := 13) hx hb dX8_bitOf_6 (by decide) (fun _ => ?_) (fun c => absurd c (by decide))
  refine lv_iconst (v := 0) hx hb dX8_bitOf_13 (by decide) ?_
  have hP9 := hP.sub (ws' := []) [] rfl
  have hD9 := hD.sub (ws' := []) [] (by decide) rfl
  exact W.zret (v := 0) hx hb hr rfl (fun t ht hW => ⟨⟨0, (), rfl, rfl, by rw [ht]; exact hP9, va_K.moved hW.alike hK, hD9⟩, hS.F ht⟩) hS.2.2 dX8_bitOf_14

set_option maxHeartbeats 4000000 in
set_option maxRecDepth 100000 in
theorem kkX8_bitOf_8_0 (l : Launch) (dC : Nat → ClassId) (dI : Nat → Nat → Nat) (cI cB cZ cR : ClassId) (sz : Nat) : Met l yX8_bitOf (.code yX8_bitOf cX8_bitOf 2 (some .boolean) :: wsL_law) ({ frames := 0, cells := 0, slots := 0, locals := 0 }) (zPc dC dI (zT cI cB cZ cR) [.int 8, .int 0] sz []) (va_Qi (fun (r : Int32) (_ : Unit) => r = 0) (fun _ : Unit => zB dC dI (zT cI cB cZ cR) (va_A [] sz) []) (va_A [] sz)) 0 0 (va_A [] sz) := by
  refine Met.ofW (cc := cX8_bitOf) (maxL := 2) (ret := (some .boolean)) (by decide) rfl ?_
  intro p e s m args below meth c s₁ B hml hv
  obtain ⟨rfl, hsz, hP, hK, hD0, hN⟩ := hv
  have hx := B.exec
  have hb := B.bytes
  have hr := B.returns
  have hts := atoms_spec (ws := (.code yX8_bitOf cX8_bitOf 2 (some .boolean) :: wsL_law)) B.pre
  have hown : s.vm.findClass RX8 = some m.cls := findClass_of_methodNamed B.named
  have hlocks := B.notSynchronized
  subst hsz
  have hD := hD0.self (sz := s.heap.size)
  generalize hAe : va_A [] s.heap.size = A at hD ⊢
  have hA : ∀ q : Nat, s.heap.size ≤ q → A q := fun q h => by rw [← hAe]; exact Or.inr h
  have hP : va_P (dC, dI) vwCl [] s.heap := hP
  have hl := lv_entry ([.int 8, .int 0]) (n := 2) (Nat.le_of_ble_eq_true rfl)
  rw [lg_entry_eq]
  generalize (lg_sl ([.int 8, .int 0]) ++ List.replicate (2 - (lg_sl ([.int 8, .int 0])).length) Slot.unset).toArray = ls at hl ⊢
  have hl : lv_has ls 2 [(0, .int 8), (1, .int 0)] := hl
  obtain ⟨H, hH⟩ : ∃ H, H = s.heap := ⟨_, rfl⟩
  rw [← hH] at hP ⊢
  have hS : va_S A s.heap H [] := by rw [hH]; exact va_S.rf
  refine lv_iload_n hx hb dX8_bitOf_0 rfl (lv_at hl 0 rfl) ?_
  refine lv_iload_n hx hb dX8_bitOf_1 rfl (lv_at hl 1 rfl) ?_
  refine lv_ishr hx hb dX8_bitOf_2 ?_
  refine tp (y := 8) (by decide) ?_
  refine lv_iconst (v := 1) hx hb dX8_bitOf_3 (by decide) ?_
  refine lv_iand hx hb dX8_bitOf_4 ?_
  refine tp (y := 0) (by decide) ?_
  refine lv_iconst (v := 1) hx hb dX8_bitOf_5 (by decide) ?_
  refine lv_icmp_ne (tgt := 13) hx hb dX8_bitOf_6 (by decide) (fun _ => ?_) (fun c => absurd c (by decide))
  refine lv_iconst (v := 0) hx hb dX8_bitOf_13 (by decide) ?_
  have hP9 := hP.sub (ws' := []) [] rfl
  have hD9 := hD.sub (ws' := []) [] (by decide) rfl
  exact W.zret (v := 0) hx hb hr rfl (fun t ht hW => ⟨⟨0, (), rfl, rfl, by rw [ht]; exact hP9, va_K.moved hW.alike hK, hD9⟩, hS.F ht⟩) hS.2.2 dX8_bitOf_14

set_option maxHeartbeats 4000000 in
set_option maxRecDepth 100000 in
theorem kkX8_bitOf_8_1 (l : Launch) (dC : Nat → ClassId) (dI : Nat → Nat → Nat) (cI cB cZ cR : ClassId) (sz : Nat) : Met l yX8_bitOf (.code yX8_bitOf cX8_bitOf 2 (some .boolean) :: wsL_law) ({ frames := 0, cells := 0, slots := 0, locals := 0 }) (zPc dC dI (zT cI cB cZ cR) [.int 8, .int 1] sz []) (va_Qi (fun (r : Int32) (_ : Unit) => r = 0) (fun _ : Unit => zB dC dI (zT cI cB cZ cR) (va_A [] sz) []) (va_A [] sz)) 0 0 (va_A [] sz) := by
  refine Met.ofW (cc := cX8_bitOf) (maxL := 2) (ret := (some .boolean)) (by decide) rfl ?_
  intro p e s m args below meth c s₁ B hml hv
  obtain ⟨rfl, hsz, hP, hK, hD0, hN⟩ := hv
  have hx := B.exec
  have hb := B.bytes
  have hr := B.returns
  have hts := atoms_spec (ws := (.code yX8_bitOf cX8_bitOf 2 (some .boolean) :: wsL_law)) B.pre
  have hown : s.vm.findClass RX8 = some m.cls := findClass_of_methodNamed B.named
  have hlocks := B.notSynchronized
  subst hsz
  have hD := hD0.self (sz := s.heap.size)
  generalize hAe : va_A [] s.heap.size = A at hD ⊢
  have hA : ∀ q : Nat, s.heap.size ≤ q → A q := fun q h => by rw [← hAe]; exact Or.inr h
  have hP : va_P (dC, dI) vwCl [] s.heap := hP
  have hl := lv_entry ([.int 8, .int 1]) (n := 2) (Nat.le_of_ble_eq_true rfl)
  rw [lg_entry_eq]
  generalize (lg_sl ([.int 8, .int 1]) ++ List.replicate (2 - (lg_sl ([.int 8, .int 1])).length) Slot.unset).toArray = ls at hl ⊢
  have hl : lv_has ls 2 [(0, .int 8), (1, .int 1)] := hl
  obtain ⟨H, hH⟩ : ∃ H, H = s.heap := ⟨_, rfl⟩
  rw [← hH] at hP ⊢
  have hS : va_S A s.heap H [] := by rw [hH]; exact va_S.rf
  refine lv_iload_n hx hb dX8_bitOf_0 rfl (lv_at hl 0 rfl) ?_
  refine lv_iload_n hx hb dX8_bitOf_1 rfl (lv_at hl 1 rfl) ?_
  refine lv_ishr hx hb dX8_bitOf_2 ?_
  refine tp (y := 4) (by decide) ?_
  refine lv_iconst (v := 1) hx hb dX8_bitOf_3 (by decide) ?_
  refine lv_iand hx hb dX8_bitOf_4 ?_
  refine tp (y := 0) (by decide) ?_
  refine lv_iconst (v := 1) hx hb dX8_bitOf_5 (by decide) ?_
  refine lv_icmp_ne (tgt := 13) hx hb dX8_bitOf_6 (by decide) (fun _ => ?_) (fun c => absurd c (by decide))
  refine lv_iconst (v := 0) hx hb dX8_bitOf_13 (by decide) ?_
  have hP9 := hP.sub (ws' := []) [] rfl
  have hD9 := hD.sub (ws' := []) [] (by decide) rfl
  exact W.zret (v := 0) hx hb hr rfl (fun t ht hW => ⟨⟨0, (), rfl, rfl, by rw [ht]; exact hP9, va_K.moved hW.alike hK, hD9⟩, hS.F ht⟩) hS.2.2 dX8_bitOf_14

set_option maxHeartbeats 4000000 in
set_option maxRecDepth 100000 in
theorem kkX8_bitOf_8_2 (l : Launch) (dC : Nat → ClassId) (dI : Nat → Nat → Nat) (cI cB cZ cR : ClassId) (sz : Nat) : Met l yX8_bitOf (.code yX8_bitOf cX8_bitOf 2 (some .boolean) :: wsL_law) ({ frames := 0, cells := 0, slots := 0, locals := 0 }) (zPc dC dI (zT cI cB cZ cR) [.int 8, .int 2] sz []) (va_Qi (fun (r : Int32) (_ : Unit) => r = 0) (fun _ : Unit => zB dC dI (zT cI cB cZ cR) (va_A [] sz) []) (va_A [] sz)) 0 0 (va_A [] sz) := by
  refine Met.ofW (cc := cX8_bitOf) (maxL := 2) (ret := (some .boolean)) (by decide) rfl ?_
  intro p e s m args below meth c s₁ B hml hv
  obtain ⟨rfl, hsz, hP, hK, hD0, hN⟩ := hv
  have hx := B.exec
  have hb := B.bytes
  have hr := B.returns
  have hts := atoms_spec (ws := (.code yX8_bitOf cX8_bitOf 2 (some .boolean) :: wsL_law)) B.pre
  have hown : s.vm.findClass RX8 = some m.cls := findClass_of_methodNamed B.named
  have hlocks := B.notSynchronized
  subst hsz
  have hD := hD0.self (sz := s.heap.size)
  generalize hAe : va_A [] s.heap.size = A at hD ⊢
  have hA : ∀ q : Nat, s.heap.size ≤ q → A q := fun q h => by rw [← hAe]; exact Or.inr h
  have hP : va_P (dC, dI) vwCl [] s.heap := hP
  have hl := lv_entry ([.int 8, .int 2]) (n := 2) (Nat.le_of_ble_eq_true rfl)
  rw [lg_entry_eq]
  generalize (lg_sl ([.int 8, .int 2]) ++ List.replicate (2 - (lg_sl ([.int 8, .int 2])).length) Slot.unset).toArray = ls at hl ⊢
  have hl : lv_has ls 2 [(0, .int 8), (1, .int 2)] := hl
  obtain ⟨H, hH⟩ : ∃ H, H = s.heap := ⟨_, rfl⟩
  rw [← hH] at hP ⊢
  have hS : va_S A s.heap H [] := by rw [hH]; exact va_S.rf
  refine lv_iload_n hx hb dX8_bitOf_0 rfl (lv_at hl 0 rfl) ?_
  refine lv_iload_n hx hb dX8_bitOf_1 rfl (lv_at hl 1 rfl) ?_
  refine lv_ishr hx hb dX8_bitOf_2 ?_
  refine tp (y := 2) (by decide) ?_
  refine lv_iconst (v := 1) hx hb dX8_bitOf_3 (by decide) ?_
  refine lv_iand hx hb dX8_bitOf_4 ?_
  refine tp (y := 0) (by decide) ?_
  refine lv_iconst (v := 1) hx hb dX8_bitOf_5 (by decide) ?_
  refine lv_icmp_ne (tgt := 13) hx hb dX8_bitOf_6 (by decide) (fun _ => ?_) (fun c => absurd c (by decide))
  refine lv_iconst (v := 0) hx hb dX8_bitOf_13 (by decide) ?_
  have hP9 := hP.sub (ws' := []) [] rfl
  have hD9 := hD.sub (ws' := []) [] (by decide) rfl
  exact W.zret (v := 0) hx hb hr rfl (fun t ht hW => ⟨⟨0, (), rfl, rfl, by rw [ht]; exact hP9, va_K.moved hW.alike hK, hD9⟩, hS.F ht⟩) hS.2.2 dX8_bitOf_14

set_option maxHeartbeats 4000000 in
set_option maxRecDepth 100000 in
theorem kkX8_bitOf_8_3 (l : Launch) (dC : Nat → ClassId) (dI : Nat → Nat → Nat) (cI cB cZ cR : ClassId) (sz : Nat) : Met l yX8_bitOf (.code yX8_bitOf cX8_bitOf 2 (some .boolean) :: wsL_law) ({ frames := 0, cells := 0, slots := 0, locals := 0 }) (zPc dC dI (zT cI cB cZ cR) [.int 8, .int 3] sz []) (va_Qi (fun (r : Int32) (_ : Unit) => r = 1) (fun _ : Unit => zB dC dI (zT cI cB cZ cR) (va_A [] sz) []) (va_A [] sz)) 0 0 (va_A [] sz) := by
  refine Met.ofW (cc := cX8_bitOf) (maxL := 2) (ret := (some .boolean)) (by decide) rfl ?_
  intro p e s m args below meth c s₁ B hml hv
  obtain ⟨rfl, hsz, hP, hK, hD0, hN⟩ := hv
  have hx := B.exec
  have hb := B.bytes
  have hr := B.returns
  have hts := atoms_spec (ws := (.code yX8_bitOf cX8_bitOf 2 (some .boolean) :: wsL_law)) B.pre
  have hown : s.vm.findClass RX8 = some m.cls := findClass_of_methodNamed B.named
  have hlocks := B.notSynchronized
  subst hsz
  have hD := hD0.self (sz := s.heap.size)
  generalize hAe : va_A [] s.heap.size = A at hD ⊢
  have hA : ∀ q : Nat, s.heap.size ≤ q → A q := fun q h => by rw [← hAe]; exact Or.inr h
  have hP : va_P (dC, dI) vwCl [] s.heap := hP
  have hl := lv_entry ([.int 8, .int 3]) (n := 2) (Nat.le_of_ble_eq_true rfl)
  rw [lg_entry_eq]
  generalize (lg_sl ([.int 8, .int 3]) ++ List.replicate (2 - (lg_sl ([.int 8, .int 3])).length) Slot.unset).toArray = ls at hl ⊢
  have hl : lv_has ls 2 [(0, .int 8), (1, .int 3)] := hl
  obtain ⟨H, hH⟩ : ∃ H, H = s.heap := ⟨_, rfl⟩
  rw [← hH] at hP ⊢
  have hS : va_S A s.heap H [] := by rw [hH]; exact va_S.rf
  refine lv_iload_n hx hb dX8_bitOf_0 rfl (lv_at hl 0 rfl) ?_
  refine lv_iload_n hx hb dX8_bitOf_1 rfl (lv_at hl 1 rfl) ?_
  refine lv_ishr hx hb dX8_bitOf_2 ?_
  refine tp (y := 1) (by decide) ?_
  refine lv_iconst (v := 1) hx hb dX8_bitOf_3 (by decide) ?_
  refine lv_iand hx hb dX8_bitOf_4 ?_
  refine tp (y := 1) (by decide) ?_
  refine lv_iconst (v := 1) hx hb dX8_bitOf_5 (by decide) ?_
  refine lv_icmp_ne (tgt := 13) hx hb dX8_bitOf_6 (by decide) (fun c => absurd (by decide) c) (fun _ => ?_)
  refine lv_iconst (v := 1) hx hb dX8_bitOf_9 (by decide) ?_
  refine lv_goto (tgt := 14) hx hb dX8_bitOf_10 (by decide) ?_
  have hP9 := hP.sub (ws' := []) [] rfl
  have hD9 := hD.sub (ws' := []) [] (by decide) rfl
  exact W.zret (v := 1) hx hb hr rfl (fun t ht hW => ⟨⟨1, (), rfl, rfl, by rw [ht]; exact hP9, va_K.moved hW.alike hK, hD9⟩, hS.F ht⟩) hS.2.2 dX8_bitOf_14

set_option maxHeartbeats 4000000 in
set_option maxRecDepth 100000 in
theorem kkX8_bitOf_0_3 (l : Launch) (dC : Nat → ClassId) (dI : Nat → Nat → Nat) (cI cB cZ cR : ClassId) (sz : Nat) : Met l yX8_bitOf (.code yX8_bitOf cX8_bitOf 2 (some .boolean) :: wsL_law) ({ frames := 0, cells := 0, slots := 0, locals := 0 }) (zPc dC dI (zT cI cB cZ cR) [.int 0, .int 3] sz []) (va_Qi (fun (r : Int32) (_ : Unit) => r = 0) (fun _ : Unit => zB dC dI (zT cI cB cZ cR) (va_A [] sz) []) (va_A [] sz)) 0 0 (va_A [] sz) := by
  refine Met.ofW (cc := cX8_bitOf) (maxL := 2) (ret := (some .boolean)) (by decide) rfl ?_
  intro p e s m args below meth c s₁ B hml hv
  obtain ⟨rfl, hsz, hP, hK, hD0, hN⟩ := hv
  have hx := B.exec
  have hb := B.bytes
  have hr := B.returns
  have hts := atoms_spec (ws := (.code yX8_bitOf cX8_bitOf 2 (some .boolean) :: wsL_law)) B.pre
  have hown : s.vm.findClass RX8 = some m.cls := findClass_of_methodNamed B.named
  have hlocks := B.notSynchronized
  subst hsz
  have hD := hD0.self (sz := s.heap.size)
  generalize hAe : va_A [] s.heap.size = A at hD ⊢
  have hA : ∀ q : Nat, s.heap.size ≤ q → A q := fun q h => by rw [← hAe]; exact Or.inr h
  have hP : va_P (dC, dI) vwCl [] s.heap := hP
  have hl := lv_entry ([.int 0, .int 3]) (n := 2) (Nat.le_of_ble_eq_true rfl)
  rw [lg_entry_eq]
  generalize (lg_sl ([.int 0, .int 3]) ++ List.replicate (2 - (lg_sl ([.int 0, .int 3])).length) Slot.unset).toArray = ls at hl ⊢
  have hl : lv_has ls 2 [(0, .int 0), (1, .int 3)] := hl
  obtain ⟨H, hH⟩ : ∃ H, H = s.heap := ⟨_, rfl⟩
  rw [← hH] at hP ⊢
  have hS : va_S A s.heap H [] := by rw [hH]; exact va_S.rf
  refine lv_iload_n hx hb dX8_bitOf_0 rfl (lv_at hl 0 rfl) ?_
  refine lv_iload_n hx hb dX8_bitOf_1 rfl (lv_at hl 1 rfl) ?_
  refine lv_ishr hx hb dX8_bitOf_2 ?_
  refine tp (y := 0) (by decide) ?_
  refine lv_iconst (v := 1) hx hb dX8_bitOf_3 (by decide) ?_
  refine lv_iand hx hb dX8_bitOf_4 ?_
  refine tp (y := 0) (by decide) ?_
  refine lv_iconst (v := 1) hx hb dX8_bitOf_5 (by decide) ?_
  refine lv_icmp_ne (tgt := 13) hx hb dX8_bitOf_6 (by decide) (fun _ => ?_) (fun c => absurd c (by decide))
  refine lv_iconst (v := 0) hx hb dX8_bitOf_13 (by decide) ?_
  have hP9 := hP.sub (ws' := []) [] rfl
  have hD9 := hD.sub (ws' := []) [] (by decide) rfl
  exact W.zret (v := 0) hx hb hr rfl (fun t ht hW => ⟨⟨0, (), rfl, rfl, by rw [ht]; exact hP9, va_K.moved hW.alike hK, hD9⟩, hS.F ht⟩) hS.2.2 dX8_bitOf_14

set_option maxHeartbeats 4000000 in
set_option maxRecDepth 100000 in
theorem kkX8_at_c00 (l : Launch) (dC : Nat → ClassId) (dI : Nat → Nat → Nat) (cI cB cZ cR : ClassId) (sz : Nat) : Met l yX8_at (.code yX8_at cX8_at 3 (some .int) :: wsL_law) ({ frames := 0, cells := 0, slots := 0, locals := 0 }) (zPc dC dI (zT cI cB cZ cR) [.int 0, .int 0, .int 0] sz []) (va_Qi (fun (r : Int32) (_ : Unit) => r = 24) (fun _ : Unit => zB dC dI (zT cI cB cZ cR) (va_A [] sz) []) (va_A [] sz)) 0 0 (va_A [] sz) := by
  refine Met.ofW (cc := cX8_at) (maxL := 3) (ret := (some .int)) (by decide) rfl ?_
  intro p e s m args below meth c s₁ B hml hv
  obtain ⟨rfl, hsz, hP, hK, hD0, hN⟩ := hv
  have hx := B.exec
  have hb := B.bytes
  have hr := B.returns
  have hts := atoms_spec (ws := (.code yX8_at cX8_at 3 (some .int) :: wsL_law)) B.pre
  have hown : s.vm.findClass RX8 = some m.cls := findClass_of_methodNamed B.named
  have hlocks := B.notSynchronized
  subst hsz
  have hD := hD0.self (sz := s.heap.size)
  generalize hAe : va_A [] s.heap.size = A at hD ⊢
  have hA : ∀ q : Nat, s.heap.size ≤ q → A q := fun q h => by rw [← hAe]; exact Or.inr h
  have hP : va_P (dC, dI) vwCl [] s.heap := hP
  have hl := lv_entry ([.int 0, .int 0, .int 0]) (n := 3) (Nat.le_of_ble_eq_true rfl)
  rw [lg_entry_eq]
  generalize (lg_sl ([.int 0, .int 0, .int 0]) ++ List.replicate (3 - (lg_sl ([.int 0, .int 0, .int 0])).length) Slot.unset).toArray = ls at hl ⊢
  have hl : lv_has ls 3 [(0, .int 0), (1, .int 0), (2, .int 0)] := hl
  obtain ⟨H, hH⟩ : ∃ H, H = s.heap := ⟨_, rfl⟩
  rw [← hH] at hP ⊢
  have hS : va_S A s.heap H [] := by rw [hH]; exact va_S.rf
  refine lv_bipush (v := 24) hx hb dX8_at_0 (by decide) ?_
  refine lv_bipush (v := 24) hx hb dX8_at_2 (by decide) ?_
  refine lv_iload_n hx hb dX8_at_4 rfl (lv_at hl 0 rfl) ?_
  refine lv_imul hx hb dX8_at_5 ?_
  refine tp (y := 0) (by decide) ?_
  refine lv_iadd hx hb dX8_at_6 ?_
  refine tp (y := 24) (by decide) ?_
  refine lv_iconst (v := 3) hx hb dX8_at_7 (by decide) ?_
  refine lv_iload_n hx hb dX8_at_8 rfl (lv_at hl 1 rfl) ?_
  refine lv_imul hx hb dX8_at_9 ?_
  refine tp (y := 0) (by decide) ?_
  refine lv_iadd hx hb dX8_at_10 ?_
  refine tp (y := 24) (by decide) ?_
  refine lv_iload_n hx hb dX8_at_11 rfl (lv_at hl 2 rfl) ?_
  refine lv_iadd hx hb dX8_at_12 ?_
  refine tp (y := 24) (by decide) ?_
  have hP9 := hP.sub (ws' := []) [] rfl
  have hD9 := hD.sub (ws' := []) [] (by decide) rfl
  exact W.iret (v := 24) hx hb hr (fun t ht hW => ⟨⟨24, (), rfl, rfl, by rw [ht]; exact hP9, va_K.moved hW.alike hK, hD9⟩, hS.F ht⟩) hS.2.2 dX8_at_13

set_option maxHeartbeats 4000000 in
set_option maxRecDepth 100000 in
theorem kkX8_at_c01 (l : Launch) (dC : Nat → ClassId) (dI : Nat → Nat → Nat) (cI cB cZ cR : ClassId) (sz : Nat) : Met l yX8_at (.code yX8_at cX8_at 3 (some .int) :: wsL_law) ({ frames := 0, cells := 0, slots := 0, locals := 0 }) (zPc dC dI (zT cI cB cZ cR) [.int 0, .int 0, .int 1] sz []) (va_Qi (fun (r : Int32) (_ : Unit) => r = 25) (fun _ : Unit => zB dC dI (zT cI cB cZ cR) (va_A [] sz) []) (va_A [] sz)) 0 0 (va_A [] sz) := by
  refine Met.ofW (cc := cX8_at) (maxL := 3) (ret := (some .int)) (by decide) rfl ?_
  intro p e s m args below meth c s₁ B hml hv
  obtain ⟨rfl, hsz, hP, hK, hD0, hN⟩ := hv
  have hx := B.exec
  have hb := B.bytes
  have hr := B.returns
  have hts := atoms_spec (ws := (.code yX8_at cX8_at 3 (some .int) :: wsL_law)) B.pre
  have hown : s.vm.findClass RX8 = some m.cls := findClass_of_methodNamed B.named
  have hlocks := B.notSynchronized
  subst hsz
  have hD := hD0.self (sz := s.heap.size)
  generalize hAe : va_A [] s.heap.size = A at hD ⊢
  have hA : ∀ q : Nat, s.heap.size ≤ q → A q := fun q h => by rw [← hAe]; exact Or.inr h
  have hP : va_P (dC, dI) vwCl [] s.heap := hP
  have hl := lv_entry ([.int 0, .int 0, .int 1]) (n := 3) (Nat.le_of_ble_eq_true rfl)
  rw [lg_entry_eq]
  generalize (lg_sl ([.int 0, .int 0, .int 1]) ++ List.replicate (3 - (lg_sl ([.int 0, .int 0, .int 1])).length) Slot.unset).toArray = ls at hl ⊢
  have hl : lv_has ls 3 [(0, .int 0), (1, .int 0), (2, .int 1)] := hl
  obtain ⟨H, hH⟩ : ∃ H, H = s.heap := ⟨_, rfl⟩
  rw [← hH] at hP ⊢
  have hS : va_S A s.heap H [] := by rw [hH]; exact va_S.rf
  refine lv_bipush (v := 24) hx hb dX8_at_0 (by decide) ?_
  refine lv_bipush (v := 24) hx hb dX8_at_2 (by decide) ?_
  refine lv_iload_n hx hb dX8_at_4 rfl (lv_at hl 0 rfl) ?_
  refine lv_imul hx hb dX8_at_5 ?_
  refine tp (y := 0) (by decide) ?_
  refine lv_iadd hx hb dX8_at_6 ?_
  refine tp (y := 24) (by decide) ?_
  refine lv_iconst (v := 3) hx hb dX8_at_7 (by decide) ?_
  refine lv_iload_n hx hb dX8_at_8 rfl (lv_at hl 1 rfl) ?_
  refine lv_imul hx hb dX8_at_9 ?_
  refine tp (y := 0) (by decide) ?_
  refine lv_iadd hx hb dX8_at_10 ?_
  refine tp (y := 24) (by decide) ?_
  refine lv_iload_n hx hb dX8_at_11 rfl (lv_at hl 2 rfl) ?_
  refine lv_iadd hx hb dX8_at_12 ?_
  refine tp (y := 25) (by decide) ?_
  have hP9 := hP.sub (ws' := []) [] rfl
  have hD9 := hD.sub (ws' := []) [] (by decide) rfl
  exact W.iret (v := 25) hx hb hr (fun t ht hW => ⟨⟨25, (), rfl, rfl, by rw [ht]; exact hP9, va_K.moved hW.alike hK, hD9⟩, hS.F ht⟩) hS.2.2 dX8_at_13

set_option maxHeartbeats 4000000 in
set_option maxRecDepth 100000 in
theorem kkX8_at_c02 (l : Launch) (dC : Nat → ClassId) (dI : Nat → Nat → Nat) (cI cB cZ cR : ClassId) (sz : Nat) : Met l yX8_at (.code yX8_at cX8_at 3 (some .int) :: wsL_law) ({ frames := 0, cells := 0, slots := 0, locals := 0 }) (zPc dC dI (zT cI cB cZ cR) [.int 0, .int 0, .int 2] sz []) (va_Qi (fun (r : Int32) (_ : Unit) => r = 26) (fun _ : Unit => zB dC dI (zT cI cB cZ cR) (va_A [] sz) []) (va_A [] sz)) 0 0 (va_A [] sz) := by
  refine Met.ofW (cc := cX8_at) (maxL := 3) (ret := (some .int)) (by decide) rfl ?_
  intro p e s m args below meth c s₁ B hml hv
  obtain ⟨rfl, hsz, hP, hK, hD0, hN⟩ := hv
  have hx := B.exec
  have hb := B.bytes
  have hr := B.returns
  have hts := atoms_spec (ws := (.code yX8_at cX8_at 3 (some .int) :: wsL_law)) B.pre
  have hown : s.vm.findClass RX8 = some m.cls := findClass_of_methodNamed B.named
  have hlocks := B.notSynchronized
  subst hsz
  have hD := hD0.self (sz := s.heap.size)
  generalize hAe : va_A [] s.heap.size = A at hD ⊢
  have hA : ∀ q : Nat, s.heap.size ≤ q → A q := fun q h => by rw [← hAe]; exact Or.inr h
  have hP : va_P (dC, dI) vwCl [] s.heap := hP
  have hl := lv_entry ([.int 0, .int 0, .int 2]) (n := 3) (Nat.le_of_ble_eq_true rfl)
  rw [lg_entry_eq]
  generalize (lg_sl ([.int 0, .int 0, .int 2]) ++ List.replicate (3 - (lg_sl ([.int 0, .int 0, .int 2])).length) Slot.unset).toArray = ls at hl ⊢
  have hl : lv_has ls 3 [(0, .int 0), (1, .int 0), (2, .int 2)] := hl
  obtain ⟨H, hH⟩ : ∃ H, H = s.heap := ⟨_, rfl⟩
  rw [← hH] at hP ⊢
  have hS : va_S A s.heap H [] := by rw [hH]; exact va_S.rf
  refine lv_bipush (v := 24) hx hb dX8_at_0 (by decide) ?_
  refine lv_bipush (v := 24) hx hb dX8_at_2 (by decide) ?_
  refine lv_iload_n hx hb dX8_at_4 rfl (lv_at hl 0 rfl) ?_
  refine lv_imul hx hb dX8_at_5 ?_
  refine tp (y := 0) (by decide) ?_
  refine lv_iadd hx hb dX8_at_6 ?_
  refine tp (y := 24) (by decide) ?_
  refine lv_iconst (v := 3) hx hb dX8_at_7 (by decide) ?_
  refine lv_iload_n hx hb dX8_at_8 rfl (lv_at hl 1 rfl) ?_
  refine lv_imul hx hb dX8_at_9 ?_
  refine tp (y := 0) (by decide) ?_
  refine lv_iadd hx hb dX8_at_10 ?_
  refine tp (y := 24) (by decide) ?_
  refine lv_iload_n hx hb dX8_at_11 rfl (lv_at hl 2 rfl) ?_
  refine lv_iadd hx hb dX8_at_12 ?_
  refine tp (y := 26) (by decide) ?_
  have hP9 := hP.sub (ws' := []) [] rfl
  have hD9 := hD.sub (ws' := []) [] (by decide) rfl
  exact W.iret (v := 26) hx hb hr (fun t ht hW => ⟨⟨26, (), rfl, rfl, by rw [ht]; exact hP9, va_K.moved hW.alike hK, hD9⟩, hS.F ht⟩) hS.2.2 dX8_at_13

set_option maxHeartbeats 4000000 in
set_option maxRecDepth 100000 in
theorem kkX8_lays_0 (l : Launch) (dC : Nat → ClassId) (dI : Nat → Nat → Nat) (cI cB cZ cR : ClassId) (sz : Nat) (y : Nat) (yt : Nat) (yr : Nat) (yk : Nat) (yz : Nat) (yp : Nat) (yl : Nat) (yw : Nat) (yd : Nat) (ys : Nat) (yn : Nat) (ym : Nat) (yf : Nat) (yo : Nat) (yh : Nat) (yb : Nat) (yx : Nat) (v1 : Int32) (v2 : Int32) (v7 : Int32) (v8 : Int32) (v9 : Int32) (v10 : Int32) (v13 : Int32) (v14 : Int32) (v15 : Int32) (v16 : Int32) (v17 : Int32) (v18 : Int32) (v19 : Int32) (v20 : Int32) (v21 : Int32) (v23 : Int32) (v27 : Int32) (v32 : Int32) (v33 : Int32) (v34 : Int32) (v35 : Int32) (v36 : Int32) (v37 : Int32) (v38 : Int32) (v40 : Int32) (v41 : Int32) (v42 : Int32) (oo : Nat) (sn : Nat) (us : Nat) (tk : Nat) (bb : Nat) (e7 : Int32) (e8 : Int32) (e13 : Int32) (e14 : Int32) (e15 : Int32) (e18 : Int32) (gr : Nat → Int32) (p3 : Int32) (p4 : Int32) (p5 : Int32) : Met l yX8_lays (.code yX8_lays cX8_lays 6 none :: wsL_law) ({ frames := 1, cells := 0, slots := 0, locals := 22 }) (zPc dC dI (zT cI cB cZ cR) [.ref y, .int 0, .int 0, .int p3, .int p4, .int p5] sz [(y, .inr (8, [.ref yt, .int v1, .int v2, .ref yr, .ref yk, .ref yz, .ref yp, .int v7, .int v8, .int v9, .int v10, .ref yl, .ref yw, .int v13, .int v14, .int v15, .int v16, .int v17, .int v18, .int v19, .int v20, .int v21, .ref yd, .int v23, .ref ys, .ref yn, .ref ym, .int v27, .ref yf, .ref yo, .ref yh, .ref yb, .int v32, .int v33, .int v34, .int v35, .int v36, .int v37, .int v38, .ref yx, .int v40, .int v41, .int v42])), (yr, .inl (cI, 4668, .inl (jn [0, 4, 0, (nI oo), (nI sn), (nI us), (nI tk), e7, e8, 0, 0, 0, 0, e13, e14, e15, (nI bb), (-1), e18, 0, 0, 0, 0, 0] gr)))]) (va_Qv (fun _ : Unit => True) (fun _ : Unit => zB dC dI (zT cI cB cZ cR) (va_A [(y, .inr (8, [.ref yt, .int v1, .int v2, .ref yr, .ref yk, .ref yz, .ref yp, .int v7, .int v8, .int v9, .int v10, .ref yl, .ref yw, .int v13, .int v14, .int v15, .int v16, .int v17, .int v18, .int v19, .int v20, .int v21, .ref yd, .int v23, .ref ys, .ref yn, .ref ym, .int v27, .ref yf, .ref yo, .ref yh, .ref yb, .int v32, .int v33, .int v34, .int v35, .int v36, .int v37, .int v38, .ref yx, .int v40, .int v41, .int v42])), (yr, .inl (cI, 4668, .inl (jn [0, 4, 0, (nI oo), (nI sn), (nI us), (nI tk), e7, e8, 0, 0, 0, 0, e13, e14, e15, (nI bb), (-1), e18, 0, 0, 0, 0, 0] gr)))] sz) [(y, .inr (8, [.ref yt, .int v1, .int v2, .ref yr, .ref yk, .ref yz, .ref yp, .int v7, .int v8, .int v9, .int v10, .ref yl, .ref yw, .int v13, .int v14, .int v15, .int v16, .int v17, .int v18, .int v19, .int v20, .int v21, .ref yd, .int v23, .ref ys, .ref yn, .ref ym, .int v27, .ref yf, .ref yo, .ref yh, .ref yb, .int v32, .int v33, .int v34, .int v35, .int v36, .int v37, .int v38, .ref yx, .int v40, .int v41, .int v42])), (yr, .inl (cI, 4668, .inl (jn [0, 4, 0, (nI oo), (nI sn), (nI us), (nI tk), e7, e8, 0, 0, 0, 0, e13, e14, e15, (nI bb), (-1), e18, 0, 0, 0, 0, 0] (upd (upd (upd gr 24 p3) 25 p4) 26 p5))))]) (va_A [(y, .inr (8, [.ref yt, .int v1, .int v2, .ref yr, .ref yk, .ref yz, .ref yp, .int v7, .int v8, .int v9, .int v10, .ref yl, .ref yw, .int v13, .int v14, .int v15, .int v16, .int v17, .int v18, .int v19, .int v20, .int v21, .ref yd, .int v23, .ref ys, .ref yn, .ref ym, .int v27, .ref yf, .ref yo, .ref yh, .ref yb, .int v32, .int v33, .int v34, .int v35, .int v36, .int v37, .int v38, .ref yx, .int v40, .int v41, .int v42])), (yr, .inl (cI, 4668, .inl (jn [0, 4, 0, (nI oo), (nI sn), (nI us), (nI tk), e7, e8, 0, 0, 0, 0, e13, e14, e15, (nI bb), (-1), e18, 0, 0, 0, 0, 0] gr)))] sz)) 0 0 (va_A [(y, .inr (8, [.ref yt, .int v1, .int v2, .ref yr, .ref yk, .ref yz, .ref yp, .int v7, .int v8, .int v9, .int v10, .ref yl, .ref yw, .int v13, .int v14, .int v15, .int v16, .int v17, .int v18, .int v19, .int v20, .int v21, .ref yd, .int v23, .ref ys, .ref yn, .ref ym, .int v27, .ref yf, .ref yo, .ref yh, .ref yb, .int v32, .int v33, .int v34, .int v35, .int v36, .int v37, .int v38, .ref yx, .int v40, .int v41, .int v42])), (yr, .inl (cI, 4668, .inl (jn [0, 4, 0, (nI oo), (nI sn), (nI us), (nI tk), e7, e8, 0, 0, 0, 0, e13, e14, e15, (nI bb), (-1), e18, 0, 0, 0, 0, 0] gr)))] sz) := by
  refine Met.ofW (cc := cX8_lays) (maxL := 6) (ret := none) (by decide) rfl ?_
  intro p e s m args below meth c s₁ B hml hv
  obtain ⟨rfl, hsz, hP, hK, hD0, hN⟩ := hv
  have hx := B.exec
  have hb := B.bytes
  have hr := B.returns
  have hts := atoms_spec (ws := (.code yX8_lays cX8_lays 6 none :: wsL_law)) B.pre
  have hown : s.vm.findClass RX8 = some m.cls := findClass_of_methodNamed B.named
  have hlocks := B.notSynchronized
  have hinX8 : ∀ w ∈ u_ws RX8 TX8 43, w ∈ (.code yX8_lays cX8_lays 6 none :: wsL_law) := fun w h => List.mem_cons_of_mem _ (inlX8 w h)
  have k_0 := hts (.fieldLink RX8 13 "RingMarksModel" "\x72" "[I") (List.mem_cons_of_mem _ wm_128)
  subst hsz
  have hD := hD0.self (sz := s.heap.size)
  generalize hAe : va_A [(y, .inr (8, [.ref yt, .int v1, .int v2, .ref yr, .ref yk, .ref yz, .ref yp, .int v7, .int v8, .int v9, .int v10, .ref yl, .ref yw, .int v13, .int v14, .int v15, .int v16, .int v17, .int v18, .int v19, .int v20, .int v21, .ref yd, .int v23, .ref ys, .ref yn, .ref ym, .int v27, .ref yf, .ref yo, .ref yh, .ref yb, .int v32, .int v33, .int v34, .int v35, .int v36, .int v37, .int v38, .ref yx, .int v40, .int v41, .int v42])), (yr, .inl (cI, 4668, .inl (jn [0, 4, 0, (nI oo), (nI sn), (nI us), (nI tk), e7, e8, 0, 0, 0, 0, e13, e14, e15, (nI bb), (-1), e18, 0, 0, 0, 0, 0] gr)))] s.heap.size = A at hD ⊢
  have hA : ∀ q : Nat, s.heap.size ≤ q → A q := fun q h => by rw [← hAe]; exact Or.inr h
  have hP : va_P (dC, dI) vwCl [(y, .inr (8, [.ref yt, .int v1, .int v2, .ref yr, .ref yk, .ref yz, .ref yp, .int v7, .int v8, .int v9, .int v10, .ref yl, .ref yw, .int v13, .int v14, .int v15, .int v16, .int v17, .int v18, .int v19, .int v20, .int v21, .ref yd, .int v23, .ref ys, .ref yn, .ref ym, .int v27, .ref yf, .ref yo, .ref yh, .ref yb, .int v32, .int v33, .int v34, .int v35, .int v36, .int v37, .int v38, .ref yx, .int v40, .int v41, .int v42])), (yr, .inl (cI, 4668, .inl (jn [0, 4, 0, (nI oo), (nI sn), (nI us), (nI tk), e7, e8, 0, 0, 0, 0, e13, e14, e15, (nI bb), (-1), e18, 0, 0, 0, 0, 0] gr)))] s.heap := hP
  have hl := lv_entry ([.ref y, .int 0, .int 0, .int p3, .int p4, .int p5]) (n := 6) (Nat.le_of_ble_eq_true rfl)
  rw [lg_entry_eq]
  generalize (lg_sl ([.ref y, .int 0, .int 0, .int p3, .int p4, .int p5]) ++ List.replicate (6 - (lg_sl ([.ref y, .int 0, .int 0, .int p3, .int p4, .int p5])).length) Slot.unset).toArray = ls at hl ⊢
  have hl : lv_has ls 6 [(0, .ref y), (1, .int 0), (2, .int 0), (3, .int p3), (4, .int p4), (5, .int p5)] := hl
  obtain ⟨H, hH⟩ : ∃ H, H = s.heap := ⟨_, rfl⟩
  rw [← hH] at hP ⊢
  have hS : va_S A s.heap H [] := by rw [hH]; exact va_S.rf
  refine lv_aload_n hx hb dX8_lays_0 rfl (lv_at hl 0 rfl) ?_
  refine va_get (D := (dC, dI)) (ci := 8) (v := .ref yr) (C := RX8) (T := TX8) (N := 43) hx hb hts hinX8 hown hK hP 0 rfl rfl 3 (by decide) k_0 (fun _ h9 => h9) rfl dX8_lays_1 ?_
  refine lv_iload_n hx hb dX8_lays_4 rfl (lv_at hl 1 rfl) ?_
  refine lv_iload_n hx hb dX8_lays_5 rfl (lv_at hl 2 rfl) ?_
  refine lv_iconst (v := 0) hx hb dX8_lays_6 (by decide) ?_
  refine zcSi (As := [.int 0, .int 0, .int 0]) (rest := [.ref yr]) (wr := [(y, .inr (8, [.ref yt, .int v1, .int v2, .ref yr, .ref yk, .ref yz, .ref yp, .int v7, .int v8, .int v9, .int v10, .ref yl, .ref yw, .int v13, .int v14, .int v15, .int v16, .int v17, .int v18, .int v19, .int v20, .int v21, .ref yd, .int v23, .ref ys, .ref yn, .ref ym, .int v27, .ref yf, .ref yo, .ref yh, .ref yb, .int v32, .int v33, .int v34, .int v35, .int v36, .int v37, .int v38, .ref yx, .int v40, .int v41, .int v42])), (yr, .inl (cI, 4668, .inl (jn [0, 4, 0, (nI oo), (nI sn), (nI us), (nI tk), e7, e8, 0, 0, 0, 0, e13, e14, e15, (nI bb), (-1), e18, 0, 0, 0, 0, 0] gr)))]) ⟨hx, hb, hml, hown, hts⟩ (kkX8_at_c00 l dC dI cI cB cZ cR H.size  ) (va_cwS 3 hts (zgS wm_400 wm_401 wm_5 wm_402) rfl rfl rfl (by decide +kernel) ⟨Nat.le_of_ble_eq_true rfl, Nat.le_of_ble_eq_true rfl⟩) hN hK hP hD hS hA [] [0, 1] rfl rfl ⟨rfl, rfl⟩ (by decide) rfl hl.1 rfl (Nat.le_of_ble_eq_true rfl) dX8_lays_7 ⟨Nat.le_of_ble_eq_true rfl, Nat.le_of_ble_eq_true rfl⟩ (fun r u hu H locs hP hD hS => ?_)
  have hu : r = 24 := hu
  subst hu
  have hP : va_P (dC, dI) vwCl [(y, .inr (8, [.ref yt, .int v1, .int v2, .ref yr, .ref yk, .ref yz, .ref yp, .int v7, .int v8, .int v9, .int v10, .ref yl, .ref yw, .int v13, .int v14, .int v15, .int v16, .int v17, .int v18, .int v19, .int v20, .int v21, .ref yd, .int v23, .ref ys, .ref yn, .ref ym, .int v27, .ref yf, .ref yo, .ref yh, .ref yb, .int v32, .int v33, .int v34, .int v35, .int v36, .int v37, .int v38, .ref yx, .int v40, .int v41, .int v42])), (yr, .inl (cI, 4668, .inl (jn [0, 4, 0, (nI oo), (nI sn), (nI us), (nI tk), e7, e8, 0, 0, 0, 0, e13, e14, e15, (nI bb), (-1), e18, 0, 0, 0, 0, 0] gr)))] H := hP
  have hD : va_D A [(y, .inr (8, [.ref yt, .int v1, .int v2, .ref yr, .ref yk, .ref yz, .ref yp, .int v7, .int v8, .int v9, .int v10, .ref yl, .ref yw, .int v13, .int v14, .int v15, .int v16, .int v17, .int v18, .int v19, .int v20, .int v21, .ref yd, .int v23, .ref ys, .ref yn, .ref ym, .int v27, .ref yf, .ref yo, .ref yh, .ref yb, .int v32, .int v33, .int v34, .int v35, .int v36, .int v37, .int v38, .ref yx, .int v40, .int v41, .int v42])), (yr, .inl (cI, 4668, .inl (jn [0, 4, 0, (nI oo), (nI sn), (nI us), (nI tk), e7, e8, 0, 0, 0, 0, e13, e14, e15, (nI bb), (-1), e18, 0, 0, 0, 0, 0] gr)))] := hD
  refine lv_iload_n hx hb dX8_lays_10 rfl (lv_at hl 3 rfl) ?_
  refine za_iast (f' := (jn [0, 4, 0, (nI oo), (nI sn), (nI us), (nI tk), e7, e8, 0, 0, 0, 0, e13, e14, e15, (nI bb), (-1), e18, 0, 0, 0, 0, 0] (upd gr 24 p3))) hx hb hK hP hD hS 1 0 rfl rfl (zin tn_24 (Nat.le_of_ble_eq_true rfl)) (zup_jh tn_24 (Nat.not_lt_of_le (Nat.le_of_ble_eq_true rfl))) dX8_lays_11 (fun H locs hP hD hS => ?_)
  have hP : va_P (dC, dI) vwCl [(y, .inr (8, [.ref yt, .int v1, .int v2, .ref yr, .ref yk, .ref yz, .ref yp, .int v7, .int v8, .int v9, .int v10, .ref yl, .ref yw, .int v13, .int v14, .int v15, .int v16, .int v17, .int v18, .int v19, .int v20, .int v21, .ref yd, .int v23, .ref ys, .ref yn, .ref ym, .int v27, .ref yf, .ref yo, .ref yh, .ref yb, .int v32, .int v33, .int v34, .int v35, .int v36, .int v37, .int v38, .ref yx, .int v40, .int v41, .int v42])), (yr, .inl (cI, 4668, .inl (jn [0, 4, 0, (nI oo), (nI sn), (nI us), (nI tk), e7, e8, 0, 0, 0, 0, e13, e14, e15, (nI bb), (-1), e18, 0, 0, 0, 0, 0] (upd gr 24 p3))))] H := hP
  have hD : va_D A [(y, .inr (8, [.ref yt, .int v1, .int v2, .ref yr, .ref yk, .ref yz, .ref yp, .int v7, .int v8, .int v9, .int v10, .ref yl, .ref yw, .int v13, .int v14, .int v15, .int v16, .int v17, .int v18, .int v19, .int v20, .int v21, .ref yd, .int v23, .ref ys, .ref yn, .ref ym, .int v27, .ref yf, .ref yo, .ref yh, .ref yb, .int v32, .int v33, .int v34, .int v35, .int v36, .int v37, .int v38, .ref yx, .int v40, .int v41, .int v42])), (yr, .inl (cI, 4668, .inl (jn [0, 4, 0, (nI oo), (nI sn), (nI us), (nI tk), e7, e8, 0, 0, 0, 0, e13, e14, e15, (nI bb), (-1), e18, 0, 0, 0, 0, 0] (upd gr 24 p3))))] := hD
  refine lv_aload_n hx hb dX8_lays_12 rfl (lv_at hl 0 rfl) ?_
  refine va_get (D := (dC, dI)) (ci := 8) (v := .ref yr) (C := RX8) (T := TX8) (N := 43) hx hb hts hinX8 hown hK hP 0 rfl rfl 3 (by decide) k_0 (fun _ h9 => h9) rfl dX8_lays_13 ?_
  refine lv_iload_n hx hb dX8_lays_16 rfl (lv_at hl 1 rfl) ?_
  refine lv_iload_n hx hb dX8_lays_17 rfl (lv_at hl 2 rfl) ?_
  refine lv_iconst (v := 1) hx hb dX8_lays_18 (by decide) ?_
  refine zcSi (As := [.int 0, .int 0, .int 1]) (rest := [.ref yr]) (wr := [(y, .inr (8, [.ref yt, .int v1, .int v2, .ref yr, .ref yk, .ref yz, .ref yp, .int v7, .int v8, .int v9, .int v10, .ref yl, .ref yw, .int v13, .int v14, .int v15, .int v16, .int v17, .int v18, .int v19, .int v20, .int v21, .ref yd, .int v23, .ref ys, .ref yn, .ref ym, .int v27, .ref yf, .ref yo, .ref yh, .ref yb, .int v32, .int v33, .int v34, .int v35, .int v36, .int v37, .int v38, .ref yx, .int v40, .int v41, .int v42])), (yr, .inl (cI, 4668, .inl (jn [0, 4, 0, (nI oo), (nI sn), (nI us), (nI tk), e7, e8, 0, 0, 0, 0, e13, e14, e15, (nI bb), (-1), e18, 0, 0, 0, 0, 0] (upd gr 24 p3))))]) ⟨hx, hb, hml, hown, hts⟩ (kkX8_at_c01 l dC dI cI cB cZ cR H.size  ) (va_cwS 3 hts (zgS wm_400 wm_401 wm_5 wm_402) rfl rfl rfl (by decide +kernel) ⟨Nat.le_of_ble_eq_true rfl, Nat.le_of_ble_eq_true rfl⟩) hN hK hP hD hS hA [] [0, 1] rfl rfl ⟨rfl, rfl⟩ (by decide) rfl hl.1 rfl (Nat.le_of_ble_eq_true rfl) dX8_lays_19 ⟨Nat.le_of_ble_eq_true rfl, Nat.le_of_ble_eq_true rfl⟩ (fun r u hu H locs hP hD hS => ?_)
  have hu : r = 25 := hu
  subst hu
  have hP : va_P (dC, dI) vwCl [(y, .inr (8, [.ref yt, .int v1, .int v2, .ref yr, .ref yk, .ref yz, .ref yp, .int v7, .int v8, .int v9, .int v10, .ref yl, .ref yw, .int v13, .int v14, .int v15, .int v16, .int v17, .int v18, .int v19, .int v20, .int v21, .ref yd, .int v23, .ref ys, .ref yn, .ref ym, .int v27, .ref yf, .ref yo, .ref yh, .ref yb, .int v32, .int v33, .int v34, .int v35, .int v36, .int v37, .int v38, .ref yx, .int v40, .int v41, .int v42])), (yr, .inl (cI, 4668, .inl (jn [0, 4, 0, (nI oo), (nI sn), (nI us), (nI tk), e7, e8, 0, 0, 0, 0, e13, e14, e15, (nI bb), (-1), e18, 0, 0, 0, 0, 0] (upd gr 24 p3))))] H := hP
  have hD : va_D A [(y, .inr (8, [.ref yt, .int v1, .int v2, .ref yr, .ref yk, .ref yz, .ref yp, .int v7, .int v8, .int v9, .int v10, .ref yl, .ref yw, .int v13, .int v14, .int v15, .int v16, .int v17, .int v18, .int v19, .int v20, .int v21, .ref yd, .int v23, .ref ys, .ref yn, .ref ym, .int v27, .ref yf, .ref yo, .ref yh, .ref yb, .int v32, .int v33, .int v34, .int v35, .int v36, .int v37, .int v38, .ref yx, .int v40, .int v41, .int v42])), (yr, .inl (cI, 4668, .inl (jn [0, 4, 0, (nI oo), (nI sn), (nI us), (nI tk), e7, e8, 0, 0, 0, 0, e13, e14, e15, (nI bb), (-1), e18, 0, 0, 0, 0, 0] (upd gr 24 p3))))] := hD
  refine lv_iload hx hb dX8_lays_22 (lv_at hl 4 rfl) ?_
  refine za_iast (f' := (jn [0, 4, 0, (nI oo), (nI sn), (nI us), (nI tk), e7, e8, 0, 0, 0, 0, e13, e14, e15, (nI bb), (-1), e18, 0, 0, 0, 0, 0] (upd (upd gr 24 p3) 25 p4))) hx hb hK hP hD hS 1 0 rfl rfl (zin tn_25 (Nat.le_of_ble_eq_true rfl)) (zup_jh tn_25 (Nat.not_lt_of_le (Nat.le_of_ble_eq_true rfl))) dX8_lays_24 (fun H locs hP hD hS => ?_)
  have hP : va_P (dC, dI) vwCl [(y, .inr (8, [.ref yt, .int v1, .int v2, .ref yr, .ref yk, .ref yz, .ref yp, .int v7, .int v8, .int v9, .int v10, .ref yl, .ref yw, .int v13, .int v14, .int v15, .int v16, .int v17, .int v18, .int v19, .int v20, .int v21, .ref yd, .int v23, .ref ys, .ref yn, .ref ym, .int v27, .ref yf, .ref yo, .ref yh, .ref yb, .int v32, .int v33, .int v34, .int v35, .int v36, .int v37, .int v38, .ref yx, .int v40, .int v41, .int v42])), (yr, .inl (cI, 4668, .inl (jn [0, 4, 0, (nI oo), (nI sn), (nI us), (nI tk), e7, e8, 0, 0, 0, 0, e13, e14, e15, (nI bb), (-1), e18, 0, 0, 0, 0, 0] (upd (upd gr 24 p3) 25 p4))))] H := hP
  have hD : va_D A [(y, .inr (8, [.ref yt, .int v1, .int v2, .ref yr, .ref yk, .ref yz, .ref yp, .int v7, .int v8, .int v9, .int v10, .ref yl, .ref yw, .int v13, .int v14, .int v15, .int v16, .int v17, .int v18, .int v19, .int v20, .int v21, .ref yd, .int v23, .ref ys, .ref yn, .ref ym, .int v27, .ref yf, .ref yo, .ref yh, .ref yb, .int v32, .int v33, .int v34, .int v35, .int v36, .int v37, .int v38, .ref yx, .int v40, .int v41, .int v42])), (yr, .inl (cI, 4668, .inl (jn [0, 4, 0, (nI oo), (nI sn), (nI us), (nI tk), e7, e8, 0, 0, 0, 0, e13, e14, e15, (nI bb), (-1), e18, 0, 0, 0, 0, 0] (upd (upd gr 24 p3) 25 p4))))] := hD
  refine lv_aload_n hx hb dX8_lays_25 rfl (lv_at hl 0 rfl) ?_
  refine va_get (D := (dC, dI)) (ci := 8) (v := .ref yr) (C := RX8) (T := TX8) (N := 43) hx hb hts hinX8 hown hK hP 0 rfl rfl 3 (by decide) k_0 (fun _ h9 => h9) rfl dX8_lays_26 ?_
  refine lv_iload_n hx hb dX8_lays_29 rfl (lv_at hl 1 rfl) ?_
  refine lv_iload_n hx hb dX8_lays_30 rfl (lv_at hl 2 rfl) ?_
  refine lv_iconst (v := 2) hx hb dX8_lays_31 (by decide) ?_
  refine zcSi (As := [.int 0, .int 0, .int 2]) (rest := [.ref yr]) (wr := [(y, .inr (8, [.ref yt, .int v1, .int v2, .ref yr, .ref yk, .ref yz, .ref yp, .int v7, .int v8, .int v9, .int v10, .ref yl, .ref yw, .int v13, .int v14, .int v15, .int v16, .int v17, .int v18, .int v19, .int v20, .int v21, .ref yd, .int v23, .ref ys, .ref yn, .ref ym, .int v27, .ref yf, .ref yo, .ref yh, .ref yb, .int v32, .int v33, .int v34, .int v35, .int v36, .int v37, .int v38, .ref yx, .int v40, .int v41, .int v42])), (yr, .inl (cI, 4668, .inl (jn [0, 4, 0, (nI oo), (nI sn), (nI us), (nI tk), e7, e8, 0, 0, 0, 0, e13, e14, e15, (nI bb), (-1), e18, 0, 0, 0, 0, 0] (upd (upd gr 24 p3) 25 p4))))]) ⟨hx, hb, hml, hown, hts⟩ (kkX8_at_c02 l dC dI cI cB cZ cR H.size  ) (va_cwS 3 hts (zgS wm_400 wm_401 wm_5 wm_402) rfl rfl rfl (by decide +kernel) ⟨Nat.le_of_ble_eq_true rfl, Nat.le_of_ble_eq_true rfl⟩) hN hK hP hD hS hA [] [0, 1] rfl rfl ⟨rfl, rfl⟩ (by decide) rfl hl.1 rfl (Nat.le_of_ble_eq_true rfl) dX8_lays_32 ⟨Nat.le_of_ble_eq_true rfl, Nat.le_of_ble_eq_true rfl⟩ (fun r u hu H locs hP hD hS => ?_)
  have hu : r = 26 := hu
  subst hu
  have hP : va_P (dC, dI) vwCl [(y, .inr (8, [.ref yt, .int v1, .int v2, .ref yr, .ref yk, .ref yz, .ref yp, .int v7, .int v8, .int v9, .int v10, .ref yl, .ref yw, .int v13, .int v14, .int v15, .int v16, .int v17, .int v18, .int v19, .int v20, .int v21, .ref yd, .int v23, .ref ys, .ref yn, .ref ym, .int v27, .ref yf, .ref yo, .ref yh, .ref yb, .int v32, .int v33, .int v34, .int v35, .int v36, .int v37, .int v38, .ref yx, .int v40, .int v41, .int v42])), (yr, .inl (cI, 4668, .inl (jn [0, 4, 0, (nI oo), (nI sn), (nI us), (nI tk), e7, e8, 0, 0, 0, 0, e13, e14, e15, (nI bb), (-1), e18, 0, 0, 0, 0, 0] (upd (upd gr 24 p3) 25 p4))))] H := hP
  have hD : va_D A [(y, .inr (8, [.ref yt, .int v1, .int v2, .ref yr, .ref yk, .ref yz, .ref yp, .int v7, .int v8, .int v9, .int v10, .ref yl, .ref yw, .int v13, .int v14, .int v15, .int v16, .int v17, .int v18, .int v19, .int v20, .int v21, .ref yd, .int v23, .ref ys, .ref yn, .ref ym, .int v27, .ref yf, .ref yo, .ref yh, .ref yb, .int v32, .int v33, .int v34, .int v35, .int v36, .int v37, .int v38, .ref yx, .int v40, .int v41, .int v42])), (yr, .inl (cI, 4668, .inl (jn [0, 4, 0, (nI oo), (nI sn), (nI us), (nI tk), e7, e8, 0, 0, 0, 0, e13, e14, e15, (nI bb), (-1), e18, 0, 0, 0, 0, 0] (upd (upd gr 24 p3) 25 p4))))] := hD
  refine lv_iload hx hb dX8_lays_35 (lv_at hl 5 rfl) ?_
  refine za_iast (f' := (jn [0, 4, 0, (nI oo), (nI sn), (nI us), (nI tk), e7, e8, 0, 0, 0, 0, e13, e14, e15, (nI bb), (-1), e18, 0, 0, 0, 0, 0] (upd (upd (upd gr 24 p3) 25 p4) 26 p5))) hx hb hK hP hD hS 1 0 rfl rfl (zin tn_26 (Nat.le_of_ble_eq_true rfl)) (zup_jh tn_26 (Nat.not_lt_of_le (Nat.le_of_ble_eq_true rfl))) dX8_lays_37 (fun H locs hP hD hS => ?_)
  have hP : va_P (dC, dI) vwCl [(y, .inr (8, [.ref yt, .int v1, .int v2, .ref yr, .ref yk, .ref yz, .ref yp, .int v7, .int v8, .int v9, .int v10, .ref yl, .ref yw, .int v13, .int v14, .int v15, .int v16, .int v17, .int v18, .int v19, .int v20, .int v21, .ref yd, .int v23, .ref ys, .ref yn, .ref ym, .int v27, .ref yf, .ref yo, .ref yh, .ref yb, .int v32, .int v33, .int v34, .int v35, .int v36, .int v37, .int v38, .ref yx, .int v40, .int v41, .int v42])), (yr, .inl (cI, 4668, .inl (jn [0, 4, 0, (nI oo), (nI sn), (nI us), (nI tk), e7, e8, 0, 0, 0, 0, e13, e14, e15, (nI bb), (-1), e18, 0, 0, 0, 0, 0] (upd (upd (upd gr 24 p3) 25 p4) 26 p5))))] H := hP
  have hD : va_D A [(y, .inr (8, [.ref yt, .int v1, .int v2, .ref yr, .ref yk, .ref yz, .ref yp, .int v7, .int v8, .int v9, .int v10, .ref yl, .ref yw, .int v13, .int v14, .int v15, .int v16, .int v17, .int v18, .int v19, .int v20, .int v21, .ref yd, .int v23, .ref ys, .ref yn, .ref ym, .int v27, .ref yf, .ref yo, .ref yh, .ref yb, .int v32, .int v33, .int v34, .int v35, .int v36, .int v37, .int v38, .ref yx, .int v40, .int v41, .int v42])), (yr, .inl (cI, 4668, .inl (jn [0, 4, 0, (nI oo), (nI sn), (nI us), (nI tk), e7, e8, 0, 0, 0, 0, e13, e14, e15, (nI bb), (-1), e18, 0, 0, 0, 0, 0] (upd (upd (upd gr 24 p3) 25 p4) 26 p5))))] := hD
  have hP9 := hP.sub (ws' := [(y, .inr (8, [.ref yt, .int v1, .int v2, .ref yr, .ref yk, .ref yz, .ref yp, .int v7, .int v8, .int v9, .int v10, .ref yl, .ref yw, .int v13, .int v14, .int v15, .int v16, .int v17, .int v18, .int v19, .int v20, .int v21, .ref yd, .int v23, .ref ys, .ref yn, .ref ym, .int v27, .ref yf, .ref yo, .ref yh, .ref yb, .int v32, .int v33, .int v34, .int v35, .int v36, .int v37, .int v38, .ref yx, .int v40, .int v41, .int v42])), (yr, .inl (cI, 4668, .inl (jn [0, 4, 0, (nI oo), (nI sn), (nI us), (nI tk), e7, e8, 0, 0, 0, 0, e13, e14, e15, (nI bb), (-1), e18, 0, 0, 0, 0, 0] (upd (upd (upd gr 24 p3) 25 p4) 26 p5))))]) [0, 1] rfl
  have hD9 := hD.sub (ws' := [(y, .inr (8, [.ref yt, .int v1, .int v2, .ref yr, .ref yk, .ref yz, .ref yp, .int v7, .int v8, .int v9, .int v10, .ref yl, .ref yw, .int v13, .int v14, .int v15, .int v16, .int v17, .int v18, .int v19, .int v20, .int v21, .ref yd, .int v23, .ref ys, .ref yn, .ref ym, .int v27, .ref yf, .ref yo, .ref yh, .ref yb, .int v32, .int v33, .int v34, .int v35, .int v36, .int v37, .int v38, .ref yx, .int v40, .int v41, .int v42])), (yr, .inl (cI, 4668, .inl (jn [0, 4, 0, (nI oo), (nI sn), (nI us), (nI tk), e7, e8, 0, 0, 0, 0, e13, e14, e15, (nI bb), (-1), e18, 0, 0, 0, 0, 0] (upd (upd (upd gr 24 p3) 25 p4) 26 p5))))]) [0, 1] (by decide) rfl
  exact W.vret hx hb hr (fun t ht hW => ⟨⟨(), rfl, trivial, by rw [ht]; exact hP9, va_K.moved hW.alike hK, hD9⟩, hS.F ht⟩) hS.2.2 dX8_lays_38

set_option maxHeartbeats 4000000 in
set_option maxRecDepth 100000 in
theorem kkX8_at_c10 (l : Launch) (dC : Nat → ClassId) (dI : Nat → Nat → Nat) (cI cB cZ cR : ClassId) (sz : Nat) : Met l yX8_at (.code yX8_at cX8_at 3 (some .int) :: wsL_law) ({ frames := 0, cells := 0, slots := 0, locals := 0 }) (zPc dC dI (zT cI cB cZ cR) [.int 0, .int 1, .int 0] sz []) (va_Qi (fun (r : Int32) (_ : Unit) => r = 27) (fun _ : Unit => zB dC dI (zT cI cB cZ cR) (va_A [] sz) []) (va_A [] sz)) 0 0 (va_A [] sz) := by
  refine Met.ofW (cc := cX8_at) (maxL := 3) (ret := (some .int)) (by decide) rfl ?_
  intro p e s m args below meth c s₁ B hml hv
  obtain ⟨rfl, hsz, hP, hK, hD0, hN⟩ := hv
  have hx := B.exec
  have hb := B.bytes
  have hr := B.returns
  have hts := atoms_spec (ws := (.code yX8_at cX8_at 3 (some .int) :: wsL_law)) B.pre
  have hown : s.vm.findClass RX8 = some m.cls := findClass_of_methodNamed B.named
  have hlocks := B.notSynchronized
  subst hsz
  have hD := hD0.self (sz := s.heap.size)
  generalize hAe : va_A [] s.heap.size = A at hD ⊢
  have hA : ∀ q : Nat, s.heap.size ≤ q → A q := fun q h => by rw [← hAe]; exact Or.inr h
  have hP : va_P (dC, dI) vwCl [] s.heap := hP
  have hl := lv_entry ([.int 0, .int 1, .int 0]) (n := 3) (Nat.le_of_ble_eq_true rfl)
  rw [lg_entry_eq]
  generalize (lg_sl ([.int 0, .int 1, .int 0]) ++ List.replicate (3 - (lg_sl ([.int 0, .int 1, .int 0])).length) Slot.unset).toArray = ls at hl ⊢
  have hl : lv_has ls 3 [(0, .int 0), (1, .int 1), (2, .int 0)] := hl
  obtain ⟨H, hH⟩ : ∃ H, H = s.heap := ⟨_, rfl⟩
  rw [← hH] at hP ⊢
  have hS : va_S A s.heap H [] := by rw [hH]; exact va_S.rf
  refine lv_bipush (v := 24) hx hb dX8_at_0 (by decide) ?_
  refine lv_bipush (v := 24) hx hb dX8_at_2 (by decide) ?_
  refine lv_iload_n hx hb dX8_at_4 rfl (lv_at hl 0 rfl) ?_
  refine lv_imul hx hb dX8_at_5 ?_
  refine tp (y := 0) (by decide) ?_
  refine lv_iadd hx hb dX8_at_6 ?_
  refine tp (y := 24) (by decide) ?_
  refine lv_iconst (v := 3) hx hb dX8_at_7 (by decide) ?_
  refine lv_iload_n hx hb dX8_at_8 rfl (lv_at hl 1 rfl) ?_
  refine lv_imul hx hb dX8_at_9 ?_
  refine tp (y := 3) (by decide) ?_
  refine lv_iadd hx hb dX8_at_10 ?_
  refine tp (y := 27) (by decide) ?_
  refine lv_iload_n hx hb dX8_at_11 rfl (lv_at hl 2 rfl) ?_
  refine lv_iadd hx hb dX8_at_12 ?_
  refine tp (y := 27) (by decide) ?_
  have hP9 := hP.sub (ws' := []) [] rfl
  have hD9 := hD.sub (ws' := []) [] (by decide) rfl
  exact W.iret (v := 27) hx hb hr (fun t ht hW => ⟨⟨27, (), rfl, rfl, by rw [ht]; exact hP9, va_K.moved hW.alike hK, hD9⟩, hS.F ht⟩) hS.2.2 dX8_at_13

set_option maxHeartbeats 4000000 in
set_option maxRecDepth 100000 in
theorem kkX8_at_c11 (l : Launch) (dC : Nat → ClassId) (dI : Nat → Nat → Nat) (cI cB cZ cR : ClassId) (sz : Nat) : Met l yX8_at (.code yX8_at cX8_at 3 (some .int) :: wsL_law) ({ frames := 0, cells := 0, slots := 0, locals := 0 }) (zPc dC dI (zT cI cB cZ cR) [.int 0, .int 1, .int 1] sz []) (va_Qi (fun (r : Int32) (_ : Unit) => r = 28) (fun _ : Unit => zB dC dI (zT cI cB cZ cR) (va_A [] sz) []) (va_A [] sz)) 0 0 (va_A [] sz) := by
  refine Met.ofW (cc := cX8_at) (maxL := 3) (ret := (some .int)) (by decide) rfl ?_
  intro p e s m args below meth c s₁ B hml hv
  obtain ⟨rfl, hsz, hP, hK, hD0, hN⟩ := hv
  have hx := B.exec
  have hb := B.bytes
  have hr := B.returns
  have hts := atoms_spec (ws := (.code yX8_at cX8_at 3 (some .int) :: wsL_law)) B.pre
  have hown : s.vm.findClass RX8 = some m.cls := findClass_of_methodNamed B.named
  have hlocks := B.notSynchronized
  subst hsz
  have hD := hD0.self (sz := s.heap.size)
  generalize hAe : va_A [] s.heap.size = A at hD ⊢
  have hA : ∀ q : Nat, s.heap.size ≤ q → A q := fun q h => by rw [← hAe]; exact Or.inr h
  have hP : va_P (dC, dI) vwCl [] s.heap := hP
  have hl := lv_entry ([.int 0, .int 1, .int 1]) (n := 3) (Nat.le_of_ble_eq_true rfl)
  rw [lg_entry_eq]
  generalize (lg_sl ([.int 0, .int 1, .int 1]) ++ List.replicate (3 - (lg_sl ([.int 0, .int 1, .int 1])).length) Slot.unset).toArray = ls at hl ⊢
  have hl : lv_has ls 3 [(0, .int 0), (1, .int 1), (2, .int 1)] := hl
  obtain ⟨H, hH⟩ : ∃ H, H = s.heap := ⟨_, rfl⟩
  rw [← hH] at hP ⊢
  have hS : va_S A s.heap H [] := by rw [hH]; exact va_S.rf
  refine lv_bipush (v := 24) hx hb dX8_at_0 (by decide) ?_
  refine lv_bipush (v := 24) hx hb dX8_at_2 (by decide) ?_
  refine lv_iload_n hx hb dX8_at_4 rfl (lv_at hl 0 rfl) ?_
  refine lv_imul hx hb dX8_at_5 ?_
  refine tp (y := 0) (by decide) ?_
  refine lv_iadd hx hb dX8_at_6 ?_
  refine tp (y := 24) (by decide) ?_
  refine lv_iconst (v := 3) hx hb dX8_at_7 (by decide) ?_
  refine lv_iload_n hx hb dX8_at_8 rfl (lv_at hl 1 rfl) ?_
  refine lv_imul hx hb dX8_at_9 ?_
  refine tp (y := 3) (by decide) ?_
  refine lv_iadd hx hb dX8_at_10 ?_
  refine tp (y := 27) (by decide) ?_
  refine lv_iload_n hx hb dX8_at_11 rfl (lv_at hl 2 rfl) ?_
  refine lv_iadd hx hb dX8_at_12 ?_
  refine tp (y := 28) (by decide) ?_
  have hP9 := hP.sub (ws' := []) [] rfl
  have hD9 := hD.sub (ws' := []) [] (by decide) rfl
  exact W.iret (v := 28) hx hb hr (fun t ht hW => ⟨⟨28, (), rfl, rfl, by rw [ht]; exact hP9, va_K.moved hW.alike hK, hD9⟩, hS.F ht⟩) hS.2.2 dX8_at_13

set_option maxHeartbeats 4000000 in
set_option maxRecDepth 100000 in
theorem kkX8_at_c12 (l : Launch) (dC : Nat → ClassId) (dI : Nat → Nat → Nat) (cI cB cZ cR : ClassId) (sz : Nat) : Met l yX8_at (.code yX8_at cX8_at 3 (some .int) :: wsL_law) ({ frames := 0, cells := 0, slots := 0, locals := 0 }) (zPc dC dI (zT cI cB cZ cR) [.int 0, .int 1, .int 2] sz []) (va_Qi (fun (r : Int32) (_ : Unit) => r = 29) (fun _ : Unit => zB dC dI (zT cI cB cZ cR) (va_A [] sz) []) (va_A [] sz)) 0 0 (va_A [] sz) := by
  refine Met.ofW (cc := cX8_at) (maxL := 3) (ret := (some .int)) (by decide) rfl ?_
  intro p e s m args below meth c s₁ B hml hv
  obtain ⟨rfl, hsz, hP, hK, hD0, hN⟩ := hv
  have hx := B.exec
  have hb := B.bytes
  have hr := B.returns
  have hts := atoms_spec (ws := (.code yX8_at cX8_at 3 (some .int) :: wsL_law)) B.pre
  have hown : s.vm.findClass RX8 = some m.cls := findClass_of_methodNamed B.named
  have hlocks := B.notSynchronized
  subst hsz
  have hD := hD0.self (sz := s.heap.size)
  generalize hAe : va_A [] s.heap.size = A at hD ⊢
  have hA : ∀ q : Nat, s.heap.size ≤ q → A q := fun q h => by rw [← hAe]; exact Or.inr h
  have hP : va_P (dC, dI) vwCl [] s.heap := hP
  have hl := lv_entry ([.int 0, .int 1, .int 2]) (n := 3) (Nat.le_of_ble_eq_true rfl)
  rw [lg_entry_eq]
  generalize (lg_sl ([.int 0, .int 1, .int 2]) ++ List.replicate (3 - (lg_sl ([.int 0, .int 1, .int 2])).length) Slot.unset).toArray = ls at hl ⊢
  have hl : lv_has ls 3 [(0, .int 0), (1, .int 1), (2, .int 2)] := hl
  obtain ⟨H, hH⟩ : ∃ H, H = s.heap := ⟨_, rfl⟩
  rw [← hH] at hP ⊢
  have hS : va_S A s.heap H [] := by rw [hH]; exact va_S.rf
  refine lv_bipush (v := 24) hx hb dX8_at_0 (by decide) ?_
  refine lv_bipush (v := 24) hx hb dX8_at_2 (by decide) ?_
  refine lv_iload_n hx hb dX8_at_4 rfl (lv_at hl 0 rfl) ?_
  refine lv_imul hx hb dX8_at_5 ?_
  refine tp (y := 0) (by decide) ?_
  refine lv_iadd hx hb dX8_at_6 ?_
  refine tp (y := 24) (by decide) ?_
  refine lv_iconst (v := 3) hx hb dX8_at_7 (by decide) ?_
  refine lv_iload_n hx hb dX8_at_8 rfl (lv_at hl 1 rfl) ?_
  refine lv_imul hx hb dX8_at_9 ?_
  refine tp (y := 3) (by decide) ?_
  refine lv_iadd hx hb dX8_at_10 ?_
  refine tp (y := 27) (by decide) ?_
  refine lv_iload_n hx hb dX8_at_11 rfl (lv_at hl 2 rfl) ?_
  refine lv_iadd hx hb dX8_at_12 ?_
  refine tp (y := 29) (by decide) ?_
  have hP9 := hP.sub (ws' := []) [] rfl
  have hD9 := hD.sub (ws' := []) [] (by decide) rfl
  exact W.iret (v := 29) hx hb hr (fun t ht hW => ⟨⟨29, (), rfl, rfl, by rw [ht]; exact hP9, va_K.moved hW.alike hK, hD9⟩, hS.F ht⟩) hS.2.2 dX8_at_13

set_option maxHeartbeats 4000000 in
set_option maxRecDepth 100000 in
theorem kkX8_lays_1 (l : Launch) (dC : Nat → ClassId) (dI : Nat → Nat → Nat) (cI cB cZ cR : ClassId) (sz : Nat) (y : Nat) (yt : Nat) (yr : Nat) (yk : Nat) (yz : Nat) (yp : Nat) (yl : Nat) (yw : Nat) (yd : Nat) (ys : Nat) (yn : Nat) (ym : Nat) (yf : Nat) (yo : Nat) (yh : Nat) (yb : Nat) (yx : Nat) (v1 : Int32) (v2 : Int32) (v7 : Int32) (v8 : Int32) (v9 : Int32) (v10 : Int32) (v13 : Int32) (v14 : Int32) (v15 : Int32) (v16 : Int32) (v17 : Int32) (v18 : Int32) (v19 : Int32) (v20 : Int32) (v21 : Int32) (v23 : Int32) (v27 : Int32) (v32 : Int32) (v33 : Int32) (v34 : Int32) (v35 : Int32) (v36 : Int32) (v37 : Int32) (v38 : Int32) (v40 : Int32) (v41 : Int32) (v42 : Int32) (oo : Nat) (sn : Nat) (us : Nat) (tk : Nat) (bb : Nat) (e7 : Int32) (e8 : Int32) (e13 : Int32) (e14 : Int32) (e15 : Int32) (e18 : Int32) (gr : Nat → Int32) (p3 : Int32) (p4 : Int32) (p5 : Int32) : Met l yX8_lays (.code yX8_lays cX8_lays 6 none :: wsL_law) ({ frames := 1, cells := 0, slots := 0, locals := 22 }) (zPc dC dI (zT cI cB cZ cR) [.ref y, .int 0, .int 1, .int p3, .int p4, .int p5] sz [(y, .inr (8, [.ref yt, .int v1, .int v2, .ref yr, .ref yk, .ref yz, .ref yp, .int v7, .int v8, .int v9, .int v10, .ref yl, .ref yw, .int v13, .int v14, .int v15, .int v16, .int v17, .int v18, .int v19, .int v20, .int v21, .ref yd, .int v23, .ref ys, .ref yn, .ref ym, .int v27, .ref yf, .ref yo, .ref yh, .ref yb, .int v32, .int v33, .int v34, .int v35, .int v36, .int v37, .int v38, .ref yx, .int v40, .int v41, .int v42])), (yr, .inl (cI, 4668, .inl (jn [0, 4, 0, (nI oo), (nI sn), (nI us), (nI tk), e7, e8, 0, 0, 0, 0, e13, e14, e15, (nI bb), (-1), e18, 0, 0, 0, 0, 0] gr)))]) (va_Qv (fun _ : Unit => True) (fun _ : Unit => zB dC dI (zT cI cB cZ cR) (va_A [(y, .inr (8, [.ref yt, .int v1, .int v2, .ref yr, .ref yk, .ref yz, .ref yp, .int v7, .int v8, .int v9, .int v10, .ref yl, .ref yw, .int v13, .int v14, .int v15, .int v16, .int v17, .int v18, .int v19, .int v20, .int v21, .ref yd, .int v23, .ref ys, .ref yn, .ref ym, .int v27, .ref yf, .ref yo, .ref yh, .ref yb, .int v32, .int v33, .int v34, .int v35, .int v36, .int v37, .int v38, .ref yx, .int v40, .int v41, .int v42])), (yr, .inl (cI, 4668, .inl (jn [0, 4, 0, (nI oo), (nI sn), (nI us), (nI tk), e7, e8, 0, 0, 0, 0, e13, e14, e15, (nI bb), (-1), e18, 0, 0, 0, 0, 0] gr)))] sz) [(y, .inr (8, [.ref yt, .int v1, .int v2, .ref yr, .ref yk, .ref yz, .ref yp, .int v7, .int v8, .int v9, .int v10, .ref yl, .ref yw, .int v13, .int v14, .int v15, .int v16, .int v17, .int v18, .int v19, .int v20, .int v21, .ref yd, .int v23, .ref ys, .ref yn, .ref ym, .int v27, .ref yf, .ref yo, .ref yh, .ref yb, .int v32, .int v33, .int v34, .int v35, .int v36, .int v37, .int v38, .ref yx, .int v40, .int v41, .int v42])), (yr, .inl (cI, 4668, .inl (jn [0, 4, 0, (nI oo), (nI sn), (nI us), (nI tk), e7, e8, 0, 0, 0, 0, e13, e14, e15, (nI bb), (-1), e18, 0, 0, 0, 0, 0] (upd (upd (upd gr 27 p3) 28 p4) 29 p5))))]) (va_A [(y, .inr (8, [.ref yt, .int v1, .int v2, .ref yr, .ref yk, .ref yz, .ref yp, .int v7, .int v8, .int v9, .int v10, .ref yl, .ref yw, .int v13, .int v14, .int v15, .int v16, .int v17, .int v18, .int v19, .int v20, .int v21, .ref yd, .int v23, .ref ys, .ref yn, .ref ym, .int v27, .ref yf, .ref yo, .ref yh, .ref yb, .int v32, .int v33, .int v34, .int v35, .int v36, .int v37, .int v38, .ref yx, .int v40, .int v41, .int v42])), (yr, .inl (cI, 4668, .inl (jn [0, 4, 0, (nI oo), (nI sn), (nI us), (nI tk), e7, e8, 0, 0, 0, 0, e13, e14, e15, (nI bb), (-1), e18, 0, 0, 0, 0, 0] gr)))] sz)) 0 0 (va_A [(y, .inr (8, [.ref yt, .int v1, .int v2, .ref yr, .ref yk, .ref yz, .ref yp, .int v7, .int v8, .int v9, .int v10, .ref yl, .ref yw, .int v13, .int v14, .int v15, .int v16, .int v17, .int v18, .int v19, .int v20, .int v21, .ref yd, .int v23, .ref ys, .ref yn, .ref ym, .int v27, .ref yf, .ref yo, .ref yh, .ref yb, .int v32, .int v33, .int v34, .int v35, .int v36, .int v37, .int v38, .ref yx, .int v40, .int v41, .int v42])), (yr, .inl (cI, 4668, .inl (jn [0, 4, 0, (nI oo), (nI sn), (nI us), (nI tk), e7, e8, 0, 0, 0, 0, e13, e14, e15, (nI bb), (-1), e18, 0, 0, 0, 0, 0] gr)))] sz) := by
  refine Met.ofW (cc := cX8_lays) (maxL := 6) (ret := none) (by decide) rfl ?_
  intro p e s m args below meth c s₁ B hml hv
  obtain ⟨rfl, hsz, hP, hK, hD0, hN⟩ := hv
  have hx := B.exec
  have hb := B.bytes
  have hr := B.returns
  have hts := atoms_spec (ws := (.code yX8_lays cX8_lays 6 none :: wsL_law)) B.pre
  have hown : s.vm.findClass RX8 = some m.cls := findClass_of_methodNamed B.named
  have hlocks := B.notSynchronized
  have hinX8 : ∀ w ∈ u_ws RX8 TX8 43, w ∈ (.code yX8_lays cX8_lays 6 none :: wsL_law) := fun w h => List.mem_cons_of_mem _ (inlX8 w h)
  have k_0 := hts (.fieldLink RX8 13 "RingMarksModel" "\x72" "[I") (List.mem_cons_of_mem _ wm_128)
  subst hsz
  have hD := hD0.self (sz := s.heap.size)
  generalize hAe : va_A [(y, .inr (8, [.ref yt, .int v1, .int v2, .ref yr, .ref yk, .ref yz, .ref yp, .int v7, .int v8, .int v9, .int v10, .ref yl, .ref yw, .int v13, .int v14, .int v15, .int v16, .int v17, .int v18, .int v19, .int v20, .int v21, .ref yd, .int v23, .ref ys, .ref yn, .ref ym, .int v27, .ref yf, .ref yo, .ref yh, .ref yb, .int v32, .int v33, .int v34, .int v35, .int v36, .int v37, .int v38, .ref yx, .int v40, .int v41, .int v42])), (yr, .inl (cI, 4668, .inl (jn [0, 4, 0, (nI oo), (nI sn), (nI us), (nI tk), e7, e8, 0, 0, 0, 0, e13, e14, e15, (nI bb), (-1), e18, 0, 0, 0, 0, 0] gr)))] s.heap.size = A at hD ⊢
  have hA : ∀ q : Nat, s.heap.size ≤ q → A q := fun q h => by rw [← hAe]; exact Or.inr h
  have hP : va_P (dC, dI) vwCl [(y, .inr (8, [.ref yt, .int v1, .int v2, .ref yr, .ref yk, .ref yz, .ref yp, .int v7, .int v8, .int v9, .int v10, .ref yl, .ref yw, .int v13, .int v14, .int v15, .int v16, .int v17, .int v18, .int v19, .int v20, .int v21, .ref yd, .int v23, .ref ys, .ref yn, .ref ym, .int v27, .ref yf, .ref yo, .ref yh, .ref yb, .int v32, .int v33, .int v34, .int v35, .int v36, .int v37, .int v38, .ref yx, .int v40, .int v41, .int v42])), (yr, .inl (cI, 4668, .inl (jn [0, 4, 0, (nI oo), (nI sn), (nI us), (nI tk), e7, e8, 0, 0, 0, 0, e13, e14, e15, (nI bb), (-1), e18, 0, 0, 0, 0, 0] gr)))] s.heap := hP
  have hl := lv_entry ([.ref y, .int 0, .int 1, .int p3, .int p4, .int p5]) (n := 6) (Nat.le_of_ble_eq_true rfl)
  rw [lg_entry_eq]
  generalize (lg_sl ([.ref y, .int 0, .int 1, .int p3, .int p4, .int p5]) ++ List.replicate (6 - (lg_sl ([.ref y, .int 0, .int 1, .int p3, .int p4, .int p5])).length) Slot.unset).toArray = ls at hl ⊢
  have hl : lv_has ls 6 [(0, .ref y), (1, .int 0), (2, .int 1), (3, .int p3), (4, .int p4), (5, .int p5)] := hl
  obtain ⟨H, hH⟩ : ∃ H, H = s.heap := ⟨_, rfl⟩
  rw [← hH] at hP ⊢
  have hS : va_S A s.heap H [] := by rw [hH]; exact va_S.rf
  refine lv_aload_n hx hb dX8_lays_0 rfl (lv_at hl 0 rfl) ?_
  refine va_get (D := (dC, dI)) (ci := 8) (v := .ref yr) (C := RX8) (T := TX8) (N := 43) hx hb hts hinX8 hown hK hP 0 rfl rfl 3 (by decide) k_0 (fun _ h9 => h9) rfl dX8_lays_1 ?_
  refine lv_iload_n hx hb dX8_lays_4 rfl (lv_at hl 1 rfl) ?_
  refine lv_iload_n hx hb dX8_lays_5 rfl (lv_at hl 2 rfl) ?_
  refine lv_iconst (v := 0) hx hb dX8_lays_6 (by decide) ?_
  refine zcSi (As := [.int 0, .int 1, .int 0]) (rest := [.ref yr]) (wr := [(y, .inr (8, [.ref yt, .int v1, .int v2, .ref yr, .ref yk, .ref yz, .ref yp, .int v7, .int v8, .int v9, .int v10, .ref yl, .ref yw, .int v13, .int v14, .int v15, .int v16, .int v17, .int v18, .int v19, .int v20, .int v21, .ref yd, .int v23, .ref ys, .ref yn, .ref ym, .int v27, .ref yf, .ref yo, .ref yh, .ref yb, .int v32, .int v33, .int v34, .int v35, .int v36, .int v37, .int v38, .ref yx, .int v40, .int v41, .int v42])), (yr, .inl (cI, 4668, .inl (jn [0, 4, 0, (nI oo), (nI sn), (nI us), (nI tk), e7, e8, 0, 0, 0, 0, e13, e14, e15, (nI bb), (-1), e18, 0, 0, 0, 0, 0] gr)))]) ⟨hx, hb, hml, hown, hts⟩ (kkX8_at_c10 l dC dI cI cB cZ cR H.size  ) (va_cwS 3 hts (zgS wm_400 wm_401 wm_5 wm_402) rfl rfl rfl (by decide +kernel) ⟨Nat.le_of_ble_eq_true rfl, Nat.le_of_ble_eq_true rfl⟩) hN hK hP hD hS hA [] [0, 1] rfl rfl ⟨rfl, rfl⟩ (by decide) rfl hl.1 rfl (Nat.le_of_ble_eq_true rfl) dX8_lays_7 ⟨Nat.le_of_ble_eq_true rfl, Nat.le_of_ble_eq_true rfl⟩ (fun r u hu H locs hP hD hS => ?_)
  have hu : r = 27 := hu
  subst hu
  have hP : va_P (dC, dI) vwCl [(y, .inr (8, [.ref yt, .int v1, .int v2, .ref yr, .ref yk, .ref yz, .ref yp, .int v7, .int v8, .int v9, .int v10, .ref yl, .ref yw, .int v13, .int v14, .int v15, .int v16, .int v17, .int v18, .int v19, .int v20, .int v21, .ref yd, .int v23, .ref ys, .ref yn, .ref ym, .int v27, .ref yf, .ref yo, .ref yh, .ref yb, .int v32, .int v33, .int v34, .int v35, .int v36, .int v37, .int v38, .ref yx, .int v40, .int v41, .int v42])), (yr, .inl (cI, 4668, .inl (jn [0, 4, 0, (nI oo), (nI sn), (nI us), (nI tk), e7, e8, 0, 0, 0, 0, e13, e14, e15, (nI bb), (-1), e18, 0, 0, 0, 0, 0] gr)))] H := hP
  have hD : va_D A [(y, .inr (8, [.ref yt, .int v1, .int v2, .ref yr, .ref yk, .ref yz, .ref yp, .int v7, .int v8, .int v9, .int v10, .ref yl, .ref yw, .int v13, .int v14, .int v15, .int v16, .int v17, .int v18, .int v19, .int v20, .int v21, .ref yd, .int v23, .ref ys, .ref yn, .ref ym, .int v27, .ref yf, .ref yo, .ref yh, .ref yb, .int v32, .int v33, .int v34, .int v35, .int v36, .int v37, .int v38, .ref yx, .int v40, .int v41, .int v42])), (yr, .inl (cI, 4668, .inl (jn [0, 4, 0, (nI oo), (nI sn), (nI us), (nI tk), e7, e8, 0, 0, 0, 0, e13, e14, e15, (nI bb), (-1), e18, 0, 0, 0, 0, 0] gr)))] := hD
  refine lv_iload_n hx hb dX8_lays_10 rfl (lv_at hl 3 rfl) ?_
  refine za_iast (f' := (jn [0, 4, 0, (nI oo), (nI sn), (nI us), (nI tk), e7, e8, 0, 0, 0, 0, e13, e14, e15, (nI bb), (-1), e18, 0, 0, 0, 0, 0] (upd gr 27 p3))) hx hb hK hP hD hS 1 0 rfl rfl (zin tn_27 (Nat.le_of_ble_eq_true rfl)) (zup_jh tn_27 (Nat.not_lt_of_le (Nat.le_of_ble_eq_true rfl))) dX8_lays_11 (fun H locs hP hD hS => ?_)
  have hP : va_P (dC, dI) vwCl [(y, .inr (8, [.ref yt, .int v1, .int v2, .ref yr, .ref yk, .ref yz, .ref yp, .int v7, .int v8, .int v9, .int v10, .ref yl, .ref yw, .int v13, .int v14, .int v15, .int v16, .int v17, .int v18, .int v19, .int v20, .int v21, .ref yd, .int v23, .ref ys, .ref yn, .ref ym, .int v27, .ref yf, .ref yo, .ref yh, .ref yb, .int v32, .int v33, .int v34, .int v35, .int v36, .int v37, .int v38, .ref yx, .int v40, .int v41, .int v42])), (yr, .inl (cI, 4668, .inl (jn [0, 4, 0, (nI oo), (nI sn), (nI us), (nI tk), e7, e8, 0, 0, 0, 0, e13, e14, e15, (nI bb), (-1), e18, 0, 0, 0, 0, 0] (upd gr 27 p3))))] H := hP
  have hD : va_D A [(y, .inr (8, [.ref yt, .int v1, .int v2, .ref yr, .ref yk, .ref yz, .ref yp, .int v7, .int v8, .int v9, .int v10, .ref yl, .ref yw, .int v13, .int v14, .int v15, .int v16, .int v17, .int v18, .int v19, .int v20, .int v21, .ref yd, .int v23, .ref ys, .ref yn, .ref ym, .int v27, .ref yf, .ref yo, .ref yh, .ref yb, .int v32, .int v33, .int v34, .int v35, .int v36, .int v37, .int v38, .ref yx, .int v40, .int v41, .int v42])), (yr, .inl (cI, 4668, .inl (jn [0, 4, 0, (nI oo), (nI sn), (nI us), (nI tk), e7, e8, 0, 0, 0, 0, e13, e14, e15, (nI bb), (-1), e18, 0, 0, 0, 0, 0] (upd gr 27 p3))))] := hD
  refine lv_aload_n hx hb dX8_lays_12 rfl (lv_at hl 0 rfl) ?_
  refine va_get (D := (dC, dI)) (ci := 8) (v := .ref yr) (C := RX8) (T := TX8) (N := 43) hx hb hts hinX8 hown hK hP 0 rfl rfl 3 (by decide) k_0 (fun _ h9 => h9) rfl dX8_lays_13 ?_
  refine lv_iload_n hx hb dX8_lays_16 rfl (lv_at hl 1 rfl) ?_
  refine lv_iload_n hx hb dX8_lays_17 rfl (lv_at hl 2 rfl) ?_
  refine lv_iconst (v := 1) hx hb dX8_lays_18 (by decide) ?_
  refine zcSi (As := [.int 0, .int 1, .int 1]) (rest := [.ref yr]) (wr := [(y, .inr (8, [.ref yt, .int v1, .int v2, .ref yr, .ref yk, .ref yz, .ref yp, .int v7, .int v8, .int v9, .int v10, .ref yl, .ref yw, .int v13, .int v14, .int v15, .int v16, .int v17, .int v18, .int v19, .int v20, .int v21, .ref yd, .int v23, .ref ys, .ref yn, .ref ym, .int v27, .ref yf, .ref yo, .ref yh, .ref yb, .int v32, .int v33, .int v34, .int v35, .int v36, .int v37, .int v38, .ref yx, .int v40, .int v41, .int v42])), (yr, .inl (cI, 4668, .inl (jn [0, 4, 0, (nI oo), (nI sn), (nI us), (nI tk), e7, e8, 0, 0, 0, 0, e13, e14, e15, (nI bb), (-1), e18, 0, 0, 0, 0, 0] (upd gr 27 p3))))]) ⟨hx, hb, hml, hown, hts⟩ (kkX8_at_c11 l dC dI cI cB cZ cR H.size  ) (va_cwS 3 hts (zgS wm_400 wm_401 wm_5 wm_402) rfl rfl rfl (by decide +kernel) ⟨Nat.le_of_ble_eq_true rfl, Nat.le_of_ble_eq_true rfl⟩) hN hK hP hD hS hA [] [0, 1] rfl rfl ⟨rfl, rfl⟩ (by decide) rfl hl.1 rfl (Nat.le_of_ble_eq_true rfl) dX8_lays_19 ⟨Nat.le_of_ble_eq_true rfl, Nat.le_of_ble_eq_true rfl⟩ (fun r u hu H locs hP hD hS => ?_)
  have hu : r = 28 := hu
  subst hu
  have hP : va_P (dC, dI) vwCl [(y, .inr (8, [.ref yt, .int v1, .int v2, .ref yr, .ref yk, .ref yz, .ref yp, .int v7, .int v8, .int v9, .int v10, .ref yl, .ref yw, .int v13, .int v14, .int v15, .int v16, .int v17, .int v18, .int v19, .int v20, .int v21, .ref yd, .int v23, .ref ys, .ref yn, .ref ym, .int v27, .ref yf, .ref yo, .ref yh, .ref yb, .int v32, .int v33, .int v34, .int v35, .int v36, .int v37, .int v38, .ref yx, .int v40, .int v41, .int v42])), (yr, .inl (cI, 4668, .inl (jn [0, 4, 0, (nI oo), (nI sn), (nI us), (nI tk), e7, e8, 0, 0, 0, 0, e13, e14, e15, (nI bb), (-1), e18, 0, 0, 0, 0, 0] (upd gr 27 p3))))] H := hP
  have hD : va_D A [(y, .inr (8, [.ref yt, .int v1, .int v2, .ref yr, .ref yk, .ref yz, .ref yp, .int v7, .int v8, .int v9, .int v10, .ref yl, .ref yw, .int v13, .int v14, .int v15, .int v16, .int v17, .int v18, .int v19, .int v20, .int v21, .ref yd, .int v23, .ref ys, .ref yn, .ref ym, .int v27, .ref yf, .ref yo, .ref yh, .ref yb, .int v32, .int v33, .int v34, .int v35, .int v36, .int v37, .int v38, .ref yx, .int v40, .int v41, .int v42])), (yr, .inl (cI, 4668, .inl (jn [0, 4, 0, (nI oo), (nI sn), (nI us), (nI tk), e7, e8, 0, 0, 0, 0, e13, e14, e15, (nI bb), (-1), e18, 0, 0, 0, 0, 0] (upd gr 27 p3))))] := hD
  refine lv_iload hx hb dX8_lays_22 (lv_at hl 4 rfl) ?_
  refine za_iast (f' := (jn [0, 4, 0, (nI oo), (nI sn), (nI us), (nI tk), e7, e8, 0, 0, 0, 0, e13, e14, e15, (nI bb), (-1), e18, 0, 0, 0, 0, 0] (upd (upd gr 27 p3) 28 p4))) hx hb hK hP hD hS 1 0 rfl rfl (zin tn_28 (Nat.le_of_ble_eq_true rfl)) (zup_jh tn_28 (Nat.not_lt_of_le (Nat.le_of_ble_eq_true rfl))) dX8_lays_24 (fun H locs hP hD hS => ?_)
  have hP : va_P (dC, dI) vwCl [(y, .inr (8, [.ref yt, .int v1, .int v2, .ref yr, .ref yk, .ref yz, .ref yp, .int v7, .int v8, .int v9, .int v10, .ref yl, .ref yw, .int v13, .int v14, .int v15, .int v16, .int v17, .int v18, .int v19, .int v20, .int v21, .ref yd, .int v23, .ref ys, .ref yn, .ref ym, .int v27, .ref yf, .ref yo, .ref yh, .ref yb, .int v32, .int v33, .int v34, .int v35, .int v36, .int v37, .int v38, .ref yx, .int v40, .int v41, .int v42])), (yr, .inl (cI, 4668, .inl (jn [0, 4, 0, (nI oo), (nI sn), (nI us), (nI tk), e7, e8, 0, 0, 0, 0, e13, e14, e15, (nI bb), (-1), e18, 0, 0, 0, 0, 0] (upd (upd gr 27 p3) 28 p4))))] H := hP
  have hD : va_D A [(y, .inr (8, [.ref yt, .int v1, .int v2, .ref yr, .ref yk, .ref yz, .ref yp, .int v7, .int v8, .int v9, .int v10, .ref yl, .ref yw, .int v13, .int v14, .int v15, .int v16, .int v17, .int v18, .int v19, .int v20, .int v21, .ref yd, .int v23, .ref ys, .ref yn, .ref ym, .int v27, .ref yf, .ref yo, .ref yh, .ref yb, .int v32, .int v33, .int v34, .int v35, .int v36, .int v37, .int v38, .ref yx, .int v40, .int v41, .int v42])), (yr, .inl (cI, 4668, .inl (jn [0, 4, 0, (nI oo), (nI sn), (nI us), (nI tk), e7, e8, 0, 0, 0, 0, e13, e14, e15, (nI bb), (-1), e18, 0, 0, 0, 0, 0] (upd (upd gr 27 p3) 28 p4))))] := hD
  refine lv_aload_n hx hb dX8_lays_25 rfl (lv_at hl 0 rfl) ?_
  refine va_get (D := (dC, dI)) (ci := 8) (v := .ref yr) (C := RX8) (T := TX8) (N := 43) hx hb hts hinX8 hown hK hP 0 rfl rfl 3 (by decide) k_0 (fun _ h9 => h9) rfl dX8_lays_26 ?_
  refine lv_iload_n hx hb dX8_lays_29 rfl (lv_at hl 1 rfl) ?_
  refine lv_iload_n hx hb dX8_lays_30 rfl (lv_at hl 2 rfl) ?_
  refine lv_iconst (v := 2) hx hb dX8_lays_31 (by decide) ?_
  refine zcSi (As := [.int 0, .int 1, .int 2]) (rest := [.ref yr]) (wr := [(y, .inr (8, [.ref yt, .int v1, .int v2, .ref yr, .ref yk, .ref yz, .ref yp, .int v7, .int v8, .int v9, .int v10, .ref yl, .ref yw, .int v13, .int v14, .int v15, .int v16, .int v17, .int v18, .int v19, .int v20, .int v21, .ref yd, .int v23, .ref ys, .ref yn, .ref ym, .int v27, .ref yf, .ref yo, .ref yh, .ref yb, .int v32, .int v33, .int v34, .int v35, .int v36, .int v37, .int v38, .ref yx, .int v40, .int v41, .int v42])), (yr, .inl (cI, 4668, .inl (jn [0, 4, 0, (nI oo), (nI sn), (nI us), (nI tk), e7, e8, 0, 0, 0, 0, e13, e14, e15, (nI bb), (-1), e18, 0, 0, 0, 0, 0] (upd (upd gr 27 p3) 28 p4))))]) ⟨hx, hb, hml, hown, hts⟩ (kkX8_at_c12 l dC dI cI cB cZ cR H.size  ) (va_cwS 3 hts (zgS wm_400 wm_401 wm_5 wm_402) rfl rfl rfl (by decide +kernel) ⟨Nat.le_of_ble_eq_true rfl, Nat.le_of_ble_eq_true rfl⟩) hN hK hP hD hS hA [] [0, 1] rfl rfl ⟨rfl, rfl⟩ (by decide) rfl hl.1 rfl (Nat.le_of_ble_eq_true rfl) dX8_lays_32 ⟨Nat.le_of_ble_eq_true rfl, Nat.le_of_ble_eq_true rfl⟩ (fun r u hu H locs hP hD hS => ?_)
  have hu : r = 29 := hu
  subst hu
  have hP : va_P (dC, dI) vwCl [(y, .inr (8, [.ref yt, .int v1, .int v2, .ref yr, .ref yk, .ref yz, .ref yp, .int v7, .int v8, .int v9, .int v10, .ref yl, .ref yw, .int v13, .int v14, .int v15, .int v16, .int v17, .int v18, .int v19, .int v20, .int v21, .ref yd, .int v23, .ref ys, .ref yn, .ref ym, .int v27, .ref yf, .ref yo, .ref yh, .ref yb, .int v32, .int v33, .int v34, .int v35, .int v36, .int v37, .int v38, .ref yx, .int v40, .int v41, .int v42])), (yr, .inl (cI, 4668, .inl (jn [0, 4, 0, (nI oo), (nI sn), (nI us), (nI tk), e7, e8, 0, 0, 0, 0, e13, e14, e15, (nI bb), (-1), e18, 0, 0, 0, 0, 0] (upd (upd gr 27 p3) 28 p4))))] H := hP
  have hD : va_D A [(y, .inr (8, [.ref yt, .int v1, .int v2, .ref yr, .ref yk, .ref yz, .ref yp, .int v7, .int v8, .int v9, .int v10, .ref yl, .ref yw, .int v13, .int v14, .int v15, .int v16, .int v17, .int v18, .int v19, .int v20, .int v21, .ref yd, .int v23, .ref ys, .ref yn, .ref ym, .int v27, .ref yf, .ref yo, .ref yh, .ref yb, .int v32, .int v33, .int v34, .int v35, .int v36, .int v37, .int v38, .ref yx, .int v40, .int v41, .int v42])), (yr, .inl (cI, 4668, .inl (jn [0, 4, 0, (nI oo), (nI sn), (nI us), (nI tk), e7, e8, 0, 0, 0, 0, e13, e14, e15, (nI bb), (-1), e18, 0, 0, 0, 0, 0] (upd (upd gr 27 p3) 28 p4))))] := hD
  refine lv_iload hx hb dX8_lays_35 (lv_at hl 5 rfl) ?_
  refine za_iast (f' := (jn [0, 4, 0, (nI oo), (nI sn), (nI us), (nI tk), e7, e8, 0, 0, 0, 0, e13, e14, e15, (nI bb), (-1), e18, 0, 0, 0, 0, 0] (upd (upd (upd gr 27 p3) 28 p4) 29 p5))) hx hb hK hP hD hS 1 0 rfl rfl (zin tn_29 (Nat.le_of_ble_eq_true rfl)) (zup_jh tn_29 (Nat.not_lt_of_le (Nat.le_of_ble_eq_true rfl))) dX8_lays_37 (fun H locs hP hD hS => ?_)
  have hP : va_P (dC, dI) vwCl [(y, .inr (8, [.ref yt, .int v1, .int v2, .ref yr, .ref yk, .ref yz, .ref yp, .int v7, .int v8, .int v9, .int v10, .ref yl, .ref yw, .int v13, .int v14, .int v15, .int v16, .int v17, .int v18, .int v19, .int v20, .int v21, .ref yd, .int v23, .ref ys, .ref yn, .ref ym, .int v27, .ref yf, .ref yo, .ref yh, .ref yb, .int v32, .int v33, .int v34, .int v35, .int v36, .int v37, .int v38, .ref yx, .int v40, .int v41, .int v42])), (yr, .inl (cI, 4668, .inl (jn [0, 4, 0, (nI oo), (nI sn), (nI us), (nI tk), e7, e8, 0, 0, 0, 0, e13, e14, e15, (nI bb), (-1), e18, 0, 0, 0, 0, 0] (upd (upd (upd gr 27 p3) 28 p4) 29 p5))))] H := hP
  have hD : va_D A [(y, .inr (8, [.ref yt, .int v1, .int v2, .ref yr, .ref yk, .ref yz, .ref yp, .int v7, .int v8, .int v9, .int v10, .ref yl, .ref yw, .int v13, .int v14, .int v15, .int v16, .int v17, .int v18, .int v19, .int v20, .int v21, .ref yd, .int v23, .ref ys, .ref yn, .ref ym, .int v27, .ref yf, .ref yo, .ref yh, .ref yb, .int v32, .int v33, .int v34, .int v35, .int v36, .int v37, .int v38, .ref yx, .int v40, .int v41, .int v42])), (yr, .inl (cI, 4668, .inl (jn [0, 4, 0, (nI oo), (nI sn), (nI us), (nI tk), e7, e8, 0, 0, 0, 0, e13, e14, e15, (nI bb), (-1), e18, 0, 0, 0, 0, 0] (upd (upd (upd gr 27 p3) 28 p4) 29 p5))))] := hD
  have hP9 := hP.sub (ws' := [(y, .inr (8, [.ref yt, .int v1, .int v2, .ref yr, .ref yk, .ref yz, .ref yp, .int v7, .int v8, .int v9, .int v10, .ref yl, .ref yw, .int v13, .int v14, .int v15, .int v16, .int v17, .int v18, .int v19, .int v20, .int v21, .ref yd, .int v23, .ref ys, .ref yn, .ref ym, .int v27, .ref yf, .ref yo, .ref yh, .ref yb, .int v32, .int v33, .int v34, .int v35, .int v36, .int v37, .int v38, .ref yx, .int v40, .int v41, .int v42])), (yr, .inl (cI, 4668, .inl (jn [0, 4, 0, (nI oo), (nI sn), (nI us), (nI tk), e7, e8, 0, 0, 0, 0, e13, e14, e15, (nI bb), (-1), e18, 0, 0, 0, 0, 0] (upd (upd (upd gr 27 p3) 28 p4) 29 p5))))]) [0, 1] rfl
  have hD9 := hD.sub (ws' := [(y, .inr (8, [.ref yt, .int v1, .int v2, .ref yr, .ref yk, .ref yz, .ref yp, .int v7, .int v8, .int v9, .int v10, .ref yl, .ref yw, .int v13, .int v14, .int v15, .int v16, .int v17, .int v18, .int v19, .int v20, .int v21, .ref yd, .int v23, .ref ys, .ref yn, .ref ym, .int v27, .ref yf, .ref yo, .ref yh, .ref yb, .int v32, .int v33, .int v34, .int v35, .int v36, .int v37, .int v38, .ref yx, .int v40, .int v41, .int v42])), (yr, .inl (cI, 4668, .inl (jn [0, 4, 0, (nI oo), (nI sn), (nI us), (nI tk), e7, e8, 0, 0, 0, 0, e13, e14, e15, (nI bb), (-1), e18, 0, 0, 0, 0, 0] (upd (upd (upd gr 27 p3) 28 p4) 29 p5))))]) [0, 1] (by decide) rfl
  exact W.vret hx hb hr (fun t ht hW => ⟨⟨(), rfl, trivial, by rw [ht]; exact hP9, va_K.moved hW.alike hK, hD9⟩, hS.F ht⟩) hS.2.2 dX8_lays_38

set_option maxHeartbeats 4000000 in
set_option maxRecDepth 100000 in
theorem kkX8_at_c20 (l : Launch) (dC : Nat → ClassId) (dI : Nat → Nat → Nat) (cI cB cZ cR : ClassId) (sz : Nat) : Met l yX8_at (.code yX8_at cX8_at 3 (some .int) :: wsL_law) ({ frames := 0, cells := 0, slots := 0, locals := 0 }) (zPc dC dI (zT cI cB cZ cR) [.int 0, .int 2, .int 0] sz []) (va_Qi (fun (r : Int32) (_ : Unit) => r = 30) (fun _ : Unit => zB dC dI (zT cI cB cZ cR) (va_A [] sz) []) (va_A [] sz)) 0 0 (va_A [] sz) := by
  refine Met.ofW (cc := cX8_at) (maxL := 3) (ret := (some .int)) (by decide) rfl ?_
  intro p e s m args below meth c s₁ B hml hv
  obtain ⟨rfl, hsz, hP, hK, hD0, hN⟩ := hv
  have hx := B.exec
  have hb := B.bytes
  have hr := B.returns
  have hts := atoms_spec (ws := (.code yX8_at cX8_at 3 (some .int) :: wsL_law)) B.pre
  have hown : s.vm.findClass RX8 = some m.cls := findClass_of_methodNamed B.named
  have hlocks := B.notSynchronized
  subst hsz
  have hD := hD0.self (sz := s.heap.size)
  generalize hAe : va_A [] s.heap.size = A at hD ⊢
  have hA : ∀ q : Nat, s.heap.size ≤ q → A q := fun q h => by rw [← hAe]; exact Or.inr h
  have hP : va_P (dC, dI) vwCl [] s.heap := hP
  have hl := lv_entry ([.int 0, .int 2, .int 0]) (n := 3) (Nat.le_of_ble_eq_true rfl)
  rw [lg_entry_eq]
  generalize (lg_sl ([.int 0, .int 2, .int 0]) ++ List.replicate (3 - (lg_sl ([.int 0, .int 2, .int 0])).length) Slot.unset).toArray = ls at hl ⊢
  have hl : lv_has ls 3 [(0, .int 0), (1, .int 2), (2, .int 0)] := hl
  obtain ⟨H, hH⟩ : ∃ H, H = s.heap := ⟨_, rfl⟩
  rw [← hH] at hP ⊢
  have hS : va_S A s.heap H [] := by rw [hH]; exact va_S.rf
  refine lv_bipush (v := 24) hx hb dX8_at_0 (by decide) ?_
  refine lv_bipush (v := 24) hx hb dX8_at_2 (by decide) ?_
  refine lv_iload_n hx hb dX8_at_4 rfl (lv_at hl 0 rfl) ?_
  refine lv_imul hx hb dX8_at_5 ?_
  refine tp (y := 0) (by decide) ?_
  refine lv_iadd hx hb dX8_at_6 ?_
  refine tp (y := 24) (by decide) ?_
  refine lv_iconst (v := 3) hx hb dX8_at_7 (by decide) ?_
  refine lv_iload_n hx hb dX8_at_8 rfl (lv_at hl 1 rfl) ?_
  refine lv_imul hx hb dX8_at_9 ?_
  refine tp (y := 6) (by decide) ?_
  refine lv_iadd hx hb dX8_at_10 ?_
  refine tp (y := 30) (by decide) ?_
  refine lv_iload_n hx hb dX8_at_11 rfl (lv_at hl 2 rfl) ?_
  refine lv_iadd hx hb dX8_at_12 ?_
  refine tp (y := 30) (by decide) ?_
  have hP9 := hP.sub (ws' := []) [] rfl
  have hD9 := hD.sub (ws' := []) [] (by decide) rfl
  exact W.iret (v := 30) hx hb hr (fun t ht hW => ⟨⟨30, (), rfl, rfl, by rw [ht]; exact hP9, va_K.moved hW.alike hK, hD9⟩, hS.F ht⟩) hS.2.2 dX8_at_13

set_option maxHeartbeats 4000000 in
set_option maxRecDepth 100000 in
theorem kkX8_at_c21 (l : Launch) (dC : Nat → ClassId) (dI : Nat → Nat → Nat) (cI cB cZ cR : ClassId) (sz : Nat) : Met l yX8_at (.code yX8_at cX8_at 3 (some .int) :: wsL_law) ({ frames := 0, cells := 0, slots := 0, locals := 0 }) (zPc dC dI (zT cI cB cZ cR) [.int 0, .int 2, .int 1] sz []) (va_Qi (fun (r : Int32) (_ : Unit) => r = 31) (fun _ : Unit => zB dC dI (zT cI cB cZ cR) (va_A [] sz) []) (va_A [] sz)) 0 0 (va_A [] sz) := by
  refine Met.ofW (cc := cX8_at) (maxL := 3) (ret := (some .int)) (by decide) rfl ?_
  intro p e s m args below meth c s₁ B hml hv
  obtain ⟨rfl, hsz, hP, hK, hD0, hN⟩ := hv
  have hx := B.exec
  have hb := B.bytes
  have hr := B.returns
  have hts := atoms_spec (ws := (.code yX8_at cX8_at 3 (some .int) :: wsL_law)) B.pre
  have hown : s.vm.findClass RX8 = some m.cls := findClass_of_methodNamed B.named
  have hlocks := B.notSynchronized
  subst hsz
  have hD := hD0.self (sz := s.heap.size)
  generalize hAe : va_A [] s.heap.size = A at hD ⊢
  have hA : ∀ q : Nat, s.heap.size ≤ q → A q := fun q h => by rw [← hAe]; exact Or.inr h
  have hP : va_P (dC, dI) vwCl [] s.heap := hP
  have hl := lv_entry ([.int 0, .int 2, .int 1]) (n := 3) (Nat.le_of_ble_eq_true rfl)
  rw [lg_entry_eq]
  generalize (lg_sl ([.int 0, .int 2, .int 1]) ++ List.replicate (3 - (lg_sl ([.int 0, .int 2, .int 1])).length) Slot.unset).toArray = ls at hl ⊢
  have hl : lv_has ls 3 [(0, .int 0), (1, .int 2), (2, .int 1)] := hl
  obtain ⟨H, hH⟩ : ∃ H, H = s.heap := ⟨_, rfl⟩
  rw [← hH] at hP ⊢
  have hS : va_S A s.heap H [] := by rw [hH]; exact va_S.rf
  refine lv_bipush (v := 24) hx hb dX8_at_0 (by decide) ?_
  refine lv_bipush (v := 24) hx hb dX8_at_2 (by decide) ?_
  refine lv_iload_n hx hb dX8_at_4 rfl (lv_at hl 0 rfl) ?_
  refine lv_imul hx hb dX8_at_5 ?_
  refine tp (y := 0) (by decide) ?_
  refine lv_iadd hx hb dX8_at_6 ?_
  refine tp (y := 24) (by decide) ?_
  refine lv_iconst (v := 3) hx hb dX8_at_7 (by decide) ?_
  refine lv_iload_n hx hb dX8_at_8 rfl (lv_at hl 1 rfl) ?_
  refine lv_imul hx hb dX8_at_9 ?_
  refine tp (y := 6) (by decide) ?_
  refine lv_iadd hx hb dX8_at_10 ?_
  refine tp (y := 30) (by decide) ?_
  refine lv_iload_n hx hb dX8_at_11 rfl (lv_at hl 2 rfl) ?_
  refine lv_iadd hx hb dX8_at_12 ?_
  refine tp (y := 31) (by decide) ?_
  have hP9 := hP.sub (ws' := []) [] rfl
  have hD9 := hD.sub (ws' := []) [] (by decide) rfl
  exact W.iret (v := 31) hx hb hr (fun t ht hW => ⟨⟨31, (), rfl, rfl, by rw [ht]; exact hP9, va_K.moved hW.alike hK, hD9⟩, hS.F ht⟩) hS.2.2 dX8_at_13

set_option maxHeartbeats 4000000 in
set_option maxRecDepth 100000 in
theorem kkX8_at_c22 (l : Launch) (dC : Nat → ClassId) (dI : Nat → Nat → Nat) (cI cB cZ cR : ClassId) (sz : Nat) : Met l yX8_at (.code yX8_at cX8_at 3 (some .int) :: wsL_law) ({ frames := 0, cells := 0, slots := 0, locals := 0 }) (zPc dC dI (zT cI cB cZ cR) [.int 0, .int 2, .int 2] sz []) (va_Qi (fun (r : Int32) (_ : Unit) => r = 32) (fun _ : Unit => zB dC dI (zT cI cB cZ cR) (va_A [] sz) []) (va_A [] sz)) 0 0 (va_A [] sz) := by
  refine Met.ofW (cc := cX8_at) (maxL := 3) (ret := (some .int)) (by decide) rfl ?_
  intro p e s m args below meth c s₁ B hml hv
  obtain ⟨rfl, hsz, hP, hK, hD0, hN⟩ := hv
  have hx := B.exec
  have hb := B.bytes
  have hr := B.returns
  have hts := atoms_spec (ws := (.code yX8_at cX8_at 3 (some .int) :: wsL_law)) B.pre
  have hown : s.vm.findClass RX8 = some m.cls := findClass_of_methodNamed B.named
  have hlocks := B.notSynchronized
  subst hsz
  have hD := hD0.self (sz := s.heap.size)
  generalize hAe : va_A [] s.heap.size = A at hD ⊢
  have hA : ∀ q : Nat, s.heap.size ≤ q → A q := fun q h => by rw [← hAe]; exact Or.inr h
  have hP : va_P (dC, dI) vwCl [] s.heap := hP
  have hl := lv_entry ([.int 0, .int 2, .int 2]) (n := 3) (Nat.le_of_ble_eq_true rfl)
  rw [lg_entry_eq]
  generalize (lg_sl ([.int 0, .int 2, .int 2]) ++ List.replicate (3 - (lg_sl ([.int 0, .int 2, .int 2])).length) Slot.unset).toArray = ls at hl ⊢
  have hl : lv_has ls 3 [(0, .int 0), (1, .int 2), (2, .int 2)] := hl
  obtain ⟨H, hH⟩ : ∃ H, H = s.heap := ⟨_, rfl⟩
  rw [← hH] at hP ⊢
  have hS : va_S A s.heap H [] := by rw [hH]; exact va_S.rf
  refine lv_bipush (v := 24) hx hb dX8_at_0 (by decide) ?_
  refine lv_bipush (v := 24) hx hb dX8_at_2 (by decide) ?_
  refine lv_iload_n hx hb dX8_at_4 rfl (lv_at hl 0 rfl) ?_
  refine lv_imul hx hb dX8_at_5 ?_
  refine tp (y := 0) (by decide) ?_
  refine lv_iadd hx hb dX8_at_6 ?_
  refine tp (y := 24) (by decide) ?_
  refine lv_iconst (v := 3) hx hb dX8_at_7 (by decide) ?_
  refine lv_iload_n hx hb dX8_at_8 rfl (lv_at hl 1 rfl) ?_
  refine lv_imul hx hb dX8_at_9 ?_
  refine tp (y := 6) (by decide) ?_
  refine lv_iadd hx hb dX8_at_10 ?_
  refine tp (y := 30) (by decide) ?_
  refine lv_iload_n hx hb dX8_at_11 rfl (lv_at hl 2 rfl) ?_
  refine lv_iadd hx hb dX8_at_12 ?_
  refine tp (y := 32) (by decide) ?_
  have hP9 := hP.sub (ws' := []) [] rfl
  have hD9 := hD.sub (ws' := []) [] (by decide) rfl
  exact W.iret (v := 32) hx hb hr (fun t ht hW => ⟨⟨32, (), rfl, rfl, by rw [ht]; exact hP9, va_K.moved hW.alike hK, hD9⟩, hS.F ht⟩) hS.2.2 dX8_at_13

set_option maxHeartbeats 4000000 in
set_option maxRecDepth 100000 in
theorem kkX8_lays_2 (l : Launch) (dC : Nat → ClassId) (dI : Nat → Nat → Nat) (cI cB cZ cR : ClassId) (sz : Nat) (y : Nat) (yt : Nat) (yr : Nat) (yk : Nat) (yz : Nat) (yp : Nat) (yl : Nat) (yw : Nat) (yd : Nat) (ys : Nat) (yn : Nat) (ym : Nat) (yf : Nat) (yo : Nat) (yh : Nat) (yb : Nat) (yx : Nat) (v1 : Int32) (v2 : Int32) (v7 : Int32) (v8 : Int32) (v9 : Int32) (v10 : Int32) (v13 : Int32) (v14 : Int32) (v15 : Int32) (v16 : Int32) (v17 : Int32) (v18 : Int32) (v19 : Int32) (v20 : Int32) (v21 : Int32) (v23 : Int32) (v27 : Int32) (v32 : Int32) (v33 : Int32) (v34 : Int32) (v35 : Int32) (v36 : Int32) (v37 : Int32) (v38 : Int32) (v40 : Int32) (v41 : Int32) (v42 : Int32) (oo : Nat) (sn : Nat) (us : Nat) (tk : Nat) (bb : Nat) (e7 : Int32) (e8 : Int32) (e13 : Int32) (e14 : Int32) (e15 : Int32) (e18 : Int32) (gr : Nat → Int32) (p3 : Int32) (p4 : Int32) (p5 : Int32) : Met l yX8_lays (.code yX8_lays cX8_lays 6 none :: wsL_law) ({ frames := 1, cells := 0, slots := 0, locals := 22 }) (zPc dC dI (zT cI cB cZ cR) [.ref y, .int 0, .int 2, .int p3, .int p4, .int p5] sz [(y, .inr (8, [.ref yt, .int v1, .int v2, .ref yr, .ref yk, .ref yz, .ref yp, .int v7, .int v8, .int v9, .int v10, .ref yl, .ref yw, .int v13, .int v14, .int v15, .int v16, .int v17, .int v18, .int v19, .int v20, .int v21, .ref yd, .int v23, .ref ys, .ref yn, .ref ym, .int v27, .ref yf, .ref yo, .ref yh, .ref yb, .int v32, .int v33, .int v34, .int v35, .int v36, .int v37, .int v38, .ref yx, .int v40, .int v41, .int v42])), (yr, .inl (cI, 4668, .inl (jn [0, 4, 0, (nI oo), (nI sn), (nI us), (nI tk), e7, e8, 0, 0, 0, 0, e13, e14, e15, (nI bb), (-1), e18, 0, 0, 0, 0, 0] gr)))]) (va_Qv (fun _ : Unit => True) (fun _ : Unit => zB dC dI (zT cI cB cZ cR) (va_A [(y, .inr (8, [.ref yt, .int v1, .int v2, .ref yr, .ref yk, .ref yz, .ref yp, .int v7, .int v8, .int v9, .int v10, .ref yl, .ref yw, .int v13, .int v14, .int v15, .int v16, .int v17, .int v18, .int v19, .int v20, .int v21, .ref yd, .int v23, .ref ys, .ref yn, .ref ym, .int v27, .ref yf, .ref yo, .ref yh, .ref yb, .int v32, .int v33, .int v34, .int v35, .int v36, .int v37, .int v38, .ref yx, .int v40, .int v41, .int v42])), (yr, .inl (cI, 4668, .inl (jn [0, 4, 0, (nI oo), (nI sn), (nI us), (nI tk), e7, e8, 0, 0, 0, 0, e13, e14, e15, (nI bb), (-1), e18, 0, 0, 0, 0, 0] gr)))] sz) [(y, .inr (8, [.ref yt, .int v1, .int v2, .ref yr, .ref yk, .ref yz, .ref yp, .int v7, .int v8, .int v9, .int v10, .ref yl, .ref yw, .int v13, .int v14, .int v15, .int v16, .int v17, .int v18, .int v19, .int v20, .int v21, .ref yd, .int v23, .ref ys, .ref yn, .ref ym, .int v27, .ref yf, .ref yo, .ref yh, .ref yb, .int v32, .int v33, .int v34, .int v35, .int v36, .int v37, .int v38, .ref yx, .int v40, .int v41, .int v42])), (yr, .inl (cI, 4668, .inl (jn [0, 4, 0, (nI oo), (nI sn), (nI us), (nI tk), e7, e8, 0, 0, 0, 0, e13, e14, e15, (nI bb), (-1), e18, 0, 0, 0, 0, 0] (upd (upd (upd gr 30 p3) 31 p4) 32 p5))))]) (va_A [(y, .inr (8, [.ref yt, .int v1, .int v2, .ref yr, .ref yk, .ref yz, .ref yp, .int v7, .int v8, .int v9, .int v10, .ref yl, .ref yw, .int v13, .int v14, .int v15, .int v16, .int v17, .int v18, .int v19, .int v20, .int v21, .ref yd, .int v23, .ref ys, .ref yn, .ref ym, .int v27, .ref yf, .ref yo, .ref yh, .ref yb, .int v32, .int v33, .int v34, .int v35, .int v36, .int v37, .int v38, .ref yx, .int v40, .int v41, .int v42])), (yr, .inl (cI, 4668, .inl (jn [0, 4, 0, (nI oo), (nI sn), (nI us), (nI tk), e7, e8, 0, 0, 0, 0, e13, e14, e15, (nI bb), (-1), e18, 0, 0, 0, 0, 0] gr)))] sz)) 0 0 (va_A [(y, .inr (8, [.ref yt, .int v1, .int v2, .ref yr, .ref yk, .ref yz, .ref yp, .int v7, .int v8, .int v9, .int v10, .ref yl, .ref yw, .int v13, .int v14, .int v15, .int v16, .int v17, .int v18, .int v19, .int v20, .int v21, .ref yd, .int v23, .ref ys, .ref yn, .ref ym, .int v27, .ref yf, .ref yo, .ref yh, .ref yb, .int v32, .int v33, .int v34, .int v35, .int v36, .int v37, .int v38, .ref yx, .int v40, .int v41, .int v42])), (yr, .inl (cI, 4668, .inl (jn [0, 4, 0, (nI oo), (nI sn), (nI us), (nI tk), e7, e8, 0, 0, 0, 0, e13, e14, e15, (nI bb), (-1), e18, 0, 0, 0, 0, 0] gr)))] sz) := by
  refine Met.ofW (cc := cX8_lays) (maxL := 6) (ret := none) (by decide) rfl ?_
  intro p e s m args below meth c s₁ B hml hv
  obtain ⟨rfl, hsz, hP, hK, hD0, hN⟩ := hv
  have hx := B.exec
  have hb := B.bytes
  have hr := B.returns
  have hts := atoms_spec (ws := (.code yX8_lays cX8_lays 6 none :: wsL_law)) B.pre
  have hown : s.vm.findClass RX8 = some m.cls := findClass_of_methodNamed B.named
  have hlocks := B.notSynchronized
  have hinX8 : ∀ w ∈ u_ws RX8 TX8 43, w ∈ (.code yX8_lays cX8_lays 6 none :: wsL_law) := fun w h => List.mem_cons_of_mem _ (inlX8 w h)
  have k_0 := hts (.fieldLink RX8 13 "RingMarksModel" "\x72" "[I") (List.mem_cons_of_mem _ wm_128)
  subst hsz
  have hD := hD0.self (sz := s.heap.size)
  generalize hAe : va_A [(y, .inr (8, [.ref yt, .int v1, .int v2, .ref yr, .ref yk, .ref yz, .ref yp, .int v7, .int v8, .int v9, .int v10, .ref yl, .ref yw, .int v13, .int v14, .int v15, .int v16, .int v17, .int v18, .int v19, .int v20, .int v21, .ref yd, .int v23, .ref ys, .ref yn, .ref ym, .int v27, .ref yf, .ref yo, .ref yh, .ref yb, .int v32, .int v33, .int v34, .int v35, .int v36, .int v37, .int v38, .ref yx, .int v40, .int v41, .int v42])), (yr, .inl (cI, 4668, .inl (jn [0, 4, 0, (nI oo), (nI sn), (nI us), (nI tk), e7, e8, 0, 0, 0, 0, e13, e14, e15, (nI bb), (-1), e18, 0, 0, 0, 0, 0] gr)))] s.heap.size = A at hD ⊢
  have hA : ∀ q : Nat, s.heap.size ≤ q → A q := fun q h => by rw [← hAe]; exact Or.inr h
  have hP : va_P (dC, dI) vwCl [(y, .inr (8, [.ref yt, .int v1, .int v2, .ref yr, .ref yk, .ref yz, .ref yp, .int v7, .int v8, .int v9, .int v10, .ref yl, .ref yw, .int v13, .int v14, .int v15, .int v16, .int v17, .int v18, .int v19, .int v20, .int v21, .ref yd, .int v23, .ref ys, .ref yn, .ref ym, .int v27, .ref yf, .ref yo, .ref yh, .ref yb, .int v32, .int v33, .int v34, .int v35, .int v36, .int v37, .int v38, .ref yx, .int v40, .int v41, .int v42])), (yr, .inl (cI, 4668, .inl (jn [0, 4, 0, (nI oo), (nI sn), (nI us), (nI tk), e7, e8, 0, 0, 0, 0, e13, e14, e15, (nI bb), (-1), e18, 0, 0, 0, 0, 0] gr)))] s.heap := hP
  have hl := lv_entry ([.ref y, .int 0, .int 2, .int p3, .int p4, .int p5]) (n := 6) (Nat.le_of_ble_eq_true rfl)
  rw [lg_entry_eq]
  generalize (lg_sl ([.ref y, .int 0, .int 2, .int p3, .int p4, .int p5]) ++ List.replicate (6 - (lg_sl ([.ref y, .int 0, .int 2, .int p3, .int p4, .int p5])).length) Slot.unset).toArray = ls at hl ⊢
  have hl : lv_has ls 6 [(0, .ref y), (1, .int 0), (2, .int 2), (3, .int p3), (4, .int p4), (5, .int p5)] := hl
  obtain ⟨H, hH⟩ : ∃ H, H = s.heap := ⟨_, rfl⟩
  rw [← hH] at hP ⊢
  have hS : va_S A s.heap H [] := by rw [hH]; exact va_S.rf
  refine lv_aload_n hx hb dX8_lays_0 rfl (lv_at hl 0 rfl) ?_
  refine va_get (D := (dC, dI)) (ci := 8) (v := .ref yr) (C := RX8) (T := TX8) (N := 43) hx hb hts hinX8 hown hK hP 0 rfl rfl 3 (by decide) k_0 (fun _ h9 => h9) rfl dX8_lays_1 ?_
  refine lv_iload_n hx hb dX8_lays_4 rfl (lv_at hl 1 rfl) ?_
  refine lv_iload_n hx hb dX8_lays_5 rfl (lv_at hl 2 rfl) ?_
  refine lv_iconst (v := 0) hx hb dX8_lays_6 (by decide) ?_
  refine zcSi (As := [.int 0, .int 2, .int 0]) (rest := [.ref yr]) (wr := [(y, .inr (8, [.ref yt, .int v1, .int v2, .ref yr, .ref yk, .ref yz, .ref yp, .int v7, .int v8, .int v9, .int v10, .ref yl, .ref yw, .int v13, .int v14, .int v15, .int v16, .int v17, .int v18, .int v19, .int v20, .int v21, .ref yd, .int v23, .ref ys, .ref yn, .ref ym, .int v27, .ref yf, .ref yo, .ref yh, .ref yb, .int v32, .int v33, .int v34, .int v35, .int v36, .int v37, .int v38, .ref yx, .int v40, .int v41, .int v42])), (yr, .inl (cI, 4668, .inl (jn [0, 4, 0, (nI oo), (nI sn), (nI us), (nI tk), e7, e8, 0, 0, 0, 0, e13, e14, e15, (nI bb), (-1), e18, 0, 0, 0, 0, 0] gr)))]) ⟨hx, hb, hml, hown, hts⟩ (kkX8_at_c20 l dC dI cI cB cZ cR H.size  ) (va_cwS 3 hts (zgS wm_400 wm_401 wm_5 wm_402) rfl rfl rfl (by decide +kernel) ⟨Nat.le_of_ble_eq_true rfl, Nat.le_of_ble_eq_true rfl⟩) hN hK hP hD hS hA [] [0, 1] rfl rfl ⟨rfl, rfl⟩ (by decide) rfl hl.1 rfl (Nat.le_of_ble_eq_true rfl) dX8_lays_7 ⟨Nat.le_of_ble_eq_true rfl, Nat.le_of_ble_eq_true rfl⟩ (fun r u hu H locs hP hD hS => ?_)
  have hu : r = 30 := hu
  subst hu
  have hP : va_P (dC, dI) vwCl [(y, .inr (8, [.ref yt, .int v1, .int v2, .ref yr, .ref yk, .ref yz, .ref yp, .int v7, .int v8, .int v9, .int v10, .ref yl, .ref yw, .int v13, .int v14, .int v15, .int v16, .int v17, .int v18, .int v19, .int v20, .int v21, .ref yd, .int v23, .ref ys, .ref yn, .ref ym, .int v27, .ref yf, .ref yo, .ref yh, .ref yb, .int v32, .int v33, .int v34, .int v35, .int v36, .int v37, .int v38, .ref yx, .int v40, .int v41, .int v42])), (yr, .inl (cI, 4668, .inl (jn [0, 4, 0, (nI oo), (nI sn), (nI us), (nI tk), e7, e8, 0, 0, 0, 0, e13, e14, e15, (nI bb), (-1), e18, 0, 0, 0, 0, 0] gr)))] H := hP
  have hD : va_D A [(y, .inr (8, [.ref yt, .int v1, .int v2, .ref yr, .ref yk, .ref yz, .ref yp, .int v7, .int v8, .int v9, .int v10, .ref yl, .ref yw, .int v13, .int v14, .int v15, .int v16, .int v17, .int v18, .int v19, .int v20, .int v21, .ref yd, .int v23, .ref ys, .ref yn, .ref ym, .int v27, .ref yf, .ref yo, .ref yh, .ref yb, .int v32, .int v33, .int v34, .int v35, .int v36, .int v37, .int v38, .ref yx, .int v40, .int v41, .int v42])), (yr, .inl (cI, 4668, .inl (jn [0, 4, 0, (nI oo), (nI sn), (nI us), (nI tk), e7, e8, 0, 0, 0, 0, e13, e14, e15, (nI bb), (-1), e18, 0, 0, 0, 0, 0] gr)))] := hD
  refine lv_iload_n hx hb dX8_lays_10 rfl (lv_at hl 3 rfl) ?_
  refine za_iast (f' := (jn [0, 4, 0, (nI oo), (nI sn), (nI us), (nI tk), e7, e8, 0, 0, 0, 0, e13, e14, e15, (nI bb), (-1), e18, 0, 0, 0, 0, 0] (upd gr 30 p3))) hx hb hK hP hD hS 1 0 rfl rfl (zin tn_30 (Nat.le_of_ble_eq_true rfl)) (zup_jh tn_30 (Nat.not_lt_of_le (Nat.le_of_ble_eq_true rfl))) dX8_lays_11 (fun H locs hP hD hS => ?_)
  have hP : va_P (dC, dI) vwCl [(y, .inr (8, [.ref yt, .int v1, .int v2, .ref yr, .ref yk, .ref yz, .ref yp, .int v7, .int v8, .int v9, .int v10, .ref yl, .ref yw, .int v13, .int v14, .int v15, .int v16, .int v17, .int v18, .int v19, .int v20, .int v21, .ref yd, .int v23, .ref ys, .ref yn, .ref ym, .int v27, .ref yf, .ref yo, .ref yh, .ref yb, .int v32, .int v33, .int v34, .int v35, .int v36, .int v37, .int v38, .ref yx, .int v40, .int v41, .int v42])), (yr, .inl (cI, 4668, .inl (jn [0, 4, 0, (nI oo), (nI sn), (nI us), (nI tk), e7, e8, 0, 0, 0, 0, e13, e14, e15, (nI bb), (-1), e18, 0, 0, 0, 0, 0] (upd gr 30 p3))))] H := hP
  have hD : va_D A [(y, .inr (8, [.ref yt, .int v1, .int v2, .ref yr, .ref yk, .ref yz, .ref yp, .int v7, .int v8, .int v9, .int v10, .ref yl, .ref yw, .int v13, .int v14, .int v15, .int v16, .int v17, .int v18, .int v19, .int v20, .int v21, .ref yd, .int v23, .ref ys, .ref yn, .ref ym, .int v27, .ref yf, .ref yo, .ref yh, .ref yb, .int v32, .int v33, .int v34, .int v35, .int v36, .int v37, .int v38, .ref yx, .int v40, .int v41, .int v42])), (yr, .inl (cI, 4668, .inl (jn [0, 4, 0, (nI oo), (nI sn), (nI us), (nI tk), e7, e8, 0, 0, 0, 0, e13, e14, e15, (nI bb), (-1), e18, 0, 0, 0, 0, 0] (upd gr 30 p3))))] := hD
  refine lv_aload_n hx hb dX8_lays_12 rfl (lv_at hl 0 rfl) ?_
  refine va_get (D := (dC, dI)) (ci := 8) (v := .ref yr) (C := RX8) (T := TX8) (N := 43) hx hb hts hinX8 hown hK hP 0 rfl rfl 3 (by decide) k_0 (fun _ h9 => h9) rfl dX8_lays_13 ?_
  refine lv_iload_n hx hb dX8_lays_16 rfl (lv_at hl 1 rfl) ?_
  refine lv_iload_n hx hb dX8_lays_17 rfl (lv_at hl 2 rfl) ?_
  refine lv_iconst (v := 1) hx hb dX8_lays_18 (by decide) ?_
  refine zcSi (As := [.int 0, .int 2, .int 1]) (rest := [.ref yr]) (wr := [(y, .inr (8, [.ref yt, .int v1, .int v2, .ref yr, .ref yk, .ref yz, .ref yp, .int v7, .int v8, .int v9, .int v10, .ref yl, .ref yw, .int v13, .int v14, .int v15, .int v16, .int v17, .int v18, .int v19, .int v20, .int v21, .ref yd, .int v23, .ref ys, .ref yn, .ref ym, .int v27, .ref yf, .ref yo, .ref yh, .ref yb, .int v32, .int v33, .int v34, .int v35, .int v36, .int v37, .int v38, .ref yx, .int v40, .int v41, .int v42])), (yr, .inl (cI, 4668, .inl (jn [0, 4, 0, (nI oo), (nI sn), (nI us), (nI tk), e7, e8, 0, 0, 0, 0, e13, e14, e15, (nI bb), (-1), e18, 0, 0, 0, 0, 0] (upd gr 30 p3))))]) ⟨hx, hb, hml, hown, hts⟩ (kkX8_at_c21 l dC dI cI cB cZ cR H.size  ) (va_cwS 3 hts (zgS wm_400 wm_401 wm_5 wm_402) rfl rfl rfl (by decide +kernel) ⟨Nat.le_of_ble_eq_true rfl, Nat.le_of_ble_eq_true rfl⟩) hN hK hP hD hS hA [] [0, 1] rfl rfl ⟨rfl, rfl⟩ (by decide) rfl hl.1 rfl (Nat.le_of_ble_eq_true rfl) dX8_lays_19 ⟨Nat.le_of_ble_eq_true rfl, Nat.le_of_ble_eq_true rfl⟩ (fun r u hu H locs hP hD hS => ?_)
  have hu : r = 31 := hu
  subst hu
  have hP : va_P (dC, dI) vwCl [(y, .inr (8, [.ref yt, .int v1, .int v2, .ref yr, .ref yk, .ref yz, .ref yp, .int v7, .int v8, .int v9, .int v10, .ref yl, .ref yw, .int v13, .int v14, .int v15, .int v16, .int v17, .int v18, .int v19, .int v20, .int v21, .ref yd, .int v23, .ref ys, .ref yn, .ref ym, .int v27, .ref yf, .ref yo, .ref yh, .ref yb, .int v32, .int v33, .int v34, .int v35, .int v36, .int v37, .int v38, .ref yx, .int v40, .int v41, .int v42])), (yr, .inl (cI, 4668, .inl (jn [0, 4, 0, (nI oo), (nI sn), (nI us), (nI tk), e7, e8, 0, 0, 0, 0, e13, e14, e15, (nI bb), (-1), e18, 0, 0, 0, 0, 0] (upd gr 30 p3))))] H := hP
  have hD : va_D A [(y, .inr (8, [.ref yt, .int v1, .int v2, .ref yr, .ref yk, .ref yz, .ref yp, .int v7, .int v8, .int v9, .int v10, .ref yl, .ref yw, .int v13, .int v14, .int v15, .int v16, .int v17, .int v18, .int v19, .int v20, .int v21, .ref yd, .int v23, .ref ys, .ref yn, .ref ym, .int v27, .ref yf, .ref yo, .ref yh, .ref yb, .int v32, .int v33, .int v34, .int v35, .int v36, .int v37, .int v38, .ref yx, .int v40, .int v41, .int v42])), (yr, .inl (cI, 4668, .inl (jn [0, 4, 0, (nI oo), (nI sn), (nI us), (nI tk), e7, e8, 0, 0, 0, 0, e13, e14, e15, (nI bb), (-1), e18, 0, 0, 0, 0, 0] (upd gr 30 p3))))] := hD
  refine lv_iload hx hb dX8_lays_22 (lv_at hl 4 rfl) ?_
  refine za_iast (f' := (jn [0, 4, 0, (nI oo), (nI sn), (nI us), (nI tk), e7, e8, 0, 0, 0, 0, e13, e14, e15, (nI bb), (-1), e18, 0, 0, 0, 0, 0] (upd (upd gr 30 p3) 31 p4))) hx hb hK hP hD hS 1 0 rfl rfl (zin tn_31 (Nat.le_of_ble_eq_true rfl)) (zup_jh tn_31 (Nat.not_lt_of_le (Nat.le_of_ble_eq_true rfl))) dX8_lays_24 (fun H locs hP hD hS => ?_)
  have hP : va_P (dC, dI) vwCl [(y, .inr (8, [.ref yt, .int v1, .int v2, .ref yr, .ref yk, .ref yz, .ref yp, .int v7, .int v8, .int v9, .int v10, .ref yl, .ref yw, .int v13, .int v14, .int v15, .int v16, .int v17, .int v18, .int v19, .int v20, .int v21, .ref yd, .int v23, .ref ys, .ref yn, .ref ym, .int v27, .ref yf, .ref yo, .ref yh, .ref yb, .int v32, .int v33, .int v34, .int v35, .int v36, .int v37, .int v38, .ref yx, .int v40, .int v41, .int v42])), (yr, .inl (cI, 4668, .inl (jn [0, 4, 0, (nI oo), (nI sn), (nI us), (nI tk), e7, e8, 0, 0, 0, 0, e13, e14, e15, (nI bb), (-1), e18, 0, 0, 0, 0, 0] (upd (upd gr 30 p3) 31 p4))))] H := hP
  have hD : va_D A [(y, .inr (8, [.ref yt, .int v1, .int v2, .ref yr, .ref yk, .ref yz, .ref yp, .int v7, .int v8, .int v9, .int v10, .ref yl, .ref yw, .int v13, .int v14, .int v15, .int v16, .int v17, .int v18, .int v19, .int v20, .int v21, .ref yd, .int v23, .ref ys, .ref yn, .ref ym, .int v27, .ref yf, .ref yo, .ref yh, .ref yb, .int v32, .int v33, .int v34, .int v35, .int v36, .int v37, .int v38, .ref yx, .int v40, .int v41, .int v42])), (yr, .inl (cI, 4668, .inl (jn [0, 4, 0, (nI oo), (nI sn), (nI us), (nI tk), e7, e8, 0, 0, 0, 0, e13, e14, e15, (nI bb), (-1), e18, 0, 0, 0, 0, 0] (upd (upd gr 30 p3) 31 p4))))] := hD
  refine lv_aload_n hx hb dX8_lays_25 rfl (lv_at hl 0 rfl) ?_
  refine va_get (D := (dC, dI)) (ci := 8) (v := .ref yr) (C := RX8) (T := TX8) (N := 43) hx hb hts hinX8 hown hK hP 0 rfl rfl 3 (by decide) k_0 (fun _ h9 => h9) rfl dX8_lays_26 ?_
  refine lv_iload_n hx hb dX8_lays_29 rfl (lv_at hl 1 rfl) ?_
  refine lv_iload_n hx hb dX8_lays_30 rfl (lv_at hl 2 rfl) ?_
  refine lv_iconst (v := 2) hx hb dX8_lays_31 (by decide) ?_
  refine zcSi (As := [.int 0, .int 2, .int 2]) (rest := [.ref yr]) (wr := [(y, .inr (8, [.ref yt, .int v1, .int v2, .ref yr, .ref yk, .ref yz, .ref yp, .int v7, .int v8, .int v9, .int v10, .ref yl, .ref yw, .int v13, .int v14, .int v15, .int v16, .int v17, .int v18, .int v19, .int v20, .int v21, .ref yd, .int v23, .ref ys, .ref yn, .ref ym, .int v27, .ref yf, .ref yo, .ref yh, .ref yb, .int v32, .int v33, .int v34, .int v35, .int v36, .int v37, .int v38, .ref yx, .int v40, .int v41, .int v42])), (yr, .inl (cI, 4668, .inl (jn [0, 4, 0, (nI oo), (nI sn), (nI us), (nI tk), e7, e8, 0, 0, 0, 0, e13, e14, e15, (nI bb), (-1), e18, 0, 0, 0, 0, 0] (upd (upd gr 30 p3) 31 p4))))]) ⟨hx, hb, hml, hown, hts⟩ (kkX8_at_c22 l dC dI cI cB cZ cR H.size  ) (va_cwS 3 hts (zgS wm_400 wm_401 wm_5 wm_402) rfl rfl rfl (by decide +kernel) ⟨Nat.le_of_ble_eq_true rfl, Nat.le_of_ble_eq_true rfl⟩) hN hK hP hD hS hA [] [0, 1] rfl rfl ⟨rfl, rfl⟩ (by decide) rfl hl.1 rfl (Nat.le_of_ble_eq_true rfl) dX8_lays_32 ⟨Nat.le_of_ble_eq_true rfl, Nat.le_of_ble_eq_true rfl⟩ (fun r u hu H locs hP hD hS => ?_)
  have hu : r = 32 := hu
  subst hu
  have hP : va_P (dC, dI) vwCl [(y, .inr (8, [.ref yt, .int v1, .int v2, .ref yr, .ref yk, .ref yz, .ref yp, .int v7, .int v8, .int v9, .int v10, .ref yl, .ref yw, .int v13, .int v14, .int v15, .int v16, .int v17, .int v18, .int v19, .int v20, .int v21, .ref yd, .int v23, .ref ys, .ref yn, .ref ym, .int v27, .ref yf, .ref yo, .ref yh, .ref yb, .int v32, .int v33, .int v34, .int v35, .int v36, .int v37, .int v38, .ref yx, .int v40, .int v41, .int v42])), (yr, .inl (cI, 4668, .inl (jn [0, 4, 0, (nI oo), (nI sn), (nI us), (nI tk), e7, e8, 0, 0, 0, 0, e13, e14, e15, (nI bb), (-1), e18, 0, 0, 0, 0, 0] (upd (upd gr 30 p3) 31 p4))))] H := hP
  have hD : va_D A [(y, .inr (8, [.ref yt, .int v1, .int v2, .ref yr, .ref yk, .ref yz, .ref yp, .int v7, .int v8, .int v9, .int v10, .ref yl, .ref yw, .int v13, .int v14, .int v15, .int v16, .int v17, .int v18, .int v19, .int v20, .int v21, .ref yd, .int v23, .ref ys, .ref yn, .ref ym, .int v27, .ref yf, .ref yo, .ref yh, .ref yb, .int v32, .int v33, .int v34, .int v35, .int v36, .int v37, .int v38, .ref yx, .int v40, .int v41, .int v42])), (yr, .inl (cI, 4668, .inl (jn [0, 4, 0, (nI oo), (nI sn), (nI us), (nI tk), e7, e8, 0, 0, 0, 0, e13, e14, e15, (nI bb), (-1), e18, 0, 0, 0, 0, 0] (upd (upd gr 30 p3) 31 p4))))] := hD
  refine lv_iload hx hb dX8_lays_35 (lv_at hl 5 rfl) ?_
  refine za_iast (f' := (jn [0, 4, 0, (nI oo), (nI sn), (nI us), (nI tk), e7, e8, 0, 0, 0, 0, e13, e14, e15, (nI bb), (-1), e18, 0, 0, 0, 0, 0] (upd (upd (upd gr 30 p3) 31 p4) 32 p5))) hx hb hK hP hD hS 1 0 rfl rfl (zin tn_32 (Nat.le_of_ble_eq_true rfl)) (zup_jh tn_32 (Nat.not_lt_of_le (Nat.le_of_ble_eq_true rfl))) dX8_lays_37 (fun H locs hP hD hS => ?_)
  have hP : va_P (dC, dI) vwCl [(y, .inr (8, [.ref yt, .int v1, .int v2, .ref yr, .ref yk, .ref yz, .ref yp, .int v7, .int v8, .int v9, .int v10, .ref yl, .ref yw, .int v13, .int v14, .int v15, .int v16, .int v17, .int v18, .int v19, .int v20, .int v21, .ref yd, .int v23, .ref ys, .ref yn, .ref ym, .int v27, .ref yf, .ref yo, .ref yh, .ref yb, .int v32, .int v33, .int v34, .int v35, .int v36, .int v37, .int v38, .ref yx, .int v40, .int v41, .int v42])), (yr, .inl (cI, 4668, .inl (jn [0, 4, 0, (nI oo), (nI sn), (nI us), (nI tk), e7, e8, 0, 0, 0, 0, e13, e14, e15, (nI bb), (-1), e18, 0, 0, 0, 0, 0] (upd (upd (upd gr 30 p3) 31 p4) 32 p5))))] H := hP
  have hD : va_D A [(y, .inr (8, [.ref yt, .int v1, .int v2, .ref yr, .ref yk, .ref yz, .ref yp, .int v7, .int v8, .int v9, .int v10, .ref yl, .ref yw, .int v13, .int v14, .int v15, .int v16, .int v17, .int v18, .int v19, .int v20, .int v21, .ref yd, .int v23, .ref ys, .ref yn, .ref ym, .int v27, .ref yf, .ref yo, .ref yh, .ref yb, .int v32, .int v33, .int v34, .int v35, .int v36, .int v37, .int v38, .ref yx, .int v40, .int v41, .int v42])), (yr, .inl (cI, 4668, .inl (jn [0, 4, 0, (nI oo), (nI sn), (nI us), (nI tk), e7, e8, 0, 0, 0, 0, e13, e14, e15, (nI bb), (-1), e18, 0, 0, 0, 0, 0] (upd (upd (upd gr 30 p3) 31 p4) 32 p5))))] := hD
  have hP9 := hP.sub (ws' := [(y, .inr (8, [.ref yt, .int v1, .int v2, .ref yr, .ref yk, .ref yz, .ref yp, .int v7, .int v8, .int v9, .int v10, .ref yl, .ref yw, .int v13, .int v14, .int v15, .int v16, .int v17, .int v18, .int v19, .int v20, .int v21, .ref yd, .int v23, .ref ys, .ref yn, .ref ym, .int v27, .ref yf, .ref yo, .ref yh, .ref yb, .int v32, .int v33, .int v34, .int v35, .int v36, .int v37, .int v38, .ref yx, .int v40, .int v41, .int v42])), (yr, .inl (cI, 4668, .inl (jn [0, 4, 0, (nI oo), (nI sn), (nI us), (nI tk), e7, e8, 0, 0, 0, 0, e13, e14, e15, (nI bb), (-1), e18, 0, 0, 0, 0, 0] (upd (upd (upd gr 30 p3) 31 p4) 32 p5))))]) [0, 1] rfl
  have hD9 := hD.sub (ws' := [(y, .inr (8, [.ref yt, .int v1, .int v2, .ref yr, .ref yk, .ref yz, .ref yp, .int v7, .int v8, .int v9, .int v10, .ref yl, .ref yw, .int v13, .int v14, .int v15, .int v16, .int v17, .int v18, .int v19, .int v20, .int v21, .ref yd, .int v23, .ref ys, .ref yn, .ref ym, .int v27, .ref yf, .ref yo, .ref yh, .ref yb, .int v32, .int v33, .int v34, .int v35, .int v36, .int v37, .int v38, .ref yx, .int v40, .int v41, .int v42])), (yr, .inl (cI, 4668, .inl (jn [0, 4, 0, (nI oo), (nI sn), (nI us), (nI tk), e7, e8, 0, 0, 0, 0, e13, e14, e15, (nI bb), (-1), e18, 0, 0, 0, 0, 0] (upd (upd (upd gr 30 p3) 31 p4) 32 p5))))]) [0, 1] (by decide) rfl
  exact W.vret hx hb hr (fun t ht hW => ⟨⟨(), rfl, trivial, by rw [ht]; exact hP9, va_K.moved hW.alike hK, hD9⟩, hS.F ht⟩) hS.2.2 dX8_lays_38

set_option maxHeartbeats 4000000 in
set_option maxRecDepth 100000 in
theorem kkX8_at_c30 (l : Launch) (dC : Nat → ClassId) (dI : Nat → Nat → Nat) (cI cB cZ cR : ClassId) (sz : Nat) : Met l yX8_at (.code yX8_at cX8_at 3 (some .int) :: wsL_law) ({ frames := 0, cells := 0, slots := 0, locals := 0 }) (zPc dC dI (zT cI cB cZ cR) [.int 0, .int 3, .int 0] sz []) (va_Qi (fun (r : Int32) (_ : Unit) => r = 33) (fun _ : Unit => zB dC dI (zT cI cB cZ cR) (va_A [] sz) []) (va_A [] sz)) 0 0 (va_A [] sz) := by
  refine Met.ofW (cc := cX8_at) (maxL := 3) (ret := (some .int)) (by decide) rfl ?_
  intro p e s m args below meth c s₁ B hml hv
  obtain ⟨rfl, hsz, hP, hK, hD0, hN⟩ := hv
  have hx := B.exec
  have hb := B.bytes
  have hr := B.returns
  have hts := atoms_spec (ws := (.code yX8_at cX8_at 3 (some .int) :: wsL_law)) B.pre
  have hown : s.vm.findClass RX8 = some m.cls := findClass_of_methodNamed B.named
  have hlocks := B.notSynchronized
  subst hsz
  have hD := hD0.self (sz := s.heap.size)
  generalize hAe : va_A [] s.heap.size = A at hD ⊢
  have hA : ∀ q : Nat, s.heap.size ≤ q → A q := fun q h => by rw [← hAe]; exact Or.inr h
  have hP : va_P (dC, dI) vwCl [] s.heap := hP
  have hl := lv_entry ([.int 0, .int 3, .int 0]) (n := 3) (Nat.le_of_ble_eq_true rfl)
  rw [lg_entry_eq]
  generalize (lg_sl ([.int 0, .int 3, .int 0]) ++ List.replicate (3 - (lg_sl ([.int 0, .int 3, .int 0])).length) Slot.unset).toArray = ls at hl ⊢
  have hl : lv_has ls 3 [(0, .int 0), (1, .int 3), (2, .int 0)] := hl
  obtain ⟨H, hH⟩ : ∃ H, H = s.heap := ⟨_, rfl⟩
  rw [← hH] at hP ⊢
  have hS : va_S A s.heap H [] := by rw [hH]; exact va_S.rf
  refine lv_bipush (v := 24) hx hb dX8_at_0 (by decide) ?_
  refine lv_bipush (v := 24) hx hb dX8_at_2 (by decide) ?_
  refine lv_iload_n hx hb dX8_at_4 rfl (lv_at hl 0 rfl) ?_
  refine lv_imul hx hb dX8_at_5 ?_
  refine tp (y := 0) (by decide) ?_
  refine lv_iadd hx hb dX8_at_6 ?_
  refine tp (y := 24) (by decide) ?_
  refine lv_iconst (v := 3) hx hb dX8_at_7 (by decide) ?_
  refine lv_iload_n hx hb dX8_at_8 rfl (lv_at hl 1 rfl) ?_
  refine lv_imul hx hb dX8_at_9 ?_
  refine tp (y := 9) (by decide) ?_
  refine lv_iadd hx hb dX8_at_10 ?_
  refine tp (y := 33) (by decide) ?_
  refine lv_iload_n hx hb dX8_at_11 rfl (lv_at hl 2 rfl) ?_
  refine lv_iadd hx hb dX8_at_12 ?_
  refine tp (y := 33) (by decide) ?_
  have hP9 := hP.sub (ws' := []) [] rfl
  have hD9 := hD.sub (ws' := []) [] (by decide) rfl
  exact W.iret (v := 33) hx hb hr (fun t ht hW => ⟨⟨33, (), rfl, rfl, by rw [ht]; exact hP9, va_K.moved hW.alike hK, hD9⟩, hS.F ht⟩) hS.2.2 dX8_at_13

set_option maxHeartbeats 4000000 in
set_option maxRecDepth 100000 in
theorem kkX8_at_c31 (l : Launch) (dC : Nat → ClassId) (dI : Nat → Nat → Nat) (cI cB cZ cR : ClassId) (sz : Nat) : Met l yX8_at (.code yX8_at cX8_at 3 (some .int) :: wsL_law) ({ frames := 0, cells := 0, slots := 0, locals := 0 }) (zPc dC dI (zT cI cB cZ cR) [.int 0, .int 3, .int 1] sz []) (va_Qi (fun (r : Int32) (_ : Unit) => r = 34) (fun _ : Unit => zB dC dI (zT cI cB cZ cR) (va_A [] sz) []) (va_A [] sz)) 0 0 (va_A [] sz) := by
  refine Met.ofW (cc := cX8_at) (maxL := 3) (ret := (some .int)) (by decide) rfl ?_
  intro p e s m args below meth c s₁ B hml hv
  obtain ⟨rfl, hsz, hP, hK, hD0, hN⟩ := hv
  have hx := B.exec
  have hb := B.bytes
  have hr := B.returns
  have hts := atoms_spec (ws := (.code yX8_at cX8_at 3 (some .int) :: wsL_law)) B.pre
  have hown : s.vm.findClass RX8 = some m.cls := findClass_of_methodNamed B.named
  have hlocks := B.notSynchronized
  subst hsz
  have hD := hD0.self (sz := s.heap.size)
  generalize hAe : va_A [] s.heap.size = A at hD ⊢
  have hA : ∀ q : Nat, s.heap.size ≤ q → A q := fun q h => by rw [← hAe]; exact Or.inr h
  have hP : va_P (dC, dI) vwCl [] s.heap := hP
  have hl := lv_entry ([.int 0, .int 3, .int 1]) (n := 3) (Nat.le_of_ble_eq_true rfl)
  rw [lg_entry_eq]
  generalize (lg_sl ([.int 0, .int 3, .int 1]) ++ List.replicate (3 - (lg_sl ([.int 0, .int 3, .int 1])).length) Slot.unset).toArray = ls at hl ⊢
  have hl : lv_has ls 3 [(0, .int 0), (1, .int 3), (2, .int 1)] := hl
  obtain ⟨H, hH⟩ : ∃ H, H = s.heap := ⟨_, rfl⟩
  rw [← hH] at hP ⊢
  have hS : va_S A s.heap H [] := by rw [hH]; exact va_S.rf
  refine lv_bipush (v := 24) hx hb dX8_at_0 (by decide) ?_
  refine lv_bipush (v := 24) hx hb dX8_at_2 (by decide) ?_
  refine lv_iload_n hx hb dX8_at_4 rfl (lv_at hl 0 rfl) ?_
  refine lv_imul hx hb dX8_at_5 ?_
  refine tp (y := 0) (by decide) ?_
  refine lv_iadd hx hb dX8_at_6 ?_
  refine tp (y := 24) (by decide) ?_
  refine lv_iconst (v := 3) hx hb dX8_at_7 (by decide) ?_
  refine lv_iload_n hx hb dX8_at_8 rfl (lv_at hl 1 rfl) ?_
  refine lv_imul hx hb dX8_at_9 ?_
  refine tp (y := 9) (by decide) ?_
  refine lv_iadd hx hb dX8_at_10 ?_
  refine tp (y := 33) (by decide) ?_
  refine lv_iload_n hx hb dX8_at_11 rfl (lv_at hl 2 rfl) ?_
  refine lv_iadd hx hb dX8_at_12 ?_
  refine tp (y := 34) (by decide) ?_
  have hP9 := hP.sub (ws' := []) [] rfl
  have hD9 := hD.sub (ws' := []) [] (by decide) rfl
  exact W.iret (v := 34) hx hb hr (fun t ht hW => ⟨⟨34, (), rfl, rfl, by rw [ht]; exact hP9, va_K.moved hW.alike hK, hD9⟩, hS.F ht⟩) hS.2.2 dX8_at_13

set_option maxHeartbeats 4000000 in
set_option maxRecDepth 100000 in
theorem kkX8_at_c32 (l : Launch) (dC : Nat → ClassId) (dI : Nat → Nat → Nat) (cI cB cZ cR : ClassId) (sz : Nat) : Met l yX8_at (.code yX8_at cX8_at 3 (some .int) :: wsL_law) ({ frames := 0, cells := 0, slots := 0, locals := 0 }) (zPc dC dI (zT cI cB cZ cR) [.int 0, .int 3, .int 2] sz []) (va_Qi (fun (r : Int32) (_ : Unit) => r = 35) (fun _ : Unit => zB dC dI (zT cI cB cZ cR) (va_A [] sz) []) (va_A [] sz)) 0 0 (va_A [] sz) := by
  refine Met.ofW (cc := cX8_at) (maxL := 3) (ret := (some .int)) (by decide) rfl ?_
  intro p e s m args below meth c s₁ B hml hv
  obtain ⟨rfl, hsz, hP, hK, hD0, hN⟩ := hv
  have hx := B.exec
  have hb := B.bytes
  have hr := B.returns
  have hts := atoms_spec (ws := (.code yX8_at cX8_at 3 (some .int) :: wsL_law)) B.pre
  have hown : s.vm.findClass RX8 = some m.cls := findClass_of_methodNamed B.named
  have hlocks := B.notSynchronized
  subst hsz
  have hD := hD0.self (sz := s.heap.size)
  generalize hAe : va_A [] s.heap.size = A at hD ⊢
  have hA : ∀ q : Nat, s.heap.size ≤ q → A q := fun q h => by rw [← hAe]; exact Or.inr h
  have hP : va_P (dC, dI) vwCl [] s.heap := hP
  have hl := lv_entry ([.int 0, .int 3, .int 2]) (n := 3) (Nat.le_of_ble_eq_true rfl)
  rw [lg_entry_eq]
  generalize (lg_sl ([.int 0, .int 3, .int 2]) ++ List.replicate (3 - (lg_sl ([.int 0, .int 3, .int 2])).length) Slot.unset).toArray = ls at hl ⊢
  have hl : lv_has ls 3 [(0, .int 0), (1, .int 3), (2, .int 2)] := hl
  obtain ⟨H, hH⟩ : ∃ H, H = s.heap := ⟨_, rfl⟩
  rw [← hH] at hP ⊢
  have hS : va_S A s.heap H [] := by rw [hH]; exact va_S.rf
  refine lv_bipush (v := 24) hx hb dX8_at_0 (by decide) ?_
  refine lv_bipush (v := 24) hx hb dX8_at_2 (by decide) ?_
  refine lv_iload_n hx hb dX8_at_4 rfl (lv_at hl 0 rfl) ?_
  refine lv_imul hx hb dX8_at_5 ?_
  refine tp (y := 0) (by decide) ?_
  refine lv_iadd hx hb dX8_at_6 ?_
  refine tp (y := 24) (by decide) ?_
  refine lv_iconst (v := 3) hx hb dX8_at_7 (by decide) ?_
  refine lv_iload_n hx hb dX8_at_8 rfl (lv_at hl 1 rfl) ?_
  refine lv_imul hx hb dX8_at_9 ?_
  refine tp (y := 9) (by decide) ?_
  refine lv_iadd hx hb dX8_at_10 ?_
  refine tp (y := 33) (by decide) ?_
  refine lv_iload_n hx hb dX8_at_11 rfl (lv_at hl 2 rfl) ?_
  refine lv_iadd hx hb dX8_at_12 ?_
  refine tp (y := 35) (by decide) ?_
  have hP9 := hP.sub (ws' := []) [] rfl
  have hD9 := hD.sub (ws' := []) [] (by decide) rfl
  exact W.iret (v := 35) hx hb hr (fun t ht hW => ⟨⟨35, (), rfl, rfl, by rw [ht]; exact hP9, va_K.moved hW.alike hK, hD9⟩, hS.F ht⟩) hS.2.2 dX8_at_13

set_option maxHeartbeats 4000000 in
set_option maxRecDepth 100000 in
theorem kkX8_lays_3 (l : Launch) (dC : Nat → ClassId) (dI : Nat → Nat → Nat) (cI cB cZ cR : ClassId) (sz : Nat) (y : Nat) (yt : Nat) (yr : Nat) (yk : Nat) (yz : Nat) (yp : Nat) (yl : Nat) (yw : Nat) (yd : Nat) (ys : Nat) (yn : Nat) (ym : Nat) (yf : Nat) (yo : Nat) (yh : Nat) (yb : Nat) (yx : Nat) (v1 : Int32) (v2 : Int32) (v7 : Int32) (v8 : Int32) (v9 : Int32) (v10 : Int32) (v13 : Int32) (v14 : Int32) (v15 : Int32) (v16 : Int32) (v17 : Int32) (v18 : Int32) (v19 : Int32) (v20 : Int32) (v21 : Int32) (v23 : Int32) (v27 : Int32) (v32 : Int32) (v33 : Int32) (v34 : Int32) (v35 : Int32) (v36 : Int32) (v37 : Int32) (v38 : Int32) (v40 : Int32) (v41 : Int32) (v42 : Int32) (oo : Nat) (sn : Nat) (us : Nat) (tk : Nat) (bb : Nat) (e7 : Int32) (e8 : Int32) (e13 : Int32) (e14 : Int32) (e15 : Int32) (e18 : Int32) (gr : Nat → Int32) (p3 : Int32) (p4 : Int32) (p5 : Int32) : Met l yX8_lays (.code yX8_lays cX8_lays 6 none :: wsL_law) ({ frames := 1, cells := 0, slots := 0, locals := 22 }) (zPc dC dI (zT cI cB cZ cR) [.ref y, .int 0, .int 3, .int p3, .int p4, .int p5] sz [(y, .inr (8, [.ref yt, .int v1, .int v2, .ref yr, .ref yk, .ref yz, .ref yp, .int v7, .int v8, .int v9, .int v10, .ref yl, .ref yw, .int v13, .int v14, .int v15, .int v16, .int v17, .int v18, .int v19, .int v20, .int v21, .ref yd, .int v23, .ref ys, .ref yn, .ref ym, .int v27, .ref yf, .ref yo, .ref yh, .ref yb, .int v32, .int v33, .int v34, .int v35, .int v36, .int v37, .int v38, .ref yx, .int v40, .int v41, .int v42])), (yr, .inl (cI, 4668, .inl (jn [0, 4, 0, (nI oo), (nI sn), (nI us), (nI tk), e7, e8, 0, 0, 0, 0, e13, e14, e15, (nI bb), (-1), e18, 0, 0, 0, 0, 0] gr)))]) (va_Qv (fun _ : Unit => True) (fun _ : Unit => zB dC dI (zT cI cB cZ cR) (va_A [(y, .inr (8, [.ref yt, .int v1, .int v2, .ref yr, .ref yk, .ref yz, .ref yp, .int v7, .int v8, .int v9, .int v10, .ref yl, .ref yw, .int v13, .int v14, .int v15, .int v16, .int v17, .int v18, .int v19, .int v20, .int v21, .ref yd, .int v23, .ref ys, .ref yn, .ref ym, .int v27, .ref yf, .ref yo, .ref yh, .ref yb, .int v32, .int v33, .int v34, .int v35, .int v36, .int v37, .int v38, .ref yx, .int v40, .int v41, .int v42])), (yr, .inl (cI, 4668, .inl (jn [0, 4, 0, (nI oo), (nI sn), (nI us), (nI tk), e7, e8, 0, 0, 0, 0, e13, e14, e15, (nI bb), (-1), e18, 0, 0, 0, 0, 0] gr)))] sz) [(y, .inr (8, [.ref yt, .int v1, .int v2, .ref yr, .ref yk, .ref yz, .ref yp, .int v7, .int v8, .int v9, .int v10, .ref yl, .ref yw, .int v13, .int v14, .int v15, .int v16, .int v17, .int v18, .int v19, .int v20, .int v21, .ref yd, .int v23, .ref ys, .ref yn, .ref ym, .int v27, .ref yf, .ref yo, .ref yh, .ref yb, .int v32, .int v33, .int v34, .int v35, .int v36, .int v37, .int v38, .ref yx, .int v40, .int v41, .int v42])), (yr, .inl (cI, 4668, .inl (jn [0, 4, 0, (nI oo), (nI sn), (nI us), (nI tk), e7, e8, 0, 0, 0, 0, e13, e14, e15, (nI bb), (-1), e18, 0, 0, 0, 0, 0] (upd (upd (upd gr 33 p3) 34 p4) 35 p5))))]) (va_A [(y, .inr (8, [.ref yt, .int v1, .int v2, .ref yr, .ref yk, .ref yz, .ref yp, .int v7, .int v8, .int v9, .int v10, .ref yl, .ref yw, .int v13, .int v14, .int v15, .int v16, .int v17, .int v18, .int v19, .int v20, .int v21, .ref yd, .int v23, .ref ys, .ref yn, .ref ym, .int v27, .ref yf, .ref yo, .ref yh, .ref yb, .int v32, .int v33, .int v34, .int v35, .int v36, .int v37, .int v38, .ref yx, .int v40, .int v41, .int v42])), (yr, .inl (cI, 4668, .inl (jn [0, 4, 0, (nI oo), (nI sn), (nI us), (nI tk), e7, e8, 0, 0, 0, 0, e13, e14, e15, (nI bb), (-1), e18, 0, 0, 0, 0, 0] gr)))] sz)) 0 0 (va_A [(y, .inr (8, [.ref yt, .int v1, .int v2, .ref yr, .ref yk, .ref yz, .ref yp, .int v7, .int v8, .int v9, .int v10, .ref yl, .ref yw, .int v13, .int v14, .int v15, .int v16, .int v17, .int v18, .int v19, .int v20, .int v21, .ref yd, .int v23, .ref ys, .ref yn, .ref ym, .int v27, .ref yf, .ref yo, .ref yh, .ref yb, .int v32, .int v33, .int v34, .int v35, .int v36, .int v37, .int v38, .ref yx, .int v40, .int v41, .int v42])), (yr, .inl (cI, 4668, .inl (jn [0, 4, 0, (nI oo), (nI sn), (nI us), (nI tk), e7, e8, 0, 0, 0, 0, e13, e14, e15, (nI bb), (-1), e18, 0, 0, 0, 0, 0] gr)))] sz) := by
  refine Met.ofW (cc := cX8_lays) (maxL := 6) (ret := none) (by decide) rfl ?_
  intro p e s m args below meth c s₁ B hml hv
  obtain ⟨rfl, hsz, hP, hK, hD0, hN⟩ := hv
  have hx := B.exec
  have hb := B.bytes
  have hr := B.returns
  have hts := atoms_spec (ws := (.code yX8_lays cX8_lays 6 none :: wsL_law)) B.pre
  have hown : s.vm.findClass RX8 = some m.cls := findClass_of_methodNamed B.named
  have hlocks := B.notSynchronized
  have hinX8 : ∀ w ∈ u_ws RX8 TX8 43, w ∈ (.code yX8_lays cX8_lays 6 none :: wsL_law) := fun w h => List.mem_cons_of_mem _ (inlX8 w h)
  have k_0 := hts (.fieldLink RX8 13 "RingMarksModel" "\x72" "[I") (List.mem_cons_of_mem _ wm_128)
  subst hsz
  have hD := hD0.self (sz := s.heap.size)
  generalize hAe : va_A [(y, .inr (8, [.ref yt, .int v1, .int v2, .ref yr, .ref yk, .ref yz, .ref yp, .int v7, .int v8, .int v9, .int v10, .ref yl, .ref yw, .int v13, .int v14, .int v15, .int v16, .int v17, .int v18, .int v19, .int v20, .int v21, .ref yd, .int v23, .ref ys, .ref yn, .ref ym, .int v27, .ref yf, .ref yo, .ref yh, .ref yb, .int v32, .int v33, .int v34, .int v35, .int v36, .int v37, .int v38, .ref yx, .int v40, .int v41, .int v42])), (yr, .inl (cI, 4668, .inl (jn [0, 4, 0, (nI oo), (nI sn), (nI us), (nI tk), e7, e8, 0, 0, 0, 0, e13, e14, e15, (nI bb), (-1), e18, 0, 0, 0, 0, 0] gr)))] s.heap.size = A at hD ⊢
  have hA : ∀ q : Nat, s.heap.size ≤ q → A q := fun q h => by rw [← hAe]; exact Or.inr h
  have hP : va_P (dC, dI) vwCl [(y, .inr (8, [.ref yt, .int v1, .int v2, .ref yr, .ref yk, .ref yz, .ref yp, .int v7, .int v8, .int v9, .int v10, .ref yl, .ref yw, .int v13, .int v14, .int v15, .int v16, .int v17, .int v18, .int v19, .int v20, .int v21, .ref yd, .int v23, .ref ys, .ref yn, .ref ym, .int v27, .ref yf, .ref yo, .ref yh, .ref yb, .int v32, .int v33, .int v34, .int v35, .int v36, .int v37, .int v38, .ref yx, .int v40, .int v41, .int v42])), (yr, .inl (cI, 4668, .inl (jn [0, 4, 0, (nI oo), (nI sn), (nI us), (nI tk), e7, e8, 0, 0, 0, 0, e13, e14, e15, (nI bb), (-1), e18, 0, 0, 0, 0, 0] gr)))] s.heap := hP
  have hl := lv_entry ([.ref y, .int 0, .int 3, .int p3, .int p4, .int p5]) (n := 6) (Nat.le_of_ble_eq_true rfl)
  rw [lg_entry_eq]
  generalize (lg_sl ([.ref y, .int 0, .int 3, .int p3, .int p4, .int p5]) ++ List.replicate (6 - (lg_sl ([.ref y, .int 0, .int 3, .int p3, .int p4, .int p5])).length) Slot.unset).toArray = ls at hl ⊢
  have hl : lv_has ls 6 [(0, .ref y), (1, .int 0), (2, .int 3), (3, .int p3), (4, .int p4), (5, .int p5)] := hl
  obtain ⟨H, hH⟩ : ∃ H, H = s.heap := ⟨_, rfl⟩
  rw [← hH] at hP ⊢
  have hS : va_S A s.heap H [] := by rw [hH]; exact va_S.rf
  refine lv_aload_n hx hb dX8_lays_0 rfl (lv_at hl 0 rfl) ?_
  refine va_get (D := (dC, dI)) (ci := 8) (v := .ref yr) (C := RX8) (T := TX8) (N := 43) hx hb hts hinX8 hown hK hP 0 rfl rfl 3 (by decide) k_0 (fun _ h9 => h9) rfl dX8_lays_1 ?_
  refine lv_iload_n hx hb dX8_lays_4 rfl (lv_at hl 1 rfl) ?_
  refine lv_iload_n hx hb dX8_lays_5 rfl (lv_at hl 2 rfl) ?_
  refine lv_iconst (v := 0) hx hb dX8_lays_6 (by decide) ?_
  refine zcSi (As := [.int 0, .int 3, .int 0]) (rest := [.ref yr]) (wr := [(y, .inr (8, [.ref yt, .int v1, .int v2, .ref yr, .ref yk, .ref yz, .ref yp, .int v7, .int v8, .int v9, .int v10, .ref yl, .ref yw, .int v13, .int v14, .int v15, .int v16, .int v17, .int v18, .int v19, .int v20, .int v21, .ref yd, .int v23, .ref ys, .ref yn, .ref ym, .int v27, .ref yf, .ref yo, .ref yh, .ref yb, .int v32, .int v33, .int v34, .int v35, .int v36, .int v37, .int v38, .ref yx, .int v40, .int v41, .int v42])), (yr, .inl (cI, 4668, .inl (jn [0, 4, 0, (nI oo), (nI sn), (nI us), (nI tk), e7, e8, 0, 0, 0, 0, e13, e14, e15, (nI bb), (-1), e18, 0, 0, 0, 0, 0] gr)))]) ⟨hx, hb, hml, hown, hts⟩ (kkX8_at_c30 l dC dI cI cB cZ cR H.size  ) (va_cwS 3 hts (zgS wm_400 wm_401 wm_5 wm_402) rfl rfl rfl (by decide +kernel) ⟨Nat.le_of_ble_eq_true rfl, Nat.le_of_ble_eq_true rfl⟩) hN hK hP hD hS hA [] [0, 1] rfl rfl ⟨rfl, rfl⟩ (by decide) rfl hl.1 rfl (Nat.le_of_ble_eq_true rfl) dX8_lays_7 ⟨Nat.le_of_ble_eq_true rfl, Nat.le_of_ble_eq_true rfl⟩ (fun r u hu H locs hP hD hS => ?_)
  have hu : r = 33 := hu
  subst hu
  have hP : va_P (dC, dI) vwCl [(y, .inr (8, [.ref yt, .int v1, .int v2, .ref yr, .ref yk, .ref yz, .ref yp, .int v7, .int v8, .int v9, .int v10, .ref yl, .ref yw, .int v13, .int v14, .int v15, .int v16, .int v17, .int v18, .int v19, .int v20, .int v21, .ref yd, .int v23, .ref ys, .ref yn, .ref ym, .int v27, .ref yf, .ref yo, .ref yh, .ref yb, .int v32, .int v33, .int v34, .int v35, .int v36, .int v37, .int v38, .ref yx, .int v40, .int v41, .int v42])), (yr, .inl (cI, 4668, .inl (jn [0, 4, 0, (nI oo), (nI sn), (nI us), (nI tk), e7, e8, 0, 0, 0, 0, e13, e14, e15, (nI bb), (-1), e18, 0, 0, 0, 0, 0] gr)))] H := hP
  have hD : va_D A [(y, .inr (8, [.ref yt, .int v1, .int v2, .ref yr, .ref yk, .ref yz, .ref yp, .int v7, .int v8, .int v9, .int v10, .ref yl, .ref yw, .int v13, .int v14, .int v15, .int v16, .int v17, .int v18, .int v19, .int v20, .int v21, .ref yd, .int v23, .ref ys, .ref yn, .ref ym, .int v27, .ref yf, .ref yo, .ref yh, .ref yb, .int v32, .int v33, .int v34, .int v35, .int v36, .int v37, .int v38, .ref yx, .int v40, .int v41, .int v42])), (yr, .inl (cI, 4668, .inl (jn [0, 4, 0, (nI oo), (nI sn), (nI us), (nI tk), e7, e8, 0, 0, 0, 0, e13, e14, e15, (nI bb), (-1), e18, 0, 0, 0, 0, 0] gr)))] := hD
  refine lv_iload_n hx hb dX8_lays_10 rfl (lv_at hl 3 rfl) ?_
  refine za_iast (f' := (jn [0, 4, 0, (nI oo), (nI sn), (nI us), (nI tk), e7, e8, 0, 0, 0, 0, e13, e14, e15, (nI bb), (-1), e18, 0, 0, 0, 0, 0] (upd gr 33 p3))) hx hb hK hP hD hS 1 0 rfl rfl (zin tn_33 (Nat.le_of_ble_eq_true rfl)) (zup_jh tn_33 (Nat.not_lt_of_le (Nat.le_of_ble_eq_true rfl))) dX8_lays_11 (fun H locs hP hD hS => ?_)
  have hP : va_P (dC, dI) vwCl [(y, .inr (8, [.ref yt, .int v1, .int v2, .ref yr, .ref yk, .ref yz, .ref yp, .int v7, .int v8, .int v9, .int v10, .ref yl, .ref yw, .int v13, .int v14, .int v15, .int v16, .int v17, .int v18, .int v19, .int v20, .int v21, .ref yd, .int v23, .ref ys, .ref yn, .ref ym, .int v27, .ref yf, .ref yo, .ref yh, .ref yb, .int v32, .int v33, .int v34, .int v35, .int v36, .int v37, .int v38, .ref yx, .int v40, .int v41, .int v42])), (yr, .inl (cI, 4668, .inl (jn [0, 4, 0, (nI oo), (nI sn), (nI us), (nI tk), e7, e8, 0, 0, 0, 0, e13, e14, e15, (nI bb), (-1), e18, 0, 0, 0, 0, 0] (upd gr 33 p3))))] H := hP
  have hD : va_D A [(y, .inr (8, [.ref yt, .int v1, .int v2, .ref yr, .ref yk, .ref yz, .ref yp, .int v7, .int v8, .int v9, .int v10, .ref yl, .ref yw, .int v13, .int v14, .int v15, .int v16, .int v17, .int v18, .int v19, .int v20, .int v21, .ref yd, .int v23, .ref ys, .ref yn, .ref ym, .int v27, .ref yf, .ref yo, .ref yh, .ref yb, .int v32, .int v33, .int v34, .int v35, .int v36, .int v37, .int v38, .ref yx, .int v40, .int v41, .int v42])), (yr, .inl (cI, 4668, .inl (jn [0, 4, 0, (nI oo), (nI sn), (nI us), (nI tk), e7, e8, 0, 0, 0, 0, e13, e14, e15, (nI bb), (-1), e18, 0, 0, 0, 0, 0] (upd gr 33 p3))))] := hD
  refine lv_aload_n hx hb dX8_lays_12 rfl (lv_at hl 0 rfl) ?_
  refine va_get (D := (dC, dI)) (ci := 8) (v := .ref yr) (C := RX8) (T := TX8) (N := 43) hx hb hts hinX8 hown hK hP 0 rfl rfl 3 (by decide) k_0 (fun _ h9 => h9) rfl dX8_lays_13 ?_
  refine lv_iload_n hx hb dX8_lays_16 rfl (lv_at hl 1 rfl) ?_
  refine lv_iload_n hx hb dX8_lays_17 rfl (lv_at hl 2 rfl) ?_
  refine lv_iconst (v := 1) hx hb dX8_lays_18 (by decide) ?_
  refine zcSi (As := [.int 0, .int 3, .int 1]) (rest := [.ref yr]) (wr := [(y, .inr (8, [.ref yt, .int v1, .int v2, .ref yr, .ref yk, .ref yz, .ref yp, .int v7, .int v8, .int v9, .int v10, .ref yl, .ref yw, .int v13, .int v14, .int v15, .int v16, .int v17, .int v18, .int v19, .int v20, .int v21, .ref yd, .int v23, .ref ys, .ref yn, .ref ym, .int v27, .ref yf, .ref yo, .ref yh, .ref yb, .int v32, .int v33, .int v34, .int v35, .int v36, .int v37, .int v38, .ref yx, .int v40, .int v41, .int v42])), (yr, .inl (cI, 4668, .inl (jn [0, 4, 0, (nI oo), (nI sn), (nI us), (nI tk), e7, e8, 0, 0, 0, 0, e13, e14, e15, (nI bb), (-1), e18, 0, 0, 0, 0, 0] (upd gr 33 p3))))]) ⟨hx, hb, hml, hown, hts⟩ (kkX8_at_c31 l dC dI cI cB cZ cR H.size  ) (va_cwS 3 hts (zgS wm_400 wm_401 wm_5 wm_402) rfl rfl rfl (by decide +kernel) ⟨Nat.le_of_ble_eq_true rfl, Nat.le_of_ble_eq_true rfl⟩) hN hK hP hD hS hA [] [0, 1] rfl rfl ⟨rfl, rfl⟩ (by decide) rfl hl.1 rfl (Nat.le_of_ble_eq_true rfl) dX8_lays_19 ⟨Nat.le_of_ble_eq_true rfl, Nat.le_of_ble_eq_true rfl⟩ (fun r u hu H locs hP hD hS => ?_)
  have hu : r = 34 := hu
  subst hu
  have hP : va_P (dC, dI) vwCl [(y, .inr (8, [.ref yt, .int v1, .int v2, .ref yr, .ref yk, .ref yz, .ref yp, .int v7, .int v8, .int v9, .int v10, .ref yl, .ref yw, .int v13, .int v14, .int v15, .int v16, .int v17, .int v18, .int v19, .int v20, .int v21, .ref yd, .int v23, .ref ys, .ref yn, .ref ym, .int v27, .ref yf, .ref yo, .ref yh, .ref yb, .int v32, .int v33, .int v34, .int v35, .int v36, .int v37, .int v38, .ref yx, .int v40, .int v41, .int v42])), (yr, .inl (cI, 4668, .inl (jn [0, 4, 0, (nI oo), (nI sn), (nI us), (nI tk), e7, e8, 0, 0, 0, 0, e13, e14, e15, (nI bb), (-1), e18, 0, 0, 0, 0, 0] (upd gr 33 p3))))] H := hP
  have hD : va_D A [(y, .inr (8, [.ref yt, .int v1, .int v2, .ref yr, .ref yk, .ref yz, .ref yp, .int v7, .int v8, .int v9, .int v10, .ref yl, .ref yw, .int v13, .int v14, .int v15, .int v16, .int v17, .int v18, .int v19, .int v20, .int v21, .ref yd, .int v23, .ref ys, .ref yn, .ref ym, .int v27, .ref yf, .ref yo, .ref yh, .ref yb, .int v32, .int v33, .int v34, .int v35, .int v36, .int v37, .int v38, .ref yx, .int v40, .int v41, .int v42])), (yr, .inl (cI, 4668, .inl (jn [0, 4, 0, (nI oo), (nI sn), (nI us), (nI tk), e7, e8, 0, 0, 0, 0, e13, e14, e15, (nI bb), (-1), e18, 0, 0, 0, 0, 0] (upd gr 33 p3))))] := hD
  refine lv_iload hx hb dX8_lays_22 (lv_at hl 4 rfl) ?_
  refine za_iast (f' := (jn [0, 4, 0, (nI oo), (nI sn), (nI us), (nI tk), e7, e8, 0, 0, 0, 0, e13, e14, e15, (nI bb), (-1), e18, 0, 0, 0, 0, 0] (upd (upd gr 33 p3) 34 p4))) hx hb hK hP hD hS 1 0 rfl rfl (zin tn_34 (Nat.le_of_ble_eq_true rfl)) (zup_jh tn_34 (Nat.not_lt_of_le (Nat.le_of_ble_eq_true rfl))) dX8_lays_24 (fun H locs hP hD hS => ?_)
  have hP : va_P (dC, dI) vwCl [(y, .inr (8, [.ref yt, .int v1, .int v2, .ref yr, .ref yk, .ref yz, .ref yp, .int v7, .int v8, .int v9, .int v10, .ref yl, .ref yw, .int v13, .int v14, .int v15, .int v16, .int v17, .int v18, .int v19, .int v20, .int v21, .ref yd, .int v23, .ref ys, .ref yn, .ref ym, .int v27, .ref yf, .ref yo, .ref yh, .ref yb, .int v32, .int v33, .int v34, .int v35, .int v36, .int v37, .int v38, .ref yx, .int v40, .int v41, .int v42])), (yr, .inl (cI, 4668, .inl (jn [0, 4, 0, (nI oo), (nI sn), (nI us), (nI tk), e7, e8, 0, 0, 0, 0, e13, e14, e15, (nI bb), (-1), e18, 0, 0, 0, 0, 0] (upd (upd gr 33 p3) 34 p4))))] H := hP
  have hD : va_D A [(y, .inr (8, [.ref yt, .int v1, .int v2, .ref yr, .ref yk, .ref yz, .ref yp, .int v7, .int v8, .int v9, .int v10, .ref yl, .ref yw, .int v13, .int v14, .int v15, .int v16, .int v17, .int v18, .int v19, .int v20, .int v21, .ref yd, .int v23, .ref ys, .ref yn, .ref ym, .int v27, .ref yf, .ref yo, .ref yh, .ref yb, .int v32, .int v33, .int v34, .int v35, .int v36, .int v37, .int v38, .ref yx, .int v40, .int v41, .int v42])), (yr, .inl (cI, 4668, .inl (jn [0, 4, 0, (nI oo), (nI sn), (nI us), (nI tk), e7, e8, 0, 0, 0, 0, e13, e14, e15, (nI bb), (-1), e18, 0, 0, 0, 0, 0] (upd (upd gr 33 p3) 34 p4))))] := hD
  refine lv_aload_n hx hb dX8_lays_25 rfl (lv_at hl 0 rfl) ?_
  refine va_get (D := (dC, dI)) (ci := 8) (v := .ref yr) (C := RX8) (T := TX8) (N := 43) hx hb hts hinX8 hown hK hP 0 rfl rfl 3 (by decide) k_0 (fun _ h9 => h9) rfl dX8_lays_26 ?_
  refine lv_iload_n hx hb dX8_lays_29 rfl (lv_at hl 1 rfl) ?_
  refine lv_iload_n hx hb dX8_lays_30 rfl (lv_at hl 2 rfl) ?_
  refine lv_iconst (v := 2) hx hb dX8_lays_31 (by decide) ?_
  refine zcSi (As := [.int 0, .int 3, .int 2]) (rest := [.ref yr]) (wr := [(y, .inr (8, [.ref yt, .int v1, .int v2, .ref yr, .ref yk, .ref yz, .ref yp, .int v7, .int v8, .int v9, .int v10, .ref yl, .ref yw, .int v13, .int v14, .int v15, .int v16, .int v17, .int v18, .int v19, .int v20, .int v21, .ref yd, .int v23, .ref ys, .ref yn, .ref ym, .int v27, .ref yf, .ref yo, .ref yh, .ref yb, .int v32, .int v33, .int v34, .int v35, .int v36, .int v37, .int v38, .ref yx, .int v40, .int v41, .int v42])), (yr, .inl (cI, 4668, .inl (jn [0, 4, 0, (nI oo), (nI sn), (nI us), (nI tk), e7, e8, 0, 0, 0, 0, e13, e14, e15, (nI bb), (-1), e18, 0, 0, 0, 0, 0] (upd (upd gr 33 p3) 34 p4))))]) ⟨hx, hb, hml, hown, hts⟩ (kkX8_at_c32 l dC dI cI cB cZ cR H.size  ) (va_cwS 3 hts (zgS wm_400 wm_401 wm_5 wm_402) rfl rfl rfl (by decide +kernel) ⟨Nat.le_of_ble_eq_true rfl, Nat.le_of_ble_eq_true rfl⟩) hN hK hP hD hS hA [] [0, 1] rfl rfl ⟨rfl, rfl⟩ (by decide) rfl hl.1 rfl (Nat.le_of_ble_eq_true rfl) dX8_lays_32 ⟨Nat.le_of_ble_eq_true rfl, Nat.le_of_ble_eq_true rfl⟩ (fun r u hu H locs hP hD hS => ?_)
  have hu : r = 35 := hu
  subst hu
  have hP : va_P (dC, dI) vwCl [(y, .inr (8, [.ref yt, .int v1, .int v2, .ref yr, .ref yk, .ref yz, .ref yp, .int v7, .int v8, .int v9, .int v10, .ref yl, .ref yw, .int v13, .int v14, .int v15, .int v16, .int v17, .int v18, .int v19, .int v20, .int v21, .ref yd, .int v23, .ref ys, .ref yn, .ref ym, .int v27, .ref yf, .ref yo, .ref yh, .ref yb, .int v32, .int v33, .int v34, .int v35, .int v36, .int v37, .int v38, .ref yx, .int v40, .int v41, .int v42])), (yr, .inl (cI, 4668, .inl (jn [0, 4, 0, (nI oo), (nI sn), (nI us), (nI tk), e7, e8, 0, 0, 0, 0, e13, e14, e15, (nI bb), (-1), e18, 0, 0, 0, 0, 0] (upd (upd gr 33 p3) 34 p4))))] H := hP
  have hD : va_D A [(y, .inr (8, [.ref yt, .int v1, .int v2, .ref yr, .ref yk, .ref yz, .ref yp, .int v7, .int v8, .int v9, .int v10, .ref yl, .ref yw, .int v13, .int v14, .int v15, .int v16, .int v17, .int v18, .int v19, .int v20, .int v21, .ref yd, .int v23, .ref ys, .ref yn, .ref ym, .int v27, .ref yf, .ref yo, .ref yh, .ref yb, .int v32, .int v33, .int v34, .int v35, .int v36, .int v37, .int v38, .ref yx, .int v40, .int v41, .int v42])), (yr, .inl (cI, 4668, .inl (jn [0, 4, 0, (nI oo), (nI sn), (nI us), (nI tk), e7, e8, 0, 0, 0, 0, e13, e14, e15, (nI bb), (-1), e18, 0, 0, 0, 0, 0] (upd (upd gr 33 p3) 34 p4))))] := hD
  refine lv_iload hx hb dX8_lays_35 (lv_at hl 5 rfl) ?_
  refine za_iast (f' := (jn [0, 4, 0, (nI oo), (nI sn), (nI us), (nI tk), e7, e8, 0, 0, 0, 0, e13, e14, e15, (nI bb), (-1), e18, 0, 0, 0, 0, 0] (upd (upd (upd gr 33 p3) 34 p4) 35 p5))) hx hb hK hP hD hS 1 0 rfl rfl (zin tn_35 (Nat.le_of_ble_eq_true rfl)) (zup_jh tn_35 (Nat.not_lt_of_le (Nat.le_of_ble_eq_true rfl))) dX8_lays_37 (fun H locs hP hD hS => ?_)
  have hP : va_P (dC, dI) vwCl [(y, .inr (8, [.ref yt, .int v1, .int v2, .ref yr, .ref yk, .ref yz, .ref yp, .int v7, .int v8, .int v9, .int v10, .ref yl, .ref yw, .int v13, .int v14, .int v15, .int v16, .int v17, .int v18, .int v19, .int v20, .int v21, .ref yd, .int v23, .ref ys, .ref yn, .ref ym, .int v27, .ref yf, .ref yo, .ref yh, .ref yb, .int v32, .int v33, .int v34, .int v35, .int v36, .int v37, .int v38, .ref yx, .int v40, .int v41, .int v42])), (yr, .inl (cI, 4668, .inl (jn [0, 4, 0, (nI oo), (nI sn), (nI us), (nI tk), e7, e8, 0, 0, 0, 0, e13, e14, e15, (nI bb), (-1), e18, 0, 0, 0, 0, 0] (upd (upd (upd gr 33 p3) 34 p4) 35 p5))))] H := hP
  have hD : va_D A [(y, .inr (8, [.ref yt, .int v1, .int v2, .ref yr, .ref yk, .ref yz, .ref yp, .int v7, .int v8, .int v9, .int v10, .ref yl, .ref yw, .int v13, .int v14, .int v15, .int v16, .int v17, .int v18, .int v19, .int v20, .int v21, .ref yd, .int v23, .ref ys, .ref yn, .ref ym, .int v27, .ref yf, .ref yo, .ref yh, .ref yb, .int v32, .int v33, .int v34, .int v35, .int v36, .int v37, .int v38, .ref yx, .int v40, .int v41, .int v42])), (yr, .inl (cI, 4668, .inl (jn [0, 4, 0, (nI oo), (nI sn), (nI us), (nI tk), e7, e8, 0, 0, 0, 0, e13, e14, e15, (nI bb), (-1), e18, 0, 0, 0, 0, 0] (upd (upd (upd gr 33 p3) 34 p4) 35 p5))))] := hD
  have hP9 := hP.sub (ws' := [(y, .inr (8, [.ref yt, .int v1, .int v2, .ref yr, .ref yk, .ref yz, .ref yp, .int v7, .int v8, .int v9, .int v10, .ref yl, .ref yw, .int v13, .int v14, .int v15, .int v16, .int v17, .int v18, .int v19, .int v20, .int v21, .ref yd, .int v23, .ref ys, .ref yn, .ref ym, .int v27, .ref yf, .ref yo, .ref yh, .ref yb, .int v32, .int v33, .int v34, .int v35, .int v36, .int v37, .int v38, .ref yx, .int v40, .int v41, .int v42])), (yr, .inl (cI, 4668, .inl (jn [0, 4, 0, (nI oo), (nI sn), (nI us), (nI tk), e7, e8, 0, 0, 0, 0, e13, e14, e15, (nI bb), (-1), e18, 0, 0, 0, 0, 0] (upd (upd (upd gr 33 p3) 34 p4) 35 p5))))]) [0, 1] rfl
  have hD9 := hD.sub (ws' := [(y, .inr (8, [.ref yt, .int v1, .int v2, .ref yr, .ref yk, .ref yz, .ref yp, .int v7, .int v8, .int v9, .int v10, .ref yl, .ref yw, .int v13, .int v14, .int v15, .int v16, .int v17, .int v18, .int v19, .int v20, .int v21, .ref yd, .int v23, .ref ys, .ref yn, .ref ym, .int v27, .ref yf, .ref yo, .ref yh, .ref yb, .int v32, .int v33, .int v34, .int v35, .int v36, .int v37, .int v38, .ref yx, .int v40, .int v41, .int v42])), (yr, .inl (cI, 4668, .inl (jn [0, 4, 0, (nI oo), (nI sn), (nI us), (nI tk), e7, e8, 0, 0, 0, 0, e13, e14, e15, (nI bb), (-1), e18, 0, 0, 0, 0, 0] (upd (upd (upd gr 33 p3) 34 p4) 35 p5))))]) [0, 1] (by decide) rfl
  exact W.vret hx hb hr (fun t ht hW => ⟨⟨(), rfl, trivial, by rw [ht]; exact hP9, va_K.moved hW.alike hK, hD9⟩, hS.F ht⟩) hS.2.2 dX8_lays_38

set_option maxHeartbeats 4000000 in
set_option maxRecDepth 100000 in
theorem kkX8_stepOf (l : Launch) (dC : Nat → ClassId) (dI : Nat → Nat → Nat) (cI cB cZ cR : ClassId) (sz : Nat) (y : Nat) (yt : Nat) (yr : Nat) (yk : Nat) (yz : Nat) (yp : Nat) (yl : Nat) (yw : Nat) (yd : Nat) (ys : Nat) (yn : Nat) (ym : Nat) (yf : Nat) (yo : Nat) (yh : Nat) (yb : Nat) (yx : Nat) (v1 : Int32) (v2 : Int32) (v7 : Int32) (v8 : Int32) (v9 : Int32) (v10 : Int32) (v13 : Int32) (v14 : Int32) (v15 : Int32) (v16 : Int32) (v17 : Int32) (v18 : Int32) (v19 : Int32) (v20 : Int32) (v21 : Int32) (v23 : Int32) (v27 : Int32) (v32 : Int32) (v33 : Int32) (v34 : Int32) (v35 : Int32) (v36 : Int32) (v37 : Int32) (v38 : Int32) (v40 : Int32) (v41 : Int32) (v42 : Int32) (oo : Nat) (sn : Nat) (us : Nat) (tk : Nat) (bb : Nat) (e7 : Int32) (e8 : Int32) (e13 : Int32) (e14 : Int32) (e15 : Int32) (e18 : Int32) (gr : Nat → Int32) (p1 : Int32) : Met l yX8_stepOf (.code yX8_stepOf cX8_stepOf 2 (some .int) :: wsL_law) ({ frames := 1, cells := 0, slots := 0, locals := 20 }) (zPc dC dI (zT cI cB cZ cR) [.ref y, .int p1] sz [(y, .inr (8, [.ref yt, .int v1, .int v2, .ref yr, .ref yk, .ref yz, .ref yp, .int v7, .int v8, .int v9, .int v10, .ref yl, .ref yw, .int v13, .int v14, .int v15, .int v16, .int v17, .int v18, .int v19, .int v20, .int v21, .ref yd, .int v23, .ref ys, .ref yn, .ref ym, .int v27, .ref yf, .ref yo, .ref yh, .ref yb, .int v32, .int v33, .int v34, .int v35, .int v36, .int v37, .int v38, .ref yx, .int v40, .int v41, .int v42])), (yr, .inl (cI, 4668, .inl (jn [0, 4, 0, (nI oo), (nI sn), (nI us), (nI tk), e7, e8, 0, 0, 0, 0, e13, e14, e15, (nI bb), (-1), e18, 0, 0, 0, 0, 0] gr)))]) (va_Qi (fun (r : Int32) (_ : Unit) => r = 1) (fun _ : Unit => zB dC dI (zT cI cB cZ cR) (va_A [(y, .inr (8, [.ref yt, .int v1, .int v2, .ref yr, .ref yk, .ref yz, .ref yp, .int v7, .int v8, .int v9, .int v10, .ref yl, .ref yw, .int v13, .int v14, .int v15, .int v16, .int v17, .int v18, .int v19, .int v20, .int v21, .ref yd, .int v23, .ref ys, .ref yn, .ref ym, .int v27, .ref yf, .ref yo, .ref yh, .ref yb, .int v32, .int v33, .int v34, .int v35, .int v36, .int v37, .int v38, .ref yx, .int v40, .int v41, .int v42])), (yr, .inl (cI, 4668, .inl (jn [0, 4, 0, (nI oo), (nI sn), (nI us), (nI tk), e7, e8, 0, 0, 0, 0, e13, e14, e15, (nI bb), (-1), e18, 0, 0, 0, 0, 0] gr)))] sz) [(y, .inr (8, [.ref yt, .int v1, .int v2, .ref yr, .ref yk, .ref yz, .ref yp, .int v7, .int v8, .int v9, .int v10, .ref yl, .ref yw, .int v13, .int v14, .int v15, .int v16, .int v17, .int v18, .int v19, .int v20, .int v21, .ref yd, .int v23, .ref ys, .ref yn, .ref ym, .int v27, .ref yf, .ref yo, .ref yh, .ref yb, .int v32, .int v33, .int v34, .int v35, .int v36, .int v37, .int v38, .ref yx, .int v40, .int v41, .int v42])), (yr, .inl (cI, 4668, .inl (jn [0, 4, 0, (nI oo), (nI sn), (nI us), (nI tk), e7, e8, 0, 0, 0, 0, e13, e14, e15, (nI bb), (-1), e18, 0, 0, 0, 0, 0] gr)))]) (va_A [(y, .inr (8, [.ref yt, .int v1, .int v2, .ref yr, .ref yk, .ref yz, .ref yp, .int v7, .int v8, .int v9, .int v10, .ref yl, .ref yw, .int v13, .int v14, .int v15, .int v16, .int v17, .int v18, .int v19, .int v20, .int v21, .ref yd, .int v23, .ref ys, .ref yn, .ref ym, .int v27, .ref yf, .ref yo, .ref yh, .ref yb, .int v32, .int v33, .int v34, .int v35, .int v36, .int v37, .int v38, .ref yx, .int v40, .int v41, .int v42])), (yr, .inl (cI, 4668, .inl (jn [0, 4, 0, (nI oo), (nI sn), (nI us), (nI tk), e7, e8, 0, 0, 0, 0, e13, e14, e15, (nI bb), (-1), e18, 0, 0, 0, 0, 0] gr)))] sz)) 0 0 (va_A [(y, .inr (8, [.ref yt, .int v1, .int v2, .ref yr, .ref yk, .ref yz, .ref yp, .int v7, .int v8, .int v9, .int v10, .ref yl, .ref yw, .int v13, .int v14, .int v15, .int v16, .int v17, .int v18, .int v19, .int v20, .int v21, .ref yd, .int v23, .ref ys, .ref yn, .ref ym, .int v27, .ref yf, .ref yo, .ref yh, .ref yb, .int v32, .int v33, .int v34, .int v35, .int v36, .int v37, .int v38, .ref yx, .int v40, .int v41, .int v42])), (yr, .inl (cI, 4668, .inl (jn [0, 4, 0, (nI oo), (nI sn), (nI us), (nI tk), e7, e8, 0, 0, 0, 0, e13, e14, e15, (nI bb), (-1), e18, 0, 0, 0, 0, 0] gr)))] sz) := by
  refine Met.ofW (cc := cX8_stepOf) (maxL := 2) (ret := (some .int)) (by decide) rfl ?_
  intro p e s m args below meth c s₁ B hml hv
  obtain ⟨rfl, hsz, hP, hK, hD0, hN⟩ := hv
  have hx := B.exec
  have hb := B.bytes
  have hr := B.returns
  have hts := atoms_spec (ws := (.code yX8_stepOf cX8_stepOf 2 (some .int) :: wsL_law)) B.pre
  have hown : s.vm.findClass RX8 = some m.cls := findClass_of_methodNamed B.named
  have hlocks := B.notSynchronized
  subst hsz
  have hD := hD0.self (sz := s.heap.size)
  generalize hAe : va_A [(y, .inr (8, [.ref yt, .int v1, .int v2, .ref yr, .ref yk, .ref yz, .ref yp, .int v7, .int v8, .int v9, .int v10, .ref yl, .ref yw, .int v13, .int v14, .int v15, .int v16, .int v17, .int v18, .int v19, .int v20, .int v21, .ref yd, .int v23, .ref ys, .ref yn, .ref ym, .int v27, .ref yf, .ref yo, .ref yh, .ref yb, .int v32, .int v33, .int v34, .int v35, .int v36, .int v37, .int v38, .ref yx, .int v40, .int v41, .int v42])), (yr, .inl (cI, 4668, .inl (jn [0, 4, 0, (nI oo), (nI sn), (nI us), (nI tk), e7, e8, 0, 0, 0, 0, e13, e14, e15, (nI bb), (-1), e18, 0, 0, 0, 0, 0] gr)))] s.heap.size = A at hD ⊢
  have hA : ∀ q : Nat, s.heap.size ≤ q → A q := fun q h => by rw [← hAe]; exact Or.inr h
  have hP : va_P (dC, dI) vwCl [(y, .inr (8, [.ref yt, .int v1, .int v2, .ref yr, .ref yk, .ref yz, .ref yp, .int v7, .int v8, .int v9, .int v10, .ref yl, .ref yw, .int v13, .int v14, .int v15, .int v16, .int v17, .int v18, .int v19, .int v20, .int v21, .ref yd, .int v23, .ref ys, .ref yn, .ref ym, .int v27, .ref yf, .ref yo, .ref yh, .ref yb, .int v32, .int v33, .int v34, .int v35, .int v36, .int v37, .int v38, .ref yx, .int v40, .int v41, .int v42])), (yr, .inl (cI, 4668, .inl (jn [0, 4, 0, (nI oo), (nI sn), (nI us), (nI tk), e7, e8, 0, 0, 0, 0, e13, e14, e15, (nI bb), (-1), e18, 0, 0, 0, 0, 0] gr)))] s.heap := hP
  have hl := lv_entry ([.ref y, .int p1]) (n := 2) (Nat.le_of_ble_eq_true rfl)
  rw [lg_entry_eq]
  generalize (lg_sl ([.ref y, .int p1]) ++ List.replicate (2 - (lg_sl ([.ref y, .int p1])).length) Slot.unset).toArray = ls at hl ⊢
  have hl : lv_has ls 2 [(0, .ref y), (1, .int p1)] := hl
  obtain ⟨H, hH⟩ : ∃ H, H = s.heap := ⟨_, rfl⟩
  rw [← hH] at hP ⊢
  have hS : va_S A s.heap H [] := by rw [hH]; exact va_S.rf
  refine lv_aload_n hx hb dX8_stepOf_0 rfl (lv_at hl 0 rfl) ?_
  refine zcVi (As := []) (rest := []) (wr := []) ⟨hx, hb, hml, hown, hts⟩ (kkX8_isPacked_d l dC dI cI cB cZ cR H.size y yt yr yk yz yp yl yw yd ys yn ym yf yo yh yb yx v1 v2 v7 v8 v9 v10 v13 v14 v15 v16 v17 v18 v19 v20 v21 v23 v27 v32 v33 v34 v35 v36 v37 v38 v40 v41 v42 oo sn us tk bb e7 e8 e13 e14 e15 e18 gr ) (cwV 0 hts (zgV wm_372 wm_373 wm_374 wm_5 wm_375) rfl rfl rfl (by decide +kernel) ⟨Nat.le_of_ble_eq_true rfl, Nat.le_of_ble_eq_true rfl⟩) hN hK hP hD hS hA [0, 1] [] rfl rfl ⟨rfl, rfl⟩ (by decide) (ci := 8) rfl rfl rfl rfl hl.1 rfl (Nat.le_of_ble_eq_true rfl) dX8_stepOf_1 ⟨Nat.le_of_ble_eq_true rfl, Nat.le_of_ble_eq_true rfl⟩ (fun r u hu H locs hP hD hS => ?_)
  have hu : r = 0 := hu
  subst hu
  have hP : va_P (dC, dI) vwCl [(y, .inr (8, [.ref yt, .int v1, .int v2, .ref yr, .ref yk, .ref yz, .ref yp, .int v7, .int v8, .int v9, .int v10, .ref yl, .ref yw, .int v13, .int v14, .int v15, .int v16, .int v17, .int v18, .int v19, .int v20, .int v21, .ref yd, .int v23, .ref ys, .ref yn, .ref ym, .int v27, .ref yf, .ref yo, .ref yh, .ref yb, .int v32, .int v33, .int v34, .int v35, .int v36, .int v37, .int v38, .ref yx, .int v40, .int v41, .int v42])), (yr, .inl (cI, 4668, .inl (jn [0, 4, 0, (nI oo), (nI sn), (nI us), (nI tk), e7, e8, 0, 0, 0, 0, e13, e14, e15, (nI bb), (-1), e18, 0, 0, 0, 0, 0] gr)))] H := hP
  have hD : va_D A [(y, .inr (8, [.ref yt, .int v1, .int v2, .ref yr, .ref yk, .ref yz, .ref yp, .int v7, .int v8, .int v9, .int v10, .ref yl, .ref yw, .int v13, .int v14, .int v15, .int v16, .int v17, .int v18, .int v19, .int v20, .int v21, .ref yd, .int v23, .ref ys, .ref yn, .ref ym, .int v27, .ref yf, .ref yo, .ref yh, .ref yb, .int v32, .int v33, .int v34, .int v35, .int v36, .int v37, .int v38, .ref yx, .int v40, .int v41, .int v42])), (yr, .inl (cI, 4668, .inl (jn [0, 4, 0, (nI oo), (nI sn), (nI us), (nI tk), e7, e8, 0, 0, 0, 0, e13, e14, e15, (nI bb), (-1), e18, 0, 0, 0, 0, 0] gr)))] := hD
  refine lv_if_eq (tgt := 21) hx hb dX8_stepOf_4 (by decide) (fun _ => ?_) (fun c => absurd (by decide) c)
  refine lv_iconst (v := 1) hx hb dX8_stepOf_21 (by decide) ?_
  have hP9 := hP.sub (ws' := [(y, .inr (8, [.ref yt, .int v1, .int v2, .ref yr, .ref yk, .ref yz, .ref yp, .int v7, .int v8, .int v9, .int v10, .ref yl, .ref yw, .int v13, .int v14, .int v15, .int v16, .int v17, .int v18, .int v19, .int v20, .int v21, .ref yd, .int v23, .ref ys, .ref yn, .ref ym, .int v27, .ref yf, .ref yo, .ref yh, .ref yb, .int v32, .int v33, .int v34, .int v35, .int v36, .int v37, .int v38, .ref yx, .int v40, .int v41, .int v42])), (yr, .inl (cI, 4668, .inl (jn [0, 4, 0, (nI oo), (nI sn), (nI us), (nI tk), e7, e8, 0, 0, 0, 0, e13, e14, e15, (nI bb), (-1), e18, 0, 0, 0, 0, 0] gr)))]) [0, 1] rfl
  have hD9 := hD.sub (ws' := [(y, .inr (8, [.ref yt, .int v1, .int v2, .ref yr, .ref yk, .ref yz, .ref yp, .int v7, .int v8, .int v9, .int v10, .ref yl, .ref yw, .int v13, .int v14, .int v15, .int v16, .int v17, .int v18, .int v19, .int v20, .int v21, .ref yd, .int v23, .ref ys, .ref yn, .ref ym, .int v27, .ref yf, .ref yo, .ref yh, .ref yb, .int v32, .int v33, .int v34, .int v35, .int v36, .int v37, .int v38, .ref yx, .int v40, .int v41, .int v42])), (yr, .inl (cI, 4668, .inl (jn [0, 4, 0, (nI oo), (nI sn), (nI us), (nI tk), e7, e8, 0, 0, 0, 0, e13, e14, e15, (nI bb), (-1), e18, 0, 0, 0, 0, 0] gr)))]) [0, 1] (by decide) rfl
  exact W.iret (v := 1) hx hb hr (fun t ht hW => ⟨⟨1, (), rfl, rfl, by rw [ht]; exact hP9, va_K.moved hW.alike hK, hD9⟩, hS.F ht⟩) hS.2.2 dX8_stepOf_22

set_option maxHeartbeats 4000000 in
set_option maxRecDepth 100000 in
theorem kkX8_flagsOf_10_0 (l : Launch) (dC : Nat → ClassId) (dI : Nat → Nat → Nat) (cI cB cZ cR : ClassId) (sz : Nat) (y : Nat) (yt : Nat) (yr : Nat) (yk : Nat) (yz : Nat) (yp : Nat) (yl : Nat) (yw : Nat) (yd : Nat) (ys : Nat) (yn : Nat) (ym : Nat) (yf : Nat) (yo : Nat) (yh : Nat) (yb : Nat) (yx : Nat) (v1 : Int32) (v2 : Int32) (v9 : Int32) (v10 : Int32) (v13 : Int32) (v14 : Int32) (v15 : Int32) (v16 : Int32) (v17 : Int32) (v18 : Int32) (v19 : Int32) (v20 : Int32) (v21 : Int32) (v23 : Int32) (v27 : Int32) (v32 : Int32) (v33 : Int32) (v34 : Int32) (v35 : Int32) (v36 : Int32) (v37 : Int32) (v38 : Int32) (v40 : Int32) (v41 : Int32) (v42 : Int32) : Met l yX8_flagsOf (.code yX8_flagsOf cX8_flagsOf 2 (some .int) :: wsL_law) ({ frames := 1, cells := 0, slots := 0, locals := 21 }) (zPc dC dI (zT cI cB cZ cR) [.ref y, .int 0] sz [(y, .inr (8, [.ref yt, .int v1, .int v2, .ref yr, .ref yk, .ref yz, .ref yp, .int 1, .int 0, .int v9, .int v10, .ref yl, .ref yw, .int v13, .int v14, .int v15, .int v16, .int v17, .int v18, .int v19, .int v20, .int v21, .ref yd, .int v23, .ref ys, .ref yn, .ref ym, .int v27, .ref yf, .ref yo, .ref yh, .ref yb, .int v32, .int v33, .int v34, .int v35, .int v36, .int v37, .int v38, .ref yx, .int v40, .int v41, .int v42]))]) (va_Qi (fun (r : Int32) (_ : Unit) => r = 0) (fun _ : Unit => zB dC dI (zT cI cB cZ cR) (va_A [(y, .inr (8, [.ref yt, .int v1, .int v2, .ref yr, .ref yk, .ref yz, .ref yp, .int 1, .int 0, .int v9, .int v10, .ref yl, .ref yw, .int v13, .int v14, .int v15, .int v16, .int v17, .int v18, .int v19, .int v20, .int v21, .ref yd, .int v23, .ref ys, .ref yn, .ref ym, .int v27, .ref yf, .ref yo, .ref yh, .ref yb, .int v32, .int v33, .int v34, .int v35, .int v36, .int v37, .int v38, .ref yx, .int v40, .int v41, .int v42]))] sz) [(y, .inr (8, [.ref yt, .int v1, .int v2, .ref yr, .ref yk, .ref yz, .ref yp, .int 1, .int 0, .int v9, .int v10, .ref yl, .ref yw, .int v13, .int v14, .int v15, .int v16, .int v17, .int v18, .int v19, .int v20, .int v21, .ref yd, .int v23, .ref ys, .ref yn, .ref ym, .int v27, .ref yf, .ref yo, .ref yh, .ref yb, .int v32, .int v33, .int v34, .int v35, .int v36, .int v37, .int v38, .ref yx, .int v40, .int v41, .int v42]))]) (va_A [(y, .inr (8, [.ref yt, .int v1, .int v2, .ref yr, .ref yk, .ref yz, .ref yp, .int 1, .int 0, .int v9, .int v10, .ref yl, .ref yw, .int v13, .int v14, .int v15, .int v16, .int v17, .int v18, .int v19, .int v20, .int v21, .ref yd, .int v23, .ref ys, .ref yn, .ref ym, .int v27, .ref yf, .ref yo, .ref yh, .ref yb, .int v32, .int v33, .int v34, .int v35, .int v36, .int v37, .int v38, .ref yx, .int v40, .int v41, .int v42]))] sz)) 0 0 (va_A [(y, .inr (8, [.ref yt, .int v1, .int v2, .ref yr, .ref yk, .ref yz, .ref yp, .int 1, .int 0, .int v9, .int v10, .ref yl, .ref yw, .int v13, .int v14, .int v15, .int v16, .int v17, .int v18, .int v19, .int v20, .int v21, .ref yd, .int v23, .ref ys, .ref yn, .ref ym, .int v27, .ref yf, .ref yo, .ref yh, .ref yb, .int v32, .int v33, .int v34, .int v35, .int v36, .int v37, .int v38, .ref yx, .int v40, .int v41, .int v42]))] sz) := by
  refine Met.ofW (cc := cX8_flagsOf) (maxL := 2) (ret := (some .int)) (by decide) rfl ?_
  intro p e s m args below meth c s₁ B hml hv
  obtain ⟨rfl, hsz, hP, hK, hD0, hN⟩ := hv
  have hx := B.exec
  have hb := B.bytes
  have hr := B.returns
  have hts := atoms_spec (ws := (.code yX8_flagsOf cX8_flagsOf 2 (some .int) :: wsL_law)) B.pre
  have hown : s.vm.findClass RX8 = some m.cls := findClass_of_methodNamed B.named
  have hlocks := B.notSynchronized
  have hinX8 : ∀ w ∈ u_ws RX8 TX8 43, w ∈ (.code yX8_flagsOf cX8_flagsOf 2 (some .int) :: wsL_law) := fun w h => List.mem_cons_of_mem _ (inlX8 w h)
  have k_0 := hts (.fieldLink RX8 114 "RingMarksModel" "writes" "I") (List.mem_cons_of_mem _ wm_337)
  have k_1 := hts (.fieldLink RX8 111 "RingMarksModel" "parts" "I") (List.mem_cons_of_mem _ wm_336)
  subst hsz
  have hD := hD0.self (sz := s.heap.size)
  generalize hAe : va_A [(y, .inr (8, [.ref yt, .int v1, .int v2, .ref yr, .ref yk, .ref yz, .ref yp, .int 1, .int 0, .int v9, .int v10, .ref yl, .ref yw, .int v13, .int v14, .int v15, .int v16, .int v17, .int v18, .int v19, .int v20, .int v21, .ref yd, .int v23, .ref ys, .ref yn, .ref ym, .int v27, .ref yf, .ref yo, .ref yh, .ref yb, .int v32, .int v33, .int v34, .int v35, .int v36, .int v37, .int v38, .ref yx, .int v40, .int v41, .int v42]))] s.heap.size = A at hD ⊢
  have hA : ∀ q : Nat, s.heap.size ≤ q → A q := fun q h => by rw [← hAe]; exact Or.inr h
  have hP : va_P (dC, dI) vwCl [(y, .inr (8, [.ref yt, .int v1, .int v2, .ref yr, .ref yk, .ref yz, .ref yp, .int 1, .int 0, .int v9, .int v10, .ref yl, .ref yw, .int v13, .int v14, .int v15, .int v16, .int v17, .int v18, .int v19, .int v20, .int v21, .ref yd, .int v23, .ref ys, .ref yn, .ref ym, .int v27, .ref yf, .ref yo, .ref yh, .ref yb, .int v32, .int v33, .int v34, .int v35, .int v36, .int v37, .int v38, .ref yx, .int v40, .int v41, .int v42]))] s.heap := hP
  have hl := lv_entry ([.ref y, .int 0]) (n := 2) (Nat.le_of_ble_eq_true rfl)
  rw [lg_entry_eq]
  generalize (lg_sl ([.ref y, .int 0]) ++ List.replicate (2 - (lg_sl ([.ref y, .int 0])).length) Slot.unset).toArray = ls at hl ⊢
  have hl : lv_has ls 2 [(0, .ref y), (1, .int 0)] := hl
  obtain ⟨H, hH⟩ : ∃ H, H = s.heap := ⟨_, rfl⟩
  rw [← hH] at hP ⊢
  have hS : va_S A s.heap H [] := by rw [hH]; exact va_S.rf
  refine lv_aload_n hx hb dX8_flagsOf_0 rfl (lv_at hl 0 rfl) ?_
  refine va_get (D := (dC, dI)) (ci := 8) (v := .int 0) (C := RX8) (T := TX8) (N := 43) hx hb hts hinX8 hown hK hP 0 rfl rfl 8 (by decide) k_0 (fun _ h9 => h9) rfl dX8_flagsOf_1 ?_
  refine lv_iload_n hx hb dX8_flagsOf_4 rfl (lv_at hl 1 rfl) ?_
  refine zcSi (As := [.int 0, .int 0]) (rest := []) (wr := [(y, .inr (8, [.ref yt, .int v1, .int v2, .ref yr, .ref yk, .ref yz, .ref yp, .int 1, .int 0, .int v9, .int v10, .ref yl, .ref yw, .int v13, .int v14, .int v15, .int v16, .int v17, .int v18, .int v19, .int v20, .int v21, .ref yd, .int v23, .ref ys, .ref yn, .ref ym, .int v27, .ref yf, .ref yo, .ref yh, .ref yb, .int v32, .int v33, .int v34, .int v35, .int v36, .int v37, .int v38, .ref yx, .int v40, .int v41, .int v42]))]) ⟨hx, hb, hml, hown, hts⟩ (kkX8_bitOf_0_0 l dC dI cI cB cZ cR H.size  ) (va_cwS 2 hts (zgS wm_358 wm_359 wm_5 wm_360) rfl rfl rfl (by decide +kernel) ⟨Nat.le_of_ble_eq_true rfl, Nat.le_of_ble_eq_true rfl⟩) hN hK hP hD hS hA [] [0] rfl rfl ⟨rfl, rfl⟩ (by decide) rfl hl.1 rfl (Nat.le_of_ble_eq_true rfl) dX8_flagsOf_5 ⟨Nat.le_of_ble_eq_true rfl, Nat.le_of_ble_eq_true rfl⟩ (fun r u hu H locs hP hD hS => ?_)
  have hu : r = 0 := hu
  subst hu
  have hP : va_P (dC, dI) vwCl [(y, .inr (8, [.ref yt, .int v1, .int v2, .ref yr, .ref yk, .ref yz, .ref yp, .int 1, .int 0, .int v9, .int v10, .ref yl, .ref yw, .int v13, .int v14, .int v15, .int v16, .int v17, .int v18, .int v19, .int v20, .int v21, .ref yd, .int v23, .ref ys, .ref yn, .ref ym, .int v27, .ref yf, .ref yo, .ref yh, .ref yb, .int v32, .int v33, .int v34, .int v35, .int v36, .int v37, .int v38, .ref yx, .int v40, .int v41, .int v42]))] H := hP
  have hD : va_D A [(y, .inr (8, [.ref yt, .int v1, .int v2, .ref yr, .ref yk, .ref yz, .ref yp, .int 1, .int 0, .int v9, .int v10, .ref yl, .ref yw, .int v13, .int v14, .int v15, .int v16, .int v17, .int v18, .int v19, .int v20, .int v21, .ref yd, .int v23, .ref ys, .ref yn, .ref ym, .int v27, .ref yf, .ref yo, .ref yh, .ref yb, .int v32, .int v33, .int v34, .int v35, .int v36, .int v37, .int v38, .ref yx, .int v40, .int v41, .int v42]))] := hD
  refine lv_if_eq (tgt := 15) hx hb dX8_flagsOf_8 (by decide) (fun _ => ?_) (fun c => absurd (by decide) c)
  refine lv_iconst (v := 0) hx hb dX8_flagsOf_15 (by decide) ?_
  refine lv_iload_n hx hb dX8_flagsOf_16 rfl (lv_at hl 1 rfl) ?_
  refine lv_aload_n hx hb dX8_flagsOf_17 rfl (lv_at hl 0 rfl) ?_
  refine va_get (D := (dC, dI)) (ci := 8) (v := .int 1) (C := RX8) (T := TX8) (N := 43) hx hb hts hinX8 hown hK hP 0 rfl rfl 7 (by decide) k_1 (fun _ h9 => h9) rfl dX8_flagsOf_18 ?_
  refine lv_iconst (v := 1) hx hb dX8_flagsOf_21 (by decide) ?_
  refine lv_isub hx hb dX8_flagsOf_22 ?_
  refine tp (y := 0) (by decide) ?_
  refine lv_icmp_ge (tgt := 30) hx hb dX8_flagsOf_23 (by decide) (fun _ => ?_) (fun c => absurd (by decide) c)
  refine lv_iconst (v := 0) hx hb dX8_flagsOf_30 (by decide) ?_
  refine lv_ior hx hb dX8_flagsOf_31 ?_
  refine tp (y := 0) (by decide) ?_
  have hP9 := hP.sub (ws' := [(y, .inr (8, [.ref yt, .int v1, .int v2, .ref yr, .ref yk, .ref yz, .ref yp, .int 1, .int 0, .int v9, .int v10, .ref yl, .ref yw, .int v13, .int v14, .int v15, .int v16, .int v17, .int v18, .int v19, .int v20, .int v21, .ref yd, .int v23, .ref ys, .ref yn, .ref ym, .int v27, .ref yf, .ref yo, .ref yh, .ref yb, .int v32, .int v33, .int v34, .int v35, .int v36, .int v37, .int v38, .ref yx, .int v40, .int v41, .int v42]))]) [0] rfl
  have hD9 := hD.sub (ws' := [(y, .inr (8, [.ref yt, .int v1, .int v2, .ref yr, .ref yk, .ref yz, .ref yp, .int 1, .int 0, .int v9, .int v10, .ref yl, .ref yw, .int v13, .int v14, .int v15, .int v16, .int v17, .int v18, .int v19, .int v20, .int v21, .ref yd, .int v23, .ref ys, .ref yn, .ref ym, .int v27, .ref yf, .ref yo, .ref yh, .ref yb, .int v32, .int v33, .int v34, .int v35, .int v36, .int v37, .int v38, .ref yx, .int v40, .int v41, .int v42]))]) [0] (by decide) rfl
  exact W.iret (v := 0) hx hb hr (fun t ht hW => ⟨⟨0, (), rfl, rfl, by rw [ht]; exact hP9, va_K.moved hW.alike hK, hD9⟩, hS.F ht⟩) hS.2.2 dX8_flagsOf_32

set_option maxHeartbeats 4000000 in
set_option maxRecDepth 100000 in
theorem kkX8_flagsOf_11_0 (l : Launch) (dC : Nat → ClassId) (dI : Nat → Nat → Nat) (cI cB cZ cR : ClassId) (sz : Nat) (y : Nat) (yt : Nat) (yr : Nat) (yk : Nat) (yz : Nat) (yp : Nat) (yl : Nat) (yw : Nat) (yd : Nat) (ys : Nat) (yn : Nat) (ym : Nat) (yf : Nat) (yo : Nat) (yh : Nat) (yb : Nat) (yx : Nat) (v1 : Int32) (v2 : Int32) (v9 : Int32) (v10 : Int32) (v13 : Int32) (v14 : Int32) (v15 : Int32) (v16 : Int32) (v17 : Int32) (v18 : Int32) (v19 : Int32) (v20 : Int32) (v21 : Int32) (v23 : Int32) (v27 : Int32) (v32 : Int32) (v33 : Int32) (v34 : Int32) (v35 : Int32) (v36 : Int32) (v37 : Int32) (v38 : Int32) (v40 : Int32) (v41 : Int32) (v42 : Int32) : Met l yX8_flagsOf (.code yX8_flagsOf cX8_flagsOf 2 (some .int) :: wsL_law) ({ frames := 1, cells := 0, slots := 0, locals := 21 }) (zPc dC dI (zT cI cB cZ cR) [.ref y, .int 0] sz [(y, .inr (8, [.ref yt, .int v1, .int v2, .ref yr, .ref yk, .ref yz, .ref yp, .int 2, .int 2, .int v9, .int v10, .ref yl, .ref yw, .int v13, .int v14, .int v15, .int v16, .int v17, .int v18, .int v19, .int v20, .int v21, .ref yd, .int v23, .ref ys, .ref yn, .ref ym, .int v27, .ref yf, .ref yo, .ref yh, .ref yb, .int v32, .int v33, .int v34, .int v35, .int v36, .int v37, .int v38, .ref yx, .int v40, .int v41, .int v42]))]) (va_Qi (fun (r : Int32) (_ : Unit) => r = 1) (fun _ : Unit => zB dC dI (zT cI cB cZ cR) (va_A [(y, .inr (8, [.ref yt, .int v1, .int v2, .ref yr, .ref yk, .ref yz, .ref yp, .int 2, .int 2, .int v9, .int v10, .ref yl, .ref yw, .int v13, .int v14, .int v15, .int v16, .int v17, .int v18, .int v19, .int v20, .int v21, .ref yd, .int v23, .ref ys, .ref yn, .ref ym, .int v27, .ref yf, .ref yo, .ref yh, .ref yb, .int v32, .int v33, .int v34, .int v35, .int v36, .int v37, .int v38, .ref yx, .int v40, .int v41, .int v42]))] sz) [(y, .inr (8, [.ref yt, .int v1, .int v2, .ref yr, .ref yk, .ref yz, .ref yp, .int 2, .int 2, .int v9, .int v10, .ref yl, .ref yw, .int v13, .int v14, .int v15, .int v16, .int v17, .int v18, .int v19, .int v20, .int v21, .ref yd, .int v23, .ref ys, .ref yn, .ref ym, .int v27, .ref yf, .ref yo, .ref yh, .ref yb, .int v32, .int v33, .int v34, .int v35, .int v36, .int v37, .int v38, .ref yx, .int v40, .int v41, .int v42]))]) (va_A [(y, .inr (8, [.ref yt, .int v1, .int v2, .ref yr, .ref yk, .ref yz, .ref yp, .int 2, .int 2, .int v9, .int v10, .ref yl, .ref yw, .int v13, .int v14, .int v15, .int v16, .int v17, .int v18, .int v19, .int v20, .int v21, .ref yd, .int v23, .ref ys, .ref yn, .ref ym, .int v27, .ref yf, .ref yo, .ref yh, .ref yb, .int v32, .int v33, .int v34, .int v35, .int v36, .int v37, .int v38, .ref yx, .int v40, .int v41, .int v42]))] sz)) 0 0 (va_A [(y, .inr (8, [.ref yt, .int v1, .int v2, .ref yr, .ref yk, .ref yz, .ref yp, .int 2, .int 2, .int v9, .int v10, .ref yl, .ref yw, .int v13, .int v14, .int v15, .int v16, .int v17, .int v18, .int v19, .int v20, .int v21, .ref yd, .int v23, .ref ys, .ref yn, .ref ym, .int v27, .ref yf, .ref yo, .ref yh, .ref yb, .int v32, .int v33, .int v34, .int v35, .int v36, .int v37, .int v38, .ref yx, .int v40, .int v41, .int v42]))] sz) := by
  refine Met.ofW (cc := cX8_flagsOf) (maxL := 2) (ret := (some .int)) (by decide) rfl ?_
  intro p e s m args below meth c s₁ B hml hv
  obtain ⟨rfl, hsz, hP, hK, hD0, hN⟩ := hv
  have hx := B.exec
  have hb := B.bytes
  have hr := B.returns
  have hts := atoms_spec (ws := (.code yX8_flagsOf cX8_flagsOf 2 (some .int) :: wsL_law)) B.pre
  have hown : s.vm.findClass RX8 = some m.cls := findClass_of_methodNamed B.named
  have hlocks := B.notSynchronized
  have hinX8 : ∀ w ∈ u_ws RX8 TX8 43, w ∈ (.code yX8_flagsOf cX8_flagsOf 2 (some .int) :: wsL_law) := fun w h => List.mem_cons_of_mem _ (inlX8 w h)
  have k_0 := hts (.fieldLink RX8 114 "RingMarksModel" "writes" "I") (List.mem_cons_of_mem _ wm_337)
  have k_1 := hts (.fieldLink RX8 111 "RingMarksModel" "parts" "I") (List.mem_cons_of_mem _ wm_336)
  subst hsz
  have hD := hD0.self (sz := s.heap.size)
  generalize hAe : va_A [(y, .inr (8, [.ref yt, .int v1, .int v2, .ref yr, .ref yk, .ref yz, .ref yp, .int 2, .int 2, .int v9, .int v10, .ref yl, .ref yw, .int v13, .int v14, .int v15, .int v16, .int v17, .int v18, .int v19, .int v20, .int v21, .ref yd, .int v23, .ref ys, .ref yn, .ref ym, .int v27, .ref yf, .ref yo, .ref yh, .ref yb, .int v32, .int v33, .int v34, .int v35, .int v36, .int v37, .int v38, .ref yx, .int v40, .int v41, .int v42]))] s.heap.size = A at hD ⊢
  have hA : ∀ q : Nat, s.heap.size ≤ q → A q := fun q h => by rw [← hAe]; exact Or.inr h
  have hP : va_P (dC, dI) vwCl [(y, .inr (8, [.ref yt, .int v1, .int v2, .ref yr, .ref yk, .ref yz, .ref yp, .int 2, .int 2, .int v9, .int v10, .ref yl, .ref yw, .int v13, .int v14, .int v15, .int v16, .int v17, .int v18, .int v19, .int v20, .int v21, .ref yd, .int v23, .ref ys, .ref yn, .ref ym, .int v27, .ref yf, .ref yo, .ref yh, .ref yb, .int v32, .int v33, .int v34, .int v35, .int v36, .int v37, .int v38, .ref yx, .int v40, .int v41, .int v42]))] s.heap := hP
  have hl := lv_entry ([.ref y, .int 0]) (n := 2) (Nat.le_of_ble_eq_true rfl)
  rw [lg_entry_eq]
  generalize (lg_sl ([.ref y, .int 0]) ++ List.replicate (2 - (lg_sl ([.ref y, .int 0])).length) Slot.unset).toArray = ls at hl ⊢
  have hl : lv_has ls 2 [(0, .ref y), (1, .int 0)] := hl
  obtain ⟨H, hH⟩ : ∃ H, H = s.heap := ⟨_, rfl⟩
  rw [← hH] at hP ⊢
  have hS : va_S A s.heap H [] := by rw [hH]; exact va_S.rf
  refine lv_aload_n hx hb dX8_flagsOf_0 rfl (lv_at hl 0 rfl) ?_
  refine va_get (D := (dC, dI)) (ci := 8) (v := .int 2) (C := RX8) (T := TX8) (N := 43) hx hb hts hinX8 hown hK hP 0 rfl rfl 8 (by decide) k_0 (fun _ h9 => h9) rfl dX8_flagsOf_1 ?_
  refine lv_iload_n hx hb dX8_flagsOf_4 rfl (lv_at hl 1 rfl) ?_
  refine zcSi (As := [.int 2, .int 0]) (rest := []) (wr := [(y, .inr (8, [.ref yt, .int v1, .int v2, .ref yr, .ref yk, .ref yz, .ref yp, .int 2, .int 2, .int v9, .int v10, .ref yl, .ref yw, .int v13, .int v14, .int v15, .int v16, .int v17, .int v18, .int v19, .int v20, .int v21, .ref yd, .int v23, .ref ys, .ref yn, .ref ym, .int v27, .ref yf, .ref yo, .ref yh, .ref yb, .int v32, .int v33, .int v34, .int v35, .int v36, .int v37, .int v38, .ref yx, .int v40, .int v41, .int v42]))]) ⟨hx, hb, hml, hown, hts⟩ (kkX8_bitOf_2_0 l dC dI cI cB cZ cR H.size  ) (va_cwS 2 hts (zgS wm_358 wm_359 wm_5 wm_360) rfl rfl rfl (by decide +kernel) ⟨Nat.le_of_ble_eq_true rfl, Nat.le_of_ble_eq_true rfl⟩) hN hK hP hD hS hA [] [0] rfl rfl ⟨rfl, rfl⟩ (by decide) rfl hl.1 rfl (Nat.le_of_ble_eq_true rfl) dX8_flagsOf_5 ⟨Nat.le_of_ble_eq_true rfl, Nat.le_of_ble_eq_true rfl⟩ (fun r u hu H locs hP hD hS => ?_)
  have hu : r = 0 := hu
  subst hu
  have hP : va_P (dC, dI) vwCl [(y, .inr (8, [.ref yt, .int v1, .int v2, .ref yr, .ref yk, .ref yz, .ref yp, .int 2, .int 2, .int v9, .int v10, .ref yl, .ref yw, .int v13, .int v14, .int v15, .int v16, .int v17, .int v18, .int v19, .int v20, .int v21, .ref yd, .int v23, .ref ys, .ref yn, .ref ym, .int v27, .ref yf, .ref yo, .ref yh, .ref yb, .int v32, .int v33, .int v34, .int v35, .int v36, .int v37, .int v38, .ref yx, .int v40, .int v41, .int v42]))] H := hP
  have hD : va_D A [(y, .inr (8, [.ref yt, .int v1, .int v2, .ref yr, .ref yk, .ref yz, .ref yp, .int 2, .int 2, .int v9, .int v10, .ref yl, .ref yw, .int v13, .int v14, .int v15, .int v16, .int v17, .int v18, .int v19, .int v20, .int v21, .ref yd, .int v23, .ref ys, .ref yn, .ref ym, .int v27, .ref yf, .ref yo, .ref yh, .ref yb, .int v32, .int v33, .int v34, .int v35, .int v36, .int v37, .int v38, .ref yx, .int v40, .int v41, .int v42]))] := hD
  refine lv_if_eq (tgt := 15) hx hb dX8_flagsOf_8 (by decide) (fun _ => ?_) (fun c => absurd (by decide) c)
  refine lv_iconst (v := 0) hx hb dX8_flagsOf_15 (by decide) ?_
  refine lv_iload_n hx hb dX8_flagsOf_16 rfl (lv_at hl 1 rfl) ?_
  refine lv_aload_n hx hb dX8_flagsOf_17 rfl (lv_at hl 0 rfl) ?_
  refine va_get (D := (dC, dI)) (ci := 8) (v := .int 2) (C := RX8) (T := TX8) (N := 43) hx hb hts hinX8 hown hK hP 0 rfl rfl 7 (by decide) k_1 (fun _ h9 => h9) rfl dX8_flagsOf_18 ?_
  refine lv_iconst (v := 1) hx hb dX8_flagsOf_21 (by decide) ?_
  refine lv_isub hx hb dX8_flagsOf_22 ?_
  refine tp (y := 1) (by decide) ?_
  refine lv_icmp_ge (tgt := 30) hx hb dX8_flagsOf_23 (by decide) (fun c => absurd c (by decide)) (fun _ => ?_)
  refine lv_iconst (v := 1) hx hb dX8_flagsOf_26 (by decide) ?_
  refine lv_goto (tgt := 31) hx hb dX8_flagsOf_27 (by decide) ?_
  refine lv_ior hx hb dX8_flagsOf_31 ?_
  refine tp (y := 1) (by decide) ?_
  have hP9 := hP.sub (ws' := [(y, .inr (8, [.ref yt, .int v1, .int v2, .ref yr, .ref yk, .ref yz, .ref yp, .int 2, .int 2, .int v9, .int v10, .ref yl, .ref yw, .int v13, .int v14, .int v15, .int v16, .int v17, .int v18, .int v19, .int v20, .int v21, .ref yd, .int v23, .ref ys, .ref yn, .ref ym, .int v27, .ref yf, .ref yo, .ref yh, .ref yb, .int v32, .int v33, .int v34, .int v35, .int v36, .int v37, .int v38, .ref yx, .int v40, .int v41, .int v42]))]) [0] rfl
  have hD9 := hD.sub (ws' := [(y, .inr (8, [.ref yt, .int v1, .int v2, .ref yr, .ref yk, .ref yz, .ref yp, .int 2, .int 2, .int v9, .int v10, .ref yl, .ref yw, .int v13, .int v14, .int v15, .int v16, .int v17, .int v18, .int v19, .int v20, .int v21, .ref yd, .int v23, .ref ys, .ref yn, .ref ym, .int v27, .ref yf, .ref yo, .ref yh, .ref yb, .int v32, .int v33, .int v34, .int v35, .int v36, .int v37, .int v38, .ref yx, .int v40, .int v41, .int v42]))]) [0] (by decide) rfl
  exact W.iret (v := 1) hx hb hr (fun t ht hW => ⟨⟨1, (), rfl, rfl, by rw [ht]; exact hP9, va_K.moved hW.alike hK, hD9⟩, hS.F ht⟩) hS.2.2 dX8_flagsOf_32

set_option maxHeartbeats 4000000 in
set_option maxRecDepth 100000 in
theorem kkX8_flagsOf_11_1 (l : Launch) (dC : Nat → ClassId) (dI : Nat → Nat → Nat) (cI cB cZ cR : ClassId) (sz : Nat) (y : Nat) (yt : Nat) (yr : Nat) (yk : Nat) (yz : Nat) (yp : Nat) (yl : Nat) (yw : Nat) (yd : Nat) (ys : Nat) (yn : Nat) (ym : Nat) (yf : Nat) (yo : Nat) (yh : Nat) (yb : Nat) (yx : Nat) (v1 : Int32) (v2 : Int32) (v9 : Int32) (v10 : Int32) (v13 : Int32) (v14 : Int32) (v15 : Int32) (v16 : Int32) (v17 : Int32) (v18 : Int32) (v19 : Int32) (v20 : Int32) (v21 : Int32) (v23 : Int32) (v27 : Int32) (v32 : Int32) (v33 : Int32) (v34 : Int32) (v35 : Int32) (v36 : Int32) (v37 : Int32) (v38 : Int32) (v40 : Int32) (v41 : Int32) (v42 : Int32) : Met l yX8_flagsOf (.code yX8_flagsOf cX8_flagsOf 2 (some .int) :: wsL_law) ({ frames := 1, cells := 0, slots := 0, locals := 21 }) (zPc dC dI (zT cI cB cZ cR) [.ref y, .int 1] sz [(y, .inr (8, [.ref yt, .int v1, .int v2, .ref yr, .ref yk, .ref yz, .ref yp, .int 2, .int 2, .int v9, .int v10, .ref yl, .ref yw, .int v13, .int v14, .int v15, .int v16, .int v17, .int v18, .int v19, .int v20, .int v21, .ref yd, .int v23, .ref ys, .ref yn, .ref ym, .int v27, .ref yf, .ref yo, .ref yh, .ref yb, .int v32, .int v33, .int v34, .int v35, .int v36, .int v37, .int v38, .ref yx, .int v40, .int v41, .int v42]))]) (va_Qi (fun (r : Int32) (_ : Unit) => r = 2) (fun _ : Unit => zB dC dI (zT cI cB cZ cR) (va_A [(y, .inr (8, [.ref yt, .int v1, .int v2, .ref yr, .ref yk, .ref yz, .ref yp, .int 2, .int 2, .int v9, .int v10, .ref yl, .ref yw, .int v13, .int v14, .int v15, .int v16, .int v17, .int v18, .int v19, .int v20, .int v21, .ref yd, .int v23, .ref ys, .ref yn, .ref ym, .int v27, .ref yf, .ref yo, .ref yh, .ref yb, .int v32, .int v33, .int v34, .int v35, .int v36, .int v37, .int v38, .ref yx, .int v40, .int v41, .int v42]))] sz) [(y, .inr (8, [.ref yt, .int v1, .int v2, .ref yr, .ref yk, .ref yz, .ref yp, .int 2, .int 2, .int v9, .int v10, .ref yl, .ref yw, .int v13, .int v14, .int v15, .int v16, .int v17, .int v18, .int v19, .int v20, .int v21, .ref yd, .int v23, .ref ys, .ref yn, .ref ym, .int v27, .ref yf, .ref yo, .ref yh, .ref yb, .int v32, .int v33, .int v34, .int v35, .int v36, .int v37, .int v38, .ref yx, .int v40, .int v41, .int v42]))]) (va_A [(y, .inr (8, [.ref yt, .int v1, .int v2, .ref yr, .ref yk, .ref yz, .ref yp, .int 2, .int 2, .int v9, .int v10, .ref yl, .ref yw, .int v13, .int v14, .int v15, .int v16, .int v17, .int v18, .int v19, .int v20, .int v21, .ref yd, .int v23, .ref ys, .ref yn, .ref ym, .int v27, .ref yf, .ref yo, .ref yh, .ref yb, .int v32, .int v33, .int v34, .int v35, .int v36, .int v37, .int v38, .ref yx, .int v40, .int v41, .int v42]))] sz)) 0 0 (va_A [(y, .inr (8, [.ref yt, .int v1, .int v2, .ref yr, .ref yk, .ref yz, .ref yp, .int 2, .int 2, .int v9, .int v10, .ref yl, .ref yw, .int v13, .int v14, .int v15, .int v16, .int v17, .int v18, .int v19, .int v20, .int v21, .ref yd, .int v23, .ref ys, .ref yn, .ref ym, .int v27, .ref yf, .ref yo, .ref yh, .ref yb, .int v32, .int v33, .int v34, .int v35, .int v36, .int v37, .int v38, .ref yx, .int v40, .int v41, .int v42]))] sz) := by
  refine Met.ofW (cc := cX8_flagsOf) (maxL := 2) (ret := (some .int)) (by decide) rfl ?_
  intro p e s m args below meth c s₁ B hml hv
  obtain ⟨rfl, hsz, hP, hK, hD0, hN⟩ := hv
  have hx := B.exec
  have hb := B.bytes
  have hr := B.returns
  have hts := atoms_spec (ws := (.code yX8_flagsOf cX8_flagsOf 2 (some .int) :: wsL_law)) B.pre
  have hown : s.vm.findClass RX8 = some m.cls := findClass_of_methodNamed B.named
  have hlocks := B.notSynchronized
  have hinX8 : ∀ w ∈ u_ws RX8 TX8 43, w ∈ (.code yX8_flagsOf cX8_flagsOf 2 (some .int) :: wsL_law) := fun w h => List.mem_cons_of_mem _ (inlX8 w h)
  have k_0 := hts (.fieldLink RX8 114 "RingMarksModel" "writes" "I") (List.mem_cons_of_mem _ wm_337)
  have k_1 := hts (.fieldLink RX8 111 "RingMarksModel" "parts" "I") (List.mem_cons_of_mem _ wm_336)
  subst hsz
  have hD := hD0.self (sz := s.heap.size)
  generalize hAe : va_A [(y, .inr (8, [.ref yt, .int v1, .int v2, .ref yr, .ref yk, .ref yz, .ref yp, .int 2, .int 2, .int v9, .int v10, .ref yl, .ref yw, .int v13, .int v14, .int v15, .int v16, .int v17, .int v18, .int v19, .int v20, .int v21, .ref yd, .int v23, .ref ys, .ref yn, .ref ym, .int v27, .ref yf, .ref yo, .ref yh, .ref yb, .int v32, .int v33, .int v34, .int v35, .int v36, .int v37, .int v38, .ref yx, .int v40, .int v41, .int v42]))] s.heap.size = A at hD ⊢
  have hA : ∀ q : Nat, s.heap.size ≤ q → A q := fun q h => by rw [← hAe]; exact Or.inr h
  have hP : va_P (dC, dI) vwCl [(y, .inr (8, [.ref yt, .int v1, .int v2, .ref yr, .ref yk, .ref yz, .ref yp, .int 2, .int 2, .int v9, .int v10, .ref yl, .ref yw, .int v13, .int v14, .int v15, .int v16, .int v17, .int v18, .int v19, .int v20, .int v21, .ref yd, .int v23, .ref ys, .ref yn, .ref ym, .int v27, .ref yf, .ref yo, .ref yh, .ref yb, .int v32, .int v33, .int v34, .int v35, .int v36, .int v37, .int v38, .ref yx, .int v40, .int v41, .int v42]))] s.heap := hP
  have hl := lv_entry ([.ref y, .int 1]) (n := 2) (Nat.le_of_ble_eq_true rfl)
  rw [lg_entry_eq]
  generalize (lg_sl ([.ref y, .int 1]) ++ List.replicate (2 - (lg_sl ([.ref y, .int 1])).length) Slot.unset).toArray = ls at hl ⊢
  have hl : lv_has ls 2 [(0, .ref y), (1, .int 1)] := hl
  obtain ⟨H, hH⟩ : ∃ H, H = s.heap := ⟨_, rfl⟩
  rw [← hH] at hP ⊢
  have hS : va_S A s.heap H [] := by rw [hH]; exact va_S.rf
  refine lv_aload_n hx hb dX8_flagsOf_0 rfl (lv_at hl 0 rfl) ?_
  refine va_get (D := (dC, dI)) (ci := 8) (v := .int 2) (C := RX8) (T := TX8) (N := 43) hx hb hts hinX8 hown hK hP 0 rfl rfl 8 (by decide) k_0 (fun _ h9 => h9) rfl dX8_flagsOf_1 ?_
  refine lv_iload_n hx hb dX8_flagsOf_4 rfl (lv_at hl 1 rfl) ?_
  refine zcSi (As := [.int 2, .int 1]) (rest := []) (wr := [(y, .inr (8, [.ref yt, .int v1, .int v2, .ref yr, .ref yk, .ref yz, .ref yp, .int 2, .int 2, .int v9, .int v10, .ref yl, .ref yw, .int v13, .int v14, .int v15, .int v16, .int v17, .int v18, .int v19, .int v20, .int v21, .ref yd, .int v23, .ref ys, .ref yn, .ref ym, .int v27, .ref yf, .ref yo, .ref yh, .ref yb, .int v32, .int v33, .int v34, .int v35, .int v36, .int v37, .int v38, .ref yx, .int v40, .int v41, .int v42]))]) ⟨hx, hb, hml, hown, hts⟩ (kkX8_bitOf_2_1 l dC dI cI cB cZ cR H.size  ) (va_cwS 2 hts (zgS wm_358 wm_359 wm_5 wm_360) rfl rfl rfl (by decide +kernel) ⟨Nat.le_of_ble_eq_true rfl, Nat.le_of_ble_eq_true rfl⟩) hN hK hP hD hS hA [] [0] rfl rfl ⟨rfl, rfl⟩ (by decide) rfl hl.1 rfl (Nat.le_of_ble_eq_true rfl) dX8_flagsOf_5 ⟨Nat.le_of_ble_eq_true rfl, Nat.le_of_ble_eq_true rfl⟩ (fun r u hu H locs hP hD hS => ?_)
  have hu : r = 1 := hu
  subst hu
  have hP : va_P (dC, dI) vwCl [(y, .inr (8, [.ref yt, .int v1, .int v2, .ref yr, .ref yk, .ref yz, .ref yp, .int 2, .int 2, .int v9, .int v10, .ref yl, .ref yw, .int v13, .int v14, .int v15, .int v16, .int v17, .int v18, .int v19, .int v20, .int v21, .ref yd, .int v23, .ref ys, .ref yn, .ref ym, .int v27, .ref yf, .ref yo, .ref yh, .ref yb, .int v32, .int v33, .int v34, .int v35, .int v36, .int v37, .int v38, .ref yx, .int v40, .int v41, .int v42]))] H := hP
  have hD : va_D A [(y, .inr (8, [.ref yt, .int v1, .int v2, .ref yr, .ref yk, .ref yz, .ref yp, .int 2, .int 2, .int v9, .int v10, .ref yl, .ref yw, .int v13, .int v14, .int v15, .int v16, .int v17, .int v18, .int v19, .int v20, .int v21, .ref yd, .int v23, .ref ys, .ref yn, .ref ym, .int v27, .ref yf, .ref yo, .ref yh, .ref yb, .int v32, .int v33, .int v34, .int v35, .int v36, .int v37, .int v38, .ref yx, .int v40, .int v41, .int v42]))] := hD
  refine lv_if_eq (tgt := 15) hx hb dX8_flagsOf_8 (by decide) (fun c => absurd c (by decide)) (fun _ => ?_)
  refine lv_iconst (v := 2) hx hb dX8_flagsOf_11 (by decide) ?_
  refine lv_goto (tgt := 16) hx hb dX8_flagsOf_12 (by decide) ?_
  refine lv_iload_n hx hb dX8_flagsOf_16 rfl (lv_at hl 1 rfl) ?_
  refine lv_aload_n hx hb dX8_flagsOf_17 rfl (lv_at hl 0 rfl) ?_
  refine va_get (D := (dC, dI)) (ci := 8) (v := .int 2) (C := RX8) (T := TX8) (N := 43) hx hb hts hinX8 hown hK hP 0 rfl rfl 7 (by decide) k_1 (fun _ h9 => h9) rfl dX8_flagsOf_18 ?_
  refine lv_iconst (v := 1) hx hb dX8_flagsOf_21 (by decide) ?_
  refine lv_isub hx hb dX8_flagsOf_22 ?_
  refine tp (y := 1) (by decide) ?_
  refine lv_icmp_ge (tgt := 30) hx hb dX8_flagsOf_23 (by decide) (fun _ => ?_) (fun c => absurd (by decide) c)
  refine lv_iconst (v := 0) hx hb dX8_flagsOf_30 (by decide) ?_
  refine lv_ior hx hb dX8_flagsOf_31 ?_
  refine tp (y := 2) (by decide) ?_
  have hP9 := hP.sub (ws' := [(y, .inr (8, [.ref yt, .int v1, .int v2, .ref yr, .ref yk, .ref yz, .ref yp, .int 2, .int 2, .int v9, .int v10, .ref yl, .ref yw, .int v13, .int v14, .int v15, .int v16, .int v17, .int v18, .int v19, .int v20, .int v21, .ref yd, .int v23, .ref ys, .ref yn, .ref ym, .int v27, .ref yf, .ref yo, .ref yh, .ref yb, .int v32, .int v33, .int v34, .int v35, .int v36, .int v37, .int v38, .ref yx, .int v40, .int v41, .int v42]))]) [0] rfl
  have hD9 := hD.sub (ws' := [(y, .inr (8, [.ref yt, .int v1, .int v2, .ref yr, .ref yk, .ref yz, .ref yp, .int 2, .int 2, .int v9, .int v10, .ref yl, .ref yw, .int v13, .int v14, .int v15, .int v16, .int v17, .int v18, .int v19, .int v20, .int v21, .ref yd, .int v23, .ref ys, .ref yn, .ref ym, .int v27, .ref yf, .ref yo, .ref yh, .ref yb, .int v32, .int v33, .int v34, .int v35, .int v36, .int v37, .int v38, .ref yx, .int v40, .int v41, .int v42]))]) [0] (by decide) rfl
  exact W.iret (v := 2) hx hb hr (fun t ht hW => ⟨⟨2, (), rfl, rfl, by rw [ht]; exact hP9, va_K.moved hW.alike hK, hD9⟩, hS.F ht⟩) hS.2.2 dX8_flagsOf_32

set_option maxHeartbeats 4000000 in
set_option maxRecDepth 100000 in
theorem kkX8_flagsOf_20_0 (l : Launch) (dC : Nat → ClassId) (dI : Nat → Nat → Nat) (cI cB cZ cR : ClassId) (sz : Nat) (y : Nat) (yt : Nat) (yr : Nat) (yk : Nat) (yz : Nat) (yp : Nat) (yl : Nat) (yw : Nat) (yd : Nat) (ys : Nat) (yn : Nat) (ym : Nat) (yf : Nat) (yo : Nat) (yh : Nat) (yb : Nat) (yx : Nat) (v1 : Int32) (v2 : Int32) (v9 : Int32) (v10 : Int32) (v13 : Int32) (v14 : Int32) (v15 : Int32) (v16 : Int32) (v17 : Int32) (v18 : Int32) (v19 : Int32) (v20 : Int32) (v21 : Int32) (v23 : Int32) (v27 : Int32) (v32 : Int32) (v33 : Int32) (v34 : Int32) (v35 : Int32) (v36 : Int32) (v37 : Int32) (v38 : Int32) (v40 : Int32) (v41 : Int32) (v42 : Int32) : Met l yX8_flagsOf (.code yX8_flagsOf cX8_flagsOf 2 (some .int) :: wsL_law) ({ frames := 1, cells := 0, slots := 0, locals := 21 }) (zPc dC dI (zT cI cB cZ cR) [.ref y, .int 0] sz [(y, .inr (8, [.ref yt, .int v1, .int v2, .ref yr, .ref yk, .ref yz, .ref yp, .int 2, .int 0, .int v9, .int v10, .ref yl, .ref yw, .int v13, .int v14, .int v15, .int v16, .int v17, .int v18, .int v19, .int v20, .int v21, .ref yd, .int v23, .ref ys, .ref yn, .ref ym, .int v27, .ref yf, .ref yo, .ref yh, .ref yb, .int v32, .int v33, .int v34, .int v35, .int v36, .int v37, .int v38, .ref yx, .int v40, .int v41, .int v42]))]) (va_Qi (fun (r : Int32) (_ : Unit) => r = 1) (fun _ : Unit => zB dC dI (zT cI cB cZ cR) (va_A [(y, .inr (8, [.ref yt, .int v1, .int v2, .ref yr, .ref yk, .ref yz, .ref yp, .int 2, .int 0, .int v9, .int v10, .ref yl, .ref yw, .int v13, .int v14, .int v15, .int v16, .int v17, .int v18, .int v19, .int v20, .int v21, .ref yd, .int v23, .ref ys, .ref yn, .ref ym, .int v27, .ref yf, .ref yo, .ref yh, .ref yb, .int v32, .int v33, .int v34, .int v35, .int v36, .int v37, .int v38, .ref yx, .int v40, .int v41, .int v42]))] sz) [(y, .inr (8, [.ref yt, .int v1, .int v2, .ref yr, .ref yk, .ref yz, .ref yp, .int 2, .int 0, .int v9, .int v10, .ref yl, .ref yw, .int v13, .int v14, .int v15, .int v16, .int v17, .int v18, .int v19, .int v20, .int v21, .ref yd, .int v23, .ref ys, .ref yn, .ref ym, .int v27, .ref yf, .ref yo, .ref yh, .ref yb, .int v32, .int v33, .int v34, .int v35, .int v36, .int v37, .int v38, .ref yx, .int v40, .int v41, .int v42]))]) (va_A [(y, .inr (8, [.ref yt, .int v1, .int v2, .ref yr, .ref yk, .ref yz, .ref yp, .int 2, .int 0, .int v9, .int v10, .ref yl, .ref yw, .int v13, .int v14, .int v15, .int v16, .int v17, .int v18, .int v19, .int v20, .int v21, .ref yd, .int v23, .ref ys, .ref yn, .ref ym, .int v27, .ref yf, .ref yo, .ref yh, .ref yb, .int v32, .int v33, .int v34, .int v35, .int v36, .int v37, .int v38, .ref yx, .int v40, .int v41, .int v42]))] sz)) 0 0 (va_A [(y, .inr (8, [.ref yt, .int v1, .int v2, .ref yr, .ref yk, .ref yz, .ref yp, .int 2, .int 0, .int v9, .int v10, .ref yl, .ref yw, .int v13, .int v14, .int v15, .int v16, .int v17, .int v18, .int v19, .int v20, .int v21, .ref yd, .int v23, .ref ys, .ref yn, .ref ym, .int v27, .ref yf, .ref yo, .ref yh, .ref yb, .int v32, .int v33, .int v34, .int v35, .int v36, .int v37, .int v38, .ref yx, .int v40, .int v41, .int v42]))] sz) := by
  refine Met.ofW (cc := cX8_flagsOf) (maxL := 2) (ret := (some .int)) (by decide) rfl ?_
  intro p e s m args below meth c s₁ B hml hv
  obtain ⟨rfl, hsz, hP, hK, hD0, hN⟩ := hv
  have hx := B.exec
  have hb := B.bytes
  have hr := B.returns
  have hts := atoms_spec (ws := (.code yX8_flagsOf cX8_flagsOf 2 (some .int) :: wsL_law)) B.pre
  have hown : s.vm.findClass RX8 = some m.cls := findClass_of_methodNamed B.named
  have hlocks := B.notSynchronized
  have hinX8 : ∀ w ∈ u_ws RX8 TX8 43, w ∈ (.code yX8_flagsOf cX8_flagsOf 2 (some .int) :: wsL_law) := fun w h => List.mem_cons_of_mem _ (inlX8 w h)
  have k_0 := hts (.fieldLink RX8 114 "RingMarksModel" "writes" "I") (List.mem_cons_of_mem _ wm_337)
  have k_1 := hts (.fieldLink RX8 111 "RingMarksModel" "parts" "I") (List.mem_cons_of_mem _ wm_336)
  subst hsz
  have hD := hD0.self (sz := s.heap.size)
  generalize hAe : va_A [(y, .inr (8, [.ref yt, .int v1, .int v2, .ref yr, .ref yk, .ref yz, .ref yp, .int 2, .int 0, .int v9, .int v10, .ref yl, .ref yw, .int v13, .int v14, .int v15, .int v16, .int v17, .int v18, .int v19, .int v20, .int v21, .ref yd, .int v23, .ref ys, .ref yn, .ref ym, .int v27, .ref yf, .ref yo, .ref yh, .ref yb, .int v32, .int v33, .int v34, .int v35, .int v36, .int v37, .int v38, .ref yx, .int v40, .int v41, .int v42]))] s.heap.size = A at hD ⊢
  have hA : ∀ q : Nat, s.heap.size ≤ q → A q := fun q h => by rw [← hAe]; exact Or.inr h
  have hP : va_P (dC, dI) vwCl [(y, .inr (8, [.ref yt, .int v1, .int v2, .ref yr, .ref yk, .ref yz, .ref yp, .int 2, .int 0, .int v9, .int v10, .ref yl, .ref yw, .int v13, .int v14, .int v15, .int v16, .int v17, .int v18, .int v19, .int v20, .int v21, .ref yd, .int v23, .ref ys, .ref yn, .ref ym, .int v27, .ref yf, .ref yo, .ref yh, .ref yb, .int v32, .int v33, .int v34, .int v35, .int v36, .int v37, .int v38, .ref yx, .int v40, .int v41, .int v42]))] s.heap := hP
  have hl := lv_entry ([.ref y, .int 0]) (n := 2) (Nat.le_of_ble_eq_true rfl)
  rw [lg_entry_eq]
  generalize (lg_sl ([.ref y, .int 0]) ++ List.replicate (2 - (lg_sl ([.ref y, .int 0])).length) Slot.unset).toArray = ls at hl ⊢
  have hl : lv_has ls 2 [(0, .ref y), (1, .int 0)] := hl
  obtain ⟨H, hH⟩ : ∃ H, H = s.heap := ⟨_, rfl⟩
  rw [← hH] at hP ⊢
  have hS : va_S A s.heap H [] := by rw [hH]; exact va_S.rf
  refine lv_aload_n hx hb dX8_flagsOf_0 rfl (lv_at hl 0 rfl) ?_
  refine va_get (D := (dC, dI)) (ci := 8) (v := .int 0) (C := RX8) (T := TX8) (N := 43) hx hb hts hinX8 hown hK hP 0 rfl rfl 8 (by decide) k_0 (fun _ h9 => h9) rfl dX8_flagsOf_1 ?_
  refine lv_iload_n hx hb dX8_flagsOf_4 rfl (lv_at hl 1 rfl) ?_
  refine zcSi (As := [.int 0, .int 0]) (rest := []) (wr := [(y, .inr (8, [.ref yt, .int v1, .int v2, .ref yr, .ref yk, .ref yz, .ref yp, .int 2, .int 0, .int v9, .int v10, .ref yl, .ref yw, .int v13, .int v14, .int v15, .int v16, .int v17, .int v18, .int v19, .int v20, .int v21, .ref yd, .int v23, .ref ys, .ref yn, .ref ym, .int v27, .ref yf, .ref yo, .ref yh, .ref yb, .int v32, .int v33, .int v34, .int v35, .int v36, .int v37, .int v38, .ref yx, .int v40, .int v41, .int v42]))]) ⟨hx, hb, hml, hown, hts⟩ (kkX8_bitOf_0_0 l dC dI cI cB cZ cR H.size  ) (va_cwS 2 hts (zgS wm_358 wm_359 wm_5 wm_360) rfl rfl rfl (by decide +kernel) ⟨Nat.le_of_ble_eq_true rfl, Nat.le_of_ble_eq_true rfl⟩) hN hK hP hD hS hA [] [0] rfl rfl ⟨rfl, rfl⟩ (by decide) rfl hl.1 rfl (Nat.le_of_ble_eq_true rfl) dX8_flagsOf_5 ⟨Nat.le_of_ble_eq_true rfl, Nat.le_of_ble_eq_true rfl⟩ (fun r u hu H locs hP hD hS => ?_)
  have hu : r = 0 := hu
  subst hu
  have hP : va_P (dC, dI) vwCl [(y, .inr (8, [.ref yt, .int v1, .int v2, .ref yr, .ref yk, .ref yz, .ref yp, .int 2, .int 0, .int v9, .int v10, .ref yl, .ref yw, .int v13, .int v14, .int v15, .int v16, .int v17, .int v18, .int v19, .int v20, .int v21, .ref yd, .int v23, .ref ys, .ref yn, .ref ym, .int v27, .ref yf, .ref yo, .ref yh, .ref yb, .int v32, .int v33, .int v34, .int v35, .int v36, .int v37, .int v38, .ref yx, .int v40, .int v41, .int v42]))] H := hP
  have hD : va_D A [(y, .inr (8, [.ref yt, .int v1, .int v2, .ref yr, .ref yk, .ref yz, .ref yp, .int 2, .int 0, .int v9, .int v10, .ref yl, .ref yw, .int v13, .int v14, .int v15, .int v16, .int v17, .int v18, .int v19, .int v20, .int v21, .ref yd, .int v23, .ref ys, .ref yn, .ref ym, .int v27, .ref yf, .ref yo, .ref yh, .ref yb, .int v32, .int v33, .int v34, .int v35, .int v36, .int v37, .int v38, .ref yx, .int v40, .int v41, .int v42]))] := hD
  refine lv_if_eq (tgt := 15) hx hb dX8_flagsOf_8 (by decide) (fun _ => ?_) (fun c => absurd (by decide) c)
  refine lv_iconst (v := 0) hx hb dX8_flagsOf_15 (by decide) ?_
  refine lv_iload_n hx hb dX8_flagsOf_16 rfl (lv_at hl 1 rfl) ?_
  refine lv_aload_n hx hb dX8_flagsOf_17 rfl (lv_at hl 0 rfl) ?_
  refine va_get (D := (dC, dI)) (ci := 8) (v := .int 2) (C := RX8) (T := TX8) (N := 43) hx hb hts hinX8 hown hK hP 0 rfl rfl 7 (by decide) k_1 (fun _ h9 => h9) rfl dX8_flagsOf_18 ?_
  refine lv_iconst (v := 1) hx hb dX8_flagsOf_21 (by decide) ?_
  refine lv_isub hx hb dX8_flagsOf_22 ?_
  refine tp (y := 1) (by decide) ?_
  refine lv_icmp_ge (tgt := 30) hx hb dX8_flagsOf_23 (by decide) (fun c => absurd c (by decide)) (fun _ => ?_)
  refine lv_iconst (v := 1) hx hb dX8_flagsOf_26 (by decide) ?_
  refine lv_goto (tgt := 31) hx hb dX8_flagsOf_27 (by decide) ?_
  refine lv_ior hx hb dX8_flagsOf_31 ?_
  refine tp (y := 1) (by decide) ?_
  have hP9 := hP.sub (ws' := [(y, .inr (8, [.ref yt, .int v1, .int v2, .ref yr, .ref yk, .ref yz, .ref yp, .int 2, .int 0, .int v9, .int v10, .ref yl, .ref yw, .int v13, .int v14, .int v15, .int v16, .int v17, .int v18, .int v19, .int v20, .int v21, .ref yd, .int v23, .ref ys, .ref yn, .ref ym, .int v27, .ref yf, .ref yo, .ref yh, .ref yb, .int v32, .int v33, .int v34, .int v35, .int v36, .int v37, .int v38, .ref yx, .int v40, .int v41, .int v42]))]) [0] rfl
  have hD9 := hD.sub (ws' := [(y, .inr (8, [.ref yt, .int v1, .int v2, .ref yr, .ref yk, .ref yz, .ref yp, .int 2, .int 0, .int v9, .int v10, .ref yl, .ref yw, .int v13, .int v14, .int v15, .int v16, .int v17, .int v18, .int v19, .int v20, .int v21, .ref yd, .int v23, .ref ys, .ref yn, .ref ym, .int v27, .ref yf, .ref yo, .ref yh, .ref yb, .int v32, .int v33, .int v34, .int v35, .int v36, .int v37, .int v38, .ref yx, .int v40, .int v41, .int v42]))]) [0] (by decide) rfl
  exact W.iret (v := 1) hx hb hr (fun t ht hW => ⟨⟨1, (), rfl, rfl, by rw [ht]; exact hP9, va_K.moved hW.alike hK, hD9⟩, hS.F ht⟩) hS.2.2 dX8_flagsOf_32

set_option maxHeartbeats 4000000 in
set_option maxRecDepth 100000 in
theorem kkX8_flagsOf_20_1 (l : Launch) (dC : Nat → ClassId) (dI : Nat → Nat → Nat) (cI cB cZ cR : ClassId) (sz : Nat) (y : Nat) (yt : Nat) (yr : Nat) (yk : Nat) (yz : Nat) (yp : Nat) (yl : Nat) (yw : Nat) (yd : Nat) (ys : Nat) (yn : Nat) (ym : Nat) (yf : Nat) (yo : Nat) (yh : Nat) (yb : Nat) (yx : Nat) (v1 : Int32) (v2 : Int32) (v9 : Int32) (v10 : Int32) (v13 : Int32) (v14 : Int32) (v15 : Int32) (v16 : Int32) (v17 : Int32) (v18 : Int32) (v19 : Int32) (v20 : Int32) (v21 : Int32) (v23 : Int32) (v27 : Int32) (v32 : Int32) (v33 : Int32) (v34 : Int32) (v35 : Int32) (v36 : Int32) (v37 : Int32) (v38 : Int32) (v40 : Int32) (v41 : Int32) (v42 : Int32) : Met l yX8_flagsOf (.code yX8_flagsOf cX8_flagsOf 2 (some .int) :: wsL_law) ({ frames := 1, cells := 0, slots := 0, locals := 21 }) (zPc dC dI (zT cI cB cZ cR) [.ref y, .int 1] sz [(y, .inr (8, [.ref yt, .int v1, .int v2, .ref yr, .ref yk, .ref yz, .ref yp, .int 2, .int 0, .int v9, .int v10, .ref yl, .ref yw, .int v13, .int v14, .int v15, .int v16, .int v17, .int v18, .int v19, .int v20, .int v21, .ref yd, .int v23, .ref ys, .ref yn, .ref ym, .int v27, .ref yf, .ref yo, .ref yh, .ref yb, .int v32, .int v33, .int v34, .int v35, .int v36, .int v37, .int v38, .ref yx, .int v40, .int v41, .int v42]))]) (va_Qi (fun (r : Int32) (_ : Unit) => r = 0) (fun _ : Unit => zB dC dI (zT cI cB cZ cR) (va_A [(y, .inr (8, [.ref yt, .int v1, .int v2, .ref yr, .ref yk, .ref yz, .ref yp, .int 2, .int 0, .int v9, .int v10, .ref yl, .ref yw, .int v13, .int v14, .int v15, .int v16, .int v17, .int v18, .int v19, .int v20, .int v21, .ref yd, .int v23, .ref ys, .ref yn, .ref ym, .int v27, .ref yf, .ref yo, .ref yh, .ref yb, .int v32, .int v33, .int v34, .int v35, .int v36, .int v37, .int v38, .ref yx, .int v40, .int v41, .int v42]))] sz) [(y, .inr (8, [.ref yt, .int v1, .int v2, .ref yr, .ref yk, .ref yz, .ref yp, .int 2, .int 0, .int v9, .int v10, .ref yl, .ref yw, .int v13, .int v14, .int v15, .int v16, .int v17, .int v18, .int v19, .int v20, .int v21, .ref yd, .int v23, .ref ys, .ref yn, .ref ym, .int v27, .ref yf, .ref yo, .ref yh, .ref yb, .int v32, .int v33, .int v34, .int v35, .int v36, .int v37, .int v38, .ref yx, .int v40, .int v41, .int v42]))]) (va_A [(y, .inr (8, [.ref yt, .int v1, .int v2, .ref yr, .ref yk, .ref yz, .ref yp, .int 2, .int 0, .int v9, .int v10, .ref yl, .ref yw, .int v13, .int v14, .int v15, .int v16, .int v17, .int v18, .int v19, .int v20, .int v21, .ref yd, .int v23, .ref ys, .ref yn, .ref ym, .int v27, .ref yf, .ref yo, .ref yh, .ref yb, .int v32, .int v33, .int v34, .int v35, .int v36, .int v37, .int v38, .ref yx, .int v40, .int v41, .int v42]))] sz)) 0 0 (va_A [(y, .inr (8, [.ref yt, .int v1, .int v2, .ref yr, .ref yk, .ref yz, .ref yp, .int 2, .int 0, .int v9, .int v10, .ref yl, .ref yw, .int v13, .int v14, .int v15, .int v16, .int v17, .int v18, .int v19, .int v20, .int v21, .ref yd, .int v23, .ref ys, .ref yn, .ref ym, .int v27, .ref yf, .ref yo, .ref yh, .ref yb, .int v32, .int v33, .int v34, .int v35, .int v36, .int v37, .int v38, .ref yx, .int v40, .int v41, .int v42]))] sz) := by
  refine Met.ofW (cc := cX8_flagsOf) (maxL := 2) (ret := (some .int)) (by decide) rfl ?_
  intro p e s m args below meth c s₁ B hml hv
  obtain ⟨rfl, hsz, hP, hK, hD0, hN⟩ := hv
  have hx := B.exec
  have hb := B.bytes
  have hr := B.returns
  have hts := atoms_spec (ws := (.code yX8_flagsOf cX8_flagsOf 2 (some .int) :: wsL_law)) B.pre
  have hown : s.vm.findClass RX8 = some m.cls := findClass_of_methodNamed B.named
  have hlocks := B.notSynchronized
  have hinX8 : ∀ w ∈ u_ws RX8 TX8 43, w ∈ (.code yX8_flagsOf cX8_flagsOf 2 (some .int) :: wsL_law) := fun w h => List.mem_cons_of_mem _ (inlX8 w h)
  have k_0 := hts (.fieldLink RX8 114 "RingMarksModel" "writes" "I") (List.mem_cons_of_mem _ wm_337)
  have k_1 := hts (.fieldLink RX8 111 "RingMarksModel" "parts" "I") (List.mem_cons_of_mem _ wm_336)
  subst hsz
  have hD := hD0.self (sz := s.heap.size)
  generalize hAe : va_A [(y, .inr (8, [.ref yt, .int v1, .int v2, .ref yr, .ref yk, .ref yz, .ref yp, .int 2, .int 0, .int v9, .int v10, .ref yl, .ref yw, .int v13, .int v14, .int v15, .int v16, .int v17, .int v18, .int v19, .int v20, .int v21, .ref yd, .int v23, .ref ys, .ref yn, .ref ym, .int v27, .ref yf, .ref yo, .ref yh, .ref yb, .int v32, .int v33, .int v34, .int v35, .int v36, .int v37, .int v38, .ref yx, .int v40, .int v41, .int v42]))] s.heap.size = A at hD ⊢
  have hA : ∀ q : Nat, s.heap.size ≤ q → A q := fun q h => by rw [← hAe]; exact Or.inr h
  have hP : va_P (dC, dI) vwCl [(y, .inr (8, [.ref yt, .int v1, .int v2, .ref yr, .ref yk, .ref yz, .ref yp, .int 2, .int 0, .int v9, .int v10, .ref yl, .ref yw, .int v13, .int v14, .int v15, .int v16, .int v17, .int v18, .int v19, .int v20, .int v21, .ref yd, .int v23, .ref ys, .ref yn, .ref ym, .int v27, .ref yf, .ref yo, .ref yh, .ref yb, .int v32, .int v33, .int v34, .int v35, .int v36, .int v37, .int v38, .ref yx, .int v40, .int v41, .int v42]))] s.heap := hP
  have hl := lv_entry ([.ref y, .int 1]) (n := 2) (Nat.le_of_ble_eq_true rfl)
  rw [lg_entry_eq]
  generalize (lg_sl ([.ref y, .int 1]) ++ List.replicate (2 - (lg_sl ([.ref y, .int 1])).length) Slot.unset).toArray = ls at hl ⊢
  have hl : lv_has ls 2 [(0, .ref y), (1, .int 1)] := hl
  obtain ⟨H, hH⟩ : ∃ H, H = s.heap := ⟨_, rfl⟩
  rw [← hH] at hP ⊢
  have hS : va_S A s.heap H [] := by rw [hH]; exact va_S.rf
  refine lv_aload_n hx hb dX8_flagsOf_0 rfl (lv_at hl 0 rfl) ?_
  refine va_get (D := (dC, dI)) (ci := 8) (v := .int 0) (C := RX8) (T := TX8) (N := 43) hx hb hts hinX8 hown hK hP 0 rfl rfl 8 (by decide) k_0 (fun _ h9 => h9) rfl dX8_flagsOf_1 ?_
  refine lv_iload_n hx hb dX8_flagsOf_4 rfl (lv_at hl 1 rfl) ?_
  refine zcSi (As := [.int 0, .int 1]) (rest := []) (wr := [(y, .inr (8, [.ref yt, .int v1, .int v2, .ref yr, .ref yk, .ref yz, .ref yp, .int 2, .int 0, .int v9, .int v10, .ref yl, .ref yw, .int v13, .int v14, .int v15, .int v16, .int v17, .int v18, .int v19, .int v20, .int v21, .ref yd, .int v23, .ref ys, .ref yn, .ref ym, .int v27, .ref yf, .ref yo, .ref yh, .ref yb, .int v32, .int v33, .int v34, .int v35, .int v36, .int v37, .int v38, .ref yx, .int v40, .int v41, .int v42]))]) ⟨hx, hb, hml, hown, hts⟩ (kkX8_bitOf_0_1 l dC dI cI cB cZ cR H.size  ) (va_cwS 2 hts (zgS wm_358 wm_359 wm_5 wm_360) rfl rfl rfl (by decide +kernel) ⟨Nat.le_of_ble_eq_true rfl, Nat.le_of_ble_eq_true rfl⟩) hN hK hP hD hS hA [] [0] rfl rfl ⟨rfl, rfl⟩ (by decide) rfl hl.1 rfl (Nat.le_of_ble_eq_true rfl) dX8_flagsOf_5 ⟨Nat.le_of_ble_eq_true rfl, Nat.le_of_ble_eq_true rfl⟩ (fun r u hu H locs hP hD hS => ?_)
  have hu : r = 0 := hu
  subst hu
  have hP : va_P (dC, dI) vwCl [(y, .inr (8, [.ref yt, .int v1, .int v2, .ref yr, .ref yk, .ref yz, .ref yp, .int 2, .int 0, .int v9, .int v10, .ref yl, .ref yw, .int v13, .int v14, .int v15, .int v16, .int v17, .int v18, .int v19, .int v20, .int v21, .ref yd, .int v23, .ref ys, .ref yn, .ref ym, .int v27, .ref yf, .ref yo, .ref yh, .ref yb, .int v32, .int v33, .int v34, .int v35, .int v36, .int v37, .int v38, .ref yx, .int v40, .int v41, .int v42]))] H := hP
  have hD : va_D A [(y, .inr (8, [.ref yt, .int v1, .int v2, .ref yr, .ref yk, .ref yz, .ref yp, .int 2, .int 0, .int v9, .int v10, .ref yl, .ref yw, .int v13, .int v14, .int v15, .int v16, .int v17, .int v18, .int v19, .int v20, .int v21, .ref yd, .int v23, .ref ys, .ref yn, .ref ym, .int v27, .ref yf, .ref yo, .ref yh, .ref yb, .int v32, .int v33, .int v34, .int v35, .int v36, .int v37, .int v38, .ref yx, .int v40, .int v41, .int v42]))] := hD
  refine lv_if_eq (tgt := 15) hx hb dX8_flagsOf_8 (by decide) (fun _ => ?_) (fun c => absurd (by decide) c)
  refine lv_iconst (v := 0) hx hb dX8_flagsOf_15 (by decide) ?_
  refine lv_iload_n hx hb dX8_flagsOf_16 rfl (lv_at hl 1 rfl) ?_
  refine lv_aload_n hx hb dX8_flagsOf_17 rfl (lv_at hl 0 rfl) ?_
  refine va_get (D := (dC, dI)) (ci := 8) (v := .int 2) (C := RX8) (T := TX8) (N := 43) hx hb hts hinX8 hown hK hP 0 rfl rfl 7 (by decide) k_1 (fun _ h9 => h9) rfl dX8_flagsOf_18 ?_
  refine lv_iconst (v := 1) hx hb dX8_flagsOf_21 (by decide) ?_
  refine lv_isub hx hb dX8_flagsOf_22 ?_
  refine tp (y := 1) (by decide) ?_
  refine lv_icmp_ge (tgt := 30) hx hb dX8_flagsOf_23 (by decide) (fun _ => ?_) (fun c => absurd (by decide) c)
  refine lv_iconst (v := 0) hx hb dX8_flagsOf_30 (by decide) ?_
  refine lv_ior hx hb dX8_flagsOf_31 ?_
  refine tp (y := 0) (by decide) ?_
  have hP9 := hP.sub (ws' := [(y, .inr (8, [.ref yt, .int v1, .int v2, .ref yr, .ref yk, .ref yz, .ref yp, .int 2, .int 0, .int v9, .int v10, .ref yl, .ref yw, .int v13, .int v14, .int v15, .int v16, .int v17, .int v18, .int v19, .int v20, .int v21, .ref yd, .int v23, .ref ys, .ref yn, .ref ym, .int v27, .ref yf, .ref yo, .ref yh, .ref yb, .int v32, .int v33, .int v34, .int v35, .int v36, .int v37, .int v38, .ref yx, .int v40, .int v41, .int v42]))]) [0] rfl
  have hD9 := hD.sub (ws' := [(y, .inr (8, [.ref yt, .int v1, .int v2, .ref yr, .ref yk, .ref yz, .ref yp, .int 2, .int 0, .int v9, .int v10, .ref yl, .ref yw, .int v13, .int v14, .int v15, .int v16, .int v17, .int v18, .int v19, .int v20, .int v21, .ref yd, .int v23, .ref ys, .ref yn, .ref ym, .int v27, .ref yf, .ref yo, .ref yh, .ref yb, .int v32, .int v33, .int v34, .int v35, .int v36, .int v37, .int v38, .ref yx, .int v40, .int v41, .int v42]))]) [0] (by decide) rfl
  exact W.iret (v := 0) hx hb hr (fun t ht hW => ⟨⟨0, (), rfl, rfl, by rw [ht]; exact hP9, va_K.moved hW.alike hK, hD9⟩, hS.F ht⟩) hS.2.2 dX8_flagsOf_32

set_option maxHeartbeats 4000000 in
set_option maxRecDepth 100000 in
theorem kkX8_flagsOf_21_0 (l : Launch) (dC : Nat → ClassId) (dI : Nat → Nat → Nat) (cI cB cZ cR : ClassId) (sz : Nat) (y : Nat) (yt : Nat) (yr : Nat) (yk : Nat) (yz : Nat) (yp : Nat) (yl : Nat) (yw : Nat) (yd : Nat) (ys : Nat) (yn : Nat) (ym : Nat) (yf : Nat) (yo : Nat) (yh : Nat) (yb : Nat) (yx : Nat) (v1 : Int32) (v2 : Int32) (v9 : Int32) (v10 : Int32) (v13 : Int32) (v14 : Int32) (v15 : Int32) (v16 : Int32) (v17 : Int32) (v18 : Int32) (v19 : Int32) (v20 : Int32) (v21 : Int32) (v23 : Int32) (v27 : Int32) (v32 : Int32) (v33 : Int32) (v34 : Int32) (v35 : Int32) (v36 : Int32) (v37 : Int32) (v38 : Int32) (v40 : Int32) (v41 : Int32) (v42 : Int32) : Met l yX8_flagsOf (.code yX8_flagsOf cX8_flagsOf 2 (some .int) :: wsL_law) ({ frames := 1, cells := 0, slots := 0, locals := 21 }) (zPc dC dI (zT cI cB cZ cR) [.ref y, .int 0] sz [(y, .inr (8, [.ref yt, .int v1, .int v2, .ref yr, .ref yk, .ref yz, .ref yp, .int 3, .int 4, .int v9, .int v10, .ref yl, .ref yw, .int v13, .int v14, .int v15, .int v16, .int v17, .int v18, .int v19, .int v20, .int v21, .ref yd, .int v23, .ref ys, .ref yn, .ref ym, .int v27, .ref yf, .ref yo, .ref yh, .ref yb, .int v32, .int v33, .int v34, .int v35, .int v36, .int v37, .int v38, .ref yx, .int v40, .int v41, .int v42]))]) (va_Qi (fun (r : Int32) (_ : Unit) => r = 1) (fun _ : Unit => zB dC dI (zT cI cB cZ cR) (va_A [(y, .inr (8, [.ref yt, .int v1, .int v2, .ref yr, .ref yk, .ref yz, .ref yp, .int 3, .int 4, .int v9, .int v10, .ref yl, .ref yw, .int v13, .int v14, .int v15, .int v16, .int v17, .int v18, .int v19, .int v20, .int v21, .ref yd, .int v23, .ref ys, .ref yn, .ref ym, .int v27, .ref yf, .ref yo, .ref yh, .ref yb, .int v32, .int v33, .int v34, .int v35, .int v36, .int v37, .int v38, .ref yx, .int v40, .int v41, .int v42]))] sz) [(y, .inr (8, [.ref yt, .int v1, .int v2, .ref yr, .ref yk, .ref yz, .ref yp, .int 3, .int 4, .int v9, .int v10, .ref yl, .ref yw, .int v13, .int v14, .int v15, .int v16, .int v17, .int v18, .int v19, .int v20, .int v21, .ref yd, .int v23, .ref ys, .ref yn, .ref ym, .int v27, .ref yf, .ref yo, .ref yh, .ref yb, .int v32, .int v33, .int v34, .int v35, .int v36, .int v37, .int v38, .ref yx, .int v40, .int v41, .int v42]))]) (va_A [(y, .inr (8, [.ref yt, .int v1, .int v2, .ref yr, .ref yk, .ref yz, .ref yp, .int 3, .int 4, .int v9, .int v10, .ref yl, .ref yw, .int v13, .int v14, .int v15, .int v16, .int v17, .int v18, .int v19, .int v20, .int v21, .ref yd, .int v23, .ref ys, .ref yn, .ref ym, .int v27, .ref yf, .ref yo, .ref yh, .ref yb, .int v32, .int v33, .int v34, .int v35, .int v36, .int v37, .int v38, .ref yx, .int v40, .int v41, .int v42]))] sz)) 0 0 (va_A [(y, .inr (8, [.ref yt, .int v1, .int v2, .ref yr, .ref yk, .ref yz, .ref yp, .int 3, .int 4, .int v9, .int v10, .ref yl, .ref yw, .int v13, .int v14, .int v15, .int v16, .int v17, .int v18, .int v19, .int v20, .int v21, .ref yd, .int v23, .ref ys, .ref yn, .ref ym, .int v27, .ref yf, .ref yo, .ref yh, .ref yb, .int v32, .int v33, .int v34, .int v35, .int v36, .int v37, .int v38, .ref yx, .int v40, .int v41, .int v42]))] sz) := by
  refine Met.ofW (cc := cX8_flagsOf) (maxL := 2) (ret := (some .int)) (by decide) rfl ?_
  intro p e s m args below meth c s₁ B hml hv
  obtain ⟨rfl, hsz, hP, hK, hD0, hN⟩ := hv
  have hx := B.exec
  have hb := B.bytes
  have hr := B.returns
  have hts := atoms_spec (ws := (.code yX8_flagsOf cX8_flagsOf 2 (some .int) :: wsL_law)) B.pre
  have hown : s.vm.findClass RX8 = some m.cls := findClass_of_methodNamed B.named
  have hlocks := B.notSynchronized
  have hinX8 : ∀ w ∈ u_ws RX8 TX8 43, w ∈ (.code yX8_flagsOf cX8_flagsOf 2 (some .int) :: wsL_law) := fun w h => List.mem_cons_of_mem _ (inlX8 w h)
  have k_0 := hts (.fieldLink RX8 114 "RingMarksModel" "writes" "I") (List.mem_cons_of_mem _ wm_337)
  have k_1 := hts (.fieldLink RX8 111 "RingMarksModel" "parts" "I") (List.mem_cons_of_mem _ wm_336)
  subst hsz
  have hD := hD0.self (sz := s.heap.size)
  generalize hAe : va_A [(y, .inr (8, [.ref yt, .int v1, .int v2, .ref yr, .ref yk, .ref yz, .ref yp, .int 3, .int 4, .int v9, .int v10, .ref yl, .ref yw, .int v13, .int v14, .int v15, .int v16, .int v17, .int v18, .int v19, .int v20, .int v21, .ref yd, .int v23, .ref ys, .ref yn, .ref ym, .int v27, .ref yf, .ref yo, .ref yh, .ref yb, .int v32, .int v33, .int v34, .int v35, .int v36, .int v37, .int v38, .ref yx, .int v40, .int v41, .int v42]))] s.heap.size = A at hD ⊢
  have hA : ∀ q : Nat, s.heap.size ≤ q → A q := fun q h => by rw [← hAe]; exact Or.inr h
  have hP : va_P (dC, dI) vwCl [(y, .inr (8, [.ref yt, .int v1, .int v2, .ref yr, .ref yk, .ref yz, .ref yp, .int 3, .int 4, .int v9, .int v10, .ref yl, .ref yw, .int v13, .int v14, .int v15, .int v16, .int v17, .int v18, .int v19, .int v20, .int v21, .ref yd, .int v23, .ref ys, .ref yn, .ref ym, .int v27, .ref yf, .ref yo, .ref yh, .ref yb, .int v32, .int v33, .int v34, .int v35, .int v36, .int v37, .int v38, .ref yx, .int v40, .int v41, .int v42]))] s.heap := hP
  have hl := lv_entry ([.ref y, .int 0]) (n := 2) (Nat.le_of_ble_eq_true rfl)
  rw [lg_entry_eq]
  generalize (lg_sl ([.ref y, .int 0]) ++ List.replicate (2 - (lg_sl ([.ref y, .int 0])).length) Slot.unset).toArray = ls at hl ⊢
  have hl : lv_has ls 2 [(0, .ref y), (1, .int 0)] := hl
  obtain ⟨H, hH⟩ : ∃ H, H = s.heap := ⟨_, rfl⟩
  rw [← hH] at hP ⊢
  have hS : va_S A s.heap H [] := by rw [hH]; exact va_S.rf
  refine lv_aload_n hx hb dX8_flagsOf_0 rfl (lv_at hl 0 rfl) ?_
  refine va_get (D := (dC, dI)) (ci := 8) (v := .int 4) (C := RX8) (T := TX8) (N := 43) hx hb hts hinX8 hown hK hP 0 rfl rfl 8 (by decide) k_0 (fun _ h9 => h9) rfl dX8_flagsOf_1 ?_
  refine lv_iload_n hx hb dX8_flagsOf_4 rfl (lv_at hl 1 rfl) ?_
  refine zcSi (As := [.int 4, .int 0]) (rest := []) (wr := [(y, .inr (8, [.ref yt, .int v1, .int v2, .ref yr, .ref yk, .ref yz, .ref yp, .int 3, .int 4, .int v9, .int v10, .ref yl, .ref yw, .int v13, .int v14, .int v15, .int v16, .int v17, .int v18, .int v19, .int v20, .int v21, .ref yd, .int v23, .ref ys, .ref yn, .ref ym, .int v27, .ref yf, .ref yo, .ref yh, .ref yb, .int v32, .int v33, .int v34, .int v35, .int v36, .int v37, .int v38, .ref yx, .int v40, .int v41, .int v42]))]) ⟨hx, hb, hml, hown, hts⟩ (kkX8_bitOf_4_0 l dC dI cI cB cZ cR H.size  ) (va_cwS 2 hts (zgS wm_358 wm_359 wm_5 wm_360) rfl rfl rfl (by decide +kernel) ⟨Nat.le_of_ble_eq_true rfl, Nat.le_of_ble_eq_true rfl⟩) hN hK hP hD hS hA [] [0] rfl rfl ⟨rfl, rfl⟩ (by decide) rfl hl.1 rfl (Nat.le_of_ble_eq_true rfl) dX8_flagsOf_5 ⟨Nat.le_of_ble_eq_true rfl, Nat.le_of_ble_eq_true rfl⟩ (fun r u hu H locs hP hD hS => ?_)
  have hu : r = 0 := hu
  subst hu
  have hP : va_P (dC, dI) vwCl [(y, .inr (8, [.ref yt, .int v1, .int v2, .ref yr, .ref yk, .ref yz, .ref yp, .int 3, .int 4, .int v9, .int v10, .ref yl, .ref yw, .int v13, .int v14, .int v15, .int v16, .int v17, .int v18, .int v19, .int v20, .int v21, .ref yd, .int v23, .ref ys, .ref yn, .ref ym, .int v27, .ref yf, .ref yo, .ref yh, .ref yb, .int v32, .int v33, .int v34, .int v35, .int v36, .int v37, .int v38, .ref yx, .int v40, .int v41, .int v42]))] H := hP
  have hD : va_D A [(y, .inr (8, [.ref yt, .int v1, .int v2, .ref yr, .ref yk, .ref yz, .ref yp, .int 3, .int 4, .int v9, .int v10, .ref yl, .ref yw, .int v13, .int v14, .int v15, .int v16, .int v17, .int v18, .int v19, .int v20, .int v21, .ref yd, .int v23, .ref ys, .ref yn, .ref ym, .int v27, .ref yf, .ref yo, .ref yh, .ref yb, .int v32, .int v33, .int v34, .int v35, .int v36, .int v37, .int v38, .ref yx, .int v40, .int v41, .int v42]))] := hD
  refine lv_if_eq (tgt := 15) hx hb dX8_flagsOf_8 (by decide) (fun _ => ?_) (fun c => absurd (by decide) c)
  refine lv_iconst (v := 0) hx hb dX8_flagsOf_15 (by decide) ?_
  refine lv_iload_n hx hb dX8_flagsOf_16 rfl (lv_at hl 1 rfl) ?_
  refine lv_aload_n hx hb dX8_flagsOf_17 rfl (lv_at hl 0 rfl) ?_
  refine va_get (D := (dC, dI)) (ci := 8) (v := .int 3) (C := RX8) (T := TX8) (N := 43) hx hb hts hinX8 hown hK hP 0 rfl rfl 7 (by decide) k_1 (fun _ h9 => h9) rfl dX8_flagsOf_18 ?_
  refine lv_iconst (v := 1) hx hb dX8_flagsOf_21 (by decide) ?_
  refine lv_isub hx hb dX8_flagsOf_22 ?_
  refine tp (y := 2) (by decide) ?_
  refine lv_icmp_ge (tgt := 30) hx hb dX8_flagsOf_23 (by decide) (fun c => absurd c (by decide)) (fun _ => ?_)
  refine lv_iconst (v := 1) hx hb dX8_flagsOf_26 (by decide) ?_
  refine lv_goto (tgt := 31) hx hb dX8_flagsOf_27 (by decide) ?_
  refine lv_ior hx hb dX8_flagsOf_31 ?_
  refine tp (y := 1) (by decide) ?_
  have hP9 := hP.sub (ws' := [(y, .inr (8, [.ref yt, .int v1, .int v2, .ref yr, .ref yk, .ref yz, .ref yp, .int 3, .int 4, .int v9, .int v10, .ref yl, .ref yw, .int v13, .int v14, .int v15, .int v16, .int v17, .int v18, .int v19, .int v20, .int v21, .ref yd, .int v23, .ref ys, .ref yn, .ref ym, .int v27, .ref yf, .ref yo, .ref yh, .ref yb, .int v32, .int v33, .int v34, .int v35, .int v36, .int v37, .int v38, .ref yx, .int v40, .int v41, .int v42]))]) [0] rfl
  have hD9 := hD.sub (ws' := [(y, .inr (8, [.ref yt, .int v1, .int v2, .ref yr, .ref yk, .ref yz, .ref yp, .int 3, .int 4, .int v9, .int v10, .ref yl, .ref yw, .int v13, .int v14, .int v15, .int v16, .int v17, .int v18, .int v19, .int v20, .int v21, .ref yd, .int v23, .ref ys, .ref yn, .ref ym, .int v27, .ref yf, .ref yo, .ref yh, .ref yb, .int v32, .int v33, .int v34, .int v35, .int v36, .int v37, .int v38, .ref yx, .int v40, .int v41, .int v42]))]) [0] (by decide) rfl
  exact W.iret (v := 1) hx hb hr (fun t ht hW => ⟨⟨1, (), rfl, rfl, by rw [ht]; exact hP9, va_K.moved hW.alike hK, hD9⟩, hS.F ht⟩) hS.2.2 dX8_flagsOf_32

set_option maxHeartbeats 4000000 in
set_option maxRecDepth 100000 in
theorem kkX8_flagsOf_21_1 (l : Launch) (dC : Nat → ClassId) (dI : Nat → Nat → Nat) (cI cB cZ cR : ClassId) (sz : Nat) (y : Nat) (yt : Nat) (yr : Nat) (yk : Nat) (yz : Nat) (yp : Nat) (yl : Nat) (yw : Nat) (yd : Nat) (ys : Nat) (yn : Nat) (ym : Nat) (yf : Nat) (yo : Nat) (yh : Nat) (yb : Nat) (yx : Nat) (v1 : Int32) (v2 : Int32) (v9 : Int32) (v10 : Int32) (v13 : Int32) (v14 : Int32) (v15 : Int32) (v16 : Int32) (v17 : Int32) (v18 : Int32) (v19 : Int32) (v20 : Int32) (v21 : Int32) (v23 : Int32) (v27 : Int32) (v32 : Int32) (v33 : Int32) (v34 : Int32) (v35 : Int32) (v36 : Int32) (v37 : Int32) (v38 : Int32) (v40 : Int32) (v41 : Int32) (v42 : Int32) : Met l yX8_flagsOf (.code yX8_flagsOf cX8_flagsOf 2 (some .int) :: wsL_law) ({ frames := 1, cells := 0, slots := 0, locals := 21 }) (zPc dC dI (zT cI cB cZ cR) [.ref y, .int 1] sz [(y, .inr (8, [.ref yt, .int v1, .int v2, .ref yr, .ref yk, .ref yz, .ref yp, .int 3, .int 4, .int v9, .int v10, .ref yl, .ref yw, .int v13, .int v14, .int v15, .int v16, .int v17, .int v18, .int v19, .int v20, .int v21, .ref yd, .int v23, .ref ys, .ref yn, .ref ym, .int v27, .ref yf, .ref yo, .ref yh, .ref yb, .int v32, .int v33, .int v34, .int v35, .int v36, .int v37, .int v38, .ref yx, .int v40, .int v41, .int v42]))]) (va_Qi (fun (r : Int32) (_ : Unit) => r = 1) (fun _ : Unit => zB dC dI (zT cI cB cZ cR) (va_A [(y, .inr (8, [.ref yt, .int v1, .int v2, .ref yr, .ref yk, .ref yz, .ref yp, .int 3, .int 4, .int v9, .int v10, .ref yl, .ref yw, .int v13, .int v14, .int v15, .int v16, .int v17, .int v18, .int v19, .int v20, .int v21, .ref yd, .int v23, .ref ys, .ref yn, .ref ym, .int v27, .ref yf, .ref yo, .ref yh, .ref yb, .int v32, .int v33, .int v34, .int v35, .int v36, .int v37, .int v38, .ref yx, .int v40, .int v41, .int v42]))] sz) [(y, .inr (8, [.ref yt, .int v1, .int v2, .ref yr, .ref yk, .ref yz, .ref yp, .int 3, .int 4, .int v9, .int v10, .ref yl, .ref yw, .int v13, .int v14, .int v15, .int v16, .int v17, .int v18, .int v19, .int v20, .int v21, .ref yd, .int v23, .ref ys, .ref yn, .ref ym, .int v27, .ref yf, .ref yo, .ref yh, .ref yb, .int v32, .int v33, .int v34, .int v35, .int v36, .int v37, .int v38, .ref yx, .int v40, .int v41, .int v42]))]) (va_A [(y, .inr (8, [.ref yt, .int v1, .int v2, .ref yr, .ref yk, .ref yz, .ref yp, .int 3, .int 4, .int v9, .int v10, .ref yl, .ref yw, .int v13, .int v14, .int v15, .int v16, .int v17, .int v18, .int v19, .int v20, .int v21, .ref yd, .int v23, .ref ys, .ref yn, .ref ym, .int v27, .ref yf, .ref yo, .ref yh, .ref yb, .int v32, .int v33, .int v34, .int v35, .int v36, .int v37, .int v38, .ref yx, .int v40, .int v41, .int v42]))] sz)) 0 0 (va_A [(y, .inr (8, [.ref yt, .int v1, .int v2, .ref yr, .ref yk, .ref yz, .ref yp, .int 3, .int 4, .int v9, .int v10, .ref yl, .ref yw, .int v13, .int v14, .int v15, .int v16, .int v17, .int v18, .int v19, .int v20, .int v21, .ref yd, .int v23, .ref ys, .ref yn, .ref ym, .int v27, .ref yf, .ref yo, .ref yh, .ref yb, .int v32, .int v33, .int v34, .int v35, .int v36, .int v37, .int v38, .ref yx, .int v40, .int v41, .int v42]))] sz) := by
  refine Met.ofW (cc := cX8_flagsOf) (maxL := 2) (ret := (some .int)) (by decide) rfl ?_
  intro p e s m args below meth c s₁ B hml hv
  obtain ⟨rfl, hsz, hP, hK, hD0, hN⟩ := hv
  have hx := B.exec
  have hb := B.bytes
  have hr := B.returns
  have hts := atoms_spec (ws := (.code yX8_flagsOf cX8_flagsOf 2 (some .int) :: wsL_law)) B.pre
  have hown : s.vm.findClass RX8 = some m.cls := findClass_of_methodNamed B.named
  have hlocks := B.notSynchronized
  have hinX8 : ∀ w ∈ u_ws RX8 TX8 43, w ∈ (.code yX8_flagsOf cX8_flagsOf 2 (some .int) :: wsL_law) := fun w h => List.mem_cons_of_mem _ (inlX8 w h)
  have k_0 := hts (.fieldLink RX8 114 "RingMarksModel" "writes" "I") (List.mem_cons_of_mem _ wm_337)
  have k_1 := hts (.fieldLink RX8 111 "RingMarksModel" "parts" "I") (List.mem_cons_of_mem _ wm_336)
  subst hsz
  have hD := hD0.self (sz := s.heap.size)
  generalize hAe : va_A [(y, .inr (8, [.ref yt, .int v1, .int v2, .ref yr, .ref yk, .ref yz, .ref yp, .int 3, .int 4, .int v9, .int v10, .ref yl, .ref yw, .int v13, .int v14, .int v15, .int v16, .int v17, .int v18, .int v19, .int v20, .int v21, .ref yd, .int v23, .ref ys, .ref yn, .ref ym, .int v27, .ref yf, .ref yo, .ref yh, .ref yb, .int v32, .int v33, .int v34, .int v35, .int v36, .int v37, .int v38, .ref yx, .int v40, .int v41, .int v42]))] s.heap.size = A at hD ⊢
  have hA : ∀ q : Nat, s.heap.size ≤ q → A q := fun q h => by rw [← hAe]; exact Or.inr h
  have hP : va_P (dC, dI) vwCl [(y, .inr (8, [.ref yt, .int v1, .int v2, .ref yr, .ref yk, .ref yz, .ref yp, .int 3, .int 4, .int v9, .int v10, .ref yl, .ref yw, .int v13, .int v14, .int v15, .int v16, .int v17, .int v18, .int v19, .int v20, .int v21, .ref yd, .int v23, .ref ys, .ref yn, .ref ym, .int v27, .ref yf, .ref yo, .ref yh, .ref yb, .int v32, .int v33, .int v34, .int v35, .int v36, .int v37, .int v38, .ref yx, .int v40, .int v41, .int v42]))] s.heap := hP
  have hl := lv_entry ([.ref y, .int 1]) (n := 2) (Nat.le_of_ble_eq_true rfl)
  rw [lg_entry_eq]
  generalize (lg_sl ([.ref y, .int 1]) ++ List.replicate (2 - (lg_sl ([.ref y, .int 1])).length) Slot.unset).toArray = ls at hl ⊢
  have hl : lv_has ls 2 [(0, .ref y), (1, .int 1)] := hl
  obtain ⟨H, hH⟩ : ∃ H, H = s.heap := ⟨_, rfl⟩
  rw [← hH] at hP ⊢
  have hS : va_S A s.heap H [] := by rw [hH]; exact va_S.rf
  refine lv_aload_n hx hb dX8_flagsOf_0 rfl (lv_at hl 0 rfl) ?_
  refine va_get (D := (dC, dI)) (ci := 8) (v := .int 4) (C := RX8) (T := TX8) (N := 43) hx hb hts hinX8 hown hK hP 0 rfl rfl 8 (by decide) k_0 (fun _ h9 => h9) rfl dX8_flagsOf_1 ?_
  refine lv_iload_n hx hb dX8_flagsOf_4 rfl (lv_at hl 1 rfl) ?_
  refine zcSi (As := [.int 4, .int 1]) (rest := []) (wr := [(y, .inr (8, [.ref yt, .int v1, .int v2, .ref yr, .ref yk, .ref yz, .ref yp, .int 3, .int 4, .int v9, .int v10, .ref yl, .ref yw, .int v13, .int v14, .int v15, .int v16, .int v17, .int v18, .int v19, .int v20, .int v21, .ref yd, .int v23, .ref ys, .ref yn, .ref ym, .int v27, .ref yf, .ref yo, .ref yh, .ref yb, .int v32, .int v33, .int v34, .int v35, .int v36, .int v37, .int v38, .ref yx, .int v40, .int v41, .int v42]))]) ⟨hx, hb, hml, hown, hts⟩ (kkX8_bitOf_4_1 l dC dI cI cB cZ cR H.size  ) (va_cwS 2 hts (zgS wm_358 wm_359 wm_5 wm_360) rfl rfl rfl (by decide +kernel) ⟨Nat.le_of_ble_eq_true rfl, Nat.le_of_ble_eq_true rfl⟩) hN hK hP hD hS hA [] [0] rfl rfl ⟨rfl, rfl⟩ (by decide) rfl hl.1 rfl (Nat.le_of_ble_eq_true rfl) dX8_flagsOf_5 ⟨Nat.le_of_ble_eq_true rfl, Nat.le_of_ble_eq_true rfl⟩ (fun r u hu H locs hP hD hS => ?_)
  have hu : r = 0 := hu
  subst hu
  have hP : va_P (dC, dI) vwCl [(y, .inr (8, [.ref yt, .int v1, .int v2, .ref yr, .ref yk, .ref yz, .ref yp, .int 3, .int 4, .int v9, .int v10, .ref yl, .ref yw, .int v13, .int v14, .int v15, .int v16, .int v17, .int v18, .int v19, .int v20, .int v21, .ref yd, .int v23, .ref ys, .ref yn, .ref ym, .int v27, .ref yf, .ref yo, .ref yh, .ref yb, .int v32, .int v33, .int v34, .int v35, .int v36, .int v37, .int v38, .ref yx, .int v40, .int v41, .int v42]))] H := hP
  have hD : va_D A [(y, .inr (8, [.ref yt, .int v1, .int v2, .ref yr, .ref yk, .ref yz, .ref yp, .int 3, .int 4, .int v9, .int v10, .ref yl, .ref yw, .int v13, .int v14, .int v15, .int v16, .int v17, .int v18, .int v19, .int v20, .int v21, .ref yd, .int v23, .ref ys, .ref yn, .ref ym, .int v27, .ref yf, .ref yo, .ref yh, .ref yb, .int v32, .int v33, .int v34, .int v35, .int v36, .int v37, .int v38, .ref yx, .int v40, .int v41, .int v42]))] := hD
  refine lv_if_eq (tgt := 15) hx hb dX8_flagsOf_8 (by decide) (fun _ => ?_) (fun c => absurd (by decide) c)
  refine lv_iconst (v := 0) hx hb dX8_flagsOf_15 (by decide) ?_
  refine lv_iload_n hx hb dX8_flagsOf_16 rfl (lv_at hl 1 rfl) ?_
  refine lv_aload_n hx hb dX8_flagsOf_17 rfl (lv_at hl 0 rfl) ?_
  refine va_get (D := (dC, dI)) (ci := 8) (v := .int 3) (C := RX8) (T := TX8) (N := 43) hx hb hts hinX8 hown hK hP 0 rfl rfl 7 (by decide) k_1 (fun _ h9 => h9) rfl dX8_flagsOf_18 ?_
  refine lv_iconst (v := 1) hx hb dX8_flagsOf_21 (by decide) ?_
  refine lv_isub hx hb dX8_flagsOf_22 ?_
  refine tp (y := 2) (by decide) ?_
  refine lv_icmp_ge (tgt := 30) hx hb dX8_flagsOf_23 (by decide) (fun c => absurd c (by decide)) (fun _ => ?_)
  refine lv_iconst (v := 1) hx hb dX8_flagsOf_26 (by decide) ?_
  refine lv_goto (tgt := 31) hx hb dX8_flagsOf_27 (by decide) ?_
  refine lv_ior hx hb dX8_flagsOf_31 ?_
  refine tp (y := 1) (by decide) ?_
  have hP9 := hP.sub (ws' := [(y, .inr (8, [.ref yt, .int v1, .int v2, .ref yr, .ref yk, .ref yz, .ref yp, .int 3, .int 4, .int v9, .int v10, .ref yl, .ref yw, .int v13, .int v14, .int v15, .int v16, .int v17, .int v18, .int v19, .int v20, .int v21, .ref yd, .int v23, .ref ys, .ref yn, .ref ym, .int v27, .ref yf, .ref yo, .ref yh, .ref yb, .int v32, .int v33, .int v34, .int v35, .int v36, .int v37, .int v38, .ref yx, .int v40, .int v41, .int v42]))]) [0] rfl
  have hD9 := hD.sub (ws' := [(y, .inr (8, [.ref yt, .int v1, .int v2, .ref yr, .ref yk, .ref yz, .ref yp, .int 3, .int 4, .int v9, .int v10, .ref yl, .ref yw, .int v13, .int v14, .int v15, .int v16, .int v17, .int v18, .int v19, .int v20, .int v21, .ref yd, .int v23, .ref ys, .ref yn, .ref ym, .int v27, .ref yf, .ref yo, .ref yh, .ref yb, .int v32, .int v33, .int v34, .int v35, .int v36, .int v37, .int v38, .ref yx, .int v40, .int v41, .int v42]))]) [0] (by decide) rfl
  exact W.iret (v := 1) hx hb hr (fun t ht hW => ⟨⟨1, (), rfl, rfl, by rw [ht]; exact hP9, va_K.moved hW.alike hK, hD9⟩, hS.F ht⟩) hS.2.2 dX8_flagsOf_32

set_option maxHeartbeats 4000000 in
set_option maxRecDepth 100000 in
theorem kkX8_flagsOf_21_2 (l : Launch) (dC : Nat → ClassId) (dI : Nat → Nat → Nat) (cI cB cZ cR : ClassId) (sz : Nat) (y : Nat) (yt : Nat) (yr : Nat) (yk : Nat) (yz : Nat) (yp : Nat) (yl : Nat) (yw : Nat) (yd : Nat) (ys : Nat) (yn : Nat) (ym : Nat) (yf : Nat) (yo : Nat) (yh : Nat) (yb : Nat) (yx : Nat) (v1 : Int32) (v2 : Int32) (v9 : Int32) (v10 : Int32) (v13 : Int32) (v14 : Int32) (v15 : Int32) (v16 : Int32) (v17 : Int32) (v18 : Int32) (v19 : Int32) (v20 : Int32) (v21 : Int32) (v23 : Int32) (v27 : Int32) (v32 : Int32) (v33 : Int32) (v34 : Int32) (v35 : Int32) (v36 : Int32) (v37 : Int32) (v38 : Int32) (v40 : Int32) (v41 : Int32) (v42 : Int32) : Met l yX8_flagsOf (.code yX8_flagsOf cX8_flagsOf 2 (some .int) :: wsL_law) ({ frames := 1, cells := 0, slots := 0, locals := 21 }) (zPc dC dI (zT cI cB cZ cR) [.ref y, .int 2] sz [(y, .inr (8, [.ref yt, .int v1, .int v2, .ref yr, .ref yk, .ref yz, .ref yp, .int 3, .int 4, .int v9, .int v10, .ref yl, .ref yw, .int v13, .int v14, .int v15, .int v16, .int v17, .int v18, .int v19, .int v20, .int v21, .ref yd, .int v23, .ref ys, .ref yn, .ref ym, .int v27, .ref yf, .ref yo, .ref yh, .ref yb, .int v32, .int v33, .int v34, .int v35, .int v36, .int v37, .int v38, .ref yx, .int v40, .int v41, .int v42]))]) (va_Qi (fun (r : Int32) (_ : Unit) => r = 2) (fun _ : Unit => zB dC dI (zT cI cB cZ cR) (va_A [(y, .inr (8, [.ref yt, .int v1, .int v2, .ref yr, .ref yk, .ref yz, .ref yp, .int 3, .int 4, .int v9, .int v10, .ref yl, .ref yw, .int v13, .int v14, .int v15, .int v16, .int v17, .int v18, .int v19, .int v20, .int v21, .ref yd, .int v23, .ref ys, .ref yn, .ref ym, .int v27, .ref yf, .ref yo, .ref yh, .ref yb, .int v32, .int v33, .int v34, .int v35, .int v36, .int v37, .int v38, .ref yx, .int v40, .int v41, .int v42]))] sz) [(y, .inr (8, [.ref yt, .int v1, .int v2, .ref yr, .ref yk, .ref yz, .ref yp, .int 3, .int 4, .int v9, .int v10, .ref yl, .ref yw, .int v13, .int v14, .int v15, .int v16, .int v17, .int v18, .int v19, .int v20, .int v21, .ref yd, .int v23, .ref ys, .ref yn, .ref ym, .int v27, .ref yf, .ref yo, .ref yh, .ref yb, .int v32, .int v33, .int v34, .int v35, .int v36, .int v37, .int v38, .ref yx, .int v40, .int v41, .int v42]))]) (va_A [(y, .inr (8, [.ref yt, .int v1, .int v2, .ref yr, .ref yk, .ref yz, .ref yp, .int 3, .int 4, .int v9, .int v10, .ref yl, .ref yw, .int v13, .int v14, .int v15, .int v16, .int v17, .int v18, .int v19, .int v20, .int v21, .ref yd, .int v23, .ref ys, .ref yn, .ref ym, .int v27, .ref yf, .ref yo, .ref yh, .ref yb, .int v32, .int v33, .int v34, .int v35, .int v36, .int v37, .int v38, .ref yx, .int v40, .int v41, .int v42]))] sz)) 0 0 (va_A [(y, .inr (8, [.ref yt, .int v1, .int v2, .ref yr, .ref yk, .ref yz, .ref yp, .int 3, .int 4, .int v9, .int v10, .ref yl, .ref yw, .int v13, .int v14, .int v15, .int v16, .int v17, .int v18, .int v19, .int v20, .int v21, .ref yd, .int v23, .ref ys, .ref yn, .ref ym, .int v27, .ref yf, .ref yo, .ref yh, .ref yb, .int v32, .int v33, .int v34, .int v35, .int v36, .int v37, .int v38, .ref yx, .int v40, .int v41, .int v42]))] sz) := by
  refine Met.ofW (cc := cX8_flagsOf) (maxL := 2) (ret := (some .int)) (by decide) rfl ?_
  intro p e s m args below meth c s₁ B hml hv
  obtain ⟨rfl, hsz, hP, hK, hD0, hN⟩ := hv
  have hx := B.exec
  have hb := B.bytes
  have hr := B.returns
  have hts := atoms_spec (ws := (.code yX8_flagsOf cX8_flagsOf 2 (some .int) :: wsL_law)) B.pre
  have hown : s.vm.findClass RX8 = some m.cls := findClass_of_methodNamed B.named
  have hlocks := B.notSynchronized
  have hinX8 : ∀ w ∈ u_ws RX8 TX8 43, w ∈ (.code yX8_flagsOf cX8_flagsOf 2 (some .int) :: wsL_law) := fun w h => List.mem_cons_of_mem _ (inlX8 w h)
  have k_0 := hts (.fieldLink RX8 114 "RingMarksModel" "writes" "I") (List.mem_cons_of_mem _ wm_337)
  have k_1 := hts (.fieldLink RX8 111 "RingMarksModel" "parts" "I") (List.mem_cons_of_mem _ wm_336)
  subst hsz
  have hD := hD0.self (sz := s.heap.size)
  generalize hAe : va_A [(y, .inr (8, [.ref yt, .int v1, .int v2, .ref yr, .ref yk, .ref yz, .ref yp, .int 3, .int 4, .int v9, .int v10, .ref yl, .ref yw, .int v13, .int v14, .int v15, .int v16, .int v17, .int v18, .int v19, .int v20, .int v21, .ref yd, .int v23, .ref ys, .ref yn, .ref ym, .int v27, .ref yf, .ref yo, .ref yh, .ref yb, .int v32, .int v33, .int v34, .int v35, .int v36, .int v37, .int v38, .ref yx, .int v40, .int v41, .int v42]))] s.heap.size = A at hD ⊢
  have hA : ∀ q : Nat, s.heap.size ≤ q → A q := fun q h => by rw [← hAe]; exact Or.inr h
  have hP : va_P (dC, dI) vwCl [(y, .inr (8, [.ref yt, .int v1, .int v2, .ref yr, .ref yk, .ref yz, .ref yp, .int 3, .int 4, .int v9, .int v10, .ref yl, .ref yw, .int v13, .int v14, .int v15, .int v16, .int v17, .int v18, .int v19, .int v20, .int v21, .ref yd, .int v23, .ref ys, .ref yn, .ref ym, .int v27, .ref yf, .ref yo, .ref yh, .ref yb, .int v32, .int v33, .int v34, .int v35, .int v36, .int v37, .int v38, .ref yx, .int v40, .int v41, .int v42]))] s.heap := hP
  have hl := lv_entry ([.ref y, .int 2]) (n := 2) (Nat.le_of_ble_eq_true rfl)
  rw [lg_entry_eq]
  generalize (lg_sl ([.ref y, .int 2]) ++ List.replicate (2 - (lg_sl ([.ref y, .int 2])).length) Slot.unset).toArray = ls at hl ⊢
  have hl : lv_has ls 2 [(0, .ref y), (1, .int 2)] := hl
  obtain ⟨H, hH⟩ : ∃ H, H = s.heap := ⟨_, rfl⟩
  rw [← hH] at hP ⊢
  have hS : va_S A s.heap H [] := by rw [hH]; exact va_S.rf
  refine lv_aload_n hx hb dX8_flagsOf_0 rfl (lv_at hl 0 rfl) ?_
  refine va_get (D := (dC, dI)) (ci := 8) (v := .int 4) (C := RX8) (T := TX8) (N := 43) hx hb hts hinX8 hown hK hP 0 rfl rfl 8 (by decide) k_0 (fun _ h9 => h9) rfl dX8_flagsOf_1 ?_
  refine lv_iload_n hx hb dX8_flagsOf_4 rfl (lv_at hl 1 rfl) ?_
  refine zcSi (As := [.int 4, .int 2]) (rest := []) (wr := [(y, .inr (8, [.ref yt, .int v1, .int v2, .ref yr, .ref yk, .ref yz, .ref yp, .int 3, .int 4, .int v9, .int v10, .ref yl, .ref yw, .int v13, .int v14, .int v15, .int v16, .int v17, .int v18, .int v19, .int v20, .int v21, .ref yd, .int v23, .ref ys, .ref yn, .ref ym, .int v27, .ref yf, .ref yo, .ref yh, .ref yb, .int v32, .int v33, .int v34, .int v35, .int v36, .int v37, .int v38, .ref yx, .int v40, .int v41, .int v42]))]) ⟨hx, hb, hml, hown, hts⟩ (kkX8_bitOf_4_2 l dC dI cI cB cZ cR H.size  ) (va_cwS 2 hts (zgS wm_358 wm_359 wm_5 wm_360) rfl rfl rfl (by decide +kernel) ⟨Nat.le_of_ble_eq_true rfl, Nat.le_of_ble_eq_true rfl⟩) hN hK hP hD hS hA [] [0] rfl rfl ⟨rfl, rfl⟩ (by decide) rfl hl.1 rfl (Nat.le_of_ble_eq_true rfl) dX8_flagsOf_5 ⟨Nat.le_of_ble_eq_true rfl, Nat.le_of_ble_eq_true rfl⟩ (fun r u hu H locs hP hD hS => ?_)
  have hu : r = 1 := hu
  subst hu
  have hP : va_P (dC, dI) vwCl [(y, .inr (8, [.ref yt, .int v1, .int v2, .ref yr, .ref yk, .ref yz, .ref yp, .int 3, .int 4, .int v9, .int v10, .ref yl, .ref yw, .int v13, .int v14, .int v15, .int v16, .int v17, .int v18, .int v19, .int v20, .int v21, .ref yd, .int v23, .ref ys, .ref yn, .ref ym, .int v27, .ref yf, .ref yo, .ref yh, .ref yb, .int v32, .int v33, .int v34, .int v35, .int v36, .int v37, .int v38, .ref yx, .int v40, .int v41, .int v42]))] H := hP
  have hD : va_D A [(y, .inr (8, [.ref yt, .int v1, .int v2, .ref yr, .ref yk, .ref yz, .ref yp, .int 3, .int 4, .int v9, .int v10, .ref yl, .ref yw, .int v13, .int v14, .int v15, .int v16, .int v17, .int v18, .int v19, .int v20, .int v21, .ref yd, .int v23, .ref ys, .ref yn, .ref ym, .int v27, .ref yf, .ref yo, .ref yh, .ref yb, .int v32, .int v33, .int v34, .int v35, .int v36, .int v37, .int v38, .ref yx, .int v40, .int v41, .int v42]))] := hD
  refine lv_if_eq (tgt := 15) hx hb dX8_flagsOf_8 (by decide) (fun c => absurd c (by decide)) (fun _ => ?_)
  refine lv_iconst (v := 2) hx hb dX8_flagsOf_11 (by decide) ?_
  refine lv_goto (tgt := 16) hx hb dX8_flagsOf_12 (by decide) ?_
  refine lv_iload_n hx hb dX8_flagsOf_16 rfl (lv_at hl 1 rfl) ?_
  refine lv_aload_n hx hb dX8_flagsOf_17 rfl (lv_at hl 0 rfl) ?_
  refine va_get (D := (dC, dI)) (ci := 8) (v := .int 3) (C := RX8) (T := TX8) (N := 43) hx hb hts hinX8 hown hK hP 0 rfl rfl 7 (by decide) k_1 (fun _ h9 => h9) rfl dX8_flagsOf_18 ?_
  refine lv_iconst (v := 1) hx hb dX8_flagsOf_21 (by decide) ?_
  refine lv_isub hx hb dX8_flagsOf_22 ?_
  refine tp (y := 2) (by decide) ?_
  refine lv_icmp_ge (tgt := 30) hx hb dX8_flagsOf_23 (by decide) (fun _ => ?_) (fun c => absurd (by decide) c)
  refine lv_iconst (v := 0) hx hb dX8_flagsOf_30 (by decide) ?_
  refine lv_ior hx hb dX8_flagsOf_31 ?_
  refine tp (y := 2) (by decide) ?_
  have hP9 := hP.sub (ws' := [(y, .inr (8, [.ref yt, .int v1, .int v2, .ref yr, .ref yk, .ref yz, .ref yp, .int 3, .int 4, .int v9, .int v10, .ref yl, .ref yw, .int v13, .int v14, .int v15, .int v16, .int v17, .int v18, .int v19, .int v20, .int v21, .ref yd, .int v23, .ref ys, .ref yn, .ref ym, .int v27, .ref yf, .ref yo, .ref yh, .ref yb, .int v32, .int v33, .int v34, .int v35, .int v36, .int v37, .int v38, .ref yx, .int v40, .int v41, .int v42]))]) [0] rfl
  have hD9 := hD.sub (ws' := [(y, .inr (8, [.ref yt, .int v1, .int v2, .ref yr, .ref yk, .ref yz, .ref yp, .int 3, .int 4, .int v9, .int v10, .ref yl, .ref yw, .int v13, .int v14, .int v15, .int v16, .int v17, .int v18, .int v19, .int v20, .int v21, .ref yd, .int v23, .ref ys, .ref yn, .ref ym, .int v27, .ref yf, .ref yo, .ref yh, .ref yb, .int v32, .int v33, .int v34, .int v35, .int v36, .int v37, .int v38, .ref yx, .int v40, .int v41, .int v42]))]) [0] (by decide) rfl
  exact W.iret (v := 2) hx hb hr (fun t ht hW => ⟨⟨2, (), rfl, rfl, by rw [ht]; exact hP9, va_K.moved hW.alike hK, hD9⟩, hS.F ht⟩) hS.2.2 dX8_flagsOf_32

set_option maxHeartbeats 4000000 in
set_option maxRecDepth 100000 in
theorem kkX8_flagsOf_30_0 (l : Launch) (dC : Nat → ClassId) (dI : Nat → Nat → Nat) (cI cB cZ cR : ClassId) (sz : Nat) (y : Nat) (yt : Nat) (yr : Nat) (yk : Nat) (yz : Nat) (yp : Nat) (yl : Nat) (yw : Nat) (yd : Nat) (ys : Nat) (yn : Nat) (ym : Nat) (yf : Nat) (yo : Nat) (yh : Nat) (yb : Nat) (yx : Nat) (v1 : Int32) (v2 : Int32) (v9 : Int32) (v10 : Int32) (v13 : Int32) (v14 : Int32) (v15 : Int32) (v16 : Int32) (v17 : Int32) (v18 : Int32) (v19 : Int32) (v20 : Int32) (v21 : Int32) (v23 : Int32) (v27 : Int32) (v32 : Int32) (v33 : Int32) (v34 : Int32) (v35 : Int32) (v36 : Int32) (v37 : Int32) (v38 : Int32) (v40 : Int32) (v41 : Int32) (v42 : Int32) : Met l yX8_flagsOf (.code yX8_flagsOf cX8_flagsOf 2 (some .int) :: wsL_law) ({ frames := 1, cells := 0, slots := 0, locals := 21 }) (zPc dC dI (zT cI cB cZ cR) [.ref y, .int 0] sz [(y, .inr (8, [.ref yt, .int v1, .int v2, .ref yr, .ref yk, .ref yz, .ref yp, .int 3, .int 0, .int v9, .int v10, .ref yl, .ref yw, .int v13, .int v14, .int v15, .int v16, .int v17, .int v18, .int v19, .int v20, .int v21, .ref yd, .int v23, .ref ys, .ref yn, .ref ym, .int v27, .ref yf, .ref yo, .ref yh, .ref yb, .int v32, .int v33, .int v34, .int v35, .int v36, .int v37, .int v38, .ref yx, .int v40, .int v41, .int v42]))]) (va_Qi (fun (r : Int32) (_ : Unit) => r = 1) (fun _ : Unit => zB dC dI (zT cI cB cZ cR) (va_A [(y, .inr (8, [.ref yt, .int v1, .int v2, .ref yr, .ref yk, .ref yz, .ref yp, .int 3, .int 0, .int v9, .int v10, .ref yl, .ref yw, .int v13, .int v14, .int v15, .int v16, .int v17, .int v18, .int v19, .int v20, .int v21, .ref yd, .int v23, .ref ys, .ref yn, .ref ym, .int v27, .ref yf, .ref yo, .ref yh, .ref yb, .int v32, .int v33, .int v34, .int v35, .int v36, .int v37, .int v38, .ref yx, .int v40, .int v41, .int v42]))] sz) [(y, .inr (8, [.ref yt, .int v1, .int v2, .ref yr, .ref yk, .ref yz, .ref yp, .int 3, .int 0, .int v9, .int v10, .ref yl, .ref yw, .int v13, .int v14, .int v15, .int v16, .int v17, .int v18, .int v19, .int v20, .int v21, .ref yd, .int v23, .ref ys, .ref yn, .ref ym, .int v27, .ref yf, .ref yo, .ref yh, .ref yb, .int v32, .int v33, .int v34, .int v35, .int v36, .int v37, .int v38, .ref yx, .int v40, .int v41, .int v42]))]) (va_A [(y, .inr (8, [.ref yt, .int v1, .int v2, .ref yr, .ref yk, .ref yz, .ref yp, .int 3, .int 0, .int v9, .int v10, .ref yl, .ref yw, .int v13, .int v14, .int v15, .int v16, .int v17, .int v18, .int v19, .int v20, .int v21, .ref yd, .int v23, .ref ys, .ref yn, .ref ym, .int v27, .ref yf, .ref yo, .ref yh, .ref yb, .int v32, .int v33, .int v34, .int v35, .int v36, .int v37, .int v38, .ref yx, .int v40, .int v41, .int v42]))] sz)) 0 0 (va_A [(y, .inr (8, [.ref yt, .int v1, .int v2, .ref yr, .ref yk, .ref yz, .ref yp, .int 3, .int 0, .int v9, .int v10, .ref yl, .ref yw, .int v13, .int v14, .int v15, .int v16, .int v17, .int v18, .int v19, .int v20, .int v21, .ref yd, .int v23, .ref ys, .ref yn, .ref ym, .int v27, .ref yf, .ref yo, .ref yh, .ref yb, .int v32, .int v33, .int v34, .int v35, .int v36, .int v37, .int v38, .ref yx, .int v40, .int v41, .int v42]))] sz) := by
  refine Met.ofW (cc := cX8_flagsOf) (maxL := 2) (ret := (some .int)) (by decide) rfl ?_
  intro p e s m args below meth c s₁ B hml hv
  obtain ⟨rfl, hsz, hP, hK, hD0, hN⟩ := hv
  have hx := B.exec
  have hb := B.bytes
  have hr := B.returns
  have hts := atoms_spec (ws := (.code yX8_flagsOf cX8_flagsOf 2 (some .int) :: wsL_law)) B.pre
  have hown : s.vm.findClass RX8 = some m.cls := findClass_of_methodNamed B.named
  have hlocks := B.notSynchronized
  have hinX8 : ∀ w ∈ u_ws RX8 TX8 43, w ∈ (.code yX8_flagsOf cX8_flagsOf 2 (some .int) :: wsL_law) := fun w h => List.mem_cons_of_mem _ (inlX8 w h)
  have k_0 := hts (.fieldLink RX8 114 "RingMarksModel" "writes" "I") (List.mem_cons_of_mem _ wm_337)
  have k_1 := hts (.fieldLink RX8 111 "RingMarksModel" "parts" "I") (List.mem_cons_of_mem _ wm_336)
  subst hsz
  have hD := hD0.self (sz := s.heap.size)
  generalize hAe : va_A [(y, .inr (8, [.ref yt, .int v1, .int v2, .ref yr, .ref yk, .ref yz, .ref yp, .int 3, .int 0, .int v9, .int v10, .ref yl, .ref yw, .int v13, .int v14, .int v15, .int v16, .int v17, .int v18, .int v19, .int v20, .int v21, .ref yd, .int v23, .ref ys, .ref yn, .ref ym, .int v27, .ref yf, .ref yo, .ref yh, .ref yb, .int v32, .int v33, .int v34, .int v35, .int v36, .int v37, .int v38, .ref yx, .int v40, .int v41, .int v42]))] s.heap.size = A at hD ⊢
  have hA : ∀ q : Nat, s.heap.size ≤ q → A q := fun q h => by rw [← hAe]; exact Or.inr h
  have hP : va_P (dC, dI) vwCl [(y, .inr (8, [.ref yt, .int v1, .int v2, .ref yr, .ref yk, .ref yz, .ref yp, .int 3, .int 0, .int v9, .int v10, .ref yl, .ref yw, .int v13, .int v14, .int v15, .int v16, .int v17, .int v18, .int v19, .int v20, .int v21, .ref yd, .int v23, .ref ys, .ref yn, .ref ym, .int v27, .ref yf, .ref yo, .ref yh, .ref yb, .int v32, .int v33, .int v34, .int v35, .int v36, .int v37, .int v38, .ref yx, .int v40, .int v41, .int v42]))] s.heap := hP
  have hl := lv_entry ([.ref y, .int 0]) (n := 2) (Nat.le_of_ble_eq_true rfl)
  rw [lg_entry_eq]
  generalize (lg_sl ([.ref y, .int 0]) ++ List.replicate (2 - (lg_sl ([.ref y, .int 0])).length) Slot.unset).toArray = ls at hl ⊢
  have hl : lv_has ls 2 [(0, .ref y), (1, .int 0)] := hl
  obtain ⟨H, hH⟩ : ∃ H, H = s.heap := ⟨_, rfl⟩
  rw [← hH] at hP ⊢
  have hS : va_S A s.heap H [] := by rw [hH]; exact va_S.rf
  refine lv_aload_n hx hb dX8_flagsOf_0 rfl (lv_at hl 0 rfl) ?_
  refine va_get (D := (dC, dI)) (ci := 8) (v := .int 0) (C := RX8) (T := TX8) (N := 43) hx hb hts hinX8 hown hK hP 0 rfl rfl 8 (by decide) k_0 (fun _ h9 => h9) rfl dX8_flagsOf_1 ?_
  refine lv_iload_n hx hb dX8_flagsOf_4 rfl (lv_at hl 1 rfl) ?_
  refine zcSi (As := [.int 0, .int 0]) (rest := []) (wr := [(y, .inr (8, [.ref yt, .int v1, .int v2, .ref yr, .ref yk, .ref yz, .ref yp, .int 3, .int 0, .int v9, .int v10, .ref yl, .ref yw, .int v13, .int v14, .int v15, .int v16, .int v17, .int v18, .int v19, .int v20, .int v21, .ref yd, .int v23, .ref ys, .ref yn, .ref ym, .int v27, .ref yf, .ref yo, .ref yh, .ref yb, .int v32, .int v33, .int v34, .int v35, .int v36, .int v37, .int v38, .ref yx, .int v40, .int v41, .int v42]))]) ⟨hx, hb, hml, hown, hts⟩ (kkX8_bitOf_0_0 l dC dI cI cB cZ cR H.size  ) (va_cwS 2 hts (zgS wm_358 wm_359 wm_5 wm_360) rfl rfl rfl (by decide +kernel) ⟨Nat.le_of_ble_eq_true rfl, Nat.le_of_ble_eq_true rfl⟩) hN hK hP hD hS hA [] [0] rfl rfl ⟨rfl, rfl⟩ (by decide) rfl hl.1 rfl (Nat.le_of_ble_eq_true rfl) dX8_flagsOf_5 ⟨Nat.le_of_ble_eq_true rfl, Nat.le_of_ble_eq_true rfl⟩ (fun r u hu H locs hP hD hS => ?_)
  have hu : r = 0 := hu
  subst hu
  have hP : va_P (dC, dI) vwCl [(y, .inr (8, [.ref yt, .int v1, .int v2, .ref yr, .ref yk, .ref yz, .ref yp, .int 3, .int 0, .int v9, .int v10, .ref yl, .ref yw, .int v13, .int v14, .int v15, .int v16, .int v17, .int v18, .int v19, .int v20, .int v21, .ref yd, .int v23, .ref ys, .ref yn, .ref ym, .int v27, .ref yf, .ref yo, .ref yh, .ref yb, .int v32, .int v33, .int v34, .int v35, .int v36, .int v37, .int v38, .ref yx, .int v40, .int v41, .int v42]))] H := hP
  have hD : va_D A [(y, .inr (8, [.ref yt, .int v1, .int v2, .ref yr, .ref yk, .ref yz, .ref yp, .int 3, .int 0, .int v9, .int v10, .ref yl, .ref yw, .int v13, .int v14, .int v15, .int v16, .int v17, .int v18, .int v19, .int v20, .int v21, .ref yd, .int v23, .ref ys, .ref yn, .ref ym, .int v27, .ref yf, .ref yo, .ref yh, .ref yb, .int v32, .int v33, .int v34, .int v35, .int v36, .int v37, .int v38, .ref yx, .int v40, .int v41, .int v42]))] := hD
  refine lv_if_eq (tgt := 15) hx hb dX8_flagsOf_8 (by decide) (fun _ => ?_) (fun c => absurd (by decide) c)
  refine lv_iconst (v := 0) hx hb dX8_flagsOf_15 (by decide) ?_
  refine lv_iload_n hx hb dX8_flagsOf_16 rfl (lv_at hl 1 rfl) ?_
  refine lv_aload_n hx hb dX8_flagsOf_17 rfl (lv_at hl 0 rfl) ?_
  refine va_get (D := (dC, dI)) (ci := 8) (v := .int 3) (C := RX8) (T := TX8) (N := 43) hx hb hts hinX8 hown hK hP 0 rfl rfl 7 (by decide) k_1 (fun _ h9 => h9) rfl dX8_flagsOf_18 ?_
  refine lv_iconst (v := 1) hx hb dX8_flagsOf_21 (by decide) ?_
  refine lv_isub hx hb dX8_flagsOf_22 ?_
  refine tp (y := 2) (by decide) ?_
  refine lv_icmp_ge (tgt := 30) hx hb dX8_flagsOf_23 (by decide) (fun c => absurd c (by decide)) (fun _ => ?_)
  refine lv_iconst (v := 1) hx hb dX8_flagsOf_26 (by decide) ?_
  refine lv_goto (tgt := 31) hx hb dX8_flagsOf_27 (by decide) ?_
  refine lv_ior hx hb dX8_flagsOf_31 ?_
  refine tp (y := 1) (by decide) ?_
  have hP9 := hP.sub (ws' := [(y, .inr (8, [.ref yt, .int v1, .int v2, .ref yr, .ref yk, .ref yz, .ref yp, .int 3, .int 0, .int v9, .int v10, .ref yl, .ref yw, .int v13, .int v14, .int v15, .int v16, .int v17, .int v18, .int v19, .int v20, .int v21, .ref yd, .int v23, .ref ys, .ref yn, .ref ym, .int v27, .ref yf, .ref yo, .ref yh, .ref yb, .int v32, .int v33, .int v34, .int v35, .int v36, .int v37, .int v38, .ref yx, .int v40, .int v41, .int v42]))]) [0] rfl
  have hD9 := hD.sub (ws' := [(y, .inr (8, [.ref yt, .int v1, .int v2, .ref yr, .ref yk, .ref yz, .ref yp, .int 3, .int 0, .int v9, .int v10, .ref yl, .ref yw, .int v13, .int v14, .int v15, .int v16, .int v17, .int v18, .int v19, .int v20, .int v21, .ref yd, .int v23, .ref ys, .ref yn, .ref ym, .int v27, .ref yf, .ref yo, .ref yh, .ref yb, .int v32, .int v33, .int v34, .int v35, .int v36, .int v37, .int v38, .ref yx, .int v40, .int v41, .int v42]))]) [0] (by decide) rfl
  exact W.iret (v := 1) hx hb hr (fun t ht hW => ⟨⟨1, (), rfl, rfl, by rw [ht]; exact hP9, va_K.moved hW.alike hK, hD9⟩, hS.F ht⟩) hS.2.2 dX8_flagsOf_32

set_option maxHeartbeats 4000000 in
set_option maxRecDepth 100000 in
theorem kkX8_flagsOf_30_1 (l : Launch) (dC : Nat → ClassId) (dI : Nat → Nat → Nat) (cI cB cZ cR : ClassId) (sz : Nat) (y : Nat) (yt : Nat) (yr : Nat) (yk : Nat) (yz : Nat) (yp : Nat) (yl : Nat) (yw : Nat) (yd : Nat) (ys : Nat) (yn : Nat) (ym : Nat) (yf : Nat) (yo : Nat) (yh : Nat) (yb : Nat) (yx : Nat) (v1 : Int32) (v2 : Int32) (v9 : Int32) (v10 : Int32) (v13 : Int32) (v14 : Int32) (v15 : Int32) (v16 : Int32) (v17 : Int32) (v18 : Int32) (v19 : Int32) (v20 : Int32) (v21 : Int32) (v23 : Int32) (v27 : Int32) (v32 : Int32) (v33 : Int32) (v34 : Int32) (v35 : Int32) (v36 : Int32) (v37 : Int32) (v38 : Int32) (v40 : Int32) (v41 : Int32) (v42 : Int32) : Met l yX8_flagsOf (.code yX8_flagsOf cX8_flagsOf 2 (some .int) :: wsL_law) ({ frames := 1, cells := 0, slots := 0, locals := 21 }) (zPc dC dI (zT cI cB cZ cR) [.ref y, .int 1] sz [(y, .inr (8, [.ref yt, .int v1, .int v2, .ref yr, .ref yk, .ref yz, .ref yp, .int 3, .int 0, .int v9, .int v10, .ref yl, .ref yw, .int v13, .int v14, .int v15, .int v16, .int v17, .int v18, .int v19, .int v20, .int v21, .ref yd, .int v23, .ref ys, .ref yn, .ref ym, .int v27, .ref yf, .ref yo, .ref yh, .ref yb, .int v32, .int v33, .int v34, .int v35, .int v36, .int v37, .int v38, .ref yx, .int v40, .int v41, .int v42]))]) (va_Qi (fun (r : Int32) (_ : Unit) => r = 1) (fun _ : Unit => zB dC dI (zT cI cB cZ cR) (va_A [(y, .inr (8, [.ref yt, .int v1, .int v2, .ref yr, .ref yk, .ref yz, .ref yp, .int 3, .int 0, .int v9, .int v10, .ref yl, .ref yw, .int v13, .int v14, .int v15, .int v16, .int v17, .int v18, .int v19, .int v20, .int v21, .ref yd, .int v23, .ref ys, .ref yn, .ref ym, .int v27, .ref yf, .ref yo, .ref yh, .ref yb, .int v32, .int v33, .int v34, .int v35, .int v36, .int v37, .int v38, .ref yx, .int v40, .int v41, .int v42]))] sz) [(y, .inr (8, [.ref yt, .int v1, .int v2, .ref yr, .ref yk, .ref yz, .ref yp, .int 3, .int 0, .int v9, .int v10, .ref yl, .ref yw, .int v13, .int v14, .int v15, .int v16, .int v17, .int v18, .int v19, .int v20, .int v21, .ref yd, .int v23, .ref ys, .ref yn, .ref ym, .int v27, .ref yf, .ref yo, .ref yh, .ref yb, .int v32, .int v33, .int v34, .int v35, .int v36, .int v37, .int v38, .ref yx, .int v40, .int v41, .int v42]))]) (va_A [(y, .inr (8, [.ref yt, .int v1, .int v2, .ref yr, .ref yk, .ref yz, .ref yp, .int 3, .int 0, .int v9, .int v10, .ref yl, .ref yw, .int v13, .int v14, .int v15, .int v16, .int v17, .int v18, .int v19, .int v20, .int v21, .ref yd, .int v23, .ref ys, .ref yn, .ref ym, .int v27, .ref yf, .ref yo, .ref yh, .ref yb, .int v32, .int v33, .int v34, .int v35, .int v36, .int v37, .int v38, .ref yx, .int v40, .int v41, .int v42]))] sz)) 0 0 (va_A [(y, .inr (8, [.ref yt, .int v1, .int v2, .ref yr, .ref yk, .ref yz, .ref yp, .int 3, .int 0, .int v9, .int v10, .ref yl, .ref yw, .int v13, .int v14, .int v15, .int v16, .int v17, .int v18, .int v19, .int v20, .int v21, .ref yd, .int v23, .ref ys, .ref yn, .ref ym, .int v27, .ref yf, .ref yo, .ref yh, .ref yb, .int v32, .int v33, .int v34, .int v35, .int v36, .int v37, .int v38, .ref yx, .int v40, .int v41, .int v42]))] sz) := by
  refine Met.ofW (cc := cX8_flagsOf) (maxL := 2) (ret := (some .int)) (by decide) rfl ?_
  intro p e s m args below meth c s₁ B hml hv
  obtain ⟨rfl, hsz, hP, hK, hD0, hN⟩ := hv
  have hx := B.exec
  have hb := B.bytes
  have hr := B.returns
  have hts := atoms_spec (ws := (.code yX8_flagsOf cX8_flagsOf 2 (some .int) :: wsL_law)) B.pre
  have hown : s.vm.findClass RX8 = some m.cls := findClass_of_methodNamed B.named
  have hlocks := B.notSynchronized
  have hinX8 : ∀ w ∈ u_ws RX8 TX8 43, w ∈ (.code yX8_flagsOf cX8_flagsOf 2 (some .int) :: wsL_law) := fun w h => List.mem_cons_of_mem _ (inlX8 w h)
  have k_0 := hts (.fieldLink RX8 114 "RingMarksModel" "writes" "I") (List.mem_cons_of_mem _ wm_337)
  have k_1 := hts (.fieldLink RX8 111 "RingMarksModel" "parts" "I") (List.mem_cons_of_mem _ wm_336)
  subst hsz
  have hD := hD0.self (sz := s.heap.size)
  generalize hAe : va_A [(y, .inr (8, [.ref yt, .int v1, .int v2, .ref yr, .ref yk, .ref yz, .ref yp, .int 3, .int 0, .int v9, .int v10, .ref yl, .ref yw, .int v13, .int v14, .int v15, .int v16, .int v17, .int v18, .int v19, .int v20, .int v21, .ref yd, .int v23, .ref ys, .ref yn, .ref ym, .int v27, .ref yf, .ref yo, .ref yh, .ref yb, .int v32, .int v33, .int v34, .int v35, .int v36, .int v37, .int v38, .ref yx, .int v40, .int v41, .int v42]))] s.heap.size = A at hD ⊢
  have hA : ∀ q : Nat, s.heap.size ≤ q → A q := fun q h => by rw [← hAe]; exact Or.inr h
  have hP : va_P (dC, dI) vwCl [(y, .inr (8, [.ref yt, .int v1, .int v2, .ref yr, .ref yk, .ref yz, .ref yp, .int 3, .int 0, .int v9, .int v10, .ref yl, .ref yw, .int v13, .int v14, .int v15, .int v16, .int v17, .int v18, .int v19, .int v20, .int v21, .ref yd, .int v23, .ref ys, .ref yn, .ref ym, .int v27, .ref yf, .ref yo, .ref yh, .ref yb, .int v32, .int v33, .int v34, .int v35, .int v36, .int v37, .int v38, .ref yx, .int v40, .int v41, .int v42]))] s.heap := hP
  have hl := lv_entry ([.ref y, .int 1]) (n := 2) (Nat.le_of_ble_eq_true rfl)
  rw [lg_entry_eq]
  generalize (lg_sl ([.ref y, .int 1]) ++ List.replicate (2 - (lg_sl ([.ref y, .int 1])).length) Slot.unset).toArray = ls at hl ⊢
  have hl : lv_has ls 2 [(0, .ref y), (1, .int 1)] := hl
  obtain ⟨H, hH⟩ : ∃ H, H = s.heap := ⟨_, rfl⟩
  rw [← hH] at hP ⊢
  have hS : va_S A s.heap H [] := by rw [hH]; exact va_S.rf
  refine lv_aload_n hx hb dX8_flagsOf_0 rfl (lv_at hl 0 rfl) ?_
  refine va_get (D := (dC, dI)) (ci := 8) (v := .int 0) (C := RX8) (T := TX8) (N := 43) hx hb hts hinX8 hown hK hP 0 rfl rfl 8 (by decide) k_0 (fun _ h9 => h9) rfl dX8_flagsOf_1 ?_
  refine lv_iload_n hx hb dX8_flagsOf_4 rfl (lv_at hl 1 rfl) ?_
  refine zcSi (As := [.int 0, .int 1]) (rest := []) (wr := [(y, .inr (8, [.ref yt, .int v1, .int v2, .ref yr, .ref yk, .ref yz, .ref yp, .int 3, .int 0, .int v9, .int v10, .ref yl, .ref yw, .int v13, .int v14, .int v15, .int v16, .int v17, .int v18, .int v19, .int v20, .int v21, .ref yd, .int v23, .ref ys, .ref yn, .ref ym, .int v27, .ref yf, .ref yo, .ref yh, .ref yb, .int v32, .int v33, .int v34, .int v35, .int v36, .int v37, .int v38, .ref yx, .int v40, .int v41, .int v42]))]) ⟨hx, hb, hml, hown, hts⟩ (kkX8_bitOf_0_1 l dC dI cI cB cZ cR H.size  ) (va_cwS 2 hts (zgS wm_358 wm_359 wm_5 wm_360) rfl rfl rfl (by decide +kernel) ⟨Nat.le_of_ble_eq_true rfl, Nat.le_of_ble_eq_true rfl⟩) hN hK hP hD hS hA [] [0] rfl rfl ⟨rfl, rfl⟩ (by decide) rfl hl.1 rfl (Nat.le_of_ble_eq_true rfl) dX8_flagsOf_5 ⟨Nat.le_of_ble_eq_true rfl, Nat.le_of_ble_eq_true rfl⟩ (fun r u hu H locs hP hD hS => ?_)
  have hu : r = 0 := hu
  subst hu
  have hP : va_P (dC, dI) vwCl [(y, .inr (8, [.ref yt, .int v1, .int v2, .ref yr, .ref yk, .ref yz, .ref yp, .int 3, .int 0, .int v9, .int v10, .ref yl, .ref yw, .int v13, .int v14, .int v15, .int v16, .int v17, .int v18, .int v19, .int v20, .int v21, .ref yd, .int v23, .ref ys, .ref yn, .ref ym, .int v27, .ref yf, .ref yo, .ref yh, .ref yb, .int v32, .int v33, .int v34, .int v35, .int v36, .int v37, .int v38, .ref yx, .int v40, .int v41, .int v42]))] H := hP
  have hD : va_D A [(y, .inr (8, [.ref yt, .int v1, .int v2, .ref yr, .ref yk, .ref yz, .ref yp, .int 3, .int 0, .int v9, .int v10, .ref yl, .ref yw, .int v13, .int v14, .int v15, .int v16, .int v17, .int v18, .int v19, .int v20, .int v21, .ref yd, .int v23, .ref ys, .ref yn, .ref ym, .int v27, .ref yf, .ref yo, .ref yh, .ref yb, .int v32, .int v33, .int v34, .int v35, .int v36, .int v37, .int v38, .ref yx, .int v40, .int v41, .int v42]))] := hD
  refine lv_if_eq (tgt := 15) hx hb dX8_flagsOf_8 (by decide) (fun _ => ?_) (fun c => absurd (by decide) c)
  refine lv_iconst (v := 0) hx hb dX8_flagsOf_15 (by decide) ?_
  refine lv_iload_n hx hb dX8_flagsOf_16 rfl (lv_at hl 1 rfl) ?_
  refine lv_aload_n hx hb dX8_flagsOf_17 rfl (lv_at hl 0 rfl) ?_
  refine va_get (D := (dC, dI)) (ci := 8) (v := .int 3) (C := RX8) (T := TX8) (N := 43) hx hb hts hinX8 hown hK hP 0 rfl rfl 7 (by decide) k_1 (fun _ h9 => h9) rfl dX8_flagsOf_18 ?_
  refine lv_iconst (v := 1) hx hb dX8_flagsOf_21 (by decide) ?_
  refine lv_isub hx hb dX8_flagsOf_22 ?_
  refine tp (y := 2) (by decide) ?_
  refine lv_icmp_ge (tgt := 30) hx hb dX8_flagsOf_23 (by decide) (fun c => absurd c (by decide)) (fun _ => ?_)
  refine lv_iconst (v := 1) hx hb dX8_flagsOf_26 (by decide) ?_
  refine lv_goto (tgt := 31) hx hb dX8_flagsOf_27 (by decide) ?_
  refine lv_ior hx hb dX8_flagsOf_31 ?_
  refine tp (y := 1) (by decide) ?_
  have hP9 := hP.sub (ws' := [(y, .inr (8, [.ref yt, .int v1, .int v2, .ref yr, .ref yk, .ref yz, .ref yp, .int 3, .int 0, .int v9, .int v10, .ref yl, .ref yw, .int v13, .int v14, .int v15, .int v16, .int v17, .int v18, .int v19, .int v20, .int v21, .ref yd, .int v23, .ref ys, .ref yn, .ref ym, .int v27, .ref yf, .ref yo, .ref yh, .ref yb, .int v32, .int v33, .int v34, .int v35, .int v36, .int v37, .int v38, .ref yx, .int v40, .int v41, .int v42]))]) [0] rfl
  have hD9 := hD.sub (ws' := [(y, .inr (8, [.ref yt, .int v1, .int v2, .ref yr, .ref yk, .ref yz, .ref yp, .int 3, .int 0, .int v9, .int v10, .ref yl, .ref yw, .int v13, .int v14, .int v15, .int v16, .int v17, .int v18, .int v19, .int v20, .int v21, .ref yd, .int v23, .ref ys, .ref yn, .ref ym, .int v27, .ref yf, .ref yo, .ref yh, .ref yb, .int v32, .int v33, .int v34, .int v35, .int v36, .int v37, .int v38, .ref yx, .int v40, .int v41, .int v42]))]) [0] (by decide) rfl
  exact W.iret (v := 1) hx hb hr (fun t ht hW => ⟨⟨1, (), rfl, rfl, by rw [ht]; exact hP9, va_K.moved hW.alike hK, hD9⟩, hS.F ht⟩) hS.2.2 dX8_flagsOf_32

set_option maxHeartbeats 4000000 in
set_option maxRecDepth 100000 in
theorem kkX8_flagsOf_30_2 (l : Launch) (dC : Nat → ClassId) (dI : Nat → Nat → Nat) (cI cB cZ cR : ClassId) (sz : Nat) (y : Nat) (yt : Nat) (yr : Nat) (yk : Nat) (yz : Nat) (yp : Nat) (yl : Nat) (yw : Nat) (yd : Nat) (ys : Nat) (yn : Nat) (ym : Nat) (yf : Nat) (yo : Nat) (yh : Nat) (yb : Nat) (yx : Nat) (v1 : Int32) (v2 : Int32) (v9 : Int32) (v10 : Int32) (v13 : Int32) (v14 : Int32) (v15 : Int32) (v16 : Int32) (v17 : Int32) (v18 : Int32) (v19 : Int32) (v20 : Int32) (v21 : Int32) (v23 : Int32) (v27 : Int32) (v32 : Int32) (v33 : Int32) (v34 : Int32) (v35 : Int32) (v36 : Int32) (v37 : Int32) (v38 : Int32) (v40 : Int32) (v41 : Int32) (v42 : Int32) : Met l yX8_flagsOf (.code yX8_flagsOf cX8_flagsOf 2 (some .int) :: wsL_law) ({ frames := 1, cells := 0, slots := 0, locals := 21 }) (zPc dC dI (zT cI cB cZ cR) [.ref y, .int 2] sz [(y, .inr (8, [.ref yt, .int v1, .int v2, .ref yr, .ref yk, .ref yz, .ref yp, .int 3, .int 0, .int v9, .int v10, .ref yl, .ref yw, .int v13, .int v14, .int v15, .int v16, .int v17, .int v18, .int v19, .int v20, .int v21, .ref yd, .int v23, .ref ys, .ref yn, .ref ym, .int v27, .ref yf, .ref yo, .ref yh, .ref yb, .int v32, .int v33, .int v34, .int v35, .int v36, .int v37, .int v38, .ref yx, .int v40, .int v41, .int v42]))]) (va_Qi (fun (r : Int32) (_ : Unit) => r = 0) (fun _ : Unit => zB dC dI (zT cI cB cZ cR) (va_A [(y, .inr (8, [.ref yt, .int v1, .int v2, .ref yr, .ref yk, .ref yz, .ref yp, .int 3, .int 0, .int v9, .int v10, .ref yl, .ref yw, .int v13, .int v14, .int v15, .int v16, .int v17, .int v18, .int v19, .int v20, .int v21, .ref yd, .int v23, .ref ys, .ref yn, .ref ym, .int v27, .ref yf, .ref yo, .ref yh, .ref yb, .int v32, .int v33, .int v34, .int v35, .int v36, .int v37, .int v38, .ref yx, .int v40, .int v41, .int v42]))] sz) [(y, .inr (8, [.ref yt, .int v1, .int v2, .ref yr, .ref yk, .ref yz, .ref yp, .int 3, .int 0, .int v9, .int v10, .ref yl, .ref yw, .int v13, .int v14, .int v15, .int v16, .int v17, .int v18, .int v19, .int v20, .int v21, .ref yd, .int v23, .ref ys, .ref yn, .ref ym, .int v27, .ref yf, .ref yo, .ref yh, .ref yb, .int v32, .int v33, .int v34, .int v35, .int v36, .int v37, .int v38, .ref yx, .int v40, .int v41, .int v42]))]) (va_A [(y, .inr (8, [.ref yt, .int v1, .int v2, .ref yr, .ref yk, .ref yz, .ref yp, .int 3, .int 0, .int v9, .int v10, .ref yl, .ref yw, .int v13, .int v14, .int v15, .int v16, .int v17, .int v18, .int v19, .int v20, .int v21, .ref yd, .int v23, .ref ys, .ref yn, .ref ym, .int v27, .ref yf, .ref yo, .ref yh, .ref yb, .int v32, .int v33, .int v34, .int v35, .int v36, .int v37, .int v38, .ref yx, .int v40, .int v41, .int v42]))] sz)) 0 0 (va_A [(y, .inr (8, [.ref yt, .int v1, .int v2, .ref yr, .ref yk, .ref yz, .ref yp, .int 3, .int 0, .int v9, .int v10, .ref yl, .ref yw, .int v13, .int v14, .int v15, .int v16, .int v17, .int v18, .int v19, .int v20, .int v21, .ref yd, .int v23, .ref ys, .ref yn, .ref ym, .int v27, .ref yf, .ref yo, .ref yh, .ref yb, .int v32, .int v33, .int v34, .int v35, .int v36, .int v37, .int v38, .ref yx, .int v40, .int v41, .int v42]))] sz) := by
  refine Met.ofW (cc := cX8_flagsOf) (maxL := 2) (ret := (some .int)) (by decide) rfl ?_
  intro p e s m args below meth c s₁ B hml hv
  obtain ⟨rfl, hsz, hP, hK, hD0, hN⟩ := hv
  have hx := B.exec
  have hb := B.bytes
  have hr := B.returns
  have hts := atoms_spec (ws := (.code yX8_flagsOf cX8_flagsOf 2 (some .int) :: wsL_law)) B.pre
  have hown : s.vm.findClass RX8 = some m.cls := findClass_of_methodNamed B.named
  have hlocks := B.notSynchronized
  have hinX8 : ∀ w ∈ u_ws RX8 TX8 43, w ∈ (.code yX8_flagsOf cX8_flagsOf 2 (some .int) :: wsL_law) := fun w h => List.mem_cons_of_mem _ (inlX8 w h)
  have k_0 := hts (.fieldLink RX8 114 "RingMarksModel" "writes" "I") (List.mem_cons_of_mem _ wm_337)
  have k_1 := hts (.fieldLink RX8 111 "RingMarksModel" "parts" "I") (List.mem_cons_of_mem _ wm_336)
  subst hsz
  have hD := hD0.self (sz := s.heap.size)
  generalize hAe : va_A [(y, .inr (8, [.ref yt, .int v1, .int v2, .ref yr, .ref yk, .ref yz, .ref yp, .int 3, .int 0, .int v9, .int v10, .ref yl, .ref yw, .int v13, .int v14, .int v15, .int v16, .int v17, .int v18, .int v19, .int v20, .int v21, .ref yd, .int v23, .ref ys, .ref yn, .ref ym, .int v27, .ref yf, .ref yo, .ref yh, .ref yb, .int v32, .int v33, .int v34, .int v35, .int v36, .int v37, .int v38, .ref yx, .int v40, .int v41, .int v42]))] s.heap.size = A at hD ⊢
  have hA : ∀ q : Nat, s.heap.size ≤ q → A q := fun q h => by rw [← hAe]; exact Or.inr h
  have hP : va_P (dC, dI) vwCl [(y, .inr (8, [.ref yt, .int v1, .int v2, .ref yr, .ref yk, .ref yz, .ref yp, .int 3, .int 0, .int v9, .int v10, .ref yl, .ref yw, .int v13, .int v14, .int v15, .int v16, .int v17, .int v18, .int v19, .int v20, .int v21, .ref yd, .int v23, .ref ys, .ref yn, .ref ym, .int v27, .ref yf, .ref yo, .ref yh, .ref yb, .int v32, .int v33, .int v34, .int v35, .int v36, .int v37, .int v38, .ref yx, .int v40, .int v41, .int v42]))] s.heap := hP
  have hl := lv_entry ([.ref y, .int 2]) (n := 2) (Nat.le_of_ble_eq_true rfl)
  rw [lg_entry_eq]
  generalize (lg_sl ([.ref y, .int 2]) ++ List.replicate (2 - (lg_sl ([.ref y, .int 2])).length) Slot.unset).toArray = ls at hl ⊢
  have hl : lv_has ls 2 [(0, .ref y), (1, .int 2)] := hl
  obtain ⟨H, hH⟩ : ∃ H, H = s.heap := ⟨_, rfl⟩
  rw [← hH] at hP ⊢
  have hS : va_S A s.heap H [] := by rw [hH]; exact va_S.rf
  refine lv_aload_n hx hb dX8_flagsOf_0 rfl (lv_at hl 0 rfl) ?_
  refine va_get (D := (dC, dI)) (ci := 8) (v := .int 0) (C := RX8) (T := TX8) (N := 43) hx hb hts hinX8 hown hK hP 0 rfl rfl 8 (by decide) k_0 (fun _ h9 => h9) rfl dX8_flagsOf_1 ?_
  refine lv_iload_n hx hb dX8_flagsOf_4 rfl (lv_at hl 1 rfl) ?_
  refine zcSi (As := [.int 0, .int 2]) (rest := []) (wr := [(y, .inr (8, [.ref yt, .int v1, .int v2, .ref yr, .ref yk, .ref yz, .ref yp, .int 3, .int 0, .int v9, .int v10, .ref yl, .ref yw, .int v13, .int v14, .int v15, .int v16, .int v17, .int v18, .int v19, .int v20, .int v21, .ref yd, .int v23, .ref ys, .ref yn, .ref ym, .int v27, .ref yf, .ref yo, .ref yh, .ref yb, .int v32, .int v33, .int v34, .int v35, .int v36, .int v37, .int v38, .ref yx, .int v40, .int v41, .int v42]))]) ⟨hx, hb, hml, hown, hts⟩ (kkX8_bitOf_0_2 l dC dI cI cB cZ cR H.size  ) (va_cwS 2 hts (zgS wm_358 wm_359 wm_5 wm_360) rfl rfl rfl (by decide +kernel) ⟨Nat.le_of_ble_eq_true rfl, Nat.le_of_ble_eq_true rfl⟩) hN hK hP hD hS hA [] [0] rfl rfl ⟨rfl, rfl⟩ (by decide) rfl hl.1 rfl (Nat.le_of_ble_eq_true rfl) dX8_flagsOf_5 ⟨Nat.le_of_ble_eq_true rfl, Nat.le_of_ble_eq_true rfl⟩ (fun r u hu H locs hP hD hS => ?_)
  have hu : r = 0 := hu
  subst hu
  have hP : va_P (dC, dI) vwCl [(y, .inr (8, [.ref yt, .int v1, .int v2, .ref yr, .ref yk, .ref yz, .ref yp, .int 3, .int 0, .int v9, .int v10, .ref yl, .ref yw, .int v13, .int v14, .int v15, .int v16, .int v17, .int v18, .int v19, .int v20, .int v21, .ref yd, .int v23, .ref ys, .ref yn, .ref ym, .int v27, .ref yf, .ref yo, .ref yh, .ref yb, .int v32, .int v33, .int v34, .int v35, .int v36, .int v37, .int v38, .ref yx, .int v40, .int v41, .int v42]))] H := hP
  have hD : va_D A [(y, .inr (8, [.ref yt, .int v1, .int v2, .ref yr, .ref yk, .ref yz, .ref yp, .int 3, .int 0, .int v9, .int v10, .ref yl, .ref yw, .int v13, .int v14, .int v15, .int v16, .int v17, .int v18, .int v19, .int v20, .int v21, .ref yd, .int v23, .ref ys, .ref yn, .ref ym, .int v27, .ref yf, .ref yo, .ref yh, .ref yb, .int v32, .int v33, .int v34, .int v35, .int v36, .int v37, .int v38, .ref yx, .int v40, .int v41, .int v42]))] := hD
  refine lv_if_eq (tgt := 15) hx hb dX8_flagsOf_8 (by decide) (fun _ => ?_) (fun c => absurd (by decide) c)
  refine lv_iconst (v := 0) hx hb dX8_flagsOf_15 (by decide) ?_
  refine lv_iload_n hx hb dX8_flagsOf_16 rfl (lv_at hl 1 rfl) ?_
  refine lv_aload_n hx hb dX8_flagsOf_17 rfl (lv_at hl 0 rfl) ?_
  refine va_get (D := (dC, dI)) (ci := 8) (v := .int 3) (C := RX8) (T := TX8) (N := 43) hx hb hts hinX8 hown hK hP 0 rfl rfl 7 (by decide) k_1 (fun _ h9 => h9) rfl dX8_flagsOf_18 ?_
  refine lv_iconst (v := 1) hx hb dX8_flagsOf_21 (by decide) ?_
  refine lv_isub hx hb dX8_flagsOf_22 ?_
  refine tp (y := 2) (by decide) ?_
  refine lv_icmp_ge (tgt := 30) hx hb dX8_flagsOf_23 (by decide) (fun _ => ?_) (fun c => absurd (by decide) c)
  refine lv_iconst (v := 0) hx hb dX8_flagsOf_30 (by decide) ?_
  refine lv_ior hx hb dX8_flagsOf_31 ?_
  refine tp (y := 0) (by decide) ?_
  have hP9 := hP.sub (ws' := [(y, .inr (8, [.ref yt, .int v1, .int v2, .ref yr, .ref yk, .ref yz, .ref yp, .int 3, .int 0, .int v9, .int v10, .ref yl, .ref yw, .int v13, .int v14, .int v15, .int v16, .int v17, .int v18, .int v19, .int v20, .int v21, .ref yd, .int v23, .ref ys, .ref yn, .ref ym, .int v27, .ref yf, .ref yo, .ref yh, .ref yb, .int v32, .int v33, .int v34, .int v35, .int v36, .int v37, .int v38, .ref yx, .int v40, .int v41, .int v42]))]) [0] rfl
  have hD9 := hD.sub (ws' := [(y, .inr (8, [.ref yt, .int v1, .int v2, .ref yr, .ref yk, .ref yz, .ref yp, .int 3, .int 0, .int v9, .int v10, .ref yl, .ref yw, .int v13, .int v14, .int v15, .int v16, .int v17, .int v18, .int v19, .int v20, .int v21, .ref yd, .int v23, .ref ys, .ref yn, .ref ym, .int v27, .ref yf, .ref yo, .ref yh, .ref yb, .int v32, .int v33, .int v34, .int v35, .int v36, .int v37, .int v38, .ref yx, .int v40, .int v41, .int v42]))]) [0] (by decide) rfl
  exact W.iret (v := 0) hx hb hr (fun t ht hW => ⟨⟨0, (), rfl, rfl, by rw [ht]; exact hP9, va_K.moved hW.alike hK, hD9⟩, hS.F ht⟩) hS.2.2 dX8_flagsOf_32

set_option maxHeartbeats 4000000 in
set_option maxRecDepth 100000 in
theorem kkX8_flagsOf_31_0 (l : Launch) (dC : Nat → ClassId) (dI : Nat → Nat → Nat) (cI cB cZ cR : ClassId) (sz : Nat) (y : Nat) (yt : Nat) (yr : Nat) (yk : Nat) (yz : Nat) (yp : Nat) (yl : Nat) (yw : Nat) (yd : Nat) (ys : Nat) (yn : Nat) (ym : Nat) (yf : Nat) (yo : Nat) (yh : Nat) (yb : Nat) (yx : Nat) (v1 : Int32) (v2 : Int32) (v9 : Int32) (v10 : Int32) (v13 : Int32) (v14 : Int32) (v15 : Int32) (v16 : Int32) (v17 : Int32) (v18 : Int32) (v19 : Int32) (v20 : Int32) (v21 : Int32) (v23 : Int32) (v27 : Int32) (v32 : Int32) (v33 : Int32) (v34 : Int32) (v35 : Int32) (v36 : Int32) (v37 : Int32) (v38 : Int32) (v40 : Int32) (v41 : Int32) (v42 : Int32) : Met l yX8_flagsOf (.code yX8_flagsOf cX8_flagsOf 2 (some .int) :: wsL_law) ({ frames := 1, cells := 0, slots := 0, locals := 21 }) (zPc dC dI (zT cI cB cZ cR) [.ref y, .int 0] sz [(y, .inr (8, [.ref yt, .int v1, .int v2, .ref yr, .ref yk, .ref yz, .ref yp, .int 4, .int 8, .int v9, .int v10, .ref yl, .ref yw, .int v13, .int v14, .int v15, .int v16, .int v17, .int v18, .int v19, .int v20, .int v21, .ref yd, .int v23, .ref ys, .ref yn, .ref ym, .int v27, .ref yf, .ref yo, .ref yh, .ref yb, .int v32, .int v33, .int v34, .int v35, .int v36, .int v37, .int v38, .ref yx, .int v40, .int v41, .int v42]))]) (va_Qi (fun (r : Int32) (_ : Unit) => r = 1) (fun _ : Unit => zB dC dI (zT cI cB cZ cR) (va_A [(y, .inr (8, [.ref yt, .int v1, .int v2, .ref yr, .ref yk, .ref yz, .ref yp, .int 4, .int 8, .int v9, .int v10, .ref yl, .ref yw, .int v13, .int v14, .int v15, .int v16, .int v17, .int v18, .int v19, .int v20, .int v21, .ref yd, .int v23, .ref ys, .ref yn, .ref ym, .int v27, .ref yf, .ref yo, .ref yh, .ref yb, .int v32, .int v33, .int v34, .int v35, .int v36, .int v37, .int v38, .ref yx, .int v40, .int v41, .int v42]))] sz) [(y, .inr (8, [.ref yt, .int v1, .int v2, .ref yr, .ref yk, .ref yz, .ref yp, .int 4, .int 8, .int v9, .int v10, .ref yl, .ref yw, .int v13, .int v14, .int v15, .int v16, .int v17, .int v18, .int v19, .int v20, .int v21, .ref yd, .int v23, .ref ys, .ref yn, .ref ym, .int v27, .ref yf, .ref yo, .ref yh, .ref yb, .int v32, .int v33, .int v34, .int v35, .int v36, .int v37, .int v38, .ref yx, .int v40, .int v41, .int v42]))]) (va_A [(y, .inr (8, [.ref yt, .int v1, .int v2, .ref yr, .ref yk, .ref yz, .ref yp, .int 4, .int 8, .int v9, .int v10, .ref yl, .ref yw, .int v13, .int v14, .int v15, .int v16, .int v17, .int v18, .int v19, .int v20, .int v21, .ref yd, .int v23, .ref ys, .ref yn, .ref ym, .int v27, .ref yf, .ref yo, .ref yh, .ref yb, .int v32, .int v33, .int v34, .int v35, .int v36, .int v37, .int v38, .ref yx, .int v40, .int v41, .int v42]))] sz)) 0 0 (va_A [(y, .inr (8, [.ref yt, .int v1, .int v2, .ref yr, .ref yk, .ref yz, .ref yp, .int 4, .int 8, .int v9, .int v10, .ref yl, .ref yw, .int v13, .int v14, .int v15, .int v16, .int v17, .int v18, .int v19, .int v20, .int v21, .ref yd, .int v23, .ref ys, .ref yn, .ref ym, .int v27, .ref yf, .ref yo, .ref yh, .ref yb, .int v32, .int v33, .int v34, .int v35, .int v36, .int v37, .int v38, .ref yx, .int v40, .int v41, .int v42]))] sz) := by
  refine Met.ofW (cc := cX8_flagsOf) (maxL := 2) (ret := (some .int)) (by decide) rfl ?_
  intro p e s m args below meth c s₁ B hml hv
  obtain ⟨rfl, hsz, hP, hK, hD0, hN⟩ := hv
  have hx := B.exec
  have hb := B.bytes
  have hr := B.returns
  have hts := atoms_spec (ws := (.code yX8_flagsOf cX8_flagsOf 2 (some .int) :: wsL_law)) B.pre
  have hown : s.vm.findClass RX8 = some m.cls := findClass_of_methodNamed B.named
  have hlocks := B.notSynchronized
  have hinX8 : ∀ w ∈ u_ws RX8 TX8 43, w ∈ (.code yX8_flagsOf cX8_flagsOf 2 (some .int) :: wsL_law) := fun w h => List.mem_cons_of_mem _ (inlX8 w h)
  have k_0 := hts (.fieldLink RX8 114 "RingMarksModel" "writes" "I") (List.mem_cons_of_mem _ wm_337)
  have k_1 := hts (.fieldLink RX8 111 "RingMarksModel" "parts" "I") (List.mem_cons_of_mem _ wm_336)
  subst hsz
  have hD := hD0.self (sz := s.heap.size)
  generalize hAe : va_A [(y, .inr (8, [.ref yt, .int v1, .int v2, .ref yr, .ref yk, .ref yz, .ref yp, .int 4, .int 8, .int v9, .int v10, .ref yl, .ref yw, .int v13, .int v14, .int v15, .int v16, .int v17, .int v18, .int v19, .int v20, .int v21, .ref yd, .int v23, .ref ys, .ref yn, .ref ym, .int v27, .ref yf, .ref yo, .ref yh, .ref yb, .int v32, .int v33, .int v34, .int v35, .int v36, .int v37, .int v38, .ref yx, .int v40, .int v41, .int v42]))] s.heap.size = A at hD ⊢
  have hA : ∀ q : Nat, s.heap.size ≤ q → A q := fun q h => by rw [← hAe]; exact Or.inr h
  have hP : va_P (dC, dI) vwCl [(y, .inr (8, [.ref yt, .int v1, .int v2, .ref yr, .ref yk, .ref yz, .ref yp, .int 4, .int 8, .int v9, .int v10, .ref yl, .ref yw, .int v13, .int v14, .int v15, .int v16, .int v17, .int v18, .int v19, .int v20, .int v21, .ref yd, .int v23, .ref ys, .ref yn, .ref ym, .int v27, .ref yf, .ref yo, .ref yh, .ref yb, .int v32, .int v33, .int v34, .int v35, .int v36, .int v37, .int v38, .ref yx, .int v40, .int v41, .int v42]))] s.heap := hP
  have hl := lv_entry ([.ref y, .int 0]) (n := 2) (Nat.le_of_ble_eq_true rfl)
  rw [lg_entry_eq]
  generalize (lg_sl ([.ref y, .int 0]) ++ List.replicate (2 - (lg_sl ([.ref y, .int 0])).length) Slot.unset).toArray = ls at hl ⊢
  have hl : lv_has ls 2 [(0, .ref y), (1, .int 0)] := hl
  obtain ⟨H, hH⟩ : ∃ H, H = s.heap := ⟨_, rfl⟩
  rw [← hH] at hP ⊢
  have hS : va_S A s.heap H [] := by rw [hH]; exact va_S.rf
  refine lv_aload_n hx hb dX8_flagsOf_0 rfl (lv_at hl 0 rfl) ?_
  refine va_get (D := (dC, dI)) (ci := 8) (v := .int 8) (C := RX8) (T := TX8) (N := 43) hx hb hts hinX8 hown hK hP 0 rfl rfl 8 (by decide) k_0 (fun _ h9 => h9) rfl dX8_flagsOf_1 ?_
  refine lv_iload_n hx hb dX8_flagsOf_4 rfl (lv_at hl 1 rfl) ?_
  refine zcSi (As := [.int 8, .int 0]) (rest := []) (wr := [(y, .inr (8, [.ref yt, .int v1, .int v2, .ref yr, .ref yk, .ref yz, .ref yp, .int 4, .int 8, .int v9, .int v10, .ref yl, .ref yw, .int v13, .int v14, .int v15, .int v16, .int v17, .int v18, .int v19, .int v20, .int v21, .ref yd, .int v23, .ref ys, .ref yn, .ref ym, .int v27, .ref yf, .ref yo, .ref yh, .ref yb, .int v32, .int v33, .int v34, .int v35, .int v36, .int v37, .int v38, .ref yx, .int v40, .int v41, .int v42]))]) ⟨hx, hb, hml, hown, hts⟩ (kkX8_bitOf_8_0 l dC dI cI cB cZ cR H.size  ) (va_cwS 2 hts (zgS wm_358 wm_359 wm_5 wm_360) rfl rfl rfl (by decide +kernel) ⟨Nat.le_of_ble_eq_true rfl, Nat.le_of_ble_eq_true rfl⟩) hN hK hP hD hS hA [] [0] rfl rfl ⟨rfl, rfl⟩ (by decide) rfl hl.1 rfl (Nat.le_of_ble_eq_true rfl) dX8_flagsOf_5 ⟨Nat.le_of_ble_eq_true rfl, Nat.le_of_ble_eq_true rfl⟩ (fun r u hu H locs hP hD hS => ?_)
  have hu : r = 0 := hu
  subst hu
  have hP : va_P (dC, dI) vwCl [(y, .inr (8, [.ref yt, .int v1, .int v2, .ref yr, .ref yk, .ref yz, .ref yp, .int 4, .int 8, .int v9, .int v10, .ref yl, .ref yw, .int v13, .int v14, .int v15, .int v16, .int v17, .int v18, .int v19, .int v20, .int v21, .ref yd, .int v23, .ref ys, .ref yn, .ref ym, .int v27, .ref yf, .ref yo, .ref yh, .ref yb, .int v32, .int v33, .int v34, .int v35, .int v36, .int v37, .int v38, .ref yx, .int v40, .int v41, .int v42]))] H := hP
  have hD : va_D A [(y, .inr (8, [.ref yt, .int v1, .int v2, .ref yr, .ref yk, .ref yz, .ref yp, .int 4, .int 8, .int v9, .int v10, .ref yl, .ref yw, .int v13, .int v14, .int v15, .int v16, .int v17, .int v18, .int v19, .int v20, .int v21, .ref yd, .int v23, .ref ys, .ref yn, .ref ym, .int v27, .ref yf, .ref yo, .ref yh, .ref yb, .int v32, .int v33, .int v34, .int v35, .int v36, .int v37, .int v38, .ref yx, .int v40, .int v41, .int v42]))] := hD
  refine lv_if_eq (tgt := 15) hx hb dX8_flagsOf_8 (by decide) (fun _ => ?_) (fun c => absurd (by decide) c)
  refine lv_iconst (v := 0) hx hb dX8_flagsOf_15 (by decide) ?_
  refine lv_iload_n hx hb dX8_flagsOf_16 rfl (lv_at hl 1 rfl) ?_
  refine lv_aload_n hx hb dX8_flagsOf_17 rfl (lv_at hl 0 rfl) ?_
  refine va_get (D := (dC, dI)) (ci := 8) (v := .int 4) (C := RX8) (T := TX8) (N := 43) hx hb hts hinX8 hown hK hP 0 rfl rfl 7 (by decide) k_1 (fun _ h9 => h9) rfl dX8_flagsOf_18 ?_
  refine lv_iconst (v := 1) hx hb dX8_flagsOf_21 (by decide) ?_
  refine lv_isub hx hb dX8_flagsOf_22 ?_
  refine tp (y := 3) (by decide) ?_
  refine lv_icmp_ge (tgt := 30) hx hb dX8_flagsOf_23 (by decide) (fun c => absurd c (by decide)) (fun _ => ?_)
  refine lv_iconst (v := 1) hx hb dX8_flagsOf_26 (by decide) ?_
  refine lv_goto (tgt := 31) hx hb dX8_flagsOf_27 (by decide) ?_
  refine lv_ior hx hb dX8_flagsOf_31 ?_
  refine tp (y := 1) (by decide) ?_
  have hP9 := hP.sub (ws' := [(y, .inr (8, [.ref yt, .int v1, .int v2, .ref yr, .ref yk, .ref yz, .ref yp, .int 4, .int 8, .int v9, .int v10, .ref yl, .ref yw, .int v13, .int v14, .int v15, .int v16, .int v17, .int v18, .int v19, .int v20, .int v21, .ref yd, .int v23, .ref ys, .ref yn, .ref ym, .int v27, .ref yf, .ref yo, .ref yh, .ref yb, .int v32, .int v33, .int v34, .int v35, .int v36, .int v37, .int v38, .ref yx, .int v40, .int v41, .int v42]))]) [0] rfl
  have hD9 := hD.sub (ws' := [(y, .inr (8, [.ref yt, .int v1, .int v2, .ref yr, .ref yk, .ref yz, .ref yp, .int 4, .int 8, .int v9, .int v10, .ref yl, .ref yw, .int v13, .int v14, .int v15, .int v16, .int v17, .int v18, .int v19, .int v20, .int v21, .ref yd, .int v23, .ref ys, .ref yn, .ref ym, .int v27, .ref yf, .ref yo, .ref yh, .ref yb, .int v32, .int v33, .int v34, .int v35, .int v36, .int v37, .int v38, .ref yx, .int v40, .int v41, .int v42]))]) [0] (by decide) rfl
  exact W.iret (v := 1) hx hb hr (fun t ht hW => ⟨⟨1, (), rfl, rfl, by rw [ht]; exact hP9, va_K.moved hW.alike hK, hD9⟩, hS.F ht⟩) hS.2.2 dX8_flagsOf_32

set_option maxHeartbeats 4000000 in
set_option maxRecDepth 100000 in
theorem kkX8_flagsOf_31_1 (l : Launch) (dC : Nat → ClassId) (dI : Nat → Nat → Nat) (cI cB cZ cR : ClassId) (sz : Nat) (y : Nat) (yt : Nat) (yr : Nat) (yk : Nat) (yz : Nat) (yp : Nat) (yl : Nat) (yw : Nat) (yd : Nat) (ys : Nat) (yn : Nat) (ym : Nat) (yf : Nat) (yo : Nat) (yh : Nat) (yb : Nat) (yx : Nat) (v1 : Int32) (v2 : Int32) (v9 : Int32) (v10 : Int32) (v13 : Int32) (v14 : Int32) (v15 : Int32) (v16 : Int32) (v17 : Int32) (v18 : Int32) (v19 : Int32) (v20 : Int32) (v21 : Int32) (v23 : Int32) (v27 : Int32) (v32 : Int32) (v33 : Int32) (v34 : Int32) (v35 : Int32) (v36 : Int32) (v37 : Int32) (v38 : Int32) (v40 : Int32) (v41 : Int32) (v42 : Int32) : Met l yX8_flagsOf (.code yX8_flagsOf cX8_flagsOf 2 (some .int) :: wsL_law) ({ frames := 1, cells := 0, slots := 0, locals := 21 }) (zPc dC dI (zT cI cB cZ cR) [.ref y, .int 1] sz [(y, .inr (8, [.ref yt, .int v1, .int v2, .ref yr, .ref yk, .ref yz, .ref yp, .int 4, .int 8, .int v9, .int v10, .ref yl, .ref yw, .int v13, .int v14, .int v15, .int v16, .int v17, .int v18, .int v19, .int v20, .int v21, .ref yd, .int v23, .ref ys, .ref yn, .ref ym, .int v27, .ref yf, .ref yo, .ref yh, .ref yb, .int v32, .int v33, .int v34, .int v35, .int v36, .int v37, .int v38, .ref yx, .int v40, .int v41, .int v42]))]) (va_Qi (fun (r : Int32) (_ : Unit) => r = 1) (fun _ : Unit => zB dC dI (zT cI cB cZ cR) (va_A [(y, .inr (8, [.ref yt, .int v1, .int v2, .ref yr, .ref yk, .ref yz, .ref yp, .int 4, .int 8, .int v9, .int v10, .ref yl, .ref yw, .int v13, .int v14, .int v15, .int v16, .int v17, .int v18, .int v19, .int v20, .int v21, .ref yd, .int v23, .ref ys, .ref yn, .ref ym, .int v27, .ref yf, .ref yo, .ref yh, .ref yb, .int v32, .int v33, .int v34, .int v35, .int v36, .int v37, .int v38, .ref yx, .int v40, .int v41, .int v42]))] sz) [(y, .inr (8, [.ref yt, .int v1, .int v2, .ref yr, .ref yk, .ref yz, .ref yp, .int 4, .int 8, .int v9, .int v10, .ref yl, .ref yw, .int v13, .int v14, .int v15, .int v16, .int v17, .int v18, .int v19, .int v20, .int v21, .ref yd, .int v23, .ref ys, .ref yn, .ref ym, .int v27, .ref yf, .ref yo, .ref yh, .ref yb, .int v32, .int v33, .int v34, .int v35, .int v36, .int v37, .int v38, .ref yx, .int v40, .int v41, .int v42]))]) (va_A [(y, .inr (8, [.ref yt, .int v1, .int v2, .ref yr, .ref yk, .ref yz, .ref yp, .int 4, .int 8, .int v9, .int v10, .ref yl, .ref yw, .int v13, .int v14, .int v15, .int v16, .int v17, .int v18, .int v19, .int v20, .int v21, .ref yd, .int v23, .ref ys, .ref yn, .ref ym, .int v27, .ref yf, .ref yo, .ref yh, .ref yb, .int v32, .int v33, .int v34, .int v35, .int v36, .int v37, .int v38, .ref yx, .int v40, .int v41, .int v42]))] sz)) 0 0 (va_A [(y, .inr (8, [.ref yt, .int v1, .int v2, .ref yr, .ref yk, .ref yz, .ref yp, .int 4, .int 8, .int v9, .int v10, .ref yl, .ref yw, .int v13, .int v14, .int v15, .int v16, .int v17, .int v18, .int v19, .int v20, .int v21, .ref yd, .int v23, .ref ys, .ref yn, .ref ym, .int v27, .ref yf, .ref yo, .ref yh, .ref yb, .int v32, .int v33, .int v34, .int v35, .int v36, .int v37, .int v38, .ref yx, .int v40, .int v41, .int v42]))] sz) := by
  refine Met.ofW (cc := cX8_flagsOf) (maxL := 2) (ret := (some .int)) (by decide) rfl ?_
  intro p e s m args below meth c s₁ B hml hv
  obtain ⟨rfl, hsz, hP, hK, hD0, hN⟩ := hv
  have hx := B.exec
  have hb := B.bytes
  have hr := B.returns
  have hts := atoms_spec (ws := (.code yX8_flagsOf cX8_flagsOf 2 (some .int) :: wsL_law)) B.pre
  have hown : s.vm.findClass RX8 = some m.cls := findClass_of_methodNamed B.named
  have hlocks := B.notSynchronized
  have hinX8 : ∀ w ∈ u_ws RX8 TX8 43, w ∈ (.code yX8_flagsOf cX8_flagsOf 2 (some .int) :: wsL_law) := fun w h => List.mem_cons_of_mem _ (inlX8 w h)
  have k_0 := hts (.fieldLink RX8 114 "RingMarksModel" "writes" "I") (List.mem_cons_of_mem _ wm_337)
  have k_1 := hts (.fieldLink RX8 111 "RingMarksModel" "parts" "I") (List.mem_cons_of_mem _ wm_336)
  subst hsz
  have hD := hD0.self (sz := s.heap.size)
  generalize hAe : va_A [(y, .inr (8, [.ref yt, .int v1, .int v2, .ref yr, .ref yk, .ref yz, .ref yp, .int 4, .int 8, .int v9, .int v10, .ref yl, .ref yw, .int v13, .int v14, .int v15, .int v16, .int v17, .int v18, .int v19, .int v20, .int v21, .ref yd, .int v23, .ref ys, .ref yn, .ref ym, .int v27, .ref yf, .ref yo, .ref yh, .ref yb, .int v32, .int v33, .int v34, .int v35, .int v36, .int v37, .int v38, .ref yx, .int v40, .int v41, .int v42]))] s.heap.size = A at hD ⊢
  have hA : ∀ q : Nat, s.heap.size ≤ q → A q := fun q h => by rw [← hAe]; exact Or.inr h
  have hP : va_P (dC, dI) vwCl [(y, .inr (8, [.ref yt, .int v1, .int v2, .ref yr, .ref yk, .ref yz, .ref yp, .int 4, .int 8, .int v9, .int v10, .ref yl, .ref yw, .int v13, .int v14, .int v15, .int v16, .int v17, .int v18, .int v19, .int v20, .int v21, .ref yd, .int v23, .ref ys, .ref yn, .ref ym, .int v27, .ref yf, .ref yo, .ref yh, .ref yb, .int v32, .int v33, .int v34, .int v35, .int v36, .int v37, .int v38, .ref yx, .int v40, .int v41, .int v42]))] s.heap := hP
  have hl := lv_entry ([.ref y, .int 1]) (n := 2) (Nat.le_of_ble_eq_true rfl)
  rw [lg_entry_eq]
  generalize (lg_sl ([.ref y, .int 1]) ++ List.replicate (2 - (lg_sl ([.ref y, .int 1])).length) Slot.unset).toArray = ls at hl ⊢
  have hl : lv_has ls 2 [(0, .ref y), (1, .int 1)] := hl
  obtain ⟨H, hH⟩ : ∃ H, H = s.heap := ⟨_, rfl⟩
  rw [← hH] at hP ⊢
  have hS : va_S A s.heap H [] := by rw [hH]; exact va_S.rf
  refine lv_aload_n hx hb dX8_flagsOf_0 rfl (lv_at hl 0 rfl) ?_
  refine va_get (D := (dC, dI)) (ci := 8) (v := .int 8) (C := RX8) (T := TX8) (N := 43) hx hb hts hinX8 hown hK hP 0 rfl rfl 8 (by decide) k_0 (fun _ h9 => h9) rfl dX8_flagsOf_1 ?_
  refine lv_iload_n hx hb dX8_flagsOf_4 rfl (lv_at hl 1 rfl) ?_
  refine zcSi (As := [.int 8, .int 1]) (rest := []) (wr := [(y, .inr (8, [.ref yt, .int v1, .int v2, .ref yr, .ref yk, .ref yz, .ref yp, .int 4, .int 8, .int v9, .int v10, .ref yl, .ref yw, .int v13, .int v14, .int v15, .int v16, .int v17, .int v18, .int v19, .int v20, .int v21, .ref yd, .int v23, .ref ys, .ref yn, .ref ym, .int v27, .ref yf, .ref yo, .ref yh, .ref yb, .int v32, .int v33, .int v34, .int v35, .int v36, .int v37, .int v38, .ref yx, .int v40, .int v41, .int v42]))]) ⟨hx, hb, hml, hown, hts⟩ (kkX8_bitOf_8_1 l dC dI cI cB cZ cR H.size  ) (va_cwS 2 hts (zgS wm_358 wm_359 wm_5 wm_360) rfl rfl rfl (by decide +kernel) ⟨Nat.le_of_ble_eq_true rfl, Nat.le_of_ble_eq_true rfl⟩) hN hK hP hD hS hA [] [0] rfl rfl ⟨rfl, rfl⟩ (by decide) rfl hl.1 rfl (Nat.le_of_ble_eq_true rfl) dX8_flagsOf_5 ⟨Nat.le_of_ble_eq_true rfl, Nat.le_of_ble_eq_true rfl⟩ (fun r u hu H locs hP hD hS => ?_)
  have hu : r = 0 := hu
  subst hu
  have hP : va_P (dC, dI) vwCl [(y, .inr (8, [.ref yt, .int v1, .int v2, .ref yr, .ref yk, .ref yz, .ref yp, .int 4, .int 8, .int v9, .int v10, .ref yl, .ref yw, .int v13, .int v14, .int v15, .int v16, .int v17, .int v18, .int v19, .int v20, .int v21, .ref yd, .int v23, .ref ys, .ref yn, .ref ym, .int v27, .ref yf, .ref yo, .ref yh, .ref yb, .int v32, .int v33, .int v34, .int v35, .int v36, .int v37, .int v38, .ref yx, .int v40, .int v41, .int v42]))] H := hP
  have hD : va_D A [(y, .inr (8, [.ref yt, .int v1, .int v2, .ref yr, .ref yk, .ref yz, .ref yp, .int 4, .int 8, .int v9, .int v10, .ref yl, .ref yw, .int v13, .int v14, .int v15, .int v16, .int v17, .int v18, .int v19, .int v20, .int v21, .ref yd, .int v23, .ref ys, .ref yn, .ref ym, .int v27, .ref yf, .ref yo, .ref yh, .ref yb, .int v32, .int v33, .int v34, .int v35, .int v36, .int v37, .int v38, .ref yx, .int v40, .int v41, .int v42]))] := hD
  refine lv_if_eq (tgt := 15) hx hb dX8_flagsOf_8 (by decide) (fun _ => ?_) (fun c => absurd (by decide) c)
  refine lv_iconst (v := 0) hx hb dX8_flagsOf_15 (by decide) ?_
  refine lv_iload_n hx hb dX8_flagsOf_16 rfl (lv_at hl 1 rfl) ?_
  refine lv_aload_n hx hb dX8_flagsOf_17 rfl (lv_at hl 0 rfl) ?_
  refine va_get (D := (dC, dI)) (ci := 8) (v := .int 4) (C := RX8) (T := TX8) (N := 43) hx hb hts hinX8 hown hK hP 0 rfl rfl 7 (by decide) k_1 (fun _ h9 => h9) rfl dX8_flagsOf_18 ?_
  refine lv_iconst (v := 1) hx hb dX8_flagsOf_21 (by decide) ?_
  refine lv_isub hx hb dX8_flagsOf_22 ?_
  refine tp (y := 3) (by decide) ?_
  refine lv_icmp_ge (tgt := 30) hx hb dX8_flagsOf_23 (by decide) (fun c => absurd c (by decide)) (fun _ => ?_)
  refine lv_iconst (v := 1) hx hb dX8_flagsOf_26 (by decide) ?_
  refine lv_goto (tgt := 31) hx hb dX8_flagsOf_27 (by decide) ?_
  refine lv_ior hx hb dX8_flagsOf_31 ?_
  refine tp (y := 1) (by decide) ?_
  have hP9 := hP.sub (ws' := [(y, .inr (8, [.ref yt, .int v1, .int v2, .ref yr, .ref yk, .ref yz, .ref yp, .int 4, .int 8, .int v9, .int v10, .ref yl, .ref yw, .int v13, .int v14, .int v15, .int v16, .int v17, .int v18, .int v19, .int v20, .int v21, .ref yd, .int v23, .ref ys, .ref yn, .ref ym, .int v27, .ref yf, .ref yo, .ref yh, .ref yb, .int v32, .int v33, .int v34, .int v35, .int v36, .int v37, .int v38, .ref yx, .int v40, .int v41, .int v42]))]) [0] rfl
  have hD9 := hD.sub (ws' := [(y, .inr (8, [.ref yt, .int v1, .int v2, .ref yr, .ref yk, .ref yz, .ref yp, .int 4, .int 8, .int v9, .int v10, .ref yl, .ref yw, .int v13, .int v14, .int v15, .int v16, .int v17, .int v18, .int v19, .int v20, .int v21, .ref yd, .int v23, .ref ys, .ref yn, .ref ym, .int v27, .ref yf, .ref yo, .ref yh, .ref yb, .int v32, .int v33, .int v34, .int v35, .int v36, .int v37, .int v38, .ref yx, .int v40, .int v41, .int v42]))]) [0] (by decide) rfl
  exact W.iret (v := 1) hx hb hr (fun t ht hW => ⟨⟨1, (), rfl, rfl, by rw [ht]; exact hP9, va_K.moved hW.alike hK, hD9⟩, hS.F ht⟩) hS.2.2 dX8_flagsOf_32

set_option maxHeartbeats 4000000 in
set_option maxRecDepth 100000 in
theorem kkX8_flagsOf_31_2 (l : Launch) (dC : Nat → ClassId) (dI : Nat → Nat → Nat) (cI cB cZ cR : ClassId) (sz : Nat) (y : Nat) (yt : Nat) (yr : Nat) (yk : Nat) (yz : Nat) (yp : Nat) (yl : Nat) (yw : Nat) (yd : Nat) (ys : Nat) (yn : Nat) (ym : Nat) (yf : Nat) (yo : Nat) (yh : Nat) (yb : Nat) (yx : Nat) (v1 : Int32) (v2 : Int32) (v9 : Int32) (v10 : Int32) (v13 : Int32) (v14 : Int32) (v15 : Int32) (v16 : Int32) (v17 : Int32) (v18 : Int32) (v19 : Int32) (v20 : Int32) (v21 : Int32) (v23 : Int32) (v27 : Int32) (v32 : Int32) (v33 : Int32) (v34 : Int32) (v35 : Int32) (v36 : Int32) (v37 : Int32) (v38 : Int32) (v40 : Int32) (v41 : Int32) (v42 : Int32) : Met l yX8_flagsOf (.code yX8_flagsOf cX8_flagsOf 2 (some .int) :: wsL_law) ({ frames := 1, cells := 0, slots := 0, locals := 21 }) (zPc dC dI (zT cI cB cZ cR) [.ref y, .int 2] sz [(y, .inr (8, [.ref yt, .int v1, .int v2, .ref yr, .ref yk, .ref yz, .ref yp, .int 4, .int 8, .int v9, .int v10, .ref yl, .ref yw, .int v13, .int v14, .int v15, .int v16, .int v17, .int v18, .int v19, .int v20, .int v21, .ref yd, .int v23, .ref ys, .ref yn, .ref ym, .int v27, .ref yf, .ref yo, .ref yh, .ref yb, .int v32, .int v33, .int v34, .int v35, .int v36, .int v37, .int v38, .ref yx, .int v40, .int v41, .int v42]))]) (va_Qi (fun (r : Int32) (_ : Unit) => r = 1) (fun _ : Unit => zB dC dI (zT cI cB cZ cR) (va_A [(y, .inr (8, [.ref yt, .int v1, .int v2, .ref yr, .ref yk, .ref yz, .ref yp, .int 4, .int 8, .int v9, .int v10, .ref yl, .ref yw, .int v13, .int v14, .int v15, .int v16, .int v17, .int v18, .int v19, .int v20, .int v21, .ref yd, .int v23, .ref ys, .ref yn, .ref ym, .int v27, .ref yf, .ref yo, .ref yh, .ref yb, .int v32, .int v33, .int v34, .int v35, .int v36, .int v37, .int v38, .ref yx, .int v40, .int v41, .int v42]))] sz) [(y, .inr (8, [.ref yt, .int v1, .int v2, .ref yr, .ref yk, .ref yz, .ref yp, .int 4, .int 8, .int v9, .int v10, .ref yl, .ref yw, .int v13, .int v14, .int v15, .int v16, .int v17, .int v18, .int v19, .int v20, .int v21, .ref yd, .int v23, .ref ys, .ref yn, .ref ym, .int v27, .ref yf, .ref yo, .ref yh, .ref yb, .int v32, .int v33, .int v34, .int v35, .int v36, .int v37, .int v38, .ref yx, .int v40, .int v41, .int v42]))]) (va_A [(y, .inr (8, [.ref yt, .int v1, .int v2, .ref yr, .ref yk, .ref yz, .ref yp, .int 4, .int 8, .int v9, .int v10, .ref yl, .ref yw, .int v13, .int v14, .int v15, .int v16, .int v17, .int v18, .int v19, .int v20, .int v21, .ref yd, .int v23, .ref ys, .ref yn, .ref ym, .int v27, .ref yf, .ref yo, .ref yh, .ref yb, .int v32, .int v33, .int v34, .int v35, .int v36, .int v37, .int v38, .ref yx, .int v40, .int v41, .int v42]))] sz)) 0 0 (va_A [(y, .inr (8, [.ref yt, .int v1, .int v2, .ref yr, .ref yk, .ref yz, .ref yp, .int 4, .int 8, .int v9, .int v10, .ref yl, .ref yw, .int v13, .int v14, .int v15, .int v16, .int v17, .int v18, .int v19, .int v20, .int v21, .ref yd, .int v23, .ref ys, .ref yn, .ref ym, .int v27, .ref yf, .ref yo, .ref yh, .ref yb, .int v32, .int v33, .int v34, .int v35, .int v36, .int v37, .int v38, .ref yx, .int v40, .int v41, .int v42]))] sz) := by
  refine Met.ofW (cc := cX8_flagsOf) (maxL := 2) (ret := (some .int)) (by decide) rfl ?_
  intro p e s m args below meth c s₁ B hml hv
  obtain ⟨rfl, hsz, hP, hK, hD0, hN⟩ := hv
  have hx := B.exec
  have hb := B.bytes
  have hr := B.returns
  have hts := atoms_spec (ws := (.code yX8_flagsOf cX8_flagsOf 2 (some .int) :: wsL_law)) B.pre
  have hown : s.vm.findClass RX8 = some m.cls := findClass_of_methodNamed B.named
  have hlocks := B.notSynchronized
  have hinX8 : ∀ w ∈ u_ws RX8 TX8 43, w ∈ (.code yX8_flagsOf cX8_flagsOf 2 (some .int) :: wsL_law) := fun w h => List.mem_cons_of_mem _ (inlX8 w h)
  have k_0 := hts (.fieldLink RX8 114 "RingMarksModel" "writes" "I") (List.mem_cons_of_mem _ wm_337)
  have k_1 := hts (.fieldLink RX8 111 "RingMarksModel" "parts" "I") (List.mem_cons_of_mem _ wm_336)
  subst hsz
  have hD := hD0.self (sz := s.heap.size)
  generalize hAe : va_A [(y, .inr (8, [.ref yt, .int v1, .int v2, .ref yr, .ref yk, .ref yz, .ref yp, .int 4, .int 8, .int v9, .int v10, .ref yl, .ref yw, .int v13, .int v14, .int v15, .int v16, .int v17, .int v18, .int v19, .int v20, .int v21, .ref yd, .int v23, .ref ys, .ref yn, .ref ym, .int v27, .ref yf, .ref yo, .ref yh, .ref yb, .int v32, .int v33, .int v34, .int v35, .int v36, .int v37, .int v38, .ref yx, .int v40, .int v41, .int v42]))] s.heap.size = A at hD ⊢
  have hA : ∀ q : Nat, s.heap.size ≤ q → A q := fun q h => by rw [← hAe]; exact Or.inr h
  have hP : va_P (dC, dI) vwCl [(y, .inr (8, [.ref yt, .int v1, .int v2, .ref yr, .ref yk, .ref yz, .ref yp, .int 4, .int 8, .int v9, .int v10, .ref yl, .ref yw, .int v13, .int v14, .int v15, .int v16, .int v17, .int v18, .int v19, .int v20, .int v21, .ref yd, .int v23, .ref ys, .ref yn, .ref ym, .int v27, .ref yf, .ref yo, .ref yh, .ref yb, .int v32, .int v33, .int v34, .int v35, .int v36, .int v37, .int v38, .ref yx, .int v40, .int v41, .int v42]))] s.heap := hP
  have hl := lv_entry ([.ref y, .int 2]) (n := 2) (Nat.le_of_ble_eq_true rfl)
  rw [lg_entry_eq]
  generalize (lg_sl ([.ref y, .int 2]) ++ List.replicate (2 - (lg_sl ([.ref y, .int 2])).length) Slot.unset).toArray = ls at hl ⊢
  have hl : lv_has ls 2 [(0, .ref y), (1, .int 2)] := hl
  obtain ⟨H, hH⟩ : ∃ H, H = s.heap := ⟨_, rfl⟩
  rw [← hH] at hP ⊢
  have hS : va_S A s.heap H [] := by rw [hH]; exact va_S.rf
  refine lv_aload_n hx hb dX8_flagsOf_0 rfl (lv_at hl 0 rfl) ?_
  refine va_get (D := (dC, dI)) (ci := 8) (v := .int 8) (C := RX8) (T := TX8) (N := 43) hx hb hts hinX8 hown hK hP 0 rfl rfl 8 (by decide) k_0 (fun _ h9 => h9) rfl dX8_flagsOf_1 ?_
  refine lv_iload_n hx hb dX8_flagsOf_4 rfl (lv_at hl 1 rfl) ?_
  refine zcSi (As := [.int 8, .int 2]) (rest := []) (wr := [(y, .inr (8, [.ref yt, .int v1, .int v2, .ref yr, .ref yk, .ref yz, .ref yp, .int 4, .int 8, .int v9, .int v10, .ref yl, .ref yw, .int v13, .int v14, .int v15, .int v16, .int v17, .int v18, .int v19, .int v20, .int v21, .ref yd, .int v23, .ref ys, .ref yn, .ref ym, .int v27, .ref yf, .ref yo, .ref yh, .ref yb, .int v32, .int v33, .int v34, .int v35, .int v36, .int v37, .int v38, .ref yx, .int v40, .int v41, .int v42]))]) ⟨hx, hb, hml, hown, hts⟩ (kkX8_bitOf_8_2 l dC dI cI cB cZ cR H.size  ) (va_cwS 2 hts (zgS wm_358 wm_359 wm_5 wm_360) rfl rfl rfl (by decide +kernel) ⟨Nat.le_of_ble_eq_true rfl, Nat.le_of_ble_eq_true rfl⟩) hN hK hP hD hS hA [] [0] rfl rfl ⟨rfl, rfl⟩ (by decide) rfl hl.1 rfl (Nat.le_of_ble_eq_true rfl) dX8_flagsOf_5 ⟨Nat.le_of_ble_eq_true rfl, Nat.le_of_ble_eq_true rfl⟩ (fun r u hu H locs hP hD hS => ?_)
  have hu : r = 0 := hu
  subst hu
  have hP : va_P (dC, dI) vwCl [(y, .inr (8, [.ref yt, .int v1, .int v2, .ref yr, .ref yk, .ref yz, .ref yp, .int 4, .int 8, .int v9, .int v10, .ref yl, .ref yw, .int v13, .int v14, .int v15, .int v16, .int v17, .int v18, .int v19, .int v20, .int v21, .ref yd, .int v23, .ref ys, .ref yn, .ref ym, .int v27, .ref yf, .ref yo, .ref yh, .ref yb, .int v32, .int v33, .int v34, .int v35, .int v36, .int v37, .int v38, .ref yx, .int v40, .int v41, .int v42]))] H := hP
  have hD : va_D A [(y, .inr (8, [.ref yt, .int v1, .int v2, .ref yr, .ref yk, .ref yz, .ref yp, .int 4, .int 8, .int v9, .int v10, .ref yl, .ref yw, .int v13, .int v14, .int v15, .int v16, .int v17, .int v18, .int v19, .int v20, .int v21, .ref yd, .int v23, .ref ys, .ref yn, .ref ym, .int v27, .ref yf, .ref yo, .ref yh, .ref yb, .int v32, .int v33, .int v34, .int v35, .int v36, .int v37, .int v38, .ref yx, .int v40, .int v41, .int v42]))] := hD
  refine lv_if_eq (tgt := 15) hx hb dX8_flagsOf_8 (by decide) (fun _ => ?_) (fun c => absurd (by decide) c)
  refine lv_iconst (v := 0) hx hb dX8_flagsOf_15 (by decide) ?_
  refine lv_iload_n hx hb dX8_flagsOf_16 rfl (lv_at hl 1 rfl) ?_
  refine lv_aload_n hx hb dX8_flagsOf_17 rfl (lv_at hl 0 rfl) ?_
  refine va_get (D := (dC, dI)) (ci := 8) (v := .int 4) (C := RX8) (T := TX8) (N := 43) hx hb hts hinX8 hown hK hP 0 rfl rfl 7 (by decide) k_1 (fun _ h9 => h9) rfl dX8_flagsOf_18 ?_
  refine lv_iconst (v := 1) hx hb dX8_flagsOf_21 (by decide) ?_
  refine lv_isub hx hb dX8_flagsOf_22 ?_
  refine tp (y := 3) (by decide) ?_
  refine lv_icmp_ge (tgt := 30) hx hb dX8_flagsOf_23 (by decide) (fun c => absurd c (by decide)) (fun _ => ?_)
  refine lv_iconst (v := 1) hx hb dX8_flagsOf_26 (by decide) ?_
  refine lv_goto (tgt := 31) hx hb dX8_flagsOf_27 (by decide) ?_
  refine lv_ior hx hb dX8_flagsOf_31 ?_
  refine tp (y := 1) (by decide) ?_
  have hP9 := hP.sub (ws' := [(y, .inr (8, [.ref yt, .int v1, .int v2, .ref yr, .ref yk, .ref yz, .ref yp, .int 4, .int 8, .int v9, .int v10, .ref yl, .ref yw, .int v13, .int v14, .int v15, .int v16, .int v17, .int v18, .int v19, .int v20, .int v21, .ref yd, .int v23, .ref ys, .ref yn, .ref ym, .int v27, .ref yf, .ref yo, .ref yh, .ref yb, .int v32, .int v33, .int v34, .int v35, .int v36, .int v37, .int v38, .ref yx, .int v40, .int v41, .int v42]))]) [0] rfl
  have hD9 := hD.sub (ws' := [(y, .inr (8, [.ref yt, .int v1, .int v2, .ref yr, .ref yk, .ref yz, .ref yp, .int 4, .int 8, .int v9, .int v10, .ref yl, .ref yw, .int v13, .int v14, .int v15, .int v16, .int v17, .int v18, .int v19, .int v20, .int v21, .ref yd, .int v23, .ref ys, .ref yn, .ref ym, .int v27, .ref yf, .ref yo, .ref yh, .ref yb, .int v32, .int v33, .int v34, .int v35, .int v36, .int v37, .int v38, .ref yx, .int v40, .int v41, .int v42]))]) [0] (by decide) rfl
  exact W.iret (v := 1) hx hb hr (fun t ht hW => ⟨⟨1, (), rfl, rfl, by rw [ht]; exact hP9, va_K.moved hW.alike hK, hD9⟩, hS.F ht⟩) hS.2.2 dX8_flagsOf_32

set_option maxHeartbeats 4000000 in
set_option maxRecDepth 100000 in
theorem kkX8_flagsOf_31_3 (l : Launch) (dC : Nat → ClassId) (dI : Nat → Nat → Nat) (cI cB cZ cR : ClassId) (sz : Nat) (y : Nat) (yt : Nat) (yr : Nat) (yk : Nat) (yz : Nat) (yp : Nat) (yl : Nat) (yw : Nat) (yd : Nat) (ys : Nat) (yn : Nat) (ym : Nat) (yf : Nat) (yo : Nat) (yh : Nat) (yb : Nat) (yx : Nat) (v1 : Int32) (v2 : Int32) (v9 : Int32) (v10 : Int32) (v13 : Int32) (v14 : Int32) (v15 : Int32) (v16 : Int32) (v17 : Int32) (v18 : Int32) (v19 : Int32) (v20 : Int32) (v21 : Int32) (v23 : Int32) (v27 : Int32) (v32 : Int32) (v33 : Int32) (v34 : Int32) (v35 : Int32) (v36 : Int32) (v37 : Int32) (v38 : Int32) (v40 : Int32) (v41 : Int32) (v42 : Int32) : Met l yX8_flagsOf (.code yX8_flagsOf cX8_flagsOf 2 (some .int) :: wsL_law) ({ frames := 1, cells := 0, slots := 0, locals := 21 }) (zPc dC dI (zT cI cB cZ cR) [.ref y, .int 3] sz [(y, .inr (8, [.ref yt, .int v1, .int v2, .ref yr, .ref yk, .ref yz, .ref yp, .int 4, .int 8, .int v9, .int v10, .ref yl, .ref yw, .int v13, .int v14, .int v15, .int v16, .int v17, .int v18, .int v19, .int v20, .int v21, .ref yd, .int v23, .ref ys, .ref yn, .ref ym, .int v27, .ref yf, .ref yo, .ref yh, .ref yb, .int v32, .int v33, .int v34, .int v35, .int v36, .int v37, .int v38, .ref yx, .int v40, .int v41, .int v42]))]) (va_Qi (fun (r : Int32) (_ : Unit) => r = 2) (fun _ : Unit => zB dC dI (zT cI cB cZ cR) (va_A [(y, .inr (8, [.ref yt, .int v1, .int v2, .ref yr, .ref yk, .ref yz, .ref yp, .int 4, .int 8, .int v9, .int v10, .ref yl, .ref yw, .int v13, .int v14, .int v15, .int v16, .int v17, .int v18, .int v19, .int v20, .int v21, .ref yd, .int v23, .ref ys, .ref yn, .ref ym, .int v27, .ref yf, .ref yo, .ref yh, .ref yb, .int v32, .int v33, .int v34, .int v35, .int v36, .int v37, .int v38, .ref yx, .int v40, .int v41, .int v42]))] sz) [(y, .inr (8, [.ref yt, .int v1, .int v2, .ref yr, .ref yk, .ref yz, .ref yp, .int 4, .int 8, .int v9, .int v10, .ref yl, .ref yw, .int v13, .int v14, .int v15, .int v16, .int v17, .int v18, .int v19, .int v20, .int v21, .ref yd, .int v23, .ref ys, .ref yn, .ref ym, .int v27, .ref yf, .ref yo, .ref yh, .ref yb, .int v32, .int v33, .int v34, .int v35, .int v36, .int v37, .int v38, .ref yx, .int v40, .int v41, .int v42]))]) (va_A [(y, .inr (8, [.ref yt, .int v1, .int v2, .ref yr, .ref yk, .ref yz, .ref yp, .int 4, .int 8, .int v9, .int v10, .ref yl, .ref yw, .int v13, .int v14, .int v15, .int v16, .int v17, .int v18, .int v19, .int v20, .int v21, .ref yd, .int v23, .ref ys, .ref yn, .ref ym, .int v27, .ref yf, .ref yo, .ref yh, .ref yb, .int v32, .int v33, .int v34, .int v35, .int v36, .int v37, .int v38, .ref yx, .int v40, .int v41, .int v42]))] sz)) 0 0 (va_A [(y, .inr (8, [.ref yt, .int v1, .int v2, .ref yr, .ref yk, .ref yz, .ref yp, .int 4, .int 8, .int v9, .int v10, .ref yl, .ref yw, .int v13, .int v14, .int v15, .int v16, .int v17, .int v18, .int v19, .int v20, .int v21, .ref yd, .int v23, .ref ys, .ref yn, .ref ym, .int v27, .ref yf, .ref yo, .ref yh, .ref yb, .int v32, .int v33, .int v34, .int v35, .int v36, .int v37, .int v38, .ref yx, .int v40, .int v41, .int v42]))] sz) := by
  refine Met.ofW (cc := cX8_flagsOf) (maxL := 2) (ret := (some .int)) (by decide) rfl ?_
  intro p e s m args below meth c s₁ B hml hv
  obtain ⟨rfl, hsz, hP, hK, hD0, hN⟩ := hv
  have hx := B.exec
  have hb := B.bytes
  have hr := B.returns
  have hts := atoms_spec (ws := (.code yX8_flagsOf cX8_flagsOf 2 (some .int) :: wsL_law)) B.pre
  have hown : s.vm.findClass RX8 = some m.cls := findClass_of_methodNamed B.named
  have hlocks := B.notSynchronized
  have hinX8 : ∀ w ∈ u_ws RX8 TX8 43, w ∈ (.code yX8_flagsOf cX8_flagsOf 2 (some .int) :: wsL_law) := fun w h => List.mem_cons_of_mem _ (inlX8 w h)
  have k_0 := hts (.fieldLink RX8 114 "RingMarksModel" "writes" "I") (List.mem_cons_of_mem _ wm_337)
  have k_1 := hts (.fieldLink RX8 111 "RingMarksModel" "parts" "I") (List.mem_cons_of_mem _ wm_336)
  subst hsz
  have hD := hD0.self (sz := s.heap.size)
  generalize hAe : va_A [(y, .inr (8, [.ref yt, .int v1, .int v2, .ref yr, .ref yk, .ref yz, .ref yp, .int 4, .int 8, .int v9, .int v10, .ref yl, .ref yw, .int v13, .int v14, .int v15, .int v16, .int v17, .int v18, .int v19, .int v20, .int v21, .ref yd, .int v23, .ref ys, .ref yn, .ref ym, .int v27, .ref yf, .ref yo, .ref yh, .ref yb, .int v32, .int v33, .int v34, .int v35, .int v36, .int v37, .int v38, .ref yx, .int v40, .int v41, .int v42]))] s.heap.size = A at hD ⊢
  have hA : ∀ q : Nat, s.heap.size ≤ q → A q := fun q h => by rw [← hAe]; exact Or.inr h
  have hP : va_P (dC, dI) vwCl [(y, .inr (8, [.ref yt, .int v1, .int v2, .ref yr, .ref yk, .ref yz, .ref yp, .int 4, .int 8, .int v9, .int v10, .ref yl, .ref yw, .int v13, .int v14, .int v15, .int v16, .int v17, .int v18, .int v19, .int v20, .int v21, .ref yd, .int v23, .ref ys, .ref yn, .ref ym, .int v27, .ref yf, .ref yo, .ref yh, .ref yb, .int v32, .int v33, .int v34, .int v35, .int v36, .int v37, .int v38, .ref yx, .int v40, .int v41, .int v42]))] s.heap := hP
  have hl := lv_entry ([.ref y, .int 3]) (n := 2) (Nat.le_of_ble_eq_true rfl)
  rw [lg_entry_eq]
  generalize (lg_sl ([.ref y, .int 3]) ++ List.replicate (2 - (lg_sl ([.ref y, .int 3])).length) Slot.unset).toArray = ls at hl ⊢
  have hl : lv_has ls 2 [(0, .ref y), (1, .int 3)] := hl
  obtain ⟨H, hH⟩ : ∃ H, H = s.heap := ⟨_, rfl⟩
  rw [← hH] at hP ⊢
  have hS : va_S A s.heap H [] := by rw [hH]; exact va_S.rf
  refine lv_aload_n hx hb dX8_flagsOf_0 rfl (lv_at hl 0 rfl) ?_
  refine va_get (D := (dC, dI)) (ci := 8) (v := .int 8) (C := RX8) (T := TX8) (N := 43) hx hb hts hinX8 hown hK hP 0 rfl rfl 8 (by decide) k_0 (fun _ h9 => h9) rfl dX8_flagsOf_1 ?_
  refine lv_iload_n hx hb dX8_flagsOf_4 rfl (lv_at hl 1 rfl) ?_
  refine zcSi (As := [.int 8, .int 3]) (rest := []) (wr := [(y, .inr (8, [.ref yt, .int v1, .int v2, .ref yr, .ref yk, .ref yz, .ref yp, .int 4, .int 8, .int v9, .int v10, .ref yl, .ref yw, .int v13, .int v14, .int v15, .int v16, .int v17, .int v18, .int v19, .int v20, .int v21, .ref yd, .int v23, .ref ys, .ref yn, .ref ym, .int v27, .ref yf, .ref yo, .ref yh, .ref yb, .int v32, .int v33, .int v34, .int v35, .int v36, .int v37, .int v38, .ref yx, .int v40, .int v41, .int v42]))]) ⟨hx, hb, hml, hown, hts⟩ (kkX8_bitOf_8_3 l dC dI cI cB cZ cR H.size  ) (va_cwS 2 hts (zgS wm_358 wm_359 wm_5 wm_360) rfl rfl rfl (by decide +kernel) ⟨Nat.le_of_ble_eq_true rfl, Nat.le_of_ble_eq_true rfl⟩) hN hK hP hD hS hA [] [0] rfl rfl ⟨rfl, rfl⟩ (by decide) rfl hl.1 rfl (Nat.le_of_ble_eq_true rfl) dX8_flagsOf_5 ⟨Nat.le_of_ble_eq_true rfl, Nat.le_of_ble_eq_true rfl⟩ (fun r u hu H locs hP hD hS => ?_)
  have hu : r = 1 := hu
  subst hu
  have hP : va_P (dC, dI) vwCl [(y, .inr (8, [.ref yt, .int v1, .int v2, .ref yr, .ref yk, .ref yz, .ref yp, .int 4, .int 8, .int v9, .int v10, .ref yl, .ref yw, .int v13, .int v14, .int v15, .int v16, .int v17, .int v18, .int v19, .int v20, .int v21, .ref yd, .int v23, .ref ys, .ref yn, .ref ym, .int v27, .ref yf, .ref yo, .ref yh, .ref yb, .int v32, .int v33, .int v34, .int v35, .int v36, .int v37, .int v38, .ref yx, .int v40, .int v41, .int v42]))] H := hP
  have hD : va_D A [(y, .inr (8, [.ref yt, .int v1, .int v2, .ref yr, .ref yk, .ref yz, .ref yp, .int 4, .int 8, .int v9, .int v10, .ref yl, .ref yw, .int v13, .int v14, .int v15, .int v16, .int v17, .int v18, .int v19, .int v20, .int v21, .ref yd, .int v23, .ref ys, .ref yn, .ref ym, .int v27, .ref yf, .ref yo, .ref yh, .ref yb, .int v32, .int v33, .int v34, .int v35, .int v36, .int v37, .int v38, .ref yx, .int v40, .int v41, .int v42]))] := hD
  refine lv_if_eq (tgt := 15) hx hb dX8_flagsOf_8 (by decide) (fun c => absurd c (by decide)) (fun _ => ?_)
  refine lv_iconst (v := 2) hx hb dX8_flagsOf_11 (by decide) ?_
  refine lv_goto (tgt := 16) hx hb dX8_flagsOf_12 (by decide) ?_
  refine lv_iload_n hx hb dX8_flagsOf_16 rfl (lv_at hl 1 rfl) ?_
  refine lv_aload_n hx hb dX8_flagsOf_17 rfl (lv_at hl 0 rfl) ?_
  refine va_get (D := (dC, dI)) (ci := 8) (v := .int 4) (C := RX8) (T := TX8) (N := 43) hx hb hts hinX8 hown hK hP 0 rfl rfl 7 (by decide) k_1 (fun _ h9 => h9) rfl dX8_flagsOf_18 ?_
  refine lv_iconst (v := 1) hx hb dX8_flagsOf_21 (by decide) ?_
  refine lv_isub hx hb dX8_flagsOf_22 ?_
  refine tp (y := 3) (by decide) ?_
  refine lv_icmp_ge (tgt := 30) hx hb dX8_flagsOf_23 (by decide) (fun _ => ?_) (fun c => absurd (by decide) c)
  refine lv_iconst (v := 0) hx hb dX8_flagsOf_30 (by decide) ?_
  refine lv_ior hx hb dX8_flagsOf_31 ?_
  refine tp (y := 2) (by decide) ?_
  have hP9 := hP.sub (ws' := [(y, .inr (8, [.ref yt, .int v1, .int v2, .ref yr, .ref yk, .ref yz, .ref yp, .int 4, .int 8, .int v9, .int v10, .ref yl, .ref yw, .int v13, .int v14, .int v15, .int v16, .int v17, .int v18, .int v19, .int v20, .int v21, .ref yd, .int v23, .ref ys, .ref yn, .ref ym, .int v27, .ref yf, .ref yo, .ref yh, .ref yb, .int v32, .int v33, .int v34, .int v35, .int v36, .int v37, .int v38, .ref yx, .int v40, .int v41, .int v42]))]) [0] rfl
  have hD9 := hD.sub (ws' := [(y, .inr (8, [.ref yt, .int v1, .int v2, .ref yr, .ref yk, .ref yz, .ref yp, .int 4, .int 8, .int v9, .int v10, .ref yl, .ref yw, .int v13, .int v14, .int v15, .int v16, .int v17, .int v18, .int v19, .int v20, .int v21, .ref yd, .int v23, .ref ys, .ref yn, .ref ym, .int v27, .ref yf, .ref yo, .ref yh, .ref yb, .int v32, .int v33, .int v34, .int v35, .int v36, .int v37, .int v38, .ref yx, .int v40, .int v41, .int v42]))]) [0] (by decide) rfl
  exact W.iret (v := 2) hx hb hr (fun t ht hW => ⟨⟨2, (), rfl, rfl, by rw [ht]; exact hP9, va_K.moved hW.alike hK, hD9⟩, hS.F ht⟩) hS.2.2 dX8_flagsOf_32

theorem nI_ne500 {a : Nat} (h : a < 500) : ¬ nI a = 500 := by
  rw [show (500 : Int32) = nI 500 by decide, nI_eq (by omega) (by decide)]
  omega
