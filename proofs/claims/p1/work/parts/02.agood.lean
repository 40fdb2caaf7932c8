def zgood (w : Cond) : Prop := (w.onTables && w.keeps) = true ∨ ∃ ty, w = .arrayClass ty
theorem zg_app {a b : List Cond} (ha : ∀ w ∈ a, zgood w) (hb : ∀ w ∈ b, zgood w) : ∀ w ∈ a ++ b, zgood w := fun w h => (List.mem_append.mp h).elim (ha w) (hb w)
theorem zg_all {a : List Cond} (h : a.all goodWord = true) : ∀ w ∈ a, zgood w := fun w hw => good_of_word (List.all_eq_true.mp h w hw)
theorem wsL_law_g1 : ∀ w ∈ wsL_law_r1, zgood w := zg_all (by decide +kernel)
theorem wsL_law_g2 : ∀ w ∈ wsL_law_r2, zgood w := zg_all (by decide +kernel)
theorem wsL_law_g3 : ∀ w ∈ wsL_law_r3, zgood w := zg_all (by decide +kernel)
theorem wsL_law_g4 : ∀ w ∈ wsL_law_r4, zgood w := zg_all (by decide +kernel)
theorem wsL_law_g5 : ∀ w ∈ wsL_law_r5, zgood w := zg_all (by decide +kernel)
theorem wsL_law_g6 : ∀ w ∈ wsL_law_r6, zgood w := zg_all (by decide +kernel)
theorem wsL_law_g7 : ∀ w ∈ wsL_law_r7, zgood w := zg_all (by decide +kernel)
theorem wsL_law_g8 : ∀ w ∈ wsL_law_r8, zgood w := zg_all (by decide +kernel)
theorem wsL_law_g9 : ∀ w ∈ wsL_law_r9, zgood w := zg_all (by decide +kernel)
theorem wsL_law_g10 : ∀ w ∈ wsL_law_r10, zgood w := zg_all (by decide +kernel)
theorem wsL_law_g11 : ∀ w ∈ wsL_law_r11, zgood w := zg_all (by decide +kernel)
theorem wsL_law_g12 : ∀ w ∈ wsL_law_r12, zgood w := zg_all (by decide +kernel)
theorem wsL_law_g13 : ∀ w ∈ wsL_law_r13, zgood w := zg_all (by decide +kernel)
theorem wsL_law_g14 : ∀ w ∈ wsL_law_r14, zgood w := zg_all (by decide +kernel)
theorem wsL_law_g15 : ∀ w ∈ wsL_law_r15, zgood w := zg_all (by decide +kernel)
theorem wsL_law_g16 : ∀ w ∈ wsL_law_r16, zgood w := zg_all (by decide +kernel)
theorem wsL_law_g17 : ∀ w ∈ wsL_law_r17, zgood w := zg_all (by decide +kernel)
theorem wsL_law_g18 : ∀ w ∈ wsL_law_r18, zgood w := zg_all (by decide +kernel)
theorem wsL_law_g19 : ∀ w ∈ wsL_law_r19, zgood w := zg_all (by decide +kernel)
theorem wsL_law_g20 : ∀ w ∈ wsL_law_r20, zgood w := zg_all (by decide +kernel)
theorem wsL_law_g21 : ∀ w ∈ wsL_law_r21, zgood w := zg_all (by decide +kernel)
theorem wsL_law_g22 : ∀ w ∈ wsL_law_r22, zgood w := zg_all (by decide +kernel)
theorem wsL_law_g23 : ∀ w ∈ wsL_law_r23, zgood w := zg_all (by decide +kernel)
theorem wsL_law_g24 : ∀ w ∈ wsL_law_r24, zgood w := zg_all (by decide +kernel)
theorem wsL_law_g25 : ∀ w ∈ wsL_law_r25, zgood w := zg_all (by decide +kernel)
theorem wsL_law_g26 : ∀ w ∈ wsL_law_r26, zgood w := zg_all (by decide +kernel)
theorem wsL_law_g27 : ∀ w ∈ wsL_law_r27, zgood w := zg_all (by decide +kernel)
theorem wsL_law_g28 : ∀ w ∈ wsL_law_r28, zgood w := zg_all (by decide +kernel)
theorem wsL_law_g29 : ∀ w ∈ wsL_law_r29, zgood w := zg_all (by decide +kernel)
theorem wsL_law_g30 : ∀ w ∈ wsL_law_r30, zgood w := zg_all (by decide +kernel)
theorem wsL_law_g31 : ∀ w ∈ wsL_law_r31, zgood w := zg_all (by decide +kernel)
theorem wsL_law_g32 : ∀ w ∈ wsL_law_r32, zgood w := zg_all (by decide +kernel)
theorem wsL_law_g33 : ∀ w ∈ wsL_law_r33, zgood w := zg_all (by decide +kernel)
theorem wsL_law_g34 : ∀ w ∈ wsL_law_r34, zgood w := zg_all (by decide +kernel)
theorem wsL_law_g35 : ∀ w ∈ wsL_law_r35, zgood w := zg_all (by decide +kernel)
theorem wsL_law_g36 : ∀ w ∈ wsL_law_r36, zgood w := zg_all (by decide +kernel)
theorem wsL_law_g37 : ∀ w ∈ wsL_law_r37, zgood w := zg_all (by decide +kernel)
theorem wsL_law_g38 : ∀ w ∈ wsL_law_r38, zgood w := zg_all (by decide +kernel)
theorem wsL_law_g39 : ∀ w ∈ wsL_law_r39, zgood w := zg_all (by decide +kernel)
theorem wsL_law_g40 : ∀ w ∈ wsL_law_r40, zgood w := zg_all (by decide +kernel)
theorem wsL_law_g41 : ∀ w ∈ wsL_law_r41, zgood w := zg_all (by decide +kernel)
theorem wsL_law_g42 : ∀ w ∈ wsL_law_r42, zgood w := zg_all (by decide +kernel)
theorem wsL_law_g43 : ∀ w ∈ wsL_law_r43, zgood w := zg_all (by decide +kernel)
theorem wsL_law_g44 : ∀ w ∈ wsL_law_r44, zgood w := zg_all (by decide +kernel)
theorem wsL_law_g45 : ∀ w ∈ wsL_law_r45, zgood w := zg_all (by decide +kernel)
theorem wsL_law_g46 : ∀ w ∈ wsL_law_r46, zgood w := zg_all (by decide +kernel)
theorem wsL_law_g47 : ∀ w ∈ wsL_law_r47, zgood w := zg_all (by decide +kernel)
theorem wsL_law_g48 : ∀ w ∈ wsL_law_r48, zgood w := zg_all (by decide +kernel)
theorem wsL_law_g49 : ∀ w ∈ wsL_law_r49, zgood w := zg_all (by decide +kernel)
theorem wsL_law_g50 : ∀ w ∈ wsL_law_r50, zgood w := zg_all (by decide +kernel)
theorem wsL_law_g51 : ∀ w ∈ wsL_law_r51, zgood w := zg_all (by decide +kernel)
theorem wsL_law_g52 : ∀ w ∈ wsL_law_r52, zgood w := zg_all (by decide +kernel)
theorem wsL_law_g53 : ∀ w ∈ wsL_law_r53, zgood w := zg_all (by decide +kernel)
theorem wsL_law_gx0 : ∀ w ∈ wsX00, zgood w := zg_all (by decide +kernel)
theorem wsL_law_gx1 : ∀ w ∈ wsX10, zgood w := zg_all (by decide +kernel)
theorem wsL_law_gx2 : ∀ w ∈ wsX20, zgood w := zg_all (by decide +kernel)
theorem wsL_law_gx3 : ∀ w ∈ wsX30, zgood w := zg_all (by decide +kernel)
theorem wsL_law_gx4 : ∀ w ∈ wsX40, zgood w := zg_all (by decide +kernel)
theorem wsL_law_gx5 : ∀ w ∈ wsX50, zgood w := zg_all (by decide +kernel)
theorem wsL_law_gx6 : ∀ w ∈ wsX60, zgood w := zg_all (by decide +kernel)
theorem wsL_law_gx7 : ∀ w ∈ wsX70, zgood w := zg_all (by decide +kernel)
theorem wsL_law_gx8 : ∀ w ∈ wsX80, zgood w := zg_all (by decide +kernel)
theorem wsL_law_good : ∀ w ∈ wsL_law, zgood w := zg_app (zg_app (zg_app (zg_app (zg_app (zg_app (zg_app (zg_app (zg_app (zg_app (zg_app wsL_law_g1 (zg_app wsL_law_g2 (zg_app wsL_law_g3 (zg_app wsL_law_g4 (zg_app wsL_law_g5 (zg_app wsL_law_g6 (zg_app wsL_law_g7 (zg_app wsL_law_g8 (zg_app wsL_law_g9 (zg_app wsL_law_g10 (zg_app wsL_law_g11 (zg_app wsL_law_g12 (zg_app wsL_law_g13 (zg_app wsL_law_g14 (zg_app wsL_law_g15 (zg_app wsL_law_g16 (zg_app wsL_law_g17 (zg_app wsL_law_g18 (zg_app wsL_law_g19 (zg_app wsL_law_g20 (zg_app wsL_law_g21 (zg_app wsL_law_g22 (zg_app wsL_law_g23 (zg_app wsL_law_g24 (zg_app wsL_law_g25 (zg_app wsL_law_g26 (zg_app wsL_law_g27 (zg_app wsL_law_g28 (zg_app wsL_law_g29 (zg_app wsL_law_g30 (zg_app wsL_law_g31 (zg_app wsL_law_g32 (zg_app wsL_law_g33 (zg_app wsL_law_g34 (zg_app wsL_law_g35 (zg_app wsL_law_g36 (zg_app wsL_law_g37 (zg_app wsL_law_g38 (zg_app wsL_law_g39 (zg_app wsL_law_g40 (zg_app wsL_law_g41 (zg_app wsL_law_g42 (zg_app wsL_law_g43 (zg_app wsL_law_g44 (zg_app wsL_law_g45 (zg_app wsL_law_g46 (zg_app wsL_law_g47 (zg_app wsL_law_g48 (zg_app wsL_law_g49 (zg_app wsL_law_g50 (zg_app wsL_law_g51 (zg_app wsL_law_g52 wsL_law_g53)))))))))))))))))))))))))))))))))))))))))))))))))))) wsL_law_gx7) wsL_law_gx8) wsL_law_gx5) wsL_law_gx0) wsL_law_gx2) wsL_law_gx6) wsL_law_gx1) wsL_law_gx4) wsL_law_gx3) (fun _ h => absurd h List.not_mem_nil)
theorem zgV {q : Cond} {own C : String} {idx n : Nat} {y : MethodName} {cb : ByteArray} {r : Option FieldType} (h1 : Cond.methodLink own idx y ∈ wsL_law) (h2 : Cond.instanceMethod y ∈ wsL_law) (h3 : Cond.selects C y y ∈ wsL_law) (h4 : Cond.initialized C ∈ wsL_law) (h5 : Cond.code y cb n r ∈ wsL_law) : GoodIn (q :: wsL_law) (wsV own idx C y (Cond.code y cb n r :: wsL_law)) := by
  intro w hw
  have hm : w ∈ wsL_law := by
    unfold wsV at hw
    rcases List.mem_append.mp hw with hw | hw
    · simp only [List.mem_cons, List.not_mem_nil, or_false] at hw
      rcases hw with rfl | rfl | rfl | rfl <;> assumption
    · rcases List.mem_cons.mp hw with rfl | hw
      · exact h5
      · exact hw
  exact ⟨List.mem_cons_of_mem _ hm, wsL_law_good w hm⟩
theorem zgS {q : Cond} {own : String} {idx n : Nat} {y : MethodName} {cb : ByteArray} {r : Option FieldType} (h1 : Cond.methodLink own idx y ∈ wsL_law) (h2 : Cond.static y ∈ wsL_law) (h4 : Cond.initialized y.cls ∈ wsL_law) (h5 : Cond.code y cb n r ∈ wsL_law) : GoodIn (q :: wsL_law) (va_wsS own idx y (Cond.code y cb n r :: wsL_law)) := by
  intro w hw
  have hm : w ∈ wsL_law := by
    unfold va_wsS at hw
    rcases List.mem_append.mp hw with hw | hw
    · simp only [List.mem_cons, List.not_mem_nil, or_false] at hw
      rcases hw with rfl | rfl | rfl <;> assumption
    · rcases List.mem_cons.mp hw with rfl | hw
      · exact h5
      · exact hw
  exact ⟨List.mem_cons_of_mem _ hm, wsL_law_good w hm⟩
theorem zgI {q : Cond} {n : Nat} {y : MethodName} {cb : ByteArray} {r : Option FieldType} (h5 : Cond.code y cb n r ∈ wsL_law) : GoodIn (q :: wsL_law) (Cond.code y cb n r :: wsL_law) := by
  intro w hw
  have hm : w ∈ wsL_law := by
    rcases List.mem_cons.mp hw with rfl | hw
    · exact h5
    · exact hw
  exact ⟨List.mem_cons_of_mem _ hm, wsL_law_good w hm⟩
