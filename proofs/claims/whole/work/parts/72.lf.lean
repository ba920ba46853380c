set_option maxRecDepth 100000 in
theorem sa_of {s : State} {a : Array Value} (hgv : (Jvm.Cond.and given_1 narrow_1).before a s = true) (hts : ∀ w ∈ lw_tbl, w.before a s = true) : ∃ ad : Nat → Nat, ∀ (k : Nat) (q : String × String × List Int32), st_tab[k]? = some q → va_Z q.1 q.2.1 "[I" (.ref (ad k)) (fun x => ¬ x < s.heap.size) s s.heap ∧ va_T .int (ad k) q.2.2.length (fun j => .int (q.2.2.getD j 0)) (fun x => ¬ x < s.heap.size) s s.heap ∧ ad k < s.heap.size := by
  obtain ⟨t0, z0, x0, l0⟩ := s_of (tb := tb_Ri_LEFT_ADDENDS) (by decide) (hts _ (List.mem_append_right _ (List.mem_of_getElem? (i := 795) rfl))) (hts _ (List.mem_append_right _ (List.mem_of_getElem? (i := 5) rfl))) (fa_0 hgv) (fn_0 hgv) (fl_0 hgv)
  obtain ⟨t1, z1, x1, l1⟩ := s_of (tb := tb_Ri_LEFT_TURNS) (by decide) (hts _ (List.mem_append_right _ (List.mem_of_getElem? (i := 797) rfl))) (hts _ (List.mem_append_right _ (List.mem_of_getElem? (i := 5) rfl))) (fa_1 hgv) (fn_1 hgv) (fl_1 hgv)
  obtain ⟨t2, z2, x2, l2⟩ := s_of (tb := tb_Ri_LEFT_WORDS) (by decide) (hts _ (List.mem_append_right _ (List.mem_of_getElem? (i := 793) rfl))) (hts _ (List.mem_append_right _ (List.mem_of_getElem? (i := 5) rfl))) (fa_2 hgv) (fn_2 hgv) (fl_2 hgv)
  obtain ⟨t3, z3, x3, l3⟩ := s_of (tb := tb_Ri_RIGHT_ADDENDS) (by decide) (hts _ (List.mem_append_right _ (List.mem_of_getElem? (i := 810) rfl))) (hts _ (List.mem_append_right _ (List.mem_of_getElem? (i := 5) rfl))) (fa_3 hgv) (fn_3 hgv) (fl_3 hgv)
  obtain ⟨t4, z4, x4, l4⟩ := s_of (tb := tb_Ri_RIGHT_TURNS) (by decide) (hts _ (List.mem_append_right _ (List.mem_of_getElem? (i := 812) rfl))) (hts _ (List.mem_append_right _ (List.mem_of_getElem? (i := 5) rfl))) (fa_4 hgv) (fn_4 hgv) (fl_4 hgv)
  obtain ⟨t5, z5, x5, l5⟩ := s_of (tb := tb_Ri_RIGHT_WORDS) (by decide) (hts _ (List.mem_append_right _ (List.mem_of_getElem? (i := 808) rfl))) (hts _ (List.mem_append_right _ (List.mem_of_getElem? (i := 5) rfl))) (fa_5 hgv) (fn_5 hgv) (fl_5 hgv)
  obtain ⟨t6, z6, x6, l6⟩ := s_of (tb := tb_Ri_START) (by decide) (hts _ (List.mem_append_right _ (List.mem_of_getElem? (i := 84) rfl))) (hts _ (List.mem_append_right _ (List.mem_of_getElem? (i := 5) rfl))) (fa_6 hgv) (fn_6 hgv) (fl_6 hgv)
  obtain ⟨t7, z7, x7, l7⟩ := s_of (tb := tb_Sh_ADDENDS) (by decide) (hts _ (List.mem_append_right _ (List.mem_of_getElem? (i := 825) rfl))) (hts _ (List.mem_append_right _ (List.mem_of_getElem? (i := 3) rfl))) (fa_7 hgv) (fn_7 hgv) (fl_7 hgv)
  obtain ⟨t8, z8, x8, l8⟩ := s_of (tb := tb_Sh_START) (by decide) (hts _ (List.mem_append_right _ (List.mem_of_getElem? (i := 44) rfl))) (hts _ (List.mem_append_right _ (List.mem_of_getElem? (i := 3) rfl))) (fa_8 hgv) (fn_8 hgv) (fl_8 hgv)
  obtain ⟨t9, z9, x9, l9⟩ := s_of (tb := tb_Mo_K) (by decide) (hts _ (List.mem_append_right _ (List.mem_of_getElem? (i := 1121) rfl))) (hts _ (List.mem_append_right _ (List.mem_of_getElem? (i := 12) rfl))) (fa_9 hgv) (fn_9 hgv) (fl_9 hgv)
  obtain ⟨t10, z10, x10, l10⟩ := s_of (tb := tb_Mo_KL) (by decide) (hts _ (List.mem_append_right _ (List.mem_of_getElem? (i := 1099) rfl))) (hts _ (List.mem_append_right _ (List.mem_of_getElem? (i := 12) rfl))) (fa_10 hgv) (fn_10 hgv) (fl_10 hgv)
  obtain ⟨t11, z11, x11, l11⟩ := s_of (tb := tb_Mo_KR) (by decide) (hts _ (List.mem_append_right _ (List.mem_of_getElem? (i := 1105) rfl))) (hts _ (List.mem_append_right _ (List.mem_of_getElem? (i := 12) rfl))) (fa_11 hgv) (fn_11 hgv) (fl_11 hgv)
  obtain ⟨t12, z12, x12, l12⟩ := s_of (tb := tb_Mo_RL) (by decide) (hts _ (List.mem_append_right _ (List.mem_of_getElem? (i := 1094) rfl))) (hts _ (List.mem_append_right _ (List.mem_of_getElem? (i := 12) rfl))) (fa_12 hgv) (fn_12 hgv) (fl_12 hgv)
  obtain ⟨t13, z13, x13, l13⟩ := s_of (tb := tb_Mo_RR) (by decide) (hts _ (List.mem_append_right _ (List.mem_of_getElem? (i := 1103) rfl))) (hts _ (List.mem_append_right _ (List.mem_of_getElem? (i := 12) rfl))) (fa_13 hgv) (fn_13 hgv) (fl_13 hgv)
  obtain ⟨t14, z14, x14, l14⟩ := s_of (tb := tb_Mo_SL) (by decide) (hts _ (List.mem_append_right _ (List.mem_of_getElem? (i := 1101) rfl))) (hts _ (List.mem_append_right _ (List.mem_of_getElem? (i := 12) rfl))) (fa_14 hgv) (fn_14 hgv) (fl_14 hgv)
  obtain ⟨t15, z15, x15, l15⟩ := s_of (tb := tb_Mo_SR) (by decide) (hts _ (List.mem_append_right _ (List.mem_of_getElem? (i := 1107) rfl))) (hts _ (List.mem_append_right _ (List.mem_of_getElem? (i := 12) rfl))) (fa_15 hgv) (fn_15 hgv) (fl_15 hgv)
  obtain ⟨t16, z16, x16, l16⟩ := s_of (tb := tb_Mo_START) (by decide) (hts _ (List.mem_append_right _ (List.mem_of_getElem? (i := 1113) rfl))) (hts _ (List.mem_append_right _ (List.mem_of_getElem? (i := 12) rfl))) (fa_16 hgv) (fn_16 hgv) (fl_16 hgv)
  refine ⟨fun k => [t0, t1, t2, t3, t4, t5, t6, t7, t8, t9, t10, t11, t12, t13, t14, t15, t16].getD k 0, fun k q hk => ?_⟩
  match k, hk with
  | 0, hk => cases hk; exact ⟨z0, x0, l0⟩
  | 1, hk => cases hk; exact ⟨z1, x1, l1⟩
  | 2, hk => cases hk; exact ⟨z2, x2, l2⟩
  | 3, hk => cases hk; exact ⟨z3, x3, l3⟩
  | 4, hk => cases hk; exact ⟨z4, x4, l4⟩
  | 5, hk => cases hk; exact ⟨z5, x5, l5⟩
  | 6, hk => cases hk; exact ⟨z6, x6, l6⟩
  | 7, hk => cases hk; exact ⟨z7, x7, l7⟩
  | 8, hk => cases hk; exact ⟨z8, x8, l8⟩
  | 9, hk => cases hk; exact ⟨z9, x9, l9⟩
  | 10, hk => cases hk; exact ⟨z10, x10, l10⟩
  | 11, hk => cases hk; exact ⟨z11, x11, l11⟩
  | 12, hk => cases hk; exact ⟨z12, x12, l12⟩
  | 13, hk => cases hk; exact ⟨z13, x13, l13⟩
  | 14, hk => cases hk; exact ⟨z14, x14, l14⟩
  | 15, hk => cases hk; exact ⟨z15, x15, l15⟩
  | 16, hk => cases hk; exact ⟨z16, x16, l16⟩
  | k + 17, hk => simp [st_tab] at hk