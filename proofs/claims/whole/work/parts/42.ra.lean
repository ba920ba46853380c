set_option maxHeartbeats 4000000 in
set_option maxRecDepth 100000 in
theorem c_Mo_thrown (l : Launch) (E : mp_E) (M : mp_M) (h ro rows kp ks st8 w64 ha pa tg sz dp as_ ops tk : Nat) (thr : Int32) (h0 : M h = some (mp_o 7 [.ref ro, .int (nI rows), .int thr, .ref kp, .ref ks, .ref st8, .ref w64, .ref ha, .ref pa, .ref tg, .ref sz, .int (nI dp), .int (nI as_), .int (nI ops), .ref tk])) : mp_Cr l m_Mo_thrown E M 1 0 0 [.ref h] (fun v N => v = some (.int thr) ∧ N = M) := by
  refine mp_Cr.of (by decide) (Nat.le_of_ble_eq_true rfl) fun Γ κ hl hκ => ?_
  subst hl
  obtain ⟨hκd, hκc, hκs, -⟩ := id hκ
  show mp_J Γ m_Mo_thrown E κ M [(0, .ref h)] 0 [] 0 0
  refine j_aload_n d_Mo_thrown_0 rfl 0 rfl ?_
  refine j_get F_Mo h0 2 (by decide) w_945 (Or.inl rfl) rfl d_Mo_thrown_1 ?_
  exact j_iret hκ rfl (by omega) (by omega) d_Mo_thrown_4 ⟨rfl, rfl⟩

set_option maxHeartbeats 4000000 in
set_option maxRecDepth 100000 in
theorem c_Mo_has (l : Launch) (E : mp_E) (M : mp_M) (h ro rows kp ks st8 w64 ha pa tg sz dp as_ ops tk : Nat) (thr : Int32) (j : Nat) (h0 : M h = some (mp_o 7 [.ref ro, .int (nI rows), .int thr, .ref kp, .ref ks, .ref st8, .ref w64, .ref ha, .ref pa, .ref tg, .ref sz, .int (nI dp), .int (nI as_), .int (nI ops), .ref tk])) (hj : j ≤ 1000) (hd : dp ≤ 1000) : mp_Cr l m_Mo_has E M 1 0 0 [.ref h, .int (nI j)] (fun v N => v = some (.int (tf (decide (j ≤ dp)))) ∧ N = M) := by
  refine mp_Cr.of (by decide) (Nat.le_of_ble_eq_true rfl) fun Γ κ hl hκ => ?_
  subst hl
  obtain ⟨hκd, hκc, hκs, -⟩ := id hκ
  show mp_J Γ m_Mo_has E κ M [(0, .ref h), (1, .int (nI j))] 0 [] 0 0
  refine j_aload_n d_Mo_has_0 rfl 0 rfl ?_
  refine j_get F_Mo h0 11 (by decide) w_954 (Or.inl rfl) rfl d_Mo_has_1 ?_
  refine j_iload_n d_Mo_has_4 rfl 1 rfl ?_
  refine j_ncmp_lt 12 dp j rfl rfl (by omega) (by omega) d_Mo_has_5 (by decide) (fun b5 => ?_) (fun b5 => ?_)
  · skip
    refine j_iconst (v := nI 0) d_Mo_has_12 (by decide) ?_
    exact j_zret hκ rfl (by first | exact Or.inl rfl | exact Or.inr rfl) (by omega) (by omega) d_Mo_has_13 (by first | exact ⟨rv_1 (by omega), rfl⟩ | exact ⟨rv_0 (by omega), rfl⟩)
  · skip
    refine j_iconst (v := nI 1) d_Mo_has_8 (by decide) ?_
    refine j_goto (tgt := 13) d_Mo_has_9 (by decide) ?_
    exact j_zret hκ rfl (by first | exact Or.inl rfl | exact Or.inr rfl) (by omega) (by omega) d_Mo_has_13 (by first | exact ⟨rv_1 (by omega), rfl⟩ | exact ⟨rv_0 (by omega), rfl⟩)

set_option maxHeartbeats 4000000 in
set_option maxRecDepth 100000 in
theorem c_Mo_other (l : Launch) (E : mp_E) (M : mp_M) (j : Nat) (hj : j ≤ 407) : mp_Cr l m_Mo_other E M 1 0 0 [.int (nI j)] (fun v N => v = some (.int (nI (407 - j))) ∧ N = M) := by
  refine mp_Cr.of (by decide) (Nat.le_of_ble_eq_true rfl) fun Γ κ hl hκ => ?_
  subst hl
  obtain ⟨hκd, hκc, hκs, -⟩ := id hκ
  show mp_J Γ m_Mo_other E κ M [(0, .int (nI j))] 0 [] 0 0
  refine j_sipush (v := nI 407) d_Mo_other_0 (by decide) ?_
  refine j_iload_n d_Mo_other_3 rfl 0 rfl ?_
  refine j_isub d_Mo_other_4 ?_
  refine j_eqi (y := nI (407 - j)) (pk_sub (by omega)) ?_
  exact j_iret hκ rfl (by omega) (by omega) d_Mo_other_5 ⟨rfl, rfl⟩

set_option maxHeartbeats 4000000 in
set_option maxRecDepth 100000 in
theorem c_Mo_isLength (l : Launch) (E : mp_E) (M : mp_M) (h ro rows kp ks st8 w64 ha pa tg sz dp as_ ops tk : Nat) (thr : Int32) (i : Int32) (h0 : M h = some (mp_o 7 [.ref ro, .int (nI rows), .int thr, .ref kp, .ref ks, .ref st8, .ref w64, .ref ha, .ref pa, .ref tg, .ref sz, .int (nI dp), .int (nI as_), .int (nI ops), .ref tk])) : mp_Cr l m_Mo_isLength E M 1 0 0 [.ref h, .int i] (fun v N => v = some (.int (tf (decide (¬ i < 0 ∧ i ≤ nI rows)))) ∧ N = mp_up M h (mp_o 7 [.ref ro, .int (nI rows), .int (tf (!decide (¬ i < 0 ∧ i ≤ nI rows))), .ref kp, .ref ks, .ref st8, .ref w64, .ref ha, .ref pa, .ref tg, .ref sz, .int (nI dp), .int (nI as_), .int (nI ops), .ref tk])) := by
  refine mp_Cr.of (by decide) (Nat.le_of_ble_eq_true rfl) fun Γ κ hl hκ => ?_
  subst hl
  obtain ⟨hκd, hκc, hκs, -⟩ := id hκ
  show mp_J Γ m_Mo_isLength E κ M [(0, .ref h), (1, .int i)] 0 [] 0 0
  refine j_aload_n d_Mo_isLength_0 rfl 0 rfl ?_
  refine j_iload_n d_Mo_isLength_1 rfl 1 rfl ?_
  refine j_if_lt 13 d_Mo_isLength_2 (by decide) (fun b2 => ?_) (fun b2 => ?_)
  · skip
    refine j_iconst (v := nI 1) d_Mo_isLength_13 (by decide) ?_
    refine j_goto (tgt := 18) d_Mo_isLength_14 (by decide) ?_
    refine j_put F_Mo h0 2 (by decide) w_945 (Or.inl rfl) rfl rfl rfl (Nat.le_of_ble_eq_true rfl) d_Mo_isLength_18 ?_
    show mp_J Γ m_Mo_isLength E κ (mp_up M h (mp_o 7 [.ref ro, .int (nI rows), .int (nI 1), .ref kp, .ref ks, .ref st8, .ref w64, .ref ha, .ref pa, .ref tg, .ref sz, .int (nI dp), .int (nI as_), .int (nI ops), .ref tk])) [(0, .ref h), (1, .int i)] 21 [] 0 0
    generalize eM1 : mp_up M h (mp_o 7 [.ref ro, .int (nI rows), .int (nI 1), .ref kp, .ref ks, .ref st8, .ref w64, .ref ha, .ref pa, .ref tg, .ref sz, .int (nI dp), .int (nI as_), .int (nI ops), .ref tk]) = M1
    have hM1_h : M1 h = some (mp_o 7 [.ref ro, .int (nI rows), .int (nI 1), .ref kp, .ref ks, .ref st8, .ref w64, .ref ha, .ref pa, .ref tg, .ref sz, .int (nI dp), .int (nI as_), .int (nI ops), .ref tk]) := by rw [← eM1]; exact mp_s
    refine j_aload_n d_Mo_isLength_21 rfl 0 rfl ?_
    refine j_get F_Mo hM1_h 2 (by decide) w_945 (Or.inl rfl) rfl d_Mo_isLength_22 ?_
    refine j_nif_ne 32 1 rfl (by omega) d_Mo_isLength_25 (by decide) (fun b25 => ?_) (fun b25 => absurd b25 (by omega))
    refine j_iconst (v := nI 0) d_Mo_isLength_32 (by decide) ?_
    exact j_zret hκ rfl (by first | exact Or.inl rfl | exact Or.inr rfl) (by omega) (by omega) d_Mo_isLength_33 (by first | exact ⟨rv_1 ⟨b2, b10⟩, by rw [decide_eq_true (show ¬ i < 0 ∧ i ≤ nI rows from ⟨b2, b10⟩)]; exact eM1.symm⟩ | exact ⟨rv_0 (fun hz => b10 hz.2), by rw [decide_eq_false (show ¬ (¬ i < 0 ∧ i ≤ nI rows) from fun hz => b10 hz.2)]; exact eM1.symm⟩ | exact ⟨rv_0 (fun hz => hz.1 b2), by rw [decide_eq_false (show ¬ (¬ i < 0 ∧ i ≤ nI rows) from fun hz => hz.1 b2)]; exact eM1.symm⟩)
  · skip
    refine j_iload_n d_Mo_isLength_5 rfl 1 rfl ?_
    refine j_aload_n d_Mo_isLength_6 rfl 0 rfl ?_
    refine j_get F_Mo h0 1 (by decide) w_944 (Or.inl rfl) rfl d_Mo_isLength_7 ?_
    refine j_icmp_le 17 d_Mo_isLength_10 (by decide) (fun b10 => ?_) (fun b10 => ?_)
    · skip
      refine j_iconst (v := nI 0) d_Mo_isLength_17 (by decide) ?_
      refine j_put F_Mo h0 2 (by decide) w_945 (Or.inl rfl) rfl rfl rfl (Nat.le_of_ble_eq_true rfl) d_Mo_isLength_18 ?_
      show mp_J Γ m_Mo_isLength E κ (mp_up M h (mp_o 7 [.ref ro, .int (nI rows), .int (nI 0), .ref kp, .ref ks, .ref st8, .ref w64, .ref ha, .ref pa, .ref tg, .ref sz, .int (nI dp), .int (nI as_), .int (nI ops), .ref tk])) [(0, .ref h), (1, .int i)] 21 [] 0 0
      generalize eM2 : mp_up M h (mp_o 7 [.ref ro, .int (nI rows), .int (nI 0), .ref kp, .ref ks, .ref st8, .ref w64, .ref ha, .ref pa, .ref tg, .ref sz, .int (nI dp), .int (nI as_), .int (nI ops), .ref tk]) = M2
      have hM2_h : M2 h = some (mp_o 7 [.ref ro, .int (nI rows), .int (nI 0), .ref kp, .ref ks, .ref st8, .ref w64, .ref ha, .ref pa, .ref tg, .ref sz, .int (nI dp), .int (nI as_), .int (nI ops), .ref tk]) := by rw [← eM2]; exact mp_s
      refine j_aload_n d_Mo_isLength_21 rfl 0 rfl ?_
      refine j_get F_Mo hM2_h 2 (by decide) w_945 (Or.inl rfl) rfl d_Mo_isLength_22 ?_
      refine j_nif_ne 32 0 rfl (by omega) d_Mo_isLength_25 (by decide) (fun b25 => absurd b25 (by omega)) (fun b25 => ?_)
      refine j_iconst (v := nI 1) d_Mo_isLength_28 (by decide) ?_
      refine j_goto (tgt := 33) d_Mo_isLength_29 (by decide) ?_
      exact j_zret hκ rfl (by first | exact Or.inl rfl | exact Or.inr rfl) (by omega) (by omega) d_Mo_isLength_33 (by first | exact ⟨rv_1 ⟨b2, b10⟩, by rw [decide_eq_true (show ¬ i < 0 ∧ i ≤ nI rows from ⟨b2, b10⟩)]; exact eM2.symm⟩ | exact ⟨rv_0 (fun hz => b10 hz.2), by rw [decide_eq_false (show ¬ (¬ i < 0 ∧ i ≤ nI rows) from fun hz => b10 hz.2)]; exact eM2.symm⟩ | exact ⟨rv_0 (fun hz => hz.1 b2), by rw [decide_eq_false (show ¬ (¬ i < 0 ∧ i ≤ nI rows) from fun hz => hz.1 b2)]; exact eM2.symm⟩)
    · skip
      refine j_iconst (v := nI 1) d_Mo_isLength_13 (by decide) ?_
      refine j_goto (tgt := 18) d_Mo_isLength_14 (by decide) ?_
      refine j_put F_Mo h0 2 (by decide) w_945 (Or.inl rfl) rfl rfl rfl (Nat.le_of_ble_eq_true rfl) d_Mo_isLength_18 ?_
      show mp_J Γ m_Mo_isLength E κ (mp_up M h (mp_o 7 [.ref ro, .int (nI rows), .int (nI 1), .ref kp, .ref ks, .ref st8, .ref w64, .ref ha, .ref pa, .ref tg, .ref sz, .int (nI dp), .int (nI as_), .int (nI ops), .ref tk])) [(0, .ref h), (1, .int i)] 21 [] 0 0
      generalize eM3 : mp_up M h (mp_o 7 [.ref ro, .int (nI rows), .int (nI 1), .ref kp, .ref ks, .ref st8, .ref w64, .ref ha, .ref pa, .ref tg, .ref sz, .int (nI dp), .int (nI as_), .int (nI ops), .ref tk]) = M3
      have hM3_h : M3 h = some (mp_o 7 [.ref ro, .int (nI rows), .int (nI 1), .ref kp, .ref ks, .ref st8, .ref w64, .ref ha, .ref pa, .ref tg, .ref sz, .int (nI dp), .int (nI as_), .int (nI ops), .ref tk]) := by rw [← eM3]; exact mp_s
      refine j_aload_n d_Mo_isLength_21 rfl 0 rfl ?_
      refine j_get F_Mo hM3_h 2 (by decide) w_945 (Or.inl rfl) rfl d_Mo_isLength_22 ?_
      refine j_nif_ne 32 1 rfl (by omega) d_Mo_isLength_25 (by decide) (fun b25 => ?_) (fun b25 => absurd b25 (by omega))
      refine j_iconst (v := nI 0) d_Mo_isLength_32 (by decide) ?_
      exact j_zret hκ rfl (by first | exact Or.inl rfl | exact Or.inr rfl) (by omega) (by omega) d_Mo_isLength_33 (by first | exact ⟨rv_1 ⟨b2, b10⟩, by rw [decide_eq_true (show ¬ i < 0 ∧ i ≤ nI rows from ⟨b2, b10⟩)]; exact eM3.symm⟩ | exact ⟨rv_0 (fun hz => b10 hz.2), by rw [decide_eq_false (show ¬ (¬ i < 0 ∧ i ≤ nI rows) from fun hz => b10 hz.2)]; exact eM3.symm⟩ | exact ⟨rv_0 (fun hz => hz.1 b2), by rw [decide_eq_false (show ¬ (¬ i < 0 ∧ i ≤ nI rows) from fun hz => hz.1 b2)]; exact eM3.symm⟩)

set_option maxHeartbeats 4000000 in
set_option maxRecDepth 100000 in
theorem c_Mo_four (l : Launch) (E : mp_E) (M : mp_M) (h ro rows kp ks st8 w64 ha pa tg sz dp as_ ops tk : Nat) (thr : Int32) (g : Nat → Int32) (x : Int32) (h0 : M h = some (mp_o 7 [.ref ro, .int (nI rows), .int thr, .ref kp, .ref ks, .ref st8, .ref w64, .ref ha, .ref pa, .ref tg, .ref sz, .int (nI dp), .int (nI as_), .int (nI ops), .ref tk])) (h1 : M ro = some (mp_b E 1000 g)) (hl4 : rows + 4 ≤ 1000) : mp_Cr l m_Mo_four E M 1 0 0 [.ref h, .int x] (fun v N => v = none ∧ N h = some (mp_o 7 [.ref ro, .int (nI (rows + 4)), .int thr, .ref kp, .ref ks, .ref st8, .ref w64, .ref ha, .ref pa, .ref tg, .ref sz, .int (nI dp), .int (nI as_), .int (nI ops), .ref tk]) ∧ N ro = some (mp_b E 1000 (ap_w g rows x)) ∧ AO h ro M N) := by
  refine mp_Cr.of (by decide) (Nat.le_of_ble_eq_true rfl) fun Γ κ hl hκ => ?_
  subst hl
  obtain ⟨hκd, hκc, hκs, -⟩ := id hκ
  show mp_J Γ m_Mo_four E κ M [(0, .ref h), (1, .int x)] 0 [] 0 0
  refine j_bipush (v := nI 24) d_Mo_four_0 (by decide) ?_
  refine j_istore_n [(2, .int (nI 24)), (0, .ref h), (1, .int x)] d_Mo_four_2 rfl (by decide) rfl ?_
  refine j_iload_n d_Mo_four_3 rfl 0 rfl ?_
  refine j_nif_lt 33 24 rfl (by omega) d_Mo_four_4 (by decide) (fun b4 => (by first | exact b4.elim | exact absurd b4 (by omega))) (fun b4 => ?_)
  refine j_aload_n d_Mo_four_7 rfl 1 rfl ?_
  refine j_get F_Mo h0 0 (by decide) w_943 (Or.inl rfl) rfl d_Mo_four_8 ?_
  refine j_aload_n d_Mo_four_11 rfl 1 rfl ?_
  refine j_dup d_Mo_four_12 rfl ?_
  refine j_get F_Mo h0 1 (by decide) w_944 (Or.inl rfl) rfl d_Mo_four_13 ?_
  refine j_dup_x1 d_Mo_four_16 rfl rfl ?_
  refine j_iconst (v := nI 1) d_Mo_four_17 (by decide) ?_
  refine j_iadd d_Mo_four_18 ?_
  refine j_eqi (y := nI (rows + 1)) (nI_add rows 1) ?_
  refine j_put F_Mo h0 1 (by decide) w_944 (Or.inl rfl) rfl rfl rfl (Nat.le_of_ble_eq_true rfl) d_Mo_four_19 ?_
  show mp_J Γ m_Mo_four E κ (mp_up M h (mp_o 7 [.ref ro, .int (nI (rows + 1)), .int thr, .ref kp, .ref ks, .ref st8, .ref w64, .ref ha, .ref pa, .ref tg, .ref sz, .int (nI dp), .int (nI as_), .int (nI ops), .ref tk])) [(2, .int (nI 24)), (0, .ref h), (1, .int x)] 22 [.int (nI rows), .ref ro] 0 0
  generalize eM1 : mp_up M h (mp_o 7 [.ref ro, .int (nI (rows + 1)), .int thr, .ref kp, .ref ks, .ref st8, .ref w64, .ref ha, .ref pa, .ref tg, .ref sz, .int (nI dp), .int (nI as_), .int (nI ops), .ref tk]) = M1
  have hM1_ro : M1 ro = some (mp_b E 1000 g) := by rw [← eM1, mp_n (mp_ne h1 h0 mp_nao)]; exact h1
  have hM1_h : M1 h = some (mp_o 7 [.ref ro, .int (nI (rows + 1)), .int thr, .ref kp, .ref ks, .ref st8, .ref w64, .ref ha, .ref pa, .ref tg, .ref sz, .int (nI dp), .int (nI as_), .int (nI ops), .ref tk]) := by rw [← eM1]; exact mp_s
  refine j_iload_n d_Mo_four_22 rfl 2 rfl ?_
  refine j_iload_n d_Mo_four_23 rfl 0 rfl ?_
  refine j_ishr d_Mo_four_24 ?_
  refine j_i2b d_Mo_four_25 ?_
  refine j_eqi (y := ap_b x 24) rfl ?_
  refine j_bast (y := ap_b x 24) hM1_ro rows rfl (by omega) (by omega) (pk_vb _) d_Mo_four_26 ?_
  generalize eM2 : mp_up M1 ro (mp_b E 1000 (upd g rows (ap_b x 24))) = M2
  have hM2_h : M2 h = some (mp_o 7 [.ref ro, .int (nI (rows + 1)), .int thr, .ref kp, .ref ks, .ref st8, .ref w64, .ref ha, .ref pa, .ref tg, .ref sz, .int (nI dp), .int (nI as_), .int (nI ops), .ref tk]) := by rw [← eM2, mp_n (mp_ne hM1_h hM1_ro mp_noa)]; exact hM1_h
  have hM2_ro : M2 ro = some (mp_b E 1000 (upd g rows (ap_b x 24))) := by rw [← eM2]; exact mp_s
  refine j_iinc (v := nI 16) [(2, .int (nI 16)), (0, .ref h), (1, .int x)] d_Mo_four_27 0 rfl (by decide) (by decide) rfl ?_
  refine j_goto (tgt := 3) d_Mo_four_30 (by decide) ?_
  refine j_iload_n d_Mo_four_3 rfl 0 rfl ?_
  refine j_nif_lt 33 16 rfl (by omega) d_Mo_four_4 (by decide) (fun b4 => (by first | exact b4.elim | exact absurd b4 (by omega))) (fun b4 => ?_)
  refine j_aload_n d_Mo_four_7 rfl 1 rfl ?_
  refine j_get F_Mo hM2_h 0 (by decide) w_943 (Or.inl rfl) rfl d_Mo_four_8 ?_
  refine j_aload_n d_Mo_four_11 rfl 1 rfl ?_
  refine j_dup d_Mo_four_12 rfl ?_
  refine j_get F_Mo hM2_h 1 (by decide) w_944 (Or.inl rfl) rfl d_Mo_four_13 ?_
  refine j_dup_x1 d_Mo_four_16 rfl rfl ?_
  refine j_iconst (v := nI 1) d_Mo_four_17 (by decide) ?_
  refine j_iadd d_Mo_four_18 ?_
  refine j_eqi (y := nI ((rows + 1) + 1)) (nI_add (rows + 1) 1) ?_
  refine j_put F_Mo hM2_h 1 (by decide) w_944 (Or.inl rfl) rfl rfl rfl (Nat.le_of_ble_eq_true rfl) d_Mo_four_19 ?_
  show mp_J Γ m_Mo_four E κ (mp_up M2 h (mp_o 7 [.ref ro, .int (nI ((rows + 1) + 1)), .int thr, .ref kp, .ref ks, .ref st8, .ref w64, .ref ha, .ref pa, .ref tg, .ref sz, .int (nI dp), .int (nI as_), .int (nI ops), .ref tk])) [(2, .int (nI 16)), (0, .ref h), (1, .int x)] 22 [.int (nI (rows + 1)), .ref ro] 0 0
  generalize eM3 : mp_up M2 h (mp_o 7 [.ref ro, .int (nI ((rows + 1) + 1)), .int thr, .ref kp, .ref ks, .ref st8, .ref w64, .ref ha, .ref pa, .ref tg, .ref sz, .int (nI dp), .int (nI as_), .int (nI ops), .ref tk]) = M3
  have hM3_ro : M3 ro = some (mp_b E 1000 (upd g rows (ap_b x 24))) := by rw [← eM3, mp_n (mp_ne hM2_ro hM2_h mp_nao)]; exact hM2_ro
  have hM3_h : M3 h = some (mp_o 7 [.ref ro, .int (nI ((rows + 1) + 1)), .int thr, .ref kp, .ref ks, .ref st8, .ref w64, .ref ha, .ref pa, .ref tg, .ref sz, .int (nI dp), .int (nI as_), .int (nI ops), .ref tk]) := by rw [← eM3]; exact mp_s
  refine j_iload_n d_Mo_four_22 rfl 2 rfl ?_
  refine j_iload_n d_Mo_four_23 rfl 0 rfl ?_
  refine j_ishr d_Mo_four_24 ?_
  refine j_i2b d_Mo_four_25 ?_
  refine j_eqi (y := ap_b x 16) rfl ?_
  refine j_bast (y := ap_b x 16) hM3_ro (rows + 1) rfl (by omega) (by omega) (pk_vb _) d_Mo_four_26 ?_
  generalize eM4 : mp_up M3 ro (mp_b E 1000 (upd (upd g rows (ap_b x 24)) (rows + 1) (ap_b x 16))) = M4
  have hM4_h : M4 h = some (mp_o 7 [.ref ro, .int (nI ((rows + 1) + 1)), .int thr, .ref kp, .ref ks, .ref st8, .ref w64, .ref ha, .ref pa, .ref tg, .ref sz, .int (nI dp), .int (nI as_), .int (nI ops), .ref tk]) := by rw [← eM4, mp_n (mp_ne hM3_h hM3_ro mp_noa)]; exact hM3_h
  have hM4_ro : M4 ro = some (mp_b E 1000 (upd (upd g rows (ap_b x 24)) (rows + 1) (ap_b x 16))) := by rw [← eM4]; exact mp_s
  refine j_iinc (v := nI 8) [(2, .int (nI 8)), (0, .ref h), (1, .int x)] d_Mo_four_27 0 rfl (by decide) (by decide) rfl ?_
  refine j_goto (tgt := 3) d_Mo_four_30 (by decide) ?_
  refine j_iload_n d_Mo_four_3 rfl 0 rfl ?_
  refine j_nif_lt 33 8 rfl (by omega) d_Mo_four_4 (by decide) (fun b4 => (by first | exact b4.elim | exact absurd b4 (by omega))) (fun b4 => ?_)
  refine j_aload_n d_Mo_four_7 rfl 1 rfl ?_
  refine j_get F_Mo hM4_h 0 (by decide) w_943 (Or.inl rfl) rfl d_Mo_four_8 ?_
  refine j_aload_n d_Mo_four_11 rfl 1 rfl ?_
  refine j_dup d_Mo_four_12 rfl ?_
  refine j_get F_Mo hM4_h 1 (by decide) w_944 (Or.inl rfl) rfl d_Mo_four_13 ?_
  refine j_dup_x1 d_Mo_four_16 rfl rfl ?_
  refine j_iconst (v := nI 1) d_Mo_four_17 (by decide) ?_
  refine j_iadd d_Mo_four_18 ?_
  refine j_eqi (y := nI (((rows + 1) + 1) + 1)) (nI_add ((rows + 1) + 1) 1) ?_
  refine j_put F_Mo hM4_h 1 (by decide) w_944 (Or.inl rfl) rfl rfl rfl (Nat.le_of_ble_eq_true rfl) d_Mo_four_19 ?_
  show mp_J Γ m_Mo_four E κ (mp_up M4 h (mp_o 7 [.ref ro, .int (nI (((rows + 1) + 1) + 1)), .int thr, .ref kp, .ref ks, .ref st8, .ref w64, .ref ha, .ref pa, .ref tg, .ref sz, .int (nI dp), .int (nI as_), .int (nI ops), .ref tk])) [(2, .int (nI 8)), (0, .ref h), (1, .int x)] 22 [.int (nI ((rows + 1) + 1)), .ref ro] 0 0
  generalize eM5 : mp_up M4 h (mp_o 7 [.ref ro, .int (nI (((rows + 1) + 1) + 1)), .int thr, .ref kp, .ref ks, .ref st8, .ref w64, .ref ha, .ref pa, .ref tg, .ref sz, .int (nI dp), .int (nI as_), .int (nI ops), .ref tk]) = M5
  have hM5_ro : M5 ro = some (mp_b E 1000 (upd (upd g rows (ap_b x 24)) (rows + 1) (ap_b x 16))) := by rw [← eM5, mp_n (mp_ne hM4_ro hM4_h mp_nao)]; exact hM4_ro
  have hM5_h : M5 h = some (mp_o 7 [.ref ro, .int (nI (((rows + 1) + 1) + 1)), .int thr, .ref kp, .ref ks, .ref st8, .ref w64, .ref ha, .ref pa, .ref tg, .ref sz, .int (nI dp), .int (nI as_), .int (nI ops), .ref tk]) := by rw [← eM5]; exact mp_s
  refine j_iload_n d_Mo_four_22 rfl 2 rfl ?_
  refine j_iload_n d_Mo_four_23 rfl 0 rfl ?_
  refine j_ishr d_Mo_four_24 ?_
  refine j_i2b d_Mo_four_25 ?_
  refine j_eqi (y := ap_b x 8) rfl ?_
  refine j_bast (y := ap_b x 8) hM5_ro ((rows + 1) + 1) rfl (by omega) (by omega) (pk_vb _) d_Mo_four_26 ?_
  generalize eM6 : mp_up M5 ro (mp_b E 1000 (upd (upd (upd g rows (ap_b x 24)) (rows + 1) (ap_b x 16)) ((rows + 1) + 1) (ap_b x 8))) = M6
  have hM6_h : M6 h = some (mp_o 7 [.ref ro, .int (nI (((rows + 1) + 1) + 1)), .int thr, .ref kp, .ref ks, .ref st8, .ref w64, .ref ha, .ref pa, .ref tg, .ref sz, .int (nI dp), .int (nI as_), .int (nI ops), .ref tk]) := by rw [← eM6, mp_n (mp_ne hM5_h hM5_ro mp_noa)]; exact hM5_h
  have hM6_ro : M6 ro = some (mp_b E 1000 (upd (upd (upd g rows (ap_b x 24)) (rows + 1) (ap_b x 16)) ((rows + 1) + 1) (ap_b x 8))) := by rw [← eM6]; exact mp_s
  refine j_iinc (v := nI 0) [(2, .int (nI 0)), (0, .ref h), (1, .int x)] d_Mo_four_27 0 rfl (by decide) (by decide) rfl ?_
  refine j_goto (tgt := 3) d_Mo_four_30 (by decide) ?_
  refine j_iload_n d_Mo_four_3 rfl 0 rfl ?_
  refine j_nif_lt 33 0 rfl (by omega) d_Mo_four_4 (by decide) (fun b4 => (by first | exact b4.elim | exact absurd b4 (by omega))) (fun b4 => ?_)
  refine j_aload_n d_Mo_four_7 rfl 1 rfl ?_
  refine j_get F_Mo hM6_h 0 (by decide) w_943 (Or.inl rfl) rfl d_Mo_four_8 ?_
  refine j_aload_n d_Mo_four_11 rfl 1 rfl ?_
  refine j_dup d_Mo_four_12 rfl ?_
  refine j_get F_Mo hM6_h 1 (by decide) w_944 (Or.inl rfl) rfl d_Mo_four_13 ?_
  refine j_dup_x1 d_Mo_four_16 rfl rfl ?_
  refine j_iconst (v := nI 1) d_Mo_four_17 (by decide) ?_
  refine j_iadd d_Mo_four_18 ?_
  refine j_eqi (y := nI ((((rows + 1) + 1) + 1) + 1)) (nI_add (((rows + 1) + 1) + 1) 1) ?_
  refine j_put F_Mo hM6_h 1 (by decide) w_944 (Or.inl rfl) rfl rfl rfl (Nat.le_of_ble_eq_true rfl) d_Mo_four_19 ?_
  show mp_J Γ m_Mo_four E κ (mp_up M6 h (mp_o 7 [.ref ro, .int (nI ((((rows + 1) + 1) + 1) + 1)), .int thr, .ref kp, .ref ks, .ref st8, .ref w64, .ref ha, .ref pa, .ref tg, .ref sz, .int (nI dp), .int (nI as_), .int (nI ops), .ref tk])) [(2, .int (nI 0)), (0, .ref h), (1, .int x)] 22 [.int (nI (((rows + 1) + 1) + 1)), .ref ro] 0 0
  generalize eM7 : mp_up M6 h (mp_o 7 [.ref ro, .int (nI ((((rows + 1) + 1) + 1) + 1)), .int thr, .ref kp, .ref ks, .ref st8, .ref w64, .ref ha, .ref pa, .ref tg, .ref sz, .int (nI dp), .int (nI as_), .int (nI ops), .ref tk]) = M7
  have hM7_ro : M7 ro = some (mp_b E 1000 (upd (upd (upd g rows (ap_b x 24)) (rows + 1) (ap_b x 16)) ((rows + 1) + 1) (ap_b x 8))) := by rw [← eM7, mp_n (mp_ne hM6_ro hM6_h mp_nao)]; exact hM6_ro
  have hM7_h : M7 h = some (mp_o 7 [.ref ro, .int (nI ((((rows + 1) + 1) + 1) + 1)), .int thr, .ref kp, .ref ks, .ref st8, .ref w64, .ref ha, .ref pa, .ref tg, .ref sz, .int (nI dp), .int (nI as_), .int (nI ops), .ref tk]) := by rw [← eM7]; exact mp_s
  refine j_iload_n d_Mo_four_22 rfl 2 rfl ?_
  refine j_iload_n d_Mo_four_23 rfl 0 rfl ?_
  refine j_ishr d_Mo_four_24 ?_
  refine j_i2b d_Mo_four_25 ?_
  refine j_eqi (y := ap_b x 0) rfl ?_
  refine j_bast (y := ap_b x 0) hM7_ro (((rows + 1) + 1) + 1) rfl (by omega) (by omega) (pk_vb _) d_Mo_four_26 ?_
  generalize eM8 : mp_up M7 ro (mp_b E 1000 (upd (upd (upd (upd g rows (ap_b x 24)) (rows + 1) (ap_b x 16)) ((rows + 1) + 1) (ap_b x 8)) (((rows + 1) + 1) + 1) (ap_b x 0))) = M8
  have hM8_h : M8 h = some (mp_o 7 [.ref ro, .int (nI ((((rows + 1) + 1) + 1) + 1)), .int thr, .ref kp, .ref ks, .ref st8, .ref w64, .ref ha, .ref pa, .ref tg, .ref sz, .int (nI dp), .int (nI as_), .int (nI ops), .ref tk]) := by rw [← eM8, mp_n (mp_ne hM7_h hM7_ro mp_noa)]; exact hM7_h
  have hM8_ro : M8 ro = some (mp_b E 1000 (upd (upd (upd (upd g rows (ap_b x 24)) (rows + 1) (ap_b x 16)) ((rows + 1) + 1) (ap_b x 8)) (((rows + 1) + 1) + 1) (ap_b x 0))) := by rw [← eM8]; exact mp_s
  refine j_iinc (v := (-8)) [(2, .int (-8)), (0, .ref h), (1, .int x)] d_Mo_four_27 0 rfl (by decide) (by decide) rfl ?_
  refine j_goto (tgt := 3) d_Mo_four_30 (by decide) ?_
  refine j_iload_n d_Mo_four_3 rfl 0 rfl ?_
  refine j_if_lt 33 d_Mo_four_4 (by decide) (fun b4 => ?_) (fun b4 => absurd (show (-8 : Int32) < 0 by decide) b4)
  exact j_vret hκ rfl (by omega) (by omega) d_Mo_four_33 ⟨rfl, hM8_h, hM8_ro, fun a z1 z2 => by subst_vars; simp only [mp_n z1, mp_n z2]⟩
