set_option maxHeartbeats 4000000 in
set_option maxRecDepth 100000 in
theorem c_Mo_isThing (l : Launch) (E : mp_E) (M : mp_M) (h ro rows kp ks st8 w64 ha pa tg sz dp as_ ops tk : Nat) (thr : Int32) (i : Int32) (h0 : M h = some (mp_o 7 [.ref ro, .int (nI rows), .int thr, .ref kp, .ref ks, .ref st8, .ref w64, .ref ha, .ref pa, .ref tg, .ref sz, .int (nI dp), .int (nI as_), .int (nI ops), .ref tk])) : mp_Cr l m_Mo_isThing E M 1 0 0 [.ref h, .int i] (fun v N => v = some (.int (tf (decide (¬ i < 0 ∧ i < nI dp)))) ∧ N = mp_up M h (mp_o 7 [.ref ro, .int (nI rows), .int (tf (!decide (¬ i < 0 ∧ i < nI dp))), .ref kp, .ref ks, .ref st8, .ref w64, .ref ha, .ref pa, .ref tg, .ref sz, .int (nI dp), .int (nI as_), .int (nI ops), .ref tk])) := by
  refine mp_Cr.of (by decide) (Nat.le_of_ble_eq_true rfl) fun Γ κ hl hκ => ?_
  subst hl
  obtain ⟨hκd, hκc, hκs, -⟩ := id hκ
  show mp_J Γ m_Mo_isThing E κ M [(0, .ref h), (1, .int i)] 0 [] 0 0
  refine j_aload_n d_Mo_isThing_0 rfl 0 rfl ?_
  refine j_iload_n d_Mo_isThing_1 rfl 1 rfl ?_
  refine j_if_lt 13 d_Mo_isThing_2 (by decide) (fun b2 => ?_) (fun b2 => ?_)
  · skip
    refine j_iconst (v := nI 1) d_Mo_isThing_13 (by decide) ?_
    refine j_goto (tgt := 18) d_Mo_isThing_14 (by decide) ?_
    refine j_put F_Mo h0 2 (by decide) w_945 (Or.inl rfl) rfl rfl rfl (Nat.le_of_ble_eq_true rfl) d_Mo_isThing_18 ?_
    show mp_J Γ m_Mo_isThing E κ (mp_up M h (mp_o 7 [.ref ro, .int (nI rows), .int (nI 1), .ref kp, .ref ks, .ref st8, .ref w64, .ref ha, .ref pa, .ref tg, .ref sz, .int (nI dp), .int (nI as_), .int (nI ops), .ref tk])) [(0, .ref h), (1, .int i)] 21 [] 0 0
    generalize eM1 : mp_up M h (mp_o 7 [.ref ro, .int (nI rows), .int (nI 1), .ref kp, .ref ks, .ref st8, .ref w64, .ref ha, .ref pa, .ref tg, .ref sz, .int (nI dp), .int (nI as_), .int (nI ops), .ref tk]) = M1
    have hM1_h : M1 h = some (mp_o 7 [.ref ro, .int (nI rows), .int (nI 1), .ref kp, .ref ks, .ref st8, .ref w64, .ref ha, .ref pa, .ref tg, .ref sz, .int (nI dp), .int (nI as_), .int (nI ops), .ref tk]) := by rw [← eM1]; exact mp_s
    refine j_aload_n d_Mo_isThing_21 rfl 0 rfl ?_
    refine j_get F_Mo hM1_h 2 (by decide) w_945 (Or.inl rfl) rfl d_Mo_isThing_22 ?_
    refine j_nif_ne 32 1 rfl (by omega) d_Mo_isThing_25 (by decide) (fun b25 => ?_) (fun b25 => absurd b25 (by omega))
    refine j_iconst (v := nI 0) d_Mo_isThing_32 (by decide) ?_
    exact j_zret hκ rfl (by first | exact Or.inl rfl | exact Or.inr rfl) (by omega) (by omega) d_Mo_isThing_33 (by first | exact ⟨rv_1 ⟨b2, b10⟩, by rw [decide_eq_true (show ¬ i < 0 ∧ i < nI dp from ⟨b2, b10⟩)]; exact eM1.symm⟩ | exact ⟨rv_0 (fun hz => b10 hz.2), by rw [decide_eq_false (show ¬ (¬ i < 0 ∧ i < nI dp) from fun hz => b10 hz.2)]; exact eM1.symm⟩ | exact ⟨rv_0 (fun hz => hz.1 b2), by rw [decide_eq_false (show ¬ (¬ i < 0 ∧ i < nI dp) from fun hz => hz.1 b2)]; exact eM1.symm⟩)
  · skip
    refine j_iload_n d_Mo_isThing_5 rfl 1 rfl ?_
    refine j_aload_n d_Mo_isThing_6 rfl 0 rfl ?_
    refine j_get F_Mo h0 11 (by decide) w_954 (Or.inl rfl) rfl d_Mo_isThing_7 ?_
    refine j_icmp_lt 17 d_Mo_isThing_10 (by decide) (fun b10 => ?_) (fun b10 => ?_)
    · skip
      refine j_iconst (v := nI 0) d_Mo_isThing_17 (by decide) ?_
      refine j_put F_Mo h0 2 (by decide) w_945 (Or.inl rfl) rfl rfl rfl (Nat.le_of_ble_eq_true rfl) d_Mo_isThing_18 ?_
      show mp_J Γ m_Mo_isThing E κ (mp_up M h (mp_o 7 [.ref ro, .int (nI rows), .int (nI 0), .ref kp, .ref ks, .ref st8, .ref w64, .ref ha, .ref pa, .ref tg, .ref sz, .int (nI dp), .int (nI as_), .int (nI ops), .ref tk])) [(0, .ref h), (1, .int i)] 21 [] 0 0
      generalize eM2 : mp_up M h (mp_o 7 [.ref ro, .int (nI rows), .int (nI 0), .ref kp, .ref ks, .ref st8, .ref w64, .ref ha, .ref pa, .ref tg, .ref sz, .int (nI dp), .int (nI as_), .int (nI ops), .ref tk]) = M2
      have hM2_h : M2 h = some (mp_o 7 [.ref ro, .int (nI rows), .int (nI 0), .ref kp, .ref ks, .ref st8, .ref w64, .ref ha, .ref pa, .ref tg, .ref sz, .int (nI dp), .int (nI as_), .int (nI ops), .ref tk]) := by rw [← eM2]; exact mp_s
      refine j_aload_n d_Mo_isThing_21 rfl 0 rfl ?_
      refine j_get F_Mo hM2_h 2 (by decide) w_945 (Or.inl rfl) rfl d_Mo_isThing_22 ?_
      refine j_nif_ne 32 0 rfl (by omega) d_Mo_isThing_25 (by decide) (fun b25 => absurd b25 (by omega)) (fun b25 => ?_)
      refine j_iconst (v := nI 1) d_Mo_isThing_28 (by decide) ?_
      refine j_goto (tgt := 33) d_Mo_isThing_29 (by decide) ?_
      exact j_zret hκ rfl (by first | exact Or.inl rfl | exact Or.inr rfl) (by omega) (by omega) d_Mo_isThing_33 (by first | exact ⟨rv_1 ⟨b2, b10⟩, by rw [decide_eq_true (show ¬ i < 0 ∧ i < nI dp from ⟨b2, b10⟩)]; exact eM2.symm⟩ | exact ⟨rv_0 (fun hz => b10 hz.2), by rw [decide_eq_false (show ¬ (¬ i < 0 ∧ i < nI dp) from fun hz => b10 hz.2)]; exact eM2.symm⟩ | exact ⟨rv_0 (fun hz => hz.1 b2), by rw [decide_eq_false (show ¬ (¬ i < 0 ∧ i < nI dp) from fun hz => hz.1 b2)]; exact eM2.symm⟩)
    · skip
      refine j_iconst (v := nI 1) d_Mo_isThing_13 (by decide) ?_
      refine j_goto (tgt := 18) d_Mo_isThing_14 (by decide) ?_
      refine j_put F_Mo h0 2 (by decide) w_945 (Or.inl rfl) rfl rfl rfl (Nat.le_of_ble_eq_true rfl) d_Mo_isThing_18 ?_
      show mp_J Γ m_Mo_isThing E κ (mp_up M h (mp_o 7 [.ref ro, .int (nI rows), .int (nI 1), .ref kp, .ref ks, .ref st8, .ref w64, .ref ha, .ref pa, .ref tg, .ref sz, .int (nI dp), .int (nI as_), .int (nI ops), .ref tk])) [(0, .ref h), (1, .int i)] 21 [] 0 0
      generalize eM3 : mp_up M h (mp_o 7 [.ref ro, .int (nI rows), .int (nI 1), .ref kp, .ref ks, .ref st8, .ref w64, .ref ha, .ref pa, .ref tg, .ref sz, .int (nI dp), .int (nI as_), .int (nI ops), .ref tk]) = M3
      have hM3_h : M3 h = some (mp_o 7 [.ref ro, .int (nI rows), .int (nI 1), .ref kp, .ref ks, .ref st8, .ref w64, .ref ha, .ref pa, .ref tg, .ref sz, .int (nI dp), .int (nI as_), .int (nI ops), .ref tk]) := by rw [← eM3]; exact mp_s
      refine j_aload_n d_Mo_isThing_21 rfl 0 rfl ?_
      refine j_get F_Mo hM3_h 2 (by decide) w_945 (Or.inl rfl) rfl d_Mo_isThing_22 ?_
      refine j_nif_ne 32 1 rfl (by omega) d_Mo_isThing_25 (by decide) (fun b25 => ?_) (fun b25 => absurd b25 (by omega))
      refine j_iconst (v := nI 0) d_Mo_isThing_32 (by decide) ?_
      exact j_zret hκ rfl (by first | exact Or.inl rfl | exact Or.inr rfl) (by omega) (by omega) d_Mo_isThing_33 (by first | exact ⟨rv_1 ⟨b2, b10⟩, by rw [decide_eq_true (show ¬ i < 0 ∧ i < nI dp from ⟨b2, b10⟩)]; exact eM3.symm⟩ | exact ⟨rv_0 (fun hz => b10 hz.2), by rw [decide_eq_false (show ¬ (¬ i < 0 ∧ i < nI dp) from fun hz => b10 hz.2)]; exact eM3.symm⟩ | exact ⟨rv_0 (fun hz => hz.1 b2), by rw [decide_eq_false (show ¬ (¬ i < 0 ∧ i < nI dp) from fun hz => hz.1 b2)]; exact eM3.symm⟩)

set_option maxHeartbeats 4000000 in
set_option maxRecDepth 100000 in
theorem c_Mo_depth (l : Launch) (E : mp_E) (M : mp_M) (h ro rows kp ks st8 w64 ha pa tg sz dp as_ ops tk : Nat) (thr : Int32) (h0 : M h = some (mp_o 7 [.ref ro, .int (nI rows), .int thr, .ref kp, .ref ks, .ref st8, .ref w64, .ref ha, .ref pa, .ref tg, .ref sz, .int (nI dp), .int (nI as_), .int (nI ops), .ref tk])) : mp_Cr l m_Mo_depth E M 1 0 0 [.ref h] (fun v N => v = some (.int (nI dp)) ∧ N = mp_up M h (mp_o 7 [.ref ro, .int (nI rows), .int (nI 0), .ref kp, .ref ks, .ref st8, .ref w64, .ref ha, .ref pa, .ref tg, .ref sz, .int (nI dp), .int (nI as_), .int (nI ops), .ref tk])) := by
  refine mp_Cr.of (by decide) (Nat.le_of_ble_eq_true rfl) fun Γ κ hl hκ => ?_
  subst hl
  obtain ⟨hκd, hκc, hκs, -⟩ := id hκ
  show mp_J Γ m_Mo_depth E κ M [(0, .ref h)] 0 [] 0 0
  refine j_aload_n d_Mo_depth_0 rfl 0 rfl ?_
  refine j_iconst (v := nI 0) d_Mo_depth_1 (by decide) ?_
  refine j_put F_Mo h0 2 (by decide) w_945 (Or.inl rfl) rfl rfl rfl (Nat.le_of_ble_eq_true rfl) d_Mo_depth_2 ?_
  show mp_J Γ m_Mo_depth E κ (mp_up M h (mp_o 7 [.ref ro, .int (nI rows), .int (nI 0), .ref kp, .ref ks, .ref st8, .ref w64, .ref ha, .ref pa, .ref tg, .ref sz, .int (nI dp), .int (nI as_), .int (nI ops), .ref tk])) [(0, .ref h)] 5 [] 0 0
  generalize eM1 : mp_up M h (mp_o 7 [.ref ro, .int (nI rows), .int (nI 0), .ref kp, .ref ks, .ref st8, .ref w64, .ref ha, .ref pa, .ref tg, .ref sz, .int (nI dp), .int (nI as_), .int (nI ops), .ref tk]) = M1
  have hM1_h : M1 h = some (mp_o 7 [.ref ro, .int (nI rows), .int (nI 0), .ref kp, .ref ks, .ref st8, .ref w64, .ref ha, .ref pa, .ref tg, .ref sz, .int (nI dp), .int (nI as_), .int (nI ops), .ref tk]) := by rw [← eM1]; exact mp_s
  refine j_aload_n d_Mo_depth_5 rfl 0 rfl ?_
  refine j_get F_Mo hM1_h 11 (by decide) w_954 (Or.inl rfl) rfl d_Mo_depth_6 ?_
  exact j_iret hκ rfl (by omega) (by omega) d_Mo_depth_9 ⟨rfl, eM1.symm⟩

set_option maxHeartbeats 4000000 in
set_option maxRecDepth 100000 in
theorem c_Mo_end (l : Launch) (E : mp_E) (M : mp_M) (h ro rows kp ks st8 w64 ha pa tg sz dp as_ ops tk : Nat) (thr : Int32) (i : Int32) (h0 : M h = some (mp_o 7 [.ref ro, .int (nI rows), .int thr, .ref kp, .ref ks, .ref st8, .ref w64, .ref ha, .ref pa, .ref tg, .ref sz, .int (nI dp), .int (nI as_), .int (nI ops), .ref tk])) (hrw : rows ≤ 1000) : mp_Cr l m_Mo_end E M 2 0 0 [.ref h, .int i] (fun v N => (∃ j, j ≤ rows ∧ i = nI j ∧ v = some (.int (nI j)) ∧ N = mp_up M h (mp_o 7 [.ref ro, .int (nI j), .int (tf false), .ref kp, .ref ks, .ref st8, .ref w64, .ref ha, .ref pa, .ref tg, .ref sz, .int (nI dp), .int (nI as_), .int (nI ops), .ref tk])) ∨ ((¬ ∃ j, j ≤ rows ∧ i = nI j) ∧ v = some (.int (nI 0)) ∧ N = mp_up M h (mp_o 7 [.ref ro, .int (nI rows), .int (tf true), .ref kp, .ref ks, .ref st8, .ref w64, .ref ha, .ref pa, .ref tg, .ref sz, .int (nI dp), .int (nI as_), .int (nI ops), .ref tk]))) := by
  refine mp_Cr.of (by decide) (Nat.le_of_ble_eq_true rfl) fun Γ κ hl hκ => ?_
  subst hl
  obtain ⟨hκd, hκc, hκs, -⟩ := id hκ
  show mp_J Γ m_Mo_end E κ M [(0, .ref h), (1, .int i)] 0 [] 0 0
  refine j_aload_n d_Mo_end_0 rfl 0 rfl ?_
  refine j_iload_n d_Mo_end_1 rfl 1 rfl ?_
  refine j_callV (As := [.int i]) (rest := []) (c_Mo_isLength Γ.l E M h ro rows kp ks st8 w64 ha pa tg sz dp as_ ops tk thr i h0) Y_Mo_isLength w_1006 w_1008 ws_28 h0 rfl rfl rfl (Nat.le_of_ble_eq_true rfl) (by omega) (by omega) (by omega) d_Mo_end_2 (fun v2 N2 p2 => ?_)
  obtain ⟨rfl, q2⟩ := p2
  show mp_J Γ m_Mo_end E κ N2 [(0, .ref h), (1, .int i)] 5 [.int (tf (decide (¬ i < 0 ∧ i ≤ nI rows)))] 0 0
  have hN2_h : N2 h = some (mp_o 7 [.ref ro, .int (nI rows), .int (tf (!decide (¬ i < 0 ∧ i ≤ nI rows))), .ref kp, .ref ks, .ref st8, .ref w64, .ref ha, .ref pa, .ref tg, .ref sz, .int (nI dp), .int (nI as_), .int (nI ops), .ref tk]) := by rw [q2]; exact mp_s
  refine j_tif_ne 10 d_Mo_end_5 (by decide) (fun b5 => ?_) (fun b5 => ?_)
  · skip
    refine j_aload_n d_Mo_end_10 rfl 0 rfl ?_
    refine j_iload_n d_Mo_end_11 rfl 1 rfl ?_
    refine j_put F_Mo hN2_h 1 (by decide) w_944 (Or.inl rfl) rfl rfl rfl (Nat.le_of_ble_eq_true rfl) d_Mo_end_12 ?_
    show mp_J Γ m_Mo_end E κ (mp_up N2 h (mp_o 7 [.ref ro, .int i, .int (tf (!decide (¬ i < 0 ∧ i ≤ nI rows))), .ref kp, .ref ks, .ref st8, .ref w64, .ref ha, .ref pa, .ref tg, .ref sz, .int (nI dp), .int (nI as_), .int (nI ops), .ref tk])) [(0, .ref h), (1, .int i)] 15 [] 0 0
    generalize eM1 : mp_up N2 h (mp_o 7 [.ref ro, .int i, .int (tf (!decide (¬ i < 0 ∧ i ≤ nI rows))), .ref kp, .ref ks, .ref st8, .ref w64, .ref ha, .ref pa, .ref tg, .ref sz, .int (nI dp), .int (nI as_), .int (nI ops), .ref tk]) = M1
    have hM1_h : M1 h = some (mp_o 7 [.ref ro, .int i, .int (tf (!decide (¬ i < 0 ∧ i ≤ nI rows))), .ref kp, .ref ks, .ref st8, .ref w64, .ref ha, .ref pa, .ref tg, .ref sz, .int (nI dp), .int (nI as_), .int (nI ops), .ref tk]) := by rw [← eM1]; exact mp_s
    refine j_iload_n d_Mo_end_15 rfl 1 rfl ?_
    exact j_iret hκ rfl (by omega) (by omega) d_Mo_end_16 (Or.inl (by obtain ⟨j, e1, e2⟩ := (am_i32 hrw).mp (of_decide_eq_true b5); rw [b5] at q2 hN2_h eM1; subst e2; exact ⟨j, e1, rfl, rfl, by rw [← eM1, q2, mp_uu]; rfl⟩))
  · skip
    refine j_iconst (v := nI 0) d_Mo_end_8 (by decide) ?_
    exact j_iret hκ rfl (by omega) (by omega) d_Mo_end_9 (Or.inr ⟨fun hz => of_decide_eq_false b5 ((am_i32 hrw).mpr hz), rfl, by rw [q2, b5]; rfl⟩)
