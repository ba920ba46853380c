set_option maxHeartbeats 4000000 in
set_option maxRecDepth 100000 in
theorem c_Br_clear (l : Launch) (E : mp_E) (M : mp_M) (h : Nat) (o0 l0 : Int32) (h0 : M h = some (mp_o 0 [.int o0, .int l0])) : mp_Cr l m_Br_clear E M 1 0 0 [.ref h] (fun v N => v = none ∧ N = mp_up M h (mp_o 0 [.int (nI 0), .int (-1)])) := by
  refine mp_Cr.of (by decide) (Nat.le_of_ble_eq_true rfl) fun Γ κ hl hκ => ?_
  subst hl
  obtain ⟨hκd, hκc, hκs, -⟩ := id hκ
  show mp_J Γ m_Br_clear E κ M [(0, .ref h)] 0 [] 0 0
  refine j_aload_n d_Br_clear_0 rfl 0 rfl ?_
  refine j_iconst (v := nI 0) d_Br_clear_1 (by decide) ?_
  refine j_put F_Br h0 0 (by decide) w_138 (Or.inl rfl) rfl rfl rfl (Nat.le_of_ble_eq_true rfl) d_Br_clear_2 ?_
  show mp_J Γ m_Br_clear E κ (mp_up M h (mp_o 0 [.int (nI 0), .int l0])) [(0, .ref h)] 5 [] 0 0
  generalize eM1 : mp_up M h (mp_o 0 [.int (nI 0), .int l0]) = M1
  have hM1_h : M1 h = some (mp_o 0 [.int (nI 0), .int l0]) := by rw [← eM1]; exact mp_s
  refine j_aload_n d_Br_clear_5 rfl 0 rfl ?_
  refine j_iconst (v := (-1)) d_Br_clear_6 (by decide) ?_
  refine j_put F_Br hM1_h 1 (by decide) w_139 (Or.inl rfl) rfl rfl rfl (Nat.le_of_ble_eq_true rfl) d_Br_clear_7 ?_
  show mp_J Γ m_Br_clear E κ (mp_up M1 h (mp_o 0 [.int (nI 0), .int (-1)])) [(0, .ref h)] 10 [] 0 0
  generalize eM2 : mp_up M1 h (mp_o 0 [.int (nI 0), .int (-1)]) = M2
  have hM2_h : M2 h = some (mp_o 0 [.int (nI 0), .int (-1)]) := by rw [← eM2]; exact mp_s
  exact j_vret hκ rfl (by omega) (by omega) d_Br_clear_10 ⟨rfl, by rw [← eM2, ← eM1, mp_uu]⟩

set_option maxHeartbeats 4000000 in
set_option maxRecDepth 100000 in
theorem c_Br_init (l : Launch) (E : mp_E) (M : mp_M) (h : Nat) (o0 l0 : Int32) (h0 : M h = some (mp_o 0 [.int o0, .int l0])) : mp_Cr l m_Br_init E M 1 0 0 [.ref h] (fun v N => v = none ∧ N = mp_up M h (mp_o 0 [.int (nI 0), .int (-1)])) := by
  refine mp_Cr.of (by decide) (Nat.le_of_ble_eq_true rfl) fun Γ κ hl hκ => ?_
  subst hl
  obtain ⟨hκd, hκc, hκs, -⟩ := id hκ
  show mp_J Γ m_Br_init E κ M [(0, .ref h)] 0 [] 0 0
  refine j_aload_n d_Br_init_0 rfl 0 rfl ?_
  refine j_objInit w_137 w_36 w_37 (Nat.le_of_ble_eq_true rfl) (by omega) d_Br_init_1 ?_
  refine j_aload_n d_Br_init_4 rfl 0 rfl ?_
  refine j_iconst (v := nI 0) d_Br_init_5 (by decide) ?_
  refine j_put F_Br h0 0 (by decide) w_138 (Or.inl rfl) rfl rfl rfl (Nat.le_of_ble_eq_true rfl) d_Br_init_6 ?_
  show mp_J Γ m_Br_init E κ (mp_up M h (mp_o 0 [.int (nI 0), .int l0])) [(0, .ref h)] 9 [] 0 0
  generalize eM1 : mp_up M h (mp_o 0 [.int (nI 0), .int l0]) = M1
  have hM1_h : M1 h = some (mp_o 0 [.int (nI 0), .int l0]) := by rw [← eM1]; exact mp_s
  refine j_aload_n d_Br_init_9 rfl 0 rfl ?_
  refine j_iconst (v := (-1)) d_Br_init_10 (by decide) ?_
  refine j_put F_Br hM1_h 1 (by decide) w_139 (Or.inl rfl) rfl rfl rfl (Nat.le_of_ble_eq_true rfl) d_Br_init_11 ?_
  show mp_J Γ m_Br_init E κ (mp_up M1 h (mp_o 0 [.int (nI 0), .int (-1)])) [(0, .ref h)] 14 [] 0 0
  generalize eM2 : mp_up M1 h (mp_o 0 [.int (nI 0), .int (-1)]) = M2
  have hM2_h : M2 h = some (mp_o 0 [.int (nI 0), .int (-1)]) := by rw [← eM2]; exact mp_s
  exact j_vret hκ rfl (by omega) (by omega) d_Br_init_14 ⟨rfl, by rw [← eM2, ← eM1, mp_uu]⟩

set_option maxHeartbeats 4000000 in
set_option maxRecDepth 100000 in
theorem c_Br_anyOpen (l : Launch) (E : mp_E) (M : mp_M) (h : Nat) (p : Nat) (l0 : Int32) (h0 : M h = some (mp_o 0 [.int (nI p), .int l0])) (hp : p < 1000) : mp_Cr l m_Br_anyOpen E M 1 0 0 [.ref h] (fun v N => v = some (.int (tf (decide (0 < p)))) ∧ N = M) := by
  refine mp_Cr.of (by decide) (Nat.le_of_ble_eq_true rfl) fun Γ κ hl hκ => ?_
  subst hl
  obtain ⟨hκd, hκc, hκs, -⟩ := id hκ
  show mp_J Γ m_Br_anyOpen E κ M [(0, .ref h)] 0 [] 0 0
  refine j_aload_n d_Br_anyOpen_0 rfl 0 rfl ?_
  refine j_get F_Br h0 0 (by decide) w_138 (Or.inl rfl) rfl d_Br_anyOpen_1 ?_
  refine j_nif_le 11 p rfl (by omega) d_Br_anyOpen_4 (by decide) (fun b4 => ?_) (fun b4 => ?_)
  · skip
    refine j_iconst (v := nI 0) d_Br_anyOpen_11 (by decide) ?_
    exact j_zret hκ rfl (by first | exact Or.inl rfl | exact Or.inr rfl) (by omega) (by omega) d_Br_anyOpen_12 (by first | exact ⟨rv_1 (by omega), rfl⟩ | exact ⟨rv_0 (by omega), rfl⟩)
  · skip
    refine j_iconst (v := nI 1) d_Br_anyOpen_7 (by decide) ?_
    refine j_goto (tgt := 12) d_Br_anyOpen_8 (by decide) ?_
    exact j_zret hκ rfl (by first | exact Or.inl rfl | exact Or.inr rfl) (by omega) (by omega) d_Br_anyOpen_12 (by first | exact ⟨rv_1 (by omega), rfl⟩ | exact ⟨rv_0 (by omega), rfl⟩)

set_option maxHeartbeats 4000000 in
set_option maxRecDepth 100000 in
theorem c_Br_taken (l : Launch) (E : mp_E) (M : mp_M) (h : Nat) (o0 l0 : Int32) (h0 : M h = some (mp_o 0 [.int o0, .int l0])) : mp_Cr l m_Br_taken E M 1 0 0 [.ref h] (fun v N => v = some (.int (tf (decide (l0 = -1)))) ∧ N = M) := by
  refine mp_Cr.of (by decide) (Nat.le_of_ble_eq_true rfl) fun Γ κ hl hκ => ?_
  subst hl
  obtain ⟨hκd, hκc, hκs, -⟩ := id hκ
  show mp_J Γ m_Br_taken E κ M [(0, .ref h)] 0 [] 0 0
  refine j_aload_n d_Br_taken_0 rfl 0 rfl ?_
  refine j_get F_Br h0 1 (by decide) w_139 (Or.inl rfl) rfl d_Br_taken_1 ?_
  refine j_iconst (v := (-1)) d_Br_taken_4 (by decide) ?_
  refine j_icmp_ne 12 d_Br_taken_5 (by decide) (fun b5 => ?_) (fun b5 => ?_)
  · skip
    refine j_iconst (v := nI 0) d_Br_taken_12 (by decide) ?_
    exact j_zret hκ rfl (by first | exact Or.inl rfl | exact Or.inr rfl) (by omega) (by omega) d_Br_taken_13 (by first | exact ⟨rv_1 (by assumption), rfl⟩ | exact ⟨rv_0 (by assumption), rfl⟩)
  · skip
    refine j_iconst (v := nI 1) d_Br_taken_8 (by decide) ?_
    refine j_goto (tgt := 13) d_Br_taken_9 (by decide) ?_
    exact j_zret hκ rfl (by first | exact Or.inl rfl | exact Or.inr rfl) (by omega) (by omega) d_Br_taken_13 (by first | exact ⟨rv_1 (by assumption), rfl⟩ | exact ⟨rv_0 (by assumption), rfl⟩)

set_option maxHeartbeats 4000000 in
set_option maxRecDepth 100000 in
theorem c_Br_enter (l : Launch) (E : mp_E) (M : mp_M) (h : Nat) (p : Nat) (l0 : Int32) (b : Bool) (h0 : M h = some (mp_o 0 [.int (nI p), .int l0])) (hp : p < 1000) : mp_Cr l m_Br_enter E M 1 0 0 [.ref h, .int (tf b)] (fun v N => v = none ∧ N = mp_up M h (mp_o 0 [.int (nI (p + 1)), .int (if b = false ∧ l0 = -1 then nI p else l0)])) := by
  refine mp_Cr.of (by decide) (Nat.le_of_ble_eq_true rfl) fun Γ κ hl hκ => ?_
  subst hl
  obtain ⟨hκd, hκc, hκs, -⟩ := id hκ
  show mp_J Γ m_Br_enter E κ M [(0, .ref h), (1, .int (tf b))] 0 [] 0 0
  refine j_iload_n d_Br_enter_0 rfl 1 rfl ?_
  refine j_tif_ne 20 d_Br_enter_1 (by decide) (fun b1 => ?_) (fun b1 => ?_)
  · skip
    refine j_aload_n d_Br_enter_20 rfl 0 rfl ?_
    refine j_dup d_Br_enter_21 rfl ?_
    refine j_get F_Br h0 0 (by decide) w_138 (Or.inl rfl) rfl d_Br_enter_22 ?_
    refine j_iconst (v := nI 1) d_Br_enter_25 (by decide) ?_
    refine j_iadd d_Br_enter_26 ?_
    refine j_eqi (y := nI (p + 1)) (nI_add p 1) ?_
    refine j_put F_Br h0 0 (by decide) w_138 (Or.inl rfl) rfl rfl rfl (Nat.le_of_ble_eq_true rfl) d_Br_enter_27 ?_
    show mp_J Γ m_Br_enter E κ (mp_up M h (mp_o 0 [.int (nI (p + 1)), .int l0])) [(0, .ref h), (1, .int (tf b))] 30 [] 0 0
    generalize eM1 : mp_up M h (mp_o 0 [.int (nI (p + 1)), .int l0]) = M1
    have hM1_h : M1 h = some (mp_o 0 [.int (nI (p + 1)), .int l0]) := by rw [← eM1]; exact mp_s
    exact j_vret hκ rfl (by omega) (by omega) d_Br_enter_30 ⟨rfl, by rw [← eM1]; simp [*]⟩
  · skip
    refine j_aload_n d_Br_enter_4 rfl 0 rfl ?_
    refine j_get F_Br h0 1 (by decide) w_139 (Or.inl rfl) rfl d_Br_enter_5 ?_
    refine j_iconst (v := (-1)) d_Br_enter_8 (by decide) ?_
    refine j_icmp_ne 20 d_Br_enter_9 (by decide) (fun b9 => ?_) (fun b9 => ?_)
    · skip
      refine j_aload_n d_Br_enter_20 rfl 0 rfl ?_
      refine j_dup d_Br_enter_21 rfl ?_
      refine j_get F_Br h0 0 (by decide) w_138 (Or.inl rfl) rfl d_Br_enter_22 ?_
      refine j_iconst (v := nI 1) d_Br_enter_25 (by decide) ?_
      refine j_iadd d_Br_enter_26 ?_
      refine j_eqi (y := nI (p + 1)) (nI_add p 1) ?_
      refine j_put F_Br h0 0 (by decide) w_138 (Or.inl rfl) rfl rfl rfl (Nat.le_of_ble_eq_true rfl) d_Br_enter_27 ?_
      show mp_J Γ m_Br_enter E κ (mp_up M h (mp_o 0 [.int (nI (p + 1)), .int l0])) [(0, .ref h), (1, .int (tf b))] 30 [] 0 0
      generalize eM2 : mp_up M h (mp_o 0 [.int (nI (p + 1)), .int l0]) = M2
      have hM2_h : M2 h = some (mp_o 0 [.int (nI (p + 1)), .int l0]) := by rw [← eM2]; exact mp_s
      exact j_vret hκ rfl (by omega) (by omega) d_Br_enter_30 ⟨rfl, by rw [← eM2]; simp [*]⟩
    · skip
      refine j_aload_n d_Br_enter_12 rfl 0 rfl ?_
      refine j_aload_n d_Br_enter_13 rfl 0 rfl ?_
      refine j_get F_Br h0 0 (by decide) w_138 (Or.inl rfl) rfl d_Br_enter_14 ?_
      refine j_put F_Br h0 1 (by decide) w_139 (Or.inl rfl) rfl rfl rfl (Nat.le_of_ble_eq_true rfl) d_Br_enter_17 ?_
      show mp_J Γ m_Br_enter E κ (mp_up M h (mp_o 0 [.int (nI p), .int (nI p)])) [(0, .ref h), (1, .int (tf b))] 20 [] 0 0
      generalize eM3 : mp_up M h (mp_o 0 [.int (nI p), .int (nI p)]) = M3
      have hM3_h : M3 h = some (mp_o 0 [.int (nI p), .int (nI p)]) := by rw [← eM3]; exact mp_s
      refine j_aload_n d_Br_enter_20 rfl 0 rfl ?_
      refine j_dup d_Br_enter_21 rfl ?_
      refine j_get F_Br hM3_h 0 (by decide) w_138 (Or.inl rfl) rfl d_Br_enter_22 ?_
      refine j_iconst (v := nI 1) d_Br_enter_25 (by decide) ?_
      refine j_iadd d_Br_enter_26 ?_
      refine j_eqi (y := nI (p + 1)) (nI_add p 1) ?_
      refine j_put F_Br hM3_h 0 (by decide) w_138 (Or.inl rfl) rfl rfl rfl (Nat.le_of_ble_eq_true rfl) d_Br_enter_27 ?_
      show mp_J Γ m_Br_enter E κ (mp_up M3 h (mp_o 0 [.int (nI (p + 1)), .int (nI p)])) [(0, .ref h), (1, .int (tf b))] 30 [] 0 0
      generalize eM4 : mp_up M3 h (mp_o 0 [.int (nI (p + 1)), .int (nI p)]) = M4
      have hM4_h : M4 h = some (mp_o 0 [.int (nI (p + 1)), .int (nI p)]) := by rw [← eM4]; exact mp_s
      exact j_vret hκ rfl (by omega) (by omega) d_Br_enter_30 ⟨rfl, by rw [← eM4, ← eM3, mp_uu]; simp [*]⟩

set_option maxHeartbeats 4000000 in
set_option maxRecDepth 100000 in
theorem c_Br_turn (l : Launch) (E : mp_E) (M : mp_M) (h : Nat) (p : Nat) (l0 : Int32) (h0 : M h = some (mp_o 0 [.int (nI p), .int l0])) (hp : 0 < p ∧ p < 1000) : mp_Cr l m_Br_turn E M 1 0 0 [.ref h] (fun v N => v = none ∧ N = mp_up M h (mp_o 0 [.int (nI p), .int (if l0 = -1 then nI (p - 1) else if l0 = nI (p - 1) then -1 else l0)])) := by
  refine mp_Cr.of (by decide) (Nat.le_of_ble_eq_true rfl) fun Γ κ hl hκ => ?_
  subst hl
  obtain ⟨hκd, hκc, hκs, -⟩ := id hκ
  show mp_J Γ m_Br_turn E κ M [(0, .ref h)] 0 [] 0 0
  refine j_aload_n d_Br_turn_0 rfl 0 rfl ?_
  refine j_get F_Br h0 1 (by decide) w_139 (Or.inl rfl) rfl d_Br_turn_1 ?_
  refine j_iconst (v := (-1)) d_Br_turn_4 (by decide) ?_
  refine j_icmp_ne 21 d_Br_turn_5 (by decide) (fun b5 => ?_) (fun b5 => ?_)
  · skip
    refine j_aload_n d_Br_turn_21 rfl 0 rfl ?_
    refine j_get F_Br h0 1 (by decide) w_139 (Or.inl rfl) rfl d_Br_turn_22 ?_
    refine j_aload_n d_Br_turn_25 rfl 0 rfl ?_
    refine j_get F_Br h0 0 (by decide) w_138 (Or.inl rfl) rfl d_Br_turn_26 ?_
    refine j_iconst (v := nI 1) d_Br_turn_29 (by decide) ?_
    refine j_isub d_Br_turn_30 ?_
    refine j_eqi (y := nI (p - 1)) (pk_sub (by omega)) ?_
    refine j_icmp_ne 39 d_Br_turn_31 (by decide) (fun b31 => ?_) (fun b31 => ?_)
    · skip
      exact j_vret hκ rfl (by omega) (by omega) d_Br_turn_39 ⟨rfl, by first | (rw [if_pos b5, ← x]) | (rw [if_neg b5, if_pos b31, ← x]) | (rw [if_neg b5, if_neg b31, mp_same h0])⟩
    · skip
      refine j_aload_n d_Br_turn_34 rfl 0 rfl ?_
      refine j_iconst (v := (-1)) d_Br_turn_35 (by decide) ?_
      refine j_put F_Br h0 1 (by decide) w_139 (Or.inl rfl) rfl rfl rfl (Nat.le_of_ble_eq_true rfl) d_Br_turn_36 ?_
      show mp_J Γ m_Br_turn E κ (mp_up M h (mp_o 0 [.int (nI p), .int (-1)])) [(0, .ref h)] 39 [] 0 0
      generalize eM1 : mp_up M h (mp_o 0 [.int (nI p), .int (-1)]) = M1
      have hM1_h : M1 h = some (mp_o 0 [.int (nI p), .int (-1)]) := by rw [← eM1]; exact mp_s
      exact j_vret hκ rfl (by omega) (by omega) d_Br_turn_39 ⟨rfl, by first | (rw [if_pos b5, ← eM1]) | (rw [if_neg b5, if_pos b31, ← eM1]) | (rw [if_neg b5, if_neg b31, mp_same h0])⟩
  · skip
    refine j_aload_n d_Br_turn_8 rfl 0 rfl ?_
    refine j_aload_n d_Br_turn_9 rfl 0 rfl ?_
    refine j_get F_Br h0 0 (by decide) w_138 (Or.inl rfl) rfl d_Br_turn_10 ?_
    refine j_iconst (v := nI 1) d_Br_turn_13 (by decide) ?_
    refine j_isub d_Br_turn_14 ?_
    refine j_eqi (y := nI (p - 1)) (pk_sub (by omega)) ?_
    refine j_put F_Br h0 1 (by decide) w_139 (Or.inl rfl) rfl rfl rfl (Nat.le_of_ble_eq_true rfl) d_Br_turn_15 ?_
    show mp_J Γ m_Br_turn E κ (mp_up M h (mp_o 0 [.int (nI p), .int (nI (p - 1))])) [(0, .ref h)] 18 [] 0 0
    generalize eM2 : mp_up M h (mp_o 0 [.int (nI p), .int (nI (p - 1))]) = M2
    have hM2_h : M2 h = some (mp_o 0 [.int (nI p), .int (nI (p - 1))]) := by rw [← eM2]; exact mp_s
    refine j_goto (tgt := 39) d_Br_turn_18 (by decide) ?_
    exact j_vret hκ rfl (by omega) (by omega) d_Br_turn_39 ⟨rfl, by first | (rw [if_pos b5, ← eM2]) | (rw [if_neg b5, if_pos b31, ← eM2]) | (rw [if_neg b5, if_neg b31, mp_same h0])⟩

set_option maxHeartbeats 4000000 in
set_option maxRecDepth 100000 in
theorem c_Br_leave (l : Launch) (E : mp_E) (M : mp_M) (h : Nat) (p : Nat) (l0 : Int32) (h0 : M h = some (mp_o 0 [.int (nI p), .int l0])) (hp : 0 < p ∧ p < 1000) : mp_Cr l m_Br_leave E M 1 0 0 [.ref h] (fun v N => v = none ∧ N = mp_up M h (mp_o 0 [.int (nI (p - 1)), .int (if l0 = nI (p - 1) then -1 else l0)])) := by
  refine mp_Cr.of (by decide) (Nat.le_of_ble_eq_true rfl) fun Γ κ hl hκ => ?_
  subst hl
  obtain ⟨hκd, hκc, hκs, -⟩ := id hκ
  show mp_J Γ m_Br_leave E κ M [(0, .ref h)] 0 [] 0 0
  refine j_aload_n d_Br_leave_0 rfl 0 rfl ?_
  refine j_dup d_Br_leave_1 rfl ?_
  refine j_get F_Br h0 0 (by decide) w_138 (Or.inl rfl) rfl d_Br_leave_2 ?_
  refine j_iconst (v := nI 1) d_Br_leave_5 (by decide) ?_
  refine j_isub d_Br_leave_6 ?_
  refine j_eqi (y := nI (p - 1)) (pk_sub (by omega)) ?_
  refine j_put F_Br h0 0 (by decide) w_138 (Or.inl rfl) rfl rfl rfl (Nat.le_of_ble_eq_true rfl) d_Br_leave_7 ?_
  show mp_J Γ m_Br_leave E κ (mp_up M h (mp_o 0 [.int (nI (p - 1)), .int l0])) [(0, .ref h)] 10 [] 0 0
  generalize eM1 : mp_up M h (mp_o 0 [.int (nI (p - 1)), .int l0]) = M1
  have hM1_h : M1 h = some (mp_o 0 [.int (nI (p - 1)), .int l0]) := by rw [← eM1]; exact mp_s
  refine j_aload_n d_Br_leave_10 rfl 0 rfl ?_
  refine j_get F_Br hM1_h 1 (by decide) w_139 (Or.inl rfl) rfl d_Br_leave_11 ?_
  refine j_aload_n d_Br_leave_14 rfl 0 rfl ?_
  refine j_get F_Br hM1_h 0 (by decide) w_138 (Or.inl rfl) rfl d_Br_leave_15 ?_
  refine j_icmp_ne 26 d_Br_leave_18 (by decide) (fun b18 => ?_) (fun b18 => ?_)
  · skip
    exact j_vret hκ rfl (by omega) (by omega) d_Br_leave_26 ⟨rfl, by rw [← eM1]; simp [*]⟩
  · skip
    refine j_aload_n d_Br_leave_21 rfl 0 rfl ?_
    refine j_iconst (v := (-1)) d_Br_leave_22 (by decide) ?_
    refine j_put F_Br hM1_h 1 (by decide) w_139 (Or.inl rfl) rfl rfl rfl (Nat.le_of_ble_eq_true rfl) d_Br_leave_23 ?_
    show mp_J Γ m_Br_leave E κ (mp_up M1 h (mp_o 0 [.int (nI (p - 1)), .int (-1)])) [(0, .ref h)] 26 [] 0 0
    generalize eM2 : mp_up M1 h (mp_o 0 [.int (nI (p - 1)), .int (-1)]) = M2
    have hM2_h : M2 h = some (mp_o 0 [.int (nI (p - 1)), .int (-1)]) := by rw [← eM2]; exact mp_s
    exact j_vret hκ rfl (by omega) (by omega) d_Br_leave_26 ⟨rfl, by rw [← eM2, ← eM1, mp_uu]; simp [*]⟩
