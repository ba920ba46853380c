/-- how many bytes behind the code at a place belong to it -/
def cd_car (f : Nat → Int32) (p t : Nat) : Nat := if 76 < ub (f p) then 0 else if ub (f p) < 76 then ub (f p) else if p + 1 < t then 1 + ub (f (p + 1)) else 1
set_option maxHeartbeats 4000000 in
set_option maxRecDepth 100000 in
theorem c_Co_carried (l : Launch) (E : mp_E) (M : mp_M) (r n p t : Nat) (f : Nat → Int32) (h0 : M r = some (mp_b E n f)) (hn : n ≤ 1000) (ht : t ≤ n) (hp : p < t) : mp_Cr l m_Co_carried E M 1 0 0 [.ref r, .int (nI p), .int (nI t)] (fun v N => v = some (.int (nI (cd_car f p t))) ∧ N = M) := by
  refine mp_Cr.of (by decide) (Nat.le_of_ble_eq_true rfl) fun Γ κ hl hκ => ?_
  subst hl
  obtain ⟨hκd, hκc, hκs, -⟩ := id hκ
  have hu0 := ub_lt (f p)
  have hu1 := ub_lt (f (p + 1))
  show mp_J Γ m_Co_carried E κ M [(0, .ref r), (1, .int (nI p)), (2, .int (nI t))] 0 [] 0 0
  refine j_aload_n d_Co_carried_0 rfl 0 rfl ?_
  refine j_iload_n d_Co_carried_1 rfl 1 rfl ?_
  refine j_bald h0 p rfl (by omega) (by omega) d_Co_carried_2 ?_
  refine j_sipush (v := 255) d_Co_carried_3 (by decide) ?_
  refine j_iand d_Co_carried_6 ?_
  refine j_eqi (y := nI (ub (f p))) (ub_and _) ?_
  refine j_istore_n [(3, .int (nI (ub (f p)))), (0, .ref r), (1, .int (nI p)), (2, .int (nI t))] d_Co_carried_7 rfl (by decide) rfl ?_
  refine j_iload_n d_Co_carried_8 rfl 0 rfl ?_
  refine j_bipush (v := nI 76) d_Co_carried_9 (by decide) ?_
  refine j_ncmp_le 16 (ub (f p)) 76 rfl rfl (by omega) (by omega) d_Co_carried_11 (by decide) (fun b11 => ?_) (fun b11 => ?_)
  · skip
    refine j_iload_n d_Co_carried_16 rfl 0 rfl ?_
    refine j_bipush (v := nI 76) d_Co_carried_17 (by decide) ?_
    refine j_ncmp_ge 24 (ub (f p)) 76 rfl rfl (by omega) (by omega) d_Co_carried_19 (by decide) (fun b19 => ?_) (fun b19 => ?_)
    · skip
      refine j_iload_n d_Co_carried_24 rfl 2 rfl ?_
      refine j_iconst (v := nI 1) d_Co_carried_25 (by decide) ?_
      refine j_iadd d_Co_carried_26 ?_
      refine j_eqi (y := nI (p + 1)) (nI_add p 1) ?_
      refine j_iload_n d_Co_carried_27 rfl 3 rfl ?_
      refine j_ncmp_ge 45 (p + 1) t rfl rfl (by omega) (by omega) d_Co_carried_28 (by decide) (fun b28 => ?_) (fun b28 => ?_)
      · skip
        refine j_iconst (v := nI 1) d_Co_carried_45 (by decide) ?_
        exact j_iret hκ rfl (by omega) (by omega) d_Co_carried_46 ⟨(by unfold cd_car; first | rw [if_pos (by omega)] | rw [if_neg (by omega), if_pos (by omega)] | rw [if_neg (by omega), if_neg (by omega), if_pos (by omega)] | rw [if_neg (by omega), if_neg (by omega), if_neg (by omega)]), rfl⟩
      · skip
        refine j_iconst (v := nI 1) d_Co_carried_31 (by decide) ?_
        refine j_aload_n d_Co_carried_32 rfl 1 rfl ?_
        refine j_iload_n d_Co_carried_33 rfl 2 rfl ?_
        refine j_iconst (v := nI 1) d_Co_carried_34 (by decide) ?_
        refine j_iadd d_Co_carried_35 ?_
        refine j_eqi (y := nI (p + 1)) (nI_add p 1) ?_
        refine j_bald h0 (p + 1) rfl (by omega) (by omega) d_Co_carried_36 ?_
        refine j_sipush (v := 255) d_Co_carried_37 (by decide) ?_
        refine j_iand d_Co_carried_40 ?_
        refine j_eqi (y := nI (ub (f (p + 1)))) (ub_and _) ?_
        refine j_iadd d_Co_carried_41 ?_
        refine j_eqi (y := nI (1 + (ub (f (p + 1))))) (nI_add 1 (ub (f (p + 1)))) ?_
        refine j_goto (tgt := 46) d_Co_carried_42 (by decide) ?_
        exact j_iret hκ rfl (by omega) (by omega) d_Co_carried_46 ⟨(by unfold cd_car; first | rw [if_pos (by omega)] | rw [if_neg (by omega), if_pos (by omega)] | rw [if_neg (by omega), if_neg (by omega), if_pos (by omega)] | rw [if_neg (by omega), if_neg (by omega), if_neg (by omega)]), rfl⟩
    · skip
      refine j_iload_n d_Co_carried_22 rfl 0 rfl ?_
      exact j_iret hκ rfl (by omega) (by omega) d_Co_carried_23 ⟨(by unfold cd_car; first | rw [if_pos (by omega)] | rw [if_neg (by omega), if_pos (by omega)] | rw [if_neg (by omega), if_neg (by omega), if_pos (by omega)] | rw [if_neg (by omega), if_neg (by omega), if_neg (by omega)]), rfl⟩
  · skip
    refine j_iconst (v := nI 0) d_Co_carried_14 (by decide) ?_
    exact j_iret hκ rfl (by omega) (by omega) d_Co_carried_15 ⟨(by unfold cd_car; first | rw [if_pos (by omega)] | rw [if_neg (by omega), if_pos (by omega)] | rw [if_neg (by omega), if_neg (by omega), if_pos (by omega)] | rw [if_neg (by omega), if_neg (by omega), if_neg (by omega)]), rfl⟩

set_option maxHeartbeats 4000000 in
set_option maxRecDepth 100000 in
theorem c_Co_isPush (l : Launch) (E : mp_E) (M : mp_M) (c : Nat) (hc : c < 256) : mp_Cr l m_Co_isPush E M 1 0 0 [.int (nI c)] (fun v N => v = some (.int (tf (decide (c ≤ 76)))) ∧ N = M) := by
  refine mp_Cr.of (by decide) (Nat.le_of_ble_eq_true rfl) fun Γ κ hl hκ => ?_
  subst hl
  obtain ⟨hκd, hκc, hκs, -⟩ := id hκ
  show mp_J Γ m_Co_isPush E κ M [(0, .int (nI c))] 0 [] 0 0
  refine j_iload_n d_Co_isPush_0 rfl 0 rfl ?_
  refine j_bipush (v := nI 76) d_Co_isPush_1 (by decide) ?_
  refine j_ncmp_gt 10 c 76 rfl rfl (by omega) (by omega) d_Co_isPush_3 (by decide) (fun b3 => ?_) (fun b3 => ?_)
  · skip
    refine j_iconst (v := nI 0) d_Co_isPush_10 (by decide) ?_
    exact j_zret hκ rfl (by first | exact Or.inl rfl | exact Or.inr rfl) (by omega) (by omega) d_Co_isPush_11 (by first | exact ⟨rv_1 (by omega), rfl⟩ | exact ⟨rv_0 (by omega), rfl⟩)
  · skip
    refine j_iconst (v := nI 1) d_Co_isPush_6 (by decide) ?_
    refine j_goto (tgt := 11) d_Co_isPush_7 (by decide) ?_
    exact j_zret hκ rfl (by first | exact Or.inl rfl | exact Or.inr rfl) (by omega) (by omega) d_Co_isPush_11 (by first | exact ⟨rv_1 (by omega), rfl⟩ | exact ⟨rv_0 (by omega), rfl⟩)

set_option maxHeartbeats 4000000 in
set_option maxRecDepth 100000 in
theorem c_Co_isBranch (l : Launch) (E : mp_E) (M : mp_M) (c : Nat) (hc : c < 256) : mp_Cr l m_Co_isBranch E M 1 0 0 [.int (nI c)] (fun v N => v = some (.int (tf (decide (c = 99 ∨ c = 100 ∨ c = 103 ∨ c = 104)))) ∧ N = M) := by
  refine mp_Cr.of (by decide) (Nat.le_of_ble_eq_true rfl) fun Γ κ hl hκ => ?_
  subst hl
  obtain ⟨hκd, hκc, hκs, -⟩ := id hκ
  show mp_J Γ m_Co_isBranch E κ M [(0, .int (nI c))] 0 [] 0 0
  refine j_iload_n d_Co_isBranch_0 rfl 0 rfl ?_
  refine j_bipush (v := nI 99) d_Co_isBranch_1 (by decide) ?_
  refine j_ncmp_eq 24 c 99 rfl rfl (by omega) (by omega) d_Co_isBranch_3 (by decide) (fun b3 => ?_) (fun b3 => ?_)
  · skip
    refine j_iconst (v := nI 1) d_Co_isBranch_24 (by decide) ?_
    refine j_goto (tgt := 29) d_Co_isBranch_25 (by decide) ?_
    exact j_zret hκ rfl (by first | exact Or.inl rfl | exact Or.inr rfl) (by omega) (by omega) d_Co_isBranch_29 (by first | exact ⟨rv_1 (by omega), rfl⟩ | exact ⟨rv_0 (by omega), rfl⟩)
  · skip
    refine j_iload_n d_Co_isBranch_6 rfl 0 rfl ?_
    refine j_bipush (v := nI 100) d_Co_isBranch_7 (by decide) ?_
    refine j_ncmp_eq 24 c 100 rfl rfl (by omega) (by omega) d_Co_isBranch_9 (by decide) (fun b9 => ?_) (fun b9 => ?_)
    · skip
      refine j_iconst (v := nI 1) d_Co_isBranch_24 (by decide) ?_
      refine j_goto (tgt := 29) d_Co_isBranch_25 (by decide) ?_
      exact j_zret hκ rfl (by first | exact Or.inl rfl | exact Or.inr rfl) (by omega) (by omega) d_Co_isBranch_29 (by first | exact ⟨rv_1 (by omega), rfl⟩ | exact ⟨rv_0 (by omega), rfl⟩)
    · skip
      refine j_iload_n d_Co_isBranch_12 rfl 0 rfl ?_
      refine j_bipush (v := nI 103) d_Co_isBranch_13 (by decide) ?_
      refine j_ncmp_eq 24 c 103 rfl rfl (by omega) (by omega) d_Co_isBranch_15 (by decide) (fun b15 => ?_) (fun b15 => ?_)
      · skip
        refine j_iconst (v := nI 1) d_Co_isBranch_24 (by decide) ?_
        refine j_goto (tgt := 29) d_Co_isBranch_25 (by decide) ?_
        exact j_zret hκ rfl (by first | exact Or.inl rfl | exact Or.inr rfl) (by omega) (by omega) d_Co_isBranch_29 (by first | exact ⟨rv_1 (by omega), rfl⟩ | exact ⟨rv_0 (by omega), rfl⟩)
      · skip
        refine j_iload_n d_Co_isBranch_18 rfl 0 rfl ?_
        refine j_bipush (v := nI 104) d_Co_isBranch_19 (by decide) ?_
        refine j_ncmp_ne 28 c 104 rfl rfl (by omega) (by omega) d_Co_isBranch_21 (by decide) (fun b21 => ?_) (fun b21 => ?_)
        · skip
          refine j_iconst (v := nI 0) d_Co_isBranch_28 (by decide) ?_
          exact j_zret hκ rfl (by first | exact Or.inl rfl | exact Or.inr rfl) (by omega) (by omega) d_Co_isBranch_29 (by first | exact ⟨rv_1 (by omega), rfl⟩ | exact ⟨rv_0 (by omega), rfl⟩)
        · skip
          refine j_iconst (v := nI 1) d_Co_isBranch_24 (by decide) ?_
          refine j_goto (tgt := 29) d_Co_isBranch_25 (by decide) ?_
          exact j_zret hκ rfl (by first | exact Or.inl rfl | exact Or.inr rfl) (by omega) (by omega) d_Co_isBranch_29 (by first | exact ⟨rv_1 (by omega), rfl⟩ | exact ⟨rv_0 (by omega), rfl⟩)

set_option maxHeartbeats 4000000 in
set_option maxRecDepth 100000 in
theorem c_Th_init (l : Launch) (E : mp_E) (M : mp_M) (h b : Nat) (h0 : M h = some (mp_o 5 [.null])) : mp_Cr l m_Th_init E M 2 0 0 [.ref h, .ref b] (fun v N => v = none ∧ N = mp_up M h (mp_o 5 [.ref b])) := by
  refine mp_Cr.of (by decide) (Nat.le_of_ble_eq_true rfl) fun Γ κ hl hκ => ?_
  subst hl
  obtain ⟨hκd, hκc, hκs, -⟩ := id hκ
  show mp_J Γ m_Th_init E κ M [(0, .ref h), (1, .ref b)] 0 [] 0 0
  refine j_aload_n d_Th_init_0 rfl 0 rfl ?_
  refine j_objInit w_115 w_36 w_37 (Nat.le_of_ble_eq_true rfl) (by omega) d_Th_init_1 ?_
  refine j_aload_n d_Th_init_4 rfl 0 rfl ?_
  refine j_aload_n d_Th_init_5 rfl 1 rfl ?_
  refine j_putF F_Th h0 0 (by decide) w_116 (Or.inl rfl) rfl rfl rfl rfl rfl (Nat.le_of_ble_eq_true rfl) d_Th_init_6 ?_
  show mp_J Γ m_Th_init E κ (mp_up M h (mp_o 5 [.ref b])) [(0, .ref h), (1, .ref b)] 9 [] 0 0
  generalize eM1 : mp_up M h (mp_o 5 [.ref b]) = M1
  have hM1_h : M1 h = some (mp_o 5 [.ref b]) := by rw [← eM1]; exact mp_s
  exact j_vret hκ rfl (by omega) (by omega) d_Th_init_9 ⟨rfl, by rw [← eM1]⟩

set_option maxHeartbeats 4000000 in
set_option maxRecDepth 100000 in
theorem c_Th_length (l : Launch) (E : mp_E) (M : mp_M) (h b m : Nat) (f : Nat → Int32) (h0 : M h = some (mp_o 5 [.ref b])) (h1 : M b = some (mp_b E m f)) (hm : m ≤ 1000) : mp_Cr l m_Th_length E M 1 0 0 [.ref h] (fun v N => v = some (.int (nI m)) ∧ N = M) := by
  refine mp_Cr.of (by decide) (Nat.le_of_ble_eq_true rfl) fun Γ κ hl hκ => ?_
  subst hl
  obtain ⟨hκd, hκc, hκs, -⟩ := id hκ
  show mp_J Γ m_Th_length E κ M [(0, .ref h)] 0 [] 0 0
  refine j_aload_n d_Th_length_0 rfl 0 rfl ?_
  refine j_get F_Th h0 0 (by decide) w_116 (Or.inl rfl) rfl d_Th_length_1 ?_
  refine j_alen 0 h1 rfl d_Th_length_4 ?_
  show mp_J Γ m_Th_length E κ M [(0, .ref h)] 5 [.int (nI m)] 0 0
  exact j_iret hκ rfl (by omega) (by omega) d_Th_length_5 ⟨rfl, rfl⟩

set_option maxHeartbeats 4000000 in
set_option maxRecDepth 100000 in
theorem c_Th_isNumber (l : Launch) (E : mp_E) (M : mp_M) (h b m : Nat) (f : Nat → Int32) (h0 : M h = some (mp_o 5 [.ref b])) (h1 : M b = some (mp_b E m f)) (hm : m ≤ 1000) : mp_Cr l m_Th_isNumber E M 1 0 0 [.ref h] (fun v N => v = some (.int (tf (decide (m ≤ 4)))) ∧ N = M) := by
  refine mp_Cr.of (by decide) (Nat.le_of_ble_eq_true rfl) fun Γ κ hl hκ => ?_
  subst hl
  obtain ⟨hκd, hκc, hκs, -⟩ := id hκ
  show mp_J Γ m_Th_isNumber E κ M [(0, .ref h)] 0 [] 0 0
  refine j_aload_n d_Th_isNumber_0 rfl 0 rfl ?_
  refine j_get F_Th h0 0 (by decide) w_116 (Or.inl rfl) rfl d_Th_isNumber_1 ?_
  refine j_alen 0 h1 rfl d_Th_isNumber_4 ?_
  show mp_J Γ m_Th_isNumber E κ M [(0, .ref h)] 5 [.int (nI m)] 0 0
  refine j_iconst (v := nI 4) d_Th_isNumber_5 (by decide) ?_
  refine j_ncmp_gt 13 m 4 rfl rfl (by omega) (by omega) d_Th_isNumber_6 (by decide) (fun b6 => ?_) (fun b6 => ?_)
  · skip
    refine j_iconst (v := nI 0) d_Th_isNumber_13 (by decide) ?_
    exact j_zret hκ rfl (by first | exact Or.inl rfl | exact Or.inr rfl) (by omega) (by omega) d_Th_isNumber_14 (by first | exact ⟨rv_1 (by omega), rfl⟩ | exact ⟨rv_0 (by omega), rfl⟩)
  · skip
    refine j_iconst (v := nI 1) d_Th_isNumber_9 (by decide) ?_
    refine j_goto (tgt := 14) d_Th_isNumber_10 (by decide) ?_
    exact j_zret hκ rfl (by first | exact Or.inl rfl | exact Or.inr rfl) (by omega) (by omega) d_Th_isNumber_14 (by first | exact ⟨rv_1 (by omega), rfl⟩ | exact ⟨rv_0 (by omega), rfl⟩)

def th_at (m : Nat) (f : Nat → Int32) (j : Nat) : Nat := if j < m then ub (f j) else 0
set_option maxHeartbeats 4000000 in
set_option maxRecDepth 100000 in
theorem c_Th_byteAt (l : Launch) (E : mp_E) (M : mp_M) (h b m j : Nat) (f : Nat → Int32) (h0 : M h = some (mp_o 5 [.ref b])) (h1 : M b = some (mp_b E m f)) (hm : m ≤ 1000) (hj : j < 100000) : mp_Cr l m_Th_byteAt E M 1 0 0 [.ref h, .int (nI j)] (fun v N => v = some (.int (nI (th_at m f j))) ∧ N = M) := by
  refine mp_Cr.of (by decide) (Nat.le_of_ble_eq_true rfl) fun Γ κ hl hκ => ?_
  subst hl
  obtain ⟨hκd, hκc, hκs, -⟩ := id hκ
  show mp_J Γ m_Th_byteAt E κ M [(0, .ref h), (1, .int (nI j))] 0 [] 0 0
  refine j_iload_n d_Th_byteAt_0 rfl 1 rfl ?_
  refine j_nif_lt 26 j rfl (by omega) d_Th_byteAt_1 (by decide) (fun b1 => b1.elim) (fun b1 => ?_)
  refine j_iload_n d_Th_byteAt_4 rfl 1 rfl ?_
  refine j_aload_n d_Th_byteAt_5 rfl 0 rfl ?_
  refine j_get F_Th h0 0 (by decide) w_116 (Or.inl rfl) rfl d_Th_byteAt_6 ?_
  refine j_alen 0 h1 rfl d_Th_byteAt_9 ?_
  show mp_J Γ m_Th_byteAt E κ M [(0, .ref h), (1, .int (nI j))] 10 [.int (nI m), .int (nI j)] 0 0
  refine j_ncmp_ge 26 j m rfl rfl (by omega) (by omega) d_Th_byteAt_10 (by decide) (fun b10 => ?_) (fun b10 => ?_)
  · skip
    refine j_iconst (v := nI 0) d_Th_byteAt_26 (by decide) ?_
    exact j_iret hκ rfl (by omega) (by omega) d_Th_byteAt_27 ⟨(by unfold th_at; first | rw [if_pos (by omega)] | rw [if_neg (by omega)]), rfl⟩
  · skip
    refine j_aload_n d_Th_byteAt_13 rfl 0 rfl ?_
    refine j_get F_Th h0 0 (by decide) w_116 (Or.inl rfl) rfl d_Th_byteAt_14 ?_
    refine j_iload_n d_Th_byteAt_17 rfl 1 rfl ?_
    refine j_bald h1 j rfl (by omega) (by omega) d_Th_byteAt_18 ?_
    refine j_sipush (v := 255) d_Th_byteAt_19 (by decide) ?_
    refine j_iand d_Th_byteAt_22 ?_
    refine j_eqi (y := nI (ub (f j))) (ub_and _) ?_
    refine j_goto (tgt := 27) d_Th_byteAt_23 (by decide) ?_
    exact j_iret hκ rfl (by omega) (by omega) d_Th_byteAt_27 ⟨(by unfold th_at; first | rw [if_pos (by omega)] | rw [if_neg (by omega)]), rfl⟩

set_option maxHeartbeats 4000000 in
set_option maxRecDepth 100000 in
theorem c_Th_byteAtN (l : Launch) (E : mp_E) (M : mp_M) (h b m : Nat) (i : Int32) (f : Nat → Int32) (h0 : M h = some (mp_o 5 [.ref b])) (h1 : M b = some (mp_b E m f)) (hm : m ≤ 1000) (hi : i < 0) : mp_Cr l m_Th_byteAt E M 1 0 0 [.ref h, .int i] (fun v N => v = some (.int (nI 0)) ∧ N = M) := by
  refine mp_Cr.of (by decide) (Nat.le_of_ble_eq_true rfl) fun Γ κ hl hκ => ?_
  subst hl
  obtain ⟨hκd, hκc, hκs, -⟩ := id hκ
  show mp_J Γ m_Th_byteAt E κ M [(0, .ref h), (1, .int i)] 0 [] 0 0
  refine j_iload_n d_Th_byteAt_0 rfl 1 rfl ?_
  refine j_if_lt 26 d_Th_byteAt_1 (by decide) (fun b1 => ?_) (fun b1 => absurd hi b1)
  refine j_iconst (v := nI 0) d_Th_byteAt_26 (by decide) ?_
  exact j_iret hκ rfl (by omega) (by omega) d_Th_byteAt_27 ⟨rfl, rfl⟩
