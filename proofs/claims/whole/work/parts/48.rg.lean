theorem sh_neg1 : ∀ n, n < 32 → (-nI n) &&& 31 = nI (32 - n) &&& 31 := by decide
theorem sh_rrN (x : Int32) {n : Nat} (h : n < 32) : (x.toUInt32 >>> ((nI n).toUInt32 &&& Int32.toUInt32 31)).toInt32 ||| (x <<< (nI (32 - n) &&& 31)) = sh_rr x (nI n) := by
  unfold sh_rr sh_shl sh_ush
  rw [sh_neg1 n h]
set_option maxHeartbeats 4000000 in
set_option maxRecDepth 100000 in
theorem c_Mo_turn (l : Launch) (E : mp_E) (M : mp_M) (x : Int32) (n : Nat) (hn : n < 32) : mp_Cr l m_Mo_turn E M 1 0 0 [.int x, .int (nI n)] (fun v N => v = some (.int (sh_rr x (nI n))) ∧ N = M) := by
  refine mp_Cr.of (by decide) (Nat.le_of_ble_eq_true rfl) fun Γ κ hl hκ => ?_
  subst hl
  obtain ⟨hκd, hκc, hκs, -⟩ := id hκ
  show mp_J Γ m_Mo_turn E κ M [(0, .int x), (1, .int (nI n))] 0 [] 0 0
  refine j_iload_n d_Mo_turn_0 rfl 0 rfl ?_
  refine j_iload_n d_Mo_turn_1 rfl 1 rfl ?_
  refine j_iushr d_Mo_turn_2 ?_
  refine j_iload_n d_Mo_turn_3 rfl 0 rfl ?_
  refine j_bipush (v := nI 32) d_Mo_turn_4 (by decide) ?_
  refine j_iload_n d_Mo_turn_6 rfl 1 rfl ?_
  refine j_isub d_Mo_turn_7 ?_
  refine j_eqi (y := nI (32 - n)) (pk_sub (by omega)) ?_
  refine j_ishl d_Mo_turn_8 ?_
  refine j_ior d_Mo_turn_9 ?_
  exact j_iret hκ rfl (by omega) (by omega) d_Mo_turn_10 ⟨by rw [← sh_rrN x hn], rfl⟩

set_option maxHeartbeats 4000000 in
set_option maxRecDepth 100000 in
theorem c_Mo_mix (l : Launch) (E : mp_E) (M : mp_M) (kd : Nat) (x y z : Int32) (hk : kd < 5) : mp_Cr l m_Mo_mix E M 1 0 0 [.int (nI kd), .int x, .int y, .int z] (fun v N => v = some (.int (rp_f kd x y z)) ∧ N = M) := by
  refine mp_Cr.of (by decide) (Nat.le_of_ble_eq_true rfl) fun Γ κ hl hκ => ?_
  subst hl
  obtain ⟨hκd, hκc, hκs, -⟩ := id hκ
  show mp_J Γ m_Mo_mix E κ M [(0, .int (nI kd)), (1, .int x), (2, .int y), (3, .int z)] 0 [] 0 0
  refine j_iload_n d_Mo_mix_0 rfl 0 rfl ?_
  rcases (show kd < 0 ∨ 3 < kd ∨ kd = 0 ∨ kd = 1 ∨ kd = 2 ∨ kd = 3 by omega) with hz9 | hz9 | rfl | rfl | rfl | rfl
  · skip
    refine j_tableOut 66 d_Mo_mix_1 (Or.inl (by rw [nI_toInt (by omega)]; omega)) (by decide) ?_
    refine j_iload_n d_Mo_mix_66 rfl 1 rfl ?_
    refine j_iload_n d_Mo_mix_67 rfl 2 rfl ?_
    refine j_iload_n d_Mo_mix_68 rfl 3 rfl ?_
    refine j_iconst (v := (-1)) d_Mo_mix_69 (by decide) ?_
    refine j_ixor d_Mo_mix_70 ?_
    refine j_ior d_Mo_mix_71 ?_
    refine j_ixor d_Mo_mix_72 ?_
    exact j_iret hκ rfl (by omega) (by omega) d_Mo_mix_73 ⟨by unfold rp_f; rw [if_neg (by omega), if_neg (by omega), if_neg (by omega), if_neg (by omega)], rfl⟩
  · skip
    refine j_tableOut 66 d_Mo_mix_1 (Or.inr (by rw [nI_toInt (by omega)]; omega)) (by decide) ?_
    refine j_iload_n d_Mo_mix_66 rfl 1 rfl ?_
    refine j_iload_n d_Mo_mix_67 rfl 2 rfl ?_
    refine j_iload_n d_Mo_mix_68 rfl 3 rfl ?_
    refine j_iconst (v := (-1)) d_Mo_mix_69 (by decide) ?_
    refine j_ixor d_Mo_mix_70 ?_
    refine j_ior d_Mo_mix_71 ?_
    refine j_ixor d_Mo_mix_72 ?_
    exact j_iret hκ rfl (by omega) (by omega) d_Mo_mix_73 ⟨by unfold rp_f; rw [if_neg (by omega), if_neg (by omega), if_neg (by omega), if_neg (by omega)], rfl⟩
  · skip
    refine j_tableIn 32 d_Mo_mix_1 (by decide) (by decide) rfl (by decide) ?_
    refine j_iload_n d_Mo_mix_32 rfl 1 rfl ?_
    refine j_iload_n d_Mo_mix_33 rfl 2 rfl ?_
    refine j_ixor d_Mo_mix_34 ?_
    refine j_iload_n d_Mo_mix_35 rfl 3 rfl ?_
    refine j_ixor d_Mo_mix_36 ?_
    exact j_iret hκ rfl (by omega) (by omega) d_Mo_mix_37 ⟨rfl, rfl⟩
  · skip
    refine j_tableIn 38 d_Mo_mix_1 (by decide) (by decide) rfl (by decide) ?_
    refine j_iload_n d_Mo_mix_38 rfl 1 rfl ?_
    refine j_iload_n d_Mo_mix_39 rfl 2 rfl ?_
    refine j_iand d_Mo_mix_40 ?_
    refine j_iload_n d_Mo_mix_41 rfl 1 rfl ?_
    refine j_iconst (v := (-1)) d_Mo_mix_42 (by decide) ?_
    refine j_ixor d_Mo_mix_43 ?_
    refine j_iload_n d_Mo_mix_44 rfl 3 rfl ?_
    refine j_iand d_Mo_mix_45 ?_
    refine j_ior d_Mo_mix_46 ?_
    exact j_iret hκ rfl (by omega) (by omega) d_Mo_mix_47 ⟨rfl, rfl⟩
  · skip
    refine j_tableIn 48 d_Mo_mix_1 (by decide) (by decide) rfl (by decide) ?_
    refine j_iload_n d_Mo_mix_48 rfl 1 rfl ?_
    refine j_iload_n d_Mo_mix_49 rfl 2 rfl ?_
    refine j_iconst (v := (-1)) d_Mo_mix_50 (by decide) ?_
    refine j_ixor d_Mo_mix_51 ?_
    refine j_ior d_Mo_mix_52 ?_
    refine j_iload_n d_Mo_mix_53 rfl 3 rfl ?_
    refine j_ixor d_Mo_mix_54 ?_
    exact j_iret hκ rfl (by omega) (by omega) d_Mo_mix_55 ⟨rfl, rfl⟩
  · skip
    refine j_tableIn 56 d_Mo_mix_1 (by decide) (by decide) rfl (by decide) ?_
    refine j_iload_n d_Mo_mix_56 rfl 1 rfl ?_
    refine j_iload_n d_Mo_mix_57 rfl 3 rfl ?_
    refine j_iand d_Mo_mix_58 ?_
    refine j_iload_n d_Mo_mix_59 rfl 2 rfl ?_
    refine j_iload_n d_Mo_mix_60 rfl 3 rfl ?_
    refine j_iconst (v := (-1)) d_Mo_mix_61 (by decide) ?_
    refine j_ixor d_Mo_mix_62 ?_
    refine j_iand d_Mo_mix_63 ?_
    refine j_ior d_Mo_mix_64 ?_
    exact j_iret hκ rfl (by omega) (by omega) d_Mo_mix_65 ⟨rfl, rfl⟩
