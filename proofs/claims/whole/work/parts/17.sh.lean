set_option maxHeartbeats 4000000 in
set_option maxRecDepth 100000 in
theorem lp_stretch {Γ : mp_G} {κ : mp_K} (E : mp_E) (M : mp_M) (h tu s w : Nat) (f : Nat → Int32) (h0 : M h = some (mp_o 3 [.ref tu, .ref s, .ref w, .ref (E.2.2.2 8), .int (tf true)])) (hw : M w = some (mp_i E 64 f)) (hκ : mp_k κ 2 0 0 (fun v N => v = none ∧ N = mp_up M w (mp_i E 64 (sh_ext f 48)))) : ∀ (r : Nat) (Mx : mp_M) (i : Nat), 48 - i < r → (Mx = mp_up M w (mp_i E 64 (sh_ext f i))) → (i ≤ 48) → mp_J Γ m_Sh_stretch E κ Mx [(0, .ref h), (1, .int (nI (16 + i)))] 3 [] 0 0 := by
  obtain ⟨hκd, hκc, hκs, -⟩ := id hκ
  intro r
  induction r with
  | zero => intro Mx i hr; exact absurd hr (Nat.not_lt_zero _)
  | succ r ih =>
    intro Mx i hr eX hi
    have hX0 := mp_kp eX (mp_ne h0 hw mp_noa) h0
    have hX1 : Mx w = some (mp_i E 64 (sh_ext f i)) := by rw [eX]; exact mp_s
    refine j_iload_n d_Sh_stretch_3 rfl 1 rfl ?_
    refine j_bipush (v := nI 64) d_Sh_stretch_4 (by decide) ?_
    refine j_ncmp_ge 104 (16 + i) 64 rfl rfl (by omega) (by omega) d_Sh_stretch_6 (by decide) (fun b6 => ?_) (fun b6 => ?_)
    · skip
      exact j_vret hκ rfl (by omega) (by omega) d_Sh_stretch_104 ⟨rfl, by rw [eX, show i = 48 by omega]⟩
    · skip
      refine j_aload_n d_Sh_stretch_9 rfl 0 rfl ?_
      refine j_get F_Sh hX0 2 (by decide) w_59 (Or.inr w_60) rfl d_Sh_stretch_10 ?_
      refine j_iload_n d_Sh_stretch_13 rfl 1 rfl ?_
      refine j_bipush (v := nI 15) d_Sh_stretch_14 (by decide) ?_
      refine j_isub d_Sh_stretch_16 ?_
      refine j_eqi (y := nI ((16 + i) - 15)) (pk_sub (by omega)) ?_
      refine j_iald hX1 ((16 + i) - 15) rfl (by omega) (by omega) d_Sh_stretch_17 ?_
      refine j_istore_n [(2, .int ((sh_ext f i) ((16 + i) - 15))), (0, .ref h), (1, .int (nI (16 + i)))] d_Sh_stretch_18 rfl (by decide) rfl ?_
      refine j_aload_n d_Sh_stretch_19 rfl 1 rfl ?_
      refine j_get F_Sh hX0 2 (by decide) w_59 (Or.inr w_60) rfl d_Sh_stretch_20 ?_
      refine j_iload_n d_Sh_stretch_23 rfl 2 rfl ?_
      refine j_iconst (v := nI 2) d_Sh_stretch_24 (by decide) ?_
      refine j_isub d_Sh_stretch_25 ?_
      refine j_eqi (y := nI ((16 + i) - 2)) (pk_sub (by omega)) ?_
      refine j_iald hX1 ((16 + i) - 2) rfl (by omega) (by omega) d_Sh_stretch_26 ?_
      refine j_istore_n [(3, .int ((sh_ext f i) ((16 + i) - 2))), (2, .int ((sh_ext f i) ((16 + i) - 15))), (0, .ref h), (1, .int (nI (16 + i)))] d_Sh_stretch_27 rfl (by decide) rfl ?_
      refine j_iload_n d_Sh_stretch_28 rfl 1 rfl ?_
      refine j_bipush (v := nI 7) d_Sh_stretch_29 (by decide) ?_
      refine j_callS (As := [.int ((sh_ext f i) ((16 + i) - 15)), .int (nI 7)]) (rest := []) (c_In_rotateRight Γ.l E Mx ((sh_ext f i) ((16 + i) - 15)) (nI 7)) Y_In_rotateRight w_820 w_821 rfl rfl (Nat.le_of_ble_eq_true rfl) (by omega) (by omega) (by omega) d_Sh_stretch_31 (fun v31 N31 p31 => ?_)
      obtain ⟨rfl, q31⟩ := p31
      obtain rfl := q31.symm
      show mp_J Γ m_Sh_stretch E κ Mx [(3, .int ((sh_ext f i) ((16 + i) - 2))), (2, .int ((sh_ext f i) ((16 + i) - 15))), (0, .ref h), (1, .int (nI (16 + i)))] 34 [.int (sh_rr ((sh_ext f i) ((16 + i) - 15)) (nI 7))] 0 0
      refine j_iload_n d_Sh_stretch_34 rfl 1 rfl ?_
      refine j_bipush (v := nI 18) d_Sh_stretch_35 (by decide) ?_
      refine j_callS (As := [.int ((sh_ext f i) ((16 + i) - 15)), .int (nI 18)]) (rest := [.int (sh_rr ((sh_ext f i) ((16 + i) - 15)) (nI 7))]) (c_In_rotateRight Γ.l E Mx ((sh_ext f i) ((16 + i) - 15)) (nI 18)) Y_In_rotateRight w_820 w_821 rfl rfl (Nat.le_of_ble_eq_true rfl) (by omega) (by omega) (by omega) d_Sh_stretch_37 (fun v37 N37 p37 => ?_)
      obtain ⟨rfl, q37⟩ := p37
      obtain rfl := q37.symm
      show mp_J Γ m_Sh_stretch E κ Mx [(3, .int ((sh_ext f i) ((16 + i) - 2))), (2, .int ((sh_ext f i) ((16 + i) - 15))), (0, .ref h), (1, .int (nI (16 + i)))] 40 [.int (sh_rr ((sh_ext f i) ((16 + i) - 15)) (nI 18)), .int (sh_rr ((sh_ext f i) ((16 + i) - 15)) (nI 7))] 0 0
      refine j_ixor d_Sh_stretch_40 ?_
      refine j_iload_n d_Sh_stretch_41 rfl 1 rfl ?_
      refine j_iconst (v := nI 3) d_Sh_stretch_42 (by decide) ?_
      refine j_iushr d_Sh_stretch_43 ?_
      refine j_ixor d_Sh_stretch_44 ?_
      refine j_eqi (y := sh_s0 (sh_ext f i (16 + i - 15))) rfl ?_
      refine j_istore [(4, .int (sh_s0 (sh_ext f i (16 + i - 15)))), (3, .int ((sh_ext f i) ((16 + i) - 2))), (2, .int ((sh_ext f i) ((16 + i) - 15))), (0, .ref h), (1, .int (nI (16 + i)))] d_Sh_stretch_45 (by decide) rfl ?_
      refine j_iload_n d_Sh_stretch_47 rfl 1 rfl ?_
      refine j_bipush (v := nI 17) d_Sh_stretch_48 (by decide) ?_
      refine j_callS (As := [.int ((sh_ext f i) ((16 + i) - 2)), .int (nI 17)]) (rest := []) (c_In_rotateRight Γ.l E Mx ((sh_ext f i) ((16 + i) - 2)) (nI 17)) Y_In_rotateRight w_820 w_821 rfl rfl (Nat.le_of_ble_eq_true rfl) (by omega) (by omega) (by omega) d_Sh_stretch_50 (fun v50 N50 p50 => ?_)
      obtain ⟨rfl, q50⟩ := p50
      obtain rfl := q50.symm
      show mp_J Γ m_Sh_stretch E κ Mx [(4, .int (sh_s0 (sh_ext f i (16 + i - 15)))), (3, .int ((sh_ext f i) ((16 + i) - 2))), (2, .int ((sh_ext f i) ((16 + i) - 15))), (0, .ref h), (1, .int (nI (16 + i)))] 53 [.int (sh_rr ((sh_ext f i) ((16 + i) - 2)) (nI 17))] 0 0
      refine j_iload_n d_Sh_stretch_53 rfl 1 rfl ?_
      refine j_bipush (v := nI 19) d_Sh_stretch_54 (by decide) ?_
      refine j_callS (As := [.int ((sh_ext f i) ((16 + i) - 2)), .int (nI 19)]) (rest := [.int (sh_rr ((sh_ext f i) ((16 + i) - 2)) (nI 17))]) (c_In_rotateRight Γ.l E Mx ((sh_ext f i) ((16 + i) - 2)) (nI 19)) Y_In_rotateRight w_820 w_821 rfl rfl (Nat.le_of_ble_eq_true rfl) (by omega) (by omega) (by omega) d_Sh_stretch_56 (fun v56 N56 p56 => ?_)
      obtain ⟨rfl, q56⟩ := p56
      obtain rfl := q56.symm
      show mp_J Γ m_Sh_stretch E κ Mx [(4, .int (sh_s0 (sh_ext f i (16 + i - 15)))), (3, .int ((sh_ext f i) ((16 + i) - 2))), (2, .int ((sh_ext f i) ((16 + i) - 15))), (0, .ref h), (1, .int (nI (16 + i)))] 59 [.int (sh_rr ((sh_ext f i) ((16 + i) - 2)) (nI 19)), .int (sh_rr ((sh_ext f i) ((16 + i) - 2)) (nI 17))] 0 0
      refine j_ixor d_Sh_stretch_59 ?_
      refine j_iload_n d_Sh_stretch_60 rfl 1 rfl ?_
      refine j_bipush (v := nI 10) d_Sh_stretch_61 (by decide) ?_
      refine j_iushr d_Sh_stretch_63 ?_
      refine j_ixor d_Sh_stretch_64 ?_
      refine j_eqi (y := sh_s1 (sh_ext f i (16 + i - 2))) rfl ?_
      refine j_istore [(5, .int (sh_s1 (sh_ext f i (16 + i - 2)))), (4, .int (sh_s0 (sh_ext f i (16 + i - 15)))), (3, .int ((sh_ext f i) ((16 + i) - 2))), (2, .int ((sh_ext f i) ((16 + i) - 15))), (0, .ref h), (1, .int (nI (16 + i)))] d_Sh_stretch_65 (by decide) rfl ?_
      refine j_aload_n d_Sh_stretch_67 rfl 4 rfl ?_
      refine j_get F_Sh hX0 2 (by decide) w_59 (Or.inr w_60) rfl d_Sh_stretch_68 ?_
      refine j_iload_n d_Sh_stretch_71 rfl 5 rfl ?_
      refine j_aload_n d_Sh_stretch_72 rfl 4 rfl ?_
      refine j_get F_Sh hX0 2 (by decide) w_59 (Or.inr w_60) rfl d_Sh_stretch_73 ?_
      refine j_iload_n d_Sh_stretch_76 rfl 5 rfl ?_
      refine j_bipush (v := nI 16) d_Sh_stretch_77 (by decide) ?_
      refine j_isub d_Sh_stretch_79 ?_
      refine j_eqi (y := nI ((16 + i) - 16)) (pk_sub (by omega)) ?_
      refine j_iald hX1 ((16 + i) - 16) rfl (by omega) (by omega) d_Sh_stretch_80 ?_
      refine j_iload d_Sh_stretch_81 1 rfl ?_
      refine j_iadd d_Sh_stretch_83 ?_
      refine j_aload_n d_Sh_stretch_84 rfl 4 rfl ?_
      refine j_get F_Sh hX0 2 (by decide) w_59 (Or.inr w_60) rfl d_Sh_stretch_85 ?_
      refine j_iload_n d_Sh_stretch_88 rfl 5 rfl ?_
      refine j_bipush (v := nI 7) d_Sh_stretch_89 (by decide) ?_
      refine j_isub d_Sh_stretch_91 ?_
      refine j_eqi (y := nI ((16 + i) - 7)) (pk_sub (by omega)) ?_
      refine j_iald hX1 ((16 + i) - 7) rfl (by omega) (by omega) d_Sh_stretch_92 ?_
      refine j_iadd d_Sh_stretch_93 ?_
      refine j_iload d_Sh_stretch_94 0 rfl ?_
      refine j_iadd d_Sh_stretch_96 ?_
      refine j_eqi (y := sh_next (sh_ext f i) (16 + i)) rfl ?_
      refine j_iast hX1 (16 + i) rfl (by omega) (by omega) d_Sh_stretch_97 ?_
      generalize eM1 : mp_up Mx w (mp_i E 64 (upd (sh_ext f i) (16 + i) (sh_next (sh_ext f i) (16 + i)))) = M1
      have hM1_h : M1 h = some (mp_o 3 [.ref tu, .ref s, .ref w, .ref (E.2.2.2 8), .int (tf true)]) := by rw [← eM1, mp_n (mp_ne hX0 hX1 mp_noa)]; exact hX0
      have hM1_w : M1 w = some (mp_i E 64 (upd (sh_ext f i) (16 + i) (sh_next (sh_ext f i) (16 + i)))) := by rw [← eM1]; exact mp_s
      refine j_iinc (v := nI ((16 + i) + 1)) [(1, .int (nI ((16 + i) + 1))), (5, .int (sh_s1 (sh_ext f i (16 + i - 2)))), (4, .int (sh_s0 (sh_ext f i (16 + i - 15)))), (3, .int ((sh_ext f i) ((16 + i) - 2))), (2, .int ((sh_ext f i) ((16 + i) - 15))), (0, .ref h)] d_Sh_stretch_98 5 rfl (nI_add (16 + i) 1) (by decide) rfl ?_
      refine j_goto (tgt := 3) d_Sh_stretch_101 (by decide) ?_
      refine j_lv [5, 0] rfl ?_
      exact ih M1 (i + 1) (by omega) (by rw [← eM1, eX, mp_uu]; try rfl) (by omega)

set_option maxHeartbeats 4000000 in
set_option maxRecDepth 100000 in
theorem c_Sh_stretch (l : Launch) (E : mp_E) (M : mp_M) (h tu s w : Nat) (f : Nat → Int32) (h0 : M h = some (mp_o 3 [.ref tu, .ref s, .ref w, .ref (E.2.2.2 8), .int (tf true)])) (hw : M w = some (mp_i E 64 f)) : mp_Cr l m_Sh_stretch E M 2 0 0 [.ref h] (fun v N => v = none ∧ N = mp_up M w (mp_i E 64 (sh_ext f 48))) := by
  refine mp_Cr.of (by decide) (Nat.le_of_ble_eq_true rfl) fun Γ κ hl hκ => ?_
  subst hl
  obtain ⟨hκd, hκc, hκs, -⟩ := id hκ
  show mp_J Γ m_Sh_stretch E κ M [(0, .ref h)] 0 [] 0 0
  refine j_bipush (v := nI 16) d_Sh_stretch_0 (by decide) ?_
  refine j_istore_n [(1, .int (nI 16)), (0, .ref h)] d_Sh_stretch_2 rfl (by decide) rfl ?_
  refine j_lv [1, 0] rfl ?_
  exact lp_stretch E M h tu s w f h0 hw hκ 49 M 0 (by omega) (mp_same hw).symm (by omega)

set_option maxHeartbeats 4000000 in
set_option maxRecDepth 100000 in
theorem c_Sh_turn (l : Launch) (E : mp_E) (M : mp_M) (h tu s w : Nat) (t : Nat → Int32) (x : Int32) (h0 : M h = some (mp_o 3 [.ref tu, .ref s, .ref w, .ref (E.2.2.2 8), .int (tf true)])) (ht : M tu = some (mp_i E 8 t)) : mp_Cr l m_Sh_turn E M 2 0 0 [.ref h, .int x] (fun v N => v = none ∧ N = mp_up M tu (mp_i E 8 (sh_rd t x))) := by
  refine mp_Cr.of (by decide) (Nat.le_of_ble_eq_true rfl) fun Γ κ hl hκ => ?_
  subst hl
  obtain ⟨hκd, hκc, hκs, -⟩ := id hκ
  show mp_J Γ m_Sh_turn E κ M [(0, .ref h), (1, .int x)] 0 [] 0 0
  refine j_aload_n d_Sh_turn_0 rfl 0 rfl ?_
  refine j_get F_Sh h0 0 (by decide) w_52 (Or.inl rfl) rfl d_Sh_turn_1 ?_
  refine j_iconst (v := nI 0) d_Sh_turn_4 (by decide) ?_
  refine j_iald ht 0 rfl (by omega) (by omega) d_Sh_turn_5 ?_
  refine j_istore_n [(2, .int (t 0)), (0, .ref h), (1, .int x)] d_Sh_turn_6 rfl (by decide) rfl ?_
  refine j_aload_n d_Sh_turn_7 rfl 1 rfl ?_
  refine j_get F_Sh h0 0 (by decide) w_52 (Or.inl rfl) rfl d_Sh_turn_8 ?_
  refine j_iconst (v := nI 4) d_Sh_turn_11 (by decide) ?_
  refine j_iald ht 4 rfl (by omega) (by omega) d_Sh_turn_12 ?_
  refine j_istore_n [(3, .int (t 4)), (2, .int (t 0)), (0, .ref h), (1, .int x)] d_Sh_turn_13 rfl (by decide) rfl ?_
  refine j_iload_n d_Sh_turn_14 rfl 0 rfl ?_
  refine j_aload_n d_Sh_turn_15 rfl 2 rfl ?_
  refine j_get F_Sh h0 0 (by decide) w_52 (Or.inl rfl) rfl d_Sh_turn_16 ?_
  refine j_iconst (v := nI 5) d_Sh_turn_19 (by decide) ?_
  refine j_iald ht 5 rfl (by omega) (by omega) d_Sh_turn_20 ?_
  refine j_iand d_Sh_turn_21 ?_
  refine j_iload_n d_Sh_turn_22 rfl 0 rfl ?_
  refine j_iconst (v := (-1)) d_Sh_turn_23 (by decide) ?_
  refine j_ixor d_Sh_turn_24 ?_
  refine j_aload_n d_Sh_turn_25 rfl 2 rfl ?_
  refine j_get F_Sh h0 0 (by decide) w_52 (Or.inl rfl) rfl d_Sh_turn_26 ?_
  refine j_bipush (v := nI 6) d_Sh_turn_29 (by decide) ?_
  refine j_iald ht 6 rfl (by omega) (by omega) d_Sh_turn_31 ?_
  refine j_iand d_Sh_turn_32 ?_
  refine j_ixor d_Sh_turn_33 ?_
  refine j_eqi (y := sh_ch (t 4) (t 5) (t 6)) rfl ?_
  refine j_istore [(4, .int (sh_ch (t 4) (t 5) (t 6))), (3, .int (t 4)), (2, .int (t 0)), (0, .ref h), (1, .int x)] d_Sh_turn_34 (by decide) rfl ?_
  refine j_iload_n d_Sh_turn_36 rfl 2 rfl ?_
  refine j_aload_n d_Sh_turn_37 rfl 3 rfl ?_
  refine j_get F_Sh h0 0 (by decide) w_52 (Or.inl rfl) rfl d_Sh_turn_38 ?_
  refine j_iconst (v := nI 1) d_Sh_turn_41 (by decide) ?_
  refine j_iald ht 1 rfl (by omega) (by omega) d_Sh_turn_42 ?_
  refine j_iand d_Sh_turn_43 ?_
  refine j_iload_n d_Sh_turn_44 rfl 2 rfl ?_
  refine j_aload_n d_Sh_turn_45 rfl 3 rfl ?_
  refine j_get F_Sh h0 0 (by decide) w_52 (Or.inl rfl) rfl d_Sh_turn_46 ?_
  refine j_iconst (v := nI 2) d_Sh_turn_49 (by decide) ?_
  refine j_iald ht 2 rfl (by omega) (by omega) d_Sh_turn_50 ?_
  refine j_iand d_Sh_turn_51 ?_
  refine j_ixor d_Sh_turn_52 ?_
  refine j_aload_n d_Sh_turn_53 rfl 3 rfl ?_
  refine j_get F_Sh h0 0 (by decide) w_52 (Or.inl rfl) rfl d_Sh_turn_54 ?_
  refine j_iconst (v := nI 1) d_Sh_turn_57 (by decide) ?_
  refine j_iald ht 1 rfl (by omega) (by omega) d_Sh_turn_58 ?_
  refine j_aload_n d_Sh_turn_59 rfl 3 rfl ?_
  refine j_get F_Sh h0 0 (by decide) w_52 (Or.inl rfl) rfl d_Sh_turn_60 ?_
  refine j_iconst (v := nI 2) d_Sh_turn_63 (by decide) ?_
  refine j_iald ht 2 rfl (by omega) (by omega) d_Sh_turn_64 ?_
  refine j_iand d_Sh_turn_65 ?_
  refine j_ixor d_Sh_turn_66 ?_
  refine j_eqi (y := sh_mj (t 0) (t 1) (t 2)) rfl ?_
  refine j_istore [(5, .int (sh_mj (t 0) (t 1) (t 2))), (4, .int (sh_ch (t 4) (t 5) (t 6))), (3, .int (t 4)), (2, .int (t 0)), (0, .ref h), (1, .int x)] d_Sh_turn_67 (by decide) rfl ?_
  refine j_iload_n d_Sh_turn_69 rfl 3 rfl ?_
  refine j_iconst (v := nI 2) d_Sh_turn_70 (by decide) ?_
  refine j_callS (As := [.int (t 0), .int (nI 2)]) (rest := []) (c_In_rotateRight Γ.l E M (t 0) (nI 2)) Y_In_rotateRight w_820 w_821 rfl rfl (Nat.le_of_ble_eq_true rfl) (by omega) (by omega) (by omega) d_Sh_turn_71 (fun v71 N71 p71 => ?_)
  obtain ⟨rfl, q71⟩ := p71
  obtain rfl := q71.symm
  show mp_J Γ m_Sh_turn E κ M [(5, .int (sh_mj (t 0) (t 1) (t 2))), (4, .int (sh_ch (t 4) (t 5) (t 6))), (3, .int (t 4)), (2, .int (t 0)), (0, .ref h), (1, .int x)] 74 [.int (sh_rr (t 0) (nI 2))] 0 0
  refine j_iload_n d_Sh_turn_74 rfl 3 rfl ?_
  refine j_bipush (v := nI 13) d_Sh_turn_75 (by decide) ?_
  refine j_callS (As := [.int (t 0), .int (nI 13)]) (rest := [.int (sh_rr (t 0) (nI 2))]) (c_In_rotateRight Γ.l E M (t 0) (nI 13)) Y_In_rotateRight w_820 w_821 rfl rfl (Nat.le_of_ble_eq_true rfl) (by omega) (by omega) (by omega) d_Sh_turn_77 (fun v77 N77 p77 => ?_)
  obtain ⟨rfl, q77⟩ := p77
  obtain rfl := q77.symm
  show mp_J Γ m_Sh_turn E κ M [(5, .int (sh_mj (t 0) (t 1) (t 2))), (4, .int (sh_ch (t 4) (t 5) (t 6))), (3, .int (t 4)), (2, .int (t 0)), (0, .ref h), (1, .int x)] 80 [.int (sh_rr (t 0) (nI 13)), .int (sh_rr (t 0) (nI 2))] 0 0
  refine j_ixor d_Sh_turn_80 ?_
  refine j_iload_n d_Sh_turn_81 rfl 3 rfl ?_
  refine j_bipush (v := nI 22) d_Sh_turn_82 (by decide) ?_
  refine j_callS (As := [.int (t 0), .int (nI 22)]) (rest := [.int ((sh_rr (t 0) (nI 2)) ^^^ (sh_rr (t 0) (nI 13)))]) (c_In_rotateRight Γ.l E M (t 0) (nI 22)) Y_In_rotateRight w_820 w_821 rfl rfl (Nat.le_of_ble_eq_true rfl) (by omega) (by omega) (by omega) d_Sh_turn_84 (fun v84 N84 p84 => ?_)
  obtain ⟨rfl, q84⟩ := p84
  obtain rfl := q84.symm
  show mp_J Γ m_Sh_turn E κ M [(5, .int (sh_mj (t 0) (t 1) (t 2))), (4, .int (sh_ch (t 4) (t 5) (t 6))), (3, .int (t 4)), (2, .int (t 0)), (0, .ref h), (1, .int x)] 87 [.int (sh_rr (t 0) (nI 22)), .int ((sh_rr (t 0) (nI 2)) ^^^ (sh_rr (t 0) (nI 13)))] 0 0
  refine j_ixor d_Sh_turn_87 ?_
  refine j_eqi (y := sh_u (t 0)) rfl ?_
  refine j_istore [(6, .int (sh_u (t 0))), (5, .int (sh_mj (t 0) (t 1) (t 2))), (4, .int (sh_ch (t 4) (t 5) (t 6))), (3, .int (t 4)), (2, .int (t 0)), (0, .ref h), (1, .int x)] d_Sh_turn_88 (by decide) rfl ?_
  refine j_iload_n d_Sh_turn_90 rfl 3 rfl ?_
  refine j_bipush (v := nI 6) d_Sh_turn_91 (by decide) ?_
  refine j_callS (As := [.int (t 4), .int (nI 6)]) (rest := []) (c_In_rotateRight Γ.l E M (t 4) (nI 6)) Y_In_rotateRight w_820 w_821 rfl rfl (Nat.le_of_ble_eq_true rfl) (by omega) (by omega) (by omega) d_Sh_turn_93 (fun v93 N93 p93 => ?_)
  obtain ⟨rfl, q93⟩ := p93
  obtain rfl := q93.symm
  show mp_J Γ m_Sh_turn E κ M [(6, .int (sh_u (t 0))), (5, .int (sh_mj (t 0) (t 1) (t 2))), (4, .int (sh_ch (t 4) (t 5) (t 6))), (3, .int (t 4)), (2, .int (t 0)), (0, .ref h), (1, .int x)] 96 [.int (sh_rr (t 4) (nI 6))] 0 0
  refine j_iload_n d_Sh_turn_96 rfl 3 rfl ?_
  refine j_bipush (v := nI 11) d_Sh_turn_97 (by decide) ?_
  refine j_callS (As := [.int (t 4), .int (nI 11)]) (rest := [.int (sh_rr (t 4) (nI 6))]) (c_In_rotateRight Γ.l E M (t 4) (nI 11)) Y_In_rotateRight w_820 w_821 rfl rfl (Nat.le_of_ble_eq_true rfl) (by omega) (by omega) (by omega) d_Sh_turn_99 (fun v99 N99 p99 => ?_)
  obtain ⟨rfl, q99⟩ := p99
  obtain rfl := q99.symm
  show mp_J Γ m_Sh_turn E κ M [(6, .int (sh_u (t 0))), (5, .int (sh_mj (t 0) (t 1) (t 2))), (4, .int (sh_ch (t 4) (t 5) (t 6))), (3, .int (t 4)), (2, .int (t 0)), (0, .ref h), (1, .int x)] 102 [.int (sh_rr (t 4) (nI 11)), .int (sh_rr (t 4) (nI 6))] 0 0
  refine j_ixor d_Sh_turn_102 ?_
  refine j_iload_n d_Sh_turn_103 rfl 3 rfl ?_
  refine j_bipush (v := nI 25) d_Sh_turn_104 (by decide) ?_
  refine j_callS (As := [.int (t 4), .int (nI 25)]) (rest := [.int ((sh_rr (t 4) (nI 6)) ^^^ (sh_rr (t 4) (nI 11)))]) (c_In_rotateRight Γ.l E M (t 4) (nI 25)) Y_In_rotateRight w_820 w_821 rfl rfl (Nat.le_of_ble_eq_true rfl) (by omega) (by omega) (by omega) d_Sh_turn_106 (fun v106 N106 p106 => ?_)
  obtain ⟨rfl, q106⟩ := p106
  obtain rfl := q106.symm
  show mp_J Γ m_Sh_turn E κ M [(6, .int (sh_u (t 0))), (5, .int (sh_mj (t 0) (t 1) (t 2))), (4, .int (sh_ch (t 4) (t 5) (t 6))), (3, .int (t 4)), (2, .int (t 0)), (0, .ref h), (1, .int x)] 109 [.int (sh_rr (t 4) (nI 25)), .int ((sh_rr (t 4) (nI 6)) ^^^ (sh_rr (t 4) (nI 11)))] 0 0
  refine j_ixor d_Sh_turn_109 ?_
  refine j_eqi (y := sh_v (t 4)) rfl ?_
  refine j_istore [(7, .int (sh_v (t 4))), (6, .int (sh_u (t 0))), (5, .int (sh_mj (t 0) (t 1) (t 2))), (4, .int (sh_ch (t 4) (t 5) (t 6))), (3, .int (t 4)), (2, .int (t 0)), (0, .ref h), (1, .int x)] d_Sh_turn_110 (by decide) rfl ?_
  refine j_aload_n d_Sh_turn_112 rfl 6 rfl ?_
  refine j_get F_Sh h0 0 (by decide) w_52 (Or.inl rfl) rfl d_Sh_turn_113 ?_
  refine j_bipush (v := nI 7) d_Sh_turn_116 (by decide) ?_
  refine j_iald ht 7 rfl (by omega) (by omega) d_Sh_turn_118 ?_
  refine j_iload d_Sh_turn_119 0 rfl ?_
  refine j_iadd d_Sh_turn_121 ?_
  refine j_iload d_Sh_turn_122 3 rfl ?_
  refine j_iadd d_Sh_turn_124 ?_
  refine j_iload_n d_Sh_turn_125 rfl 7 rfl ?_
  refine j_iadd d_Sh_turn_126 ?_
  refine j_eqi (y := sh_fresh t x) rfl ?_
  refine j_istore [(8, .int (sh_fresh t x)), (7, .int (sh_v (t 4))), (6, .int (sh_u (t 0))), (5, .int (sh_mj (t 0) (t 1) (t 2))), (4, .int (sh_ch (t 4) (t 5) (t 6))), (3, .int (t 4)), (2, .int (t 0)), (0, .ref h), (1, .int x)] d_Sh_turn_127 (by decide) rfl ?_
  refine j_bipush (v := nI 7) d_Sh_turn_129 (by decide) ?_
  refine j_istore [(9, .int (nI 7)), (8, .int (sh_fresh t x)), (7, .int (sh_v (t 4))), (6, .int (sh_u (t 0))), (5, .int (sh_mj (t 0) (t 1) (t 2))), (4, .int (sh_ch (t 4) (t 5) (t 6))), (3, .int (t 4)), (2, .int (t 0)), (0, .ref h), (1, .int x)] d_Sh_turn_131 (by decide) rfl ?_
  refine j_iload d_Sh_turn_133 0 rfl ?_
  refine j_nif_le 160 7 rfl (by omega) d_Sh_turn_135 (by decide) (fun b135 => absurd b135 (by omega)) (fun b135 => ?_)
  refine j_aload_n d_Sh_turn_138 rfl 8 rfl ?_
  refine j_get F_Sh h0 0 (by decide) w_52 (Or.inl rfl) rfl d_Sh_turn_139 ?_
  refine j_iload d_Sh_turn_142 0 rfl ?_
  refine j_aload_n d_Sh_turn_144 rfl 8 rfl ?_
  refine j_get F_Sh h0 0 (by decide) w_52 (Or.inl rfl) rfl d_Sh_turn_145 ?_
  refine j_iload d_Sh_turn_148 0 rfl ?_
  refine j_iconst (v := nI 1) d_Sh_turn_150 (by decide) ?_
  refine j_isub d_Sh_turn_151 ?_
  refine j_eqi (y := nI (7 - 1)) (pk_sub (by omega)) ?_
  refine j_eqi (y := nI 6) rfl ?_
  refine j_iald ht 6 rfl (by omega) (by omega) d_Sh_turn_152 ?_
  refine j_eqi (y := t 6) rfl ?_
  refine j_iast ht 7 rfl (by omega) (by omega) d_Sh_turn_153 ?_
  generalize eM1 : mp_up M tu (mp_i E 8 (upd t 7 (t 6))) = M1
  have hM1_h : M1 h = some (mp_o 3 [.ref tu, .ref s, .ref w, .ref (E.2.2.2 8), .int (tf true)]) := by rw [← eM1, mp_n (mp_ne h0 ht mp_noa)]; exact h0
  have hM1_tu : M1 tu = some (mp_i E 8 (upd t 7 (t 6))) := by rw [← eM1]; exact mp_s
  refine j_iinc (v := nI 6) [(9, .int (nI 6)), (8, .int (sh_fresh t x)), (7, .int (sh_v (t 4))), (6, .int (sh_u (t 0))), (5, .int (sh_mj (t 0) (t 1) (t 2))), (4, .int (sh_ch (t 4) (t 5) (t 6))), (3, .int (t 4)), (2, .int (t 0)), (0, .ref h), (1, .int x)] d_Sh_turn_154 0 rfl (by decide) (by decide) rfl ?_
  refine j_goto (tgt := 133) d_Sh_turn_157 (by decide) ?_
  refine j_iload d_Sh_turn_133 0 rfl ?_
  refine j_nif_le 160 6 rfl (by omega) d_Sh_turn_135 (by decide) (fun b135 => absurd b135 (by omega)) (fun b135 => ?_)
  refine j_aload_n d_Sh_turn_138 rfl 8 rfl ?_
  refine j_get F_Sh hM1_h 0 (by decide) w_52 (Or.inl rfl) rfl d_Sh_turn_139 ?_
  refine j_iload d_Sh_turn_142 0 rfl ?_
  refine j_aload_n d_Sh_turn_144 rfl 8 rfl ?_
  refine j_get F_Sh hM1_h 0 (by decide) w_52 (Or.inl rfl) rfl d_Sh_turn_145 ?_
  refine j_iload d_Sh_turn_148 0 rfl ?_
  refine j_iconst (v := nI 1) d_Sh_turn_150 (by decide) ?_
  refine j_isub d_Sh_turn_151 ?_
  refine j_eqi (y := nI (6 - 1)) (pk_sub (by omega)) ?_
  refine j_eqi (y := nI 5) rfl ?_
  refine j_iald hM1_tu 5 rfl (by omega) (by omega) d_Sh_turn_152 ?_
  refine j_eqi (y := t 5) rfl ?_
  refine j_iast hM1_tu 6 rfl (by omega) (by omega) d_Sh_turn_153 ?_
  generalize eM2 : mp_up M1 tu (mp_i E 8 (upd (upd t 7 (t 6)) 6 (t 5))) = M2
  have hM2_h : M2 h = some (mp_o 3 [.ref tu, .ref s, .ref w, .ref (E.2.2.2 8), .int (tf true)]) := by rw [← eM2, mp_n (mp_ne hM1_h hM1_tu mp_noa)]; exact hM1_h
  have hM2_tu : M2 tu = some (mp_i E 8 (upd (upd t 7 (t 6)) 6 (t 5))) := by rw [← eM2]; exact mp_s
  refine j_iinc (v := nI 5) [(9, .int (nI 5)), (8, .int (sh_fresh t x)), (7, .int (sh_v (t 4))), (6, .int (sh_u (t 0))), (5, .int (sh_mj (t 0) (t 1) (t 2))), (4, .int (sh_ch (t 4) (t 5) (t 6))), (3, .int (t 4)), (2, .int (t 0)), (0, .ref h), (1, .int x)] d_Sh_turn_154 0 rfl (by decide) (by decide) rfl ?_
  refine j_goto (tgt := 133) d_Sh_turn_157 (by decide) ?_
  refine j_iload d_Sh_turn_133 0 rfl ?_
  refine j_nif_le 160 5 rfl (by omega) d_Sh_turn_135 (by decide) (fun b135 => absurd b135 (by omega)) (fun b135 => ?_)
  refine j_aload_n d_Sh_turn_138 rfl 8 rfl ?_
  refine j_get F_Sh hM2_h 0 (by decide) w_52 (Or.inl rfl) rfl d_Sh_turn_139 ?_
  refine j_iload d_Sh_turn_142 0 rfl ?_
  refine j_aload_n d_Sh_turn_144 rfl 8 rfl ?_
  refine j_get F_Sh hM2_h 0 (by decide) w_52 (Or.inl rfl) rfl d_Sh_turn_145 ?_
  refine j_iload d_Sh_turn_148 0 rfl ?_
  refine j_iconst (v := nI 1) d_Sh_turn_150 (by decide) ?_
  refine j_isub d_Sh_turn_151 ?_
  refine j_eqi (y := nI (5 - 1)) (pk_sub (by omega)) ?_
  refine j_eqi (y := nI 4) rfl ?_
  refine j_iald hM2_tu 4 rfl (by omega) (by omega) d_Sh_turn_152 ?_
  refine j_eqi (y := t 4) rfl ?_
  refine j_iast hM2_tu 5 rfl (by omega) (by omega) d_Sh_turn_153 ?_
  generalize eM3 : mp_up M2 tu (mp_i E 8 (upd (upd (upd t 7 (t 6)) 6 (t 5)) 5 (t 4))) = M3
  have hM3_h : M3 h = some (mp_o 3 [.ref tu, .ref s, .ref w, .ref (E.2.2.2 8), .int (tf true)]) := by rw [← eM3, mp_n (mp_ne hM2_h hM2_tu mp_noa)]; exact hM2_h
  have hM3_tu : M3 tu = some (mp_i E 8 (upd (upd (upd t 7 (t 6)) 6 (t 5)) 5 (t 4))) := by rw [← eM3]; exact mp_s
  refine j_iinc (v := nI 4) [(9, .int (nI 4)), (8, .int (sh_fresh t x)), (7, .int (sh_v (t 4))), (6, .int (sh_u (t 0))), (5, .int (sh_mj (t 0) (t 1) (t 2))), (4, .int (sh_ch (t 4) (t 5) (t 6))), (3, .int (t 4)), (2, .int (t 0)), (0, .ref h), (1, .int x)] d_Sh_turn_154 0 rfl (by decide) (by decide) rfl ?_
  refine j_goto (tgt := 133) d_Sh_turn_157 (by decide) ?_
  refine j_iload d_Sh_turn_133 0 rfl ?_
  refine j_nif_le 160 4 rfl (by omega) d_Sh_turn_135 (by decide) (fun b135 => absurd b135 (by omega)) (fun b135 => ?_)
  refine j_aload_n d_Sh_turn_138 rfl 8 rfl ?_
  refine j_get F_Sh hM3_h 0 (by decide) w_52 (Or.inl rfl) rfl d_Sh_turn_139 ?_
  refine j_iload d_Sh_turn_142 0 rfl ?_
  refine j_aload_n d_Sh_turn_144 rfl 8 rfl ?_
  refine j_get F_Sh hM3_h 0 (by decide) w_52 (Or.inl rfl) rfl d_Sh_turn_145 ?_
  refine j_iload d_Sh_turn_148 0 rfl ?_
  refine j_iconst (v := nI 1) d_Sh_turn_150 (by decide) ?_
  refine j_isub d_Sh_turn_151 ?_
  refine j_eqi (y := nI (4 - 1)) (pk_sub (by omega)) ?_
  refine j_eqi (y := nI 3) rfl ?_
  refine j_iald hM3_tu 3 rfl (by omega) (by omega) d_Sh_turn_152 ?_
  refine j_eqi (y := t 3) rfl ?_
  refine j_iast hM3_tu 4 rfl (by omega) (by omega) d_Sh_turn_153 ?_
  generalize eM4 : mp_up M3 tu (mp_i E 8 (upd (upd (upd (upd t 7 (t 6)) 6 (t 5)) 5 (t 4)) 4 (t 3))) = M4
  have hM4_h : M4 h = some (mp_o 3 [.ref tu, .ref s, .ref w, .ref (E.2.2.2 8), .int (tf true)]) := by rw [← eM4, mp_n (mp_ne hM3_h hM3_tu mp_noa)]; exact hM3_h
  have hM4_tu : M4 tu = some (mp_i E 8 (upd (upd (upd (upd t 7 (t 6)) 6 (t 5)) 5 (t 4)) 4 (t 3))) := by rw [← eM4]; exact mp_s
  refine j_iinc (v := nI 3) [(9, .int (nI 3)), (8, .int (sh_fresh t x)), (7, .int (sh_v (t 4))), (6, .int (sh_u (t 0))), (5, .int (sh_mj (t 0) (t 1) (t 2))), (4, .int (sh_ch (t 4) (t 5) (t 6))), (3, .int (t 4)), (2, .int (t 0)), (0, .ref h), (1, .int x)] d_Sh_turn_154 0 rfl (by decide) (by decide) rfl ?_
  refine j_goto (tgt := 133) d_Sh_turn_157 (by decide) ?_
  refine j_iload d_Sh_turn_133 0 rfl ?_
  refine j_nif_le 160 3 rfl (by omega) d_Sh_turn_135 (by decide) (fun b135 => absurd b135 (by omega)) (fun b135 => ?_)
  refine j_aload_n d_Sh_turn_138 rfl 8 rfl ?_
  refine j_get F_Sh hM4_h 0 (by decide) w_52 (Or.inl rfl) rfl d_Sh_turn_139 ?_
  refine j_iload d_Sh_turn_142 0 rfl ?_
  refine j_aload_n d_Sh_turn_144 rfl 8 rfl ?_
  refine j_get F_Sh hM4_h 0 (by decide) w_52 (Or.inl rfl) rfl d_Sh_turn_145 ?_
  refine j_iload d_Sh_turn_148 0 rfl ?_
  refine j_iconst (v := nI 1) d_Sh_turn_150 (by decide) ?_
  refine j_isub d_Sh_turn_151 ?_
  refine j_eqi (y := nI (3 - 1)) (pk_sub (by omega)) ?_
  refine j_eqi (y := nI 2) rfl ?_
  refine j_iald hM4_tu 2 rfl (by omega) (by omega) d_Sh_turn_152 ?_
  refine j_eqi (y := t 2) rfl ?_
  refine j_iast hM4_tu 3 rfl (by omega) (by omega) d_Sh_turn_153 ?_
  generalize eM5 : mp_up M4 tu (mp_i E 8 (upd (upd (upd (upd (upd t 7 (t 6)) 6 (t 5)) 5 (t 4)) 4 (t 3)) 3 (t 2))) = M5
  have hM5_h : M5 h = some (mp_o 3 [.ref tu, .ref s, .ref w, .ref (E.2.2.2 8), .int (tf true)]) := by rw [← eM5, mp_n (mp_ne hM4_h hM4_tu mp_noa)]; exact hM4_h
  have hM5_tu : M5 tu = some (mp_i E 8 (upd (upd (upd (upd (upd t 7 (t 6)) 6 (t 5)) 5 (t 4)) 4 (t 3)) 3 (t 2))) := by rw [← eM5]; exact mp_s
  refine j_iinc (v := nI 2) [(9, .int (nI 2)), (8, .int (sh_fresh t x)), (7, .int (sh_v (t 4))), (6, .int (sh_u (t 0))), (5, .int (sh_mj (t 0) (t 1) (t 2))), (4, .int (sh_ch (t 4) (t 5) (t 6))), (3, .int (t 4)), (2, .int (t 0)), (0, .ref h), (1, .int x)] d_Sh_turn_154 0 rfl (by decide) (by decide) rfl ?_
  refine j_goto (tgt := 133) d_Sh_turn_157 (by decide) ?_
  refine j_iload d_Sh_turn_133 0 rfl ?_
  refine j_nif_le 160 2 rfl (by omega) d_Sh_turn_135 (by decide) (fun b135 => absurd b135 (by omega)) (fun b135 => ?_)
  refine j_aload_n d_Sh_turn_138 rfl 8 rfl ?_
  refine j_get F_Sh hM5_h 0 (by decide) w_52 (Or.inl rfl) rfl d_Sh_turn_139 ?_
  refine j_iload d_Sh_turn_142 0 rfl ?_
  refine j_aload_n d_Sh_turn_144 rfl 8 rfl ?_
  refine j_get F_Sh hM5_h 0 (by decide) w_52 (Or.inl rfl) rfl d_Sh_turn_145 ?_
  refine j_iload d_Sh_turn_148 0 rfl ?_
  refine j_iconst (v := nI 1) d_Sh_turn_150 (by decide) ?_
  refine j_isub d_Sh_turn_151 ?_
  refine j_eqi (y := nI (2 - 1)) (pk_sub (by omega)) ?_
  refine j_eqi (y := nI 1) rfl ?_
  refine j_iald hM5_tu 1 rfl (by omega) (by omega) d_Sh_turn_152 ?_
  refine j_eqi (y := t 1) rfl ?_
  refine j_iast hM5_tu 2 rfl (by omega) (by omega) d_Sh_turn_153 ?_
  generalize eM6 : mp_up M5 tu (mp_i E 8 (upd (upd (upd (upd (upd (upd t 7 (t 6)) 6 (t 5)) 5 (t 4)) 4 (t 3)) 3 (t 2)) 2 (t 1))) = M6
  have hM6_h : M6 h = some (mp_o 3 [.ref tu, .ref s, .ref w, .ref (E.2.2.2 8), .int (tf true)]) := by rw [← eM6, mp_n (mp_ne hM5_h hM5_tu mp_noa)]; exact hM5_h
  have hM6_tu : M6 tu = some (mp_i E 8 (upd (upd (upd (upd (upd (upd t 7 (t 6)) 6 (t 5)) 5 (t 4)) 4 (t 3)) 3 (t 2)) 2 (t 1))) := by rw [← eM6]; exact mp_s
  refine j_iinc (v := nI 1) [(9, .int (nI 1)), (8, .int (sh_fresh t x)), (7, .int (sh_v (t 4))), (6, .int (sh_u (t 0))), (5, .int (sh_mj (t 0) (t 1) (t 2))), (4, .int (sh_ch (t 4) (t 5) (t 6))), (3, .int (t 4)), (2, .int (t 0)), (0, .ref h), (1, .int x)] d_Sh_turn_154 0 rfl (by decide) (by decide) rfl ?_
  refine j_goto (tgt := 133) d_Sh_turn_157 (by decide) ?_
  refine j_iload d_Sh_turn_133 0 rfl ?_
  refine j_nif_le 160 1 rfl (by omega) d_Sh_turn_135 (by decide) (fun b135 => absurd b135 (by omega)) (fun b135 => ?_)
  refine j_aload_n d_Sh_turn_138 rfl 8 rfl ?_
  refine j_get F_Sh hM6_h 0 (by decide) w_52 (Or.inl rfl) rfl d_Sh_turn_139 ?_
  refine j_iload d_Sh_turn_142 0 rfl ?_
  refine j_aload_n d_Sh_turn_144 rfl 8 rfl ?_
  refine j_get F_Sh hM6_h 0 (by decide) w_52 (Or.inl rfl) rfl d_Sh_turn_145 ?_
  refine j_iload d_Sh_turn_148 0 rfl ?_
  refine j_iconst (v := nI 1) d_Sh_turn_150 (by decide) ?_
  refine j_isub d_Sh_turn_151 ?_
  refine j_eqi (y := nI (1 - 1)) (pk_sub (by omega)) ?_
  refine j_eqi (y := nI 0) rfl ?_
  refine j_iald hM6_tu 0 rfl (by omega) (by omega) d_Sh_turn_152 ?_
  refine j_eqi (y := t 0) rfl ?_
  refine j_iast hM6_tu 1 rfl (by omega) (by omega) d_Sh_turn_153 ?_
  generalize eM7 : mp_up M6 tu (mp_i E 8 (upd (upd (upd (upd (upd (upd (upd t 7 (t 6)) 6 (t 5)) 5 (t 4)) 4 (t 3)) 3 (t 2)) 2 (t 1)) 1 (t 0))) = M7
  have hM7_h : M7 h = some (mp_o 3 [.ref tu, .ref s, .ref w, .ref (E.2.2.2 8), .int (tf true)]) := by rw [← eM7, mp_n (mp_ne hM6_h hM6_tu mp_noa)]; exact hM6_h
  have hM7_tu : M7 tu = some (mp_i E 8 (upd (upd (upd (upd (upd (upd (upd t 7 (t 6)) 6 (t 5)) 5 (t 4)) 4 (t 3)) 3 (t 2)) 2 (t 1)) 1 (t 0))) := by rw [← eM7]; exact mp_s
  refine j_iinc (v := nI 0) [(9, .int (nI 0)), (8, .int (sh_fresh t x)), (7, .int (sh_v (t 4))), (6, .int (sh_u (t 0))), (5, .int (sh_mj (t 0) (t 1) (t 2))), (4, .int (sh_ch (t 4) (t 5) (t 6))), (3, .int (t 4)), (2, .int (t 0)), (0, .ref h), (1, .int x)] d_Sh_turn_154 0 rfl (by decide) (by decide) rfl ?_
  refine j_goto (tgt := 133) d_Sh_turn_157 (by decide) ?_
  refine j_iload d_Sh_turn_133 0 rfl ?_
  refine j_nif_le 160 0 rfl (by omega) d_Sh_turn_135 (by decide) (fun b135 => ?_) (fun b135 => absurd b135 (by omega))
  refine j_aload_n d_Sh_turn_160 rfl 8 rfl ?_
  refine j_get F_Sh hM7_h 0 (by decide) w_52 (Or.inl rfl) rfl d_Sh_turn_161 ?_
  refine j_iconst (v := nI 4) d_Sh_turn_164 (by decide) ?_
  refine j_dup2_11 d_Sh_turn_165 rfl rfl ?_
  refine j_iald hM7_tu 4 rfl (by omega) (by omega) d_Sh_turn_166 ?_
  refine j_eqi (y := t 3) rfl ?_
  refine j_iload d_Sh_turn_167 1 rfl ?_
  refine j_iadd d_Sh_turn_169 ?_
  refine j_iast hM7_tu 4 rfl (by omega) (by omega) d_Sh_turn_170 ?_
  generalize eM8 : mp_up M7 tu (mp_i E 8 (upd (upd (upd (upd (upd (upd (upd (upd t 7 (t 6)) 6 (t 5)) 5 (t 4)) 4 (t 3)) 3 (t 2)) 2 (t 1)) 1 (t 0)) 4 ((t 3) + (sh_fresh t x)))) = M8
  have hM8_h : M8 h = some (mp_o 3 [.ref tu, .ref s, .ref w, .ref (E.2.2.2 8), .int (tf true)]) := by rw [← eM8, mp_n (mp_ne hM7_h hM7_tu mp_noa)]; exact hM7_h
  have hM8_tu : M8 tu = some (mp_i E 8 (upd (upd (upd (upd (upd (upd (upd (upd t 7 (t 6)) 6 (t 5)) 5 (t 4)) 4 (t 3)) 3 (t 2)) 2 (t 1)) 1 (t 0)) 4 ((t 3) + (sh_fresh t x)))) := by rw [← eM8]; exact mp_s
  refine j_aload_n d_Sh_turn_171 rfl 8 rfl ?_
  refine j_get F_Sh hM8_h 0 (by decide) w_52 (Or.inl rfl) rfl d_Sh_turn_172 ?_
  refine j_iconst (v := nI 0) d_Sh_turn_175 (by decide) ?_
  refine j_iload d_Sh_turn_176 1 rfl ?_
  refine j_iload d_Sh_turn_178 3 rfl ?_
  refine j_iadd d_Sh_turn_180 ?_
  refine j_iload d_Sh_turn_181 4 rfl ?_
  refine j_iadd d_Sh_turn_183 ?_
  refine j_iast hM8_tu 0 rfl (by omega) (by omega) d_Sh_turn_184 ?_
  generalize eM9 : mp_up M8 tu (mp_i E 8 (upd (upd (upd (upd (upd (upd (upd (upd (upd t 7 (t 6)) 6 (t 5)) 5 (t 4)) 4 (t 3)) 3 (t 2)) 2 (t 1)) 1 (t 0)) 4 ((t 3) + (sh_fresh t x))) 0 (((sh_fresh t x) + (sh_u (t 0))) + (sh_mj (t 0) (t 1) (t 2))))) = M9
  have hM9_h : M9 h = some (mp_o 3 [.ref tu, .ref s, .ref w, .ref (E.2.2.2 8), .int (tf true)]) := by rw [← eM9, mp_n (mp_ne hM8_h hM8_tu mp_noa)]; exact hM8_h
  have hM9_tu : M9 tu = some (mp_i E 8 (upd (upd (upd (upd (upd (upd (upd (upd (upd t 7 (t 6)) 6 (t 5)) 5 (t 4)) 4 (t 3)) 3 (t 2)) 2 (t 1)) 1 (t 0)) 4 ((t 3) + (sh_fresh t x))) 0 (((sh_fresh t x) + (sh_u (t 0))) + (sh_mj (t 0) (t 1) (t 2))))) := by rw [← eM9]; exact mp_s
  refine j_canon (sh_rd t x) hM9_tu (fun j hj => by rcases (show j = 0 ∨ j = 1 ∨ j = 2 ∨ j = 3 ∨ j = 4 ∨ j = 5 ∨ j = 6 ∨ j = 7 by omega) with rfl | rfl | rfl | rfl | rfl | rfl | rfl | rfl <;> rfl) ?_
  show mp_J Γ m_Sh_turn E κ (mp_up M9 tu (mp_i E 8 (sh_rd t x))) [(9, .int (nI 0)), (8, .int (sh_fresh t x)), (7, .int (sh_v (t 4))), (6, .int (sh_u (t 0))), (5, .int (sh_mj (t 0) (t 1) (t 2))), (4, .int (sh_ch (t 4) (t 5) (t 6))), (3, .int (t 4)), (2, .int (t 0)), (0, .ref h), (1, .int x)] 185 [] 0 0
  generalize eM10 : mp_up M9 tu (mp_i E 8 (sh_rd t x)) = M10
  have hM10_h : M10 h = some (mp_o 3 [.ref tu, .ref s, .ref w, .ref (E.2.2.2 8), .int (tf true)]) := by rw [← eM10, mp_n (mp_ne hM9_h hM9_tu mp_noa)]; exact hM9_h
  have hM10_tu : M10 tu = some (mp_i E 8 (sh_rd t x)) := by rw [← eM10]; exact mp_s
  exact j_vret hκ rfl (by omega) (by omega) d_Sh_turn_185 ⟨rfl, by subst_vars; simp only [mp_uu]⟩

set_option maxHeartbeats 4000000 in
set_option maxRecDepth 100000 in
theorem lp1_mix {Γ : mp_G} {κ : mp_K} (E : mp_E) (M : mp_M) (h tu s w : Nat) (f S t0 : Nat → Int32) (h0 : M h = some (mp_o 3 [.ref tu, .ref s, .ref w, .ref (E.2.2.2 8), .int (tf true)])) (hw : M w = some (mp_i E 64 f)) (ht : M tu = some (mp_i E 8 t0)) (hsw : s ≠ w) (hst : s ≠ tu) (hwt : w ≠ tu) (hκd : κ.2.1 = 3) (hx : mp_J Γ m_Sh_mix E κ (mp_up M tu (mp_i E 8 (sh_rds (fun i => tb_Sh_ADDENDS.getD i 0) f S 64))) [(0, .ref h), (1, .int (nI 64))] 52 [] 0 0)  : ∀ (r : Nat) (Mx : mp_M) (i : Nat), 64 - i < r → (Mx = mp_up M tu (mp_i E 8 (sh_rds (fun i => tb_Sh_ADDENDS.getD i 0) f S i))) → (i ≤ 64) → mp_J Γ m_Sh_mix E κ Mx [(0, .ref h), (1, .int (nI i))] 24 [] 0 0 := by
  intro r
  induction r with
  | zero => intro Mx i hr; exact absurd hr (Nat.not_lt_zero _)
  | succ r ih =>
    intro Mx i hr eX hi
    have hX0 := mp_kp eX (mp_ne h0 ht mp_noa) h0
    have hX1 := mp_kp eX hwt hw
    have hX2 : Mx tu = some (mp_i E 8 (sh_rds (fun i => tb_Sh_ADDENDS.getD i 0) f S i)) := by rw [eX]; exact mp_s
    refine j_iload_n d_Sh_mix_24 rfl 1 rfl ?_
    refine j_bipush (v := nI 64) d_Sh_mix_25 (by decide) ?_
    refine j_ncmp_ge 52 i 64 rfl rfl (by omega) (by omega) d_Sh_mix_27 (by decide) (fun b27 => ?_) (fun b27 => ?_)
    · skip
      refine j_lv [0, 1] rfl ?_
      (rw [eX, show i = 64 by omega]; exact hx)
    · skip
      refine j_aload_n d_Sh_mix_30 rfl 0 rfl ?_
      refine j_gets 7 rfl w_824 rfl d_Sh_mix_31 ?_
      refine j_iload_n d_Sh_mix_34 rfl 1 rfl ?_
      refine j_tald 7 rfl i rfl (by show _ < 64; omega) (by decide) d_Sh_mix_35 ?_
      refine j_aload_n d_Sh_mix_36 rfl 0 rfl ?_
      refine j_get F_Sh hX0 2 (by decide) w_59 (Or.inr w_60) rfl d_Sh_mix_37 ?_
      refine j_iload_n d_Sh_mix_40 rfl 1 rfl ?_
      refine j_iald hX1 i rfl (by omega) (by omega) d_Sh_mix_41 ?_
      refine j_iadd d_Sh_mix_42 ?_
      refine j_callV (As := [.int ((tb_Sh_ADDENDS.getD i 0) + (f i))]) (rest := []) (c_Sh_turn Γ.l E Mx h tu s w (sh_rds (fun i => tb_Sh_ADDENDS.getD i 0) f S i) ((tb_Sh_ADDENDS.getD i 0) + (f i)) hX0 hX2) Y_Sh_turn w_826 w_828 ws_23 hX0 rfl rfl rfl (Nat.le_of_ble_eq_true rfl) (by omega) (by omega) (by omega) d_Sh_mix_43 (fun v43 N43 p43 => ?_)
      obtain ⟨rfl, q43⟩ := p43
      show mp_J Γ m_Sh_mix E κ N43 [(0, .ref h), (1, .int (nI i))] 46 [] 0 0
      have hN43_h : N43 h = some (mp_o 3 [.ref tu, .ref s, .ref w, .ref (E.2.2.2 8), .int (tf true)]) := by rw [q43, mp_n (mp_ne hX0 hX2 mp_noa)]; exact hX0
      have hN43_w : N43 w = some (mp_i E 64 f) := by rw [q43, mp_n hwt]; exact hX1
      have hN43_tu : N43 tu = some (mp_i E 8 (sh_rds (fun i => tb_Sh_ADDENDS.getD i 0) f S (i + 1))) := by rw [q43]; exact mp_s
      refine j_iinc (v := nI (i + 1)) [(1, .int (nI (i + 1))), (0, .ref h)] d_Sh_mix_46 1 rfl (nI_add i 1) (by decide) rfl ?_
      refine j_goto (tgt := 24) d_Sh_mix_49 (by decide) ?_
      refine j_lv [1, 0] rfl ?_
      exact ih N43 (i + 1) (by omega) (by rw [q43, eX, mp_uu]; try rfl) (by omega)

theorem sh_sum0 {S T : Nat → Int32} : sh_sum S T 0 = S := by funext j; unfold sh_sum; rw [if_neg (by omega)]
set_option maxHeartbeats 4000000 in
set_option maxRecDepth 100000 in
theorem lp2_mix {Γ : mp_G} {κ : mp_K} (E : mp_E) (M : mp_M) (h tu s w : Nat) (S t : Nat → Int32) (P : Option Value → mp_M → Prop) (h0 : M h = some (mp_o 3 [.ref tu, .ref s, .ref w, .ref (E.2.2.2 8), .int (tf true)])) (hs : M s = some (mp_i E 8 S)) (ht : M tu = some (mp_i E 8 t)) (hsw : s ≠ w) (hst : s ≠ tu) (hwt : w ≠ tu) (hP : P none (mp_up M s (mp_i E 8 (fun j => S j + t j)))) (hκ : mp_k κ 3 0 0 (P)) : ∀ (r : Nat) (Mx : mp_M) (i : Nat), 8 - i < r → (Mx = mp_up M s (mp_i E 8 (sh_sum S t i))) → (i ≤ 8) → mp_J Γ m_Sh_mix E κ Mx [(0, .ref h), (1, .int (nI i))] 54 [] 0 0 := by
  obtain ⟨hκd, hκc, hκs, -⟩ := id hκ
  intro r
  induction r with
  | zero => intro Mx i hr; exact absurd hr (Nat.not_lt_zero _)
  | succ r ih =>
    intro Mx i hr eX hi
    have hX0 := mp_kp eX (mp_ne h0 hs mp_noa) h0
    have hX2 := mp_kp eX (Ne.symm hst) ht
    have hX1 : Mx s = some (mp_i E 8 (sh_sum S t i)) := by rw [eX]; exact mp_s
    refine j_iload_n d_Sh_mix_54 rfl 1 rfl ?_
    refine j_aload_n d_Sh_mix_55 rfl 0 rfl ?_
    refine j_get F_Sh hX0 1 (by decide) w_56 (Or.inr w_57) rfl d_Sh_mix_56 ?_
    refine j_alen 1 hX1 rfl d_Sh_mix_59 ?_
    show mp_J Γ m_Sh_mix E κ Mx [(0, .ref h), (1, .int (nI i))] 60 [.int (nI 8), .int (nI i)] 0 0
    refine j_ncmp_ge 84 i 8 rfl rfl (by omega) (by omega) d_Sh_mix_60 (by decide) (fun b60 => ?_) (fun b60 => ?_)
    · skip
      refine j_canon (fun j => S j + t j) hX1 (fun j hj => by unfold sh_sum; rw [if_pos (by omega)]) ?_
      show mp_J Γ m_Sh_mix E κ (mp_up Mx s (mp_i E 8 (fun j => S j + t j))) [(0, .ref h), (1, .int (nI i))] 84 [] 0 0
      generalize eM1 : mp_up Mx s (mp_i E 8 (fun j => S j + t j)) = M1
      have hM1_h : M1 h = some (mp_o 3 [.ref tu, .ref s, .ref w, .ref (E.2.2.2 8), .int (tf true)]) := by rw [← eM1, mp_n (mp_ne hX0 hX1 mp_noa)]; exact hX0
      have hM1_tu : M1 tu = some (mp_i E 8 t) := by rw [← eM1, mp_n (Ne.symm hst)]; exact hX2
      have hM1_s : M1 s = some (mp_i E 8 (fun j => S j + t j)) := by rw [← eM1]; exact mp_s
      exact j_vret hκ rfl (by omega) (by omega) d_Sh_mix_84 (by subst_vars; rw [mp_uu]; exact hP)
    · skip
      refine j_aload_n d_Sh_mix_63 rfl 0 rfl ?_
      refine j_get F_Sh hX0 1 (by decide) w_56 (Or.inr w_57) rfl d_Sh_mix_64 ?_
      refine j_iload_n d_Sh_mix_67 rfl 1 rfl ?_
      refine j_dup2_11 d_Sh_mix_68 rfl rfl ?_
      refine j_iald hX1 i rfl (by omega) (by omega) d_Sh_mix_69 ?_
      refine j_aload_n d_Sh_mix_70 rfl 0 rfl ?_
      refine j_get F_Sh hX0 0 (by decide) w_52 (Or.inl rfl) rfl d_Sh_mix_71 ?_
      refine j_iload_n d_Sh_mix_74 rfl 1 rfl ?_
      refine j_iald hX2 i rfl (by omega) (by omega) d_Sh_mix_75 ?_
      refine j_iadd d_Sh_mix_76 ?_
      refine j_iast hX1 i rfl (by omega) (by omega) d_Sh_mix_77 ?_
      generalize eM2 : mp_up Mx s (mp_i E 8 (upd (sh_sum S t i) i (((sh_sum S t i) i) + (t i)))) = M2
      have hM2_h : M2 h = some (mp_o 3 [.ref tu, .ref s, .ref w, .ref (E.2.2.2 8), .int (tf true)]) := by rw [← eM2, mp_n (mp_ne hX0 hX1 mp_noa)]; exact hX0
      have hM2_tu : M2 tu = some (mp_i E 8 t) := by rw [← eM2, mp_n (Ne.symm hst)]; exact hX2
      have hM2_s : M2 s = some (mp_i E 8 (upd (sh_sum S t i) i (((sh_sum S t i) i) + (t i)))) := by rw [← eM2]; exact mp_s
      refine j_iinc (v := nI (i + 1)) [(1, .int (nI (i + 1))), (0, .ref h)] d_Sh_mix_78 1 rfl (nI_add i 1) (by decide) rfl ?_
      refine j_goto (tgt := 54) d_Sh_mix_81 (by decide) ?_
      refine j_lv [1, 0] rfl ?_
      exact ih M2 (i + 1) (by omega) (by rw [← eM2, eX, mp_uu, sh_sum_s]) (by omega)

set_option maxHeartbeats 4000000 in
set_option maxRecDepth 100000 in
theorem c_Sh_mix (l : Launch) (E : mp_E) (M : mp_M) (h tu s w : Nat) (f S t : Nat → Int32) (h0 : M h = some (mp_o 3 [.ref tu, .ref s, .ref w, .ref (E.2.2.2 8), .int (tf true)])) (hs : M s = some (mp_i E 8 S)) (hw : M w = some (mp_i E 64 f)) (ht : M tu = some (mp_i E 8 t)) (hsw : s ≠ w) (hst : s ≠ tu) (hwt : w ≠ tu) : mp_Cr l m_Sh_mix E M 3 0 0 [.ref h] (fun v N => v = none ∧ N s = some (mp_i E 8 (sh_mix (fun i => tb_Sh_ADDENDS.getD i 0) S f)) ∧ (∃ g, N w = some (mp_i E 64 g)) ∧ (∃ g, N tu = some (mp_i E 8 g)) ∧ ∀ a, a ≠ s → a ≠ w → a ≠ tu → N a = M a) := by
  refine mp_Cr.of (by decide) (Nat.le_of_ble_eq_true rfl) fun Γ κ hl hκ => ?_
  subst hl
  obtain ⟨hκd, hκc, hκs, -⟩ := id hκ
  show mp_J Γ m_Sh_mix E κ M [(0, .ref h)] 0 [] 0 0
  refine j_aload_n d_Sh_mix_0 rfl 0 rfl ?_
  refine j_callV (As := []) (rest := []) (c_Sh_stretch Γ.l E M h tu s w f h0 hw) Y_Sh_stretch w_816 w_818 ws_22 h0 rfl rfl rfl (Nat.le_of_ble_eq_true rfl) (by omega) (by omega) (by omega) d_Sh_mix_1 (fun v1 N1 p1 => ?_)
  obtain ⟨rfl, q1⟩ := p1
  show mp_J Γ m_Sh_mix E κ N1 [(0, .ref h)] 4 [] 0 0
  have hN1_h : N1 h = some (mp_o 3 [.ref tu, .ref s, .ref w, .ref (E.2.2.2 8), .int (tf true)]) := by rw [q1, mp_n (mp_ne h0 hw mp_noa)]; exact h0
  have hN1_s : N1 s = some (mp_i E 8 S) := by rw [q1, mp_n hsw]; exact hs
  have hN1_w : N1 w = some (mp_i E 64 (sh_ext f 48)) := by rw [q1]; exact mp_s
  have hN1_tu : N1 tu = some (mp_i E 8 t) := by rw [q1, mp_n (Ne.symm hwt)]; exact ht
  refine j_aload_n d_Sh_mix_4 rfl 0 rfl ?_
  refine j_get F_Sh hN1_h 1 (by decide) w_56 (Or.inr w_57) rfl d_Sh_mix_5 ?_
  refine j_iconst (v := nI 0) d_Sh_mix_8 (by decide) ?_
  refine j_aload_n d_Sh_mix_9 rfl 0 rfl ?_
  refine j_get F_Sh hN1_h 0 (by decide) w_52 (Or.inl rfl) rfl d_Sh_mix_10 ?_
  refine j_iconst (v := nI 0) d_Sh_mix_13 (by decide) ?_
  refine j_aload_n d_Sh_mix_14 rfl 0 rfl ?_
  refine j_get F_Sh hN1_h 1 (by decide) w_56 (Or.inr w_57) rfl d_Sh_mix_15 ?_
  refine j_alen 1 hN1_s rfl d_Sh_mix_18 ?_
  show mp_J Γ m_Sh_mix E κ N1 [(0, .ref h)] 19 [.int (nI 8), .int (nI 0), .ref tu, .int (nI 0), .ref s] 0 0
  refine j_copy 1 rfl rfl w_823 w_489 w_488 w_25 hN1_s hN1_tu 0 0 8 rfl rfl rfl (by omega) (by omega) (by omega) (by omega) (fun _ _ => rfl) (by omega) (Nat.le_of_ble_eq_true rfl) d_Sh_mix_19 ?_
  generalize eM1 : mp_up N1 tu (mp_i E 8 (va_cpy S t 0 0 8)) = M1
  have hM1_h : M1 h = some (mp_o 3 [.ref tu, .ref s, .ref w, .ref (E.2.2.2 8), .int (tf true)]) := by rw [← eM1, mp_n (mp_ne hN1_h hN1_tu mp_noa)]; exact hN1_h
  have hM1_s : M1 s = some (mp_i E 8 S) := by rw [← eM1, mp_n hst]; exact hN1_s
  have hM1_w : M1 w = some (mp_i E 64 (sh_ext f 48)) := by rw [← eM1, mp_n hwt]; exact hN1_w
  have hM1_tu : M1 tu = some (mp_i E 8 (va_cpy S t 0 0 8)) := by rw [← eM1]; exact mp_s
  refine j_canon S hM1_tu (fun j hj => va_cpy0 hj) ?_
  show mp_J Γ m_Sh_mix E κ (mp_up M1 tu (mp_i E 8 S)) [(0, .ref h)] 22 [] 0 0
  generalize eM2 : mp_up M1 tu (mp_i E 8 S) = M2
  have hM2_h : M2 h = some (mp_o 3 [.ref tu, .ref s, .ref w, .ref (E.2.2.2 8), .int (tf true)]) := by rw [← eM2, mp_n (mp_ne hM1_h hM1_tu mp_noa)]; exact hM1_h
  have hM2_s : M2 s = some (mp_i E 8 S) := by rw [← eM2, mp_n hst]; exact hM1_s
  have hM2_w : M2 w = some (mp_i E 64 (sh_ext f 48)) := by rw [← eM2, mp_n hwt]; exact hM1_w
  have hM2_tu : M2 tu = some (mp_i E 8 S) := by rw [← eM2]; exact mp_s
  refine j_iconst (v := nI 0) d_Sh_mix_22 (by decide) ?_
  refine j_istore_n [(1, .int (nI 0)), (0, .ref h)] d_Sh_mix_23 rfl (by decide) rfl ?_
  refine j_lv [1, 0] rfl ?_
  refine lp1_mix E M2 h tu s w (sh_ext f 48) S S hM2_h hM2_w hM2_tu hsw hst hwt hκd ?_ 65 M2 0 (by omega) (mp_same hM2_tu).symm (by omega)
  generalize eM3 : mp_up M2 tu (mp_i E 8 (sh_rds (fun i => tb_Sh_ADDENDS.getD i 0) (sh_ext f 48) S 64)) = M3
  have hM3_h : M3 h = some (mp_o 3 [.ref tu, .ref s, .ref w, .ref (E.2.2.2 8), .int (tf true)]) := by rw [← eM3, mp_n (mp_ne hM2_h hM2_tu mp_noa)]; exact hM2_h
  have hM3_s : M3 s = some (mp_i E 8 S) := by rw [← eM3, mp_n hst]; exact hM2_s
  have hM3_w : M3 w = some (mp_i E 64 (sh_ext f 48)) := by rw [← eM3, mp_n hwt]; exact hM2_w
  have hM3_tu : M3 tu = some (mp_i E 8 (sh_rds (fun i => tb_Sh_ADDENDS.getD i 0) (sh_ext f 48) S 64)) := by rw [← eM3]; exact mp_s
  refine j_iconst (v := nI 0) d_Sh_mix_52 (by decide) ?_
  refine j_istore_n [(1, .int (nI 0)), (0, .ref h)] d_Sh_mix_53 rfl (by decide) rfl ?_
  refine j_lv [1, 0] rfl ?_
  exact lp2_mix E M3 h tu s w S (sh_rds (fun i => tb_Sh_ADDENDS.getD i 0) (sh_ext f 48) S 64) _ hM3_h hM3_s hM3_tu hsw hst hwt ⟨rfl, mp_s, ⟨_, (mp_n (Ne.symm hsw)).trans hM3_w⟩, ⟨_, (mp_n (Ne.symm hst)).trans hM3_tu⟩, fun a h1 h2 h3 => by rw [mp_n h1, ← eM3, mp_n h3, ← eM2, mp_n h3, ← eM1, mp_n h3, ← q1.symm, mp_n h2]⟩ hκ 9 M3 0 (by omega) (by rw [sh_sum0]; exact (mp_same hM3_s).symm) (by omega)

def sm_sha (f : Nat → Int32) (n : Nat) : Nat → Int32 := pd_byte true (pd_fold (sh_mix (fun i => tb_Sh_ADDENDS.getD i 0)) true f n (fun j => tb_Sh_START.getD j 0) (pd_blocks n))
theorem pd_bl {n : Nat} (h : n ≤ 1000) : 1 ≤ pd_blocks n ∧ pd_blocks n ≤ 16 := by unfold pd_blocks; omega
theorem pd_b1 {f g : Nat → Int32} {hi : Bool} {n q c : Nat} (hc : c = (if hi then 15 else 14)) (hq : q = pd_blocks n - 1) (hn : 1 ≤ pd_blocks n) (j : Nat) (hj : j < 16) : upd (pd_ld hi f g n (q * 64) 16) c (nI (n * 8)) j = pd_blk hi f n q j := by
  unfold pd_blk
  by_cases hz : j = c
  · rw [hz, pk_us, if_pos ⟨by omega, hc⟩]
  · rw [pk_un hz, if_neg (fun h => hz (h.2.trans hc.symm))]
    unfold pd_ld
    rw [if_pos hj]
theorem pd_b2 {f g : Nat → Int32} {hi : Bool} {n q : Nat} (hq : q ≠ pd_blocks n - 1) (j : Nat) (hj : j < 16) : pd_ld hi f g n (q * 64) 16 j = pd_blk hi f n q j := by
  unfold pd_blk
  rw [if_neg (fun h => hq (by omega))]
  unfold pd_ld
  rw [if_pos hj]
set_option maxHeartbeats 4000000 in
set_option maxRecDepth 100000 in
theorem lp_of_sh {Γ : mp_G} {κ : mp_K} (E : mp_E) (M : mp_M) (h tu s w : Nat) (b m n : Nat) (f : Nat → Int32) (g0s g0w g0tu : Nat → Int32) (h0 : M h = some (mp_o 3 [.ref tu, .ref s, .ref w, .ref (E.2.2.2 8), .int (tf true)])) (hb : M b = some (mp_b E m f)) (hm : m ≤ 1000) (hn : n ≤ m) (hsw : s ≠ w) (hstu : s ≠ tu) (hwtu : w ≠ tu) (hbs : s ≠ b) (hbw : w ≠ b) (hbtu : tu ≠ b) (hMs : M s = some (mp_i E 8 g0s)) (hMw : M w = some (mp_i E 64 g0w)) (hMtu : M tu = some (mp_i E 8 g0tu)) (hκ : mp_k κ 4 2 33 (fun v N => ∃ q1 q2, v = some (.ref q1) ∧ M q1 = none ∧ M q2 = none ∧ q1 ≠ q2 ∧ N q1 = some (mp_o 5 [.ref q2]) ∧ N q2 = some (mp_b E 32 (sm_sha f n)) ∧ (∃ g, N s = some (mp_i E 8 g)) ∧ (∃ g, N w = some (mp_i E 64 g)) ∧ (∃ g, N tu = some (mp_i E 8 g)) ∧ ∀ a, a ≠ s → a ≠ w → a ≠ tu → a ≠ q1 → a ≠ q2 → N a = M a)) : ∀ (r : Nat) (Mx : mp_M) (gw gtu : Nat → Int32) (q : Nat), pd_blocks n - q < r → (Mx s = some (mp_i E 8 (pd_fold (sh_mix (fun i => tb_Sh_ADDENDS.getD i 0)) true f n (fun j => tb_Sh_START.getD j 0) q))) → (Mx w = some (mp_i E 64 gw)) → (Mx tu = some (mp_i E 8 gtu)) → (∀ a, a ≠ s → a ≠ w → a ≠ tu → Mx a = M a) → (q ≤ pd_blocks n) → mp_J Γ m_Su_of E κ Mx [(0, .ref h), (1, .ref b), (2, .int (nI n)), (3, .int (nI (pd_blocks n))), (4, .int (nI q))] 31 [] 0 0 := by
  obtain ⟨hκd, hκc, hκs, -⟩ := id hκ
  have hB := pd_bl (Nat.le_trans hn hm)
  intro r
  induction r with
  | zero => intro Mx gw gtu q hr; exact absurd hr (Nat.not_lt_zero _)
  | succ r ih =>
    intro Mx gw gtu q hr hX1 hX2 hXtu fr hq
    have hX0 := (fr h (mp_ne h0 hMs mp_noa) (mp_ne h0 hMw mp_noa) (mp_ne h0 hMtu mp_noa)).trans h0
    have hXb := (fr b (Ne.symm hbs) (Ne.symm hbw) (Ne.symm hbtu)).trans hb
    refine j_iload d_Su_of_31 4 rfl ?_
    refine j_iload_n d_Su_of_33 rfl 3 rfl ?_
    refine j_ncmp_ge 89 q (pd_blocks n) rfl rfl (by omega) (by omega) d_Su_of_34 (by decide) (fun b34 => ?_) (fun b34 => ?_)
    · skip
      refine j_aload_n d_Su_of_89 rfl 0 rfl ?_
      refine j_callP (z := ⟨"ScriptDesk$Sum", "of", "([BI)LScriptDesk$Thing;"⟩) (As := []) (rest := []) "ScriptDesk$Sum" (c_result_sh Γ.l E Mx h tu s w (pd_fold (sh_mix (fun i => tb_Sh_ADDENDS.getD i 0)) true f n (fun j => tb_Sh_START.getD j 0) q) hX0 hX1) Y_Su_result w_830 w_1167 (Or.inr ⟨w_832, _, _, _, w_833⟩) (by decide) rfl w_832 rfl rfl w_771 w_831 w_832 (by decide) hX0 rfl rfl rfl (Nat.le_of_ble_eq_true rfl) (by omega) (by omega) (by omega) d_Su_of_90 (fun v90 N90 p90 => ?_)
      obtain ⟨q1, q2, rfl, f1, f2, f3, q90⟩ := p90
      have g1 : M q1 = none := by rw [← fr q1 (Ne.symm (mp_ne0 hX1 f1)) (Ne.symm (mp_ne0 hX2 f1)) (Ne.symm (mp_ne0 hXtu f1))]; exact f1
      have g2 : M q2 = none := by rw [← fr q2 (Ne.symm (mp_ne0 hX1 f2)) (Ne.symm (mp_ne0 hX2 f2)) (Ne.symm (mp_ne0 hXtu f2))]; exact f2
      show mp_J Γ m_Su_of E κ N90 [(0, .ref h), (1, .ref b), (2, .int (nI n)), (3, .int (nI (pd_blocks n))), (4, .int (nI q))] 93 [.ref q1] (0 + 2) (0 + 33)
      exact j_aret hκ rfl (by first | exact Or.inl ⟨_, rfl⟩ | exact Or.inr ⟨_, rfl⟩) (by omega) (by omega) d_Su_of_93 ⟨q1, q2, rfl, g1, g2, f3, by rw [q90]; exact mp_s, by rw [q90, mp_n (Ne.symm f3), mp_s, show q = pd_blocks n by omega]; rfl, ⟨_, by rw [q90, mp_n (mp_ne0 hX1 f1), mp_n (mp_ne0 hX1 f2)]; exact hX1⟩, ⟨_, by rw [q90, mp_n (mp_ne0 hX2 f1), mp_n (mp_ne0 hX2 f2)]; exact hX2⟩, ⟨_, by rw [q90, mp_n (mp_ne0 hXtu f1), mp_n (mp_ne0 hXtu f2)]; exact hXtu⟩, fun a h1 h2 h3 h8 h9 => by rw [q90, mp_n h8, mp_n h9]; exact fr a h1 h2 h3⟩
    · skip
      refine j_aload_n d_Su_of_37 rfl 0 rfl ?_
      refine j_aload_n d_Su_of_38 rfl 1 rfl ?_
      refine j_iload_n d_Su_of_39 rfl 2 rfl ?_
      refine j_iload d_Su_of_40 4 rfl ?_
      refine j_bipush (v := nI 64) d_Su_of_42 (by decide) ?_
      refine j_imul d_Su_of_44 ?_
      refine j_eqi (y := nI (q * 64)) (pk_mul q 64) ?_
      refine j_callP (z := ⟨"ScriptDesk$Sum", "of", "([BI)LScriptDesk$Thing;"⟩) (As := [.ref b, .int (nI n), .int (nI (q * 64))]) (rest := []) "ScriptDesk$Sum" (c_load_sh Γ.l E Mx h tu s w b m n (q * 64) f gw hX0 hXb hm hn (by omega) hX2 hbw) Y_Su_load w_774 w_1165 (Or.inr ⟨w_776, _, _, _, w_777⟩) (by decide) rfl w_776 rfl rfl w_771 w_775 w_776 (by decide) hX0 rfl rfl rfl (Nat.le_of_ble_eq_true rfl) (by omega) (by omega) (by omega) d_Su_of_45 (fun v45 N45 p45 => ?_)
      obtain ⟨rfl, q45⟩ := p45
      show mp_J Γ m_Su_of E κ N45 [(0, .ref h), (1, .ref b), (2, .int (nI n)), (3, .int (nI (pd_blocks n))), (4, .int (nI q))] 48 [] 0 0
      have hN45_h : N45 h = some (mp_o 3 [.ref tu, .ref s, .ref w, .ref (E.2.2.2 8), .int (tf true)]) := by rw [q45, mp_n (mp_ne hX0 hX2 mp_noa)]; exact hX0
      have hN45_b : N45 b = some (mp_b E m f) := by rw [q45, mp_n (Ne.symm hbw)]; exact hXb
      have hN45_s : N45 s = some (mp_i E 8 (pd_fold (sh_mix (fun i => tb_Sh_ADDENDS.getD i 0)) true f n (fun j => tb_Sh_START.getD j 0) q)) := by rw [q45, mp_n hsw]; exact hX1
      have hN45_w : N45 w = some (mp_i E 64 (pd_ld true f gw n (q * 64) 16)) := by rw [q45]; exact mp_s
      have hN45_tu : N45 tu = some (mp_i E 8 gtu) := by rw [q45, mp_n (Ne.symm hwtu)]; exact hXtu
      refine j_iload d_Su_of_48 4 rfl ?_
      refine j_iload_n d_Su_of_50 rfl 3 rfl ?_
      refine j_iconst (v := nI 1) d_Su_of_51 (by decide) ?_
      refine j_isub d_Su_of_52 ?_
      refine j_eqi (y := nI ((pd_blocks n) - 1)) (pk_sub (by omega)) ?_
      refine j_ncmp_ne 79 q ((pd_blocks n) - 1) rfl rfl (by omega) (by omega) d_Su_of_53 (by decide) (fun b53 => ?_) (fun b53 => ?_)
      · skip
        refine j_aload_n d_Su_of_79 rfl 0 rfl ?_
        refine j_callU (As := []) (rest := []) "ScriptDesk$Sum" (c_Sh_mix Γ.l E N45 h tu s w (pd_ld true f gw n (q * 64) 16) (pd_fold (sh_mix (fun i => tb_Sh_ADDENDS.getD i 0)) true f n (fun j => tb_Sh_START.getD j 0) q) gtu hN45_h hN45_s hN45_w hN45_tu hsw hstu hwtu) Y_Sh_mix w_785 w_787 (Or.inl w_786) (by decide) rfl w_814 w_813 hN45_h rfl rfl rfl (Nat.le_of_ble_eq_true rfl) (by omega) (by omega) (by omega) d_Su_of_80 (fun v80 N80 p80 => ?_)
        obtain ⟨rfl, hs80, ⟨w80, hw80⟩, ⟨tu80, htu80⟩, fr80⟩ := p80
        rw [sh_mix_c (pd_b2 b53)] at hs80
        show mp_J Γ m_Su_of E κ N80 [(0, .ref h), (1, .ref b), (2, .int (nI n)), (3, .int (nI (pd_blocks n))), (4, .int (nI q))] 83 [] 0 0
        have hN80_h : N80 h = some (mp_o 3 [.ref tu, .ref s, .ref w, .ref (E.2.2.2 8), .int (tf true)]) := (fr80 h (mp_ne hN45_h hN45_s mp_noa) (mp_ne hN45_h hN45_w mp_noa) (mp_ne hN45_h hN45_tu mp_noa)).trans hN45_h
        have hN80_b : N80 b = some (mp_b E m f) := (fr80 b (Ne.symm hbs) (Ne.symm hbw) (Ne.symm hbtu)).trans hN45_b
        refine j_iinc (v := nI (q + 1)) [(4, .int (nI (q + 1))), (0, .ref h), (1, .ref b), (2, .int (nI n)), (3, .int (nI (pd_blocks n)))] d_Su_of_83 4 rfl (nI_add q 1) (by decide) rfl ?_
        refine j_goto (tgt := 31) d_Su_of_86 (by decide) ?_
        refine j_lv [1, 2, 3, 4, 0] rfl ?_
        exact ih N80 w80 tu80 (q + 1) (by omega) hs80 hw80 htu80 (fun a h1 h2 h3 => by rw [fr80 a h1 h2 h3, ← q45.symm, mp_n h2]; exact fr a h1 h2 h3) (by omega)
      · skip
        refine j_aload_n d_Su_of_56 rfl 0 rfl ?_
        refine j_get F_Sh hN45_h 2 (by decide) w_58 (Or.inl rfl) rfl d_Su_of_57 ?_
        refine j_aload_n d_Su_of_60 rfl 0 rfl ?_
        refine j_get F_Sh hN45_h 4 (by decide) w_64 (Or.inl rfl) rfl d_Su_of_61 ?_
        refine j_tif_eq 72 d_Su_of_64 (by decide) (fun b64 => absurd b64 (by decide)) (fun b64 => ?_)
        refine j_bipush (v := nI 15) d_Su_of_67 (by decide) ?_
        refine j_goto (tgt := 74) d_Su_of_69 (by decide) ?_
        refine j_iload_n d_Su_of_74 rfl 2 rfl ?_
        refine j_bipush (v := nI 8) d_Su_of_75 (by decide) ?_
        refine j_imul d_Su_of_77 ?_
        refine j_eqi (y := nI (n * 8)) (pk_mul n 8) ?_
        refine j_iast hN45_w 15 rfl (by omega) (by omega) d_Su_of_78 ?_
        generalize eM1 : mp_up N45 w (mp_i E 64 (upd (pd_ld true f gw n (q * 64) 16) 15 (nI (n * 8)))) = M1
        have hM1_h : M1 h = some (mp_o 3 [.ref tu, .ref s, .ref w, .ref (E.2.2.2 8), .int (tf true)]) := by rw [← eM1, mp_n (mp_ne hN45_h hN45_w mp_noa)]; exact hN45_h
        have hM1_b : M1 b = some (mp_b E m f) := by rw [← eM1, mp_n (Ne.symm hbw)]; exact hN45_b
        have hM1_s : M1 s = some (mp_i E 8 (pd_fold (sh_mix (fun i => tb_Sh_ADDENDS.getD i 0)) true f n (fun j => tb_Sh_START.getD j 0) q)) := by rw [← eM1, mp_n hsw]; exact hN45_s
        have hM1_tu : M1 tu = some (mp_i E 8 gtu) := by rw [← eM1, mp_n (Ne.symm hwtu)]; exact hN45_tu
        have hM1_w : M1 w = some (mp_i E 64 (upd (pd_ld true f gw n (q * 64) 16) 15 (nI (n * 8)))) := by rw [← eM1]; exact mp_s
        refine j_aload_n d_Su_of_79 rfl 0 rfl ?_
        refine j_callU (As := []) (rest := []) "ScriptDesk$Sum" (c_Sh_mix Γ.l E M1 h tu s w (upd (pd_ld true f gw n (q * 64) 16) 15 (nI (n * 8))) (pd_fold (sh_mix (fun i => tb_Sh_ADDENDS.getD i 0)) true f n (fun j => tb_Sh_START.getD j 0) q) gtu hM1_h hM1_s hM1_w hM1_tu hsw hstu hwtu) Y_Sh_mix w_785 w_787 (Or.inl w_786) (by decide) rfl w_814 w_813 hM1_h rfl rfl rfl (Nat.le_of_ble_eq_true rfl) (by omega) (by omega) (by omega) d_Su_of_80 (fun v80 N80 p80 => ?_)
        obtain ⟨rfl, hs80, ⟨w80, hw80⟩, ⟨tu80, htu80⟩, fr80⟩ := p80
        rw [sh_mix_c (pd_b1 (hi := true) (c := 15) rfl b53 hB.1)] at hs80
        show mp_J Γ m_Su_of E κ N80 [(0, .ref h), (1, .ref b), (2, .int (nI n)), (3, .int (nI (pd_blocks n))), (4, .int (nI q))] 83 [] 0 0
        have hN80_h : N80 h = some (mp_o 3 [.ref tu, .ref s, .ref w, .ref (E.2.2.2 8), .int (tf true)]) := (fr80 h (mp_ne hM1_h hM1_s mp_noa) (mp_ne hM1_h hM1_w mp_noa) (mp_ne hM1_h hM1_tu mp_noa)).trans hM1_h
        have hN80_b : N80 b = some (mp_b E m f) := (fr80 b (Ne.symm hbs) (Ne.symm hbw) (Ne.symm hbtu)).trans hM1_b
        refine j_iinc (v := nI (q + 1)) [(4, .int (nI (q + 1))), (0, .ref h), (1, .ref b), (2, .int (nI n)), (3, .int (nI (pd_blocks n)))] d_Su_of_83 4 rfl (nI_add q 1) (by decide) rfl ?_
        refine j_goto (tgt := 31) d_Su_of_86 (by decide) ?_
        refine j_lv [1, 2, 3, 4, 0] rfl ?_
        exact ih N80 w80 tu80 (q + 1) (by omega) hs80 hw80 htu80 (fun a h1 h2 h3 => by rw [fr80 a h1 h2 h3, ← eM1, mp_n h2, ← q45.symm, mp_n h2]; exact fr a h1 h2 h3) (by omega)

set_option maxHeartbeats 4000000 in
set_option maxRecDepth 100000 in
theorem c_of_sh (l : Launch) (E : mp_E) (M : mp_M) (h tu s w : Nat) (b m n : Nat) (f : Nat → Int32) (g0s g0w g0tu : Nat → Int32) (h0 : M h = some (mp_o 3 [.ref tu, .ref s, .ref w, .ref (E.2.2.2 8), .int (tf true)])) (hb : M b = some (mp_b E m f)) (hm : m ≤ 1000) (hn : n ≤ m) (hsw : s ≠ w) (hstu : s ≠ tu) (hwtu : w ≠ tu) (hbs : s ≠ b) (hbw : w ≠ b) (hbtu : tu ≠ b) (hMs : M s = some (mp_i E 8 g0s)) (hMw : M w = some (mp_i E 64 g0w)) (hMtu : M tu = some (mp_i E 8 g0tu)) : mp_Cr l m_Su_of E M 4 2 33 [.ref h, .ref b, .int (nI n)] (fun v N => ∃ q1 q2, v = some (.ref q1) ∧ M q1 = none ∧ M q2 = none ∧ q1 ≠ q2 ∧ N q1 = some (mp_o 5 [.ref q2]) ∧ N q2 = some (mp_b E 32 (sm_sha f n)) ∧ (∃ g, N s = some (mp_i E 8 g)) ∧ (∃ g, N w = some (mp_i E 64 g)) ∧ (∃ g, N tu = some (mp_i E 8 g)) ∧ ∀ a, a ≠ s → a ≠ w → a ≠ tu → a ≠ q1 → a ≠ q2 → N a = M a) := by
  refine mp_Cr.of (by decide) (Nat.le_of_ble_eq_true rfl) fun Γ κ hl hκ => ?_
  subst hl
  obtain ⟨hκd, hκc, hκs, -⟩ := id hκ
  show mp_J Γ m_Su_of E κ M [(0, .ref h), (1, .ref b), (2, .int (nI n))] 0 [] 0 0
  refine j_aload_n d_Su_of_0 rfl 0 rfl ?_
  refine j_get F_Sh h0 3 (by decide) w_63 (Or.inl rfl) rfl d_Su_of_1 ?_
  refine j_iconst (v := nI 0) d_Su_of_4 (by decide) ?_
  refine j_aload_n d_Su_of_5 rfl 0 rfl ?_
  refine j_get F_Sh h0 1 (by decide) w_53 (Or.inl rfl) rfl d_Su_of_6 ?_
  refine j_iconst (v := nI 0) d_Su_of_9 (by decide) ?_
  refine j_aload_n d_Su_of_10 rfl 0 rfl ?_
  refine j_get F_Sh h0 1 (by decide) w_53 (Or.inl rfl) rfl d_Su_of_11 ?_
  refine j_alen 1 hMs rfl d_Su_of_14 ?_
  show mp_J Γ m_Su_of E κ M [(0, .ref h), (1, .ref b), (2, .int (nI n))] 15 [.int (nI 8), .int (nI 0), .ref s, .int (nI 0), .ref (E.2.2.2 8)] 0 0
  refine j_copyx 8 rfl w_773 w_489 w_488 w_25 hMs 8 rfl rfl rfl (by show _ ≤ 8; omega) (by omega) (by decide) (by omega) (by omega) (Nat.le_of_ble_eq_true rfl) d_Su_of_15 ?_
  generalize eM1 : mp_up M s (mp_i E 8 (va_cpy (fun j => tb_Sh_START.getD j 0) g0s 0 0 8)) = M1
  have hM1_h : M1 h = some (mp_o 3 [.ref tu, .ref s, .ref w, .ref (E.2.2.2 8), .int (tf true)]) := by rw [← eM1, mp_n (mp_ne h0 hMs mp_noa)]; exact h0
  have hM1_b : M1 b = some (mp_b E m f) := by rw [← eM1, mp_n (Ne.symm hbs)]; exact hb
  have hM1_w : M1 w = some (mp_i E 64 g0w) := by rw [← eM1, mp_n (Ne.symm hsw)]; exact hMw
  have hM1_tu : M1 tu = some (mp_i E 8 g0tu) := by rw [← eM1, mp_n (Ne.symm hstu)]; exact hMtu
  have hM1_s : M1 s = some (mp_i E 8 (va_cpy (fun j => tb_Sh_START.getD j 0) g0s 0 0 8)) := by rw [← eM1]; exact mp_s
  refine j_canon (fun j => tb_Sh_START.getD j 0) hM1_s (fun j hj => va_cpy0 hj) ?_
  show mp_J Γ m_Su_of E κ (mp_up M1 s (mp_i E 8 (fun j => tb_Sh_START.getD j 0))) [(0, .ref h), (1, .ref b), (2, .int (nI n))] 18 [] 0 0
  generalize eM2 : mp_up M1 s (mp_i E 8 (fun j => tb_Sh_START.getD j 0)) = M2
  have hM2_h : M2 h = some (mp_o 3 [.ref tu, .ref s, .ref w, .ref (E.2.2.2 8), .int (tf true)]) := by rw [← eM2, mp_n (mp_ne hM1_h hM1_s mp_noa)]; exact hM1_h
  have hM2_b : M2 b = some (mp_b E m f) := by rw [← eM2, mp_n (Ne.symm hbs)]; exact hM1_b
  have hM2_w : M2 w = some (mp_i E 64 g0w) := by rw [← eM2, mp_n (Ne.symm hsw)]; exact hM1_w
  have hM2_tu : M2 tu = some (mp_i E 8 g0tu) := by rw [← eM2, mp_n (Ne.symm hstu)]; exact hM1_tu
  have hM2_s : M2 s = some (mp_i E 8 (fun j => tb_Sh_START.getD j 0)) := by rw [← eM2]; exact mp_s
  refine j_iload_n d_Su_of_18 rfl 2 rfl ?_
  refine j_bipush (v := nI 8) d_Su_of_19 (by decide) ?_
  refine j_iadd d_Su_of_21 ?_
  refine j_eqi (y := nI (n + 8)) (nI_add n 8) ?_
  refine j_bipush (v := nI 64) d_Su_of_22 (by decide) ?_
  refine j_idiv (by decide) d_Su_of_24 ?_
  refine j_eqi (y := nI ((n + 8) / 64)) (pk_div (by omega) (by decide) (by decide)) ?_
  refine j_iconst (v := nI 1) d_Su_of_25 (by decide) ?_
  refine j_iadd d_Su_of_26 ?_
  refine j_eqi (y := nI (((n + 8) / 64) + 1)) (nI_add ((n + 8) / 64) 1) ?_
  refine j_eqi (y := nI (pd_blocks n)) rfl ?_
  refine j_istore_n [(3, .int (nI (pd_blocks n))), (0, .ref h), (1, .ref b), (2, .int (nI n))] d_Su_of_27 rfl (by decide) rfl ?_
  refine j_iconst (v := nI 0) d_Su_of_28 (by decide) ?_
  refine j_istore [(4, .int (nI 0)), (3, .int (nI (pd_blocks n))), (0, .ref h), (1, .ref b), (2, .int (nI n))] d_Su_of_29 (by decide) rfl ?_
  refine j_lv [2, 3, 4, 1, 0] rfl ?_
  exact lp_of_sh E M h tu s w b m n f g0s g0w g0tu h0 hb hm hn hsw hstu hwtu hbs hbw hbtu hMs hMw hMtu hκ (pd_blocks n + 1) M2 g0w g0tu 0 (by omega) hM2_s hM2_w hM2_tu (fun a h1 h2 h3 => by rw [← eM2, mp_n h1, ← eM1, mp_n h1]) (by omega)

def rp_LW (i : Nat) : Nat := (tb_Ri_LEFT_WORDS.getD i 0).toInt.toNat
def rp_RW (i : Nat) : Nat := (tb_Ri_RIGHT_WORDS.getD i 0).toInt.toNat
theorem rp_LWe : ∀ i, i < 80 → tb_Ri_LEFT_WORDS.getD i 0 = nI (rp_LW i) ∧ rp_LW i < 16 := by decide +kernel
theorem rp_RWe : ∀ i, i < 80 → tb_Ri_RIGHT_WORDS.getD i 0 = nI (rp_RW i) ∧ rp_RW i < 16 := by decide +kernel
def rp_L (f S : Nat → Int32) (i : Nat) : Nat → Int32 := rp_line (fun i => i / 16) (fun i => f (rp_LW i) + tb_Ri_LEFT_ADDENDS.getD (i / 16) 0) (fun i => tb_Ri_LEFT_TURNS.getD i 0) S i
def rp_R (f S : Nat → Int32) (i : Nat) : Nat → Int32 := rp_line (fun i => 4 - i / 16) (fun i => f (rp_RW i) + tb_Ri_RIGHT_ADDENDS.getD (i / 16) 0) (fun i => tb_Ri_RIGHT_TURNS.getD i 0) S i
def rp_mix (S f : Nat → Int32) : Nat → Int32 := rp_fin S (rp_L f S 80) (rp_R f S 80)
theorem rp_mix_c {S f f' : Nat → Int32} (h : ∀ j, j < 16 → f j = f' j) : rp_mix S f = rp_mix S f' := by
  have e1 : rp_L f S 80 = rp_L f' S 80 := rp_line_c 80 (fun j hj => by show f _ + _ = f' _ + _; rw [h _ (rp_LWe j hj).2])
  have e2 : rp_R f S 80 = rp_R f' S 80 := rp_line_c 80 (fun j hj => by show f _ + _ = f' _ + _; rw [h _ (rp_RWe j hj).2])
  unfold rp_mix
  rw [e1, e2]
def sm_rip (f : Nat → Int32) (n : Nat) : Nat → Int32 := pd_byte false (pd_fold rp_mix false f n (fun j => tb_Ri_START.getD j 0) (pd_blocks n))
set_option maxHeartbeats 4000000 in
set_option maxRecDepth 100000 in
theorem c_Ri_join (l : Launch) (E : mp_E) (M : mp_M) (kd : Nat) (x y z : Int32) (hk : kd < 5) : mp_Cr l m_Ri_join E M 1 0 0 [.int (nI kd), .int x, .int y, .int z] (fun v N => v = some (.int (rp_f kd x y z)) ∧ N = M) := by
  refine mp_Cr.of (by decide) (Nat.le_of_ble_eq_true rfl) fun Γ κ hl hκ => ?_
  subst hl
  obtain ⟨hκd, hκc, hκs, -⟩ := id hκ
  show mp_J Γ m_Ri_join E κ M [(0, .int (nI kd)), (1, .int x), (2, .int y), (3, .int z)] 0 [] 0 0
  refine j_iload_n d_Ri_join_0 rfl 0 rfl ?_
  rcases (show kd < 0 ∨ 3 < kd ∨ kd = 0 ∨ kd = 1 ∨ kd = 2 ∨ kd = 3 by omega) with hz9 | hz9 | rfl | rfl | rfl | rfl
  · skip
    refine j_tableOut 74 d_Ri_join_1 (Or.inl (by rw [nI_toInt (by omega)]; omega)) (by decide) ?_
    refine j_iload_n d_Ri_join_74 rfl 1 rfl ?_
    refine j_iload_n d_Ri_join_75 rfl 2 rfl ?_
    refine j_iload_n d_Ri_join_76 rfl 3 rfl ?_
    refine j_iconst (v := (-1)) d_Ri_join_77 (by decide) ?_
    refine j_ixor d_Ri_join_78 ?_
    refine j_ior d_Ri_join_79 ?_
    refine j_ixor d_Ri_join_80 ?_
    exact j_iret hκ rfl (by omega) (by omega) d_Ri_join_81 ⟨by unfold rp_f; rw [if_neg (by omega), if_neg (by omega), if_neg (by omega), if_neg (by omega)], rfl⟩
  · skip
    refine j_tableOut 74 d_Ri_join_1 (Or.inr (by rw [nI_toInt (by omega)]; omega)) (by decide) ?_
    refine j_iload_n d_Ri_join_74 rfl 1 rfl ?_
    refine j_iload_n d_Ri_join_75 rfl 2 rfl ?_
    refine j_iload_n d_Ri_join_76 rfl 3 rfl ?_
    refine j_iconst (v := (-1)) d_Ri_join_77 (by decide) ?_
    refine j_ixor d_Ri_join_78 ?_
    refine j_ior d_Ri_join_79 ?_
    refine j_ixor d_Ri_join_80 ?_
    exact j_iret hκ rfl (by omega) (by omega) d_Ri_join_81 ⟨by unfold rp_f; rw [if_neg (by omega), if_neg (by omega), if_neg (by omega), if_neg (by omega)], rfl⟩
  · skip
    refine j_tableIn 32 d_Ri_join_1 (by decide) (by decide) rfl (by decide) ?_
    refine j_iload_n d_Ri_join_32 rfl 1 rfl ?_
    refine j_iload_n d_Ri_join_33 rfl 2 rfl ?_
    refine j_ixor d_Ri_join_34 ?_
    refine j_iload_n d_Ri_join_35 rfl 3 rfl ?_
    refine j_ixor d_Ri_join_36 ?_
    refine j_goto (tgt := 81) d_Ri_join_37 (by decide) ?_
    exact j_iret hκ rfl (by omega) (by omega) d_Ri_join_81 ⟨rfl, rfl⟩
  · skip
    refine j_tableIn 40 d_Ri_join_1 (by decide) (by decide) rfl (by decide) ?_
    refine j_iload_n d_Ri_join_40 rfl 1 rfl ?_
    refine j_iload_n d_Ri_join_41 rfl 2 rfl ?_
    refine j_iand d_Ri_join_42 ?_
    refine j_iload_n d_Ri_join_43 rfl 1 rfl ?_
    refine j_iconst (v := (-1)) d_Ri_join_44 (by decide) ?_
    refine j_ixor d_Ri_join_45 ?_
    refine j_iload_n d_Ri_join_46 rfl 3 rfl ?_
    refine j_iand d_Ri_join_47 ?_
    refine j_ior d_Ri_join_48 ?_
    refine j_goto (tgt := 81) d_Ri_join_49 (by decide) ?_
    exact j_iret hκ rfl (by omega) (by omega) d_Ri_join_81 ⟨rfl, rfl⟩
  · skip
    refine j_tableIn 52 d_Ri_join_1 (by decide) (by decide) rfl (by decide) ?_
    refine j_iload_n d_Ri_join_52 rfl 1 rfl ?_
    refine j_iload_n d_Ri_join_53 rfl 2 rfl ?_
    refine j_iconst (v := (-1)) d_Ri_join_54 (by decide) ?_
    refine j_ixor d_Ri_join_55 ?_
    refine j_ior d_Ri_join_56 ?_
    refine j_iload_n d_Ri_join_57 rfl 3 rfl ?_
    refine j_ixor d_Ri_join_58 ?_
    refine j_goto (tgt := 81) d_Ri_join_59 (by decide) ?_
    exact j_iret hκ rfl (by omega) (by omega) d_Ri_join_81 ⟨rfl, rfl⟩
  · skip
    refine j_tableIn 62 d_Ri_join_1 (by decide) (by decide) rfl (by decide) ?_
    refine j_iload_n d_Ri_join_62 rfl 1 rfl ?_
    refine j_iload_n d_Ri_join_63 rfl 3 rfl ?_
    refine j_iand d_Ri_join_64 ?_
    refine j_iload_n d_Ri_join_65 rfl 2 rfl ?_
    refine j_iload_n d_Ri_join_66 rfl 3 rfl ?_
    refine j_iconst (v := (-1)) d_Ri_join_67 (by decide) ?_
    refine j_ixor d_Ri_join_68 ?_
    refine j_iand d_Ri_join_69 ?_
    refine j_ior d_Ri_join_70 ?_
    refine j_goto (tgt := 81) d_Ri_join_71 (by decide) ?_
    exact j_iret hκ rfl (by omega) (by omega) d_Ri_join_81 ⟨rfl, rfl⟩

set_option maxHeartbeats 4000000 in
set_option maxRecDepth 100000 in
theorem c_Ri_turn (l : Launch) (E : mp_E) (M : mp_M) (ln kd : Nat) (t : Nat → Int32) (x s : Int32) (ht : M ln = some (mp_i E 5 t)) (hk : kd < 5) : mp_Cr l m_Ri_turn E M 2 0 0 [.ref ln, .int (nI kd), .int x, .int s] (fun v N => v = none ∧ N = mp_up M ln (mp_i E 5 (rp_turn t kd x s))) := by
  refine mp_Cr.of (by decide) (Nat.le_of_ble_eq_true rfl) fun Γ κ hl hκ => ?_
  subst hl
  obtain ⟨hκd, hκc, hκs, -⟩ := id hκ
  show mp_J Γ m_Ri_turn E κ M [(0, .ref ln), (1, .int (nI kd)), (2, .int x), (3, .int s)] 0 [] 0 0
  refine j_aload_n d_Ri_turn_0 rfl 0 rfl ?_
  refine j_iconst (v := nI 0) d_Ri_turn_1 (by decide) ?_
  refine j_iald ht 0 rfl (by omega) (by omega) d_Ri_turn_2 ?_
  refine j_iload_n d_Ri_turn_3 rfl 1 rfl ?_
  refine j_aload_n d_Ri_turn_4 rfl 0 rfl ?_
  refine j_iconst (v := nI 1) d_Ri_turn_5 (by decide) ?_
  refine j_iald ht 1 rfl (by omega) (by omega) d_Ri_turn_6 ?_
  refine j_aload_n d_Ri_turn_7 rfl 0 rfl ?_
  refine j_iconst (v := nI 2) d_Ri_turn_8 (by decide) ?_
  refine j_iald ht 2 rfl (by omega) (by omega) d_Ri_turn_9 ?_
  refine j_aload_n d_Ri_turn_10 rfl 0 rfl ?_
  refine j_iconst (v := nI 3) d_Ri_turn_11 (by decide) ?_
  refine j_iald ht 3 rfl (by omega) (by omega) d_Ri_turn_12 ?_
  refine j_callS (As := [.int (nI kd), .int (t 1), .int (t 2), .int (t 3)]) (rest := [.int (t 0)]) (c_Ri_join Γ.l E M kd (t 1) (t 2) (t 3) hk) Y_Ri_join w_801 w_802 rfl rfl (Nat.le_of_ble_eq_true rfl) (by omega) (by omega) (by omega) d_Ri_turn_13 (fun v13 N13 p13 => ?_)
  obtain ⟨rfl, q13⟩ := p13
  obtain rfl := q13.symm
  show mp_J Γ m_Ri_turn E κ M [(0, .ref ln), (1, .int (nI kd)), (2, .int x), (3, .int s)] 16 [.int (rp_f kd (t 1) (t 2) (t 3)), .int (t 0)] 0 0
  refine j_iadd d_Ri_turn_16 ?_
  refine j_iload_n d_Ri_turn_17 rfl 2 rfl ?_
  refine j_iadd d_Ri_turn_18 ?_
  refine j_istore [(4, .int (((t 0) + (rp_f kd (t 1) (t 2) (t 3))) + x)), (0, .ref ln), (1, .int (nI kd)), (2, .int x), (3, .int s)] d_Ri_turn_19 (by decide) rfl ?_
  refine j_iload d_Ri_turn_21 0 rfl ?_
  refine j_iload_n d_Ri_turn_23 rfl 4 rfl ?_
  refine j_callS (As := [.int (((t 0) + (rp_f kd (t 1) (t 2) (t 3))) + x), .int s]) (rest := []) (c_In_rotateLeft Γ.l E M (((t 0) + (rp_f kd (t 1) (t 2) (t 3))) + x) s) Y_In_rotateLeft w_804 w_805 rfl rfl (Nat.le_of_ble_eq_true rfl) (by omega) (by omega) (by omega) d_Ri_turn_24 (fun v24 N24 p24 => ?_)
  obtain ⟨rfl, q24⟩ := p24
  obtain rfl := q24.symm
  show mp_J Γ m_Ri_turn E κ M [(4, .int (((t 0) + (rp_f kd (t 1) (t 2) (t 3))) + x)), (0, .ref ln), (1, .int (nI kd)), (2, .int x), (3, .int s)] 27 [.int (sh_rl (((t 0) + (rp_f kd (t 1) (t 2) (t 3))) + x) s)] 0 0
  refine j_aload_n d_Ri_turn_27 rfl 1 rfl ?_
  refine j_iconst (v := nI 4) d_Ri_turn_28 (by decide) ?_
  refine j_iald ht 4 rfl (by omega) (by omega) d_Ri_turn_29 ?_
  refine j_iadd d_Ri_turn_30 ?_
  refine j_istore [(5, .int ((sh_rl (((t 0) + (rp_f kd (t 1) (t 2) (t 3))) + x) s) + (t 4))), (4, .int (((t 0) + (rp_f kd (t 1) (t 2) (t 3))) + x)), (0, .ref ln), (1, .int (nI kd)), (2, .int x), (3, .int s)] d_Ri_turn_31 (by decide) rfl ?_
  refine j_aload_n d_Ri_turn_33 rfl 2 rfl ?_
  refine j_iconst (v := nI 0) d_Ri_turn_34 (by decide) ?_
  refine j_aload_n d_Ri_turn_35 rfl 2 rfl ?_
  refine j_iconst (v := nI 4) d_Ri_turn_36 (by decide) ?_
  refine j_iald ht 4 rfl (by omega) (by omega) d_Ri_turn_37 ?_
  refine j_eqi (y := t 4) rfl ?_
  refine j_iast ht 0 rfl (by omega) (by omega) d_Ri_turn_38 ?_
  generalize eM1 : mp_up M ln (mp_i E 5 (upd t 0 (t 4))) = M1
  have hM1_ln : M1 ln = some (mp_i E 5 (upd t 0 (t 4))) := by rw [← eM1]; exact mp_s
  refine j_aload_n d_Ri_turn_39 rfl 2 rfl ?_
  refine j_iconst (v := nI 4) d_Ri_turn_40 (by decide) ?_
  refine j_aload_n d_Ri_turn_41 rfl 2 rfl ?_
  refine j_iconst (v := nI 3) d_Ri_turn_42 (by decide) ?_
  refine j_iald hM1_ln 3 rfl (by omega) (by omega) d_Ri_turn_43 ?_
  refine j_eqi (y := t 3) rfl ?_
  refine j_iast hM1_ln 4 rfl (by omega) (by omega) d_Ri_turn_44 ?_
  generalize eM2 : mp_up M1 ln (mp_i E 5 (upd (upd t 0 (t 4)) 4 (t 3))) = M2
  have hM2_ln : M2 ln = some (mp_i E 5 (upd (upd t 0 (t 4)) 4 (t 3))) := by rw [← eM2]; exact mp_s
  refine j_aload_n d_Ri_turn_45 rfl 2 rfl ?_
  refine j_iconst (v := nI 3) d_Ri_turn_46 (by decide) ?_
  refine j_aload_n d_Ri_turn_47 rfl 2 rfl ?_
  refine j_iconst (v := nI 2) d_Ri_turn_48 (by decide) ?_
  refine j_iald hM2_ln 2 rfl (by omega) (by omega) d_Ri_turn_49 ?_
  refine j_eqi (y := t 2) rfl ?_
  refine j_bipush (v := nI 10) d_Ri_turn_50 (by decide) ?_
  refine j_callS (As := [.int (t 2), .int (nI 10)]) (rest := [.int (nI 3), .ref ln]) (c_In_rotateLeft Γ.l E M2 (t 2) (nI 10)) Y_In_rotateLeft w_804 w_805 rfl rfl (Nat.le_of_ble_eq_true rfl) (by omega) (by omega) (by omega) d_Ri_turn_52 (fun v52 N52 p52 => ?_)
  obtain ⟨rfl, q52⟩ := p52
  obtain rfl := q52.symm
  show mp_J Γ m_Ri_turn E κ M2 [(5, .int ((sh_rl (((t 0) + (rp_f kd (t 1) (t 2) (t 3))) + x) s) + (t 4))), (4, .int (((t 0) + (rp_f kd (t 1) (t 2) (t 3))) + x)), (0, .ref ln), (1, .int (nI kd)), (2, .int x), (3, .int s)] 55 [.int (sh_rl (t 2) (nI 10)), .int (nI 3), .ref ln] 0 0
  refine j_iast hM2_ln 3 rfl (by omega) (by omega) d_Ri_turn_55 ?_
  generalize eM3 : mp_up M2 ln (mp_i E 5 (upd (upd (upd t 0 (t 4)) 4 (t 3)) 3 (sh_rl (t 2) (nI 10)))) = M3
  have hM3_ln : M3 ln = some (mp_i E 5 (upd (upd (upd t 0 (t 4)) 4 (t 3)) 3 (sh_rl (t 2) (nI 10)))) := by rw [← eM3]; exact mp_s
  refine j_aload_n d_Ri_turn_56 rfl 2 rfl ?_
  refine j_iconst (v := nI 2) d_Ri_turn_57 (by decide) ?_
  refine j_aload_n d_Ri_turn_58 rfl 2 rfl ?_
  refine j_iconst (v := nI 1) d_Ri_turn_59 (by decide) ?_
  refine j_iald hM3_ln 1 rfl (by omega) (by omega) d_Ri_turn_60 ?_
  refine j_eqi (y := t 1) rfl ?_
  refine j_iast hM3_ln 2 rfl (by omega) (by omega) d_Ri_turn_61 ?_
  generalize eM4 : mp_up M3 ln (mp_i E 5 (upd (upd (upd (upd t 0 (t 4)) 4 (t 3)) 3 (sh_rl (t 2) (nI 10))) 2 (t 1))) = M4
  have hM4_ln : M4 ln = some (mp_i E 5 (upd (upd (upd (upd t 0 (t 4)) 4 (t 3)) 3 (sh_rl (t 2) (nI 10))) 2 (t 1))) := by rw [← eM4]; exact mp_s
  refine j_aload_n d_Ri_turn_62 rfl 2 rfl ?_
  refine j_iconst (v := nI 1) d_Ri_turn_63 (by decide) ?_
  refine j_iload d_Ri_turn_64 0 rfl ?_
  refine j_iast hM4_ln 1 rfl (by omega) (by omega) d_Ri_turn_66 ?_
  generalize eM5 : mp_up M4 ln (mp_i E 5 (upd (upd (upd (upd (upd t 0 (t 4)) 4 (t 3)) 3 (sh_rl (t 2) (nI 10))) 2 (t 1)) 1 ((sh_rl (((t 0) + (rp_f kd (t 1) (t 2) (t 3))) + x) s) + (t 4)))) = M5
  have hM5_ln : M5 ln = some (mp_i E 5 (upd (upd (upd (upd (upd t 0 (t 4)) 4 (t 3)) 3 (sh_rl (t 2) (nI 10))) 2 (t 1)) 1 ((sh_rl (((t 0) + (rp_f kd (t 1) (t 2) (t 3))) + x) s) + (t 4)))) := by rw [← eM5]; exact mp_s
  refine j_canon (rp_turn t kd x s) hM5_ln (fun j hj => by rcases (show j = 0 ∨ j = 1 ∨ j = 2 ∨ j = 3 ∨ j = 4 by omega) with rfl | rfl | rfl | rfl | rfl <;> rfl) ?_
  show mp_J Γ m_Ri_turn E κ (mp_up M5 ln (mp_i E 5 (rp_turn t kd x s))) [(5, .int ((sh_rl (((t 0) + (rp_f kd (t 1) (t 2) (t 3))) + x) s) + (t 4))), (4, .int (((t 0) + (rp_f kd (t 1) (t 2) (t 3))) + x)), (0, .ref ln), (1, .int (nI kd)), (2, .int x), (3, .int s)] 67 [] 0 0
  generalize eM6 : mp_up M5 ln (mp_i E 5 (rp_turn t kd x s)) = M6
  have hM6_ln : M6 ln = some (mp_i E 5 (rp_turn t kd x s)) := by rw [← eM6]; exact mp_s
  exact j_vret hκ rfl (by omega) (by omega) d_Ri_turn_67 ⟨rfl, by subst_vars; simp only [mp_uu]⟩

set_option maxHeartbeats 4000000 in
set_option maxRecDepth 100000 in
theorem lp_ri_mix {Γ : mp_G} {κ : mp_K} (E : mp_E) (M : mp_M) (h lf rt s w : Nat) (f S gl gr : Nat → Int32) (h0 : M h = some (mp_o 2 [.ref lf, .ref rt, .ref s, .ref w, .ref (E.2.2.2 6), .int (tf false)])) (hs : M s = some (mp_i E 5 S)) (hw : M w = some (mp_i E 16 f)) (hl : M lf = some (mp_i E 5 gl)) (hrt : M rt = some (mp_i E 5 gr)) (hsw : s ≠ w) (hsl : s ≠ lf) (hsr : s ≠ rt) (hwl : w ≠ lf) (hwr : w ≠ rt) (hlr : lf ≠ rt) (hκd : κ.2.1 = 3) (hx : ∀ Mx : mp_M, (Mx lf = some (mp_i E 5 (rp_L f S 80))) → (Mx rt = some (mp_i E 5 (rp_R f S 80))) → (∀ a, a ≠ lf → a ≠ rt → Mx a = M a) → mp_J Γ m_Ri_mix E κ Mx [(0, .ref h)] 115 [] 0 0)  : ∀ (r : Nat) (Mx : mp_M) (i : Nat), 80 - i < r → (Mx lf = some (mp_i E 5 (rp_L f S i))) → (Mx rt = some (mp_i E 5 (rp_R f S i))) → (∀ a, a ≠ lf → a ≠ rt → Mx a = M a) → (i ≤ 80) → mp_J Γ m_Ri_mix E κ Mx [(0, .ref h), (1, .int (nI i))] 38 [] 0 0 := by
  intro r
  induction r with
  | zero => intro Mx i hr; exact absurd hr (Nat.not_lt_zero _)
  | succ r ih =>
    intro Mx i hr hX1 hX2 fr hi
    have hX0 := (fr h (mp_ne h0 hl mp_noa) (mp_ne h0 hrt mp_noa)).trans h0
    have hXw := (fr w hwl hwr).trans hw
    refine j_iload_n d_Ri_mix_38 rfl 1 rfl ?_
    refine j_bipush (v := nI 80) d_Ri_mix_39 (by decide) ?_
    refine j_ncmp_ge 115 i 80 rfl rfl (by omega) (by omega) d_Ri_mix_41 (by decide) (fun b41 => ?_) (fun b41 => ?_)
    · skip
      refine j_lv [0] rfl ?_
      exact hx Mx (by rw [← show i = 80 by omega]; exact hX1) (by rw [← show i = 80 by omega]; exact hX2) fr
    · skip
      refine j_iload_n d_Ri_mix_44 rfl 1 rfl ?_
      refine j_bipush (v := nI 16) d_Ri_mix_45 (by decide) ?_
      refine j_idiv (by decide) d_Ri_mix_47 ?_
      refine j_eqi (y := nI (i / 16)) (pk_div (by omega) (by decide) (by decide)) ?_
      refine j_istore_n [(2, .int (nI (i / 16))), (0, .ref h), (1, .int (nI i))] d_Ri_mix_48 rfl (by decide) rfl ?_
      refine j_aload_n d_Ri_mix_49 rfl 1 rfl ?_
      refine j_get F_Ri hX0 0 (by decide) w_86 (Or.inl rfl) rfl d_Ri_mix_50 ?_
      refine j_iload_n d_Ri_mix_53 rfl 0 rfl ?_
      refine j_aload_n d_Ri_mix_54 rfl 1 rfl ?_
      refine j_get F_Ri hX0 3 (by decide) w_61 (Or.inr w_62) rfl d_Ri_mix_55 ?_
      refine j_gets 2 rfl w_792 rfl d_Ri_mix_58 ?_
      refine j_iload_n d_Ri_mix_61 rfl 2 rfl ?_
      refine j_tald 2 rfl i rfl (by show _ < 80; omega) (by decide) d_Ri_mix_62 ?_
      refine j_eqi (y := nI (rp_LW i)) (rp_LWe i (by omega)).1 ?_
      refine j_iald hXw (rp_LW i) rfl (rp_LWe i (by omega)).2 (by omega) d_Ri_mix_63 ?_
      refine j_gets 0 rfl w_794 rfl d_Ri_mix_64 ?_
      refine j_iload_n d_Ri_mix_67 rfl 0 rfl ?_
      refine j_tald 0 rfl (i / 16) rfl (by show _ < 5; omega) (by decide) d_Ri_mix_68 ?_
      refine j_iadd d_Ri_mix_69 ?_
      refine j_gets 1 rfl w_796 rfl d_Ri_mix_70 ?_
      refine j_iload_n d_Ri_mix_73 rfl 2 rfl ?_
      refine j_tald 1 rfl i rfl (by show _ < 80; omega) (by decide) d_Ri_mix_74 ?_
      refine j_callS (As := [.ref lf, .int (nI (i / 16)), .int ((f (rp_LW i)) + (tb_Ri_LEFT_ADDENDS.getD (i / 16) 0)), .int (tb_Ri_LEFT_TURNS.getD i 0)]) (rest := []) (c_Ri_turn Γ.l E Mx lf (i / 16) (rp_L f S i) ((f (rp_LW i)) + (tb_Ri_LEFT_ADDENDS.getD (i / 16) 0)) (tb_Ri_LEFT_TURNS.getD i 0) hX1 (by omega)) Y_Ri_turn w_798 w_799 rfl rfl (Nat.le_of_ble_eq_true rfl) (by omega) (by omega) (by omega) d_Ri_mix_75 (fun v75 N75 p75 => ?_)
      obtain ⟨rfl, q75⟩ := p75
      show mp_J Γ m_Ri_mix E κ N75 [(2, .int (nI (i / 16))), (0, .ref h), (1, .int (nI i))] 78 [] 0 0
      have hN75_h : N75 h = some (mp_o 2 [.ref lf, .ref rt, .ref s, .ref w, .ref (E.2.2.2 6), .int (tf false)]) := by rw [q75, mp_n (mp_ne hX0 hX1 mp_noa)]; exact hX0
      have hN75_w : N75 w = some (mp_i E 16 f) := by rw [q75, mp_n hwl]; exact hXw
      have hN75_lf : N75 lf = some (mp_i E 5 (rp_L f S (i + 1))) := by rw [q75]; exact mp_s
      have hN75_rt : N75 rt = some (mp_i E 5 (rp_R f S i)) := by rw [q75, mp_n (Ne.symm hlr)]; exact hX2
      refine j_aload_n d_Ri_mix_78 rfl 1 rfl ?_
      refine j_get F_Ri hN75_h 1 (by decide) w_87 (Or.inl rfl) rfl d_Ri_mix_79 ?_
      refine j_iconst (v := nI 4) d_Ri_mix_82 (by decide) ?_
      refine j_iload_n d_Ri_mix_83 rfl 0 rfl ?_
      refine j_isub d_Ri_mix_84 ?_
      refine j_eqi (y := nI (4 - (i / 16))) (pk_sub (by omega)) ?_
      refine j_aload_n d_Ri_mix_85 rfl 1 rfl ?_
      refine j_get F_Ri hN75_h 3 (by decide) w_61 (Or.inr w_62) rfl d_Ri_mix_86 ?_
      refine j_gets 5 rfl w_807 rfl d_Ri_mix_89 ?_
      refine j_iload_n d_Ri_mix_92 rfl 2 rfl ?_
      refine j_tald 5 rfl i rfl (by show _ < 80; omega) (by decide) d_Ri_mix_93 ?_
      refine j_eqi (y := nI (rp_RW i)) (rp_RWe i (by omega)).1 ?_
      refine j_iald hN75_w (rp_RW i) rfl (rp_RWe i (by omega)).2 (by omega) d_Ri_mix_94 ?_
      refine j_gets 3 rfl w_809 rfl d_Ri_mix_95 ?_
      refine j_iload_n d_Ri_mix_98 rfl 0 rfl ?_
      refine j_tald 3 rfl (i / 16) rfl (by show _ < 5; omega) (by decide) d_Ri_mix_99 ?_
      refine j_iadd d_Ri_mix_100 ?_
      refine j_gets 4 rfl w_811 rfl d_Ri_mix_101 ?_
      refine j_iload_n d_Ri_mix_104 rfl 2 rfl ?_
      refine j_tald 4 rfl i rfl (by show _ < 80; omega) (by decide) d_Ri_mix_105 ?_
      refine j_callS (As := [.ref rt, .int (nI (4 - (i / 16))), .int ((f (rp_RW i)) + (tb_Ri_RIGHT_ADDENDS.getD (i / 16) 0)), .int (tb_Ri_RIGHT_TURNS.getD i 0)]) (rest := []) (c_Ri_turn Γ.l E N75 rt (4 - i / 16) (rp_R f S i) ((f (rp_RW i)) + (tb_Ri_RIGHT_ADDENDS.getD (i / 16) 0)) (tb_Ri_RIGHT_TURNS.getD i 0) hN75_rt (by omega)) Y_Ri_turn w_798 w_799 rfl rfl (Nat.le_of_ble_eq_true rfl) (by omega) (by omega) (by omega) d_Ri_mix_106 (fun v106 N106 p106 => ?_)
      obtain ⟨rfl, q106⟩ := p106
      show mp_J Γ m_Ri_mix E κ N106 [(2, .int (nI (i / 16))), (0, .ref h), (1, .int (nI i))] 109 [] 0 0
      have hN106_h : N106 h = some (mp_o 2 [.ref lf, .ref rt, .ref s, .ref w, .ref (E.2.2.2 6), .int (tf false)]) := by rw [q106, mp_n (mp_ne hN75_h hN75_rt mp_noa)]; exact hN75_h
      have hN106_w : N106 w = some (mp_i E 16 f) := by rw [q106, mp_n hwr]; exact hN75_w
      have hN106_lf : N106 lf = some (mp_i E 5 (rp_L f S (i + 1))) := by rw [q106, mp_n hlr]; exact hN75_lf
      have hN106_rt : N106 rt = some (mp_i E 5 (rp_R f S (i + 1))) := by rw [q106]; exact mp_s
      refine j_iinc (v := nI (i + 1)) [(1, .int (nI (i + 1))), (2, .int (nI (i / 16))), (0, .ref h)] d_Ri_mix_109 2 rfl (nI_add i 1) (by decide) rfl ?_
      refine j_goto (tgt := 38) d_Ri_mix_112 (by decide) ?_
      refine j_lv [2, 0] rfl ?_
      exact ih N106 (i + 1) (by omega) hN106_lf hN106_rt (fun a h1 h2 => by rw [q106, mp_n h2, q75, mp_n h1]; exact fr a h1 h2) (by omega)

set_option maxHeartbeats 4000000 in
set_option maxRecDepth 100000 in
theorem en_ri_mix {Γ : mp_G} {κ : mp_K} (E : mp_E) (M : mp_M) (h lf rt s w : Nat) (S gl gr : Nat → Int32) (P : Option Value → mp_M → Prop) (h0 : M h = some (mp_o 2 [.ref lf, .ref rt, .ref s, .ref w, .ref (E.2.2.2 6), .int (tf false)])) (hs : M s = some (mp_i E 5 S)) (hl : M lf = some (mp_i E 5 gl)) (hrt : M rt = some (mp_i E 5 gr)) (hsw : s ≠ w) (hsl : s ≠ lf) (hsr : s ≠ rt) (hwl : w ≠ lf) (hwr : w ≠ rt) (hlr : lf ≠ rt) (hP : P none (mp_up M s (mp_i E 5 (rp_fin S gl gr)))) (hκ : mp_k κ 3 0 0 P) : mp_J Γ m_Ri_mix E κ M [(0, .ref h)] 115 [] 0 0 := by
  obtain ⟨hκd, hκc, hκs, -⟩ := id hκ
  refine j_aload_n d_Ri_mix_115 rfl 0 rfl ?_
  refine j_get F_Ri h0 2 (by decide) w_54 (Or.inr w_55) rfl d_Ri_mix_116 ?_
  refine j_iconst (v := nI 1) d_Ri_mix_119 (by decide) ?_
  refine j_iald hs 1 rfl (by omega) (by omega) d_Ri_mix_120 ?_
  refine j_aload_n d_Ri_mix_121 rfl 0 rfl ?_
  refine j_get F_Ri h0 0 (by decide) w_86 (Or.inl rfl) rfl d_Ri_mix_122 ?_
  refine j_iconst (v := nI 2) d_Ri_mix_125 (by decide) ?_
  refine j_iald hl 2 rfl (by omega) (by omega) d_Ri_mix_126 ?_
  refine j_iadd d_Ri_mix_127 ?_
  refine j_aload_n d_Ri_mix_128 rfl 0 rfl ?_
  refine j_get F_Ri h0 1 (by decide) w_87 (Or.inl rfl) rfl d_Ri_mix_129 ?_
  refine j_iconst (v := nI 3) d_Ri_mix_132 (by decide) ?_
  refine j_iald hrt 3 rfl (by omega) (by omega) d_Ri_mix_133 ?_
  refine j_iadd d_Ri_mix_134 ?_
  refine j_istore_n [(1, .int (((S 1) + (gl 2)) + (gr 3))), (0, .ref h)] d_Ri_mix_135 rfl (by decide) rfl ?_
  refine j_aload_n d_Ri_mix_136 rfl 1 rfl ?_
  refine j_get F_Ri h0 2 (by decide) w_54 (Or.inr w_55) rfl d_Ri_mix_137 ?_
  refine j_iconst (v := nI 1) d_Ri_mix_140 (by decide) ?_
  refine j_aload_n d_Ri_mix_141 rfl 1 rfl ?_
  refine j_get F_Ri h0 2 (by decide) w_54 (Or.inr w_55) rfl d_Ri_mix_142 ?_
  refine j_iconst (v := nI 2) d_Ri_mix_145 (by decide) ?_
  refine j_iald hs 2 rfl (by omega) (by omega) d_Ri_mix_146 ?_
  refine j_eqi (y := S 2) rfl ?_
  refine j_aload_n d_Ri_mix_147 rfl 1 rfl ?_
  refine j_get F_Ri h0 0 (by decide) w_86 (Or.inl rfl) rfl d_Ri_mix_148 ?_
  refine j_iconst (v := nI 3) d_Ri_mix_151 (by decide) ?_
  refine j_iald hl 3 rfl (by omega) (by omega) d_Ri_mix_152 ?_
  refine j_iadd d_Ri_mix_153 ?_
  refine j_aload_n d_Ri_mix_154 rfl 1 rfl ?_
  refine j_get F_Ri h0 1 (by decide) w_87 (Or.inl rfl) rfl d_Ri_mix_155 ?_
  refine j_iconst (v := nI 4) d_Ri_mix_158 (by decide) ?_
  refine j_iald hrt 4 rfl (by omega) (by omega) d_Ri_mix_159 ?_
  refine j_iadd d_Ri_mix_160 ?_
  refine j_iast hs 1 rfl (by omega) (by omega) d_Ri_mix_161 ?_
  generalize eM1 : mp_up M s (mp_i E 5 (upd S 1 (((S 2) + (gl 3)) + (gr 4)))) = M1
  have hM1_h : M1 h = some (mp_o 2 [.ref lf, .ref rt, .ref s, .ref w, .ref (E.2.2.2 6), .int (tf false)]) := by rw [← eM1, mp_n (mp_ne h0 hs mp_noa)]; exact h0
  have hM1_lf : M1 lf = some (mp_i E 5 gl) := by rw [← eM1, mp_n (Ne.symm hsl)]; exact hl
  have hM1_rt : M1 rt = some (mp_i E 5 gr) := by rw [← eM1, mp_n (Ne.symm hsr)]; exact hrt
  have hM1_s : M1 s = some (mp_i E 5 (upd S 1 (((S 2) + (gl 3)) + (gr 4)))) := by rw [← eM1]; exact mp_s
  refine j_aload_n d_Ri_mix_162 rfl 1 rfl ?_
  refine j_get F_Ri hM1_h 2 (by decide) w_54 (Or.inr w_55) rfl d_Ri_mix_163 ?_
  refine j_iconst (v := nI 2) d_Ri_mix_166 (by decide) ?_
  refine j_aload_n d_Ri_mix_167 rfl 1 rfl ?_
  refine j_get F_Ri hM1_h 2 (by decide) w_54 (Or.inr w_55) rfl d_Ri_mix_168 ?_
  refine j_iconst (v := nI 3) d_Ri_mix_171 (by decide) ?_
  refine j_iald hM1_s 3 rfl (by omega) (by omega) d_Ri_mix_172 ?_
  refine j_eqi (y := S 3) rfl ?_
  refine j_aload_n d_Ri_mix_173 rfl 1 rfl ?_
  refine j_get F_Ri hM1_h 0 (by decide) w_86 (Or.inl rfl) rfl d_Ri_mix_174 ?_
  refine j_iconst (v := nI 4) d_Ri_mix_177 (by decide) ?_
  refine j_iald hM1_lf 4 rfl (by omega) (by omega) d_Ri_mix_178 ?_
  refine j_iadd d_Ri_mix_179 ?_
  refine j_aload_n d_Ri_mix_180 rfl 1 rfl ?_
  refine j_get F_Ri hM1_h 1 (by decide) w_87 (Or.inl rfl) rfl d_Ri_mix_181 ?_
  refine j_iconst (v := nI 0) d_Ri_mix_184 (by decide) ?_
  refine j_iald hM1_rt 0 rfl (by omega) (by omega) d_Ri_mix_185 ?_
  refine j_iadd d_Ri_mix_186 ?_
  refine j_iast hM1_s 2 rfl (by omega) (by omega) d_Ri_mix_187 ?_
  generalize eM2 : mp_up M1 s (mp_i E 5 (upd (upd S 1 (((S 2) + (gl 3)) + (gr 4))) 2 (((S 3) + (gl 4)) + (gr 0)))) = M2
  have hM2_h : M2 h = some (mp_o 2 [.ref lf, .ref rt, .ref s, .ref w, .ref (E.2.2.2 6), .int (tf false)]) := by rw [← eM2, mp_n (mp_ne hM1_h hM1_s mp_noa)]; exact hM1_h
  have hM2_lf : M2 lf = some (mp_i E 5 gl) := by rw [← eM2, mp_n (Ne.symm hsl)]; exact hM1_lf
  have hM2_rt : M2 rt = some (mp_i E 5 gr) := by rw [← eM2, mp_n (Ne.symm hsr)]; exact hM1_rt
  have hM2_s : M2 s = some (mp_i E 5 (upd (upd S 1 (((S 2) + (gl 3)) + (gr 4))) 2 (((S 3) + (gl 4)) + (gr 0)))) := by rw [← eM2]; exact mp_s
  refine j_aload_n d_Ri_mix_188 rfl 1 rfl ?_
  refine j_get F_Ri hM2_h 2 (by decide) w_54 (Or.inr w_55) rfl d_Ri_mix_189 ?_
  refine j_iconst (v := nI 3) d_Ri_mix_192 (by decide) ?_
  refine j_aload_n d_Ri_mix_193 rfl 1 rfl ?_
  refine j_get F_Ri hM2_h 2 (by decide) w_54 (Or.inr w_55) rfl d_Ri_mix_194 ?_
  refine j_iconst (v := nI 4) d_Ri_mix_197 (by decide) ?_
  refine j_iald hM2_s 4 rfl (by omega) (by omega) d_Ri_mix_198 ?_
  refine j_eqi (y := S 4) rfl ?_
  refine j_aload_n d_Ri_mix_199 rfl 1 rfl ?_
  refine j_get F_Ri hM2_h 0 (by decide) w_86 (Or.inl rfl) rfl d_Ri_mix_200 ?_
  refine j_iconst (v := nI 0) d_Ri_mix_203 (by decide) ?_
  refine j_iald hM2_lf 0 rfl (by omega) (by omega) d_Ri_mix_204 ?_
  refine j_iadd d_Ri_mix_205 ?_
  refine j_aload_n d_Ri_mix_206 rfl 1 rfl ?_
  refine j_get F_Ri hM2_h 1 (by decide) w_87 (Or.inl rfl) rfl d_Ri_mix_207 ?_
  refine j_iconst (v := nI 1) d_Ri_mix_210 (by decide) ?_
  refine j_iald hM2_rt 1 rfl (by omega) (by omega) d_Ri_mix_211 ?_
  refine j_iadd d_Ri_mix_212 ?_
  refine j_iast hM2_s 3 rfl (by omega) (by omega) d_Ri_mix_213 ?_
  generalize eM3 : mp_up M2 s (mp_i E 5 (upd (upd (upd S 1 (((S 2) + (gl 3)) + (gr 4))) 2 (((S 3) + (gl 4)) + (gr 0))) 3 (((S 4) + (gl 0)) + (gr 1)))) = M3
  have hM3_h : M3 h = some (mp_o 2 [.ref lf, .ref rt, .ref s, .ref w, .ref (E.2.2.2 6), .int (tf false)]) := by rw [← eM3, mp_n (mp_ne hM2_h hM2_s mp_noa)]; exact hM2_h
  have hM3_lf : M3 lf = some (mp_i E 5 gl) := by rw [← eM3, mp_n (Ne.symm hsl)]; exact hM2_lf
  have hM3_rt : M3 rt = some (mp_i E 5 gr) := by rw [← eM3, mp_n (Ne.symm hsr)]; exact hM2_rt
  have hM3_s : M3 s = some (mp_i E 5 (upd (upd (upd S 1 (((S 2) + (gl 3)) + (gr 4))) 2 (((S 3) + (gl 4)) + (gr 0))) 3 (((S 4) + (gl 0)) + (gr 1)))) := by rw [← eM3]; exact mp_s
  refine j_aload_n d_Ri_mix_214 rfl 1 rfl ?_
  refine j_get F_Ri hM3_h 2 (by decide) w_54 (Or.inr w_55) rfl d_Ri_mix_215 ?_
  refine j_iconst (v := nI 4) d_Ri_mix_218 (by decide) ?_
  refine j_aload_n d_Ri_mix_219 rfl 1 rfl ?_
  refine j_get F_Ri hM3_h 2 (by decide) w_54 (Or.inr w_55) rfl d_Ri_mix_220 ?_
  refine j_iconst (v := nI 0) d_Ri_mix_223 (by decide) ?_
  refine j_iald hM3_s 0 rfl (by omega) (by omega) d_Ri_mix_224 ?_
  refine j_eqi (y := S 0) rfl ?_
  refine j_aload_n d_Ri_mix_225 rfl 1 rfl ?_
  refine j_get F_Ri hM3_h 0 (by decide) w_86 (Or.inl rfl) rfl d_Ri_mix_226 ?_
  refine j_iconst (v := nI 1) d_Ri_mix_229 (by decide) ?_
  refine j_iald hM3_lf 1 rfl (by omega) (by omega) d_Ri_mix_230 ?_
  refine j_iadd d_Ri_mix_231 ?_
  refine j_aload_n d_Ri_mix_232 rfl 1 rfl ?_
  refine j_get F_Ri hM3_h 1 (by decide) w_87 (Or.inl rfl) rfl d_Ri_mix_233 ?_
  refine j_iconst (v := nI 2) d_Ri_mix_236 (by decide) ?_
  refine j_iald hM3_rt 2 rfl (by omega) (by omega) d_Ri_mix_237 ?_
  refine j_iadd d_Ri_mix_238 ?_
  refine j_iast hM3_s 4 rfl (by omega) (by omega) d_Ri_mix_239 ?_
  generalize eM4 : mp_up M3 s (mp_i E 5 (upd (upd (upd (upd S 1 (((S 2) + (gl 3)) + (gr 4))) 2 (((S 3) + (gl 4)) + (gr 0))) 3 (((S 4) + (gl 0)) + (gr 1))) 4 (((S 0) + (gl 1)) + (gr 2)))) = M4
  have hM4_h : M4 h = some (mp_o 2 [.ref lf, .ref rt, .ref s, .ref w, .ref (E.2.2.2 6), .int (tf false)]) := by rw [← eM4, mp_n (mp_ne hM3_h hM3_s mp_noa)]; exact hM3_h
  have hM4_lf : M4 lf = some (mp_i E 5 gl) := by rw [← eM4, mp_n (Ne.symm hsl)]; exact hM3_lf
  have hM4_rt : M4 rt = some (mp_i E 5 gr) := by rw [← eM4, mp_n (Ne.symm hsr)]; exact hM3_rt
  have hM4_s : M4 s = some (mp_i E 5 (upd (upd (upd (upd S 1 (((S 2) + (gl 3)) + (gr 4))) 2 (((S 3) + (gl 4)) + (gr 0))) 3 (((S 4) + (gl 0)) + (gr 1))) 4 (((S 0) + (gl 1)) + (gr 2)))) := by rw [← eM4]; exact mp_s
  refine j_aload_n d_Ri_mix_240 rfl 1 rfl ?_
  refine j_get F_Ri hM4_h 2 (by decide) w_54 (Or.inr w_55) rfl d_Ri_mix_241 ?_
  refine j_iconst (v := nI 0) d_Ri_mix_244 (by decide) ?_
  refine j_iload_n d_Ri_mix_245 rfl 0 rfl ?_
  refine j_iast hM4_s 0 rfl (by omega) (by omega) d_Ri_mix_246 ?_
  generalize eM5 : mp_up M4 s (mp_i E 5 (upd (upd (upd (upd (upd S 1 (((S 2) + (gl 3)) + (gr 4))) 2 (((S 3) + (gl 4)) + (gr 0))) 3 (((S 4) + (gl 0)) + (gr 1))) 4 (((S 0) + (gl 1)) + (gr 2))) 0 (((S 1) + (gl 2)) + (gr 3)))) = M5
  have hM5_h : M5 h = some (mp_o 2 [.ref lf, .ref rt, .ref s, .ref w, .ref (E.2.2.2 6), .int (tf false)]) := by rw [← eM5, mp_n (mp_ne hM4_h hM4_s mp_noa)]; exact hM4_h
  have hM5_lf : M5 lf = some (mp_i E 5 gl) := by rw [← eM5, mp_n (Ne.symm hsl)]; exact hM4_lf
  have hM5_rt : M5 rt = some (mp_i E 5 gr) := by rw [← eM5, mp_n (Ne.symm hsr)]; exact hM4_rt
  have hM5_s : M5 s = some (mp_i E 5 (upd (upd (upd (upd (upd S 1 (((S 2) + (gl 3)) + (gr 4))) 2 (((S 3) + (gl 4)) + (gr 0))) 3 (((S 4) + (gl 0)) + (gr 1))) 4 (((S 0) + (gl 1)) + (gr 2))) 0 (((S 1) + (gl 2)) + (gr 3)))) := by rw [← eM5]; exact mp_s
  refine j_canon (rp_fin S gl gr) hM5_s (fun j hj => by rcases (show j = 0 ∨ j = 1 ∨ j = 2 ∨ j = 3 ∨ j = 4 by omega) with rfl | rfl | rfl | rfl | rfl <;> rfl) ?_
  show mp_J Γ m_Ri_mix E κ (mp_up M5 s (mp_i E 5 (rp_fin S gl gr))) [(1, .int (((S 1) + (gl 2)) + (gr 3))), (0, .ref h)] 247 [] 0 0
  generalize eM6 : mp_up M5 s (mp_i E 5 (rp_fin S gl gr)) = M6
  have hM6_h : M6 h = some (mp_o 2 [.ref lf, .ref rt, .ref s, .ref w, .ref (E.2.2.2 6), .int (tf false)]) := by rw [← eM6, mp_n (mp_ne hM5_h hM5_s mp_noa)]; exact hM5_h
  have hM6_lf : M6 lf = some (mp_i E 5 gl) := by rw [← eM6, mp_n (Ne.symm hsl)]; exact hM5_lf
  have hM6_rt : M6 rt = some (mp_i E 5 gr) := by rw [← eM6, mp_n (Ne.symm hsr)]; exact hM5_rt
  have hM6_s : M6 s = some (mp_i E 5 (rp_fin S gl gr)) := by rw [← eM6]; exact mp_s
  exact j_vret hκ rfl (by omega) (by omega) d_Ri_mix_247 (by subst_vars; simp only [mp_uu]; exact hP)
set_option maxHeartbeats 4000000 in
set_option maxRecDepth 100000 in
theorem c_Ri_mix (l : Launch) (E : mp_E) (M : mp_M) (h lf rt s w : Nat) (f S gl gr : Nat → Int32) (h0 : M h = some (mp_o 2 [.ref lf, .ref rt, .ref s, .ref w, .ref (E.2.2.2 6), .int (tf false)])) (hs : M s = some (mp_i E 5 S)) (hw : M w = some (mp_i E 16 f)) (hl : M lf = some (mp_i E 5 gl)) (hrt : M rt = some (mp_i E 5 gr)) (hsw : s ≠ w) (hsl : s ≠ lf) (hsr : s ≠ rt) (hwl : w ≠ lf) (hwr : w ≠ rt) (hlr : lf ≠ rt) : mp_Cr l m_Ri_mix E M 3 0 0 [.ref h] (fun v N => v = none ∧ N s = some (mp_i E 5 (rp_mix S f)) ∧ (∃ g, N w = some (mp_i E 16 g)) ∧ (∃ g, N lf = some (mp_i E 5 g)) ∧ (∃ g, N rt = some (mp_i E 5 g)) ∧ ∀ a, a ≠ s → a ≠ w → a ≠ lf → a ≠ rt → N a = M a) := by
  refine mp_Cr.of (by decide) (Nat.le_of_ble_eq_true rfl) fun Γ κ hl hκ => ?_
  subst hl
  obtain ⟨hκd, hκc, hκs, -⟩ := id hκ
  show mp_J Γ m_Ri_mix E κ M [(0, .ref h)] 0 [] 0 0
  refine j_aload_n d_Ri_mix_0 rfl 0 rfl ?_
  refine j_get F_Ri h0 2 (by decide) w_54 (Or.inr w_55) rfl d_Ri_mix_1 ?_
  refine j_iconst (v := nI 0) d_Ri_mix_4 (by decide) ?_
  refine j_aload_n d_Ri_mix_5 rfl 0 rfl ?_
  refine j_get F_Ri h0 0 (by decide) w_86 (Or.inl rfl) rfl d_Ri_mix_6 ?_
  refine j_iconst (v := nI 0) d_Ri_mix_9 (by decide) ?_
  refine j_aload_n d_Ri_mix_10 rfl 0 rfl ?_
  refine j_get F_Ri h0 2 (by decide) w_54 (Or.inr w_55) rfl d_Ri_mix_11 ?_
  refine j_alen 1 hs rfl d_Ri_mix_14 ?_
  show mp_J Γ m_Ri_mix E κ M [(0, .ref h)] 15 [.int (nI 5), .int (nI 0), .ref lf, .int (nI 0), .ref s] 0 0
  refine j_copy 1 rfl rfl w_791 w_489 w_488 w_25 hs hl 0 0 5 rfl rfl rfl (by omega) (by omega) (by omega) (by omega) (fun _ _ => rfl) (by omega) (Nat.le_of_ble_eq_true rfl) d_Ri_mix_15 ?_
  generalize eM1 : mp_up M lf (mp_i E 5 (va_cpy S gl 0 0 5)) = M1
  have hM1_h : M1 h = some (mp_o 2 [.ref lf, .ref rt, .ref s, .ref w, .ref (E.2.2.2 6), .int (tf false)]) := by rw [← eM1, mp_n (mp_ne h0 hl mp_noa)]; exact h0
  have hM1_s : M1 s = some (mp_i E 5 S) := by rw [← eM1, mp_n hsl]; exact hs
  have hM1_w : M1 w = some (mp_i E 16 f) := by rw [← eM1, mp_n hwl]; exact hw
  have hM1_rt : M1 rt = some (mp_i E 5 gr) := by rw [← eM1, mp_n (Ne.symm hlr)]; exact hrt
  have hM1_lf : M1 lf = some (mp_i E 5 (va_cpy S gl 0 0 5)) := by rw [← eM1]; exact mp_s
  refine j_canon S hM1_lf (fun j hj => va_cpy0 hj) ?_
  show mp_J Γ m_Ri_mix E κ (mp_up M1 lf (mp_i E 5 S)) [(0, .ref h)] 18 [] 0 0
  generalize eM2 : mp_up M1 lf (mp_i E 5 S) = M2
  have hM2_h : M2 h = some (mp_o 2 [.ref lf, .ref rt, .ref s, .ref w, .ref (E.2.2.2 6), .int (tf false)]) := by rw [← eM2, mp_n (mp_ne hM1_h hM1_lf mp_noa)]; exact hM1_h
  have hM2_s : M2 s = some (mp_i E 5 S) := by rw [← eM2, mp_n hsl]; exact hM1_s
  have hM2_w : M2 w = some (mp_i E 16 f) := by rw [← eM2, mp_n hwl]; exact hM1_w
  have hM2_rt : M2 rt = some (mp_i E 5 gr) := by rw [← eM2, mp_n (Ne.symm hlr)]; exact hM1_rt
  have hM2_lf : M2 lf = some (mp_i E 5 S) := by rw [← eM2]; exact mp_s
  refine j_aload_n d_Ri_mix_18 rfl 0 rfl ?_
  refine j_get F_Ri hM2_h 2 (by decide) w_54 (Or.inr w_55) rfl d_Ri_mix_19 ?_
  refine j_iconst (v := nI 0) d_Ri_mix_22 (by decide) ?_
  refine j_aload_n d_Ri_mix_23 rfl 0 rfl ?_
  refine j_get F_Ri hM2_h 1 (by decide) w_87 (Or.inl rfl) rfl d_Ri_mix_24 ?_
  refine j_iconst (v := nI 0) d_Ri_mix_27 (by decide) ?_
  refine j_aload_n d_Ri_mix_28 rfl 0 rfl ?_
  refine j_get F_Ri hM2_h 2 (by decide) w_54 (Or.inr w_55) rfl d_Ri_mix_29 ?_
  refine j_alen 1 hM2_s rfl d_Ri_mix_32 ?_
  show mp_J Γ m_Ri_mix E κ M2 [(0, .ref h)] 33 [.int (nI 5), .int (nI 0), .ref rt, .int (nI 0), .ref s] 0 0
  refine j_copy 1 rfl rfl w_791 w_489 w_488 w_25 hM2_s hM2_rt 0 0 5 rfl rfl rfl (by omega) (by omega) (by omega) (by omega) (fun _ _ => rfl) (by omega) (Nat.le_of_ble_eq_true rfl) d_Ri_mix_33 ?_
  generalize eM3 : mp_up M2 rt (mp_i E 5 (va_cpy S gr 0 0 5)) = M3
  have hM3_h : M3 h = some (mp_o 2 [.ref lf, .ref rt, .ref s, .ref w, .ref (E.2.2.2 6), .int (tf false)]) := by rw [← eM3, mp_n (mp_ne hM2_h hM2_rt mp_noa)]; exact hM2_h
  have hM3_s : M3 s = some (mp_i E 5 S) := by rw [← eM3, mp_n hsr]; exact hM2_s
  have hM3_w : M3 w = some (mp_i E 16 f) := by rw [← eM3, mp_n hwr]; exact hM2_w
  have hM3_lf : M3 lf = some (mp_i E 5 S) := by rw [← eM3, mp_n hlr]; exact hM2_lf
  have hM3_rt : M3 rt = some (mp_i E 5 (va_cpy S gr 0 0 5)) := by rw [← eM3]; exact mp_s
  refine j_canon S hM3_rt (fun j hj => va_cpy0 hj) ?_
  show mp_J Γ m_Ri_mix E κ (mp_up M3 rt (mp_i E 5 S)) [(0, .ref h)] 36 [] 0 0
  generalize eM4 : mp_up M3 rt (mp_i E 5 S) = M4
  have hM4_h : M4 h = some (mp_o 2 [.ref lf, .ref rt, .ref s, .ref w, .ref (E.2.2.2 6), .int (tf false)]) := by rw [← eM4, mp_n (mp_ne hM3_h hM3_rt mp_noa)]; exact hM3_h
  have hM4_s : M4 s = some (mp_i E 5 S) := by rw [← eM4, mp_n hsr]; exact hM3_s
  have hM4_w : M4 w = some (mp_i E 16 f) := by rw [← eM4, mp_n hwr]; exact hM3_w
  have hM4_lf : M4 lf = some (mp_i E 5 S) := by rw [← eM4, mp_n hlr]; exact hM3_lf
  have hM4_rt : M4 rt = some (mp_i E 5 S) := by rw [← eM4]; exact mp_s
  refine j_iconst (v := nI 0) d_Ri_mix_36 (by decide) ?_
  refine j_istore_n [(1, .int (nI 0)), (0, .ref h)] d_Ri_mix_37 rfl (by decide) rfl ?_
  refine j_lv [1, 0] rfl ?_
  have fr0 : ∀ a, a ≠ lf → a ≠ rt → M4 a = M a := fun a h3 h4 => by rw [← eM4, mp_n h4, ← eM3, mp_n h4, ← eM2, mp_n h3, ← eM1, mp_n h3]
  refine lp_ri_mix E M4 h lf rt s w f S S S hM4_h hM4_s hM4_w hM4_lf hM4_rt hsw hsl hsr hwl hwr hlr hκd ?_ 81 M4 0 (by omega) hM4_lf hM4_rt (fun _ _ _ => rfl) (by omega)
  intro Mx e1 e2 fr
  have e3 := (fr s hsl hsr).trans hM4_s
  have e4 := (fr w hwl hwr).trans hM4_w
  have e0 := (fr h (mp_ne h0 hl mp_noa) (mp_ne h0 hrt mp_noa)).trans hM4_h
  exact en_ri_mix E Mx h lf rt s w S (rp_L f S 80) (rp_R f S 80) _ e0 e3 e1 e2 hsw hsl hsr hwl hwr hlr ⟨rfl, mp_s, ⟨_, (mp_n (Ne.symm hsw)).trans e4⟩, ⟨_, (mp_n (Ne.symm hsl)).trans e1⟩, ⟨_, (mp_n (Ne.symm hsr)).trans e2⟩, fun a h1 h2 h3 h4 => by rw [mp_n h1, fr a h3 h4, fr0 a h3 h4]⟩ hκ

set_option maxHeartbeats 4000000 in
set_option maxRecDepth 100000 in
theorem lp_of_ri {Γ : mp_G} {κ : mp_K} (E : mp_E) (M : mp_M) (h lf rt s w : Nat) (b m n : Nat) (f : Nat → Int32) (g0s g0w g0lf g0rt : Nat → Int32) (h0 : M h = some (mp_o 2 [.ref lf, .ref rt, .ref s, .ref w, .ref (E.2.2.2 6), .int (tf false)])) (hb : M b = some (mp_b E m f)) (hm : m ≤ 1000) (hn : n ≤ m) (hsw : s ≠ w) (hslf : s ≠ lf) (hsrt : s ≠ rt) (hwlf : w ≠ lf) (hwrt : w ≠ rt) (hlfrt : lf ≠ rt) (hbs : s ≠ b) (hbw : w ≠ b) (hblf : lf ≠ b) (hbrt : rt ≠ b) (hMs : M s = some (mp_i E 5 g0s)) (hMw : M w = some (mp_i E 16 g0w)) (hMlf : M lf = some (mp_i E 5 g0lf)) (hMrt : M rt = some (mp_i E 5 g0rt)) (hκ : mp_k κ 4 2 21 (fun v N => ∃ q1 q2, v = some (.ref q1) ∧ M q1 = none ∧ M q2 = none ∧ q1 ≠ q2 ∧ N q1 = some (mp_o 5 [.ref q2]) ∧ N q2 = some (mp_b E 20 (sm_rip f n)) ∧ (∃ g, N s = some (mp_i E 5 g)) ∧ (∃ g, N w = some (mp_i E 16 g)) ∧ (∃ g, N lf = some (mp_i E 5 g)) ∧ (∃ g, N rt = some (mp_i E 5 g)) ∧ ∀ a, a ≠ s → a ≠ w → a ≠ lf → a ≠ rt → a ≠ q1 → a ≠ q2 → N a = M a)) : ∀ (r : Nat) (Mx : mp_M) (gw glf grt : Nat → Int32) (q : Nat), pd_blocks n - q < r → (Mx s = some (mp_i E 5 (pd_fold rp_mix false f n (fun j => tb_Ri_START.getD j 0) q))) → (Mx w = some (mp_i E 16 gw)) → (Mx lf = some (mp_i E 5 glf)) → (Mx rt = some (mp_i E 5 grt)) → (∀ a, a ≠ s → a ≠ w → a ≠ lf → a ≠ rt → Mx a = M a) → (q ≤ pd_blocks n) → mp_J Γ m_Su_of E κ Mx [(0, .ref h), (1, .ref b), (2, .int (nI n)), (3, .int (nI (pd_blocks n))), (4, .int (nI q))] 31 [] 0 0 := by
  obtain ⟨hκd, hκc, hκs, -⟩ := id hκ
  have hB := pd_bl (Nat.le_trans hn hm)
  intro r
  induction r with
  | zero => intro Mx gw glf grt q hr; exact absurd hr (Nat.not_lt_zero _)
  | succ r ih =>
    intro Mx gw glf grt q hr hX1 hX2 hXlf hXrt fr hq
    have hX0 := (fr h (mp_ne h0 hMs mp_noa) (mp_ne h0 hMw mp_noa) (mp_ne h0 hMlf mp_noa) (mp_ne h0 hMrt mp_noa)).trans h0
    have hXb := (fr b (Ne.symm hbs) (Ne.symm hbw) (Ne.symm hblf) (Ne.symm hbrt)).trans hb
    refine j_iload d_Su_of_31 4 rfl ?_
    refine j_iload_n d_Su_of_33 rfl 3 rfl ?_
    refine j_ncmp_ge 89 q (pd_blocks n) rfl rfl (by omega) (by omega) d_Su_of_34 (by decide) (fun b34 => ?_) (fun b34 => ?_)
    · skip
      refine j_aload_n d_Su_of_89 rfl 0 rfl ?_
      refine j_callP (z := ⟨"ScriptDesk$Sum", "of", "([BI)LScriptDesk$Thing;"⟩) (As := []) (rest := []) "ScriptDesk$Sum" (c_result_ri Γ.l E Mx h lf rt s w (pd_fold rp_mix false f n (fun j => tb_Ri_START.getD j 0) q) hX0 hX1) Y_Su_result w_830 w_1167 (Or.inr ⟨w_832, _, _, _, w_833⟩) (by decide) rfl w_832 rfl rfl w_770 w_831 w_832 (by decide) hX0 rfl rfl rfl (Nat.le_of_ble_eq_true rfl) (by omega) (by omega) (by omega) d_Su_of_90 (fun v90 N90 p90 => ?_)
      obtain ⟨q1, q2, rfl, f1, f2, f3, q90⟩ := p90
      have g1 : M q1 = none := by rw [← fr q1 (Ne.symm (mp_ne0 hX1 f1)) (Ne.symm (mp_ne0 hX2 f1)) (Ne.symm (mp_ne0 hXlf f1)) (Ne.symm (mp_ne0 hXrt f1))]; exact f1
      have g2 : M q2 = none := by rw [← fr q2 (Ne.symm (mp_ne0 hX1 f2)) (Ne.symm (mp_ne0 hX2 f2)) (Ne.symm (mp_ne0 hXlf f2)) (Ne.symm (mp_ne0 hXrt f2))]; exact f2
      show mp_J Γ m_Su_of E κ N90 [(0, .ref h), (1, .ref b), (2, .int (nI n)), (3, .int (nI (pd_blocks n))), (4, .int (nI q))] 93 [.ref q1] (0 + 2) (0 + 21)
      exact j_aret hκ rfl (by first | exact Or.inl ⟨_, rfl⟩ | exact Or.inr ⟨_, rfl⟩) (by omega) (by omega) d_Su_of_93 ⟨q1, q2, rfl, g1, g2, f3, by rw [q90]; exact mp_s, by rw [q90, mp_n (Ne.symm f3), mp_s, show q = pd_blocks n by omega]; rfl, ⟨_, by rw [q90, mp_n (mp_ne0 hX1 f1), mp_n (mp_ne0 hX1 f2)]; exact hX1⟩, ⟨_, by rw [q90, mp_n (mp_ne0 hX2 f1), mp_n (mp_ne0 hX2 f2)]; exact hX2⟩, ⟨_, by rw [q90, mp_n (mp_ne0 hXlf f1), mp_n (mp_ne0 hXlf f2)]; exact hXlf⟩, ⟨_, by rw [q90, mp_n (mp_ne0 hXrt f1), mp_n (mp_ne0 hXrt f2)]; exact hXrt⟩, fun a h1 h2 h3 h4 h8 h9 => by rw [q90, mp_n h8, mp_n h9]; exact fr a h1 h2 h3 h4⟩
    · skip
      refine j_aload_n d_Su_of_37 rfl 0 rfl ?_
      refine j_aload_n d_Su_of_38 rfl 1 rfl ?_
      refine j_iload_n d_Su_of_39 rfl 2 rfl ?_
      refine j_iload d_Su_of_40 4 rfl ?_
      refine j_bipush (v := nI 64) d_Su_of_42 (by decide) ?_
      refine j_imul d_Su_of_44 ?_
      refine j_eqi (y := nI (q * 64)) (pk_mul q 64) ?_
      refine j_callP (z := ⟨"ScriptDesk$Sum", "of", "([BI)LScriptDesk$Thing;"⟩) (As := [.ref b, .int (nI n), .int (nI (q * 64))]) (rest := []) "ScriptDesk$Sum" (c_load_ri Γ.l E Mx h lf rt s w b m n (q * 64) f gw hX0 hXb hm hn (by omega) hX2 hbw) Y_Su_load w_774 w_1165 (Or.inr ⟨w_776, _, _, _, w_777⟩) (by decide) rfl w_776 rfl rfl w_770 w_775 w_776 (by decide) hX0 rfl rfl rfl (Nat.le_of_ble_eq_true rfl) (by omega) (by omega) (by omega) d_Su_of_45 (fun v45 N45 p45 => ?_)
      obtain ⟨rfl, q45⟩ := p45
      show mp_J Γ m_Su_of E κ N45 [(0, .ref h), (1, .ref b), (2, .int (nI n)), (3, .int (nI (pd_blocks n))), (4, .int (nI q))] 48 [] 0 0
      have hN45_h : N45 h = some (mp_o 2 [.ref lf, .ref rt, .ref s, .ref w, .ref (E.2.2.2 6), .int (tf false)]) := by rw [q45, mp_n (mp_ne hX0 hX2 mp_noa)]; exact hX0
      have hN45_b : N45 b = some (mp_b E m f) := by rw [q45, mp_n (Ne.symm hbw)]; exact hXb
      have hN45_s : N45 s = some (mp_i E 5 (pd_fold rp_mix false f n (fun j => tb_Ri_START.getD j 0) q)) := by rw [q45, mp_n hsw]; exact hX1
      have hN45_w : N45 w = some (mp_i E 16 (pd_ld false f gw n (q * 64) 16)) := by rw [q45]; exact mp_s
      have hN45_lf : N45 lf = some (mp_i E 5 glf) := by rw [q45, mp_n (Ne.symm hwlf)]; exact hXlf
      have hN45_rt : N45 rt = some (mp_i E 5 grt) := by rw [q45, mp_n (Ne.symm hwrt)]; exact hXrt
      refine j_iload d_Su_of_48 4 rfl ?_
      refine j_iload_n d_Su_of_50 rfl 3 rfl ?_
      refine j_iconst (v := nI 1) d_Su_of_51 (by decide) ?_
      refine j_isub d_Su_of_52 ?_
      refine j_eqi (y := nI ((pd_blocks n) - 1)) (pk_sub (by omega)) ?_
      refine j_ncmp_ne 79 q ((pd_blocks n) - 1) rfl rfl (by omega) (by omega) d_Su_of_53 (by decide) (fun b53 => ?_) (fun b53 => ?_)
      · skip
        refine j_aload_n d_Su_of_79 rfl 0 rfl ?_
        refine j_callU (As := []) (rest := []) "ScriptDesk$Sum" (c_Ri_mix Γ.l E N45 h lf rt s w (pd_ld false f gw n (q * 64) 16) (pd_fold rp_mix false f n (fun j => tb_Ri_START.getD j 0) q) glf grt hN45_h hN45_s hN45_w hN45_lf hN45_rt hsw hslf hsrt hwlf hwrt hlfrt) Y_Ri_mix w_785 w_787 (Or.inl w_786) (by decide) rfl w_789 w_788 hN45_h rfl rfl rfl (Nat.le_of_ble_eq_true rfl) (by omega) (by omega) (by omega) d_Su_of_80 (fun v80 N80 p80 => ?_)
        obtain ⟨rfl, hs80, ⟨w80, hw80⟩, ⟨lf80, hlf80⟩, ⟨rt80, hrt80⟩, fr80⟩ := p80
        rw [rp_mix_c (pd_b2 b53)] at hs80
        show mp_J Γ m_Su_of E κ N80 [(0, .ref h), (1, .ref b), (2, .int (nI n)), (3, .int (nI (pd_blocks n))), (4, .int (nI q))] 83 [] 0 0
        have hN80_h : N80 h = some (mp_o 2 [.ref lf, .ref rt, .ref s, .ref w, .ref (E.2.2.2 6), .int (tf false)]) := (fr80 h (mp_ne hN45_h hN45_s mp_noa) (mp_ne hN45_h hN45_w mp_noa) (mp_ne hN45_h hN45_lf mp_noa) (mp_ne hN45_h hN45_rt mp_noa)).trans hN45_h
        have hN80_b : N80 b = some (mp_b E m f) := (fr80 b (Ne.symm hbs) (Ne.symm hbw) (Ne.symm hblf) (Ne.symm hbrt)).trans hN45_b
        refine j_iinc (v := nI (q + 1)) [(4, .int (nI (q + 1))), (0, .ref h), (1, .ref b), (2, .int (nI n)), (3, .int (nI (pd_blocks n)))] d_Su_of_83 4 rfl (nI_add q 1) (by decide) rfl ?_
        refine j_goto (tgt := 31) d_Su_of_86 (by decide) ?_
        refine j_lv [1, 2, 3, 4, 0] rfl ?_
        exact ih N80 w80 lf80 rt80 (q + 1) (by omega) hs80 hw80 hlf80 hrt80 (fun a h1 h2 h3 h4 => by rw [fr80 a h1 h2 h3 h4, ← q45.symm, mp_n h2]; exact fr a h1 h2 h3 h4) (by omega)
      · skip
        refine j_aload_n d_Su_of_56 rfl 0 rfl ?_
        refine j_get F_Ri hN45_h 3 (by decide) w_58 (Or.inl rfl) rfl d_Su_of_57 ?_
        refine j_aload_n d_Su_of_60 rfl 0 rfl ?_
        refine j_get F_Ri hN45_h 5 (by decide) w_64 (Or.inl rfl) rfl d_Su_of_61 ?_
        refine j_tif_eq 72 d_Su_of_64 (by decide) (fun b64 => ?_) (fun b64 => absurd b64 (by decide))
        refine j_bipush (v := nI 14) d_Su_of_72 (by decide) ?_
        refine j_iload_n d_Su_of_74 rfl 2 rfl ?_
        refine j_bipush (v := nI 8) d_Su_of_75 (by decide) ?_
        refine j_imul d_Su_of_77 ?_
        refine j_eqi (y := nI (n * 8)) (pk_mul n 8) ?_
        refine j_iast hN45_w 14 rfl (by omega) (by omega) d_Su_of_78 ?_
        generalize eM1 : mp_up N45 w (mp_i E 16 (upd (pd_ld false f gw n (q * 64) 16) 14 (nI (n * 8)))) = M1
        have hM1_h : M1 h = some (mp_o 2 [.ref lf, .ref rt, .ref s, .ref w, .ref (E.2.2.2 6), .int (tf false)]) := by rw [← eM1, mp_n (mp_ne hN45_h hN45_w mp_noa)]; exact hN45_h
        have hM1_b : M1 b = some (mp_b E m f) := by rw [← eM1, mp_n (Ne.symm hbw)]; exact hN45_b
        have hM1_s : M1 s = some (mp_i E 5 (pd_fold rp_mix false f n (fun j => tb_Ri_START.getD j 0) q)) := by rw [← eM1, mp_n hsw]; exact hN45_s
        have hM1_lf : M1 lf = some (mp_i E 5 glf) := by rw [← eM1, mp_n (Ne.symm hwlf)]; exact hN45_lf
        have hM1_rt : M1 rt = some (mp_i E 5 grt) := by rw [← eM1, mp_n (Ne.symm hwrt)]; exact hN45_rt
        have hM1_w : M1 w = some (mp_i E 16 (upd (pd_ld false f gw n (q * 64) 16) 14 (nI (n * 8)))) := by rw [← eM1]; exact mp_s
        refine j_aload_n d_Su_of_79 rfl 0 rfl ?_
        refine j_callU (As := []) (rest := []) "ScriptDesk$Sum" (c_Ri_mix Γ.l E M1 h lf rt s w (upd (pd_ld false f gw n (q * 64) 16) 14 (nI (n * 8))) (pd_fold rp_mix false f n (fun j => tb_Ri_START.getD j 0) q) glf grt hM1_h hM1_s hM1_w hM1_lf hM1_rt hsw hslf hsrt hwlf hwrt hlfrt) Y_Ri_mix w_785 w_787 (Or.inl w_786) (by decide) rfl w_789 w_788 hM1_h rfl rfl rfl (Nat.le_of_ble_eq_true rfl) (by omega) (by omega) (by omega) d_Su_of_80 (fun v80 N80 p80 => ?_)
        obtain ⟨rfl, hs80, ⟨w80, hw80⟩, ⟨lf80, hlf80⟩, ⟨rt80, hrt80⟩, fr80⟩ := p80
        rw [rp_mix_c (pd_b1 (hi := false) (c := 14) rfl b53 hB.1)] at hs80
        show mp_J Γ m_Su_of E κ N80 [(0, .ref h), (1, .ref b), (2, .int (nI n)), (3, .int (nI (pd_blocks n))), (4, .int (nI q))] 83 [] 0 0
        have hN80_h : N80 h = some (mp_o 2 [.ref lf, .ref rt, .ref s, .ref w, .ref (E.2.2.2 6), .int (tf false)]) := (fr80 h (mp_ne hM1_h hM1_s mp_noa) (mp_ne hM1_h hM1_w mp_noa) (mp_ne hM1_h hM1_lf mp_noa) (mp_ne hM1_h hM1_rt mp_noa)).trans hM1_h
        have hN80_b : N80 b = some (mp_b E m f) := (fr80 b (Ne.symm hbs) (Ne.symm hbw) (Ne.symm hblf) (Ne.symm hbrt)).trans hM1_b
        refine j_iinc (v := nI (q + 1)) [(4, .int (nI (q + 1))), (0, .ref h), (1, .ref b), (2, .int (nI n)), (3, .int (nI (pd_blocks n)))] d_Su_of_83 4 rfl (nI_add q 1) (by decide) rfl ?_
        refine j_goto (tgt := 31) d_Su_of_86 (by decide) ?_
        refine j_lv [1, 2, 3, 4, 0] rfl ?_
        exact ih N80 w80 lf80 rt80 (q + 1) (by omega) hs80 hw80 hlf80 hrt80 (fun a h1 h2 h3 h4 => by rw [fr80 a h1 h2 h3 h4, ← eM1, mp_n h2, ← q45.symm, mp_n h2]; exact fr a h1 h2 h3 h4) (by omega)

set_option maxHeartbeats 4000000 in
set_option maxRecDepth 100000 in
theorem c_of_ri (l : Launch) (E : mp_E) (M : mp_M) (h lf rt s w : Nat) (b m n : Nat) (f : Nat → Int32) (g0s g0w g0lf g0rt : Nat → Int32) (h0 : M h = some (mp_o 2 [.ref lf, .ref rt, .ref s, .ref w, .ref (E.2.2.2 6), .int (tf false)])) (hb : M b = some (mp_b E m f)) (hm : m ≤ 1000) (hn : n ≤ m) (hsw : s ≠ w) (hslf : s ≠ lf) (hsrt : s ≠ rt) (hwlf : w ≠ lf) (hwrt : w ≠ rt) (hlfrt : lf ≠ rt) (hbs : s ≠ b) (hbw : w ≠ b) (hblf : lf ≠ b) (hbrt : rt ≠ b) (hMs : M s = some (mp_i E 5 g0s)) (hMw : M w = some (mp_i E 16 g0w)) (hMlf : M lf = some (mp_i E 5 g0lf)) (hMrt : M rt = some (mp_i E 5 g0rt)) : mp_Cr l m_Su_of E M 4 2 21 [.ref h, .ref b, .int (nI n)] (fun v N => ∃ q1 q2, v = some (.ref q1) ∧ M q1 = none ∧ M q2 = none ∧ q1 ≠ q2 ∧ N q1 = some (mp_o 5 [.ref q2]) ∧ N q2 = some (mp_b E 20 (sm_rip f n)) ∧ (∃ g, N s = some (mp_i E 5 g)) ∧ (∃ g, N w = some (mp_i E 16 g)) ∧ (∃ g, N lf = some (mp_i E 5 g)) ∧ (∃ g, N rt = some (mp_i E 5 g)) ∧ ∀ a, a ≠ s → a ≠ w → a ≠ lf → a ≠ rt → a ≠ q1 → a ≠ q2 → N a = M a) := by
  refine mp_Cr.of (by decide) (Nat.le_of_ble_eq_true rfl) fun Γ κ hl hκ => ?_
  subst hl
  obtain ⟨hκd, hκc, hκs, -⟩ := id hκ
  show mp_J Γ m_Su_of E κ M [(0, .ref h), (1, .ref b), (2, .int (nI n))] 0 [] 0 0
  refine j_aload_n d_Su_of_0 rfl 0 rfl ?_
  refine j_get F_Ri h0 4 (by decide) w_63 (Or.inl rfl) rfl d_Su_of_1 ?_
  refine j_iconst (v := nI 0) d_Su_of_4 (by decide) ?_
  refine j_aload_n d_Su_of_5 rfl 0 rfl ?_
  refine j_get F_Ri h0 2 (by decide) w_53 (Or.inl rfl) rfl d_Su_of_6 ?_
  refine j_iconst (v := nI 0) d_Su_of_9 (by decide) ?_
  refine j_aload_n d_Su_of_10 rfl 0 rfl ?_
  refine j_get F_Ri h0 2 (by decide) w_53 (Or.inl rfl) rfl d_Su_of_11 ?_
  refine j_alen 1 hMs rfl d_Su_of_14 ?_
  show mp_J Γ m_Su_of E κ M [(0, .ref h), (1, .ref b), (2, .int (nI n))] 15 [.int (nI 5), .int (nI 0), .ref s, .int (nI 0), .ref (E.2.2.2 6)] 0 0
  refine j_copyx 6 rfl w_773 w_489 w_488 w_25 hMs 5 rfl rfl rfl (by show _ ≤ 5; omega) (by omega) (by decide) (by omega) (by omega) (Nat.le_of_ble_eq_true rfl) d_Su_of_15 ?_
  generalize eM1 : mp_up M s (mp_i E 5 (va_cpy (fun j => tb_Ri_START.getD j 0) g0s 0 0 5)) = M1
  have hM1_h : M1 h = some (mp_o 2 [.ref lf, .ref rt, .ref s, .ref w, .ref (E.2.2.2 6), .int (tf false)]) := by rw [← eM1, mp_n (mp_ne h0 hMs mp_noa)]; exact h0
  have hM1_b : M1 b = some (mp_b E m f) := by rw [← eM1, mp_n (Ne.symm hbs)]; exact hb
  have hM1_w : M1 w = some (mp_i E 16 g0w) := by rw [← eM1, mp_n (Ne.symm hsw)]; exact hMw
  have hM1_lf : M1 lf = some (mp_i E 5 g0lf) := by rw [← eM1, mp_n (Ne.symm hslf)]; exact hMlf
  have hM1_rt : M1 rt = some (mp_i E 5 g0rt) := by rw [← eM1, mp_n (Ne.symm hsrt)]; exact hMrt
  have hM1_s : M1 s = some (mp_i E 5 (va_cpy (fun j => tb_Ri_START.getD j 0) g0s 0 0 5)) := by rw [← eM1]; exact mp_s
  refine j_canon (fun j => tb_Ri_START.getD j 0) hM1_s (fun j hj => va_cpy0 hj) ?_
  show mp_J Γ m_Su_of E κ (mp_up M1 s (mp_i E 5 (fun j => tb_Ri_START.getD j 0))) [(0, .ref h), (1, .ref b), (2, .int (nI n))] 18 [] 0 0
  generalize eM2 : mp_up M1 s (mp_i E 5 (fun j => tb_Ri_START.getD j 0)) = M2
  have hM2_h : M2 h = some (mp_o 2 [.ref lf, .ref rt, .ref s, .ref w, .ref (E.2.2.2 6), .int (tf false)]) := by rw [← eM2, mp_n (mp_ne hM1_h hM1_s mp_noa)]; exact hM1_h
  have hM2_b : M2 b = some (mp_b E m f) := by rw [← eM2, mp_n (Ne.symm hbs)]; exact hM1_b
  have hM2_w : M2 w = some (mp_i E 16 g0w) := by rw [← eM2, mp_n (Ne.symm hsw)]; exact hM1_w
  have hM2_lf : M2 lf = some (mp_i E 5 g0lf) := by rw [← eM2, mp_n (Ne.symm hslf)]; exact hM1_lf
  have hM2_rt : M2 rt = some (mp_i E 5 g0rt) := by rw [← eM2, mp_n (Ne.symm hsrt)]; exact hM1_rt
  have hM2_s : M2 s = some (mp_i E 5 (fun j => tb_Ri_START.getD j 0)) := by rw [← eM2]; exact mp_s
  refine j_iload_n d_Su_of_18 rfl 2 rfl ?_
  refine j_bipush (v := nI 8) d_Su_of_19 (by decide) ?_
  refine j_iadd d_Su_of_21 ?_
  refine j_eqi (y := nI (n + 8)) (nI_add n 8) ?_
  refine j_bipush (v := nI 64) d_Su_of_22 (by decide) ?_
  refine j_idiv (by decide) d_Su_of_24 ?_
  refine j_eqi (y := nI ((n + 8) / 64)) (pk_div (by omega) (by decide) (by decide)) ?_
  refine j_iconst (v := nI 1) d_Su_of_25 (by decide) ?_
  refine j_iadd d_Su_of_26 ?_
  refine j_eqi (y := nI (((n + 8) / 64) + 1)) (nI_add ((n + 8) / 64) 1) ?_
  refine j_eqi (y := nI (pd_blocks n)) rfl ?_
  refine j_istore_n [(3, .int (nI (pd_blocks n))), (0, .ref h), (1, .ref b), (2, .int (nI n))] d_Su_of_27 rfl (by decide) rfl ?_
  refine j_iconst (v := nI 0) d_Su_of_28 (by decide) ?_
  refine j_istore [(4, .int (nI 0)), (3, .int (nI (pd_blocks n))), (0, .ref h), (1, .ref b), (2, .int (nI n))] d_Su_of_29 (by decide) rfl ?_
  refine j_lv [2, 3, 4, 1, 0] rfl ?_
  exact lp_of_ri E M h lf rt s w b m n f g0s g0w g0lf g0rt h0 hb hm hn hsw hslf hsrt hwlf hwrt hlfrt hbs hbw hblf hbrt hMs hMw hMlf hMrt hκ (pd_blocks n + 1) M2 g0w g0lf g0rt 0 (by omega) hM2_s hM2_w hM2_lf hM2_rt (fun a h1 h2 h3 h4 => by rw [← eM2, mp_n h1, ← eM1, mp_n h1]) (by omega)
