theorem mn_1 {a b : Int64} (h : ¬ b ≤ a) : (if b < a then b else a) = a := if_neg (fun z => h (Int64.le_of_lt z))
theorem mn_2 {a b : Int64} (h : b ≤ a) : (if b < a then b else a) = b := by
  by_cases hz : b < a
  · rw [if_pos hz]
  · rw [if_neg hz]
    exact Int64.le_antisymm (Int64.not_lt.mp hz) h
theorem mn_3 {a : Int64} (h : 0 ≤ a) : (if 0 < a then a else -a) = a := by
  by_cases hz : 0 < a
  · rw [if_pos hz]
  · rw [if_neg hz, show a = 0 from Int64.le_antisymm (Int64.not_lt.mp hz) h]
    decide
theorem am_b1 {p : Prop} [Decidable p] (h : p) : am_bt (decide p) = am_of 1 := by rw [decide_eq_true h]; rfl
theorem am_b0 {p : Prop} [Decidable p] (h : ¬ p) : am_bt (decide p) = am_of 0 := by rw [decide_eq_false h]; rfl
theorem mn_4 {a : Int64} (h : ¬ 0 ≤ a) : (if 0 < a then a else -a) = -a := if_neg (fun z => h (Int64.le_of_lt z))
set_option maxHeartbeats 4000000 in
set_option maxRecDepth 100000 in
theorem c_Mo_ar_139 (l : Launch) (E : mp_E) (M : mp_M) (R : Nat → Nat) (rows : Nat) (thr : Int32) (dp as_ ops : Nat) (A : Nat → am_T) (b : List Bool) (hI : RI E M R rows thr dp as_ ops A) (hR : RL R) (hd : dp + as_ ≤ 200) (hk : ops ≤ 1000) : mp_Cr l m_Mo_isArithmetic E M 2 0 0 [.ref (R 0), .int (nI 139)] (RQ E R M rows thr b (am_op 139 (LM A dp) (LO A as_) b ops)) := by
  refine mp_Cr.of (by decide) (Nat.le_of_ble_eq_true rfl) fun Γ κ hl hκ => ?_
  subst hl
  obtain ⟨hκd, hκc, hκs, -⟩ := id hκ
  show mp_J Γ m_Mo_isArithmetic E κ M [(0, .ref (R 0)), (1, .int (nI 139))] 0 [] 0 0
  refine j_iload_n d_Mo_isArithmetic_0 rfl 1 rfl ?_
  refine j_sipush (v := nI 165) d_Mo_isArithmetic_1 (by decide) ?_
  refine j_ncmp_ne 11 139 165 rfl rfl (by omega) (by omega) d_Mo_isArithmetic_4 (by decide) (fun b4 => ?_) (fun b4 => (by first | exact b4.elim | exact absurd b4 (by omega)))
  refine j_iload_n d_Mo_isArithmetic_11 rfl 1 rfl ?_
  refine j_sipush (v := nI 146) d_Mo_isArithmetic_12 (by decide) ?_
  refine j_ncmp_gt 22 139 146 rfl rfl (by omega) (by omega) d_Mo_isArithmetic_15 (by decide) (fun b15 => (by first | exact b15.elim | exact absurd b15 (by omega))) (fun b15 => ?_)
  refine j_iconst (v := nI 1) d_Mo_isArithmetic_18 (by decide) ?_
  refine j_goto (tgt := 23) d_Mo_isArithmetic_19 (by decide) ?_
  refine j_istore_n [(2, .int (nI 1)), (0, .ref (R 0)), (1, .int (nI 139))] d_Mo_isArithmetic_23 rfl (by decide) rfl ?_
  refine j_iload_n d_Mo_isArithmetic_24 rfl 2 rfl ?_
  refine j_sipush (v := nI 141) d_Mo_isArithmetic_25 (by decide) ?_
  refine j_ncmp_eq 60 139 141 rfl rfl (by omega) (by omega) d_Mo_isArithmetic_28 (by decide) (fun b28 => (by first | exact b28.elim | exact absurd b28 (by omega))) (fun b28 => ?_)
  refine j_iload_n d_Mo_isArithmetic_31 rfl 2 rfl ?_
  refine j_sipush (v := nI 142) d_Mo_isArithmetic_32 (by decide) ?_
  refine j_ncmp_eq 60 139 142 rfl rfl (by omega) (by omega) d_Mo_isArithmetic_35 (by decide) (fun b35 => (by first | exact b35.elim | exact absurd b35 (by omega))) (fun b35 => ?_)
  refine j_iload_n d_Mo_isArithmetic_38 rfl 2 rfl ?_
  refine j_sipush (v := nI 149) d_Mo_isArithmetic_39 (by decide) ?_
  refine j_ncmp_lt 52 139 149 rfl rfl (by omega) (by omega) d_Mo_isArithmetic_42 (by decide) (fun b42 => ?_) (fun b42 => (by first | exact b42.elim | exact absurd b42 (by omega)))
  refine j_aload_n d_Mo_isArithmetic_52 rfl 1 rfl ?_
  refine j_iload_n d_Mo_isArithmetic_53 rfl 0 rfl ?_
  refine j_callV (As := [.int (nI 1)]) (rest := []) (c_Mo_has Γ.l E M (R 0) (R 1) rows (R 2) (R 3) (R 4) (R 5) (R 6) (R 7) (R 8) (R 9) dp as_ ops (R 10) thr 1 hI.1 (by omega) (by omega)) Y_Mo_has w_1039 w_1041 ws_35 hI.1 rfl rfl rfl (Nat.le_of_ble_eq_true rfl) (by omega) (by omega) (by omega) d_Mo_isArithmetic_54 (fun v54 N54 p54 => ?_)
  obtain ⟨rfl, q54⟩ := p54
  obtain rfl := q54.symm
  show mp_J Γ m_Mo_isArithmetic E κ M [(2, .int (nI 1)), (0, .ref (R 0)), (1, .int (nI 139))] 57 [.int (tf (decide (1 ≤ dp)))] 0 0
  refine j_tif_ne 62 d_Mo_isArithmetic_57 (by decide) (fun b57 => ?_) (fun b57 => ?_)
  · skip
    have d57 := of_decide_eq_true b57
    refine j_iconst (v := nI 1) d_Mo_isArithmetic_62 (by decide) ?_
    refine j_istore_n [(3, .int (nI 1)), (2, .int (nI 1)), (0, .ref (R 0)), (1, .int (nI 139))] d_Mo_isArithmetic_63 rfl (by decide) rfl ?_
    refine j_iload_n d_Mo_isArithmetic_64 rfl 0 rfl ?_
    refine j_iload_n d_Mo_isArithmetic_65 rfl 1 rfl ?_
    refine j_ncmp_gt 90 1 1 rfl rfl (by omega) (by omega) d_Mo_isArithmetic_66 (by decide) (fun b66 => (by first | exact b66.elim | exact absurd b66 (by omega))) (fun b66 => ?_)
    refine j_aload_n d_Mo_isArithmetic_69 rfl 2 rfl ?_
    refine j_aload_n d_Mo_isArithmetic_70 rfl 2 rfl ?_
    refine j_get F_Mo hI.1 11 (by decide) w_954 (Or.inl rfl) rfl d_Mo_isArithmetic_71 ?_
    refine j_iload_n d_Mo_isArithmetic_74 rfl 0 rfl ?_
    refine j_isub d_Mo_isArithmetic_75 ?_
    refine j_eqi (y := nI (dp - 1)) (pk_sub (by omega)) ?_
    refine j_callV (As := [.int (nI (dp - 1))]) (rest := []) (r_isNumber Γ.l hI (dp - 1) (by omega)) Y_Mo_isNumber w_1043 w_1045 ws_36 hI.1 rfl rfl rfl (Nat.le_of_ble_eq_true rfl) (by omega) (by omega) (by omega) d_Mo_isArithmetic_76 (fun v76 N76 p76 => ?_)
    obtain ⟨rfl, q76⟩ := p76
    obtain rfl := q76.symm
    show mp_J Γ m_Mo_isArithmetic E κ M [(3, .int (nI 1)), (2, .int (nI 1)), (0, .ref (R 0)), (1, .int (nI 139))] 79 [.int (tf (decide ((A (dp - 1)).length ≤ 4)))] 0 0
    refine j_tif_ne 84 d_Mo_isArithmetic_79 (by decide) (fun b79 => ?_) (fun b79 => ?_)
    · skip
      have d79 := of_decide_eq_true b79
      refine j_iinc (v := nI 2) [(3, .int (nI 2)), (2, .int (nI 1)), (0, .ref (R 0)), (1, .int (nI 139))] d_Mo_isArithmetic_84 0 rfl (by decide) (by decide) rfl ?_
      refine j_goto (tgt := 64) d_Mo_isArithmetic_87 (by decide) ?_
      refine j_iload_n d_Mo_isArithmetic_64 rfl 0 rfl ?_
      refine j_iload_n d_Mo_isArithmetic_65 rfl 1 rfl ?_
      refine j_ncmp_gt 90 2 1 rfl rfl (by omega) (by omega) d_Mo_isArithmetic_66 (by decide) (fun b66 => ?_) (fun b66 => (by first | exact b66.elim | exact absurd b66 (by omega)))
      refine j_aload_n d_Mo_isArithmetic_90 rfl 2 rfl ?_
      refine j_aload_n d_Mo_isArithmetic_91 rfl 2 rfl ?_
      refine j_get F_Mo hI.1 11 (by decide) w_954 (Or.inl rfl) rfl d_Mo_isArithmetic_92 ?_
      refine j_iload_n d_Mo_isArithmetic_95 rfl 1 rfl ?_
      refine j_isub d_Mo_isArithmetic_96 ?_
      refine j_eqi (y := nI (dp - 1)) (pk_sub (by omega)) ?_
      refine j_callV (As := [.int (nI (dp - 1))]) (rest := []) (r_numberAt Γ.l hI (dp - 1) (by omega) (by assumption)) Y_Mo_numberAt w_1047 w_1049 ws_37 hI.1 rfl rfl rfl (Nat.le_of_ble_eq_true rfl) (by omega) (by omega) (by omega) d_Mo_isArithmetic_97 (fun v97 N97 p97 => ?_)
      obtain ⟨rfl, q97⟩ := p97
      obtain rfl := q97.symm
      show mp_J Γ m_Mo_isArithmetic E κ M [(3, .int (nI 2)), (2, .int (nI 1)), (0, .ref (R 0)), (1, .int (nI 139))] 100 [.long (am_num (A (dp - 1)))] 0 0
      refine j_lstore_n [(3, .long (am_num (A (dp - 1)))), (2, .int (nI 1)), (0, .ref (R 0)), (1, .int (nI 139))] d_Mo_isArithmetic_100 rfl (by decide) rfl ?_
      refine j_iload_n d_Mo_isArithmetic_101 rfl 1 rfl ?_
      refine j_iconst (v := nI 1) d_Mo_isArithmetic_102 (by decide) ?_
      refine j_ncmp_le 121 1 1 rfl rfl (by omega) (by omega) d_Mo_isArithmetic_103 (by decide) (fun b103 => ?_) (fun b103 => (by first | exact b103.elim | exact absurd b103 (by omega)))
      refine j_lconst (v := 0) d_Mo_isArithmetic_121 (by decide) ?_
      refine j_lstore [(5, .long 0), (3, .long (am_num (A (dp - 1)))), (2, .int (nI 1)), (0, .ref (R 0)), (1, .int (nI 139))] d_Mo_isArithmetic_122 (by decide) rfl ?_
      refine j_iload_n d_Mo_isArithmetic_124 rfl 2 rfl ?_
      refine j_iconst (v := nI 2) d_Mo_isArithmetic_125 (by decide) ?_
      refine j_ncmp_le 142 1 2 rfl rfl (by omega) (by omega) d_Mo_isArithmetic_126 (by decide) (fun b126 => ?_) (fun b126 => (by first | exact b126.elim | exact absurd b126 (by omega)))
      refine j_lconst (v := 0) d_Mo_isArithmetic_142 (by decide) ?_
      refine j_lstore [(7, .long 0), (5, .long 0), (3, .long (am_num (A (dp - 1)))), (2, .int (nI 1)), (0, .ref (R 0)), (1, .int (nI 139))] d_Mo_isArithmetic_143 (by decide) rfl ?_
      have v1 := am_num_lim (x := A (dp - 1)) (by assumption)
      refine j_aload_n d_Mo_isArithmetic_145 rfl 4 rfl ?_
      refine j_dup d_Mo_isArithmetic_146 rfl ?_
      refine j_get F_Mo hI.1 11 (by decide) w_954 (Or.inl rfl) rfl d_Mo_isArithmetic_147 ?_
      refine j_iload_n d_Mo_isArithmetic_150 rfl 3 rfl ?_
      refine j_isub d_Mo_isArithmetic_151 ?_
      refine j_eqi (y := nI (dp - 1)) (pk_sub (by omega)) ?_
      refine j_put F_Mo hI.1 11 (by decide) w_954 (Or.inl rfl) rfl rfl rfl (Nat.le_of_ble_eq_true rfl) d_Mo_isArithmetic_152 ?_
      show mp_J Γ m_Mo_isArithmetic E κ (mp_up M (R 0) (mp_o 7 [.ref (R 1), .int (nI rows), .int thr, .ref (R 2), .ref (R 3), .ref (R 4), .ref (R 5), .ref (R 6), .ref (R 7), .ref (R 8), .ref (R 9), .int (nI (dp - 1)), .int (nI as_), .int (nI ops), .ref (R 10)])) [(7, .long 0), (5, .long 0), (3, .long (am_num (A (dp - 1)))), (2, .int (nI 1)), (0, .ref (R 0)), (1, .int (nI 139))] 155 [] 0 0
      generalize eM1 : mp_up M (R 0) (mp_o 7 [.ref (R 1), .int (nI rows), .int thr, .ref (R 2), .ref (R 3), .ref (R 4), .ref (R 5), .ref (R 6), .ref (R 7), .ref (R 8), .ref (R 9), .int (nI (dp - 1)), .int (nI as_), .int (nI ops), .ref (R 10)]) = M1
      have hM1__R_0_ : M1 (R 0) = some (mp_o 7 [.ref (R 1), .int (nI rows), .int thr, .ref (R 2), .ref (R 3), .ref (R 4), .ref (R 5), .ref (R 6), .ref (R 7), .ref (R 8), .ref (R 9), .int (nI (dp - 1)), .int (nI as_), .int (nI ops), .ref (R 10)]) := by rw [← eM1]; exact mp_s
      have JM1 : RI E M1 R rows thr (dp - 1) as_ ops A := hI.set hR eM1
      have fM1 : RFr R M M1 := RFr.s0 eM1
      refine j_iload_n d_Mo_isArithmetic_155 rfl 5 rfl ?_
      refine j_tableIn 276 d_Mo_isArithmetic_156 (by decide) (by decide) rfl (by decide) ?_
      refine j_lload_n d_Mo_isArithmetic_276 rfl 2 rfl ?_
      refine j_lconst (v := 1) d_Mo_isArithmetic_277 (by decide) ?_
      refine j_ladd d_Mo_isArithmetic_278 ?_
      refine j_lstore [(9, .long ((am_num (A (dp - 1))) + 1)), (7, .long 0), (5, .long 0), (3, .long (am_num (A (dp - 1)))), (2, .int (nI 1)), (0, .ref (R 0)), (1, .int (nI 139))] d_Mo_isArithmetic_279 (by decide) rfl ?_
      refine j_goto (tgt := 584) d_Mo_isArithmetic_281 (by decide) ?_
      refine j_aload_n d_Mo_isArithmetic_584 rfl 5 rfl ?_
      refine j_lload d_Mo_isArithmetic_585 0 rfl ?_
      refine j_callV (As := [.long ((am_num (A (dp - 1))) + 1)]) (rest := []) (r_pushNumber Γ.l JM1 hR ((am_num (A (dp - 1))) + 1) (am_mag_lt (by rw [i6_add (by rw [i6_1]; omega), i6_1]; omega)) (by omega)) Y_Mo_pushNumber w_1031 w_1033 ws_33 hM1__R_0_ rfl rfl rfl (Nat.le_of_ble_eq_true rfl) (by omega) (by omega) (by omega) d_Mo_isArithmetic_587 (fun v587 N587 p587 => ?_)
      obtain ⟨rfl, I587, f587⟩ := p587
      show mp_J Γ m_Mo_isArithmetic E κ N587 [(9, .long ((am_num (A (dp - 1))) + 1)), (7, .long 0), (5, .long 0), (3, .long (am_num (A (dp - 1)))), (2, .int (nI 1)), (0, .ref (R 0)), (1, .int (nI 139))] 590 [] 0 0
      refine j_iconst (v := nI 1) d_Mo_isArithmetic_590 (by decide) ?_
      exact j_zret hκ rfl (by first | exact Or.inl rfl | exact Or.inr rfl) (by omega) (by omega) d_Mo_isArithmetic_591 (RQ.t I587 (fM1.trans f587) (by omega) (by unfold am_op; rw [if_neg (by decide), if_neg (by decide), if_neg (by decide), if_pos (by decide)]; exact ar1 (by omega) (by omega) (show _ = some ((am_of (am_num ((LM A dp).getD 0 []) + 1)) :: (LM A dp).drop 1, LO A as_, b, ops) from by unfold a_chg; rw [if_neg (fun z => z (an_1 (by omega) (by assumption))), if_pos rfl]) (by rw [g0 (by omega)])))
    · skip
      have d79 := of_decide_eq_false b79
      refine j_iconst (v := nI 0) d_Mo_isArithmetic_82 (by decide) ?_
      exact j_zret hκ rfl (by first | exact Or.inl rfl | exact Or.inr rfl) (by omega) (by omega) d_Mo_isArithmetic_83 (RQ.f hI RFr.refl (by omega) (by unfold am_op; rw [if_neg (by decide), if_neg (by decide), if_neg (by decide), if_pos (by decide)]; unfold a_chg; rw [if_pos (an_f (p := 0) (by decide) (Or.inr ⟨by omega, by rw [show dp - 1 - 0 = dp - 1 by omega]; exact d79⟩))]))
  · skip
    have d57 := of_decide_eq_false b57
    refine j_iconst (v := nI 0) d_Mo_isArithmetic_60 (by decide) ?_
    exact j_zret hκ rfl (by first | exact Or.inl rfl | exact Or.inr rfl) (by omega) (by omega) d_Mo_isArithmetic_61 (RQ.f hI RFr.refl (by omega) (by unfold am_op; rw [if_neg (by decide), if_neg (by decide), if_neg (by decide), if_pos (by decide)]; unfold a_chg; rw [if_pos (an_f (p := 0) (by decide) (Or.inl (by omega)))]))

set_option maxHeartbeats 4000000 in
set_option maxRecDepth 100000 in
theorem c_Mo_ar_140 (l : Launch) (E : mp_E) (M : mp_M) (R : Nat → Nat) (rows : Nat) (thr : Int32) (dp as_ ops : Nat) (A : Nat → am_T) (b : List Bool) (hI : RI E M R rows thr dp as_ ops A) (hR : RL R) (hd : dp + as_ ≤ 200) (hk : ops ≤ 1000) : mp_Cr l m_Mo_isArithmetic E M 2 0 0 [.ref (R 0), .int (nI 140)] (RQ E R M rows thr b (am_op 140 (LM A dp) (LO A as_) b ops)) := by
  refine mp_Cr.of (by decide) (Nat.le_of_ble_eq_true rfl) fun Γ κ hl hκ => ?_
  subst hl
  obtain ⟨hκd, hκc, hκs, -⟩ := id hκ
  show mp_J Γ m_Mo_isArithmetic E κ M [(0, .ref (R 0)), (1, .int (nI 140))] 0 [] 0 0
  refine j_iload_n d_Mo_isArithmetic_0 rfl 1 rfl ?_
  refine j_sipush (v := nI 165) d_Mo_isArithmetic_1 (by decide) ?_
  refine j_ncmp_ne 11 140 165 rfl rfl (by omega) (by omega) d_Mo_isArithmetic_4 (by decide) (fun b4 => ?_) (fun b4 => (by first | exact b4.elim | exact absurd b4 (by omega)))
  refine j_iload_n d_Mo_isArithmetic_11 rfl 1 rfl ?_
  refine j_sipush (v := nI 146) d_Mo_isArithmetic_12 (by decide) ?_
  refine j_ncmp_gt 22 140 146 rfl rfl (by omega) (by omega) d_Mo_isArithmetic_15 (by decide) (fun b15 => (by first | exact b15.elim | exact absurd b15 (by omega))) (fun b15 => ?_)
  refine j_iconst (v := nI 1) d_Mo_isArithmetic_18 (by decide) ?_
  refine j_goto (tgt := 23) d_Mo_isArithmetic_19 (by decide) ?_
  refine j_istore_n [(2, .int (nI 1)), (0, .ref (R 0)), (1, .int (nI 140))] d_Mo_isArithmetic_23 rfl (by decide) rfl ?_
  refine j_iload_n d_Mo_isArithmetic_24 rfl 2 rfl ?_
  refine j_sipush (v := nI 141) d_Mo_isArithmetic_25 (by decide) ?_
  refine j_ncmp_eq 60 140 141 rfl rfl (by omega) (by omega) d_Mo_isArithmetic_28 (by decide) (fun b28 => (by first | exact b28.elim | exact absurd b28 (by omega))) (fun b28 => ?_)
  refine j_iload_n d_Mo_isArithmetic_31 rfl 2 rfl ?_
  refine j_sipush (v := nI 142) d_Mo_isArithmetic_32 (by decide) ?_
  refine j_ncmp_eq 60 140 142 rfl rfl (by omega) (by omega) d_Mo_isArithmetic_35 (by decide) (fun b35 => (by first | exact b35.elim | exact absurd b35 (by omega))) (fun b35 => ?_)
  refine j_iload_n d_Mo_isArithmetic_38 rfl 2 rfl ?_
  refine j_sipush (v := nI 149) d_Mo_isArithmetic_39 (by decide) ?_
  refine j_ncmp_lt 52 140 149 rfl rfl (by omega) (by omega) d_Mo_isArithmetic_42 (by decide) (fun b42 => ?_) (fun b42 => (by first | exact b42.elim | exact absurd b42 (by omega)))
  refine j_aload_n d_Mo_isArithmetic_52 rfl 1 rfl ?_
  refine j_iload_n d_Mo_isArithmetic_53 rfl 0 rfl ?_
  refine j_callV (As := [.int (nI 1)]) (rest := []) (c_Mo_has Γ.l E M (R 0) (R 1) rows (R 2) (R 3) (R 4) (R 5) (R 6) (R 7) (R 8) (R 9) dp as_ ops (R 10) thr 1 hI.1 (by omega) (by omega)) Y_Mo_has w_1039 w_1041 ws_35 hI.1 rfl rfl rfl (Nat.le_of_ble_eq_true rfl) (by omega) (by omega) (by omega) d_Mo_isArithmetic_54 (fun v54 N54 p54 => ?_)
  obtain ⟨rfl, q54⟩ := p54
  obtain rfl := q54.symm
  show mp_J Γ m_Mo_isArithmetic E κ M [(2, .int (nI 1)), (0, .ref (R 0)), (1, .int (nI 140))] 57 [.int (tf (decide (1 ≤ dp)))] 0 0
  refine j_tif_ne 62 d_Mo_isArithmetic_57 (by decide) (fun b57 => ?_) (fun b57 => ?_)
  · skip
    have d57 := of_decide_eq_true b57
    refine j_iconst (v := nI 1) d_Mo_isArithmetic_62 (by decide) ?_
    refine j_istore_n [(3, .int (nI 1)), (2, .int (nI 1)), (0, .ref (R 0)), (1, .int (nI 140))] d_Mo_isArithmetic_63 rfl (by decide) rfl ?_
    refine j_iload_n d_Mo_isArithmetic_64 rfl 0 rfl ?_
    refine j_iload_n d_Mo_isArithmetic_65 rfl 1 rfl ?_
    refine j_ncmp_gt 90 1 1 rfl rfl (by omega) (by omega) d_Mo_isArithmetic_66 (by decide) (fun b66 => (by first | exact b66.elim | exact absurd b66 (by omega))) (fun b66 => ?_)
    refine j_aload_n d_Mo_isArithmetic_69 rfl 2 rfl ?_
    refine j_aload_n d_Mo_isArithmetic_70 rfl 2 rfl ?_
    refine j_get F_Mo hI.1 11 (by decide) w_954 (Or.inl rfl) rfl d_Mo_isArithmetic_71 ?_
    refine j_iload_n d_Mo_isArithmetic_74 rfl 0 rfl ?_
    refine j_isub d_Mo_isArithmetic_75 ?_
    refine j_eqi (y := nI (dp - 1)) (pk_sub (by omega)) ?_
    refine j_callV (As := [.int (nI (dp - 1))]) (rest := []) (r_isNumber Γ.l hI (dp - 1) (by omega)) Y_Mo_isNumber w_1043 w_1045 ws_36 hI.1 rfl rfl rfl (Nat.le_of_ble_eq_true rfl) (by omega) (by omega) (by omega) d_Mo_isArithmetic_76 (fun v76 N76 p76 => ?_)
    obtain ⟨rfl, q76⟩ := p76
    obtain rfl := q76.symm
    show mp_J Γ m_Mo_isArithmetic E κ M [(3, .int (nI 1)), (2, .int (nI 1)), (0, .ref (R 0)), (1, .int (nI 140))] 79 [.int (tf (decide ((A (dp - 1)).length ≤ 4)))] 0 0
    refine j_tif_ne 84 d_Mo_isArithmetic_79 (by decide) (fun b79 => ?_) (fun b79 => ?_)
    · skip
      have d79 := of_decide_eq_true b79
      refine j_iinc (v := nI 2) [(3, .int (nI 2)), (2, .int (nI 1)), (0, .ref (R 0)), (1, .int (nI 140))] d_Mo_isArithmetic_84 0 rfl (by decide) (by decide) rfl ?_
      refine j_goto (tgt := 64) d_Mo_isArithmetic_87 (by decide) ?_
      refine j_iload_n d_Mo_isArithmetic_64 rfl 0 rfl ?_
      refine j_iload_n d_Mo_isArithmetic_65 rfl 1 rfl ?_
      refine j_ncmp_gt 90 2 1 rfl rfl (by omega) (by omega) d_Mo_isArithmetic_66 (by decide) (fun b66 => ?_) (fun b66 => (by first | exact b66.elim | exact absurd b66 (by omega)))
      refine j_aload_n d_Mo_isArithmetic_90 rfl 2 rfl ?_
      refine j_aload_n d_Mo_isArithmetic_91 rfl 2 rfl ?_
      refine j_get F_Mo hI.1 11 (by decide) w_954 (Or.inl rfl) rfl d_Mo_isArithmetic_92 ?_
      refine j_iload_n d_Mo_isArithmetic_95 rfl 1 rfl ?_
      refine j_isub d_Mo_isArithmetic_96 ?_
      refine j_eqi (y := nI (dp - 1)) (pk_sub (by omega)) ?_
      refine j_callV (As := [.int (nI (dp - 1))]) (rest := []) (r_numberAt Γ.l hI (dp - 1) (by omega) (by assumption)) Y_Mo_numberAt w_1047 w_1049 ws_37 hI.1 rfl rfl rfl (Nat.le_of_ble_eq_true rfl) (by omega) (by omega) (by omega) d_Mo_isArithmetic_97 (fun v97 N97 p97 => ?_)
      obtain ⟨rfl, q97⟩ := p97
      obtain rfl := q97.symm
      show mp_J Γ m_Mo_isArithmetic E κ M [(3, .int (nI 2)), (2, .int (nI 1)), (0, .ref (R 0)), (1, .int (nI 140))] 100 [.long (am_num (A (dp - 1)))] 0 0
      refine j_lstore_n [(3, .long (am_num (A (dp - 1)))), (2, .int (nI 1)), (0, .ref (R 0)), (1, .int (nI 140))] d_Mo_isArithmetic_100 rfl (by decide) rfl ?_
      refine j_iload_n d_Mo_isArithmetic_101 rfl 1 rfl ?_
      refine j_iconst (v := nI 1) d_Mo_isArithmetic_102 (by decide) ?_
      refine j_ncmp_le 121 1 1 rfl rfl (by omega) (by omega) d_Mo_isArithmetic_103 (by decide) (fun b103 => ?_) (fun b103 => (by first | exact b103.elim | exact absurd b103 (by omega)))
      refine j_lconst (v := 0) d_Mo_isArithmetic_121 (by decide) ?_
      refine j_lstore [(5, .long 0), (3, .long (am_num (A (dp - 1)))), (2, .int (nI 1)), (0, .ref (R 0)), (1, .int (nI 140))] d_Mo_isArithmetic_122 (by decide) rfl ?_
      refine j_iload_n d_Mo_isArithmetic_124 rfl 2 rfl ?_
      refine j_iconst (v := nI 2) d_Mo_isArithmetic_125 (by decide) ?_
      refine j_ncmp_le 142 1 2 rfl rfl (by omega) (by omega) d_Mo_isArithmetic_126 (by decide) (fun b126 => ?_) (fun b126 => (by first | exact b126.elim | exact absurd b126 (by omega)))
      refine j_lconst (v := 0) d_Mo_isArithmetic_142 (by decide) ?_
      refine j_lstore [(7, .long 0), (5, .long 0), (3, .long (am_num (A (dp - 1)))), (2, .int (nI 1)), (0, .ref (R 0)), (1, .int (nI 140))] d_Mo_isArithmetic_143 (by decide) rfl ?_
      have v1 := am_num_lim (x := A (dp - 1)) (by assumption)
      refine j_aload_n d_Mo_isArithmetic_145 rfl 4 rfl ?_
      refine j_dup d_Mo_isArithmetic_146 rfl ?_
      refine j_get F_Mo hI.1 11 (by decide) w_954 (Or.inl rfl) rfl d_Mo_isArithmetic_147 ?_
      refine j_iload_n d_Mo_isArithmetic_150 rfl 3 rfl ?_
      refine j_isub d_Mo_isArithmetic_151 ?_
      refine j_eqi (y := nI (dp - 1)) (pk_sub (by omega)) ?_
      refine j_put F_Mo hI.1 11 (by decide) w_954 (Or.inl rfl) rfl rfl rfl (Nat.le_of_ble_eq_true rfl) d_Mo_isArithmetic_152 ?_
      show mp_J Γ m_Mo_isArithmetic E κ (mp_up M (R 0) (mp_o 7 [.ref (R 1), .int (nI rows), .int thr, .ref (R 2), .ref (R 3), .ref (R 4), .ref (R 5), .ref (R 6), .ref (R 7), .ref (R 8), .ref (R 9), .int (nI (dp - 1)), .int (nI as_), .int (nI ops), .ref (R 10)])) [(7, .long 0), (5, .long 0), (3, .long (am_num (A (dp - 1)))), (2, .int (nI 1)), (0, .ref (R 0)), (1, .int (nI 140))] 155 [] 0 0
      generalize eM1 : mp_up M (R 0) (mp_o 7 [.ref (R 1), .int (nI rows), .int thr, .ref (R 2), .ref (R 3), .ref (R 4), .ref (R 5), .ref (R 6), .ref (R 7), .ref (R 8), .ref (R 9), .int (nI (dp - 1)), .int (nI as_), .int (nI ops), .ref (R 10)]) = M1
      have hM1__R_0_ : M1 (R 0) = some (mp_o 7 [.ref (R 1), .int (nI rows), .int thr, .ref (R 2), .ref (R 3), .ref (R 4), .ref (R 5), .ref (R 6), .ref (R 7), .ref (R 8), .ref (R 9), .int (nI (dp - 1)), .int (nI as_), .int (nI ops), .ref (R 10)]) := by rw [← eM1]; exact mp_s
      have JM1 : RI E M1 R rows thr (dp - 1) as_ ops A := hI.set hR eM1
      have fM1 : RFr R M M1 := RFr.s0 eM1
      refine j_iload_n d_Mo_isArithmetic_155 rfl 5 rfl ?_
      refine j_tableIn 284 d_Mo_isArithmetic_156 (by decide) (by decide) rfl (by decide) ?_
      refine j_lload_n d_Mo_isArithmetic_284 rfl 2 rfl ?_
      refine j_lconst (v := 1) d_Mo_isArithmetic_285 (by decide) ?_
      refine j_lsub d_Mo_isArithmetic_286 ?_
      refine j_lstore [(9, .long ((am_num (A (dp - 1))) - 1)), (7, .long 0), (5, .long 0), (3, .long (am_num (A (dp - 1)))), (2, .int (nI 1)), (0, .ref (R 0)), (1, .int (nI 140))] d_Mo_isArithmetic_287 (by decide) rfl ?_
      refine j_goto (tgt := 584) d_Mo_isArithmetic_289 (by decide) ?_
      refine j_aload_n d_Mo_isArithmetic_584 rfl 5 rfl ?_
      refine j_lload d_Mo_isArithmetic_585 0 rfl ?_
      refine j_callV (As := [.long ((am_num (A (dp - 1))) - 1)]) (rest := []) (r_pushNumber Γ.l JM1 hR ((am_num (A (dp - 1))) - 1) (am_mag_lt (by rw [i6_sub (by rw [i6_1]; omega), i6_1]; omega)) (by omega)) Y_Mo_pushNumber w_1031 w_1033 ws_33 hM1__R_0_ rfl rfl rfl (Nat.le_of_ble_eq_true rfl) (by omega) (by omega) (by omega) d_Mo_isArithmetic_587 (fun v587 N587 p587 => ?_)
      obtain ⟨rfl, I587, f587⟩ := p587
      show mp_J Γ m_Mo_isArithmetic E κ N587 [(9, .long ((am_num (A (dp - 1))) - 1)), (7, .long 0), (5, .long 0), (3, .long (am_num (A (dp - 1)))), (2, .int (nI 1)), (0, .ref (R 0)), (1, .int (nI 140))] 590 [] 0 0
      refine j_iconst (v := nI 1) d_Mo_isArithmetic_590 (by decide) ?_
      exact j_zret hκ rfl (by first | exact Or.inl rfl | exact Or.inr rfl) (by omega) (by omega) d_Mo_isArithmetic_591 (RQ.t I587 (fM1.trans f587) (by omega) (by unfold am_op; rw [if_neg (by decide), if_neg (by decide), if_neg (by decide), if_pos (by decide)]; exact ar1 (by omega) (by omega) (show _ = some ((am_of (am_num ((LM A dp).getD 0 []) - 1)) :: (LM A dp).drop 1, LO A as_, b, ops) from by unfold a_chg; rw [if_neg (fun z => z (an_1 (by omega) (by assumption))), if_neg (by decide), if_pos rfl]) (by rw [g0 (by omega)])))
    · skip
      have d79 := of_decide_eq_false b79
      refine j_iconst (v := nI 0) d_Mo_isArithmetic_82 (by decide) ?_
      exact j_zret hκ rfl (by first | exact Or.inl rfl | exact Or.inr rfl) (by omega) (by omega) d_Mo_isArithmetic_83 (RQ.f hI RFr.refl (by omega) (by unfold am_op; rw [if_neg (by decide), if_neg (by decide), if_neg (by decide), if_pos (by decide)]; unfold a_chg; rw [if_pos (an_f (p := 0) (by decide) (Or.inr ⟨by omega, by rw [show dp - 1 - 0 = dp - 1 by omega]; exact d79⟩))]))
  · skip
    have d57 := of_decide_eq_false b57
    refine j_iconst (v := nI 0) d_Mo_isArithmetic_60 (by decide) ?_
    exact j_zret hκ rfl (by first | exact Or.inl rfl | exact Or.inr rfl) (by omega) (by omega) d_Mo_isArithmetic_61 (RQ.f hI RFr.refl (by omega) (by unfold am_op; rw [if_neg (by decide), if_neg (by decide), if_neg (by decide), if_pos (by decide)]; unfold a_chg; rw [if_pos (an_f (p := 0) (by decide) (Or.inl (by omega)))]))

set_option maxHeartbeats 4000000 in
set_option maxRecDepth 100000 in
theorem c_Mo_ar_141 (l : Launch) (E : mp_E) (M : mp_M) (R : Nat → Nat) (rows : Nat) (thr : Int32) (dp as_ ops : Nat) (A : Nat → am_T) (b : List Bool) (hI : RI E M R rows thr dp as_ ops A) (hR : RL R) (hd : dp + as_ ≤ 200) (hk : ops ≤ 1000) : mp_Cr l m_Mo_isArithmetic E M 2 0 0 [.ref (R 0), .int (nI 141)] (RQ E R M rows thr b (am_op 141 (LM A dp) (LO A as_) b ops)) := by
  refine mp_Cr.of (by decide) (Nat.le_of_ble_eq_true rfl) fun Γ κ hl hκ => ?_
  subst hl
  obtain ⟨hκd, hκc, hκs, -⟩ := id hκ
  show mp_J Γ m_Mo_isArithmetic E κ M [(0, .ref (R 0)), (1, .int (nI 141))] 0 [] 0 0
  refine j_iload_n d_Mo_isArithmetic_0 rfl 1 rfl ?_
  refine j_sipush (v := nI 165) d_Mo_isArithmetic_1 (by decide) ?_
  refine j_ncmp_ne 11 141 165 rfl rfl (by omega) (by omega) d_Mo_isArithmetic_4 (by decide) (fun b4 => ?_) (fun b4 => (by first | exact b4.elim | exact absurd b4 (by omega)))
  refine j_iload_n d_Mo_isArithmetic_11 rfl 1 rfl ?_
  refine j_sipush (v := nI 146) d_Mo_isArithmetic_12 (by decide) ?_
  refine j_ncmp_gt 22 141 146 rfl rfl (by omega) (by omega) d_Mo_isArithmetic_15 (by decide) (fun b15 => (by first | exact b15.elim | exact absurd b15 (by omega))) (fun b15 => ?_)
  refine j_iconst (v := nI 1) d_Mo_isArithmetic_18 (by decide) ?_
  refine j_goto (tgt := 23) d_Mo_isArithmetic_19 (by decide) ?_
  refine j_istore_n [(2, .int (nI 1)), (0, .ref (R 0)), (1, .int (nI 141))] d_Mo_isArithmetic_23 rfl (by decide) rfl ?_
  refine j_iload_n d_Mo_isArithmetic_24 rfl 2 rfl ?_
  refine j_sipush (v := nI 141) d_Mo_isArithmetic_25 (by decide) ?_
  refine j_ncmp_eq 60 141 141 rfl rfl (by omega) (by omega) d_Mo_isArithmetic_28 (by decide) (fun b28 => ?_) (fun b28 => (by first | exact b28.elim | exact absurd b28 (by omega)))
  refine j_iconst (v := nI 0) d_Mo_isArithmetic_60 (by decide) ?_
  exact j_zret hκ rfl (by first | exact Or.inl rfl | exact Or.inr rfl) (by omega) (by omega) d_Mo_isArithmetic_61 (RQ.f hI RFr.refl (by omega) (by unfold am_op; rw [if_neg (by decide), if_neg (by decide), if_neg (by decide), if_pos (by decide)]; unfold a_chg; by_cases h9 : ¬ am_ns (LM A dp) 1; rw [if_pos h9]; rw [if_neg h9, if_neg (by decide), if_neg (by decide), if_neg (by decide), if_neg (by decide), if_neg (by decide), if_neg (by decide)]))

set_option maxHeartbeats 4000000 in
set_option maxRecDepth 100000 in
theorem c_Mo_ar_142 (l : Launch) (E : mp_E) (M : mp_M) (R : Nat → Nat) (rows : Nat) (thr : Int32) (dp as_ ops : Nat) (A : Nat → am_T) (b : List Bool) (hI : RI E M R rows thr dp as_ ops A) (hR : RL R) (hd : dp + as_ ≤ 200) (hk : ops ≤ 1000) : mp_Cr l m_Mo_isArithmetic E M 2 0 0 [.ref (R 0), .int (nI 142)] (RQ E R M rows thr b (am_op 142 (LM A dp) (LO A as_) b ops)) := by
  refine mp_Cr.of (by decide) (Nat.le_of_ble_eq_true rfl) fun Γ κ hl hκ => ?_
  subst hl
  obtain ⟨hκd, hκc, hκs, -⟩ := id hκ
  show mp_J Γ m_Mo_isArithmetic E κ M [(0, .ref (R 0)), (1, .int (nI 142))] 0 [] 0 0
  refine j_iload_n d_Mo_isArithmetic_0 rfl 1 rfl ?_
  refine j_sipush (v := nI 165) d_Mo_isArithmetic_1 (by decide) ?_
  refine j_ncmp_ne 11 142 165 rfl rfl (by omega) (by omega) d_Mo_isArithmetic_4 (by decide) (fun b4 => ?_) (fun b4 => (by first | exact b4.elim | exact absurd b4 (by omega)))
  refine j_iload_n d_Mo_isArithmetic_11 rfl 1 rfl ?_
  refine j_sipush (v := nI 146) d_Mo_isArithmetic_12 (by decide) ?_
  refine j_ncmp_gt 22 142 146 rfl rfl (by omega) (by omega) d_Mo_isArithmetic_15 (by decide) (fun b15 => (by first | exact b15.elim | exact absurd b15 (by omega))) (fun b15 => ?_)
  refine j_iconst (v := nI 1) d_Mo_isArithmetic_18 (by decide) ?_
  refine j_goto (tgt := 23) d_Mo_isArithmetic_19 (by decide) ?_
  refine j_istore_n [(2, .int (nI 1)), (0, .ref (R 0)), (1, .int (nI 142))] d_Mo_isArithmetic_23 rfl (by decide) rfl ?_
  refine j_iload_n d_Mo_isArithmetic_24 rfl 2 rfl ?_
  refine j_sipush (v := nI 141) d_Mo_isArithmetic_25 (by decide) ?_
  refine j_ncmp_eq 60 142 141 rfl rfl (by omega) (by omega) d_Mo_isArithmetic_28 (by decide) (fun b28 => (by first | exact b28.elim | exact absurd b28 (by omega))) (fun b28 => ?_)
  refine j_iload_n d_Mo_isArithmetic_31 rfl 2 rfl ?_
  refine j_sipush (v := nI 142) d_Mo_isArithmetic_32 (by decide) ?_
  refine j_ncmp_eq 60 142 142 rfl rfl (by omega) (by omega) d_Mo_isArithmetic_35 (by decide) (fun b35 => ?_) (fun b35 => (by first | exact b35.elim | exact absurd b35 (by omega)))
  refine j_iconst (v := nI 0) d_Mo_isArithmetic_60 (by decide) ?_
  exact j_zret hκ rfl (by first | exact Or.inl rfl | exact Or.inr rfl) (by omega) (by omega) d_Mo_isArithmetic_61 (RQ.f hI RFr.refl (by omega) (by unfold am_op; rw [if_neg (by decide), if_neg (by decide), if_neg (by decide), if_pos (by decide)]; unfold a_chg; by_cases h9 : ¬ am_ns (LM A dp) 1; rw [if_pos h9]; rw [if_neg h9, if_neg (by decide), if_neg (by decide), if_neg (by decide), if_neg (by decide), if_neg (by decide), if_neg (by decide)]))

set_option maxHeartbeats 4000000 in
set_option maxRecDepth 100000 in
theorem c_Mo_ar_143 (l : Launch) (E : mp_E) (M : mp_M) (R : Nat → Nat) (rows : Nat) (thr : Int32) (dp as_ ops : Nat) (A : Nat → am_T) (b : List Bool) (hI : RI E M R rows thr dp as_ ops A) (hR : RL R) (hd : dp + as_ ≤ 200) (hk : ops ≤ 1000) : mp_Cr l m_Mo_isArithmetic E M 2 0 0 [.ref (R 0), .int (nI 143)] (RQ E R M rows thr b (am_op 143 (LM A dp) (LO A as_) b ops)) := by
  refine mp_Cr.of (by decide) (Nat.le_of_ble_eq_true rfl) fun Γ κ hl hκ => ?_
  subst hl
  obtain ⟨hκd, hκc, hκs, -⟩ := id hκ
  show mp_J Γ m_Mo_isArithmetic E κ M [(0, .ref (R 0)), (1, .int (nI 143))] 0 [] 0 0
  refine j_iload_n d_Mo_isArithmetic_0 rfl 1 rfl ?_
  refine j_sipush (v := nI 165) d_Mo_isArithmetic_1 (by decide) ?_
  refine j_ncmp_ne 11 143 165 rfl rfl (by omega) (by omega) d_Mo_isArithmetic_4 (by decide) (fun b4 => ?_) (fun b4 => (by first | exact b4.elim | exact absurd b4 (by omega)))
  refine j_iload_n d_Mo_isArithmetic_11 rfl 1 rfl ?_
  refine j_sipush (v := nI 146) d_Mo_isArithmetic_12 (by decide) ?_
  refine j_ncmp_gt 22 143 146 rfl rfl (by omega) (by omega) d_Mo_isArithmetic_15 (by decide) (fun b15 => (by first | exact b15.elim | exact absurd b15 (by omega))) (fun b15 => ?_)
  refine j_iconst (v := nI 1) d_Mo_isArithmetic_18 (by decide) ?_
  refine j_goto (tgt := 23) d_Mo_isArithmetic_19 (by decide) ?_
  refine j_istore_n [(2, .int (nI 1)), (0, .ref (R 0)), (1, .int (nI 143))] d_Mo_isArithmetic_23 rfl (by decide) rfl ?_
  refine j_iload_n d_Mo_isArithmetic_24 rfl 2 rfl ?_
  refine j_sipush (v := nI 141) d_Mo_isArithmetic_25 (by decide) ?_
  refine j_ncmp_eq 60 143 141 rfl rfl (by omega) (by omega) d_Mo_isArithmetic_28 (by decide) (fun b28 => (by first | exact b28.elim | exact absurd b28 (by omega))) (fun b28 => ?_)
  refine j_iload_n d_Mo_isArithmetic_31 rfl 2 rfl ?_
  refine j_sipush (v := nI 142) d_Mo_isArithmetic_32 (by decide) ?_
  refine j_ncmp_eq 60 143 142 rfl rfl (by omega) (by omega) d_Mo_isArithmetic_35 (by decide) (fun b35 => (by first | exact b35.elim | exact absurd b35 (by omega))) (fun b35 => ?_)
  refine j_iload_n d_Mo_isArithmetic_38 rfl 2 rfl ?_
  refine j_sipush (v := nI 149) d_Mo_isArithmetic_39 (by decide) ?_
  refine j_ncmp_lt 52 143 149 rfl rfl (by omega) (by omega) d_Mo_isArithmetic_42 (by decide) (fun b42 => ?_) (fun b42 => (by first | exact b42.elim | exact absurd b42 (by omega)))
  refine j_aload_n d_Mo_isArithmetic_52 rfl 1 rfl ?_
  refine j_iload_n d_Mo_isArithmetic_53 rfl 0 rfl ?_
  refine j_callV (As := [.int (nI 1)]) (rest := []) (c_Mo_has Γ.l E M (R 0) (R 1) rows (R 2) (R 3) (R 4) (R 5) (R 6) (R 7) (R 8) (R 9) dp as_ ops (R 10) thr 1 hI.1 (by omega) (by omega)) Y_Mo_has w_1039 w_1041 ws_35 hI.1 rfl rfl rfl (Nat.le_of_ble_eq_true rfl) (by omega) (by omega) (by omega) d_Mo_isArithmetic_54 (fun v54 N54 p54 => ?_)
  obtain ⟨rfl, q54⟩ := p54
  obtain rfl := q54.symm
  show mp_J Γ m_Mo_isArithmetic E κ M [(2, .int (nI 1)), (0, .ref (R 0)), (1, .int (nI 143))] 57 [.int (tf (decide (1 ≤ dp)))] 0 0
  refine j_tif_ne 62 d_Mo_isArithmetic_57 (by decide) (fun b57 => ?_) (fun b57 => ?_)
  · skip
    have d57 := of_decide_eq_true b57
    refine j_iconst (v := nI 1) d_Mo_isArithmetic_62 (by decide) ?_
    refine j_istore_n [(3, .int (nI 1)), (2, .int (nI 1)), (0, .ref (R 0)), (1, .int (nI 143))] d_Mo_isArithmetic_63 rfl (by decide) rfl ?_
    refine j_iload_n d_Mo_isArithmetic_64 rfl 0 rfl ?_
    refine j_iload_n d_Mo_isArithmetic_65 rfl 1 rfl ?_
    refine j_ncmp_gt 90 1 1 rfl rfl (by omega) (by omega) d_Mo_isArithmetic_66 (by decide) (fun b66 => (by first | exact b66.elim | exact absurd b66 (by omega))) (fun b66 => ?_)
    refine j_aload_n d_Mo_isArithmetic_69 rfl 2 rfl ?_
    refine j_aload_n d_Mo_isArithmetic_70 rfl 2 rfl ?_
    refine j_get F_Mo hI.1 11 (by decide) w_954 (Or.inl rfl) rfl d_Mo_isArithmetic_71 ?_
    refine j_iload_n d_Mo_isArithmetic_74 rfl 0 rfl ?_
    refine j_isub d_Mo_isArithmetic_75 ?_
    refine j_eqi (y := nI (dp - 1)) (pk_sub (by omega)) ?_
    refine j_callV (As := [.int (nI (dp - 1))]) (rest := []) (r_isNumber Γ.l hI (dp - 1) (by omega)) Y_Mo_isNumber w_1043 w_1045 ws_36 hI.1 rfl rfl rfl (Nat.le_of_ble_eq_true rfl) (by omega) (by omega) (by omega) d_Mo_isArithmetic_76 (fun v76 N76 p76 => ?_)
    obtain ⟨rfl, q76⟩ := p76
    obtain rfl := q76.symm
    show mp_J Γ m_Mo_isArithmetic E κ M [(3, .int (nI 1)), (2, .int (nI 1)), (0, .ref (R 0)), (1, .int (nI 143))] 79 [.int (tf (decide ((A (dp - 1)).length ≤ 4)))] 0 0
    refine j_tif_ne 84 d_Mo_isArithmetic_79 (by decide) (fun b79 => ?_) (fun b79 => ?_)
    · skip
      have d79 := of_decide_eq_true b79
      refine j_iinc (v := nI 2) [(3, .int (nI 2)), (2, .int (nI 1)), (0, .ref (R 0)), (1, .int (nI 143))] d_Mo_isArithmetic_84 0 rfl (by decide) (by decide) rfl ?_
      refine j_goto (tgt := 64) d_Mo_isArithmetic_87 (by decide) ?_
      refine j_iload_n d_Mo_isArithmetic_64 rfl 0 rfl ?_
      refine j_iload_n d_Mo_isArithmetic_65 rfl 1 rfl ?_
      refine j_ncmp_gt 90 2 1 rfl rfl (by omega) (by omega) d_Mo_isArithmetic_66 (by decide) (fun b66 => ?_) (fun b66 => (by first | exact b66.elim | exact absurd b66 (by omega)))
      refine j_aload_n d_Mo_isArithmetic_90 rfl 2 rfl ?_
      refine j_aload_n d_Mo_isArithmetic_91 rfl 2 rfl ?_
      refine j_get F_Mo hI.1 11 (by decide) w_954 (Or.inl rfl) rfl d_Mo_isArithmetic_92 ?_
      refine j_iload_n d_Mo_isArithmetic_95 rfl 1 rfl ?_
      refine j_isub d_Mo_isArithmetic_96 ?_
      refine j_eqi (y := nI (dp - 1)) (pk_sub (by omega)) ?_
      refine j_callV (As := [.int (nI (dp - 1))]) (rest := []) (r_numberAt Γ.l hI (dp - 1) (by omega) (by assumption)) Y_Mo_numberAt w_1047 w_1049 ws_37 hI.1 rfl rfl rfl (Nat.le_of_ble_eq_true rfl) (by omega) (by omega) (by omega) d_Mo_isArithmetic_97 (fun v97 N97 p97 => ?_)
      obtain ⟨rfl, q97⟩ := p97
      obtain rfl := q97.symm
      show mp_J Γ m_Mo_isArithmetic E κ M [(3, .int (nI 2)), (2, .int (nI 1)), (0, .ref (R 0)), (1, .int (nI 143))] 100 [.long (am_num (A (dp - 1)))] 0 0
      refine j_lstore_n [(3, .long (am_num (A (dp - 1)))), (2, .int (nI 1)), (0, .ref (R 0)), (1, .int (nI 143))] d_Mo_isArithmetic_100 rfl (by decide) rfl ?_
      refine j_iload_n d_Mo_isArithmetic_101 rfl 1 rfl ?_
      refine j_iconst (v := nI 1) d_Mo_isArithmetic_102 (by decide) ?_
      refine j_ncmp_le 121 1 1 rfl rfl (by omega) (by omega) d_Mo_isArithmetic_103 (by decide) (fun b103 => ?_) (fun b103 => (by first | exact b103.elim | exact absurd b103 (by omega)))
      refine j_lconst (v := 0) d_Mo_isArithmetic_121 (by decide) ?_
      refine j_lstore [(5, .long 0), (3, .long (am_num (A (dp - 1)))), (2, .int (nI 1)), (0, .ref (R 0)), (1, .int (nI 143))] d_Mo_isArithmetic_122 (by decide) rfl ?_
      refine j_iload_n d_Mo_isArithmetic_124 rfl 2 rfl ?_
      refine j_iconst (v := nI 2) d_Mo_isArithmetic_125 (by decide) ?_
      refine j_ncmp_le 142 1 2 rfl rfl (by omega) (by omega) d_Mo_isArithmetic_126 (by decide) (fun b126 => ?_) (fun b126 => (by first | exact b126.elim | exact absurd b126 (by omega)))
      refine j_lconst (v := 0) d_Mo_isArithmetic_142 (by decide) ?_
      refine j_lstore [(7, .long 0), (5, .long 0), (3, .long (am_num (A (dp - 1)))), (2, .int (nI 1)), (0, .ref (R 0)), (1, .int (nI 143))] d_Mo_isArithmetic_143 (by decide) rfl ?_
      have v1 := am_num_lim (x := A (dp - 1)) (by assumption)
      refine j_aload_n d_Mo_isArithmetic_145 rfl 4 rfl ?_
      refine j_dup d_Mo_isArithmetic_146 rfl ?_
      refine j_get F_Mo hI.1 11 (by decide) w_954 (Or.inl rfl) rfl d_Mo_isArithmetic_147 ?_
      refine j_iload_n d_Mo_isArithmetic_150 rfl 3 rfl ?_
      refine j_isub d_Mo_isArithmetic_151 ?_
      refine j_eqi (y := nI (dp - 1)) (pk_sub (by omega)) ?_
      refine j_put F_Mo hI.1 11 (by decide) w_954 (Or.inl rfl) rfl rfl rfl (Nat.le_of_ble_eq_true rfl) d_Mo_isArithmetic_152 ?_
      show mp_J Γ m_Mo_isArithmetic E κ (mp_up M (R 0) (mp_o 7 [.ref (R 1), .int (nI rows), .int thr, .ref (R 2), .ref (R 3), .ref (R 4), .ref (R 5), .ref (R 6), .ref (R 7), .ref (R 8), .ref (R 9), .int (nI (dp - 1)), .int (nI as_), .int (nI ops), .ref (R 10)])) [(7, .long 0), (5, .long 0), (3, .long (am_num (A (dp - 1)))), (2, .int (nI 1)), (0, .ref (R 0)), (1, .int (nI 143))] 155 [] 0 0
      generalize eM1 : mp_up M (R 0) (mp_o 7 [.ref (R 1), .int (nI rows), .int thr, .ref (R 2), .ref (R 3), .ref (R 4), .ref (R 5), .ref (R 6), .ref (R 7), .ref (R 8), .ref (R 9), .int (nI (dp - 1)), .int (nI as_), .int (nI ops), .ref (R 10)]) = M1
      have hM1__R_0_ : M1 (R 0) = some (mp_o 7 [.ref (R 1), .int (nI rows), .int thr, .ref (R 2), .ref (R 3), .ref (R 4), .ref (R 5), .ref (R 6), .ref (R 7), .ref (R 8), .ref (R 9), .int (nI (dp - 1)), .int (nI as_), .int (nI ops), .ref (R 10)]) := by rw [← eM1]; exact mp_s
      have JM1 : RI E M1 R rows thr (dp - 1) as_ ops A := hI.set hR eM1
      have fM1 : RFr R M M1 := RFr.s0 eM1
      refine j_iload_n d_Mo_isArithmetic_155 rfl 5 rfl ?_
      refine j_tableIn 292 d_Mo_isArithmetic_156 (by decide) (by decide) rfl (by decide) ?_
      refine j_lload_n d_Mo_isArithmetic_292 rfl 2 rfl ?_
      refine j_lneg d_Mo_isArithmetic_293 ?_
      refine j_lstore [(9, .long (-(am_num (A (dp - 1))))), (7, .long 0), (5, .long 0), (3, .long (am_num (A (dp - 1)))), (2, .int (nI 1)), (0, .ref (R 0)), (1, .int (nI 143))] d_Mo_isArithmetic_294 (by decide) rfl ?_
      refine j_goto (tgt := 584) d_Mo_isArithmetic_296 (by decide) ?_
      refine j_aload_n d_Mo_isArithmetic_584 rfl 5 rfl ?_
      refine j_lload d_Mo_isArithmetic_585 0 rfl ?_
      refine j_callV (As := [.long (-(am_num (A (dp - 1))))]) (rest := []) (r_pushNumber Γ.l JM1 hR (-(am_num (A (dp - 1)))) (am_mag_lt (by rw [i6_neg (by omega)]; omega)) (by omega)) Y_Mo_pushNumber w_1031 w_1033 ws_33 hM1__R_0_ rfl rfl rfl (Nat.le_of_ble_eq_true rfl) (by omega) (by omega) (by omega) d_Mo_isArithmetic_587 (fun v587 N587 p587 => ?_)
      obtain ⟨rfl, I587, f587⟩ := p587
      show mp_J Γ m_Mo_isArithmetic E κ N587 [(9, .long (-(am_num (A (dp - 1))))), (7, .long 0), (5, .long 0), (3, .long (am_num (A (dp - 1)))), (2, .int (nI 1)), (0, .ref (R 0)), (1, .int (nI 143))] 590 [] 0 0
      refine j_iconst (v := nI 1) d_Mo_isArithmetic_590 (by decide) ?_
      exact j_zret hκ rfl (by first | exact Or.inl rfl | exact Or.inr rfl) (by omega) (by omega) d_Mo_isArithmetic_591 (RQ.t I587 (fM1.trans f587) (by omega) (by unfold am_op; rw [if_neg (by decide), if_neg (by decide), if_neg (by decide), if_pos (by decide)]; exact ar1 (by omega) (by omega) (show _ = some ((am_of (-am_num ((LM A dp).getD 0 []))) :: (LM A dp).drop 1, LO A as_, b, ops) from by unfold a_chg; rw [if_neg (fun z => z (an_1 (by omega) (by assumption))), if_neg (by decide), if_neg (by decide), if_pos rfl]) (by rw [g0 (by omega)])))
    · skip
      have d79 := of_decide_eq_false b79
      refine j_iconst (v := nI 0) d_Mo_isArithmetic_82 (by decide) ?_
      exact j_zret hκ rfl (by first | exact Or.inl rfl | exact Or.inr rfl) (by omega) (by omega) d_Mo_isArithmetic_83 (RQ.f hI RFr.refl (by omega) (by unfold am_op; rw [if_neg (by decide), if_neg (by decide), if_neg (by decide), if_pos (by decide)]; unfold a_chg; rw [if_pos (an_f (p := 0) (by decide) (Or.inr ⟨by omega, by rw [show dp - 1 - 0 = dp - 1 by omega]; exact d79⟩))]))
  · skip
    have d57 := of_decide_eq_false b57
    refine j_iconst (v := nI 0) d_Mo_isArithmetic_60 (by decide) ?_
    exact j_zret hκ rfl (by first | exact Or.inl rfl | exact Or.inr rfl) (by omega) (by omega) d_Mo_isArithmetic_61 (RQ.f hI RFr.refl (by omega) (by unfold am_op; rw [if_neg (by decide), if_neg (by decide), if_neg (by decide), if_pos (by decide)]; unfold a_chg; rw [if_pos (an_f (p := 0) (by decide) (Or.inl (by omega)))]))

set_option maxHeartbeats 4000000 in
set_option maxRecDepth 100000 in
theorem c_Mo_ar_144 (l : Launch) (E : mp_E) (M : mp_M) (R : Nat → Nat) (rows : Nat) (thr : Int32) (dp as_ ops : Nat) (A : Nat → am_T) (b : List Bool) (hI : RI E M R rows thr dp as_ ops A) (hR : RL R) (hd : dp + as_ ≤ 200) (hk : ops ≤ 1000) : mp_Cr l m_Mo_isArithmetic E M 2 0 0 [.ref (R 0), .int (nI 144)] (RQ E R M rows thr b (am_op 144 (LM A dp) (LO A as_) b ops)) := by
  refine mp_Cr.of (by decide) (Nat.le_of_ble_eq_true rfl) fun Γ κ hl hκ => ?_
  subst hl
  obtain ⟨hκd, hκc, hκs, -⟩ := id hκ
  show mp_J Γ m_Mo_isArithmetic E κ M [(0, .ref (R 0)), (1, .int (nI 144))] 0 [] 0 0
  refine j_iload_n d_Mo_isArithmetic_0 rfl 1 rfl ?_
  refine j_sipush (v := nI 165) d_Mo_isArithmetic_1 (by decide) ?_
  refine j_ncmp_ne 11 144 165 rfl rfl (by omega) (by omega) d_Mo_isArithmetic_4 (by decide) (fun b4 => ?_) (fun b4 => (by first | exact b4.elim | exact absurd b4 (by omega)))
  refine j_iload_n d_Mo_isArithmetic_11 rfl 1 rfl ?_
  refine j_sipush (v := nI 146) d_Mo_isArithmetic_12 (by decide) ?_
  refine j_ncmp_gt 22 144 146 rfl rfl (by omega) (by omega) d_Mo_isArithmetic_15 (by decide) (fun b15 => (by first | exact b15.elim | exact absurd b15 (by omega))) (fun b15 => ?_)
  refine j_iconst (v := nI 1) d_Mo_isArithmetic_18 (by decide) ?_
  refine j_goto (tgt := 23) d_Mo_isArithmetic_19 (by decide) ?_
  refine j_istore_n [(2, .int (nI 1)), (0, .ref (R 0)), (1, .int (nI 144))] d_Mo_isArithmetic_23 rfl (by decide) rfl ?_
  refine j_iload_n d_Mo_isArithmetic_24 rfl 2 rfl ?_
  refine j_sipush (v := nI 141) d_Mo_isArithmetic_25 (by decide) ?_
  refine j_ncmp_eq 60 144 141 rfl rfl (by omega) (by omega) d_Mo_isArithmetic_28 (by decide) (fun b28 => (by first | exact b28.elim | exact absurd b28 (by omega))) (fun b28 => ?_)
  refine j_iload_n d_Mo_isArithmetic_31 rfl 2 rfl ?_
  refine j_sipush (v := nI 142) d_Mo_isArithmetic_32 (by decide) ?_
  refine j_ncmp_eq 60 144 142 rfl rfl (by omega) (by omega) d_Mo_isArithmetic_35 (by decide) (fun b35 => (by first | exact b35.elim | exact absurd b35 (by omega))) (fun b35 => ?_)
  refine j_iload_n d_Mo_isArithmetic_38 rfl 2 rfl ?_
  refine j_sipush (v := nI 149) d_Mo_isArithmetic_39 (by decide) ?_
  refine j_ncmp_lt 52 144 149 rfl rfl (by omega) (by omega) d_Mo_isArithmetic_42 (by decide) (fun b42 => ?_) (fun b42 => (by first | exact b42.elim | exact absurd b42 (by omega)))
  refine j_aload_n d_Mo_isArithmetic_52 rfl 1 rfl ?_
  refine j_iload_n d_Mo_isArithmetic_53 rfl 0 rfl ?_
  refine j_callV (As := [.int (nI 1)]) (rest := []) (c_Mo_has Γ.l E M (R 0) (R 1) rows (R 2) (R 3) (R 4) (R 5) (R 6) (R 7) (R 8) (R 9) dp as_ ops (R 10) thr 1 hI.1 (by omega) (by omega)) Y_Mo_has w_1039 w_1041 ws_35 hI.1 rfl rfl rfl (Nat.le_of_ble_eq_true rfl) (by omega) (by omega) (by omega) d_Mo_isArithmetic_54 (fun v54 N54 p54 => ?_)
  obtain ⟨rfl, q54⟩ := p54
  obtain rfl := q54.symm
  show mp_J Γ m_Mo_isArithmetic E κ M [(2, .int (nI 1)), (0, .ref (R 0)), (1, .int (nI 144))] 57 [.int (tf (decide (1 ≤ dp)))] 0 0
  refine j_tif_ne 62 d_Mo_isArithmetic_57 (by decide) (fun b57 => ?_) (fun b57 => ?_)
  · skip
    have d57 := of_decide_eq_true b57
    refine j_iconst (v := nI 1) d_Mo_isArithmetic_62 (by decide) ?_
    refine j_istore_n [(3, .int (nI 1)), (2, .int (nI 1)), (0, .ref (R 0)), (1, .int (nI 144))] d_Mo_isArithmetic_63 rfl (by decide) rfl ?_
    refine j_iload_n d_Mo_isArithmetic_64 rfl 0 rfl ?_
    refine j_iload_n d_Mo_isArithmetic_65 rfl 1 rfl ?_
    refine j_ncmp_gt 90 1 1 rfl rfl (by omega) (by omega) d_Mo_isArithmetic_66 (by decide) (fun b66 => (by first | exact b66.elim | exact absurd b66 (by omega))) (fun b66 => ?_)
    refine j_aload_n d_Mo_isArithmetic_69 rfl 2 rfl ?_
    refine j_aload_n d_Mo_isArithmetic_70 rfl 2 rfl ?_
    refine j_get F_Mo hI.1 11 (by decide) w_954 (Or.inl rfl) rfl d_Mo_isArithmetic_71 ?_
    refine j_iload_n d_Mo_isArithmetic_74 rfl 0 rfl ?_
    refine j_isub d_Mo_isArithmetic_75 ?_
    refine j_eqi (y := nI (dp - 1)) (pk_sub (by omega)) ?_
    refine j_callV (As := [.int (nI (dp - 1))]) (rest := []) (r_isNumber Γ.l hI (dp - 1) (by omega)) Y_Mo_isNumber w_1043 w_1045 ws_36 hI.1 rfl rfl rfl (Nat.le_of_ble_eq_true rfl) (by omega) (by omega) (by omega) d_Mo_isArithmetic_76 (fun v76 N76 p76 => ?_)
    obtain ⟨rfl, q76⟩ := p76
    obtain rfl := q76.symm
    show mp_J Γ m_Mo_isArithmetic E κ M [(3, .int (nI 1)), (2, .int (nI 1)), (0, .ref (R 0)), (1, .int (nI 144))] 79 [.int (tf (decide ((A (dp - 1)).length ≤ 4)))] 0 0
    refine j_tif_ne 84 d_Mo_isArithmetic_79 (by decide) (fun b79 => ?_) (fun b79 => ?_)
    · skip
      have d79 := of_decide_eq_true b79
      refine j_iinc (v := nI 2) [(3, .int (nI 2)), (2, .int (nI 1)), (0, .ref (R 0)), (1, .int (nI 144))] d_Mo_isArithmetic_84 0 rfl (by decide) (by decide) rfl ?_
      refine j_goto (tgt := 64) d_Mo_isArithmetic_87 (by decide) ?_
      refine j_iload_n d_Mo_isArithmetic_64 rfl 0 rfl ?_
      refine j_iload_n d_Mo_isArithmetic_65 rfl 1 rfl ?_
      refine j_ncmp_gt 90 2 1 rfl rfl (by omega) (by omega) d_Mo_isArithmetic_66 (by decide) (fun b66 => ?_) (fun b66 => (by first | exact b66.elim | exact absurd b66 (by omega)))
      refine j_aload_n d_Mo_isArithmetic_90 rfl 2 rfl ?_
      refine j_aload_n d_Mo_isArithmetic_91 rfl 2 rfl ?_
      refine j_get F_Mo hI.1 11 (by decide) w_954 (Or.inl rfl) rfl d_Mo_isArithmetic_92 ?_
      refine j_iload_n d_Mo_isArithmetic_95 rfl 1 rfl ?_
      refine j_isub d_Mo_isArithmetic_96 ?_
      refine j_eqi (y := nI (dp - 1)) (pk_sub (by omega)) ?_
      refine j_callV (As := [.int (nI (dp - 1))]) (rest := []) (r_numberAt Γ.l hI (dp - 1) (by omega) (by assumption)) Y_Mo_numberAt w_1047 w_1049 ws_37 hI.1 rfl rfl rfl (Nat.le_of_ble_eq_true rfl) (by omega) (by omega) (by omega) d_Mo_isArithmetic_97 (fun v97 N97 p97 => ?_)
      obtain ⟨rfl, q97⟩ := p97
      obtain rfl := q97.symm
      show mp_J Γ m_Mo_isArithmetic E κ M [(3, .int (nI 2)), (2, .int (nI 1)), (0, .ref (R 0)), (1, .int (nI 144))] 100 [.long (am_num (A (dp - 1)))] 0 0
      refine j_lstore_n [(3, .long (am_num (A (dp - 1)))), (2, .int (nI 1)), (0, .ref (R 0)), (1, .int (nI 144))] d_Mo_isArithmetic_100 rfl (by decide) rfl ?_
      refine j_iload_n d_Mo_isArithmetic_101 rfl 1 rfl ?_
      refine j_iconst (v := nI 1) d_Mo_isArithmetic_102 (by decide) ?_
      refine j_ncmp_le 121 1 1 rfl rfl (by omega) (by omega) d_Mo_isArithmetic_103 (by decide) (fun b103 => ?_) (fun b103 => (by first | exact b103.elim | exact absurd b103 (by omega)))
      refine j_lconst (v := 0) d_Mo_isArithmetic_121 (by decide) ?_
      refine j_lstore [(5, .long 0), (3, .long (am_num (A (dp - 1)))), (2, .int (nI 1)), (0, .ref (R 0)), (1, .int (nI 144))] d_Mo_isArithmetic_122 (by decide) rfl ?_
      refine j_iload_n d_Mo_isArithmetic_124 rfl 2 rfl ?_
      refine j_iconst (v := nI 2) d_Mo_isArithmetic_125 (by decide) ?_
      refine j_ncmp_le 142 1 2 rfl rfl (by omega) (by omega) d_Mo_isArithmetic_126 (by decide) (fun b126 => ?_) (fun b126 => (by first | exact b126.elim | exact absurd b126 (by omega)))
      refine j_lconst (v := 0) d_Mo_isArithmetic_142 (by decide) ?_
      refine j_lstore [(7, .long 0), (5, .long 0), (3, .long (am_num (A (dp - 1)))), (2, .int (nI 1)), (0, .ref (R 0)), (1, .int (nI 144))] d_Mo_isArithmetic_143 (by decide) rfl ?_
      have v1 := am_num_lim (x := A (dp - 1)) (by assumption)
      refine j_aload_n d_Mo_isArithmetic_145 rfl 4 rfl ?_
      refine j_dup d_Mo_isArithmetic_146 rfl ?_
      refine j_get F_Mo hI.1 11 (by decide) w_954 (Or.inl rfl) rfl d_Mo_isArithmetic_147 ?_
      refine j_iload_n d_Mo_isArithmetic_150 rfl 3 rfl ?_
      refine j_isub d_Mo_isArithmetic_151 ?_
      refine j_eqi (y := nI (dp - 1)) (pk_sub (by omega)) ?_
      refine j_put F_Mo hI.1 11 (by decide) w_954 (Or.inl rfl) rfl rfl rfl (Nat.le_of_ble_eq_true rfl) d_Mo_isArithmetic_152 ?_
      show mp_J Γ m_Mo_isArithmetic E κ (mp_up M (R 0) (mp_o 7 [.ref (R 1), .int (nI rows), .int thr, .ref (R 2), .ref (R 3), .ref (R 4), .ref (R 5), .ref (R 6), .ref (R 7), .ref (R 8), .ref (R 9), .int (nI (dp - 1)), .int (nI as_), .int (nI ops), .ref (R 10)])) [(7, .long 0), (5, .long 0), (3, .long (am_num (A (dp - 1)))), (2, .int (nI 1)), (0, .ref (R 0)), (1, .int (nI 144))] 155 [] 0 0
      generalize eM1 : mp_up M (R 0) (mp_o 7 [.ref (R 1), .int (nI rows), .int thr, .ref (R 2), .ref (R 3), .ref (R 4), .ref (R 5), .ref (R 6), .ref (R 7), .ref (R 8), .ref (R 9), .int (nI (dp - 1)), .int (nI as_), .int (nI ops), .ref (R 10)]) = M1
      have hM1__R_0_ : M1 (R 0) = some (mp_o 7 [.ref (R 1), .int (nI rows), .int thr, .ref (R 2), .ref (R 3), .ref (R 4), .ref (R 5), .ref (R 6), .ref (R 7), .ref (R 8), .ref (R 9), .int (nI (dp - 1)), .int (nI as_), .int (nI ops), .ref (R 10)]) := by rw [← eM1]; exact mp_s
      have JM1 : RI E M1 R rows thr (dp - 1) as_ ops A := hI.set hR eM1
      have fM1 : RFr R M M1 := RFr.s0 eM1
      refine j_iload_n d_Mo_isArithmetic_155 rfl 5 rfl ?_
      refine j_tableIn 299 d_Mo_isArithmetic_156 (by decide) (by decide) rfl (by decide) ?_
      refine j_lload_n d_Mo_isArithmetic_299 rfl 2 rfl ?_
      refine j_lconst (v := 0) d_Mo_isArithmetic_300 (by decide) ?_
      refine j_lcmp d_Mo_isArithmetic_301 ?_
      refine j_if_ge 310 d_Mo_isArithmetic_302 (by decide) (fun b302 => ?_) (fun b302 => ?_)
      · skip
        refine j_lload_n d_Mo_isArithmetic_310 rfl 2 rfl ?_
        refine j_lstore [(9, .long (am_num (A (dp - 1)))), (7, .long 0), (5, .long 0), (3, .long (am_num (A (dp - 1)))), (2, .int (nI 1)), (0, .ref (R 0)), (1, .int (nI 144))] d_Mo_isArithmetic_311 (by decide) rfl ?_
        refine j_goto (tgt := 584) d_Mo_isArithmetic_313 (by decide) ?_
        refine j_aload_n d_Mo_isArithmetic_584 rfl 5 rfl ?_
        refine j_lload d_Mo_isArithmetic_585 0 rfl ?_
        refine j_callV (As := [.long (am_num (A (dp - 1)))]) (rest := []) (r_pushNumber Γ.l JM1 hR (am_num (A (dp - 1))) (am_mag_lt (by omega)) (by omega)) Y_Mo_pushNumber w_1031 w_1033 ws_33 hM1__R_0_ rfl rfl rfl (Nat.le_of_ble_eq_true rfl) (by omega) (by omega) (by omega) d_Mo_isArithmetic_587 (fun v587 N587 p587 => ?_)
        obtain ⟨rfl, I587, f587⟩ := p587
        show mp_J Γ m_Mo_isArithmetic E κ N587 [(9, .long (am_num (A (dp - 1)))), (7, .long 0), (5, .long 0), (3, .long (am_num (A (dp - 1)))), (2, .int (nI 1)), (0, .ref (R 0)), (1, .int (nI 144))] 590 [] 0 0
        refine j_iconst (v := nI 1) d_Mo_isArithmetic_590 (by decide) ?_
        exact j_zret hκ rfl (by first | exact Or.inl rfl | exact Or.inr rfl) (by omega) (by omega) d_Mo_isArithmetic_591 (RQ.t I587 (fM1.trans f587) (by omega) (by unfold am_op; rw [if_neg (by decide), if_neg (by decide), if_neg (by decide), if_pos (by decide)]; exact ar1 (by omega) (by omega) (show _ = some ((am_of (if 0 < am_num ((LM A dp).getD 0 []) then am_num ((LM A dp).getD 0 []) else -am_num ((LM A dp).getD 0 []))) :: (LM A dp).drop 1, LO A as_, b, ops) from by unfold a_chg; rw [if_neg (fun z => z (an_1 (by omega) (by assumption))), if_neg (by decide), if_neg (by decide), if_neg (by decide), if_pos rfl]) (by rw [g0 (by omega)]; first | rw [mn_3 ((lg_cmp_ge _ _).mp b302)] | rw [mn_4 (fun h => b302 ((lg_cmp_ge _ _).mpr h))])))
      · skip
        refine j_lload_n d_Mo_isArithmetic_305 rfl 2 rfl ?_
        refine j_lneg d_Mo_isArithmetic_306 ?_
        refine j_goto (tgt := 311) d_Mo_isArithmetic_307 (by decide) ?_
        refine j_lstore [(9, .long (-(am_num (A (dp - 1))))), (7, .long 0), (5, .long 0), (3, .long (am_num (A (dp - 1)))), (2, .int (nI 1)), (0, .ref (R 0)), (1, .int (nI 144))] d_Mo_isArithmetic_311 (by decide) rfl ?_
        refine j_goto (tgt := 584) d_Mo_isArithmetic_313 (by decide) ?_
        refine j_aload_n d_Mo_isArithmetic_584 rfl 5 rfl ?_
        refine j_lload d_Mo_isArithmetic_585 0 rfl ?_
        refine j_callV (As := [.long (-(am_num (A (dp - 1))))]) (rest := []) (r_pushNumber Γ.l JM1 hR (-(am_num (A (dp - 1)))) (am_mag_lt (by rw [i6_neg (by omega)]; omega)) (by omega)) Y_Mo_pushNumber w_1031 w_1033 ws_33 hM1__R_0_ rfl rfl rfl (Nat.le_of_ble_eq_true rfl) (by omega) (by omega) (by omega) d_Mo_isArithmetic_587 (fun v587 N587 p587 => ?_)
        obtain ⟨rfl, I587, f587⟩ := p587
        show mp_J Γ m_Mo_isArithmetic E κ N587 [(9, .long (-(am_num (A (dp - 1))))), (7, .long 0), (5, .long 0), (3, .long (am_num (A (dp - 1)))), (2, .int (nI 1)), (0, .ref (R 0)), (1, .int (nI 144))] 590 [] 0 0
        refine j_iconst (v := nI 1) d_Mo_isArithmetic_590 (by decide) ?_
        exact j_zret hκ rfl (by first | exact Or.inl rfl | exact Or.inr rfl) (by omega) (by omega) d_Mo_isArithmetic_591 (RQ.t I587 (fM1.trans f587) (by omega) (by unfold am_op; rw [if_neg (by decide), if_neg (by decide), if_neg (by decide), if_pos (by decide)]; exact ar1 (by omega) (by omega) (show _ = some ((am_of (if 0 < am_num ((LM A dp).getD 0 []) then am_num ((LM A dp).getD 0 []) else -am_num ((LM A dp).getD 0 []))) :: (LM A dp).drop 1, LO A as_, b, ops) from by unfold a_chg; rw [if_neg (fun z => z (an_1 (by omega) (by assumption))), if_neg (by decide), if_neg (by decide), if_neg (by decide), if_pos rfl]) (by rw [g0 (by omega)]; first | rw [mn_3 ((lg_cmp_ge _ _).mp b302)] | rw [mn_4 (fun h => b302 ((lg_cmp_ge _ _).mpr h))])))
    · skip
      have d79 := of_decide_eq_false b79
      refine j_iconst (v := nI 0) d_Mo_isArithmetic_82 (by decide) ?_
      exact j_zret hκ rfl (by first | exact Or.inl rfl | exact Or.inr rfl) (by omega) (by omega) d_Mo_isArithmetic_83 (RQ.f hI RFr.refl (by omega) (by unfold am_op; rw [if_neg (by decide), if_neg (by decide), if_neg (by decide), if_pos (by decide)]; unfold a_chg; rw [if_pos (an_f (p := 0) (by decide) (Or.inr ⟨by omega, by rw [show dp - 1 - 0 = dp - 1 by omega]; exact d79⟩))]))
  · skip
    have d57 := of_decide_eq_false b57
    refine j_iconst (v := nI 0) d_Mo_isArithmetic_60 (by decide) ?_
    exact j_zret hκ rfl (by first | exact Or.inl rfl | exact Or.inr rfl) (by omega) (by omega) d_Mo_isArithmetic_61 (RQ.f hI RFr.refl (by omega) (by unfold am_op; rw [if_neg (by decide), if_neg (by decide), if_neg (by decide), if_pos (by decide)]; unfold a_chg; rw [if_pos (an_f (p := 0) (by decide) (Or.inl (by omega)))]))

set_option maxHeartbeats 4000000 in
set_option maxRecDepth 100000 in
theorem c_Mo_ar_145 (l : Launch) (E : mp_E) (M : mp_M) (R : Nat → Nat) (rows : Nat) (thr : Int32) (dp as_ ops : Nat) (A : Nat → am_T) (b : List Bool) (hI : RI E M R rows thr dp as_ ops A) (hR : RL R) (hd : dp + as_ ≤ 200) (hk : ops ≤ 1000) : mp_Cr l m_Mo_isArithmetic E M 2 0 0 [.ref (R 0), .int (nI 145)] (RQ E R M rows thr b (am_op 145 (LM A dp) (LO A as_) b ops)) := by
  refine mp_Cr.of (by decide) (Nat.le_of_ble_eq_true rfl) fun Γ κ hl hκ => ?_
  subst hl
  obtain ⟨hκd, hκc, hκs, -⟩ := id hκ
  show mp_J Γ m_Mo_isArithmetic E κ M [(0, .ref (R 0)), (1, .int (nI 145))] 0 [] 0 0
  refine j_iload_n d_Mo_isArithmetic_0 rfl 1 rfl ?_
  refine j_sipush (v := nI 165) d_Mo_isArithmetic_1 (by decide) ?_
  refine j_ncmp_ne 11 145 165 rfl rfl (by omega) (by omega) d_Mo_isArithmetic_4 (by decide) (fun b4 => ?_) (fun b4 => (by first | exact b4.elim | exact absurd b4 (by omega)))
  refine j_iload_n d_Mo_isArithmetic_11 rfl 1 rfl ?_
  refine j_sipush (v := nI 146) d_Mo_isArithmetic_12 (by decide) ?_
  refine j_ncmp_gt 22 145 146 rfl rfl (by omega) (by omega) d_Mo_isArithmetic_15 (by decide) (fun b15 => (by first | exact b15.elim | exact absurd b15 (by omega))) (fun b15 => ?_)
  refine j_iconst (v := nI 1) d_Mo_isArithmetic_18 (by decide) ?_
  refine j_goto (tgt := 23) d_Mo_isArithmetic_19 (by decide) ?_
  refine j_istore_n [(2, .int (nI 1)), (0, .ref (R 0)), (1, .int (nI 145))] d_Mo_isArithmetic_23 rfl (by decide) rfl ?_
  refine j_iload_n d_Mo_isArithmetic_24 rfl 2 rfl ?_
  refine j_sipush (v := nI 141) d_Mo_isArithmetic_25 (by decide) ?_
  refine j_ncmp_eq 60 145 141 rfl rfl (by omega) (by omega) d_Mo_isArithmetic_28 (by decide) (fun b28 => (by first | exact b28.elim | exact absurd b28 (by omega))) (fun b28 => ?_)
  refine j_iload_n d_Mo_isArithmetic_31 rfl 2 rfl ?_
  refine j_sipush (v := nI 142) d_Mo_isArithmetic_32 (by decide) ?_
  refine j_ncmp_eq 60 145 142 rfl rfl (by omega) (by omega) d_Mo_isArithmetic_35 (by decide) (fun b35 => (by first | exact b35.elim | exact absurd b35 (by omega))) (fun b35 => ?_)
  refine j_iload_n d_Mo_isArithmetic_38 rfl 2 rfl ?_
  refine j_sipush (v := nI 149) d_Mo_isArithmetic_39 (by decide) ?_
  refine j_ncmp_lt 52 145 149 rfl rfl (by omega) (by omega) d_Mo_isArithmetic_42 (by decide) (fun b42 => ?_) (fun b42 => (by first | exact b42.elim | exact absurd b42 (by omega)))
  refine j_aload_n d_Mo_isArithmetic_52 rfl 1 rfl ?_
  refine j_iload_n d_Mo_isArithmetic_53 rfl 0 rfl ?_
  refine j_callV (As := [.int (nI 1)]) (rest := []) (c_Mo_has Γ.l E M (R 0) (R 1) rows (R 2) (R 3) (R 4) (R 5) (R 6) (R 7) (R 8) (R 9) dp as_ ops (R 10) thr 1 hI.1 (by omega) (by omega)) Y_Mo_has w_1039 w_1041 ws_35 hI.1 rfl rfl rfl (Nat.le_of_ble_eq_true rfl) (by omega) (by omega) (by omega) d_Mo_isArithmetic_54 (fun v54 N54 p54 => ?_)
  obtain ⟨rfl, q54⟩ := p54
  obtain rfl := q54.symm
  show mp_J Γ m_Mo_isArithmetic E κ M [(2, .int (nI 1)), (0, .ref (R 0)), (1, .int (nI 145))] 57 [.int (tf (decide (1 ≤ dp)))] 0 0
  refine j_tif_ne 62 d_Mo_isArithmetic_57 (by decide) (fun b57 => ?_) (fun b57 => ?_)
  · skip
    have d57 := of_decide_eq_true b57
    refine j_iconst (v := nI 1) d_Mo_isArithmetic_62 (by decide) ?_
    refine j_istore_n [(3, .int (nI 1)), (2, .int (nI 1)), (0, .ref (R 0)), (1, .int (nI 145))] d_Mo_isArithmetic_63 rfl (by decide) rfl ?_
    refine j_iload_n d_Mo_isArithmetic_64 rfl 0 rfl ?_
    refine j_iload_n d_Mo_isArithmetic_65 rfl 1 rfl ?_
    refine j_ncmp_gt 90 1 1 rfl rfl (by omega) (by omega) d_Mo_isArithmetic_66 (by decide) (fun b66 => (by first | exact b66.elim | exact absurd b66 (by omega))) (fun b66 => ?_)
    refine j_aload_n d_Mo_isArithmetic_69 rfl 2 rfl ?_
    refine j_aload_n d_Mo_isArithmetic_70 rfl 2 rfl ?_
    refine j_get F_Mo hI.1 11 (by decide) w_954 (Or.inl rfl) rfl d_Mo_isArithmetic_71 ?_
    refine j_iload_n d_Mo_isArithmetic_74 rfl 0 rfl ?_
    refine j_isub d_Mo_isArithmetic_75 ?_
    refine j_eqi (y := nI (dp - 1)) (pk_sub (by omega)) ?_
    refine j_callV (As := [.int (nI (dp - 1))]) (rest := []) (r_isNumber Γ.l hI (dp - 1) (by omega)) Y_Mo_isNumber w_1043 w_1045 ws_36 hI.1 rfl rfl rfl (Nat.le_of_ble_eq_true rfl) (by omega) (by omega) (by omega) d_Mo_isArithmetic_76 (fun v76 N76 p76 => ?_)
    obtain ⟨rfl, q76⟩ := p76
    obtain rfl := q76.symm
    show mp_J Γ m_Mo_isArithmetic E κ M [(3, .int (nI 1)), (2, .int (nI 1)), (0, .ref (R 0)), (1, .int (nI 145))] 79 [.int (tf (decide ((A (dp - 1)).length ≤ 4)))] 0 0
    refine j_tif_ne 84 d_Mo_isArithmetic_79 (by decide) (fun b79 => ?_) (fun b79 => ?_)
    · skip
      have d79 := of_decide_eq_true b79
      refine j_iinc (v := nI 2) [(3, .int (nI 2)), (2, .int (nI 1)), (0, .ref (R 0)), (1, .int (nI 145))] d_Mo_isArithmetic_84 0 rfl (by decide) (by decide) rfl ?_
      refine j_goto (tgt := 64) d_Mo_isArithmetic_87 (by decide) ?_
      refine j_iload_n d_Mo_isArithmetic_64 rfl 0 rfl ?_
      refine j_iload_n d_Mo_isArithmetic_65 rfl 1 rfl ?_
      refine j_ncmp_gt 90 2 1 rfl rfl (by omega) (by omega) d_Mo_isArithmetic_66 (by decide) (fun b66 => ?_) (fun b66 => (by first | exact b66.elim | exact absurd b66 (by omega)))
      refine j_aload_n d_Mo_isArithmetic_90 rfl 2 rfl ?_
      refine j_aload_n d_Mo_isArithmetic_91 rfl 2 rfl ?_
      refine j_get F_Mo hI.1 11 (by decide) w_954 (Or.inl rfl) rfl d_Mo_isArithmetic_92 ?_
      refine j_iload_n d_Mo_isArithmetic_95 rfl 1 rfl ?_
      refine j_isub d_Mo_isArithmetic_96 ?_
      refine j_eqi (y := nI (dp - 1)) (pk_sub (by omega)) ?_
      refine j_callV (As := [.int (nI (dp - 1))]) (rest := []) (r_numberAt Γ.l hI (dp - 1) (by omega) (by assumption)) Y_Mo_numberAt w_1047 w_1049 ws_37 hI.1 rfl rfl rfl (Nat.le_of_ble_eq_true rfl) (by omega) (by omega) (by omega) d_Mo_isArithmetic_97 (fun v97 N97 p97 => ?_)
      obtain ⟨rfl, q97⟩ := p97
      obtain rfl := q97.symm
      show mp_J Γ m_Mo_isArithmetic E κ M [(3, .int (nI 2)), (2, .int (nI 1)), (0, .ref (R 0)), (1, .int (nI 145))] 100 [.long (am_num (A (dp - 1)))] 0 0
      refine j_lstore_n [(3, .long (am_num (A (dp - 1)))), (2, .int (nI 1)), (0, .ref (R 0)), (1, .int (nI 145))] d_Mo_isArithmetic_100 rfl (by decide) rfl ?_
      refine j_iload_n d_Mo_isArithmetic_101 rfl 1 rfl ?_
      refine j_iconst (v := nI 1) d_Mo_isArithmetic_102 (by decide) ?_
      refine j_ncmp_le 121 1 1 rfl rfl (by omega) (by omega) d_Mo_isArithmetic_103 (by decide) (fun b103 => ?_) (fun b103 => (by first | exact b103.elim | exact absurd b103 (by omega)))
      refine j_lconst (v := 0) d_Mo_isArithmetic_121 (by decide) ?_
      refine j_lstore [(5, .long 0), (3, .long (am_num (A (dp - 1)))), (2, .int (nI 1)), (0, .ref (R 0)), (1, .int (nI 145))] d_Mo_isArithmetic_122 (by decide) rfl ?_
      refine j_iload_n d_Mo_isArithmetic_124 rfl 2 rfl ?_
      refine j_iconst (v := nI 2) d_Mo_isArithmetic_125 (by decide) ?_
      refine j_ncmp_le 142 1 2 rfl rfl (by omega) (by omega) d_Mo_isArithmetic_126 (by decide) (fun b126 => ?_) (fun b126 => (by first | exact b126.elim | exact absurd b126 (by omega)))
      refine j_lconst (v := 0) d_Mo_isArithmetic_142 (by decide) ?_
      refine j_lstore [(7, .long 0), (5, .long 0), (3, .long (am_num (A (dp - 1)))), (2, .int (nI 1)), (0, .ref (R 0)), (1, .int (nI 145))] d_Mo_isArithmetic_143 (by decide) rfl ?_
      have v1 := am_num_lim (x := A (dp - 1)) (by assumption)
      refine j_aload_n d_Mo_isArithmetic_145 rfl 4 rfl ?_
      refine j_dup d_Mo_isArithmetic_146 rfl ?_
      refine j_get F_Mo hI.1 11 (by decide) w_954 (Or.inl rfl) rfl d_Mo_isArithmetic_147 ?_
      refine j_iload_n d_Mo_isArithmetic_150 rfl 3 rfl ?_
      refine j_isub d_Mo_isArithmetic_151 ?_
      refine j_eqi (y := nI (dp - 1)) (pk_sub (by omega)) ?_
      refine j_put F_Mo hI.1 11 (by decide) w_954 (Or.inl rfl) rfl rfl rfl (Nat.le_of_ble_eq_true rfl) d_Mo_isArithmetic_152 ?_
      show mp_J Γ m_Mo_isArithmetic E κ (mp_up M (R 0) (mp_o 7 [.ref (R 1), .int (nI rows), .int thr, .ref (R 2), .ref (R 3), .ref (R 4), .ref (R 5), .ref (R 6), .ref (R 7), .ref (R 8), .ref (R 9), .int (nI (dp - 1)), .int (nI as_), .int (nI ops), .ref (R 10)])) [(7, .long 0), (5, .long 0), (3, .long (am_num (A (dp - 1)))), (2, .int (nI 1)), (0, .ref (R 0)), (1, .int (nI 145))] 155 [] 0 0
      generalize eM1 : mp_up M (R 0) (mp_o 7 [.ref (R 1), .int (nI rows), .int thr, .ref (R 2), .ref (R 3), .ref (R 4), .ref (R 5), .ref (R 6), .ref (R 7), .ref (R 8), .ref (R 9), .int (nI (dp - 1)), .int (nI as_), .int (nI ops), .ref (R 10)]) = M1
      have hM1__R_0_ : M1 (R 0) = some (mp_o 7 [.ref (R 1), .int (nI rows), .int thr, .ref (R 2), .ref (R 3), .ref (R 4), .ref (R 5), .ref (R 6), .ref (R 7), .ref (R 8), .ref (R 9), .int (nI (dp - 1)), .int (nI as_), .int (nI ops), .ref (R 10)]) := by rw [← eM1]; exact mp_s
      have JM1 : RI E M1 R rows thr (dp - 1) as_ ops A := hI.set hR eM1
      have fM1 : RFr R M M1 := RFr.s0 eM1
      refine j_iload_n d_Mo_isArithmetic_155 rfl 5 rfl ?_
      refine j_tableIn 316 d_Mo_isArithmetic_156 (by decide) (by decide) rfl (by decide) ?_
      refine j_lload_n d_Mo_isArithmetic_316 rfl 2 rfl ?_
      refine j_lconst (v := 0) d_Mo_isArithmetic_317 (by decide) ?_
      refine j_lcmp d_Mo_isArithmetic_318 ?_
      refine j_if_ne 326 d_Mo_isArithmetic_319 (by decide) (fun b319 => ?_) (fun b319 => ?_)
      · skip
        refine j_lconst (v := 0) d_Mo_isArithmetic_326 (by decide) ?_
        refine j_lstore [(9, .long 0), (7, .long 0), (5, .long 0), (3, .long (am_num (A (dp - 1)))), (2, .int (nI 1)), (0, .ref (R 0)), (1, .int (nI 145))] d_Mo_isArithmetic_327 (by decide) rfl ?_
        refine j_goto (tgt := 584) d_Mo_isArithmetic_329 (by decide) ?_
        refine j_aload_n d_Mo_isArithmetic_584 rfl 5 rfl ?_
        refine j_lload d_Mo_isArithmetic_585 0 rfl ?_
        refine j_callV (As := [.long 0]) (rest := []) (r_pushNumber Γ.l JM1 hR 0 (am_mag_lt (by decide)) (by omega)) Y_Mo_pushNumber w_1031 w_1033 ws_33 hM1__R_0_ rfl rfl rfl (Nat.le_of_ble_eq_true rfl) (by omega) (by omega) (by omega) d_Mo_isArithmetic_587 (fun v587 N587 p587 => ?_)
        obtain ⟨rfl, I587, f587⟩ := p587
        show mp_J Γ m_Mo_isArithmetic E κ N587 [(9, .long 0), (7, .long 0), (5, .long 0), (3, .long (am_num (A (dp - 1)))), (2, .int (nI 1)), (0, .ref (R 0)), (1, .int (nI 145))] 590 [] 0 0
        refine j_iconst (v := nI 1) d_Mo_isArithmetic_590 (by decide) ?_
        exact j_zret hκ rfl (by first | exact Or.inl rfl | exact Or.inr rfl) (by omega) (by omega) d_Mo_isArithmetic_591 (RQ.t I587 (fM1.trans f587) (by omega) (by unfold am_op; rw [if_neg (by decide), if_neg (by decide), if_neg (by decide), if_pos (by decide)]; exact ar1 (by omega) (by omega) (show _ = some ((am_bt (decide (am_num ((LM A dp).getD 0 []) = 0))) :: (LM A dp).drop 1, LO A as_, b, ops) from by unfold a_chg; rw [if_neg (fun z => z (an_1 (by omega) (by assumption))), if_neg (by decide), if_neg (by decide), if_neg (by decide), if_neg (by decide), if_pos rfl]) (by rw [g0 (by omega)]; first | exact am_b0 (fun h => b319 ((lg_cmp_eq _ _).mpr h)))))
      · skip
        refine j_lconst (v := 1) d_Mo_isArithmetic_322 (by decide) ?_
        refine j_goto (tgt := 327) d_Mo_isArithmetic_323 (by decide) ?_
        refine j_lstore [(9, .long 1), (7, .long 0), (5, .long 0), (3, .long (am_num (A (dp - 1)))), (2, .int (nI 1)), (0, .ref (R 0)), (1, .int (nI 145))] d_Mo_isArithmetic_327 (by decide) rfl ?_
        refine j_goto (tgt := 584) d_Mo_isArithmetic_329 (by decide) ?_
        refine j_aload_n d_Mo_isArithmetic_584 rfl 5 rfl ?_
        refine j_lload d_Mo_isArithmetic_585 0 rfl ?_
        refine j_callV (As := [.long 1]) (rest := []) (r_pushNumber Γ.l JM1 hR 1 (am_mag_lt (by decide)) (by omega)) Y_Mo_pushNumber w_1031 w_1033 ws_33 hM1__R_0_ rfl rfl rfl (Nat.le_of_ble_eq_true rfl) (by omega) (by omega) (by omega) d_Mo_isArithmetic_587 (fun v587 N587 p587 => ?_)
        obtain ⟨rfl, I587, f587⟩ := p587
        show mp_J Γ m_Mo_isArithmetic E κ N587 [(9, .long 1), (7, .long 0), (5, .long 0), (3, .long (am_num (A (dp - 1)))), (2, .int (nI 1)), (0, .ref (R 0)), (1, .int (nI 145))] 590 [] 0 0
        refine j_iconst (v := nI 1) d_Mo_isArithmetic_590 (by decide) ?_
        exact j_zret hκ rfl (by first | exact Or.inl rfl | exact Or.inr rfl) (by omega) (by omega) d_Mo_isArithmetic_591 (RQ.t I587 (fM1.trans f587) (by omega) (by unfold am_op; rw [if_neg (by decide), if_neg (by decide), if_neg (by decide), if_pos (by decide)]; exact ar1 (by omega) (by omega) (show _ = some ((am_bt (decide (am_num ((LM A dp).getD 0 []) = 0))) :: (LM A dp).drop 1, LO A as_, b, ops) from by unfold a_chg; rw [if_neg (fun z => z (an_1 (by omega) (by assumption))), if_neg (by decide), if_neg (by decide), if_neg (by decide), if_neg (by decide), if_pos rfl]) (by rw [g0 (by omega)]; first | exact am_b1 ((lg_cmp_eq _ _).mp b319))))
    · skip
      have d79 := of_decide_eq_false b79
      refine j_iconst (v := nI 0) d_Mo_isArithmetic_82 (by decide) ?_
      exact j_zret hκ rfl (by first | exact Or.inl rfl | exact Or.inr rfl) (by omega) (by omega) d_Mo_isArithmetic_83 (RQ.f hI RFr.refl (by omega) (by unfold am_op; rw [if_neg (by decide), if_neg (by decide), if_neg (by decide), if_pos (by decide)]; unfold a_chg; rw [if_pos (an_f (p := 0) (by decide) (Or.inr ⟨by omega, by rw [show dp - 1 - 0 = dp - 1 by omega]; exact d79⟩))]))
  · skip
    have d57 := of_decide_eq_false b57
    refine j_iconst (v := nI 0) d_Mo_isArithmetic_60 (by decide) ?_
    exact j_zret hκ rfl (by first | exact Or.inl rfl | exact Or.inr rfl) (by omega) (by omega) d_Mo_isArithmetic_61 (RQ.f hI RFr.refl (by omega) (by unfold am_op; rw [if_neg (by decide), if_neg (by decide), if_neg (by decide), if_pos (by decide)]; unfold a_chg; rw [if_pos (an_f (p := 0) (by decide) (Or.inl (by omega)))]))

set_option maxHeartbeats 4000000 in
set_option maxRecDepth 100000 in
theorem c_Mo_ar_146 (l : Launch) (E : mp_E) (M : mp_M) (R : Nat → Nat) (rows : Nat) (thr : Int32) (dp as_ ops : Nat) (A : Nat → am_T) (b : List Bool) (hI : RI E M R rows thr dp as_ ops A) (hR : RL R) (hd : dp + as_ ≤ 200) (hk : ops ≤ 1000) : mp_Cr l m_Mo_isArithmetic E M 2 0 0 [.ref (R 0), .int (nI 146)] (RQ E R M rows thr b (am_op 146 (LM A dp) (LO A as_) b ops)) := by
  refine mp_Cr.of (by decide) (Nat.le_of_ble_eq_true rfl) fun Γ κ hl hκ => ?_
  subst hl
  obtain ⟨hκd, hκc, hκs, -⟩ := id hκ
  show mp_J Γ m_Mo_isArithmetic E κ M [(0, .ref (R 0)), (1, .int (nI 146))] 0 [] 0 0
  refine j_iload_n d_Mo_isArithmetic_0 rfl 1 rfl ?_
  refine j_sipush (v := nI 165) d_Mo_isArithmetic_1 (by decide) ?_
  refine j_ncmp_ne 11 146 165 rfl rfl (by omega) (by omega) d_Mo_isArithmetic_4 (by decide) (fun b4 => ?_) (fun b4 => (by first | exact b4.elim | exact absurd b4 (by omega)))
  refine j_iload_n d_Mo_isArithmetic_11 rfl 1 rfl ?_
  refine j_sipush (v := nI 146) d_Mo_isArithmetic_12 (by decide) ?_
  refine j_ncmp_gt 22 146 146 rfl rfl (by omega) (by omega) d_Mo_isArithmetic_15 (by decide) (fun b15 => (by first | exact b15.elim | exact absurd b15 (by omega))) (fun b15 => ?_)
  refine j_iconst (v := nI 1) d_Mo_isArithmetic_18 (by decide) ?_
  refine j_goto (tgt := 23) d_Mo_isArithmetic_19 (by decide) ?_
  refine j_istore_n [(2, .int (nI 1)), (0, .ref (R 0)), (1, .int (nI 146))] d_Mo_isArithmetic_23 rfl (by decide) rfl ?_
  refine j_iload_n d_Mo_isArithmetic_24 rfl 2 rfl ?_
  refine j_sipush (v := nI 141) d_Mo_isArithmetic_25 (by decide) ?_
  refine j_ncmp_eq 60 146 141 rfl rfl (by omega) (by omega) d_Mo_isArithmetic_28 (by decide) (fun b28 => (by first | exact b28.elim | exact absurd b28 (by omega))) (fun b28 => ?_)
  refine j_iload_n d_Mo_isArithmetic_31 rfl 2 rfl ?_
  refine j_sipush (v := nI 142) d_Mo_isArithmetic_32 (by decide) ?_
  refine j_ncmp_eq 60 146 142 rfl rfl (by omega) (by omega) d_Mo_isArithmetic_35 (by decide) (fun b35 => (by first | exact b35.elim | exact absurd b35 (by omega))) (fun b35 => ?_)
  refine j_iload_n d_Mo_isArithmetic_38 rfl 2 rfl ?_
  refine j_sipush (v := nI 149) d_Mo_isArithmetic_39 (by decide) ?_
  refine j_ncmp_lt 52 146 149 rfl rfl (by omega) (by omega) d_Mo_isArithmetic_42 (by decide) (fun b42 => ?_) (fun b42 => (by first | exact b42.elim | exact absurd b42 (by omega)))
  refine j_aload_n d_Mo_isArithmetic_52 rfl 1 rfl ?_
  refine j_iload_n d_Mo_isArithmetic_53 rfl 0 rfl ?_
  refine j_callV (As := [.int (nI 1)]) (rest := []) (c_Mo_has Γ.l E M (R 0) (R 1) rows (R 2) (R 3) (R 4) (R 5) (R 6) (R 7) (R 8) (R 9) dp as_ ops (R 10) thr 1 hI.1 (by omega) (by omega)) Y_Mo_has w_1039 w_1041 ws_35 hI.1 rfl rfl rfl (Nat.le_of_ble_eq_true rfl) (by omega) (by omega) (by omega) d_Mo_isArithmetic_54 (fun v54 N54 p54 => ?_)
  obtain ⟨rfl, q54⟩ := p54
  obtain rfl := q54.symm
  show mp_J Γ m_Mo_isArithmetic E κ M [(2, .int (nI 1)), (0, .ref (R 0)), (1, .int (nI 146))] 57 [.int (tf (decide (1 ≤ dp)))] 0 0
  refine j_tif_ne 62 d_Mo_isArithmetic_57 (by decide) (fun b57 => ?_) (fun b57 => ?_)
  · skip
    have d57 := of_decide_eq_true b57
    refine j_iconst (v := nI 1) d_Mo_isArithmetic_62 (by decide) ?_
    refine j_istore_n [(3, .int (nI 1)), (2, .int (nI 1)), (0, .ref (R 0)), (1, .int (nI 146))] d_Mo_isArithmetic_63 rfl (by decide) rfl ?_
    refine j_iload_n d_Mo_isArithmetic_64 rfl 0 rfl ?_
    refine j_iload_n d_Mo_isArithmetic_65 rfl 1 rfl ?_
    refine j_ncmp_gt 90 1 1 rfl rfl (by omega) (by omega) d_Mo_isArithmetic_66 (by decide) (fun b66 => (by first | exact b66.elim | exact absurd b66 (by omega))) (fun b66 => ?_)
    refine j_aload_n d_Mo_isArithmetic_69 rfl 2 rfl ?_
    refine j_aload_n d_Mo_isArithmetic_70 rfl 2 rfl ?_
    refine j_get F_Mo hI.1 11 (by decide) w_954 (Or.inl rfl) rfl d_Mo_isArithmetic_71 ?_
    refine j_iload_n d_Mo_isArithmetic_74 rfl 0 rfl ?_
    refine j_isub d_Mo_isArithmetic_75 ?_
    refine j_eqi (y := nI (dp - 1)) (pk_sub (by omega)) ?_
    refine j_callV (As := [.int (nI (dp - 1))]) (rest := []) (r_isNumber Γ.l hI (dp - 1) (by omega)) Y_Mo_isNumber w_1043 w_1045 ws_36 hI.1 rfl rfl rfl (Nat.le_of_ble_eq_true rfl) (by omega) (by omega) (by omega) d_Mo_isArithmetic_76 (fun v76 N76 p76 => ?_)
    obtain ⟨rfl, q76⟩ := p76
    obtain rfl := q76.symm
    show mp_J Γ m_Mo_isArithmetic E κ M [(3, .int (nI 1)), (2, .int (nI 1)), (0, .ref (R 0)), (1, .int (nI 146))] 79 [.int (tf (decide ((A (dp - 1)).length ≤ 4)))] 0 0
    refine j_tif_ne 84 d_Mo_isArithmetic_79 (by decide) (fun b79 => ?_) (fun b79 => ?_)
    · skip
      have d79 := of_decide_eq_true b79
      refine j_iinc (v := nI 2) [(3, .int (nI 2)), (2, .int (nI 1)), (0, .ref (R 0)), (1, .int (nI 146))] d_Mo_isArithmetic_84 0 rfl (by decide) (by decide) rfl ?_
      refine j_goto (tgt := 64) d_Mo_isArithmetic_87 (by decide) ?_
      refine j_iload_n d_Mo_isArithmetic_64 rfl 0 rfl ?_
      refine j_iload_n d_Mo_isArithmetic_65 rfl 1 rfl ?_
      refine j_ncmp_gt 90 2 1 rfl rfl (by omega) (by omega) d_Mo_isArithmetic_66 (by decide) (fun b66 => ?_) (fun b66 => (by first | exact b66.elim | exact absurd b66 (by omega)))
      refine j_aload_n d_Mo_isArithmetic_90 rfl 2 rfl ?_
      refine j_aload_n d_Mo_isArithmetic_91 rfl 2 rfl ?_
      refine j_get F_Mo hI.1 11 (by decide) w_954 (Or.inl rfl) rfl d_Mo_isArithmetic_92 ?_
      refine j_iload_n d_Mo_isArithmetic_95 rfl 1 rfl ?_
      refine j_isub d_Mo_isArithmetic_96 ?_
      refine j_eqi (y := nI (dp - 1)) (pk_sub (by omega)) ?_
      refine j_callV (As := [.int (nI (dp - 1))]) (rest := []) (r_numberAt Γ.l hI (dp - 1) (by omega) (by assumption)) Y_Mo_numberAt w_1047 w_1049 ws_37 hI.1 rfl rfl rfl (Nat.le_of_ble_eq_true rfl) (by omega) (by omega) (by omega) d_Mo_isArithmetic_97 (fun v97 N97 p97 => ?_)
      obtain ⟨rfl, q97⟩ := p97
      obtain rfl := q97.symm
      show mp_J Γ m_Mo_isArithmetic E κ M [(3, .int (nI 2)), (2, .int (nI 1)), (0, .ref (R 0)), (1, .int (nI 146))] 100 [.long (am_num (A (dp - 1)))] 0 0
      refine j_lstore_n [(3, .long (am_num (A (dp - 1)))), (2, .int (nI 1)), (0, .ref (R 0)), (1, .int (nI 146))] d_Mo_isArithmetic_100 rfl (by decide) rfl ?_
      refine j_iload_n d_Mo_isArithmetic_101 rfl 1 rfl ?_
      refine j_iconst (v := nI 1) d_Mo_isArithmetic_102 (by decide) ?_
      refine j_ncmp_le 121 1 1 rfl rfl (by omega) (by omega) d_Mo_isArithmetic_103 (by decide) (fun b103 => ?_) (fun b103 => (by first | exact b103.elim | exact absurd b103 (by omega)))
      refine j_lconst (v := 0) d_Mo_isArithmetic_121 (by decide) ?_
      refine j_lstore [(5, .long 0), (3, .long (am_num (A (dp - 1)))), (2, .int (nI 1)), (0, .ref (R 0)), (1, .int (nI 146))] d_Mo_isArithmetic_122 (by decide) rfl ?_
      refine j_iload_n d_Mo_isArithmetic_124 rfl 2 rfl ?_
      refine j_iconst (v := nI 2) d_Mo_isArithmetic_125 (by decide) ?_
      refine j_ncmp_le 142 1 2 rfl rfl (by omega) (by omega) d_Mo_isArithmetic_126 (by decide) (fun b126 => ?_) (fun b126 => (by first | exact b126.elim | exact absurd b126 (by omega)))
      refine j_lconst (v := 0) d_Mo_isArithmetic_142 (by decide) ?_
      refine j_lstore [(7, .long 0), (5, .long 0), (3, .long (am_num (A (dp - 1)))), (2, .int (nI 1)), (0, .ref (R 0)), (1, .int (nI 146))] d_Mo_isArithmetic_143 (by decide) rfl ?_
      have v1 := am_num_lim (x := A (dp - 1)) (by assumption)
      refine j_aload_n d_Mo_isArithmetic_145 rfl 4 rfl ?_
      refine j_dup d_Mo_isArithmetic_146 rfl ?_
      refine j_get F_Mo hI.1 11 (by decide) w_954 (Or.inl rfl) rfl d_Mo_isArithmetic_147 ?_
      refine j_iload_n d_Mo_isArithmetic_150 rfl 3 rfl ?_
      refine j_isub d_Mo_isArithmetic_151 ?_
      refine j_eqi (y := nI (dp - 1)) (pk_sub (by omega)) ?_
      refine j_put F_Mo hI.1 11 (by decide) w_954 (Or.inl rfl) rfl rfl rfl (Nat.le_of_ble_eq_true rfl) d_Mo_isArithmetic_152 ?_
      show mp_J Γ m_Mo_isArithmetic E κ (mp_up M (R 0) (mp_o 7 [.ref (R 1), .int (nI rows), .int thr, .ref (R 2), .ref (R 3), .ref (R 4), .ref (R 5), .ref (R 6), .ref (R 7), .ref (R 8), .ref (R 9), .int (nI (dp - 1)), .int (nI as_), .int (nI ops), .ref (R 10)])) [(7, .long 0), (5, .long 0), (3, .long (am_num (A (dp - 1)))), (2, .int (nI 1)), (0, .ref (R 0)), (1, .int (nI 146))] 155 [] 0 0
      generalize eM1 : mp_up M (R 0) (mp_o 7 [.ref (R 1), .int (nI rows), .int thr, .ref (R 2), .ref (R 3), .ref (R 4), .ref (R 5), .ref (R 6), .ref (R 7), .ref (R 8), .ref (R 9), .int (nI (dp - 1)), .int (nI as_), .int (nI ops), .ref (R 10)]) = M1
      have hM1__R_0_ : M1 (R 0) = some (mp_o 7 [.ref (R 1), .int (nI rows), .int thr, .ref (R 2), .ref (R 3), .ref (R 4), .ref (R 5), .ref (R 6), .ref (R 7), .ref (R 8), .ref (R 9), .int (nI (dp - 1)), .int (nI as_), .int (nI ops), .ref (R 10)]) := by rw [← eM1]; exact mp_s
      have JM1 : RI E M1 R rows thr (dp - 1) as_ ops A := hI.set hR eM1
      have fM1 : RFr R M M1 := RFr.s0 eM1
      refine j_iload_n d_Mo_isArithmetic_155 rfl 5 rfl ?_
      refine j_tableIn 332 d_Mo_isArithmetic_156 (by decide) (by decide) rfl (by decide) ?_
      refine j_lload_n d_Mo_isArithmetic_332 rfl 2 rfl ?_
      refine j_lconst (v := 0) d_Mo_isArithmetic_333 (by decide) ?_
      refine j_lcmp d_Mo_isArithmetic_334 ?_
      refine j_if_ne 342 d_Mo_isArithmetic_335 (by decide) (fun b335 => ?_) (fun b335 => ?_)
      · skip
        refine j_lconst (v := 1) d_Mo_isArithmetic_342 (by decide) ?_
        refine j_lstore [(9, .long 1), (7, .long 0), (5, .long 0), (3, .long (am_num (A (dp - 1)))), (2, .int (nI 1)), (0, .ref (R 0)), (1, .int (nI 146))] d_Mo_isArithmetic_343 (by decide) rfl ?_
        refine j_goto (tgt := 584) d_Mo_isArithmetic_345 (by decide) ?_
        refine j_aload_n d_Mo_isArithmetic_584 rfl 5 rfl ?_
        refine j_lload d_Mo_isArithmetic_585 0 rfl ?_
        refine j_callV (As := [.long 1]) (rest := []) (r_pushNumber Γ.l JM1 hR 1 (am_mag_lt (by decide)) (by omega)) Y_Mo_pushNumber w_1031 w_1033 ws_33 hM1__R_0_ rfl rfl rfl (Nat.le_of_ble_eq_true rfl) (by omega) (by omega) (by omega) d_Mo_isArithmetic_587 (fun v587 N587 p587 => ?_)
        obtain ⟨rfl, I587, f587⟩ := p587
        show mp_J Γ m_Mo_isArithmetic E κ N587 [(9, .long 1), (7, .long 0), (5, .long 0), (3, .long (am_num (A (dp - 1)))), (2, .int (nI 1)), (0, .ref (R 0)), (1, .int (nI 146))] 590 [] 0 0
        refine j_iconst (v := nI 1) d_Mo_isArithmetic_590 (by decide) ?_
        exact j_zret hκ rfl (by first | exact Or.inl rfl | exact Or.inr rfl) (by omega) (by omega) d_Mo_isArithmetic_591 (RQ.t I587 (fM1.trans f587) (by omega) (by unfold am_op; rw [if_neg (by decide), if_neg (by decide), if_neg (by decide), if_pos (by decide)]; exact ar1 (by omega) (by omega) (show _ = some ((am_bt (decide (am_num ((LM A dp).getD 0 []) ≠ 0))) :: (LM A dp).drop 1, LO A as_, b, ops) from by unfold a_chg; rw [if_neg (fun z => z (an_1 (by omega) (by assumption))), if_neg (by decide), if_neg (by decide), if_neg (by decide), if_neg (by decide), if_neg (by decide), if_pos rfl]) (by rw [g0 (by omega)]; first | exact am_b1 (fun h => b335 ((lg_cmp_eq _ _).mpr h)))))
      · skip
        refine j_lconst (v := 0) d_Mo_isArithmetic_338 (by decide) ?_
        refine j_goto (tgt := 343) d_Mo_isArithmetic_339 (by decide) ?_
        refine j_lstore [(9, .long 0), (7, .long 0), (5, .long 0), (3, .long (am_num (A (dp - 1)))), (2, .int (nI 1)), (0, .ref (R 0)), (1, .int (nI 146))] d_Mo_isArithmetic_343 (by decide) rfl ?_
        refine j_goto (tgt := 584) d_Mo_isArithmetic_345 (by decide) ?_
        refine j_aload_n d_Mo_isArithmetic_584 rfl 5 rfl ?_
        refine j_lload d_Mo_isArithmetic_585 0 rfl ?_
        refine j_callV (As := [.long 0]) (rest := []) (r_pushNumber Γ.l JM1 hR 0 (am_mag_lt (by decide)) (by omega)) Y_Mo_pushNumber w_1031 w_1033 ws_33 hM1__R_0_ rfl rfl rfl (Nat.le_of_ble_eq_true rfl) (by omega) (by omega) (by omega) d_Mo_isArithmetic_587 (fun v587 N587 p587 => ?_)
        obtain ⟨rfl, I587, f587⟩ := p587
        show mp_J Γ m_Mo_isArithmetic E κ N587 [(9, .long 0), (7, .long 0), (5, .long 0), (3, .long (am_num (A (dp - 1)))), (2, .int (nI 1)), (0, .ref (R 0)), (1, .int (nI 146))] 590 [] 0 0
        refine j_iconst (v := nI 1) d_Mo_isArithmetic_590 (by decide) ?_
        exact j_zret hκ rfl (by first | exact Or.inl rfl | exact Or.inr rfl) (by omega) (by omega) d_Mo_isArithmetic_591 (RQ.t I587 (fM1.trans f587) (by omega) (by unfold am_op; rw [if_neg (by decide), if_neg (by decide), if_neg (by decide), if_pos (by decide)]; exact ar1 (by omega) (by omega) (show _ = some ((am_bt (decide (am_num ((LM A dp).getD 0 []) ≠ 0))) :: (LM A dp).drop 1, LO A as_, b, ops) from by unfold a_chg; rw [if_neg (fun z => z (an_1 (by omega) (by assumption))), if_neg (by decide), if_neg (by decide), if_neg (by decide), if_neg (by decide), if_neg (by decide), if_pos rfl]) (by rw [g0 (by omega)]; first | exact am_b0 (fun h => h ((lg_cmp_eq _ _).mp b335)))))
    · skip
      have d79 := of_decide_eq_false b79
      refine j_iconst (v := nI 0) d_Mo_isArithmetic_82 (by decide) ?_
      exact j_zret hκ rfl (by first | exact Or.inl rfl | exact Or.inr rfl) (by omega) (by omega) d_Mo_isArithmetic_83 (RQ.f hI RFr.refl (by omega) (by unfold am_op; rw [if_neg (by decide), if_neg (by decide), if_neg (by decide), if_pos (by decide)]; unfold a_chg; rw [if_pos (an_f (p := 0) (by decide) (Or.inr ⟨by omega, by rw [show dp - 1 - 0 = dp - 1 by omega]; exact d79⟩))]))
  · skip
    have d57 := of_decide_eq_false b57
    refine j_iconst (v := nI 0) d_Mo_isArithmetic_60 (by decide) ?_
    exact j_zret hκ rfl (by first | exact Or.inl rfl | exact Or.inr rfl) (by omega) (by omega) d_Mo_isArithmetic_61 (RQ.f hI RFr.refl (by omega) (by unfold am_op; rw [if_neg (by decide), if_neg (by decide), if_neg (by decide), if_pos (by decide)]; unfold a_chg; rw [if_pos (an_f (p := 0) (by decide) (Or.inl (by omega)))]))

set_option maxHeartbeats 4000000 in
set_option maxRecDepth 100000 in
theorem c_Mo_ar_147 (l : Launch) (E : mp_E) (M : mp_M) (R : Nat → Nat) (rows : Nat) (thr : Int32) (dp as_ ops : Nat) (A : Nat → am_T) (b : List Bool) (hI : RI E M R rows thr dp as_ ops A) (hR : RL R) (hd : dp + as_ ≤ 200) (hk : ops ≤ 1000) : mp_Cr l m_Mo_isArithmetic E M 2 0 0 [.ref (R 0), .int (nI 147)] (RQ E R M rows thr b (am_op 147 (LM A dp) (LO A as_) b ops)) := by
  refine mp_Cr.of (by decide) (Nat.le_of_ble_eq_true rfl) fun Γ κ hl hκ => ?_
  subst hl
  obtain ⟨hκd, hκc, hκs, -⟩ := id hκ
  show mp_J Γ m_Mo_isArithmetic E κ M [(0, .ref (R 0)), (1, .int (nI 147))] 0 [] 0 0
  refine j_iload_n d_Mo_isArithmetic_0 rfl 1 rfl ?_
  refine j_sipush (v := nI 165) d_Mo_isArithmetic_1 (by decide) ?_
  refine j_ncmp_ne 11 147 165 rfl rfl (by omega) (by omega) d_Mo_isArithmetic_4 (by decide) (fun b4 => ?_) (fun b4 => (by first | exact b4.elim | exact absurd b4 (by omega)))
  refine j_iload_n d_Mo_isArithmetic_11 rfl 1 rfl ?_
  refine j_sipush (v := nI 146) d_Mo_isArithmetic_12 (by decide) ?_
  refine j_ncmp_gt 22 147 146 rfl rfl (by omega) (by omega) d_Mo_isArithmetic_15 (by decide) (fun b15 => ?_) (fun b15 => (by first | exact b15.elim | exact absurd b15 (by omega)))
  refine j_iconst (v := nI 2) d_Mo_isArithmetic_22 (by decide) ?_
  refine j_istore_n [(2, .int (nI 2)), (0, .ref (R 0)), (1, .int (nI 147))] d_Mo_isArithmetic_23 rfl (by decide) rfl ?_
  refine j_iload_n d_Mo_isArithmetic_24 rfl 2 rfl ?_
  refine j_sipush (v := nI 141) d_Mo_isArithmetic_25 (by decide) ?_
  refine j_ncmp_eq 60 147 141 rfl rfl (by omega) (by omega) d_Mo_isArithmetic_28 (by decide) (fun b28 => (by first | exact b28.elim | exact absurd b28 (by omega))) (fun b28 => ?_)
  refine j_iload_n d_Mo_isArithmetic_31 rfl 2 rfl ?_
  refine j_sipush (v := nI 142) d_Mo_isArithmetic_32 (by decide) ?_
  refine j_ncmp_eq 60 147 142 rfl rfl (by omega) (by omega) d_Mo_isArithmetic_35 (by decide) (fun b35 => (by first | exact b35.elim | exact absurd b35 (by omega))) (fun b35 => ?_)
  refine j_iload_n d_Mo_isArithmetic_38 rfl 2 rfl ?_
  refine j_sipush (v := nI 149) d_Mo_isArithmetic_39 (by decide) ?_
  refine j_ncmp_lt 52 147 149 rfl rfl (by omega) (by omega) d_Mo_isArithmetic_42 (by decide) (fun b42 => ?_) (fun b42 => (by first | exact b42.elim | exact absurd b42 (by omega)))
  refine j_aload_n d_Mo_isArithmetic_52 rfl 1 rfl ?_
  refine j_iload_n d_Mo_isArithmetic_53 rfl 0 rfl ?_
  refine j_callV (As := [.int (nI 2)]) (rest := []) (c_Mo_has Γ.l E M (R 0) (R 1) rows (R 2) (R 3) (R 4) (R 5) (R 6) (R 7) (R 8) (R 9) dp as_ ops (R 10) thr 2 hI.1 (by omega) (by omega)) Y_Mo_has w_1039 w_1041 ws_35 hI.1 rfl rfl rfl (Nat.le_of_ble_eq_true rfl) (by omega) (by omega) (by omega) d_Mo_isArithmetic_54 (fun v54 N54 p54 => ?_)
  obtain ⟨rfl, q54⟩ := p54
  obtain rfl := q54.symm
  show mp_J Γ m_Mo_isArithmetic E κ M [(2, .int (nI 2)), (0, .ref (R 0)), (1, .int (nI 147))] 57 [.int (tf (decide (2 ≤ dp)))] 0 0
  refine j_tif_ne 62 d_Mo_isArithmetic_57 (by decide) (fun b57 => ?_) (fun b57 => ?_)
  · skip
    have d57 := of_decide_eq_true b57
    refine j_iconst (v := nI 1) d_Mo_isArithmetic_62 (by decide) ?_
    refine j_istore_n [(3, .int (nI 1)), (2, .int (nI 2)), (0, .ref (R 0)), (1, .int (nI 147))] d_Mo_isArithmetic_63 rfl (by decide) rfl ?_
    refine j_iload_n d_Mo_isArithmetic_64 rfl 0 rfl ?_
    refine j_iload_n d_Mo_isArithmetic_65 rfl 1 rfl ?_
    refine j_ncmp_gt 90 1 2 rfl rfl (by omega) (by omega) d_Mo_isArithmetic_66 (by decide) (fun b66 => (by first | exact b66.elim | exact absurd b66 (by omega))) (fun b66 => ?_)
    refine j_aload_n d_Mo_isArithmetic_69 rfl 2 rfl ?_
    refine j_aload_n d_Mo_isArithmetic_70 rfl 2 rfl ?_
    refine j_get F_Mo hI.1 11 (by decide) w_954 (Or.inl rfl) rfl d_Mo_isArithmetic_71 ?_
    refine j_iload_n d_Mo_isArithmetic_74 rfl 0 rfl ?_
    refine j_isub d_Mo_isArithmetic_75 ?_
    refine j_eqi (y := nI (dp - 1)) (pk_sub (by omega)) ?_
    refine j_callV (As := [.int (nI (dp - 1))]) (rest := []) (r_isNumber Γ.l hI (dp - 1) (by omega)) Y_Mo_isNumber w_1043 w_1045 ws_36 hI.1 rfl rfl rfl (Nat.le_of_ble_eq_true rfl) (by omega) (by omega) (by omega) d_Mo_isArithmetic_76 (fun v76 N76 p76 => ?_)
    obtain ⟨rfl, q76⟩ := p76
    obtain rfl := q76.symm
    show mp_J Γ m_Mo_isArithmetic E κ M [(3, .int (nI 1)), (2, .int (nI 2)), (0, .ref (R 0)), (1, .int (nI 147))] 79 [.int (tf (decide ((A (dp - 1)).length ≤ 4)))] 0 0
    refine j_tif_ne 84 d_Mo_isArithmetic_79 (by decide) (fun b79 => ?_) (fun b79 => ?_)
    · skip
      have d79 := of_decide_eq_true b79
      refine j_iinc (v := nI 2) [(3, .int (nI 2)), (2, .int (nI 2)), (0, .ref (R 0)), (1, .int (nI 147))] d_Mo_isArithmetic_84 0 rfl (by decide) (by decide) rfl ?_
      refine j_goto (tgt := 64) d_Mo_isArithmetic_87 (by decide) ?_
      refine j_iload_n d_Mo_isArithmetic_64 rfl 0 rfl ?_
      refine j_iload_n d_Mo_isArithmetic_65 rfl 1 rfl ?_
      refine j_ncmp_gt 90 2 2 rfl rfl (by omega) (by omega) d_Mo_isArithmetic_66 (by decide) (fun b66 => (by first | exact b66.elim | exact absurd b66 (by omega))) (fun b66 => ?_)
      refine j_aload_n d_Mo_isArithmetic_69 rfl 2 rfl ?_
      refine j_aload_n d_Mo_isArithmetic_70 rfl 2 rfl ?_
      refine j_get F_Mo hI.1 11 (by decide) w_954 (Or.inl rfl) rfl d_Mo_isArithmetic_71 ?_
      refine j_iload_n d_Mo_isArithmetic_74 rfl 0 rfl ?_
      refine j_isub d_Mo_isArithmetic_75 ?_
      refine j_eqi (y := nI (dp - 2)) (pk_sub (by omega)) ?_
      refine j_callV (As := [.int (nI (dp - 2))]) (rest := []) (r_isNumber Γ.l hI (dp - 2) (by omega)) Y_Mo_isNumber w_1043 w_1045 ws_36 hI.1 rfl rfl rfl (Nat.le_of_ble_eq_true rfl) (by omega) (by omega) (by omega) d_Mo_isArithmetic_76 (fun v76 N76 p76 => ?_)
      obtain ⟨rfl, q76⟩ := p76
      obtain rfl := q76.symm
      show mp_J Γ m_Mo_isArithmetic E κ M [(3, .int (nI 2)), (2, .int (nI 2)), (0, .ref (R 0)), (1, .int (nI 147))] 79 [.int (tf (decide ((A (dp - 2)).length ≤ 4)))] 0 0
      refine j_tif_ne 84 d_Mo_isArithmetic_79 (by decide) (fun b79 => ?_) (fun b79 => ?_)
      · skip
        have d79 := of_decide_eq_true b79
        refine j_iinc (v := nI 3) [(3, .int (nI 3)), (2, .int (nI 2)), (0, .ref (R 0)), (1, .int (nI 147))] d_Mo_isArithmetic_84 0 rfl (by decide) (by decide) rfl ?_
        refine j_goto (tgt := 64) d_Mo_isArithmetic_87 (by decide) ?_
        refine j_iload_n d_Mo_isArithmetic_64 rfl 0 rfl ?_
        refine j_iload_n d_Mo_isArithmetic_65 rfl 1 rfl ?_
        refine j_ncmp_gt 90 3 2 rfl rfl (by omega) (by omega) d_Mo_isArithmetic_66 (by decide) (fun b66 => ?_) (fun b66 => (by first | exact b66.elim | exact absurd b66 (by omega)))
        refine j_aload_n d_Mo_isArithmetic_90 rfl 2 rfl ?_
        refine j_aload_n d_Mo_isArithmetic_91 rfl 2 rfl ?_
        refine j_get F_Mo hI.1 11 (by decide) w_954 (Or.inl rfl) rfl d_Mo_isArithmetic_92 ?_
        refine j_iload_n d_Mo_isArithmetic_95 rfl 1 rfl ?_
        refine j_isub d_Mo_isArithmetic_96 ?_
        refine j_eqi (y := nI (dp - 2)) (pk_sub (by omega)) ?_
        refine j_callV (As := [.int (nI (dp - 2))]) (rest := []) (r_numberAt Γ.l hI (dp - 2) (by omega) (by assumption)) Y_Mo_numberAt w_1047 w_1049 ws_37 hI.1 rfl rfl rfl (Nat.le_of_ble_eq_true rfl) (by omega) (by omega) (by omega) d_Mo_isArithmetic_97 (fun v97 N97 p97 => ?_)
        obtain ⟨rfl, q97⟩ := p97
        obtain rfl := q97.symm
        show mp_J Γ m_Mo_isArithmetic E κ M [(3, .int (nI 3)), (2, .int (nI 2)), (0, .ref (R 0)), (1, .int (nI 147))] 100 [.long (am_num (A (dp - 2)))] 0 0
        refine j_lstore_n [(3, .long (am_num (A (dp - 2)))), (2, .int (nI 2)), (0, .ref (R 0)), (1, .int (nI 147))] d_Mo_isArithmetic_100 rfl (by decide) rfl ?_
        refine j_iload_n d_Mo_isArithmetic_101 rfl 1 rfl ?_
        refine j_iconst (v := nI 1) d_Mo_isArithmetic_102 (by decide) ?_
        refine j_ncmp_le 121 2 1 rfl rfl (by omega) (by omega) d_Mo_isArithmetic_103 (by decide) (fun b103 => (by first | exact b103.elim | exact absurd b103 (by omega))) (fun b103 => ?_)
        refine j_aload_n d_Mo_isArithmetic_106 rfl 2 rfl ?_
        refine j_aload_n d_Mo_isArithmetic_107 rfl 2 rfl ?_
        refine j_get F_Mo hI.1 11 (by decide) w_954 (Or.inl rfl) rfl d_Mo_isArithmetic_108 ?_
        refine j_iload_n d_Mo_isArithmetic_111 rfl 1 rfl ?_
        refine j_isub d_Mo_isArithmetic_112 ?_
        refine j_eqi (y := nI (dp - 2)) (pk_sub (by omega)) ?_
        refine j_iconst (v := nI 1) d_Mo_isArithmetic_113 (by decide) ?_
        refine j_iadd d_Mo_isArithmetic_114 ?_
        refine j_eqi (y := nI ((dp - 2) + 1)) (nI_add (dp - 2) 1) ?_
        refine j_eqi (y := nI (dp - 1)) (by rw [show dp - 2 + 1 = dp - 1 by omega]) ?_
        refine j_callV (As := [.int (nI (dp - 1))]) (rest := []) (r_numberAt Γ.l hI (dp - 1) (by omega) (by assumption)) Y_Mo_numberAt w_1047 w_1049 ws_37 hI.1 rfl rfl rfl (Nat.le_of_ble_eq_true rfl) (by omega) (by omega) (by omega) d_Mo_isArithmetic_115 (fun v115 N115 p115 => ?_)
        obtain ⟨rfl, q115⟩ := p115
        obtain rfl := q115.symm
        show mp_J Γ m_Mo_isArithmetic E κ M [(3, .long (am_num (A (dp - 2)))), (2, .int (nI 2)), (0, .ref (R 0)), (1, .int (nI 147))] 118 [.long (am_num (A (dp - 1)))] 0 0
        refine j_goto (tgt := 122) d_Mo_isArithmetic_118 (by decide) ?_
        refine j_lstore [(5, .long (am_num (A (dp - 1)))), (3, .long (am_num (A (dp - 2)))), (2, .int (nI 2)), (0, .ref (R 0)), (1, .int (nI 147))] d_Mo_isArithmetic_122 (by decide) rfl ?_
        refine j_iload_n d_Mo_isArithmetic_124 rfl 2 rfl ?_
        refine j_iconst (v := nI 2) d_Mo_isArithmetic_125 (by decide) ?_
        refine j_ncmp_le 142 2 2 rfl rfl (by omega) (by omega) d_Mo_isArithmetic_126 (by decide) (fun b126 => ?_) (fun b126 => (by first | exact b126.elim | exact absurd b126 (by omega)))
        refine j_lconst (v := 0) d_Mo_isArithmetic_142 (by decide) ?_
        refine j_lstore [(7, .long 0), (5, .long (am_num (A (dp - 1)))), (3, .long (am_num (A (dp - 2)))), (2, .int (nI 2)), (0, .ref (R 0)), (1, .int (nI 147))] d_Mo_isArithmetic_143 (by decide) rfl ?_
        have v1 := am_num_lim (x := A (dp - 1)) (by assumption)
        have v2 := am_num_lim (x := A (dp - 2)) (by assumption)
        refine j_aload_n d_Mo_isArithmetic_145 rfl 4 rfl ?_
        refine j_dup d_Mo_isArithmetic_146 rfl ?_
        refine j_get F_Mo hI.1 11 (by decide) w_954 (Or.inl rfl) rfl d_Mo_isArithmetic_147 ?_
        refine j_iload_n d_Mo_isArithmetic_150 rfl 3 rfl ?_
        refine j_isub d_Mo_isArithmetic_151 ?_
        refine j_eqi (y := nI (dp - 2)) (pk_sub (by omega)) ?_
        refine j_put F_Mo hI.1 11 (by decide) w_954 (Or.inl rfl) rfl rfl rfl (Nat.le_of_ble_eq_true rfl) d_Mo_isArithmetic_152 ?_
        show mp_J Γ m_Mo_isArithmetic E κ (mp_up M (R 0) (mp_o 7 [.ref (R 1), .int (nI rows), .int thr, .ref (R 2), .ref (R 3), .ref (R 4), .ref (R 5), .ref (R 6), .ref (R 7), .ref (R 8), .ref (R 9), .int (nI (dp - 2)), .int (nI as_), .int (nI ops), .ref (R 10)])) [(7, .long 0), (5, .long (am_num (A (dp - 1)))), (3, .long (am_num (A (dp - 2)))), (2, .int (nI 2)), (0, .ref (R 0)), (1, .int (nI 147))] 155 [] 0 0
        generalize eM1 : mp_up M (R 0) (mp_o 7 [.ref (R 1), .int (nI rows), .int thr, .ref (R 2), .ref (R 3), .ref (R 4), .ref (R 5), .ref (R 6), .ref (R 7), .ref (R 8), .ref (R 9), .int (nI (dp - 2)), .int (nI as_), .int (nI ops), .ref (R 10)]) = M1
        have hM1__R_0_ : M1 (R 0) = some (mp_o 7 [.ref (R 1), .int (nI rows), .int thr, .ref (R 2), .ref (R 3), .ref (R 4), .ref (R 5), .ref (R 6), .ref (R 7), .ref (R 8), .ref (R 9), .int (nI (dp - 2)), .int (nI as_), .int (nI ops), .ref (R 10)]) := by rw [← eM1]; exact mp_s
        have JM1 : RI E M1 R rows thr (dp - 2) as_ ops A := hI.set hR eM1
        have fM1 : RFr R M M1 := RFr.s0 eM1
        refine j_iload_n d_Mo_isArithmetic_155 rfl 5 rfl ?_
        refine j_tableIn 348 d_Mo_isArithmetic_156 (by decide) (by decide) rfl (by decide) ?_
        refine j_lload_n d_Mo_isArithmetic_348 rfl 2 rfl ?_
        refine j_lload d_Mo_isArithmetic_349 1 rfl ?_
        refine j_ladd d_Mo_isArithmetic_351 ?_
        refine j_lstore [(9, .long ((am_num (A (dp - 2))) + (am_num (A (dp - 1))))), (7, .long 0), (5, .long (am_num (A (dp - 1)))), (3, .long (am_num (A (dp - 2)))), (2, .int (nI 2)), (0, .ref (R 0)), (1, .int (nI 147))] d_Mo_isArithmetic_352 (by decide) rfl ?_
        refine j_goto (tgt := 584) d_Mo_isArithmetic_354 (by decide) ?_
        refine j_aload_n d_Mo_isArithmetic_584 rfl 5 rfl ?_
        refine j_lload d_Mo_isArithmetic_585 0 rfl ?_
        refine j_callV (As := [.long ((am_num (A (dp - 2))) + (am_num (A (dp - 1))))]) (rest := []) (r_pushNumber Γ.l JM1 hR ((am_num (A (dp - 2))) + (am_num (A (dp - 1)))) (am_mag_lt (by rw [i6_add (by omega)]; omega)) (by omega)) Y_Mo_pushNumber w_1031 w_1033 ws_33 hM1__R_0_ rfl rfl rfl (Nat.le_of_ble_eq_true rfl) (by omega) (by omega) (by omega) d_Mo_isArithmetic_587 (fun v587 N587 p587 => ?_)
        obtain ⟨rfl, I587, f587⟩ := p587
        show mp_J Γ m_Mo_isArithmetic E κ N587 [(9, .long ((am_num (A (dp - 2))) + (am_num (A (dp - 1))))), (7, .long 0), (5, .long (am_num (A (dp - 1)))), (3, .long (am_num (A (dp - 2)))), (2, .int (nI 2)), (0, .ref (R 0)), (1, .int (nI 147))] 590 [] 0 0
        refine j_iconst (v := nI 1) d_Mo_isArithmetic_590 (by decide) ?_
        exact j_zret hκ rfl (by first | exact Or.inl rfl | exact Or.inr rfl) (by omega) (by omega) d_Mo_isArithmetic_591 (RQ.t I587 (fM1.trans f587) (by omega) (by unfold am_op; rw [if_neg (by decide), if_neg (by decide), if_neg (by decide), if_neg (by decide), if_pos (by decide)]; exact ar2 (by omega) (by omega) (show _ = some ((am_of (am_num ((LM A dp).getD 1 []) + am_num ((LM A dp).getD 0 []))) :: (LM A dp).drop 2, LO A as_, b, ops) from by unfold a_join; rw [if_neg (fun z => z (an_2 (by omega) (by assumption) (by assumption))), if_pos rfl]) (by rw [g0 (by omega), g1 (by omega)])))
      · skip
        have d79 := of_decide_eq_false b79
        refine j_iconst (v := nI 0) d_Mo_isArithmetic_82 (by decide) ?_
        exact j_zret hκ rfl (by first | exact Or.inl rfl | exact Or.inr rfl) (by omega) (by omega) d_Mo_isArithmetic_83 (RQ.f hI RFr.refl (by omega) (by unfold am_op; rw [if_neg (by decide), if_neg (by decide), if_neg (by decide), if_neg (by decide), if_pos (by decide)]; unfold a_join; rw [if_pos (an_f (p := 1) (by decide) (Or.inr ⟨by omega, by rw [show dp - 1 - 1 = dp - 2 by omega]; exact d79⟩))]))
    · skip
      have d79 := of_decide_eq_false b79
      refine j_iconst (v := nI 0) d_Mo_isArithmetic_82 (by decide) ?_
      exact j_zret hκ rfl (by first | exact Or.inl rfl | exact Or.inr rfl) (by omega) (by omega) d_Mo_isArithmetic_83 (RQ.f hI RFr.refl (by omega) (by unfold am_op; rw [if_neg (by decide), if_neg (by decide), if_neg (by decide), if_neg (by decide), if_pos (by decide)]; unfold a_join; rw [if_pos (an_f (p := 0) (by decide) (Or.inr ⟨by omega, by rw [show dp - 1 - 0 = dp - 1 by omega]; exact d79⟩))]))
  · skip
    have d57 := of_decide_eq_false b57
    refine j_iconst (v := nI 0) d_Mo_isArithmetic_60 (by decide) ?_
    exact j_zret hκ rfl (by first | exact Or.inl rfl | exact Or.inr rfl) (by omega) (by omega) d_Mo_isArithmetic_61 (RQ.f hI RFr.refl (by omega) (by unfold am_op; rw [if_neg (by decide), if_neg (by decide), if_neg (by decide), if_neg (by decide), if_pos (by decide)]; unfold a_join; rw [if_pos (an_f (p := 0) (by decide) (Or.inl (by omega)))]))

set_option maxHeartbeats 4000000 in
set_option maxRecDepth 100000 in
theorem c_Mo_ar_148 (l : Launch) (E : mp_E) (M : mp_M) (R : Nat → Nat) (rows : Nat) (thr : Int32) (dp as_ ops : Nat) (A : Nat → am_T) (b : List Bool) (hI : RI E M R rows thr dp as_ ops A) (hR : RL R) (hd : dp + as_ ≤ 200) (hk : ops ≤ 1000) : mp_Cr l m_Mo_isArithmetic E M 2 0 0 [.ref (R 0), .int (nI 148)] (RQ E R M rows thr b (am_op 148 (LM A dp) (LO A as_) b ops)) := by
  refine mp_Cr.of (by decide) (Nat.le_of_ble_eq_true rfl) fun Γ κ hl hκ => ?_
  subst hl
  obtain ⟨hκd, hκc, hκs, -⟩ := id hκ
  show mp_J Γ m_Mo_isArithmetic E κ M [(0, .ref (R 0)), (1, .int (nI 148))] 0 [] 0 0
  refine j_iload_n d_Mo_isArithmetic_0 rfl 1 rfl ?_
  refine j_sipush (v := nI 165) d_Mo_isArithmetic_1 (by decide) ?_
  refine j_ncmp_ne 11 148 165 rfl rfl (by omega) (by omega) d_Mo_isArithmetic_4 (by decide) (fun b4 => ?_) (fun b4 => (by first | exact b4.elim | exact absurd b4 (by omega)))
  refine j_iload_n d_Mo_isArithmetic_11 rfl 1 rfl ?_
  refine j_sipush (v := nI 146) d_Mo_isArithmetic_12 (by decide) ?_
  refine j_ncmp_gt 22 148 146 rfl rfl (by omega) (by omega) d_Mo_isArithmetic_15 (by decide) (fun b15 => ?_) (fun b15 => (by first | exact b15.elim | exact absurd b15 (by omega)))
  refine j_iconst (v := nI 2) d_Mo_isArithmetic_22 (by decide) ?_
  refine j_istore_n [(2, .int (nI 2)), (0, .ref (R 0)), (1, .int (nI 148))] d_Mo_isArithmetic_23 rfl (by decide) rfl ?_
  refine j_iload_n d_Mo_isArithmetic_24 rfl 2 rfl ?_
  refine j_sipush (v := nI 141) d_Mo_isArithmetic_25 (by decide) ?_
  refine j_ncmp_eq 60 148 141 rfl rfl (by omega) (by omega) d_Mo_isArithmetic_28 (by decide) (fun b28 => (by first | exact b28.elim | exact absurd b28 (by omega))) (fun b28 => ?_)
  refine j_iload_n d_Mo_isArithmetic_31 rfl 2 rfl ?_
  refine j_sipush (v := nI 142) d_Mo_isArithmetic_32 (by decide) ?_
  refine j_ncmp_eq 60 148 142 rfl rfl (by omega) (by omega) d_Mo_isArithmetic_35 (by decide) (fun b35 => (by first | exact b35.elim | exact absurd b35 (by omega))) (fun b35 => ?_)
  refine j_iload_n d_Mo_isArithmetic_38 rfl 2 rfl ?_
  refine j_sipush (v := nI 149) d_Mo_isArithmetic_39 (by decide) ?_
  refine j_ncmp_lt 52 148 149 rfl rfl (by omega) (by omega) d_Mo_isArithmetic_42 (by decide) (fun b42 => ?_) (fun b42 => (by first | exact b42.elim | exact absurd b42 (by omega)))
  refine j_aload_n d_Mo_isArithmetic_52 rfl 1 rfl ?_
  refine j_iload_n d_Mo_isArithmetic_53 rfl 0 rfl ?_
  refine j_callV (As := [.int (nI 2)]) (rest := []) (c_Mo_has Γ.l E M (R 0) (R 1) rows (R 2) (R 3) (R 4) (R 5) (R 6) (R 7) (R 8) (R 9) dp as_ ops (R 10) thr 2 hI.1 (by omega) (by omega)) Y_Mo_has w_1039 w_1041 ws_35 hI.1 rfl rfl rfl (Nat.le_of_ble_eq_true rfl) (by omega) (by omega) (by omega) d_Mo_isArithmetic_54 (fun v54 N54 p54 => ?_)
  obtain ⟨rfl, q54⟩ := p54
  obtain rfl := q54.symm
  show mp_J Γ m_Mo_isArithmetic E κ M [(2, .int (nI 2)), (0, .ref (R 0)), (1, .int (nI 148))] 57 [.int (tf (decide (2 ≤ dp)))] 0 0
  refine j_tif_ne 62 d_Mo_isArithmetic_57 (by decide) (fun b57 => ?_) (fun b57 => ?_)
  · skip
    have d57 := of_decide_eq_true b57
    refine j_iconst (v := nI 1) d_Mo_isArithmetic_62 (by decide) ?_
    refine j_istore_n [(3, .int (nI 1)), (2, .int (nI 2)), (0, .ref (R 0)), (1, .int (nI 148))] d_Mo_isArithmetic_63 rfl (by decide) rfl ?_
    refine j_iload_n d_Mo_isArithmetic_64 rfl 0 rfl ?_
    refine j_iload_n d_Mo_isArithmetic_65 rfl 1 rfl ?_
    refine j_ncmp_gt 90 1 2 rfl rfl (by omega) (by omega) d_Mo_isArithmetic_66 (by decide) (fun b66 => (by first | exact b66.elim | exact absurd b66 (by omega))) (fun b66 => ?_)
    refine j_aload_n d_Mo_isArithmetic_69 rfl 2 rfl ?_
    refine j_aload_n d_Mo_isArithmetic_70 rfl 2 rfl ?_
    refine j_get F_Mo hI.1 11 (by decide) w_954 (Or.inl rfl) rfl d_Mo_isArithmetic_71 ?_
    refine j_iload_n d_Mo_isArithmetic_74 rfl 0 rfl ?_
    refine j_isub d_Mo_isArithmetic_75 ?_
    refine j_eqi (y := nI (dp - 1)) (pk_sub (by omega)) ?_
    refine j_callV (As := [.int (nI (dp - 1))]) (rest := []) (r_isNumber Γ.l hI (dp - 1) (by omega)) Y_Mo_isNumber w_1043 w_1045 ws_36 hI.1 rfl rfl rfl (Nat.le_of_ble_eq_true rfl) (by omega) (by omega) (by omega) d_Mo_isArithmetic_76 (fun v76 N76 p76 => ?_)
    obtain ⟨rfl, q76⟩ := p76
    obtain rfl := q76.symm
    show mp_J Γ m_Mo_isArithmetic E κ M [(3, .int (nI 1)), (2, .int (nI 2)), (0, .ref (R 0)), (1, .int (nI 148))] 79 [.int (tf (decide ((A (dp - 1)).length ≤ 4)))] 0 0
    refine j_tif_ne 84 d_Mo_isArithmetic_79 (by decide) (fun b79 => ?_) (fun b79 => ?_)
    · skip
      have d79 := of_decide_eq_true b79
      refine j_iinc (v := nI 2) [(3, .int (nI 2)), (2, .int (nI 2)), (0, .ref (R 0)), (1, .int (nI 148))] d_Mo_isArithmetic_84 0 rfl (by decide) (by decide) rfl ?_
      refine j_goto (tgt := 64) d_Mo_isArithmetic_87 (by decide) ?_
      refine j_iload_n d_Mo_isArithmetic_64 rfl 0 rfl ?_
      refine j_iload_n d_Mo_isArithmetic_65 rfl 1 rfl ?_
      refine j_ncmp_gt 90 2 2 rfl rfl (by omega) (by omega) d_Mo_isArithmetic_66 (by decide) (fun b66 => (by first | exact b66.elim | exact absurd b66 (by omega))) (fun b66 => ?_)
      refine j_aload_n d_Mo_isArithmetic_69 rfl 2 rfl ?_
      refine j_aload_n d_Mo_isArithmetic_70 rfl 2 rfl ?_
      refine j_get F_Mo hI.1 11 (by decide) w_954 (Or.inl rfl) rfl d_Mo_isArithmetic_71 ?_
      refine j_iload_n d_Mo_isArithmetic_74 rfl 0 rfl ?_
      refine j_isub d_Mo_isArithmetic_75 ?_
      refine j_eqi (y := nI (dp - 2)) (pk_sub (by omega)) ?_
      refine j_callV (As := [.int (nI (dp - 2))]) (rest := []) (r_isNumber Γ.l hI (dp - 2) (by omega)) Y_Mo_isNumber w_1043 w_1045 ws_36 hI.1 rfl rfl rfl (Nat.le_of_ble_eq_true rfl) (by omega) (by omega) (by omega) d_Mo_isArithmetic_76 (fun v76 N76 p76 => ?_)
      obtain ⟨rfl, q76⟩ := p76
      obtain rfl := q76.symm
      show mp_J Γ m_Mo_isArithmetic E κ M [(3, .int (nI 2)), (2, .int (nI 2)), (0, .ref (R 0)), (1, .int (nI 148))] 79 [.int (tf (decide ((A (dp - 2)).length ≤ 4)))] 0 0
      refine j_tif_ne 84 d_Mo_isArithmetic_79 (by decide) (fun b79 => ?_) (fun b79 => ?_)
      · skip
        have d79 := of_decide_eq_true b79
        refine j_iinc (v := nI 3) [(3, .int (nI 3)), (2, .int (nI 2)), (0, .ref (R 0)), (1, .int (nI 148))] d_Mo_isArithmetic_84 0 rfl (by decide) (by decide) rfl ?_
        refine j_goto (tgt := 64) d_Mo_isArithmetic_87 (by decide) ?_
        refine j_iload_n d_Mo_isArithmetic_64 rfl 0 rfl ?_
        refine j_iload_n d_Mo_isArithmetic_65 rfl 1 rfl ?_
        refine j_ncmp_gt 90 3 2 rfl rfl (by omega) (by omega) d_Mo_isArithmetic_66 (by decide) (fun b66 => ?_) (fun b66 => (by first | exact b66.elim | exact absurd b66 (by omega)))
        refine j_aload_n d_Mo_isArithmetic_90 rfl 2 rfl ?_
        refine j_aload_n d_Mo_isArithmetic_91 rfl 2 rfl ?_
        refine j_get F_Mo hI.1 11 (by decide) w_954 (Or.inl rfl) rfl d_Mo_isArithmetic_92 ?_
        refine j_iload_n d_Mo_isArithmetic_95 rfl 1 rfl ?_
        refine j_isub d_Mo_isArithmetic_96 ?_
        refine j_eqi (y := nI (dp - 2)) (pk_sub (by omega)) ?_
        refine j_callV (As := [.int (nI (dp - 2))]) (rest := []) (r_numberAt Γ.l hI (dp - 2) (by omega) (by assumption)) Y_Mo_numberAt w_1047 w_1049 ws_37 hI.1 rfl rfl rfl (Nat.le_of_ble_eq_true rfl) (by omega) (by omega) (by omega) d_Mo_isArithmetic_97 (fun v97 N97 p97 => ?_)
        obtain ⟨rfl, q97⟩ := p97
        obtain rfl := q97.symm
        show mp_J Γ m_Mo_isArithmetic E κ M [(3, .int (nI 3)), (2, .int (nI 2)), (0, .ref (R 0)), (1, .int (nI 148))] 100 [.long (am_num (A (dp - 2)))] 0 0
        refine j_lstore_n [(3, .long (am_num (A (dp - 2)))), (2, .int (nI 2)), (0, .ref (R 0)), (1, .int (nI 148))] d_Mo_isArithmetic_100 rfl (by decide) rfl ?_
        refine j_iload_n d_Mo_isArithmetic_101 rfl 1 rfl ?_
        refine j_iconst (v := nI 1) d_Mo_isArithmetic_102 (by decide) ?_
        refine j_ncmp_le 121 2 1 rfl rfl (by omega) (by omega) d_Mo_isArithmetic_103 (by decide) (fun b103 => (by first | exact b103.elim | exact absurd b103 (by omega))) (fun b103 => ?_)
        refine j_aload_n d_Mo_isArithmetic_106 rfl 2 rfl ?_
        refine j_aload_n d_Mo_isArithmetic_107 rfl 2 rfl ?_
        refine j_get F_Mo hI.1 11 (by decide) w_954 (Or.inl rfl) rfl d_Mo_isArithmetic_108 ?_
        refine j_iload_n d_Mo_isArithmetic_111 rfl 1 rfl ?_
        refine j_isub d_Mo_isArithmetic_112 ?_
        refine j_eqi (y := nI (dp - 2)) (pk_sub (by omega)) ?_
        refine j_iconst (v := nI 1) d_Mo_isArithmetic_113 (by decide) ?_
        refine j_iadd d_Mo_isArithmetic_114 ?_
        refine j_eqi (y := nI ((dp - 2) + 1)) (nI_add (dp - 2) 1) ?_
        refine j_eqi (y := nI (dp - 1)) (by rw [show dp - 2 + 1 = dp - 1 by omega]) ?_
        refine j_callV (As := [.int (nI (dp - 1))]) (rest := []) (r_numberAt Γ.l hI (dp - 1) (by omega) (by assumption)) Y_Mo_numberAt w_1047 w_1049 ws_37 hI.1 rfl rfl rfl (Nat.le_of_ble_eq_true rfl) (by omega) (by omega) (by omega) d_Mo_isArithmetic_115 (fun v115 N115 p115 => ?_)
        obtain ⟨rfl, q115⟩ := p115
        obtain rfl := q115.symm
        show mp_J Γ m_Mo_isArithmetic E κ M [(3, .long (am_num (A (dp - 2)))), (2, .int (nI 2)), (0, .ref (R 0)), (1, .int (nI 148))] 118 [.long (am_num (A (dp - 1)))] 0 0
        refine j_goto (tgt := 122) d_Mo_isArithmetic_118 (by decide) ?_
        refine j_lstore [(5, .long (am_num (A (dp - 1)))), (3, .long (am_num (A (dp - 2)))), (2, .int (nI 2)), (0, .ref (R 0)), (1, .int (nI 148))] d_Mo_isArithmetic_122 (by decide) rfl ?_
        refine j_iload_n d_Mo_isArithmetic_124 rfl 2 rfl ?_
        refine j_iconst (v := nI 2) d_Mo_isArithmetic_125 (by decide) ?_
        refine j_ncmp_le 142 2 2 rfl rfl (by omega) (by omega) d_Mo_isArithmetic_126 (by decide) (fun b126 => ?_) (fun b126 => (by first | exact b126.elim | exact absurd b126 (by omega)))
        refine j_lconst (v := 0) d_Mo_isArithmetic_142 (by decide) ?_
        refine j_lstore [(7, .long 0), (5, .long (am_num (A (dp - 1)))), (3, .long (am_num (A (dp - 2)))), (2, .int (nI 2)), (0, .ref (R 0)), (1, .int (nI 148))] d_Mo_isArithmetic_143 (by decide) rfl ?_
        have v1 := am_num_lim (x := A (dp - 1)) (by assumption)
        have v2 := am_num_lim (x := A (dp - 2)) (by assumption)
        refine j_aload_n d_Mo_isArithmetic_145 rfl 4 rfl ?_
        refine j_dup d_Mo_isArithmetic_146 rfl ?_
        refine j_get F_Mo hI.1 11 (by decide) w_954 (Or.inl rfl) rfl d_Mo_isArithmetic_147 ?_
        refine j_iload_n d_Mo_isArithmetic_150 rfl 3 rfl ?_
        refine j_isub d_Mo_isArithmetic_151 ?_
        refine j_eqi (y := nI (dp - 2)) (pk_sub (by omega)) ?_
        refine j_put F_Mo hI.1 11 (by decide) w_954 (Or.inl rfl) rfl rfl rfl (Nat.le_of_ble_eq_true rfl) d_Mo_isArithmetic_152 ?_
        show mp_J Γ m_Mo_isArithmetic E κ (mp_up M (R 0) (mp_o 7 [.ref (R 1), .int (nI rows), .int thr, .ref (R 2), .ref (R 3), .ref (R 4), .ref (R 5), .ref (R 6), .ref (R 7), .ref (R 8), .ref (R 9), .int (nI (dp - 2)), .int (nI as_), .int (nI ops), .ref (R 10)])) [(7, .long 0), (5, .long (am_num (A (dp - 1)))), (3, .long (am_num (A (dp - 2)))), (2, .int (nI 2)), (0, .ref (R 0)), (1, .int (nI 148))] 155 [] 0 0
        generalize eM1 : mp_up M (R 0) (mp_o 7 [.ref (R 1), .int (nI rows), .int thr, .ref (R 2), .ref (R 3), .ref (R 4), .ref (R 5), .ref (R 6), .ref (R 7), .ref (R 8), .ref (R 9), .int (nI (dp - 2)), .int (nI as_), .int (nI ops), .ref (R 10)]) = M1
        have hM1__R_0_ : M1 (R 0) = some (mp_o 7 [.ref (R 1), .int (nI rows), .int thr, .ref (R 2), .ref (R 3), .ref (R 4), .ref (R 5), .ref (R 6), .ref (R 7), .ref (R 8), .ref (R 9), .int (nI (dp - 2)), .int (nI as_), .int (nI ops), .ref (R 10)]) := by rw [← eM1]; exact mp_s
        have JM1 : RI E M1 R rows thr (dp - 2) as_ ops A := hI.set hR eM1
        have fM1 : RFr R M M1 := RFr.s0 eM1
        refine j_iload_n d_Mo_isArithmetic_155 rfl 5 rfl ?_
        refine j_tableIn 357 d_Mo_isArithmetic_156 (by decide) (by decide) rfl (by decide) ?_
        refine j_lload_n d_Mo_isArithmetic_357 rfl 2 rfl ?_
        refine j_lload d_Mo_isArithmetic_358 1 rfl ?_
        refine j_lsub d_Mo_isArithmetic_360 ?_
        refine j_lstore [(9, .long ((am_num (A (dp - 2))) - (am_num (A (dp - 1))))), (7, .long 0), (5, .long (am_num (A (dp - 1)))), (3, .long (am_num (A (dp - 2)))), (2, .int (nI 2)), (0, .ref (R 0)), (1, .int (nI 148))] d_Mo_isArithmetic_361 (by decide) rfl ?_
        refine j_goto (tgt := 584) d_Mo_isArithmetic_363 (by decide) ?_
        refine j_aload_n d_Mo_isArithmetic_584 rfl 5 rfl ?_
        refine j_lload d_Mo_isArithmetic_585 0 rfl ?_
        refine j_callV (As := [.long ((am_num (A (dp - 2))) - (am_num (A (dp - 1))))]) (rest := []) (r_pushNumber Γ.l JM1 hR ((am_num (A (dp - 2))) - (am_num (A (dp - 1)))) (am_mag_lt (by rw [i6_sub (by omega)]; omega)) (by omega)) Y_Mo_pushNumber w_1031 w_1033 ws_33 hM1__R_0_ rfl rfl rfl (Nat.le_of_ble_eq_true rfl) (by omega) (by omega) (by omega) d_Mo_isArithmetic_587 (fun v587 N587 p587 => ?_)
        obtain ⟨rfl, I587, f587⟩ := p587
        show mp_J Γ m_Mo_isArithmetic E κ N587 [(9, .long ((am_num (A (dp - 2))) - (am_num (A (dp - 1))))), (7, .long 0), (5, .long (am_num (A (dp - 1)))), (3, .long (am_num (A (dp - 2)))), (2, .int (nI 2)), (0, .ref (R 0)), (1, .int (nI 148))] 590 [] 0 0
        refine j_iconst (v := nI 1) d_Mo_isArithmetic_590 (by decide) ?_
        exact j_zret hκ rfl (by first | exact Or.inl rfl | exact Or.inr rfl) (by omega) (by omega) d_Mo_isArithmetic_591 (RQ.t I587 (fM1.trans f587) (by omega) (by unfold am_op; rw [if_neg (by decide), if_neg (by decide), if_neg (by decide), if_neg (by decide), if_pos (by decide)]; exact ar2 (by omega) (by omega) (show _ = some ((am_of (am_num ((LM A dp).getD 1 []) - am_num ((LM A dp).getD 0 []))) :: (LM A dp).drop 2, LO A as_, b, ops) from by unfold a_join; rw [if_neg (fun z => z (an_2 (by omega) (by assumption) (by assumption))), if_neg (by decide), if_pos rfl]) (by rw [g0 (by omega), g1 (by omega)])))
      · skip
        have d79 := of_decide_eq_false b79
        refine j_iconst (v := nI 0) d_Mo_isArithmetic_82 (by decide) ?_
        exact j_zret hκ rfl (by first | exact Or.inl rfl | exact Or.inr rfl) (by omega) (by omega) d_Mo_isArithmetic_83 (RQ.f hI RFr.refl (by omega) (by unfold am_op; rw [if_neg (by decide), if_neg (by decide), if_neg (by decide), if_neg (by decide), if_pos (by decide)]; unfold a_join; rw [if_pos (an_f (p := 1) (by decide) (Or.inr ⟨by omega, by rw [show dp - 1 - 1 = dp - 2 by omega]; exact d79⟩))]))
    · skip
      have d79 := of_decide_eq_false b79
      refine j_iconst (v := nI 0) d_Mo_isArithmetic_82 (by decide) ?_
      exact j_zret hκ rfl (by first | exact Or.inl rfl | exact Or.inr rfl) (by omega) (by omega) d_Mo_isArithmetic_83 (RQ.f hI RFr.refl (by omega) (by unfold am_op; rw [if_neg (by decide), if_neg (by decide), if_neg (by decide), if_neg (by decide), if_pos (by decide)]; unfold a_join; rw [if_pos (an_f (p := 0) (by decide) (Or.inr ⟨by omega, by rw [show dp - 1 - 0 = dp - 1 by omega]; exact d79⟩))]))
  · skip
    have d57 := of_decide_eq_false b57
    refine j_iconst (v := nI 0) d_Mo_isArithmetic_60 (by decide) ?_
    exact j_zret hκ rfl (by first | exact Or.inl rfl | exact Or.inr rfl) (by omega) (by omega) d_Mo_isArithmetic_61 (RQ.f hI RFr.refl (by omega) (by unfold am_op; rw [if_neg (by decide), if_neg (by decide), if_neg (by decide), if_neg (by decide), if_pos (by decide)]; unfold a_join; rw [if_pos (an_f (p := 0) (by decide) (Or.inl (by omega)))]))

set_option maxHeartbeats 4000000 in
set_option maxRecDepth 100000 in
theorem c_Mo_ar_149 (l : Launch) (E : mp_E) (M : mp_M) (R : Nat → Nat) (rows : Nat) (thr : Int32) (dp as_ ops : Nat) (A : Nat → am_T) (b : List Bool) (hI : RI E M R rows thr dp as_ ops A) (hR : RL R) (hd : dp + as_ ≤ 200) (hk : ops ≤ 1000) : mp_Cr l m_Mo_isArithmetic E M 2 0 0 [.ref (R 0), .int (nI 149)] (RQ E R M rows thr b (am_op 149 (LM A dp) (LO A as_) b ops)) := by
  refine mp_Cr.of (by decide) (Nat.le_of_ble_eq_true rfl) fun Γ κ hl hκ => ?_
  subst hl
  obtain ⟨hκd, hκc, hκs, -⟩ := id hκ
  show mp_J Γ m_Mo_isArithmetic E κ M [(0, .ref (R 0)), (1, .int (nI 149))] 0 [] 0 0
  refine j_iload_n d_Mo_isArithmetic_0 rfl 1 rfl ?_
  refine j_sipush (v := nI 165) d_Mo_isArithmetic_1 (by decide) ?_
  refine j_ncmp_ne 11 149 165 rfl rfl (by omega) (by omega) d_Mo_isArithmetic_4 (by decide) (fun b4 => ?_) (fun b4 => (by first | exact b4.elim | exact absurd b4 (by omega)))
  refine j_iload_n d_Mo_isArithmetic_11 rfl 1 rfl ?_
  refine j_sipush (v := nI 146) d_Mo_isArithmetic_12 (by decide) ?_
  refine j_ncmp_gt 22 149 146 rfl rfl (by omega) (by omega) d_Mo_isArithmetic_15 (by decide) (fun b15 => ?_) (fun b15 => (by first | exact b15.elim | exact absurd b15 (by omega)))
  refine j_iconst (v := nI 2) d_Mo_isArithmetic_22 (by decide) ?_
  refine j_istore_n [(2, .int (nI 2)), (0, .ref (R 0)), (1, .int (nI 149))] d_Mo_isArithmetic_23 rfl (by decide) rfl ?_
  refine j_iload_n d_Mo_isArithmetic_24 rfl 2 rfl ?_
  refine j_sipush (v := nI 141) d_Mo_isArithmetic_25 (by decide) ?_
  refine j_ncmp_eq 60 149 141 rfl rfl (by omega) (by omega) d_Mo_isArithmetic_28 (by decide) (fun b28 => (by first | exact b28.elim | exact absurd b28 (by omega))) (fun b28 => ?_)
  refine j_iload_n d_Mo_isArithmetic_31 rfl 2 rfl ?_
  refine j_sipush (v := nI 142) d_Mo_isArithmetic_32 (by decide) ?_
  refine j_ncmp_eq 60 149 142 rfl rfl (by omega) (by omega) d_Mo_isArithmetic_35 (by decide) (fun b35 => (by first | exact b35.elim | exact absurd b35 (by omega))) (fun b35 => ?_)
  refine j_iload_n d_Mo_isArithmetic_38 rfl 2 rfl ?_
  refine j_sipush (v := nI 149) d_Mo_isArithmetic_39 (by decide) ?_
  refine j_ncmp_lt 52 149 149 rfl rfl (by omega) (by omega) d_Mo_isArithmetic_42 (by decide) (fun b42 => (by first | exact b42.elim | exact absurd b42 (by omega))) (fun b42 => ?_)
  refine j_iload_n d_Mo_isArithmetic_45 rfl 2 rfl ?_
  refine j_sipush (v := nI 153) d_Mo_isArithmetic_46 (by decide) ?_
  refine j_ncmp_le 60 149 153 rfl rfl (by omega) (by omega) d_Mo_isArithmetic_49 (by decide) (fun b49 => ?_) (fun b49 => (by first | exact b49.elim | exact absurd b49 (by omega)))
  refine j_iconst (v := nI 0) d_Mo_isArithmetic_60 (by decide) ?_
  exact j_zret hκ rfl (by first | exact Or.inl rfl | exact Or.inr rfl) (by omega) (by omega) d_Mo_isArithmetic_61 (RQ.f hI RFr.refl (by omega) (by unfold am_op; rw [if_neg (by decide), if_neg (by decide), if_neg (by decide), if_neg (by decide), if_pos (by decide)]; unfold a_join; by_cases h9 : ¬ am_ns (LM A dp) 2; rw [if_pos h9]; rw [if_neg h9, if_neg (by decide), if_neg (by decide), if_neg (by decide), if_neg (by decide), if_neg (by decide), if_neg (by decide), if_neg (by decide)]))

set_option maxHeartbeats 4000000 in
set_option maxRecDepth 100000 in
theorem c_Mo_ar_150 (l : Launch) (E : mp_E) (M : mp_M) (R : Nat → Nat) (rows : Nat) (thr : Int32) (dp as_ ops : Nat) (A : Nat → am_T) (b : List Bool) (hI : RI E M R rows thr dp as_ ops A) (hR : RL R) (hd : dp + as_ ≤ 200) (hk : ops ≤ 1000) : mp_Cr l m_Mo_isArithmetic E M 2 0 0 [.ref (R 0), .int (nI 150)] (RQ E R M rows thr b (am_op 150 (LM A dp) (LO A as_) b ops)) := by
  refine mp_Cr.of (by decide) (Nat.le_of_ble_eq_true rfl) fun Γ κ hl hκ => ?_
  subst hl
  obtain ⟨hκd, hκc, hκs, -⟩ := id hκ
  show mp_J Γ m_Mo_isArithmetic E κ M [(0, .ref (R 0)), (1, .int (nI 150))] 0 [] 0 0
  refine j_iload_n d_Mo_isArithmetic_0 rfl 1 rfl ?_
  refine j_sipush (v := nI 165) d_Mo_isArithmetic_1 (by decide) ?_
  refine j_ncmp_ne 11 150 165 rfl rfl (by omega) (by omega) d_Mo_isArithmetic_4 (by decide) (fun b4 => ?_) (fun b4 => (by first | exact b4.elim | exact absurd b4 (by omega)))
  refine j_iload_n d_Mo_isArithmetic_11 rfl 1 rfl ?_
  refine j_sipush (v := nI 146) d_Mo_isArithmetic_12 (by decide) ?_
  refine j_ncmp_gt 22 150 146 rfl rfl (by omega) (by omega) d_Mo_isArithmetic_15 (by decide) (fun b15 => ?_) (fun b15 => (by first | exact b15.elim | exact absurd b15 (by omega)))
  refine j_iconst (v := nI 2) d_Mo_isArithmetic_22 (by decide) ?_
  refine j_istore_n [(2, .int (nI 2)), (0, .ref (R 0)), (1, .int (nI 150))] d_Mo_isArithmetic_23 rfl (by decide) rfl ?_
  refine j_iload_n d_Mo_isArithmetic_24 rfl 2 rfl ?_
  refine j_sipush (v := nI 141) d_Mo_isArithmetic_25 (by decide) ?_
  refine j_ncmp_eq 60 150 141 rfl rfl (by omega) (by omega) d_Mo_isArithmetic_28 (by decide) (fun b28 => (by first | exact b28.elim | exact absurd b28 (by omega))) (fun b28 => ?_)
  refine j_iload_n d_Mo_isArithmetic_31 rfl 2 rfl ?_
  refine j_sipush (v := nI 142) d_Mo_isArithmetic_32 (by decide) ?_
  refine j_ncmp_eq 60 150 142 rfl rfl (by omega) (by omega) d_Mo_isArithmetic_35 (by decide) (fun b35 => (by first | exact b35.elim | exact absurd b35 (by omega))) (fun b35 => ?_)
  refine j_iload_n d_Mo_isArithmetic_38 rfl 2 rfl ?_
  refine j_sipush (v := nI 149) d_Mo_isArithmetic_39 (by decide) ?_
  refine j_ncmp_lt 52 150 149 rfl rfl (by omega) (by omega) d_Mo_isArithmetic_42 (by decide) (fun b42 => (by first | exact b42.elim | exact absurd b42 (by omega))) (fun b42 => ?_)
  refine j_iload_n d_Mo_isArithmetic_45 rfl 2 rfl ?_
  refine j_sipush (v := nI 153) d_Mo_isArithmetic_46 (by decide) ?_
  refine j_ncmp_le 60 150 153 rfl rfl (by omega) (by omega) d_Mo_isArithmetic_49 (by decide) (fun b49 => ?_) (fun b49 => (by first | exact b49.elim | exact absurd b49 (by omega)))
  refine j_iconst (v := nI 0) d_Mo_isArithmetic_60 (by decide) ?_
  exact j_zret hκ rfl (by first | exact Or.inl rfl | exact Or.inr rfl) (by omega) (by omega) d_Mo_isArithmetic_61 (RQ.f hI RFr.refl (by omega) (by unfold am_op; rw [if_neg (by decide), if_neg (by decide), if_neg (by decide), if_neg (by decide), if_pos (by decide)]; unfold a_join; by_cases h9 : ¬ am_ns (LM A dp) 2; rw [if_pos h9]; rw [if_neg h9, if_neg (by decide), if_neg (by decide), if_neg (by decide), if_neg (by decide), if_neg (by decide), if_neg (by decide), if_neg (by decide)]))

set_option maxHeartbeats 4000000 in
set_option maxRecDepth 100000 in
theorem c_Mo_ar_151 (l : Launch) (E : mp_E) (M : mp_M) (R : Nat → Nat) (rows : Nat) (thr : Int32) (dp as_ ops : Nat) (A : Nat → am_T) (b : List Bool) (hI : RI E M R rows thr dp as_ ops A) (hR : RL R) (hd : dp + as_ ≤ 200) (hk : ops ≤ 1000) : mp_Cr l m_Mo_isArithmetic E M 2 0 0 [.ref (R 0), .int (nI 151)] (RQ E R M rows thr b (am_op 151 (LM A dp) (LO A as_) b ops)) := by
  refine mp_Cr.of (by decide) (Nat.le_of_ble_eq_true rfl) fun Γ κ hl hκ => ?_
  subst hl
  obtain ⟨hκd, hκc, hκs, -⟩ := id hκ
  show mp_J Γ m_Mo_isArithmetic E κ M [(0, .ref (R 0)), (1, .int (nI 151))] 0 [] 0 0
  refine j_iload_n d_Mo_isArithmetic_0 rfl 1 rfl ?_
  refine j_sipush (v := nI 165) d_Mo_isArithmetic_1 (by decide) ?_
  refine j_ncmp_ne 11 151 165 rfl rfl (by omega) (by omega) d_Mo_isArithmetic_4 (by decide) (fun b4 => ?_) (fun b4 => (by first | exact b4.elim | exact absurd b4 (by omega)))
  refine j_iload_n d_Mo_isArithmetic_11 rfl 1 rfl ?_
  refine j_sipush (v := nI 146) d_Mo_isArithmetic_12 (by decide) ?_
  refine j_ncmp_gt 22 151 146 rfl rfl (by omega) (by omega) d_Mo_isArithmetic_15 (by decide) (fun b15 => ?_) (fun b15 => (by first | exact b15.elim | exact absurd b15 (by omega)))
  refine j_iconst (v := nI 2) d_Mo_isArithmetic_22 (by decide) ?_
  refine j_istore_n [(2, .int (nI 2)), (0, .ref (R 0)), (1, .int (nI 151))] d_Mo_isArithmetic_23 rfl (by decide) rfl ?_
  refine j_iload_n d_Mo_isArithmetic_24 rfl 2 rfl ?_
  refine j_sipush (v := nI 141) d_Mo_isArithmetic_25 (by decide) ?_
  refine j_ncmp_eq 60 151 141 rfl rfl (by omega) (by omega) d_Mo_isArithmetic_28 (by decide) (fun b28 => (by first | exact b28.elim | exact absurd b28 (by omega))) (fun b28 => ?_)
  refine j_iload_n d_Mo_isArithmetic_31 rfl 2 rfl ?_
  refine j_sipush (v := nI 142) d_Mo_isArithmetic_32 (by decide) ?_
  refine j_ncmp_eq 60 151 142 rfl rfl (by omega) (by omega) d_Mo_isArithmetic_35 (by decide) (fun b35 => (by first | exact b35.elim | exact absurd b35 (by omega))) (fun b35 => ?_)
  refine j_iload_n d_Mo_isArithmetic_38 rfl 2 rfl ?_
  refine j_sipush (v := nI 149) d_Mo_isArithmetic_39 (by decide) ?_
  refine j_ncmp_lt 52 151 149 rfl rfl (by omega) (by omega) d_Mo_isArithmetic_42 (by decide) (fun b42 => (by first | exact b42.elim | exact absurd b42 (by omega))) (fun b42 => ?_)
  refine j_iload_n d_Mo_isArithmetic_45 rfl 2 rfl ?_
  refine j_sipush (v := nI 153) d_Mo_isArithmetic_46 (by decide) ?_
  refine j_ncmp_le 60 151 153 rfl rfl (by omega) (by omega) d_Mo_isArithmetic_49 (by decide) (fun b49 => ?_) (fun b49 => (by first | exact b49.elim | exact absurd b49 (by omega)))
  refine j_iconst (v := nI 0) d_Mo_isArithmetic_60 (by decide) ?_
  exact j_zret hκ rfl (by first | exact Or.inl rfl | exact Or.inr rfl) (by omega) (by omega) d_Mo_isArithmetic_61 (RQ.f hI RFr.refl (by omega) (by unfold am_op; rw [if_neg (by decide), if_neg (by decide), if_neg (by decide), if_neg (by decide), if_pos (by decide)]; unfold a_join; by_cases h9 : ¬ am_ns (LM A dp) 2; rw [if_pos h9]; rw [if_neg h9, if_neg (by decide), if_neg (by decide), if_neg (by decide), if_neg (by decide), if_neg (by decide), if_neg (by decide), if_neg (by decide)]))

set_option maxHeartbeats 4000000 in
set_option maxRecDepth 100000 in
theorem c_Mo_ar_152 (l : Launch) (E : mp_E) (M : mp_M) (R : Nat → Nat) (rows : Nat) (thr : Int32) (dp as_ ops : Nat) (A : Nat → am_T) (b : List Bool) (hI : RI E M R rows thr dp as_ ops A) (hR : RL R) (hd : dp + as_ ≤ 200) (hk : ops ≤ 1000) : mp_Cr l m_Mo_isArithmetic E M 2 0 0 [.ref (R 0), .int (nI 152)] (RQ E R M rows thr b (am_op 152 (LM A dp) (LO A as_) b ops)) := by
  refine mp_Cr.of (by decide) (Nat.le_of_ble_eq_true rfl) fun Γ κ hl hκ => ?_
  subst hl
  obtain ⟨hκd, hκc, hκs, -⟩ := id hκ
  show mp_J Γ m_Mo_isArithmetic E κ M [(0, .ref (R 0)), (1, .int (nI 152))] 0 [] 0 0
  refine j_iload_n d_Mo_isArithmetic_0 rfl 1 rfl ?_
  refine j_sipush (v := nI 165) d_Mo_isArithmetic_1 (by decide) ?_
  refine j_ncmp_ne 11 152 165 rfl rfl (by omega) (by omega) d_Mo_isArithmetic_4 (by decide) (fun b4 => ?_) (fun b4 => (by first | exact b4.elim | exact absurd b4 (by omega)))
  refine j_iload_n d_Mo_isArithmetic_11 rfl 1 rfl ?_
  refine j_sipush (v := nI 146) d_Mo_isArithmetic_12 (by decide) ?_
  refine j_ncmp_gt 22 152 146 rfl rfl (by omega) (by omega) d_Mo_isArithmetic_15 (by decide) (fun b15 => ?_) (fun b15 => (by first | exact b15.elim | exact absurd b15 (by omega)))
  refine j_iconst (v := nI 2) d_Mo_isArithmetic_22 (by decide) ?_
  refine j_istore_n [(2, .int (nI 2)), (0, .ref (R 0)), (1, .int (nI 152))] d_Mo_isArithmetic_23 rfl (by decide) rfl ?_
  refine j_iload_n d_Mo_isArithmetic_24 rfl 2 rfl ?_
  refine j_sipush (v := nI 141) d_Mo_isArithmetic_25 (by decide) ?_
  refine j_ncmp_eq 60 152 141 rfl rfl (by omega) (by omega) d_Mo_isArithmetic_28 (by decide) (fun b28 => (by first | exact b28.elim | exact absurd b28 (by omega))) (fun b28 => ?_)
  refine j_iload_n d_Mo_isArithmetic_31 rfl 2 rfl ?_
  refine j_sipush (v := nI 142) d_Mo_isArithmetic_32 (by decide) ?_
  refine j_ncmp_eq 60 152 142 rfl rfl (by omega) (by omega) d_Mo_isArithmetic_35 (by decide) (fun b35 => (by first | exact b35.elim | exact absurd b35 (by omega))) (fun b35 => ?_)
  refine j_iload_n d_Mo_isArithmetic_38 rfl 2 rfl ?_
  refine j_sipush (v := nI 149) d_Mo_isArithmetic_39 (by decide) ?_
  refine j_ncmp_lt 52 152 149 rfl rfl (by omega) (by omega) d_Mo_isArithmetic_42 (by decide) (fun b42 => (by first | exact b42.elim | exact absurd b42 (by omega))) (fun b42 => ?_)
  refine j_iload_n d_Mo_isArithmetic_45 rfl 2 rfl ?_
  refine j_sipush (v := nI 153) d_Mo_isArithmetic_46 (by decide) ?_
  refine j_ncmp_le 60 152 153 rfl rfl (by omega) (by omega) d_Mo_isArithmetic_49 (by decide) (fun b49 => ?_) (fun b49 => (by first | exact b49.elim | exact absurd b49 (by omega)))
  refine j_iconst (v := nI 0) d_Mo_isArithmetic_60 (by decide) ?_
  exact j_zret hκ rfl (by first | exact Or.inl rfl | exact Or.inr rfl) (by omega) (by omega) d_Mo_isArithmetic_61 (RQ.f hI RFr.refl (by omega) (by unfold am_op; rw [if_neg (by decide), if_neg (by decide), if_neg (by decide), if_neg (by decide), if_pos (by decide)]; unfold a_join; by_cases h9 : ¬ am_ns (LM A dp) 2; rw [if_pos h9]; rw [if_neg h9, if_neg (by decide), if_neg (by decide), if_neg (by decide), if_neg (by decide), if_neg (by decide), if_neg (by decide), if_neg (by decide)]))

set_option maxHeartbeats 4000000 in
set_option maxRecDepth 100000 in
theorem c_Mo_ar_153 (l : Launch) (E : mp_E) (M : mp_M) (R : Nat → Nat) (rows : Nat) (thr : Int32) (dp as_ ops : Nat) (A : Nat → am_T) (b : List Bool) (hI : RI E M R rows thr dp as_ ops A) (hR : RL R) (hd : dp + as_ ≤ 200) (hk : ops ≤ 1000) : mp_Cr l m_Mo_isArithmetic E M 2 0 0 [.ref (R 0), .int (nI 153)] (RQ E R M rows thr b (am_op 153 (LM A dp) (LO A as_) b ops)) := by
  refine mp_Cr.of (by decide) (Nat.le_of_ble_eq_true rfl) fun Γ κ hl hκ => ?_
  subst hl
  obtain ⟨hκd, hκc, hκs, -⟩ := id hκ
  show mp_J Γ m_Mo_isArithmetic E κ M [(0, .ref (R 0)), (1, .int (nI 153))] 0 [] 0 0
  refine j_iload_n d_Mo_isArithmetic_0 rfl 1 rfl ?_
  refine j_sipush (v := nI 165) d_Mo_isArithmetic_1 (by decide) ?_
  refine j_ncmp_ne 11 153 165 rfl rfl (by omega) (by omega) d_Mo_isArithmetic_4 (by decide) (fun b4 => ?_) (fun b4 => (by first | exact b4.elim | exact absurd b4 (by omega)))
  refine j_iload_n d_Mo_isArithmetic_11 rfl 1 rfl ?_
  refine j_sipush (v := nI 146) d_Mo_isArithmetic_12 (by decide) ?_
  refine j_ncmp_gt 22 153 146 rfl rfl (by omega) (by omega) d_Mo_isArithmetic_15 (by decide) (fun b15 => ?_) (fun b15 => (by first | exact b15.elim | exact absurd b15 (by omega)))
  refine j_iconst (v := nI 2) d_Mo_isArithmetic_22 (by decide) ?_
  refine j_istore_n [(2, .int (nI 2)), (0, .ref (R 0)), (1, .int (nI 153))] d_Mo_isArithmetic_23 rfl (by decide) rfl ?_
  refine j_iload_n d_Mo_isArithmetic_24 rfl 2 rfl ?_
  refine j_sipush (v := nI 141) d_Mo_isArithmetic_25 (by decide) ?_
  refine j_ncmp_eq 60 153 141 rfl rfl (by omega) (by omega) d_Mo_isArithmetic_28 (by decide) (fun b28 => (by first | exact b28.elim | exact absurd b28 (by omega))) (fun b28 => ?_)
  refine j_iload_n d_Mo_isArithmetic_31 rfl 2 rfl ?_
  refine j_sipush (v := nI 142) d_Mo_isArithmetic_32 (by decide) ?_
  refine j_ncmp_eq 60 153 142 rfl rfl (by omega) (by omega) d_Mo_isArithmetic_35 (by decide) (fun b35 => (by first | exact b35.elim | exact absurd b35 (by omega))) (fun b35 => ?_)
  refine j_iload_n d_Mo_isArithmetic_38 rfl 2 rfl ?_
  refine j_sipush (v := nI 149) d_Mo_isArithmetic_39 (by decide) ?_
  refine j_ncmp_lt 52 153 149 rfl rfl (by omega) (by omega) d_Mo_isArithmetic_42 (by decide) (fun b42 => (by first | exact b42.elim | exact absurd b42 (by omega))) (fun b42 => ?_)
  refine j_iload_n d_Mo_isArithmetic_45 rfl 2 rfl ?_
  refine j_sipush (v := nI 153) d_Mo_isArithmetic_46 (by decide) ?_
  refine j_ncmp_le 60 153 153 rfl rfl (by omega) (by omega) d_Mo_isArithmetic_49 (by decide) (fun b49 => ?_) (fun b49 => (by first | exact b49.elim | exact absurd b49 (by omega)))
  refine j_iconst (v := nI 0) d_Mo_isArithmetic_60 (by decide) ?_
  exact j_zret hκ rfl (by first | exact Or.inl rfl | exact Or.inr rfl) (by omega) (by omega) d_Mo_isArithmetic_61 (RQ.f hI RFr.refl (by omega) (by unfold am_op; rw [if_neg (by decide), if_neg (by decide), if_neg (by decide), if_neg (by decide), if_pos (by decide)]; unfold a_join; by_cases h9 : ¬ am_ns (LM A dp) 2; rw [if_pos h9]; rw [if_neg h9, if_neg (by decide), if_neg (by decide), if_neg (by decide), if_neg (by decide), if_neg (by decide), if_neg (by decide), if_neg (by decide)]))

set_option maxHeartbeats 4000000 in
set_option maxRecDepth 100000 in
theorem c_Mo_ar_154 (l : Launch) (E : mp_E) (M : mp_M) (R : Nat → Nat) (rows : Nat) (thr : Int32) (dp as_ ops : Nat) (A : Nat → am_T) (b : List Bool) (hI : RI E M R rows thr dp as_ ops A) (hR : RL R) (hd : dp + as_ ≤ 200) (hk : ops ≤ 1000) : mp_Cr l m_Mo_isArithmetic E M 2 0 0 [.ref (R 0), .int (nI 154)] (RQ E R M rows thr b (am_op 154 (LM A dp) (LO A as_) b ops)) := by
  refine mp_Cr.of (by decide) (Nat.le_of_ble_eq_true rfl) fun Γ κ hl hκ => ?_
  subst hl
  obtain ⟨hκd, hκc, hκs, -⟩ := id hκ
  show mp_J Γ m_Mo_isArithmetic E κ M [(0, .ref (R 0)), (1, .int (nI 154))] 0 [] 0 0
  refine j_iload_n d_Mo_isArithmetic_0 rfl 1 rfl ?_
  refine j_sipush (v := nI 165) d_Mo_isArithmetic_1 (by decide) ?_
  refine j_ncmp_ne 11 154 165 rfl rfl (by omega) (by omega) d_Mo_isArithmetic_4 (by decide) (fun b4 => ?_) (fun b4 => (by first | exact b4.elim | exact absurd b4 (by omega)))
  refine j_iload_n d_Mo_isArithmetic_11 rfl 1 rfl ?_
  refine j_sipush (v := nI 146) d_Mo_isArithmetic_12 (by decide) ?_
  refine j_ncmp_gt 22 154 146 rfl rfl (by omega) (by omega) d_Mo_isArithmetic_15 (by decide) (fun b15 => ?_) (fun b15 => (by first | exact b15.elim | exact absurd b15 (by omega)))
  refine j_iconst (v := nI 2) d_Mo_isArithmetic_22 (by decide) ?_
  refine j_istore_n [(2, .int (nI 2)), (0, .ref (R 0)), (1, .int (nI 154))] d_Mo_isArithmetic_23 rfl (by decide) rfl ?_
  refine j_iload_n d_Mo_isArithmetic_24 rfl 2 rfl ?_
  refine j_sipush (v := nI 141) d_Mo_isArithmetic_25 (by decide) ?_
  refine j_ncmp_eq 60 154 141 rfl rfl (by omega) (by omega) d_Mo_isArithmetic_28 (by decide) (fun b28 => (by first | exact b28.elim | exact absurd b28 (by omega))) (fun b28 => ?_)
  refine j_iload_n d_Mo_isArithmetic_31 rfl 2 rfl ?_
  refine j_sipush (v := nI 142) d_Mo_isArithmetic_32 (by decide) ?_
  refine j_ncmp_eq 60 154 142 rfl rfl (by omega) (by omega) d_Mo_isArithmetic_35 (by decide) (fun b35 => (by first | exact b35.elim | exact absurd b35 (by omega))) (fun b35 => ?_)
  refine j_iload_n d_Mo_isArithmetic_38 rfl 2 rfl ?_
  refine j_sipush (v := nI 149) d_Mo_isArithmetic_39 (by decide) ?_
  refine j_ncmp_lt 52 154 149 rfl rfl (by omega) (by omega) d_Mo_isArithmetic_42 (by decide) (fun b42 => (by first | exact b42.elim | exact absurd b42 (by omega))) (fun b42 => ?_)
  refine j_iload_n d_Mo_isArithmetic_45 rfl 2 rfl ?_
  refine j_sipush (v := nI 153) d_Mo_isArithmetic_46 (by decide) ?_
  refine j_ncmp_le 60 154 153 rfl rfl (by omega) (by omega) d_Mo_isArithmetic_49 (by decide) (fun b49 => (by first | exact b49.elim | exact absurd b49 (by omega))) (fun b49 => ?_)
  refine j_aload_n d_Mo_isArithmetic_52 rfl 1 rfl ?_
  refine j_iload_n d_Mo_isArithmetic_53 rfl 0 rfl ?_
  refine j_callV (As := [.int (nI 2)]) (rest := []) (c_Mo_has Γ.l E M (R 0) (R 1) rows (R 2) (R 3) (R 4) (R 5) (R 6) (R 7) (R 8) (R 9) dp as_ ops (R 10) thr 2 hI.1 (by omega) (by omega)) Y_Mo_has w_1039 w_1041 ws_35 hI.1 rfl rfl rfl (Nat.le_of_ble_eq_true rfl) (by omega) (by omega) (by omega) d_Mo_isArithmetic_54 (fun v54 N54 p54 => ?_)
  obtain ⟨rfl, q54⟩ := p54
  obtain rfl := q54.symm
  show mp_J Γ m_Mo_isArithmetic E κ M [(2, .int (nI 2)), (0, .ref (R 0)), (1, .int (nI 154))] 57 [.int (tf (decide (2 ≤ dp)))] 0 0
  refine j_tif_ne 62 d_Mo_isArithmetic_57 (by decide) (fun b57 => ?_) (fun b57 => ?_)
  · skip
    have d57 := of_decide_eq_true b57
    refine j_iconst (v := nI 1) d_Mo_isArithmetic_62 (by decide) ?_
    refine j_istore_n [(3, .int (nI 1)), (2, .int (nI 2)), (0, .ref (R 0)), (1, .int (nI 154))] d_Mo_isArithmetic_63 rfl (by decide) rfl ?_
    refine j_iload_n d_Mo_isArithmetic_64 rfl 0 rfl ?_
    refine j_iload_n d_Mo_isArithmetic_65 rfl 1 rfl ?_
    refine j_ncmp_gt 90 1 2 rfl rfl (by omega) (by omega) d_Mo_isArithmetic_66 (by decide) (fun b66 => (by first | exact b66.elim | exact absurd b66 (by omega))) (fun b66 => ?_)
    refine j_aload_n d_Mo_isArithmetic_69 rfl 2 rfl ?_
    refine j_aload_n d_Mo_isArithmetic_70 rfl 2 rfl ?_
    refine j_get F_Mo hI.1 11 (by decide) w_954 (Or.inl rfl) rfl d_Mo_isArithmetic_71 ?_
    refine j_iload_n d_Mo_isArithmetic_74 rfl 0 rfl ?_
    refine j_isub d_Mo_isArithmetic_75 ?_
    refine j_eqi (y := nI (dp - 1)) (pk_sub (by omega)) ?_
    refine j_callV (As := [.int (nI (dp - 1))]) (rest := []) (r_isNumber Γ.l hI (dp - 1) (by omega)) Y_Mo_isNumber w_1043 w_1045 ws_36 hI.1 rfl rfl rfl (Nat.le_of_ble_eq_true rfl) (by omega) (by omega) (by omega) d_Mo_isArithmetic_76 (fun v76 N76 p76 => ?_)
    obtain ⟨rfl, q76⟩ := p76
    obtain rfl := q76.symm
    show mp_J Γ m_Mo_isArithmetic E κ M [(3, .int (nI 1)), (2, .int (nI 2)), (0, .ref (R 0)), (1, .int (nI 154))] 79 [.int (tf (decide ((A (dp - 1)).length ≤ 4)))] 0 0
    refine j_tif_ne 84 d_Mo_isArithmetic_79 (by decide) (fun b79 => ?_) (fun b79 => ?_)
    · skip
      have d79 := of_decide_eq_true b79
      refine j_iinc (v := nI 2) [(3, .int (nI 2)), (2, .int (nI 2)), (0, .ref (R 0)), (1, .int (nI 154))] d_Mo_isArithmetic_84 0 rfl (by decide) (by decide) rfl ?_
      refine j_goto (tgt := 64) d_Mo_isArithmetic_87 (by decide) ?_
      refine j_iload_n d_Mo_isArithmetic_64 rfl 0 rfl ?_
      refine j_iload_n d_Mo_isArithmetic_65 rfl 1 rfl ?_
      refine j_ncmp_gt 90 2 2 rfl rfl (by omega) (by omega) d_Mo_isArithmetic_66 (by decide) (fun b66 => (by first | exact b66.elim | exact absurd b66 (by omega))) (fun b66 => ?_)
      refine j_aload_n d_Mo_isArithmetic_69 rfl 2 rfl ?_
      refine j_aload_n d_Mo_isArithmetic_70 rfl 2 rfl ?_
      refine j_get F_Mo hI.1 11 (by decide) w_954 (Or.inl rfl) rfl d_Mo_isArithmetic_71 ?_
      refine j_iload_n d_Mo_isArithmetic_74 rfl 0 rfl ?_
      refine j_isub d_Mo_isArithmetic_75 ?_
      refine j_eqi (y := nI (dp - 2)) (pk_sub (by omega)) ?_
      refine j_callV (As := [.int (nI (dp - 2))]) (rest := []) (r_isNumber Γ.l hI (dp - 2) (by omega)) Y_Mo_isNumber w_1043 w_1045 ws_36 hI.1 rfl rfl rfl (Nat.le_of_ble_eq_true rfl) (by omega) (by omega) (by omega) d_Mo_isArithmetic_76 (fun v76 N76 p76 => ?_)
      obtain ⟨rfl, q76⟩ := p76
      obtain rfl := q76.symm
      show mp_J Γ m_Mo_isArithmetic E κ M [(3, .int (nI 2)), (2, .int (nI 2)), (0, .ref (R 0)), (1, .int (nI 154))] 79 [.int (tf (decide ((A (dp - 2)).length ≤ 4)))] 0 0
      refine j_tif_ne 84 d_Mo_isArithmetic_79 (by decide) (fun b79 => ?_) (fun b79 => ?_)
      · skip
        have d79 := of_decide_eq_true b79
        refine j_iinc (v := nI 3) [(3, .int (nI 3)), (2, .int (nI 2)), (0, .ref (R 0)), (1, .int (nI 154))] d_Mo_isArithmetic_84 0 rfl (by decide) (by decide) rfl ?_
        refine j_goto (tgt := 64) d_Mo_isArithmetic_87 (by decide) ?_
        refine j_iload_n d_Mo_isArithmetic_64 rfl 0 rfl ?_
        refine j_iload_n d_Mo_isArithmetic_65 rfl 1 rfl ?_
        refine j_ncmp_gt 90 3 2 rfl rfl (by omega) (by omega) d_Mo_isArithmetic_66 (by decide) (fun b66 => ?_) (fun b66 => (by first | exact b66.elim | exact absurd b66 (by omega)))
        refine j_aload_n d_Mo_isArithmetic_90 rfl 2 rfl ?_
        refine j_aload_n d_Mo_isArithmetic_91 rfl 2 rfl ?_
        refine j_get F_Mo hI.1 11 (by decide) w_954 (Or.inl rfl) rfl d_Mo_isArithmetic_92 ?_
        refine j_iload_n d_Mo_isArithmetic_95 rfl 1 rfl ?_
        refine j_isub d_Mo_isArithmetic_96 ?_
        refine j_eqi (y := nI (dp - 2)) (pk_sub (by omega)) ?_
        refine j_callV (As := [.int (nI (dp - 2))]) (rest := []) (r_numberAt Γ.l hI (dp - 2) (by omega) (by assumption)) Y_Mo_numberAt w_1047 w_1049 ws_37 hI.1 rfl rfl rfl (Nat.le_of_ble_eq_true rfl) (by omega) (by omega) (by omega) d_Mo_isArithmetic_97 (fun v97 N97 p97 => ?_)
        obtain ⟨rfl, q97⟩ := p97
        obtain rfl := q97.symm
        show mp_J Γ m_Mo_isArithmetic E κ M [(3, .int (nI 3)), (2, .int (nI 2)), (0, .ref (R 0)), (1, .int (nI 154))] 100 [.long (am_num (A (dp - 2)))] 0 0
        refine j_lstore_n [(3, .long (am_num (A (dp - 2)))), (2, .int (nI 2)), (0, .ref (R 0)), (1, .int (nI 154))] d_Mo_isArithmetic_100 rfl (by decide) rfl ?_
        refine j_iload_n d_Mo_isArithmetic_101 rfl 1 rfl ?_
        refine j_iconst (v := nI 1) d_Mo_isArithmetic_102 (by decide) ?_
        refine j_ncmp_le 121 2 1 rfl rfl (by omega) (by omega) d_Mo_isArithmetic_103 (by decide) (fun b103 => (by first | exact b103.elim | exact absurd b103 (by omega))) (fun b103 => ?_)
        refine j_aload_n d_Mo_isArithmetic_106 rfl 2 rfl ?_
        refine j_aload_n d_Mo_isArithmetic_107 rfl 2 rfl ?_
        refine j_get F_Mo hI.1 11 (by decide) w_954 (Or.inl rfl) rfl d_Mo_isArithmetic_108 ?_
        refine j_iload_n d_Mo_isArithmetic_111 rfl 1 rfl ?_
        refine j_isub d_Mo_isArithmetic_112 ?_
        refine j_eqi (y := nI (dp - 2)) (pk_sub (by omega)) ?_
        refine j_iconst (v := nI 1) d_Mo_isArithmetic_113 (by decide) ?_
        refine j_iadd d_Mo_isArithmetic_114 ?_
        refine j_eqi (y := nI ((dp - 2) + 1)) (nI_add (dp - 2) 1) ?_
        refine j_eqi (y := nI (dp - 1)) (by rw [show dp - 2 + 1 = dp - 1 by omega]) ?_
        refine j_callV (As := [.int (nI (dp - 1))]) (rest := []) (r_numberAt Γ.l hI (dp - 1) (by omega) (by assumption)) Y_Mo_numberAt w_1047 w_1049 ws_37 hI.1 rfl rfl rfl (Nat.le_of_ble_eq_true rfl) (by omega) (by omega) (by omega) d_Mo_isArithmetic_115 (fun v115 N115 p115 => ?_)
        obtain ⟨rfl, q115⟩ := p115
        obtain rfl := q115.symm
        show mp_J Γ m_Mo_isArithmetic E κ M [(3, .long (am_num (A (dp - 2)))), (2, .int (nI 2)), (0, .ref (R 0)), (1, .int (nI 154))] 118 [.long (am_num (A (dp - 1)))] 0 0
        refine j_goto (tgt := 122) d_Mo_isArithmetic_118 (by decide) ?_
        refine j_lstore [(5, .long (am_num (A (dp - 1)))), (3, .long (am_num (A (dp - 2)))), (2, .int (nI 2)), (0, .ref (R 0)), (1, .int (nI 154))] d_Mo_isArithmetic_122 (by decide) rfl ?_
        refine j_iload_n d_Mo_isArithmetic_124 rfl 2 rfl ?_
        refine j_iconst (v := nI 2) d_Mo_isArithmetic_125 (by decide) ?_
        refine j_ncmp_le 142 2 2 rfl rfl (by omega) (by omega) d_Mo_isArithmetic_126 (by decide) (fun b126 => ?_) (fun b126 => (by first | exact b126.elim | exact absurd b126 (by omega)))
        refine j_lconst (v := 0) d_Mo_isArithmetic_142 (by decide) ?_
        refine j_lstore [(7, .long 0), (5, .long (am_num (A (dp - 1)))), (3, .long (am_num (A (dp - 2)))), (2, .int (nI 2)), (0, .ref (R 0)), (1, .int (nI 154))] d_Mo_isArithmetic_143 (by decide) rfl ?_
        have v1 := am_num_lim (x := A (dp - 1)) (by assumption)
        have v2 := am_num_lim (x := A (dp - 2)) (by assumption)
        refine j_aload_n d_Mo_isArithmetic_145 rfl 4 rfl ?_
        refine j_dup d_Mo_isArithmetic_146 rfl ?_
        refine j_get F_Mo hI.1 11 (by decide) w_954 (Or.inl rfl) rfl d_Mo_isArithmetic_147 ?_
        refine j_iload_n d_Mo_isArithmetic_150 rfl 3 rfl ?_
        refine j_isub d_Mo_isArithmetic_151 ?_
        refine j_eqi (y := nI (dp - 2)) (pk_sub (by omega)) ?_
        refine j_put F_Mo hI.1 11 (by decide) w_954 (Or.inl rfl) rfl rfl rfl (Nat.le_of_ble_eq_true rfl) d_Mo_isArithmetic_152 ?_
        show mp_J Γ m_Mo_isArithmetic E κ (mp_up M (R 0) (mp_o 7 [.ref (R 1), .int (nI rows), .int thr, .ref (R 2), .ref (R 3), .ref (R 4), .ref (R 5), .ref (R 6), .ref (R 7), .ref (R 8), .ref (R 9), .int (nI (dp - 2)), .int (nI as_), .int (nI ops), .ref (R 10)])) [(7, .long 0), (5, .long (am_num (A (dp - 1)))), (3, .long (am_num (A (dp - 2)))), (2, .int (nI 2)), (0, .ref (R 0)), (1, .int (nI 154))] 155 [] 0 0
        generalize eM1 : mp_up M (R 0) (mp_o 7 [.ref (R 1), .int (nI rows), .int thr, .ref (R 2), .ref (R 3), .ref (R 4), .ref (R 5), .ref (R 6), .ref (R 7), .ref (R 8), .ref (R 9), .int (nI (dp - 2)), .int (nI as_), .int (nI ops), .ref (R 10)]) = M1
        have hM1__R_0_ : M1 (R 0) = some (mp_o 7 [.ref (R 1), .int (nI rows), .int thr, .ref (R 2), .ref (R 3), .ref (R 4), .ref (R 5), .ref (R 6), .ref (R 7), .ref (R 8), .ref (R 9), .int (nI (dp - 2)), .int (nI as_), .int (nI ops), .ref (R 10)]) := by rw [← eM1]; exact mp_s
        have JM1 : RI E M1 R rows thr (dp - 2) as_ ops A := hI.set hR eM1
        have fM1 : RFr R M M1 := RFr.s0 eM1
        refine j_iload_n d_Mo_isArithmetic_155 rfl 5 rfl ?_
        refine j_tableIn 366 d_Mo_isArithmetic_156 (by decide) (by decide) rfl (by decide) ?_
        refine j_lload_n d_Mo_isArithmetic_366 rfl 2 rfl ?_
        refine j_lconst (v := 0) d_Mo_isArithmetic_367 (by decide) ?_
        refine j_lcmp d_Mo_isArithmetic_368 ?_
        refine j_if_eq 383 d_Mo_isArithmetic_369 (by decide) (fun b369 => ?_) (fun b369 => ?_)
        · skip
          refine j_lconst (v := 0) d_Mo_isArithmetic_383 (by decide) ?_
          refine j_lstore [(9, .long 0), (7, .long 0), (5, .long (am_num (A (dp - 1)))), (3, .long (am_num (A (dp - 2)))), (2, .int (nI 2)), (0, .ref (R 0)), (1, .int (nI 154))] d_Mo_isArithmetic_384 (by decide) rfl ?_
          refine j_goto (tgt := 584) d_Mo_isArithmetic_386 (by decide) ?_
          refine j_aload_n d_Mo_isArithmetic_584 rfl 5 rfl ?_
          refine j_lload d_Mo_isArithmetic_585 0 rfl ?_
          refine j_callV (As := [.long 0]) (rest := []) (r_pushNumber Γ.l JM1 hR 0 (am_mag_lt (by decide)) (by omega)) Y_Mo_pushNumber w_1031 w_1033 ws_33 hM1__R_0_ rfl rfl rfl (Nat.le_of_ble_eq_true rfl) (by omega) (by omega) (by omega) d_Mo_isArithmetic_587 (fun v587 N587 p587 => ?_)
          obtain ⟨rfl, I587, f587⟩ := p587
          show mp_J Γ m_Mo_isArithmetic E κ N587 [(9, .long 0), (7, .long 0), (5, .long (am_num (A (dp - 1)))), (3, .long (am_num (A (dp - 2)))), (2, .int (nI 2)), (0, .ref (R 0)), (1, .int (nI 154))] 590 [] 0 0
          refine j_iconst (v := nI 1) d_Mo_isArithmetic_590 (by decide) ?_
          exact j_zret hκ rfl (by first | exact Or.inl rfl | exact Or.inr rfl) (by omega) (by omega) d_Mo_isArithmetic_591 (RQ.t I587 (fM1.trans f587) (by omega) (by unfold am_op; rw [if_neg (by decide), if_neg (by decide), if_neg (by decide), if_neg (by decide), if_pos (by decide)]; exact ar2 (by omega) (by omega) (show _ = some ((am_bt (decide (am_num ((LM A dp).getD 1 []) ≠ 0 ∧ am_num ((LM A dp).getD 0 []) ≠ 0))) :: (LM A dp).drop 2, LO A as_, b, ops) from by unfold a_join; rw [if_neg (fun z => z (an_2 (by omega) (by assumption) (by assumption))), if_neg (by decide), if_neg (by decide), if_pos rfl]) (by rw [g0 (by omega), g1 (by omega)]; first | exact am_b0 (fun h => h.1 ((lg_cmp_eq _ _).mp b369)) | exact am_b0 (fun h => h.2 ((lg_cmp_eq _ _).mp b376)))))
        · skip
          refine j_lload d_Mo_isArithmetic_372 1 rfl ?_
          refine j_lconst (v := 0) d_Mo_isArithmetic_374 (by decide) ?_
          refine j_lcmp d_Mo_isArithmetic_375 ?_
          refine j_if_eq 383 d_Mo_isArithmetic_376 (by decide) (fun b376 => ?_) (fun b376 => ?_)
          · skip
            refine j_lconst (v := 0) d_Mo_isArithmetic_383 (by decide) ?_
            refine j_lstore [(9, .long 0), (7, .long 0), (5, .long (am_num (A (dp - 1)))), (3, .long (am_num (A (dp - 2)))), (2, .int (nI 2)), (0, .ref (R 0)), (1, .int (nI 154))] d_Mo_isArithmetic_384 (by decide) rfl ?_
            refine j_goto (tgt := 584) d_Mo_isArithmetic_386 (by decide) ?_
            refine j_aload_n d_Mo_isArithmetic_584 rfl 5 rfl ?_
            refine j_lload d_Mo_isArithmetic_585 0 rfl ?_
            refine j_callV (As := [.long 0]) (rest := []) (r_pushNumber Γ.l JM1 hR 0 (am_mag_lt (by decide)) (by omega)) Y_Mo_pushNumber w_1031 w_1033 ws_33 hM1__R_0_ rfl rfl rfl (Nat.le_of_ble_eq_true rfl) (by omega) (by omega) (by omega) d_Mo_isArithmetic_587 (fun v587 N587 p587 => ?_)
            obtain ⟨rfl, I587, f587⟩ := p587
            show mp_J Γ m_Mo_isArithmetic E κ N587 [(9, .long 0), (7, .long 0), (5, .long (am_num (A (dp - 1)))), (3, .long (am_num (A (dp - 2)))), (2, .int (nI 2)), (0, .ref (R 0)), (1, .int (nI 154))] 590 [] 0 0
            refine j_iconst (v := nI 1) d_Mo_isArithmetic_590 (by decide) ?_
            exact j_zret hκ rfl (by first | exact Or.inl rfl | exact Or.inr rfl) (by omega) (by omega) d_Mo_isArithmetic_591 (RQ.t I587 (fM1.trans f587) (by omega) (by unfold am_op; rw [if_neg (by decide), if_neg (by decide), if_neg (by decide), if_neg (by decide), if_pos (by decide)]; exact ar2 (by omega) (by omega) (show _ = some ((am_bt (decide (am_num ((LM A dp).getD 1 []) ≠ 0 ∧ am_num ((LM A dp).getD 0 []) ≠ 0))) :: (LM A dp).drop 2, LO A as_, b, ops) from by unfold a_join; rw [if_neg (fun z => z (an_2 (by omega) (by assumption) (by assumption))), if_neg (by decide), if_neg (by decide), if_pos rfl]) (by rw [g0 (by omega), g1 (by omega)]; first | exact am_b0 (fun h => h.1 ((lg_cmp_eq _ _).mp b369)) | exact am_b0 (fun h => h.2 ((lg_cmp_eq _ _).mp b376)))))
          · skip
            refine j_lconst (v := 1) d_Mo_isArithmetic_379 (by decide) ?_
            refine j_goto (tgt := 384) d_Mo_isArithmetic_380 (by decide) ?_
            refine j_lstore [(9, .long 1), (7, .long 0), (5, .long (am_num (A (dp - 1)))), (3, .long (am_num (A (dp - 2)))), (2, .int (nI 2)), (0, .ref (R 0)), (1, .int (nI 154))] d_Mo_isArithmetic_384 (by decide) rfl ?_
            refine j_goto (tgt := 584) d_Mo_isArithmetic_386 (by decide) ?_
            refine j_aload_n d_Mo_isArithmetic_584 rfl 5 rfl ?_
            refine j_lload d_Mo_isArithmetic_585 0 rfl ?_
            refine j_callV (As := [.long 1]) (rest := []) (r_pushNumber Γ.l JM1 hR 1 (am_mag_lt (by decide)) (by omega)) Y_Mo_pushNumber w_1031 w_1033 ws_33 hM1__R_0_ rfl rfl rfl (Nat.le_of_ble_eq_true rfl) (by omega) (by omega) (by omega) d_Mo_isArithmetic_587 (fun v587 N587 p587 => ?_)
            obtain ⟨rfl, I587, f587⟩ := p587
            show mp_J Γ m_Mo_isArithmetic E κ N587 [(9, .long 1), (7, .long 0), (5, .long (am_num (A (dp - 1)))), (3, .long (am_num (A (dp - 2)))), (2, .int (nI 2)), (0, .ref (R 0)), (1, .int (nI 154))] 590 [] 0 0
            refine j_iconst (v := nI 1) d_Mo_isArithmetic_590 (by decide) ?_
            exact j_zret hκ rfl (by first | exact Or.inl rfl | exact Or.inr rfl) (by omega) (by omega) d_Mo_isArithmetic_591 (RQ.t I587 (fM1.trans f587) (by omega) (by unfold am_op; rw [if_neg (by decide), if_neg (by decide), if_neg (by decide), if_neg (by decide), if_pos (by decide)]; exact ar2 (by omega) (by omega) (show _ = some ((am_bt (decide (am_num ((LM A dp).getD 1 []) ≠ 0 ∧ am_num ((LM A dp).getD 0 []) ≠ 0))) :: (LM A dp).drop 2, LO A as_, b, ops) from by unfold a_join; rw [if_neg (fun z => z (an_2 (by omega) (by assumption) (by assumption))), if_neg (by decide), if_neg (by decide), if_pos rfl]) (by rw [g0 (by omega), g1 (by omega)]; first | exact am_b1 ⟨(fun h => b369 ((lg_cmp_eq _ _).mpr h)), (fun h => b376 ((lg_cmp_eq _ _).mpr h))⟩)))
      · skip
        have d79 := of_decide_eq_false b79
        refine j_iconst (v := nI 0) d_Mo_isArithmetic_82 (by decide) ?_
        exact j_zret hκ rfl (by first | exact Or.inl rfl | exact Or.inr rfl) (by omega) (by omega) d_Mo_isArithmetic_83 (RQ.f hI RFr.refl (by omega) (by unfold am_op; rw [if_neg (by decide), if_neg (by decide), if_neg (by decide), if_neg (by decide), if_pos (by decide)]; unfold a_join; rw [if_pos (an_f (p := 1) (by decide) (Or.inr ⟨by omega, by rw [show dp - 1 - 1 = dp - 2 by omega]; exact d79⟩))]))
    · skip
      have d79 := of_decide_eq_false b79
      refine j_iconst (v := nI 0) d_Mo_isArithmetic_82 (by decide) ?_
      exact j_zret hκ rfl (by first | exact Or.inl rfl | exact Or.inr rfl) (by omega) (by omega) d_Mo_isArithmetic_83 (RQ.f hI RFr.refl (by omega) (by unfold am_op; rw [if_neg (by decide), if_neg (by decide), if_neg (by decide), if_neg (by decide), if_pos (by decide)]; unfold a_join; rw [if_pos (an_f (p := 0) (by decide) (Or.inr ⟨by omega, by rw [show dp - 1 - 0 = dp - 1 by omega]; exact d79⟩))]))
  · skip
    have d57 := of_decide_eq_false b57
    refine j_iconst (v := nI 0) d_Mo_isArithmetic_60 (by decide) ?_
    exact j_zret hκ rfl (by first | exact Or.inl rfl | exact Or.inr rfl) (by omega) (by omega) d_Mo_isArithmetic_61 (RQ.f hI RFr.refl (by omega) (by unfold am_op; rw [if_neg (by decide), if_neg (by decide), if_neg (by decide), if_neg (by decide), if_pos (by decide)]; unfold a_join; rw [if_pos (an_f (p := 0) (by decide) (Or.inl (by omega)))]))

set_option maxHeartbeats 4000000 in
set_option maxRecDepth 100000 in
theorem c_Mo_ar_155 (l : Launch) (E : mp_E) (M : mp_M) (R : Nat → Nat) (rows : Nat) (thr : Int32) (dp as_ ops : Nat) (A : Nat → am_T) (b : List Bool) (hI : RI E M R rows thr dp as_ ops A) (hR : RL R) (hd : dp + as_ ≤ 200) (hk : ops ≤ 1000) : mp_Cr l m_Mo_isArithmetic E M 2 0 0 [.ref (R 0), .int (nI 155)] (RQ E R M rows thr b (am_op 155 (LM A dp) (LO A as_) b ops)) := by
  refine mp_Cr.of (by decide) (Nat.le_of_ble_eq_true rfl) fun Γ κ hl hκ => ?_
  subst hl
  obtain ⟨hκd, hκc, hκs, -⟩ := id hκ
  show mp_J Γ m_Mo_isArithmetic E κ M [(0, .ref (R 0)), (1, .int (nI 155))] 0 [] 0 0
  refine j_iload_n d_Mo_isArithmetic_0 rfl 1 rfl ?_
  refine j_sipush (v := nI 165) d_Mo_isArithmetic_1 (by decide) ?_
  refine j_ncmp_ne 11 155 165 rfl rfl (by omega) (by omega) d_Mo_isArithmetic_4 (by decide) (fun b4 => ?_) (fun b4 => (by first | exact b4.elim | exact absurd b4 (by omega)))
  refine j_iload_n d_Mo_isArithmetic_11 rfl 1 rfl ?_
  refine j_sipush (v := nI 146) d_Mo_isArithmetic_12 (by decide) ?_
  refine j_ncmp_gt 22 155 146 rfl rfl (by omega) (by omega) d_Mo_isArithmetic_15 (by decide) (fun b15 => ?_) (fun b15 => (by first | exact b15.elim | exact absurd b15 (by omega)))
  refine j_iconst (v := nI 2) d_Mo_isArithmetic_22 (by decide) ?_
  refine j_istore_n [(2, .int (nI 2)), (0, .ref (R 0)), (1, .int (nI 155))] d_Mo_isArithmetic_23 rfl (by decide) rfl ?_
  refine j_iload_n d_Mo_isArithmetic_24 rfl 2 rfl ?_
  refine j_sipush (v := nI 141) d_Mo_isArithmetic_25 (by decide) ?_
  refine j_ncmp_eq 60 155 141 rfl rfl (by omega) (by omega) d_Mo_isArithmetic_28 (by decide) (fun b28 => (by first | exact b28.elim | exact absurd b28 (by omega))) (fun b28 => ?_)
  refine j_iload_n d_Mo_isArithmetic_31 rfl 2 rfl ?_
  refine j_sipush (v := nI 142) d_Mo_isArithmetic_32 (by decide) ?_
  refine j_ncmp_eq 60 155 142 rfl rfl (by omega) (by omega) d_Mo_isArithmetic_35 (by decide) (fun b35 => (by first | exact b35.elim | exact absurd b35 (by omega))) (fun b35 => ?_)
  refine j_iload_n d_Mo_isArithmetic_38 rfl 2 rfl ?_
  refine j_sipush (v := nI 149) d_Mo_isArithmetic_39 (by decide) ?_
  refine j_ncmp_lt 52 155 149 rfl rfl (by omega) (by omega) d_Mo_isArithmetic_42 (by decide) (fun b42 => (by first | exact b42.elim | exact absurd b42 (by omega))) (fun b42 => ?_)
  refine j_iload_n d_Mo_isArithmetic_45 rfl 2 rfl ?_
  refine j_sipush (v := nI 153) d_Mo_isArithmetic_46 (by decide) ?_
  refine j_ncmp_le 60 155 153 rfl rfl (by omega) (by omega) d_Mo_isArithmetic_49 (by decide) (fun b49 => (by first | exact b49.elim | exact absurd b49 (by omega))) (fun b49 => ?_)
  refine j_aload_n d_Mo_isArithmetic_52 rfl 1 rfl ?_
  refine j_iload_n d_Mo_isArithmetic_53 rfl 0 rfl ?_
  refine j_callV (As := [.int (nI 2)]) (rest := []) (c_Mo_has Γ.l E M (R 0) (R 1) rows (R 2) (R 3) (R 4) (R 5) (R 6) (R 7) (R 8) (R 9) dp as_ ops (R 10) thr 2 hI.1 (by omega) (by omega)) Y_Mo_has w_1039 w_1041 ws_35 hI.1 rfl rfl rfl (Nat.le_of_ble_eq_true rfl) (by omega) (by omega) (by omega) d_Mo_isArithmetic_54 (fun v54 N54 p54 => ?_)
  obtain ⟨rfl, q54⟩ := p54
  obtain rfl := q54.symm
  show mp_J Γ m_Mo_isArithmetic E κ M [(2, .int (nI 2)), (0, .ref (R 0)), (1, .int (nI 155))] 57 [.int (tf (decide (2 ≤ dp)))] 0 0
  refine j_tif_ne 62 d_Mo_isArithmetic_57 (by decide) (fun b57 => ?_) (fun b57 => ?_)
  · skip
    have d57 := of_decide_eq_true b57
    refine j_iconst (v := nI 1) d_Mo_isArithmetic_62 (by decide) ?_
    refine j_istore_n [(3, .int (nI 1)), (2, .int (nI 2)), (0, .ref (R 0)), (1, .int (nI 155))] d_Mo_isArithmetic_63 rfl (by decide) rfl ?_
    refine j_iload_n d_Mo_isArithmetic_64 rfl 0 rfl ?_
    refine j_iload_n d_Mo_isArithmetic_65 rfl 1 rfl ?_
    refine j_ncmp_gt 90 1 2 rfl rfl (by omega) (by omega) d_Mo_isArithmetic_66 (by decide) (fun b66 => (by first | exact b66.elim | exact absurd b66 (by omega))) (fun b66 => ?_)
    refine j_aload_n d_Mo_isArithmetic_69 rfl 2 rfl ?_
    refine j_aload_n d_Mo_isArithmetic_70 rfl 2 rfl ?_
    refine j_get F_Mo hI.1 11 (by decide) w_954 (Or.inl rfl) rfl d_Mo_isArithmetic_71 ?_
    refine j_iload_n d_Mo_isArithmetic_74 rfl 0 rfl ?_
    refine j_isub d_Mo_isArithmetic_75 ?_
    refine j_eqi (y := nI (dp - 1)) (pk_sub (by omega)) ?_
    refine j_callV (As := [.int (nI (dp - 1))]) (rest := []) (r_isNumber Γ.l hI (dp - 1) (by omega)) Y_Mo_isNumber w_1043 w_1045 ws_36 hI.1 rfl rfl rfl (Nat.le_of_ble_eq_true rfl) (by omega) (by omega) (by omega) d_Mo_isArithmetic_76 (fun v76 N76 p76 => ?_)
    obtain ⟨rfl, q76⟩ := p76
    obtain rfl := q76.symm
    show mp_J Γ m_Mo_isArithmetic E κ M [(3, .int (nI 1)), (2, .int (nI 2)), (0, .ref (R 0)), (1, .int (nI 155))] 79 [.int (tf (decide ((A (dp - 1)).length ≤ 4)))] 0 0
    refine j_tif_ne 84 d_Mo_isArithmetic_79 (by decide) (fun b79 => ?_) (fun b79 => ?_)
    · skip
      have d79 := of_decide_eq_true b79
      refine j_iinc (v := nI 2) [(3, .int (nI 2)), (2, .int (nI 2)), (0, .ref (R 0)), (1, .int (nI 155))] d_Mo_isArithmetic_84 0 rfl (by decide) (by decide) rfl ?_
      refine j_goto (tgt := 64) d_Mo_isArithmetic_87 (by decide) ?_
      refine j_iload_n d_Mo_isArithmetic_64 rfl 0 rfl ?_
      refine j_iload_n d_Mo_isArithmetic_65 rfl 1 rfl ?_
      refine j_ncmp_gt 90 2 2 rfl rfl (by omega) (by omega) d_Mo_isArithmetic_66 (by decide) (fun b66 => (by first | exact b66.elim | exact absurd b66 (by omega))) (fun b66 => ?_)
      refine j_aload_n d_Mo_isArithmetic_69 rfl 2 rfl ?_
      refine j_aload_n d_Mo_isArithmetic_70 rfl 2 rfl ?_
      refine j_get F_Mo hI.1 11 (by decide) w_954 (Or.inl rfl) rfl d_Mo_isArithmetic_71 ?_
      refine j_iload_n d_Mo_isArithmetic_74 rfl 0 rfl ?_
      refine j_isub d_Mo_isArithmetic_75 ?_
      refine j_eqi (y := nI (dp - 2)) (pk_sub (by omega)) ?_
      refine j_callV (As := [.int (nI (dp - 2))]) (rest := []) (r_isNumber Γ.l hI (dp - 2) (by omega)) Y_Mo_isNumber w_1043 w_1045 ws_36 hI.1 rfl rfl rfl (Nat.le_of_ble_eq_true rfl) (by omega) (by omega) (by omega) d_Mo_isArithmetic_76 (fun v76 N76 p76 => ?_)
      obtain ⟨rfl, q76⟩ := p76
      obtain rfl := q76.symm
      show mp_J Γ m_Mo_isArithmetic E κ M [(3, .int (nI 2)), (2, .int (nI 2)), (0, .ref (R 0)), (1, .int (nI 155))] 79 [.int (tf (decide ((A (dp - 2)).length ≤ 4)))] 0 0
      refine j_tif_ne 84 d_Mo_isArithmetic_79 (by decide) (fun b79 => ?_) (fun b79 => ?_)
      · skip
        have d79 := of_decide_eq_true b79
        refine j_iinc (v := nI 3) [(3, .int (nI 3)), (2, .int (nI 2)), (0, .ref (R 0)), (1, .int (nI 155))] d_Mo_isArithmetic_84 0 rfl (by decide) (by decide) rfl ?_
        refine j_goto (tgt := 64) d_Mo_isArithmetic_87 (by decide) ?_
        refine j_iload_n d_Mo_isArithmetic_64 rfl 0 rfl ?_
        refine j_iload_n d_Mo_isArithmetic_65 rfl 1 rfl ?_
        refine j_ncmp_gt 90 3 2 rfl rfl (by omega) (by omega) d_Mo_isArithmetic_66 (by decide) (fun b66 => ?_) (fun b66 => (by first | exact b66.elim | exact absurd b66 (by omega)))
        refine j_aload_n d_Mo_isArithmetic_90 rfl 2 rfl ?_
        refine j_aload_n d_Mo_isArithmetic_91 rfl 2 rfl ?_
        refine j_get F_Mo hI.1 11 (by decide) w_954 (Or.inl rfl) rfl d_Mo_isArithmetic_92 ?_
        refine j_iload_n d_Mo_isArithmetic_95 rfl 1 rfl ?_
        refine j_isub d_Mo_isArithmetic_96 ?_
        refine j_eqi (y := nI (dp - 2)) (pk_sub (by omega)) ?_
        refine j_callV (As := [.int (nI (dp - 2))]) (rest := []) (r_numberAt Γ.l hI (dp - 2) (by omega) (by assumption)) Y_Mo_numberAt w_1047 w_1049 ws_37 hI.1 rfl rfl rfl (Nat.le_of_ble_eq_true rfl) (by omega) (by omega) (by omega) d_Mo_isArithmetic_97 (fun v97 N97 p97 => ?_)
        obtain ⟨rfl, q97⟩ := p97
        obtain rfl := q97.symm
        show mp_J Γ m_Mo_isArithmetic E κ M [(3, .int (nI 3)), (2, .int (nI 2)), (0, .ref (R 0)), (1, .int (nI 155))] 100 [.long (am_num (A (dp - 2)))] 0 0
        refine j_lstore_n [(3, .long (am_num (A (dp - 2)))), (2, .int (nI 2)), (0, .ref (R 0)), (1, .int (nI 155))] d_Mo_isArithmetic_100 rfl (by decide) rfl ?_
        refine j_iload_n d_Mo_isArithmetic_101 rfl 1 rfl ?_
        refine j_iconst (v := nI 1) d_Mo_isArithmetic_102 (by decide) ?_
        refine j_ncmp_le 121 2 1 rfl rfl (by omega) (by omega) d_Mo_isArithmetic_103 (by decide) (fun b103 => (by first | exact b103.elim | exact absurd b103 (by omega))) (fun b103 => ?_)
        refine j_aload_n d_Mo_isArithmetic_106 rfl 2 rfl ?_
        refine j_aload_n d_Mo_isArithmetic_107 rfl 2 rfl ?_
        refine j_get F_Mo hI.1 11 (by decide) w_954 (Or.inl rfl) rfl d_Mo_isArithmetic_108 ?_
        refine j_iload_n d_Mo_isArithmetic_111 rfl 1 rfl ?_
        refine j_isub d_Mo_isArithmetic_112 ?_
        refine j_eqi (y := nI (dp - 2)) (pk_sub (by omega)) ?_
        refine j_iconst (v := nI 1) d_Mo_isArithmetic_113 (by decide) ?_
        refine j_iadd d_Mo_isArithmetic_114 ?_
        refine j_eqi (y := nI ((dp - 2) + 1)) (nI_add (dp - 2) 1) ?_
        refine j_eqi (y := nI (dp - 1)) (by rw [show dp - 2 + 1 = dp - 1 by omega]) ?_
        refine j_callV (As := [.int (nI (dp - 1))]) (rest := []) (r_numberAt Γ.l hI (dp - 1) (by omega) (by assumption)) Y_Mo_numberAt w_1047 w_1049 ws_37 hI.1 rfl rfl rfl (Nat.le_of_ble_eq_true rfl) (by omega) (by omega) (by omega) d_Mo_isArithmetic_115 (fun v115 N115 p115 => ?_)
        obtain ⟨rfl, q115⟩ := p115
        obtain rfl := q115.symm
        show mp_J Γ m_Mo_isArithmetic E κ M [(3, .long (am_num (A (dp - 2)))), (2, .int (nI 2)), (0, .ref (R 0)), (1, .int (nI 155))] 118 [.long (am_num (A (dp - 1)))] 0 0
        refine j_goto (tgt := 122) d_Mo_isArithmetic_118 (by decide) ?_
        refine j_lstore [(5, .long (am_num (A (dp - 1)))), (3, .long (am_num (A (dp - 2)))), (2, .int (nI 2)), (0, .ref (R 0)), (1, .int (nI 155))] d_Mo_isArithmetic_122 (by decide) rfl ?_
        refine j_iload_n d_Mo_isArithmetic_124 rfl 2 rfl ?_
        refine j_iconst (v := nI 2) d_Mo_isArithmetic_125 (by decide) ?_
        refine j_ncmp_le 142 2 2 rfl rfl (by omega) (by omega) d_Mo_isArithmetic_126 (by decide) (fun b126 => ?_) (fun b126 => (by first | exact b126.elim | exact absurd b126 (by omega)))
        refine j_lconst (v := 0) d_Mo_isArithmetic_142 (by decide) ?_
        refine j_lstore [(7, .long 0), (5, .long (am_num (A (dp - 1)))), (3, .long (am_num (A (dp - 2)))), (2, .int (nI 2)), (0, .ref (R 0)), (1, .int (nI 155))] d_Mo_isArithmetic_143 (by decide) rfl ?_
        have v1 := am_num_lim (x := A (dp - 1)) (by assumption)
        have v2 := am_num_lim (x := A (dp - 2)) (by assumption)
        refine j_aload_n d_Mo_isArithmetic_145 rfl 4 rfl ?_
        refine j_dup d_Mo_isArithmetic_146 rfl ?_
        refine j_get F_Mo hI.1 11 (by decide) w_954 (Or.inl rfl) rfl d_Mo_isArithmetic_147 ?_
        refine j_iload_n d_Mo_isArithmetic_150 rfl 3 rfl ?_
        refine j_isub d_Mo_isArithmetic_151 ?_
        refine j_eqi (y := nI (dp - 2)) (pk_sub (by omega)) ?_
        refine j_put F_Mo hI.1 11 (by decide) w_954 (Or.inl rfl) rfl rfl rfl (Nat.le_of_ble_eq_true rfl) d_Mo_isArithmetic_152 ?_
        show mp_J Γ m_Mo_isArithmetic E κ (mp_up M (R 0) (mp_o 7 [.ref (R 1), .int (nI rows), .int thr, .ref (R 2), .ref (R 3), .ref (R 4), .ref (R 5), .ref (R 6), .ref (R 7), .ref (R 8), .ref (R 9), .int (nI (dp - 2)), .int (nI as_), .int (nI ops), .ref (R 10)])) [(7, .long 0), (5, .long (am_num (A (dp - 1)))), (3, .long (am_num (A (dp - 2)))), (2, .int (nI 2)), (0, .ref (R 0)), (1, .int (nI 155))] 155 [] 0 0
        generalize eM1 : mp_up M (R 0) (mp_o 7 [.ref (R 1), .int (nI rows), .int thr, .ref (R 2), .ref (R 3), .ref (R 4), .ref (R 5), .ref (R 6), .ref (R 7), .ref (R 8), .ref (R 9), .int (nI (dp - 2)), .int (nI as_), .int (nI ops), .ref (R 10)]) = M1
        have hM1__R_0_ : M1 (R 0) = some (mp_o 7 [.ref (R 1), .int (nI rows), .int thr, .ref (R 2), .ref (R 3), .ref (R 4), .ref (R 5), .ref (R 6), .ref (R 7), .ref (R 8), .ref (R 9), .int (nI (dp - 2)), .int (nI as_), .int (nI ops), .ref (R 10)]) := by rw [← eM1]; exact mp_s
        have JM1 : RI E M1 R rows thr (dp - 2) as_ ops A := hI.set hR eM1
        have fM1 : RFr R M M1 := RFr.s0 eM1
        refine j_iload_n d_Mo_isArithmetic_155 rfl 5 rfl ?_
        refine j_tableIn 389 d_Mo_isArithmetic_156 (by decide) (by decide) rfl (by decide) ?_
        refine j_lload_n d_Mo_isArithmetic_389 rfl 2 rfl ?_
        refine j_lconst (v := 0) d_Mo_isArithmetic_390 (by decide) ?_
        refine j_lcmp d_Mo_isArithmetic_391 ?_
        refine j_if_ne 402 d_Mo_isArithmetic_392 (by decide) (fun b392 => ?_) (fun b392 => ?_)
        · skip
          refine j_lconst (v := 1) d_Mo_isArithmetic_402 (by decide) ?_
          refine j_goto (tgt := 407) d_Mo_isArithmetic_403 (by decide) ?_
          refine j_lstore [(9, .long 1), (7, .long 0), (5, .long (am_num (A (dp - 1)))), (3, .long (am_num (A (dp - 2)))), (2, .int (nI 2)), (0, .ref (R 0)), (1, .int (nI 155))] d_Mo_isArithmetic_407 (by decide) rfl ?_
          refine j_goto (tgt := 584) d_Mo_isArithmetic_409 (by decide) ?_
          refine j_aload_n d_Mo_isArithmetic_584 rfl 5 rfl ?_
          refine j_lload d_Mo_isArithmetic_585 0 rfl ?_
          refine j_callV (As := [.long 1]) (rest := []) (r_pushNumber Γ.l JM1 hR 1 (am_mag_lt (by decide)) (by omega)) Y_Mo_pushNumber w_1031 w_1033 ws_33 hM1__R_0_ rfl rfl rfl (Nat.le_of_ble_eq_true rfl) (by omega) (by omega) (by omega) d_Mo_isArithmetic_587 (fun v587 N587 p587 => ?_)
          obtain ⟨rfl, I587, f587⟩ := p587
          show mp_J Γ m_Mo_isArithmetic E κ N587 [(9, .long 1), (7, .long 0), (5, .long (am_num (A (dp - 1)))), (3, .long (am_num (A (dp - 2)))), (2, .int (nI 2)), (0, .ref (R 0)), (1, .int (nI 155))] 590 [] 0 0
          refine j_iconst (v := nI 1) d_Mo_isArithmetic_590 (by decide) ?_
          exact j_zret hκ rfl (by first | exact Or.inl rfl | exact Or.inr rfl) (by omega) (by omega) d_Mo_isArithmetic_591 (RQ.t I587 (fM1.trans f587) (by omega) (by unfold am_op; rw [if_neg (by decide), if_neg (by decide), if_neg (by decide), if_neg (by decide), if_pos (by decide)]; exact ar2 (by omega) (by omega) (show _ = some ((am_bt (decide (am_num ((LM A dp).getD 1 []) ≠ 0 ∨ am_num ((LM A dp).getD 0 []) ≠ 0))) :: (LM A dp).drop 2, LO A as_, b, ops) from by unfold a_join; rw [if_neg (fun z => z (an_2 (by omega) (by assumption) (by assumption))), if_neg (by decide), if_neg (by decide), if_neg (by decide), if_pos rfl]) (by rw [g0 (by omega), g1 (by omega)]; first | exact am_b1 (Or.inl (fun h => b392 ((lg_cmp_eq _ _).mpr h))) | exact am_b1 (Or.inr (fun h => b399 ((lg_cmp_eq _ _).mpr h))))))
        · skip
          refine j_lload d_Mo_isArithmetic_395 1 rfl ?_
          refine j_lconst (v := 0) d_Mo_isArithmetic_397 (by decide) ?_
          refine j_lcmp d_Mo_isArithmetic_398 ?_
          refine j_if_eq 406 d_Mo_isArithmetic_399 (by decide) (fun b399 => ?_) (fun b399 => ?_)
          · skip
            refine j_lconst (v := 0) d_Mo_isArithmetic_406 (by decide) ?_
            refine j_lstore [(9, .long 0), (7, .long 0), (5, .long (am_num (A (dp - 1)))), (3, .long (am_num (A (dp - 2)))), (2, .int (nI 2)), (0, .ref (R 0)), (1, .int (nI 155))] d_Mo_isArithmetic_407 (by decide) rfl ?_
            refine j_goto (tgt := 584) d_Mo_isArithmetic_409 (by decide) ?_
            refine j_aload_n d_Mo_isArithmetic_584 rfl 5 rfl ?_
            refine j_lload d_Mo_isArithmetic_585 0 rfl ?_
            refine j_callV (As := [.long 0]) (rest := []) (r_pushNumber Γ.l JM1 hR 0 (am_mag_lt (by decide)) (by omega)) Y_Mo_pushNumber w_1031 w_1033 ws_33 hM1__R_0_ rfl rfl rfl (Nat.le_of_ble_eq_true rfl) (by omega) (by omega) (by omega) d_Mo_isArithmetic_587 (fun v587 N587 p587 => ?_)
            obtain ⟨rfl, I587, f587⟩ := p587
            show mp_J Γ m_Mo_isArithmetic E κ N587 [(9, .long 0), (7, .long 0), (5, .long (am_num (A (dp - 1)))), (3, .long (am_num (A (dp - 2)))), (2, .int (nI 2)), (0, .ref (R 0)), (1, .int (nI 155))] 590 [] 0 0
            refine j_iconst (v := nI 1) d_Mo_isArithmetic_590 (by decide) ?_
            exact j_zret hκ rfl (by first | exact Or.inl rfl | exact Or.inr rfl) (by omega) (by omega) d_Mo_isArithmetic_591 (RQ.t I587 (fM1.trans f587) (by omega) (by unfold am_op; rw [if_neg (by decide), if_neg (by decide), if_neg (by decide), if_neg (by decide), if_pos (by decide)]; exact ar2 (by omega) (by omega) (show _ = some ((am_bt (decide (am_num ((LM A dp).getD 1 []) ≠ 0 ∨ am_num ((LM A dp).getD 0 []) ≠ 0))) :: (LM A dp).drop 2, LO A as_, b, ops) from by unfold a_join; rw [if_neg (fun z => z (an_2 (by omega) (by assumption) (by assumption))), if_neg (by decide), if_neg (by decide), if_neg (by decide), if_pos rfl]) (by rw [g0 (by omega), g1 (by omega)]; first | exact am_b0 (fun h => h.elim (fun z => z ((lg_cmp_eq _ _).mp b392)) (fun z => z ((lg_cmp_eq _ _).mp b399))))))
          · skip
            refine j_lconst (v := 1) d_Mo_isArithmetic_402 (by decide) ?_
            refine j_goto (tgt := 407) d_Mo_isArithmetic_403 (by decide) ?_
            refine j_lstore [(9, .long 1), (7, .long 0), (5, .long (am_num (A (dp - 1)))), (3, .long (am_num (A (dp - 2)))), (2, .int (nI 2)), (0, .ref (R 0)), (1, .int (nI 155))] d_Mo_isArithmetic_407 (by decide) rfl ?_
            refine j_goto (tgt := 584) d_Mo_isArithmetic_409 (by decide) ?_
            refine j_aload_n d_Mo_isArithmetic_584 rfl 5 rfl ?_
            refine j_lload d_Mo_isArithmetic_585 0 rfl ?_
            refine j_callV (As := [.long 1]) (rest := []) (r_pushNumber Γ.l JM1 hR 1 (am_mag_lt (by decide)) (by omega)) Y_Mo_pushNumber w_1031 w_1033 ws_33 hM1__R_0_ rfl rfl rfl (Nat.le_of_ble_eq_true rfl) (by omega) (by omega) (by omega) d_Mo_isArithmetic_587 (fun v587 N587 p587 => ?_)
            obtain ⟨rfl, I587, f587⟩ := p587
            show mp_J Γ m_Mo_isArithmetic E κ N587 [(9, .long 1), (7, .long 0), (5, .long (am_num (A (dp - 1)))), (3, .long (am_num (A (dp - 2)))), (2, .int (nI 2)), (0, .ref (R 0)), (1, .int (nI 155))] 590 [] 0 0
            refine j_iconst (v := nI 1) d_Mo_isArithmetic_590 (by decide) ?_
            exact j_zret hκ rfl (by first | exact Or.inl rfl | exact Or.inr rfl) (by omega) (by omega) d_Mo_isArithmetic_591 (RQ.t I587 (fM1.trans f587) (by omega) (by unfold am_op; rw [if_neg (by decide), if_neg (by decide), if_neg (by decide), if_neg (by decide), if_pos (by decide)]; exact ar2 (by omega) (by omega) (show _ = some ((am_bt (decide (am_num ((LM A dp).getD 1 []) ≠ 0 ∨ am_num ((LM A dp).getD 0 []) ≠ 0))) :: (LM A dp).drop 2, LO A as_, b, ops) from by unfold a_join; rw [if_neg (fun z => z (an_2 (by omega) (by assumption) (by assumption))), if_neg (by decide), if_neg (by decide), if_neg (by decide), if_pos rfl]) (by rw [g0 (by omega), g1 (by omega)]; first | exact am_b1 (Or.inl (fun h => b392 ((lg_cmp_eq _ _).mpr h))) | exact am_b1 (Or.inr (fun h => b399 ((lg_cmp_eq _ _).mpr h))))))
      · skip
        have d79 := of_decide_eq_false b79
        refine j_iconst (v := nI 0) d_Mo_isArithmetic_82 (by decide) ?_
        exact j_zret hκ rfl (by first | exact Or.inl rfl | exact Or.inr rfl) (by omega) (by omega) d_Mo_isArithmetic_83 (RQ.f hI RFr.refl (by omega) (by unfold am_op; rw [if_neg (by decide), if_neg (by decide), if_neg (by decide), if_neg (by decide), if_pos (by decide)]; unfold a_join; rw [if_pos (an_f (p := 1) (by decide) (Or.inr ⟨by omega, by rw [show dp - 1 - 1 = dp - 2 by omega]; exact d79⟩))]))
    · skip
      have d79 := of_decide_eq_false b79
      refine j_iconst (v := nI 0) d_Mo_isArithmetic_82 (by decide) ?_
      exact j_zret hκ rfl (by first | exact Or.inl rfl | exact Or.inr rfl) (by omega) (by omega) d_Mo_isArithmetic_83 (RQ.f hI RFr.refl (by omega) (by unfold am_op; rw [if_neg (by decide), if_neg (by decide), if_neg (by decide), if_neg (by decide), if_pos (by decide)]; unfold a_join; rw [if_pos (an_f (p := 0) (by decide) (Or.inr ⟨by omega, by rw [show dp - 1 - 0 = dp - 1 by omega]; exact d79⟩))]))
  · skip
    have d57 := of_decide_eq_false b57
    refine j_iconst (v := nI 0) d_Mo_isArithmetic_60 (by decide) ?_
    exact j_zret hκ rfl (by first | exact Or.inl rfl | exact Or.inr rfl) (by omega) (by omega) d_Mo_isArithmetic_61 (RQ.f hI RFr.refl (by omega) (by unfold am_op; rw [if_neg (by decide), if_neg (by decide), if_neg (by decide), if_neg (by decide), if_pos (by decide)]; unfold a_join; rw [if_pos (an_f (p := 0) (by decide) (Or.inl (by omega)))]))

set_option maxHeartbeats 4000000 in
set_option maxRecDepth 100000 in
theorem c_Mo_ar_156 (l : Launch) (E : mp_E) (M : mp_M) (R : Nat → Nat) (rows : Nat) (thr : Int32) (dp as_ ops : Nat) (A : Nat → am_T) (b : List Bool) (hI : RI E M R rows thr dp as_ ops A) (hR : RL R) (hd : dp + as_ ≤ 200) (hk : ops ≤ 1000) : mp_Cr l m_Mo_isArithmetic E M 2 0 0 [.ref (R 0), .int (nI 156)] (RQ E R M rows thr b (am_op 156 (LM A dp) (LO A as_) b ops)) := by
  refine mp_Cr.of (by decide) (Nat.le_of_ble_eq_true rfl) fun Γ κ hl hκ => ?_
  subst hl
  obtain ⟨hκd, hκc, hκs, -⟩ := id hκ
  show mp_J Γ m_Mo_isArithmetic E κ M [(0, .ref (R 0)), (1, .int (nI 156))] 0 [] 0 0
  refine j_iload_n d_Mo_isArithmetic_0 rfl 1 rfl ?_
  refine j_sipush (v := nI 165) d_Mo_isArithmetic_1 (by decide) ?_
  refine j_ncmp_ne 11 156 165 rfl rfl (by omega) (by omega) d_Mo_isArithmetic_4 (by decide) (fun b4 => ?_) (fun b4 => (by first | exact b4.elim | exact absurd b4 (by omega)))
  refine j_iload_n d_Mo_isArithmetic_11 rfl 1 rfl ?_
  refine j_sipush (v := nI 146) d_Mo_isArithmetic_12 (by decide) ?_
  refine j_ncmp_gt 22 156 146 rfl rfl (by omega) (by omega) d_Mo_isArithmetic_15 (by decide) (fun b15 => ?_) (fun b15 => (by first | exact b15.elim | exact absurd b15 (by omega)))
  refine j_iconst (v := nI 2) d_Mo_isArithmetic_22 (by decide) ?_
  refine j_istore_n [(2, .int (nI 2)), (0, .ref (R 0)), (1, .int (nI 156))] d_Mo_isArithmetic_23 rfl (by decide) rfl ?_
  refine j_iload_n d_Mo_isArithmetic_24 rfl 2 rfl ?_
  refine j_sipush (v := nI 141) d_Mo_isArithmetic_25 (by decide) ?_
  refine j_ncmp_eq 60 156 141 rfl rfl (by omega) (by omega) d_Mo_isArithmetic_28 (by decide) (fun b28 => (by first | exact b28.elim | exact absurd b28 (by omega))) (fun b28 => ?_)
  refine j_iload_n d_Mo_isArithmetic_31 rfl 2 rfl ?_
  refine j_sipush (v := nI 142) d_Mo_isArithmetic_32 (by decide) ?_
  refine j_ncmp_eq 60 156 142 rfl rfl (by omega) (by omega) d_Mo_isArithmetic_35 (by decide) (fun b35 => (by first | exact b35.elim | exact absurd b35 (by omega))) (fun b35 => ?_)
  refine j_iload_n d_Mo_isArithmetic_38 rfl 2 rfl ?_
  refine j_sipush (v := nI 149) d_Mo_isArithmetic_39 (by decide) ?_
  refine j_ncmp_lt 52 156 149 rfl rfl (by omega) (by omega) d_Mo_isArithmetic_42 (by decide) (fun b42 => (by first | exact b42.elim | exact absurd b42 (by omega))) (fun b42 => ?_)
  refine j_iload_n d_Mo_isArithmetic_45 rfl 2 rfl ?_
  refine j_sipush (v := nI 153) d_Mo_isArithmetic_46 (by decide) ?_
  refine j_ncmp_le 60 156 153 rfl rfl (by omega) (by omega) d_Mo_isArithmetic_49 (by decide) (fun b49 => (by first | exact b49.elim | exact absurd b49 (by omega))) (fun b49 => ?_)
  refine j_aload_n d_Mo_isArithmetic_52 rfl 1 rfl ?_
  refine j_iload_n d_Mo_isArithmetic_53 rfl 0 rfl ?_
  refine j_callV (As := [.int (nI 2)]) (rest := []) (c_Mo_has Γ.l E M (R 0) (R 1) rows (R 2) (R 3) (R 4) (R 5) (R 6) (R 7) (R 8) (R 9) dp as_ ops (R 10) thr 2 hI.1 (by omega) (by omega)) Y_Mo_has w_1039 w_1041 ws_35 hI.1 rfl rfl rfl (Nat.le_of_ble_eq_true rfl) (by omega) (by omega) (by omega) d_Mo_isArithmetic_54 (fun v54 N54 p54 => ?_)
  obtain ⟨rfl, q54⟩ := p54
  obtain rfl := q54.symm
  show mp_J Γ m_Mo_isArithmetic E κ M [(2, .int (nI 2)), (0, .ref (R 0)), (1, .int (nI 156))] 57 [.int (tf (decide (2 ≤ dp)))] 0 0
  refine j_tif_ne 62 d_Mo_isArithmetic_57 (by decide) (fun b57 => ?_) (fun b57 => ?_)
  · skip
    have d57 := of_decide_eq_true b57
    refine j_iconst (v := nI 1) d_Mo_isArithmetic_62 (by decide) ?_
    refine j_istore_n [(3, .int (nI 1)), (2, .int (nI 2)), (0, .ref (R 0)), (1, .int (nI 156))] d_Mo_isArithmetic_63 rfl (by decide) rfl ?_
    refine j_iload_n d_Mo_isArithmetic_64 rfl 0 rfl ?_
    refine j_iload_n d_Mo_isArithmetic_65 rfl 1 rfl ?_
    refine j_ncmp_gt 90 1 2 rfl rfl (by omega) (by omega) d_Mo_isArithmetic_66 (by decide) (fun b66 => (by first | exact b66.elim | exact absurd b66 (by omega))) (fun b66 => ?_)
    refine j_aload_n d_Mo_isArithmetic_69 rfl 2 rfl ?_
    refine j_aload_n d_Mo_isArithmetic_70 rfl 2 rfl ?_
    refine j_get F_Mo hI.1 11 (by decide) w_954 (Or.inl rfl) rfl d_Mo_isArithmetic_71 ?_
    refine j_iload_n d_Mo_isArithmetic_74 rfl 0 rfl ?_
    refine j_isub d_Mo_isArithmetic_75 ?_
    refine j_eqi (y := nI (dp - 1)) (pk_sub (by omega)) ?_
    refine j_callV (As := [.int (nI (dp - 1))]) (rest := []) (r_isNumber Γ.l hI (dp - 1) (by omega)) Y_Mo_isNumber w_1043 w_1045 ws_36 hI.1 rfl rfl rfl (Nat.le_of_ble_eq_true rfl) (by omega) (by omega) (by omega) d_Mo_isArithmetic_76 (fun v76 N76 p76 => ?_)
    obtain ⟨rfl, q76⟩ := p76
    obtain rfl := q76.symm
    show mp_J Γ m_Mo_isArithmetic E κ M [(3, .int (nI 1)), (2, .int (nI 2)), (0, .ref (R 0)), (1, .int (nI 156))] 79 [.int (tf (decide ((A (dp - 1)).length ≤ 4)))] 0 0
    refine j_tif_ne 84 d_Mo_isArithmetic_79 (by decide) (fun b79 => ?_) (fun b79 => ?_)
    · skip
      have d79 := of_decide_eq_true b79
      refine j_iinc (v := nI 2) [(3, .int (nI 2)), (2, .int (nI 2)), (0, .ref (R 0)), (1, .int (nI 156))] d_Mo_isArithmetic_84 0 rfl (by decide) (by decide) rfl ?_
      refine j_goto (tgt := 64) d_Mo_isArithmetic_87 (by decide) ?_
      refine j_iload_n d_Mo_isArithmetic_64 rfl 0 rfl ?_
      refine j_iload_n d_Mo_isArithmetic_65 rfl 1 rfl ?_
      refine j_ncmp_gt 90 2 2 rfl rfl (by omega) (by omega) d_Mo_isArithmetic_66 (by decide) (fun b66 => (by first | exact b66.elim | exact absurd b66 (by omega))) (fun b66 => ?_)
      refine j_aload_n d_Mo_isArithmetic_69 rfl 2 rfl ?_
      refine j_aload_n d_Mo_isArithmetic_70 rfl 2 rfl ?_
      refine j_get F_Mo hI.1 11 (by decide) w_954 (Or.inl rfl) rfl d_Mo_isArithmetic_71 ?_
      refine j_iload_n d_Mo_isArithmetic_74 rfl 0 rfl ?_
      refine j_isub d_Mo_isArithmetic_75 ?_
      refine j_eqi (y := nI (dp - 2)) (pk_sub (by omega)) ?_
      refine j_callV (As := [.int (nI (dp - 2))]) (rest := []) (r_isNumber Γ.l hI (dp - 2) (by omega)) Y_Mo_isNumber w_1043 w_1045 ws_36 hI.1 rfl rfl rfl (Nat.le_of_ble_eq_true rfl) (by omega) (by omega) (by omega) d_Mo_isArithmetic_76 (fun v76 N76 p76 => ?_)
      obtain ⟨rfl, q76⟩ := p76
      obtain rfl := q76.symm
      show mp_J Γ m_Mo_isArithmetic E κ M [(3, .int (nI 2)), (2, .int (nI 2)), (0, .ref (R 0)), (1, .int (nI 156))] 79 [.int (tf (decide ((A (dp - 2)).length ≤ 4)))] 0 0
      refine j_tif_ne 84 d_Mo_isArithmetic_79 (by decide) (fun b79 => ?_) (fun b79 => ?_)
      · skip
        have d79 := of_decide_eq_true b79
        refine j_iinc (v := nI 3) [(3, .int (nI 3)), (2, .int (nI 2)), (0, .ref (R 0)), (1, .int (nI 156))] d_Mo_isArithmetic_84 0 rfl (by decide) (by decide) rfl ?_
        refine j_goto (tgt := 64) d_Mo_isArithmetic_87 (by decide) ?_
        refine j_iload_n d_Mo_isArithmetic_64 rfl 0 rfl ?_
        refine j_iload_n d_Mo_isArithmetic_65 rfl 1 rfl ?_
        refine j_ncmp_gt 90 3 2 rfl rfl (by omega) (by omega) d_Mo_isArithmetic_66 (by decide) (fun b66 => ?_) (fun b66 => (by first | exact b66.elim | exact absurd b66 (by omega)))
        refine j_aload_n d_Mo_isArithmetic_90 rfl 2 rfl ?_
        refine j_aload_n d_Mo_isArithmetic_91 rfl 2 rfl ?_
        refine j_get F_Mo hI.1 11 (by decide) w_954 (Or.inl rfl) rfl d_Mo_isArithmetic_92 ?_
        refine j_iload_n d_Mo_isArithmetic_95 rfl 1 rfl ?_
        refine j_isub d_Mo_isArithmetic_96 ?_
        refine j_eqi (y := nI (dp - 2)) (pk_sub (by omega)) ?_
        refine j_callV (As := [.int (nI (dp - 2))]) (rest := []) (r_numberAt Γ.l hI (dp - 2) (by omega) (by assumption)) Y_Mo_numberAt w_1047 w_1049 ws_37 hI.1 rfl rfl rfl (Nat.le_of_ble_eq_true rfl) (by omega) (by omega) (by omega) d_Mo_isArithmetic_97 (fun v97 N97 p97 => ?_)
        obtain ⟨rfl, q97⟩ := p97
        obtain rfl := q97.symm
        show mp_J Γ m_Mo_isArithmetic E κ M [(3, .int (nI 3)), (2, .int (nI 2)), (0, .ref (R 0)), (1, .int (nI 156))] 100 [.long (am_num (A (dp - 2)))] 0 0
        refine j_lstore_n [(3, .long (am_num (A (dp - 2)))), (2, .int (nI 2)), (0, .ref (R 0)), (1, .int (nI 156))] d_Mo_isArithmetic_100 rfl (by decide) rfl ?_
        refine j_iload_n d_Mo_isArithmetic_101 rfl 1 rfl ?_
        refine j_iconst (v := nI 1) d_Mo_isArithmetic_102 (by decide) ?_
        refine j_ncmp_le 121 2 1 rfl rfl (by omega) (by omega) d_Mo_isArithmetic_103 (by decide) (fun b103 => (by first | exact b103.elim | exact absurd b103 (by omega))) (fun b103 => ?_)
        refine j_aload_n d_Mo_isArithmetic_106 rfl 2 rfl ?_
        refine j_aload_n d_Mo_isArithmetic_107 rfl 2 rfl ?_
        refine j_get F_Mo hI.1 11 (by decide) w_954 (Or.inl rfl) rfl d_Mo_isArithmetic_108 ?_
        refine j_iload_n d_Mo_isArithmetic_111 rfl 1 rfl ?_
        refine j_isub d_Mo_isArithmetic_112 ?_
        refine j_eqi (y := nI (dp - 2)) (pk_sub (by omega)) ?_
        refine j_iconst (v := nI 1) d_Mo_isArithmetic_113 (by decide) ?_
        refine j_iadd d_Mo_isArithmetic_114 ?_
        refine j_eqi (y := nI ((dp - 2) + 1)) (nI_add (dp - 2) 1) ?_
        refine j_eqi (y := nI (dp - 1)) (by rw [show dp - 2 + 1 = dp - 1 by omega]) ?_
        refine j_callV (As := [.int (nI (dp - 1))]) (rest := []) (r_numberAt Γ.l hI (dp - 1) (by omega) (by assumption)) Y_Mo_numberAt w_1047 w_1049 ws_37 hI.1 rfl rfl rfl (Nat.le_of_ble_eq_true rfl) (by omega) (by omega) (by omega) d_Mo_isArithmetic_115 (fun v115 N115 p115 => ?_)
        obtain ⟨rfl, q115⟩ := p115
        obtain rfl := q115.symm
        show mp_J Γ m_Mo_isArithmetic E κ M [(3, .long (am_num (A (dp - 2)))), (2, .int (nI 2)), (0, .ref (R 0)), (1, .int (nI 156))] 118 [.long (am_num (A (dp - 1)))] 0 0
        refine j_goto (tgt := 122) d_Mo_isArithmetic_118 (by decide) ?_
        refine j_lstore [(5, .long (am_num (A (dp - 1)))), (3, .long (am_num (A (dp - 2)))), (2, .int (nI 2)), (0, .ref (R 0)), (1, .int (nI 156))] d_Mo_isArithmetic_122 (by decide) rfl ?_
        refine j_iload_n d_Mo_isArithmetic_124 rfl 2 rfl ?_
        refine j_iconst (v := nI 2) d_Mo_isArithmetic_125 (by decide) ?_
        refine j_ncmp_le 142 2 2 rfl rfl (by omega) (by omega) d_Mo_isArithmetic_126 (by decide) (fun b126 => ?_) (fun b126 => (by first | exact b126.elim | exact absurd b126 (by omega)))
        refine j_lconst (v := 0) d_Mo_isArithmetic_142 (by decide) ?_
        refine j_lstore [(7, .long 0), (5, .long (am_num (A (dp - 1)))), (3, .long (am_num (A (dp - 2)))), (2, .int (nI 2)), (0, .ref (R 0)), (1, .int (nI 156))] d_Mo_isArithmetic_143 (by decide) rfl ?_
        have v1 := am_num_lim (x := A (dp - 1)) (by assumption)
        have v2 := am_num_lim (x := A (dp - 2)) (by assumption)
        refine j_aload_n d_Mo_isArithmetic_145 rfl 4 rfl ?_
        refine j_dup d_Mo_isArithmetic_146 rfl ?_
        refine j_get F_Mo hI.1 11 (by decide) w_954 (Or.inl rfl) rfl d_Mo_isArithmetic_147 ?_
        refine j_iload_n d_Mo_isArithmetic_150 rfl 3 rfl ?_
        refine j_isub d_Mo_isArithmetic_151 ?_
        refine j_eqi (y := nI (dp - 2)) (pk_sub (by omega)) ?_
        refine j_put F_Mo hI.1 11 (by decide) w_954 (Or.inl rfl) rfl rfl rfl (Nat.le_of_ble_eq_true rfl) d_Mo_isArithmetic_152 ?_
        show mp_J Γ m_Mo_isArithmetic E κ (mp_up M (R 0) (mp_o 7 [.ref (R 1), .int (nI rows), .int thr, .ref (R 2), .ref (R 3), .ref (R 4), .ref (R 5), .ref (R 6), .ref (R 7), .ref (R 8), .ref (R 9), .int (nI (dp - 2)), .int (nI as_), .int (nI ops), .ref (R 10)])) [(7, .long 0), (5, .long (am_num (A (dp - 1)))), (3, .long (am_num (A (dp - 2)))), (2, .int (nI 2)), (0, .ref (R 0)), (1, .int (nI 156))] 155 [] 0 0
        generalize eM1 : mp_up M (R 0) (mp_o 7 [.ref (R 1), .int (nI rows), .int thr, .ref (R 2), .ref (R 3), .ref (R 4), .ref (R 5), .ref (R 6), .ref (R 7), .ref (R 8), .ref (R 9), .int (nI (dp - 2)), .int (nI as_), .int (nI ops), .ref (R 10)]) = M1
        have hM1__R_0_ : M1 (R 0) = some (mp_o 7 [.ref (R 1), .int (nI rows), .int thr, .ref (R 2), .ref (R 3), .ref (R 4), .ref (R 5), .ref (R 6), .ref (R 7), .ref (R 8), .ref (R 9), .int (nI (dp - 2)), .int (nI as_), .int (nI ops), .ref (R 10)]) := by rw [← eM1]; exact mp_s
        have JM1 : RI E M1 R rows thr (dp - 2) as_ ops A := hI.set hR eM1
        have fM1 : RFr R M M1 := RFr.s0 eM1
        refine j_iload_n d_Mo_isArithmetic_155 rfl 5 rfl ?_
        refine j_tableIn 412 d_Mo_isArithmetic_156 (by decide) (by decide) rfl (by decide) ?_
        refine j_lload_n d_Mo_isArithmetic_412 rfl 2 rfl ?_
        refine j_lload d_Mo_isArithmetic_413 1 rfl ?_
        refine j_lcmp d_Mo_isArithmetic_415 ?_
        refine j_if_ne 423 d_Mo_isArithmetic_416 (by decide) (fun b416 => ?_) (fun b416 => ?_)
        · skip
          refine j_lconst (v := 0) d_Mo_isArithmetic_423 (by decide) ?_
          refine j_lstore [(9, .long 0), (7, .long 0), (5, .long (am_num (A (dp - 1)))), (3, .long (am_num (A (dp - 2)))), (2, .int (nI 2)), (0, .ref (R 0)), (1, .int (nI 156))] d_Mo_isArithmetic_424 (by decide) rfl ?_
          refine j_goto (tgt := 584) d_Mo_isArithmetic_426 (by decide) ?_
          refine j_aload_n d_Mo_isArithmetic_584 rfl 5 rfl ?_
          refine j_lload d_Mo_isArithmetic_585 0 rfl ?_
          refine j_callV (As := [.long 0]) (rest := []) (r_pushNumber Γ.l JM1 hR 0 (am_mag_lt (by decide)) (by omega)) Y_Mo_pushNumber w_1031 w_1033 ws_33 hM1__R_0_ rfl rfl rfl (Nat.le_of_ble_eq_true rfl) (by omega) (by omega) (by omega) d_Mo_isArithmetic_587 (fun v587 N587 p587 => ?_)
          obtain ⟨rfl, I587, f587⟩ := p587
          show mp_J Γ m_Mo_isArithmetic E κ N587 [(9, .long 0), (7, .long 0), (5, .long (am_num (A (dp - 1)))), (3, .long (am_num (A (dp - 2)))), (2, .int (nI 2)), (0, .ref (R 0)), (1, .int (nI 156))] 590 [] 0 0
          refine j_iconst (v := nI 1) d_Mo_isArithmetic_590 (by decide) ?_
          exact j_zret hκ rfl (by first | exact Or.inl rfl | exact Or.inr rfl) (by omega) (by omega) d_Mo_isArithmetic_591 (RQ.t I587 (fM1.trans f587) (by omega) (by unfold am_op; rw [if_neg (by decide), if_neg (by decide), if_neg (by decide), if_neg (by decide), if_pos (by decide)]; exact ar2 (by omega) (by omega) (show _ = some ((am_bt (decide (am_num ((LM A dp).getD 1 []) = am_num ((LM A dp).getD 0 [])))) :: (LM A dp).drop 2, LO A as_, b, ops) from by unfold a_join; rw [if_neg (fun z => z (an_2 (by omega) (by assumption) (by assumption))), if_neg (by decide), if_neg (by decide), if_neg (by decide), if_neg (by decide), if_pos rfl]) (by rw [g0 (by omega), g1 (by omega)]; first | exact am_b0 (fun h => b416 ((lg_cmp_eq _ _).mpr h)))))
        · skip
          refine j_lconst (v := 1) d_Mo_isArithmetic_419 (by decide) ?_
          refine j_goto (tgt := 424) d_Mo_isArithmetic_420 (by decide) ?_
          refine j_lstore [(9, .long 1), (7, .long 0), (5, .long (am_num (A (dp - 1)))), (3, .long (am_num (A (dp - 2)))), (2, .int (nI 2)), (0, .ref (R 0)), (1, .int (nI 156))] d_Mo_isArithmetic_424 (by decide) rfl ?_
          refine j_goto (tgt := 584) d_Mo_isArithmetic_426 (by decide) ?_
          refine j_aload_n d_Mo_isArithmetic_584 rfl 5 rfl ?_
          refine j_lload d_Mo_isArithmetic_585 0 rfl ?_
          refine j_callV (As := [.long 1]) (rest := []) (r_pushNumber Γ.l JM1 hR 1 (am_mag_lt (by decide)) (by omega)) Y_Mo_pushNumber w_1031 w_1033 ws_33 hM1__R_0_ rfl rfl rfl (Nat.le_of_ble_eq_true rfl) (by omega) (by omega) (by omega) d_Mo_isArithmetic_587 (fun v587 N587 p587 => ?_)
          obtain ⟨rfl, I587, f587⟩ := p587
          show mp_J Γ m_Mo_isArithmetic E κ N587 [(9, .long 1), (7, .long 0), (5, .long (am_num (A (dp - 1)))), (3, .long (am_num (A (dp - 2)))), (2, .int (nI 2)), (0, .ref (R 0)), (1, .int (nI 156))] 590 [] 0 0
          refine j_iconst (v := nI 1) d_Mo_isArithmetic_590 (by decide) ?_
          exact j_zret hκ rfl (by first | exact Or.inl rfl | exact Or.inr rfl) (by omega) (by omega) d_Mo_isArithmetic_591 (RQ.t I587 (fM1.trans f587) (by omega) (by unfold am_op; rw [if_neg (by decide), if_neg (by decide), if_neg (by decide), if_neg (by decide), if_pos (by decide)]; exact ar2 (by omega) (by omega) (show _ = some ((am_bt (decide (am_num ((LM A dp).getD 1 []) = am_num ((LM A dp).getD 0 [])))) :: (LM A dp).drop 2, LO A as_, b, ops) from by unfold a_join; rw [if_neg (fun z => z (an_2 (by omega) (by assumption) (by assumption))), if_neg (by decide), if_neg (by decide), if_neg (by decide), if_neg (by decide), if_pos rfl]) (by rw [g0 (by omega), g1 (by omega)]; first | exact am_b1 ((lg_cmp_eq _ _).mp b416))))
      · skip
        have d79 := of_decide_eq_false b79
        refine j_iconst (v := nI 0) d_Mo_isArithmetic_82 (by decide) ?_
        exact j_zret hκ rfl (by first | exact Or.inl rfl | exact Or.inr rfl) (by omega) (by omega) d_Mo_isArithmetic_83 (RQ.f hI RFr.refl (by omega) (by unfold am_op; rw [if_neg (by decide), if_neg (by decide), if_neg (by decide), if_neg (by decide), if_pos (by decide)]; unfold a_join; rw [if_pos (an_f (p := 1) (by decide) (Or.inr ⟨by omega, by rw [show dp - 1 - 1 = dp - 2 by omega]; exact d79⟩))]))
    · skip
      have d79 := of_decide_eq_false b79
      refine j_iconst (v := nI 0) d_Mo_isArithmetic_82 (by decide) ?_
      exact j_zret hκ rfl (by first | exact Or.inl rfl | exact Or.inr rfl) (by omega) (by omega) d_Mo_isArithmetic_83 (RQ.f hI RFr.refl (by omega) (by unfold am_op; rw [if_neg (by decide), if_neg (by decide), if_neg (by decide), if_neg (by decide), if_pos (by decide)]; unfold a_join; rw [if_pos (an_f (p := 0) (by decide) (Or.inr ⟨by omega, by rw [show dp - 1 - 0 = dp - 1 by omega]; exact d79⟩))]))
  · skip
    have d57 := of_decide_eq_false b57
    refine j_iconst (v := nI 0) d_Mo_isArithmetic_60 (by decide) ?_
    exact j_zret hκ rfl (by first | exact Or.inl rfl | exact Or.inr rfl) (by omega) (by omega) d_Mo_isArithmetic_61 (RQ.f hI RFr.refl (by omega) (by unfold am_op; rw [if_neg (by decide), if_neg (by decide), if_neg (by decide), if_neg (by decide), if_pos (by decide)]; unfold a_join; rw [if_pos (an_f (p := 0) (by decide) (Or.inl (by omega)))]))

set_option maxHeartbeats 4000000 in
set_option maxRecDepth 100000 in
theorem c_Mo_ar_157 (l : Launch) (E : mp_E) (M : mp_M) (R : Nat → Nat) (rows : Nat) (thr : Int32) (dp as_ ops : Nat) (A : Nat → am_T) (b : List Bool) (hI : RI E M R rows thr dp as_ ops A) (hR : RL R) (hd : dp + as_ ≤ 200) (hk : ops ≤ 1000) : mp_Cr l m_Mo_isArithmetic E M 2 0 0 [.ref (R 0), .int (nI 157)] (RQ E R M rows thr b (am_op 157 (LM A dp) (LO A as_) b ops)) := by
  refine mp_Cr.of (by decide) (Nat.le_of_ble_eq_true rfl) fun Γ κ hl hκ => ?_
  subst hl
  obtain ⟨hκd, hκc, hκs, -⟩ := id hκ
  show mp_J Γ m_Mo_isArithmetic E κ M [(0, .ref (R 0)), (1, .int (nI 157))] 0 [] 0 0
  refine j_iload_n d_Mo_isArithmetic_0 rfl 1 rfl ?_
  refine j_sipush (v := nI 165) d_Mo_isArithmetic_1 (by decide) ?_
  refine j_ncmp_ne 11 157 165 rfl rfl (by omega) (by omega) d_Mo_isArithmetic_4 (by decide) (fun b4 => ?_) (fun b4 => (by first | exact b4.elim | exact absurd b4 (by omega)))
  refine j_iload_n d_Mo_isArithmetic_11 rfl 1 rfl ?_
  refine j_sipush (v := nI 146) d_Mo_isArithmetic_12 (by decide) ?_
  refine j_ncmp_gt 22 157 146 rfl rfl (by omega) (by omega) d_Mo_isArithmetic_15 (by decide) (fun b15 => ?_) (fun b15 => (by first | exact b15.elim | exact absurd b15 (by omega)))
  refine j_iconst (v := nI 2) d_Mo_isArithmetic_22 (by decide) ?_
  refine j_istore_n [(2, .int (nI 2)), (0, .ref (R 0)), (1, .int (nI 157))] d_Mo_isArithmetic_23 rfl (by decide) rfl ?_
  refine j_iload_n d_Mo_isArithmetic_24 rfl 2 rfl ?_
  refine j_sipush (v := nI 141) d_Mo_isArithmetic_25 (by decide) ?_
  refine j_ncmp_eq 60 157 141 rfl rfl (by omega) (by omega) d_Mo_isArithmetic_28 (by decide) (fun b28 => (by first | exact b28.elim | exact absurd b28 (by omega))) (fun b28 => ?_)
  refine j_iload_n d_Mo_isArithmetic_31 rfl 2 rfl ?_
  refine j_sipush (v := nI 142) d_Mo_isArithmetic_32 (by decide) ?_
  refine j_ncmp_eq 60 157 142 rfl rfl (by omega) (by omega) d_Mo_isArithmetic_35 (by decide) (fun b35 => (by first | exact b35.elim | exact absurd b35 (by omega))) (fun b35 => ?_)
  refine j_iload_n d_Mo_isArithmetic_38 rfl 2 rfl ?_
  refine j_sipush (v := nI 149) d_Mo_isArithmetic_39 (by decide) ?_
  refine j_ncmp_lt 52 157 149 rfl rfl (by omega) (by omega) d_Mo_isArithmetic_42 (by decide) (fun b42 => (by first | exact b42.elim | exact absurd b42 (by omega))) (fun b42 => ?_)
  refine j_iload_n d_Mo_isArithmetic_45 rfl 2 rfl ?_
  refine j_sipush (v := nI 153) d_Mo_isArithmetic_46 (by decide) ?_
  refine j_ncmp_le 60 157 153 rfl rfl (by omega) (by omega) d_Mo_isArithmetic_49 (by decide) (fun b49 => (by first | exact b49.elim | exact absurd b49 (by omega))) (fun b49 => ?_)
  refine j_aload_n d_Mo_isArithmetic_52 rfl 1 rfl ?_
  refine j_iload_n d_Mo_isArithmetic_53 rfl 0 rfl ?_
  refine j_callV (As := [.int (nI 2)]) (rest := []) (c_Mo_has Γ.l E M (R 0) (R 1) rows (R 2) (R 3) (R 4) (R 5) (R 6) (R 7) (R 8) (R 9) dp as_ ops (R 10) thr 2 hI.1 (by omega) (by omega)) Y_Mo_has w_1039 w_1041 ws_35 hI.1 rfl rfl rfl (Nat.le_of_ble_eq_true rfl) (by omega) (by omega) (by omega) d_Mo_isArithmetic_54 (fun v54 N54 p54 => ?_)
  obtain ⟨rfl, q54⟩ := p54
  obtain rfl := q54.symm
  show mp_J Γ m_Mo_isArithmetic E κ M [(2, .int (nI 2)), (0, .ref (R 0)), (1, .int (nI 157))] 57 [.int (tf (decide (2 ≤ dp)))] 0 0
  refine j_tif_ne 62 d_Mo_isArithmetic_57 (by decide) (fun b57 => ?_) (fun b57 => ?_)
  · skip
    have d57 := of_decide_eq_true b57
    refine j_iconst (v := nI 1) d_Mo_isArithmetic_62 (by decide) ?_
    refine j_istore_n [(3, .int (nI 1)), (2, .int (nI 2)), (0, .ref (R 0)), (1, .int (nI 157))] d_Mo_isArithmetic_63 rfl (by decide) rfl ?_
    refine j_iload_n d_Mo_isArithmetic_64 rfl 0 rfl ?_
    refine j_iload_n d_Mo_isArithmetic_65 rfl 1 rfl ?_
    refine j_ncmp_gt 90 1 2 rfl rfl (by omega) (by omega) d_Mo_isArithmetic_66 (by decide) (fun b66 => (by first | exact b66.elim | exact absurd b66 (by omega))) (fun b66 => ?_)
    refine j_aload_n d_Mo_isArithmetic_69 rfl 2 rfl ?_
    refine j_aload_n d_Mo_isArithmetic_70 rfl 2 rfl ?_
    refine j_get F_Mo hI.1 11 (by decide) w_954 (Or.inl rfl) rfl d_Mo_isArithmetic_71 ?_
    refine j_iload_n d_Mo_isArithmetic_74 rfl 0 rfl ?_
    refine j_isub d_Mo_isArithmetic_75 ?_
    refine j_eqi (y := nI (dp - 1)) (pk_sub (by omega)) ?_
    refine j_callV (As := [.int (nI (dp - 1))]) (rest := []) (r_isNumber Γ.l hI (dp - 1) (by omega)) Y_Mo_isNumber w_1043 w_1045 ws_36 hI.1 rfl rfl rfl (Nat.le_of_ble_eq_true rfl) (by omega) (by omega) (by omega) d_Mo_isArithmetic_76 (fun v76 N76 p76 => ?_)
    obtain ⟨rfl, q76⟩ := p76
    obtain rfl := q76.symm
    show mp_J Γ m_Mo_isArithmetic E κ M [(3, .int (nI 1)), (2, .int (nI 2)), (0, .ref (R 0)), (1, .int (nI 157))] 79 [.int (tf (decide ((A (dp - 1)).length ≤ 4)))] 0 0
    refine j_tif_ne 84 d_Mo_isArithmetic_79 (by decide) (fun b79 => ?_) (fun b79 => ?_)
    · skip
      have d79 := of_decide_eq_true b79
      refine j_iinc (v := nI 2) [(3, .int (nI 2)), (2, .int (nI 2)), (0, .ref (R 0)), (1, .int (nI 157))] d_Mo_isArithmetic_84 0 rfl (by decide) (by decide) rfl ?_
      refine j_goto (tgt := 64) d_Mo_isArithmetic_87 (by decide) ?_
      refine j_iload_n d_Mo_isArithmetic_64 rfl 0 rfl ?_
      refine j_iload_n d_Mo_isArithmetic_65 rfl 1 rfl ?_
      refine j_ncmp_gt 90 2 2 rfl rfl (by omega) (by omega) d_Mo_isArithmetic_66 (by decide) (fun b66 => (by first | exact b66.elim | exact absurd b66 (by omega))) (fun b66 => ?_)
      refine j_aload_n d_Mo_isArithmetic_69 rfl 2 rfl ?_
      refine j_aload_n d_Mo_isArithmetic_70 rfl 2 rfl ?_
      refine j_get F_Mo hI.1 11 (by decide) w_954 (Or.inl rfl) rfl d_Mo_isArithmetic_71 ?_
      refine j_iload_n d_Mo_isArithmetic_74 rfl 0 rfl ?_
      refine j_isub d_Mo_isArithmetic_75 ?_
      refine j_eqi (y := nI (dp - 2)) (pk_sub (by omega)) ?_
      refine j_callV (As := [.int (nI (dp - 2))]) (rest := []) (r_isNumber Γ.l hI (dp - 2) (by omega)) Y_Mo_isNumber w_1043 w_1045 ws_36 hI.1 rfl rfl rfl (Nat.le_of_ble_eq_true rfl) (by omega) (by omega) (by omega) d_Mo_isArithmetic_76 (fun v76 N76 p76 => ?_)
      obtain ⟨rfl, q76⟩ := p76
      obtain rfl := q76.symm
      show mp_J Γ m_Mo_isArithmetic E κ M [(3, .int (nI 2)), (2, .int (nI 2)), (0, .ref (R 0)), (1, .int (nI 157))] 79 [.int (tf (decide ((A (dp - 2)).length ≤ 4)))] 0 0
      refine j_tif_ne 84 d_Mo_isArithmetic_79 (by decide) (fun b79 => ?_) (fun b79 => ?_)
      · skip
        have d79 := of_decide_eq_true b79
        refine j_iinc (v := nI 3) [(3, .int (nI 3)), (2, .int (nI 2)), (0, .ref (R 0)), (1, .int (nI 157))] d_Mo_isArithmetic_84 0 rfl (by decide) (by decide) rfl ?_
        refine j_goto (tgt := 64) d_Mo_isArithmetic_87 (by decide) ?_
        refine j_iload_n d_Mo_isArithmetic_64 rfl 0 rfl ?_
        refine j_iload_n d_Mo_isArithmetic_65 rfl 1 rfl ?_
        refine j_ncmp_gt 90 3 2 rfl rfl (by omega) (by omega) d_Mo_isArithmetic_66 (by decide) (fun b66 => ?_) (fun b66 => (by first | exact b66.elim | exact absurd b66 (by omega)))
        refine j_aload_n d_Mo_isArithmetic_90 rfl 2 rfl ?_
        refine j_aload_n d_Mo_isArithmetic_91 rfl 2 rfl ?_
        refine j_get F_Mo hI.1 11 (by decide) w_954 (Or.inl rfl) rfl d_Mo_isArithmetic_92 ?_
        refine j_iload_n d_Mo_isArithmetic_95 rfl 1 rfl ?_
        refine j_isub d_Mo_isArithmetic_96 ?_
        refine j_eqi (y := nI (dp - 2)) (pk_sub (by omega)) ?_
        refine j_callV (As := [.int (nI (dp - 2))]) (rest := []) (r_numberAt Γ.l hI (dp - 2) (by omega) (by assumption)) Y_Mo_numberAt w_1047 w_1049 ws_37 hI.1 rfl rfl rfl (Nat.le_of_ble_eq_true rfl) (by omega) (by omega) (by omega) d_Mo_isArithmetic_97 (fun v97 N97 p97 => ?_)
        obtain ⟨rfl, q97⟩ := p97
        obtain rfl := q97.symm
        show mp_J Γ m_Mo_isArithmetic E κ M [(3, .int (nI 3)), (2, .int (nI 2)), (0, .ref (R 0)), (1, .int (nI 157))] 100 [.long (am_num (A (dp - 2)))] 0 0
        refine j_lstore_n [(3, .long (am_num (A (dp - 2)))), (2, .int (nI 2)), (0, .ref (R 0)), (1, .int (nI 157))] d_Mo_isArithmetic_100 rfl (by decide) rfl ?_
        refine j_iload_n d_Mo_isArithmetic_101 rfl 1 rfl ?_
        refine j_iconst (v := nI 1) d_Mo_isArithmetic_102 (by decide) ?_
        refine j_ncmp_le 121 2 1 rfl rfl (by omega) (by omega) d_Mo_isArithmetic_103 (by decide) (fun b103 => (by first | exact b103.elim | exact absurd b103 (by omega))) (fun b103 => ?_)
        refine j_aload_n d_Mo_isArithmetic_106 rfl 2 rfl ?_
        refine j_aload_n d_Mo_isArithmetic_107 rfl 2 rfl ?_
        refine j_get F_Mo hI.1 11 (by decide) w_954 (Or.inl rfl) rfl d_Mo_isArithmetic_108 ?_
        refine j_iload_n d_Mo_isArithmetic_111 rfl 1 rfl ?_
        refine j_isub d_Mo_isArithmetic_112 ?_
        refine j_eqi (y := nI (dp - 2)) (pk_sub (by omega)) ?_
        refine j_iconst (v := nI 1) d_Mo_isArithmetic_113 (by decide) ?_
        refine j_iadd d_Mo_isArithmetic_114 ?_
        refine j_eqi (y := nI ((dp - 2) + 1)) (nI_add (dp - 2) 1) ?_
        refine j_eqi (y := nI (dp - 1)) (by rw [show dp - 2 + 1 = dp - 1 by omega]) ?_
        refine j_callV (As := [.int (nI (dp - 1))]) (rest := []) (r_numberAt Γ.l hI (dp - 1) (by omega) (by assumption)) Y_Mo_numberAt w_1047 w_1049 ws_37 hI.1 rfl rfl rfl (Nat.le_of_ble_eq_true rfl) (by omega) (by omega) (by omega) d_Mo_isArithmetic_115 (fun v115 N115 p115 => ?_)
        obtain ⟨rfl, q115⟩ := p115
        obtain rfl := q115.symm
        show mp_J Γ m_Mo_isArithmetic E κ M [(3, .long (am_num (A (dp - 2)))), (2, .int (nI 2)), (0, .ref (R 0)), (1, .int (nI 157))] 118 [.long (am_num (A (dp - 1)))] 0 0
        refine j_goto (tgt := 122) d_Mo_isArithmetic_118 (by decide) ?_
        refine j_lstore [(5, .long (am_num (A (dp - 1)))), (3, .long (am_num (A (dp - 2)))), (2, .int (nI 2)), (0, .ref (R 0)), (1, .int (nI 157))] d_Mo_isArithmetic_122 (by decide) rfl ?_
        refine j_iload_n d_Mo_isArithmetic_124 rfl 2 rfl ?_
        refine j_iconst (v := nI 2) d_Mo_isArithmetic_125 (by decide) ?_
        refine j_ncmp_le 142 2 2 rfl rfl (by omega) (by omega) d_Mo_isArithmetic_126 (by decide) (fun b126 => ?_) (fun b126 => (by first | exact b126.elim | exact absurd b126 (by omega)))
        refine j_lconst (v := 0) d_Mo_isArithmetic_142 (by decide) ?_
        refine j_lstore [(7, .long 0), (5, .long (am_num (A (dp - 1)))), (3, .long (am_num (A (dp - 2)))), (2, .int (nI 2)), (0, .ref (R 0)), (1, .int (nI 157))] d_Mo_isArithmetic_143 (by decide) rfl ?_
        have v1 := am_num_lim (x := A (dp - 1)) (by assumption)
        have v2 := am_num_lim (x := A (dp - 2)) (by assumption)
        refine j_aload_n d_Mo_isArithmetic_145 rfl 4 rfl ?_
        refine j_dup d_Mo_isArithmetic_146 rfl ?_
        refine j_get F_Mo hI.1 11 (by decide) w_954 (Or.inl rfl) rfl d_Mo_isArithmetic_147 ?_
        refine j_iload_n d_Mo_isArithmetic_150 rfl 3 rfl ?_
        refine j_isub d_Mo_isArithmetic_151 ?_
        refine j_eqi (y := nI (dp - 2)) (pk_sub (by omega)) ?_
        refine j_put F_Mo hI.1 11 (by decide) w_954 (Or.inl rfl) rfl rfl rfl (Nat.le_of_ble_eq_true rfl) d_Mo_isArithmetic_152 ?_
        show mp_J Γ m_Mo_isArithmetic E κ (mp_up M (R 0) (mp_o 7 [.ref (R 1), .int (nI rows), .int thr, .ref (R 2), .ref (R 3), .ref (R 4), .ref (R 5), .ref (R 6), .ref (R 7), .ref (R 8), .ref (R 9), .int (nI (dp - 2)), .int (nI as_), .int (nI ops), .ref (R 10)])) [(7, .long 0), (5, .long (am_num (A (dp - 1)))), (3, .long (am_num (A (dp - 2)))), (2, .int (nI 2)), (0, .ref (R 0)), (1, .int (nI 157))] 155 [] 0 0
        generalize eM1 : mp_up M (R 0) (mp_o 7 [.ref (R 1), .int (nI rows), .int thr, .ref (R 2), .ref (R 3), .ref (R 4), .ref (R 5), .ref (R 6), .ref (R 7), .ref (R 8), .ref (R 9), .int (nI (dp - 2)), .int (nI as_), .int (nI ops), .ref (R 10)]) = M1
        have hM1__R_0_ : M1 (R 0) = some (mp_o 7 [.ref (R 1), .int (nI rows), .int thr, .ref (R 2), .ref (R 3), .ref (R 4), .ref (R 5), .ref (R 6), .ref (R 7), .ref (R 8), .ref (R 9), .int (nI (dp - 2)), .int (nI as_), .int (nI ops), .ref (R 10)]) := by rw [← eM1]; exact mp_s
        have JM1 : RI E M1 R rows thr (dp - 2) as_ ops A := hI.set hR eM1
        have fM1 : RFr R M M1 := RFr.s0 eM1
        refine j_iload_n d_Mo_isArithmetic_155 rfl 5 rfl ?_
        refine j_tableIn 429 d_Mo_isArithmetic_156 (by decide) (by decide) rfl (by decide) ?_
        refine j_lload_n d_Mo_isArithmetic_429 rfl 2 rfl ?_
        refine j_lload d_Mo_isArithmetic_430 1 rfl ?_
        refine j_lcmp d_Mo_isArithmetic_432 ?_
        refine j_if_ne 440 d_Mo_isArithmetic_433 (by decide) (fun b433 => ?_) (fun b433 => ?_)
        · skip
          refine j_iconst (v := nI 0) d_Mo_isArithmetic_440 (by decide) ?_
          exact j_zret hκ rfl (by first | exact Or.inl rfl | exact Or.inr rfl) (by omega) (by omega) d_Mo_isArithmetic_441 (RQ.f JM1 fM1 (by omega) (by unfold am_op; rw [if_neg (by decide), if_neg (by decide), if_neg (by decide), if_neg (by decide), if_pos (by decide)]; unfold a_join; rw [if_neg (fun z => z (an_2 (by omega) (by assumption) (by assumption))), if_neg (by decide), if_neg (by decide), if_neg (by decide), if_neg (by decide), if_neg (by decide), if_pos rfl]; rw [g0 (by omega), g1 (by omega), if_neg (fun h => b433 ((lg_cmp_eq _ _).mpr h))]))
        · skip
          refine j_iconst (v := nI 1) d_Mo_isArithmetic_436 (by decide) ?_
          refine j_goto (tgt := 441) d_Mo_isArithmetic_437 (by decide) ?_
          exact j_zret hκ rfl (by first | exact Or.inl rfl | exact Or.inr rfl) (by omega) (by omega) d_Mo_isArithmetic_441 (RQ.t JM1 fM1 (by omega) (by unfold am_op; rw [if_neg (by decide), if_neg (by decide), if_neg (by decide), if_neg (by decide), if_pos (by decide)]; unfold a_join; rw [if_neg (fun z => z (an_2 (by omega) (by assumption) (by assumption))), if_neg (by decide), if_neg (by decide), if_neg (by decide), if_neg (by decide), if_neg (by decide), if_pos rfl]; rw [g0 (by omega), g1 (by omega), if_pos ((lg_cmp_eq _ _).mp b433), LM_drop (by omega)]))
      · skip
        have d79 := of_decide_eq_false b79
        refine j_iconst (v := nI 0) d_Mo_isArithmetic_82 (by decide) ?_
        exact j_zret hκ rfl (by first | exact Or.inl rfl | exact Or.inr rfl) (by omega) (by omega) d_Mo_isArithmetic_83 (RQ.f hI RFr.refl (by omega) (by unfold am_op; rw [if_neg (by decide), if_neg (by decide), if_neg (by decide), if_neg (by decide), if_pos (by decide)]; unfold a_join; rw [if_pos (an_f (p := 1) (by decide) (Or.inr ⟨by omega, by rw [show dp - 1 - 1 = dp - 2 by omega]; exact d79⟩))]))
    · skip
      have d79 := of_decide_eq_false b79
      refine j_iconst (v := nI 0) d_Mo_isArithmetic_82 (by decide) ?_
      exact j_zret hκ rfl (by first | exact Or.inl rfl | exact Or.inr rfl) (by omega) (by omega) d_Mo_isArithmetic_83 (RQ.f hI RFr.refl (by omega) (by unfold am_op; rw [if_neg (by decide), if_neg (by decide), if_neg (by decide), if_neg (by decide), if_pos (by decide)]; unfold a_join; rw [if_pos (an_f (p := 0) (by decide) (Or.inr ⟨by omega, by rw [show dp - 1 - 0 = dp - 1 by omega]; exact d79⟩))]))
  · skip
    have d57 := of_decide_eq_false b57
    refine j_iconst (v := nI 0) d_Mo_isArithmetic_60 (by decide) ?_
    exact j_zret hκ rfl (by first | exact Or.inl rfl | exact Or.inr rfl) (by omega) (by omega) d_Mo_isArithmetic_61 (RQ.f hI RFr.refl (by omega) (by unfold am_op; rw [if_neg (by decide), if_neg (by decide), if_neg (by decide), if_neg (by decide), if_pos (by decide)]; unfold a_join; rw [if_pos (an_f (p := 0) (by decide) (Or.inl (by omega)))]))

set_option maxHeartbeats 4000000 in
set_option maxRecDepth 100000 in
theorem c_Mo_ar_158 (l : Launch) (E : mp_E) (M : mp_M) (R : Nat → Nat) (rows : Nat) (thr : Int32) (dp as_ ops : Nat) (A : Nat → am_T) (b : List Bool) (hI : RI E M R rows thr dp as_ ops A) (hR : RL R) (hd : dp + as_ ≤ 200) (hk : ops ≤ 1000) : mp_Cr l m_Mo_isArithmetic E M 2 0 0 [.ref (R 0), .int (nI 158)] (RQ E R M rows thr b (am_op 158 (LM A dp) (LO A as_) b ops)) := by
  refine mp_Cr.of (by decide) (Nat.le_of_ble_eq_true rfl) fun Γ κ hl hκ => ?_
  subst hl
  obtain ⟨hκd, hκc, hκs, -⟩ := id hκ
  show mp_J Γ m_Mo_isArithmetic E κ M [(0, .ref (R 0)), (1, .int (nI 158))] 0 [] 0 0
  refine j_iload_n d_Mo_isArithmetic_0 rfl 1 rfl ?_
  refine j_sipush (v := nI 165) d_Mo_isArithmetic_1 (by decide) ?_
  refine j_ncmp_ne 11 158 165 rfl rfl (by omega) (by omega) d_Mo_isArithmetic_4 (by decide) (fun b4 => ?_) (fun b4 => (by first | exact b4.elim | exact absurd b4 (by omega)))
  refine j_iload_n d_Mo_isArithmetic_11 rfl 1 rfl ?_
  refine j_sipush (v := nI 146) d_Mo_isArithmetic_12 (by decide) ?_
  refine j_ncmp_gt 22 158 146 rfl rfl (by omega) (by omega) d_Mo_isArithmetic_15 (by decide) (fun b15 => ?_) (fun b15 => (by first | exact b15.elim | exact absurd b15 (by omega)))
  refine j_iconst (v := nI 2) d_Mo_isArithmetic_22 (by decide) ?_
  refine j_istore_n [(2, .int (nI 2)), (0, .ref (R 0)), (1, .int (nI 158))] d_Mo_isArithmetic_23 rfl (by decide) rfl ?_
  refine j_iload_n d_Mo_isArithmetic_24 rfl 2 rfl ?_
  refine j_sipush (v := nI 141) d_Mo_isArithmetic_25 (by decide) ?_
  refine j_ncmp_eq 60 158 141 rfl rfl (by omega) (by omega) d_Mo_isArithmetic_28 (by decide) (fun b28 => (by first | exact b28.elim | exact absurd b28 (by omega))) (fun b28 => ?_)
  refine j_iload_n d_Mo_isArithmetic_31 rfl 2 rfl ?_
  refine j_sipush (v := nI 142) d_Mo_isArithmetic_32 (by decide) ?_
  refine j_ncmp_eq 60 158 142 rfl rfl (by omega) (by omega) d_Mo_isArithmetic_35 (by decide) (fun b35 => (by first | exact b35.elim | exact absurd b35 (by omega))) (fun b35 => ?_)
  refine j_iload_n d_Mo_isArithmetic_38 rfl 2 rfl ?_
  refine j_sipush (v := nI 149) d_Mo_isArithmetic_39 (by decide) ?_
  refine j_ncmp_lt 52 158 149 rfl rfl (by omega) (by omega) d_Mo_isArithmetic_42 (by decide) (fun b42 => (by first | exact b42.elim | exact absurd b42 (by omega))) (fun b42 => ?_)
  refine j_iload_n d_Mo_isArithmetic_45 rfl 2 rfl ?_
  refine j_sipush (v := nI 153) d_Mo_isArithmetic_46 (by decide) ?_
  refine j_ncmp_le 60 158 153 rfl rfl (by omega) (by omega) d_Mo_isArithmetic_49 (by decide) (fun b49 => (by first | exact b49.elim | exact absurd b49 (by omega))) (fun b49 => ?_)
  refine j_aload_n d_Mo_isArithmetic_52 rfl 1 rfl ?_
  refine j_iload_n d_Mo_isArithmetic_53 rfl 0 rfl ?_
  refine j_callV (As := [.int (nI 2)]) (rest := []) (c_Mo_has Γ.l E M (R 0) (R 1) rows (R 2) (R 3) (R 4) (R 5) (R 6) (R 7) (R 8) (R 9) dp as_ ops (R 10) thr 2 hI.1 (by omega) (by omega)) Y_Mo_has w_1039 w_1041 ws_35 hI.1 rfl rfl rfl (Nat.le_of_ble_eq_true rfl) (by omega) (by omega) (by omega) d_Mo_isArithmetic_54 (fun v54 N54 p54 => ?_)
  obtain ⟨rfl, q54⟩ := p54
  obtain rfl := q54.symm
  show mp_J Γ m_Mo_isArithmetic E κ M [(2, .int (nI 2)), (0, .ref (R 0)), (1, .int (nI 158))] 57 [.int (tf (decide (2 ≤ dp)))] 0 0
  refine j_tif_ne 62 d_Mo_isArithmetic_57 (by decide) (fun b57 => ?_) (fun b57 => ?_)
  · skip
    have d57 := of_decide_eq_true b57
    refine j_iconst (v := nI 1) d_Mo_isArithmetic_62 (by decide) ?_
    refine j_istore_n [(3, .int (nI 1)), (2, .int (nI 2)), (0, .ref (R 0)), (1, .int (nI 158))] d_Mo_isArithmetic_63 rfl (by decide) rfl ?_
    refine j_iload_n d_Mo_isArithmetic_64 rfl 0 rfl ?_
    refine j_iload_n d_Mo_isArithmetic_65 rfl 1 rfl ?_
    refine j_ncmp_gt 90 1 2 rfl rfl (by omega) (by omega) d_Mo_isArithmetic_66 (by decide) (fun b66 => (by first | exact b66.elim | exact absurd b66 (by omega))) (fun b66 => ?_)
    refine j_aload_n d_Mo_isArithmetic_69 rfl 2 rfl ?_
    refine j_aload_n d_Mo_isArithmetic_70 rfl 2 rfl ?_
    refine j_get F_Mo hI.1 11 (by decide) w_954 (Or.inl rfl) rfl d_Mo_isArithmetic_71 ?_
    refine j_iload_n d_Mo_isArithmetic_74 rfl 0 rfl ?_
    refine j_isub d_Mo_isArithmetic_75 ?_
    refine j_eqi (y := nI (dp - 1)) (pk_sub (by omega)) ?_
    refine j_callV (As := [.int (nI (dp - 1))]) (rest := []) (r_isNumber Γ.l hI (dp - 1) (by omega)) Y_Mo_isNumber w_1043 w_1045 ws_36 hI.1 rfl rfl rfl (Nat.le_of_ble_eq_true rfl) (by omega) (by omega) (by omega) d_Mo_isArithmetic_76 (fun v76 N76 p76 => ?_)
    obtain ⟨rfl, q76⟩ := p76
    obtain rfl := q76.symm
    show mp_J Γ m_Mo_isArithmetic E κ M [(3, .int (nI 1)), (2, .int (nI 2)), (0, .ref (R 0)), (1, .int (nI 158))] 79 [.int (tf (decide ((A (dp - 1)).length ≤ 4)))] 0 0
    refine j_tif_ne 84 d_Mo_isArithmetic_79 (by decide) (fun b79 => ?_) (fun b79 => ?_)
    · skip
      have d79 := of_decide_eq_true b79
      refine j_iinc (v := nI 2) [(3, .int (nI 2)), (2, .int (nI 2)), (0, .ref (R 0)), (1, .int (nI 158))] d_Mo_isArithmetic_84 0 rfl (by decide) (by decide) rfl ?_
      refine j_goto (tgt := 64) d_Mo_isArithmetic_87 (by decide) ?_
      refine j_iload_n d_Mo_isArithmetic_64 rfl 0 rfl ?_
      refine j_iload_n d_Mo_isArithmetic_65 rfl 1 rfl ?_
      refine j_ncmp_gt 90 2 2 rfl rfl (by omega) (by omega) d_Mo_isArithmetic_66 (by decide) (fun b66 => (by first | exact b66.elim | exact absurd b66 (by omega))) (fun b66 => ?_)
      refine j_aload_n d_Mo_isArithmetic_69 rfl 2 rfl ?_
      refine j_aload_n d_Mo_isArithmetic_70 rfl 2 rfl ?_
      refine j_get F_Mo hI.1 11 (by decide) w_954 (Or.inl rfl) rfl d_Mo_isArithmetic_71 ?_
      refine j_iload_n d_Mo_isArithmetic_74 rfl 0 rfl ?_
      refine j_isub d_Mo_isArithmetic_75 ?_
      refine j_eqi (y := nI (dp - 2)) (pk_sub (by omega)) ?_
      refine j_callV (As := [.int (nI (dp - 2))]) (rest := []) (r_isNumber Γ.l hI (dp - 2) (by omega)) Y_Mo_isNumber w_1043 w_1045 ws_36 hI.1 rfl rfl rfl (Nat.le_of_ble_eq_true rfl) (by omega) (by omega) (by omega) d_Mo_isArithmetic_76 (fun v76 N76 p76 => ?_)
      obtain ⟨rfl, q76⟩ := p76
      obtain rfl := q76.symm
      show mp_J Γ m_Mo_isArithmetic E κ M [(3, .int (nI 2)), (2, .int (nI 2)), (0, .ref (R 0)), (1, .int (nI 158))] 79 [.int (tf (decide ((A (dp - 2)).length ≤ 4)))] 0 0
      refine j_tif_ne 84 d_Mo_isArithmetic_79 (by decide) (fun b79 => ?_) (fun b79 => ?_)
      · skip
        have d79 := of_decide_eq_true b79
        refine j_iinc (v := nI 3) [(3, .int (nI 3)), (2, .int (nI 2)), (0, .ref (R 0)), (1, .int (nI 158))] d_Mo_isArithmetic_84 0 rfl (by decide) (by decide) rfl ?_
        refine j_goto (tgt := 64) d_Mo_isArithmetic_87 (by decide) ?_
        refine j_iload_n d_Mo_isArithmetic_64 rfl 0 rfl ?_
        refine j_iload_n d_Mo_isArithmetic_65 rfl 1 rfl ?_
        refine j_ncmp_gt 90 3 2 rfl rfl (by omega) (by omega) d_Mo_isArithmetic_66 (by decide) (fun b66 => ?_) (fun b66 => (by first | exact b66.elim | exact absurd b66 (by omega)))
        refine j_aload_n d_Mo_isArithmetic_90 rfl 2 rfl ?_
        refine j_aload_n d_Mo_isArithmetic_91 rfl 2 rfl ?_
        refine j_get F_Mo hI.1 11 (by decide) w_954 (Or.inl rfl) rfl d_Mo_isArithmetic_92 ?_
        refine j_iload_n d_Mo_isArithmetic_95 rfl 1 rfl ?_
        refine j_isub d_Mo_isArithmetic_96 ?_
        refine j_eqi (y := nI (dp - 2)) (pk_sub (by omega)) ?_
        refine j_callV (As := [.int (nI (dp - 2))]) (rest := []) (r_numberAt Γ.l hI (dp - 2) (by omega) (by assumption)) Y_Mo_numberAt w_1047 w_1049 ws_37 hI.1 rfl rfl rfl (Nat.le_of_ble_eq_true rfl) (by omega) (by omega) (by omega) d_Mo_isArithmetic_97 (fun v97 N97 p97 => ?_)
        obtain ⟨rfl, q97⟩ := p97
        obtain rfl := q97.symm
        show mp_J Γ m_Mo_isArithmetic E κ M [(3, .int (nI 3)), (2, .int (nI 2)), (0, .ref (R 0)), (1, .int (nI 158))] 100 [.long (am_num (A (dp - 2)))] 0 0
        refine j_lstore_n [(3, .long (am_num (A (dp - 2)))), (2, .int (nI 2)), (0, .ref (R 0)), (1, .int (nI 158))] d_Mo_isArithmetic_100 rfl (by decide) rfl ?_
        refine j_iload_n d_Mo_isArithmetic_101 rfl 1 rfl ?_
        refine j_iconst (v := nI 1) d_Mo_isArithmetic_102 (by decide) ?_
        refine j_ncmp_le 121 2 1 rfl rfl (by omega) (by omega) d_Mo_isArithmetic_103 (by decide) (fun b103 => (by first | exact b103.elim | exact absurd b103 (by omega))) (fun b103 => ?_)
        refine j_aload_n d_Mo_isArithmetic_106 rfl 2 rfl ?_
        refine j_aload_n d_Mo_isArithmetic_107 rfl 2 rfl ?_
        refine j_get F_Mo hI.1 11 (by decide) w_954 (Or.inl rfl) rfl d_Mo_isArithmetic_108 ?_
        refine j_iload_n d_Mo_isArithmetic_111 rfl 1 rfl ?_
        refine j_isub d_Mo_isArithmetic_112 ?_
        refine j_eqi (y := nI (dp - 2)) (pk_sub (by omega)) ?_
        refine j_iconst (v := nI 1) d_Mo_isArithmetic_113 (by decide) ?_
        refine j_iadd d_Mo_isArithmetic_114 ?_
        refine j_eqi (y := nI ((dp - 2) + 1)) (nI_add (dp - 2) 1) ?_
        refine j_eqi (y := nI (dp - 1)) (by rw [show dp - 2 + 1 = dp - 1 by omega]) ?_
        refine j_callV (As := [.int (nI (dp - 1))]) (rest := []) (r_numberAt Γ.l hI (dp - 1) (by omega) (by assumption)) Y_Mo_numberAt w_1047 w_1049 ws_37 hI.1 rfl rfl rfl (Nat.le_of_ble_eq_true rfl) (by omega) (by omega) (by omega) d_Mo_isArithmetic_115 (fun v115 N115 p115 => ?_)
        obtain ⟨rfl, q115⟩ := p115
        obtain rfl := q115.symm
        show mp_J Γ m_Mo_isArithmetic E κ M [(3, .long (am_num (A (dp - 2)))), (2, .int (nI 2)), (0, .ref (R 0)), (1, .int (nI 158))] 118 [.long (am_num (A (dp - 1)))] 0 0
        refine j_goto (tgt := 122) d_Mo_isArithmetic_118 (by decide) ?_
        refine j_lstore [(5, .long (am_num (A (dp - 1)))), (3, .long (am_num (A (dp - 2)))), (2, .int (nI 2)), (0, .ref (R 0)), (1, .int (nI 158))] d_Mo_isArithmetic_122 (by decide) rfl ?_
        refine j_iload_n d_Mo_isArithmetic_124 rfl 2 rfl ?_
        refine j_iconst (v := nI 2) d_Mo_isArithmetic_125 (by decide) ?_
        refine j_ncmp_le 142 2 2 rfl rfl (by omega) (by omega) d_Mo_isArithmetic_126 (by decide) (fun b126 => ?_) (fun b126 => (by first | exact b126.elim | exact absurd b126 (by omega)))
        refine j_lconst (v := 0) d_Mo_isArithmetic_142 (by decide) ?_
        refine j_lstore [(7, .long 0), (5, .long (am_num (A (dp - 1)))), (3, .long (am_num (A (dp - 2)))), (2, .int (nI 2)), (0, .ref (R 0)), (1, .int (nI 158))] d_Mo_isArithmetic_143 (by decide) rfl ?_
        have v1 := am_num_lim (x := A (dp - 1)) (by assumption)
        have v2 := am_num_lim (x := A (dp - 2)) (by assumption)
        refine j_aload_n d_Mo_isArithmetic_145 rfl 4 rfl ?_
        refine j_dup d_Mo_isArithmetic_146 rfl ?_
        refine j_get F_Mo hI.1 11 (by decide) w_954 (Or.inl rfl) rfl d_Mo_isArithmetic_147 ?_
        refine j_iload_n d_Mo_isArithmetic_150 rfl 3 rfl ?_
        refine j_isub d_Mo_isArithmetic_151 ?_
        refine j_eqi (y := nI (dp - 2)) (pk_sub (by omega)) ?_
        refine j_put F_Mo hI.1 11 (by decide) w_954 (Or.inl rfl) rfl rfl rfl (Nat.le_of_ble_eq_true rfl) d_Mo_isArithmetic_152 ?_
        show mp_J Γ m_Mo_isArithmetic E κ (mp_up M (R 0) (mp_o 7 [.ref (R 1), .int (nI rows), .int thr, .ref (R 2), .ref (R 3), .ref (R 4), .ref (R 5), .ref (R 6), .ref (R 7), .ref (R 8), .ref (R 9), .int (nI (dp - 2)), .int (nI as_), .int (nI ops), .ref (R 10)])) [(7, .long 0), (5, .long (am_num (A (dp - 1)))), (3, .long (am_num (A (dp - 2)))), (2, .int (nI 2)), (0, .ref (R 0)), (1, .int (nI 158))] 155 [] 0 0
        generalize eM1 : mp_up M (R 0) (mp_o 7 [.ref (R 1), .int (nI rows), .int thr, .ref (R 2), .ref (R 3), .ref (R 4), .ref (R 5), .ref (R 6), .ref (R 7), .ref (R 8), .ref (R 9), .int (nI (dp - 2)), .int (nI as_), .int (nI ops), .ref (R 10)]) = M1
        have hM1__R_0_ : M1 (R 0) = some (mp_o 7 [.ref (R 1), .int (nI rows), .int thr, .ref (R 2), .ref (R 3), .ref (R 4), .ref (R 5), .ref (R 6), .ref (R 7), .ref (R 8), .ref (R 9), .int (nI (dp - 2)), .int (nI as_), .int (nI ops), .ref (R 10)]) := by rw [← eM1]; exact mp_s
        have JM1 : RI E M1 R rows thr (dp - 2) as_ ops A := hI.set hR eM1
        have fM1 : RFr R M M1 := RFr.s0 eM1
        refine j_iload_n d_Mo_isArithmetic_155 rfl 5 rfl ?_
        refine j_tableIn 442 d_Mo_isArithmetic_156 (by decide) (by decide) rfl (by decide) ?_
        refine j_lload_n d_Mo_isArithmetic_442 rfl 2 rfl ?_
        refine j_lload d_Mo_isArithmetic_443 1 rfl ?_
        refine j_lcmp d_Mo_isArithmetic_445 ?_
        refine j_if_eq 453 d_Mo_isArithmetic_446 (by decide) (fun b446 => ?_) (fun b446 => ?_)
        · skip
          refine j_lconst (v := 0) d_Mo_isArithmetic_453 (by decide) ?_
          refine j_lstore [(9, .long 0), (7, .long 0), (5, .long (am_num (A (dp - 1)))), (3, .long (am_num (A (dp - 2)))), (2, .int (nI 2)), (0, .ref (R 0)), (1, .int (nI 158))] d_Mo_isArithmetic_454 (by decide) rfl ?_
          refine j_goto (tgt := 584) d_Mo_isArithmetic_456 (by decide) ?_
          refine j_aload_n d_Mo_isArithmetic_584 rfl 5 rfl ?_
          refine j_lload d_Mo_isArithmetic_585 0 rfl ?_
          refine j_callV (As := [.long 0]) (rest := []) (r_pushNumber Γ.l JM1 hR 0 (am_mag_lt (by decide)) (by omega)) Y_Mo_pushNumber w_1031 w_1033 ws_33 hM1__R_0_ rfl rfl rfl (Nat.le_of_ble_eq_true rfl) (by omega) (by omega) (by omega) d_Mo_isArithmetic_587 (fun v587 N587 p587 => ?_)
          obtain ⟨rfl, I587, f587⟩ := p587
          show mp_J Γ m_Mo_isArithmetic E κ N587 [(9, .long 0), (7, .long 0), (5, .long (am_num (A (dp - 1)))), (3, .long (am_num (A (dp - 2)))), (2, .int (nI 2)), (0, .ref (R 0)), (1, .int (nI 158))] 590 [] 0 0
          refine j_iconst (v := nI 1) d_Mo_isArithmetic_590 (by decide) ?_
          exact j_zret hκ rfl (by first | exact Or.inl rfl | exact Or.inr rfl) (by omega) (by omega) d_Mo_isArithmetic_591 (RQ.t I587 (fM1.trans f587) (by omega) (by unfold am_op; rw [if_neg (by decide), if_neg (by decide), if_neg (by decide), if_neg (by decide), if_pos (by decide)]; exact ar2 (by omega) (by omega) (show _ = some ((am_bt (decide (am_num ((LM A dp).getD 1 []) ≠ am_num ((LM A dp).getD 0 [])))) :: (LM A dp).drop 2, LO A as_, b, ops) from by unfold a_join; rw [if_neg (fun z => z (an_2 (by omega) (by assumption) (by assumption))), if_neg (by decide), if_neg (by decide), if_neg (by decide), if_neg (by decide), if_neg (by decide), if_neg (by decide), if_pos rfl]) (by rw [g0 (by omega), g1 (by omega)]; first | exact am_b0 (fun h => h ((lg_cmp_eq _ _).mp b446)))))
        · skip
          refine j_lconst (v := 1) d_Mo_isArithmetic_449 (by decide) ?_
          refine j_goto (tgt := 454) d_Mo_isArithmetic_450 (by decide) ?_
          refine j_lstore [(9, .long 1), (7, .long 0), (5, .long (am_num (A (dp - 1)))), (3, .long (am_num (A (dp - 2)))), (2, .int (nI 2)), (0, .ref (R 0)), (1, .int (nI 158))] d_Mo_isArithmetic_454 (by decide) rfl ?_
          refine j_goto (tgt := 584) d_Mo_isArithmetic_456 (by decide) ?_
          refine j_aload_n d_Mo_isArithmetic_584 rfl 5 rfl ?_
          refine j_lload d_Mo_isArithmetic_585 0 rfl ?_
          refine j_callV (As := [.long 1]) (rest := []) (r_pushNumber Γ.l JM1 hR 1 (am_mag_lt (by decide)) (by omega)) Y_Mo_pushNumber w_1031 w_1033 ws_33 hM1__R_0_ rfl rfl rfl (Nat.le_of_ble_eq_true rfl) (by omega) (by omega) (by omega) d_Mo_isArithmetic_587 (fun v587 N587 p587 => ?_)
          obtain ⟨rfl, I587, f587⟩ := p587
          show mp_J Γ m_Mo_isArithmetic E κ N587 [(9, .long 1), (7, .long 0), (5, .long (am_num (A (dp - 1)))), (3, .long (am_num (A (dp - 2)))), (2, .int (nI 2)), (0, .ref (R 0)), (1, .int (nI 158))] 590 [] 0 0
          refine j_iconst (v := nI 1) d_Mo_isArithmetic_590 (by decide) ?_
          exact j_zret hκ rfl (by first | exact Or.inl rfl | exact Or.inr rfl) (by omega) (by omega) d_Mo_isArithmetic_591 (RQ.t I587 (fM1.trans f587) (by omega) (by unfold am_op; rw [if_neg (by decide), if_neg (by decide), if_neg (by decide), if_neg (by decide), if_pos (by decide)]; exact ar2 (by omega) (by omega) (show _ = some ((am_bt (decide (am_num ((LM A dp).getD 1 []) ≠ am_num ((LM A dp).getD 0 [])))) :: (LM A dp).drop 2, LO A as_, b, ops) from by unfold a_join; rw [if_neg (fun z => z (an_2 (by omega) (by assumption) (by assumption))), if_neg (by decide), if_neg (by decide), if_neg (by decide), if_neg (by decide), if_neg (by decide), if_neg (by decide), if_pos rfl]) (by rw [g0 (by omega), g1 (by omega)]; first | exact am_b1 (fun h => b446 ((lg_cmp_eq _ _).mpr h)))))
      · skip
        have d79 := of_decide_eq_false b79
        refine j_iconst (v := nI 0) d_Mo_isArithmetic_82 (by decide) ?_
        exact j_zret hκ rfl (by first | exact Or.inl rfl | exact Or.inr rfl) (by omega) (by omega) d_Mo_isArithmetic_83 (RQ.f hI RFr.refl (by omega) (by unfold am_op; rw [if_neg (by decide), if_neg (by decide), if_neg (by decide), if_neg (by decide), if_pos (by decide)]; unfold a_join; rw [if_pos (an_f (p := 1) (by decide) (Or.inr ⟨by omega, by rw [show dp - 1 - 1 = dp - 2 by omega]; exact d79⟩))]))
    · skip
      have d79 := of_decide_eq_false b79
      refine j_iconst (v := nI 0) d_Mo_isArithmetic_82 (by decide) ?_
      exact j_zret hκ rfl (by first | exact Or.inl rfl | exact Or.inr rfl) (by omega) (by omega) d_Mo_isArithmetic_83 (RQ.f hI RFr.refl (by omega) (by unfold am_op; rw [if_neg (by decide), if_neg (by decide), if_neg (by decide), if_neg (by decide), if_pos (by decide)]; unfold a_join; rw [if_pos (an_f (p := 0) (by decide) (Or.inr ⟨by omega, by rw [show dp - 1 - 0 = dp - 1 by omega]; exact d79⟩))]))
  · skip
    have d57 := of_decide_eq_false b57
    refine j_iconst (v := nI 0) d_Mo_isArithmetic_60 (by decide) ?_
    exact j_zret hκ rfl (by first | exact Or.inl rfl | exact Or.inr rfl) (by omega) (by omega) d_Mo_isArithmetic_61 (RQ.f hI RFr.refl (by omega) (by unfold am_op; rw [if_neg (by decide), if_neg (by decide), if_neg (by decide), if_neg (by decide), if_pos (by decide)]; unfold a_join; rw [if_pos (an_f (p := 0) (by decide) (Or.inl (by omega)))]))

set_option maxHeartbeats 4000000 in
set_option maxRecDepth 100000 in
theorem c_Mo_ar_159 (l : Launch) (E : mp_E) (M : mp_M) (R : Nat → Nat) (rows : Nat) (thr : Int32) (dp as_ ops : Nat) (A : Nat → am_T) (b : List Bool) (hI : RI E M R rows thr dp as_ ops A) (hR : RL R) (hd : dp + as_ ≤ 200) (hk : ops ≤ 1000) : mp_Cr l m_Mo_isArithmetic E M 2 0 0 [.ref (R 0), .int (nI 159)] (RQ E R M rows thr b (am_op 159 (LM A dp) (LO A as_) b ops)) := by
  refine mp_Cr.of (by decide) (Nat.le_of_ble_eq_true rfl) fun Γ κ hl hκ => ?_
  subst hl
  obtain ⟨hκd, hκc, hκs, -⟩ := id hκ
  show mp_J Γ m_Mo_isArithmetic E κ M [(0, .ref (R 0)), (1, .int (nI 159))] 0 [] 0 0
  refine j_iload_n d_Mo_isArithmetic_0 rfl 1 rfl ?_
  refine j_sipush (v := nI 165) d_Mo_isArithmetic_1 (by decide) ?_
  refine j_ncmp_ne 11 159 165 rfl rfl (by omega) (by omega) d_Mo_isArithmetic_4 (by decide) (fun b4 => ?_) (fun b4 => (by first | exact b4.elim | exact absurd b4 (by omega)))
  refine j_iload_n d_Mo_isArithmetic_11 rfl 1 rfl ?_
  refine j_sipush (v := nI 146) d_Mo_isArithmetic_12 (by decide) ?_
  refine j_ncmp_gt 22 159 146 rfl rfl (by omega) (by omega) d_Mo_isArithmetic_15 (by decide) (fun b15 => ?_) (fun b15 => (by first | exact b15.elim | exact absurd b15 (by omega)))
  refine j_iconst (v := nI 2) d_Mo_isArithmetic_22 (by decide) ?_
  refine j_istore_n [(2, .int (nI 2)), (0, .ref (R 0)), (1, .int (nI 159))] d_Mo_isArithmetic_23 rfl (by decide) rfl ?_
  refine j_iload_n d_Mo_isArithmetic_24 rfl 2 rfl ?_
  refine j_sipush (v := nI 141) d_Mo_isArithmetic_25 (by decide) ?_
  refine j_ncmp_eq 60 159 141 rfl rfl (by omega) (by omega) d_Mo_isArithmetic_28 (by decide) (fun b28 => (by first | exact b28.elim | exact absurd b28 (by omega))) (fun b28 => ?_)
  refine j_iload_n d_Mo_isArithmetic_31 rfl 2 rfl ?_
  refine j_sipush (v := nI 142) d_Mo_isArithmetic_32 (by decide) ?_
  refine j_ncmp_eq 60 159 142 rfl rfl (by omega) (by omega) d_Mo_isArithmetic_35 (by decide) (fun b35 => (by first | exact b35.elim | exact absurd b35 (by omega))) (fun b35 => ?_)
  refine j_iload_n d_Mo_isArithmetic_38 rfl 2 rfl ?_
  refine j_sipush (v := nI 149) d_Mo_isArithmetic_39 (by decide) ?_
  refine j_ncmp_lt 52 159 149 rfl rfl (by omega) (by omega) d_Mo_isArithmetic_42 (by decide) (fun b42 => (by first | exact b42.elim | exact absurd b42 (by omega))) (fun b42 => ?_)
  refine j_iload_n d_Mo_isArithmetic_45 rfl 2 rfl ?_
  refine j_sipush (v := nI 153) d_Mo_isArithmetic_46 (by decide) ?_
  refine j_ncmp_le 60 159 153 rfl rfl (by omega) (by omega) d_Mo_isArithmetic_49 (by decide) (fun b49 => (by first | exact b49.elim | exact absurd b49 (by omega))) (fun b49 => ?_)
  refine j_aload_n d_Mo_isArithmetic_52 rfl 1 rfl ?_
  refine j_iload_n d_Mo_isArithmetic_53 rfl 0 rfl ?_
  refine j_callV (As := [.int (nI 2)]) (rest := []) (c_Mo_has Γ.l E M (R 0) (R 1) rows (R 2) (R 3) (R 4) (R 5) (R 6) (R 7) (R 8) (R 9) dp as_ ops (R 10) thr 2 hI.1 (by omega) (by omega)) Y_Mo_has w_1039 w_1041 ws_35 hI.1 rfl rfl rfl (Nat.le_of_ble_eq_true rfl) (by omega) (by omega) (by omega) d_Mo_isArithmetic_54 (fun v54 N54 p54 => ?_)
  obtain ⟨rfl, q54⟩ := p54
  obtain rfl := q54.symm
  show mp_J Γ m_Mo_isArithmetic E κ M [(2, .int (nI 2)), (0, .ref (R 0)), (1, .int (nI 159))] 57 [.int (tf (decide (2 ≤ dp)))] 0 0
  refine j_tif_ne 62 d_Mo_isArithmetic_57 (by decide) (fun b57 => ?_) (fun b57 => ?_)
  · skip
    have d57 := of_decide_eq_true b57
    refine j_iconst (v := nI 1) d_Mo_isArithmetic_62 (by decide) ?_
    refine j_istore_n [(3, .int (nI 1)), (2, .int (nI 2)), (0, .ref (R 0)), (1, .int (nI 159))] d_Mo_isArithmetic_63 rfl (by decide) rfl ?_
    refine j_iload_n d_Mo_isArithmetic_64 rfl 0 rfl ?_
    refine j_iload_n d_Mo_isArithmetic_65 rfl 1 rfl ?_
    refine j_ncmp_gt 90 1 2 rfl rfl (by omega) (by omega) d_Mo_isArithmetic_66 (by decide) (fun b66 => (by first | exact b66.elim | exact absurd b66 (by omega))) (fun b66 => ?_)
    refine j_aload_n d_Mo_isArithmetic_69 rfl 2 rfl ?_
    refine j_aload_n d_Mo_isArithmetic_70 rfl 2 rfl ?_
    refine j_get F_Mo hI.1 11 (by decide) w_954 (Or.inl rfl) rfl d_Mo_isArithmetic_71 ?_
    refine j_iload_n d_Mo_isArithmetic_74 rfl 0 rfl ?_
    refine j_isub d_Mo_isArithmetic_75 ?_
    refine j_eqi (y := nI (dp - 1)) (pk_sub (by omega)) ?_
    refine j_callV (As := [.int (nI (dp - 1))]) (rest := []) (r_isNumber Γ.l hI (dp - 1) (by omega)) Y_Mo_isNumber w_1043 w_1045 ws_36 hI.1 rfl rfl rfl (Nat.le_of_ble_eq_true rfl) (by omega) (by omega) (by omega) d_Mo_isArithmetic_76 (fun v76 N76 p76 => ?_)
    obtain ⟨rfl, q76⟩ := p76
    obtain rfl := q76.symm
    show mp_J Γ m_Mo_isArithmetic E κ M [(3, .int (nI 1)), (2, .int (nI 2)), (0, .ref (R 0)), (1, .int (nI 159))] 79 [.int (tf (decide ((A (dp - 1)).length ≤ 4)))] 0 0
    refine j_tif_ne 84 d_Mo_isArithmetic_79 (by decide) (fun b79 => ?_) (fun b79 => ?_)
    · skip
      have d79 := of_decide_eq_true b79
      refine j_iinc (v := nI 2) [(3, .int (nI 2)), (2, .int (nI 2)), (0, .ref (R 0)), (1, .int (nI 159))] d_Mo_isArithmetic_84 0 rfl (by decide) (by decide) rfl ?_
      refine j_goto (tgt := 64) d_Mo_isArithmetic_87 (by decide) ?_
      refine j_iload_n d_Mo_isArithmetic_64 rfl 0 rfl ?_
      refine j_iload_n d_Mo_isArithmetic_65 rfl 1 rfl ?_
      refine j_ncmp_gt 90 2 2 rfl rfl (by omega) (by omega) d_Mo_isArithmetic_66 (by decide) (fun b66 => (by first | exact b66.elim | exact absurd b66 (by omega))) (fun b66 => ?_)
      refine j_aload_n d_Mo_isArithmetic_69 rfl 2 rfl ?_
      refine j_aload_n d_Mo_isArithmetic_70 rfl 2 rfl ?_
      refine j_get F_Mo hI.1 11 (by decide) w_954 (Or.inl rfl) rfl d_Mo_isArithmetic_71 ?_
      refine j_iload_n d_Mo_isArithmetic_74 rfl 0 rfl ?_
      refine j_isub d_Mo_isArithmetic_75 ?_
      refine j_eqi (y := nI (dp - 2)) (pk_sub (by omega)) ?_
      refine j_callV (As := [.int (nI (dp - 2))]) (rest := []) (r_isNumber Γ.l hI (dp - 2) (by omega)) Y_Mo_isNumber w_1043 w_1045 ws_36 hI.1 rfl rfl rfl (Nat.le_of_ble_eq_true rfl) (by omega) (by omega) (by omega) d_Mo_isArithmetic_76 (fun v76 N76 p76 => ?_)
      obtain ⟨rfl, q76⟩ := p76
      obtain rfl := q76.symm
      show mp_J Γ m_Mo_isArithmetic E κ M [(3, .int (nI 2)), (2, .int (nI 2)), (0, .ref (R 0)), (1, .int (nI 159))] 79 [.int (tf (decide ((A (dp - 2)).length ≤ 4)))] 0 0
      refine j_tif_ne 84 d_Mo_isArithmetic_79 (by decide) (fun b79 => ?_) (fun b79 => ?_)
      · skip
        have d79 := of_decide_eq_true b79
        refine j_iinc (v := nI 3) [(3, .int (nI 3)), (2, .int (nI 2)), (0, .ref (R 0)), (1, .int (nI 159))] d_Mo_isArithmetic_84 0 rfl (by decide) (by decide) rfl ?_
        refine j_goto (tgt := 64) d_Mo_isArithmetic_87 (by decide) ?_
        refine j_iload_n d_Mo_isArithmetic_64 rfl 0 rfl ?_
        refine j_iload_n d_Mo_isArithmetic_65 rfl 1 rfl ?_
        refine j_ncmp_gt 90 3 2 rfl rfl (by omega) (by omega) d_Mo_isArithmetic_66 (by decide) (fun b66 => ?_) (fun b66 => (by first | exact b66.elim | exact absurd b66 (by omega)))
        refine j_aload_n d_Mo_isArithmetic_90 rfl 2 rfl ?_
        refine j_aload_n d_Mo_isArithmetic_91 rfl 2 rfl ?_
        refine j_get F_Mo hI.1 11 (by decide) w_954 (Or.inl rfl) rfl d_Mo_isArithmetic_92 ?_
        refine j_iload_n d_Mo_isArithmetic_95 rfl 1 rfl ?_
        refine j_isub d_Mo_isArithmetic_96 ?_
        refine j_eqi (y := nI (dp - 2)) (pk_sub (by omega)) ?_
        refine j_callV (As := [.int (nI (dp - 2))]) (rest := []) (r_numberAt Γ.l hI (dp - 2) (by omega) (by assumption)) Y_Mo_numberAt w_1047 w_1049 ws_37 hI.1 rfl rfl rfl (Nat.le_of_ble_eq_true rfl) (by omega) (by omega) (by omega) d_Mo_isArithmetic_97 (fun v97 N97 p97 => ?_)
        obtain ⟨rfl, q97⟩ := p97
        obtain rfl := q97.symm
        show mp_J Γ m_Mo_isArithmetic E κ M [(3, .int (nI 3)), (2, .int (nI 2)), (0, .ref (R 0)), (1, .int (nI 159))] 100 [.long (am_num (A (dp - 2)))] 0 0
        refine j_lstore_n [(3, .long (am_num (A (dp - 2)))), (2, .int (nI 2)), (0, .ref (R 0)), (1, .int (nI 159))] d_Mo_isArithmetic_100 rfl (by decide) rfl ?_
        refine j_iload_n d_Mo_isArithmetic_101 rfl 1 rfl ?_
        refine j_iconst (v := nI 1) d_Mo_isArithmetic_102 (by decide) ?_
        refine j_ncmp_le 121 2 1 rfl rfl (by omega) (by omega) d_Mo_isArithmetic_103 (by decide) (fun b103 => (by first | exact b103.elim | exact absurd b103 (by omega))) (fun b103 => ?_)
        refine j_aload_n d_Mo_isArithmetic_106 rfl 2 rfl ?_
        refine j_aload_n d_Mo_isArithmetic_107 rfl 2 rfl ?_
        refine j_get F_Mo hI.1 11 (by decide) w_954 (Or.inl rfl) rfl d_Mo_isArithmetic_108 ?_
        refine j_iload_n d_Mo_isArithmetic_111 rfl 1 rfl ?_
        refine j_isub d_Mo_isArithmetic_112 ?_
        refine j_eqi (y := nI (dp - 2)) (pk_sub (by omega)) ?_
        refine j_iconst (v := nI 1) d_Mo_isArithmetic_113 (by decide) ?_
        refine j_iadd d_Mo_isArithmetic_114 ?_
        refine j_eqi (y := nI ((dp - 2) + 1)) (nI_add (dp - 2) 1) ?_
        refine j_eqi (y := nI (dp - 1)) (by rw [show dp - 2 + 1 = dp - 1 by omega]) ?_
        refine j_callV (As := [.int (nI (dp - 1))]) (rest := []) (r_numberAt Γ.l hI (dp - 1) (by omega) (by assumption)) Y_Mo_numberAt w_1047 w_1049 ws_37 hI.1 rfl rfl rfl (Nat.le_of_ble_eq_true rfl) (by omega) (by omega) (by omega) d_Mo_isArithmetic_115 (fun v115 N115 p115 => ?_)
        obtain ⟨rfl, q115⟩ := p115
        obtain rfl := q115.symm
        show mp_J Γ m_Mo_isArithmetic E κ M [(3, .long (am_num (A (dp - 2)))), (2, .int (nI 2)), (0, .ref (R 0)), (1, .int (nI 159))] 118 [.long (am_num (A (dp - 1)))] 0 0
        refine j_goto (tgt := 122) d_Mo_isArithmetic_118 (by decide) ?_
        refine j_lstore [(5, .long (am_num (A (dp - 1)))), (3, .long (am_num (A (dp - 2)))), (2, .int (nI 2)), (0, .ref (R 0)), (1, .int (nI 159))] d_Mo_isArithmetic_122 (by decide) rfl ?_
        refine j_iload_n d_Mo_isArithmetic_124 rfl 2 rfl ?_
        refine j_iconst (v := nI 2) d_Mo_isArithmetic_125 (by decide) ?_
        refine j_ncmp_le 142 2 2 rfl rfl (by omega) (by omega) d_Mo_isArithmetic_126 (by decide) (fun b126 => ?_) (fun b126 => (by first | exact b126.elim | exact absurd b126 (by omega)))
        refine j_lconst (v := 0) d_Mo_isArithmetic_142 (by decide) ?_
        refine j_lstore [(7, .long 0), (5, .long (am_num (A (dp - 1)))), (3, .long (am_num (A (dp - 2)))), (2, .int (nI 2)), (0, .ref (R 0)), (1, .int (nI 159))] d_Mo_isArithmetic_143 (by decide) rfl ?_
        have v1 := am_num_lim (x := A (dp - 1)) (by assumption)
        have v2 := am_num_lim (x := A (dp - 2)) (by assumption)
        refine j_aload_n d_Mo_isArithmetic_145 rfl 4 rfl ?_
        refine j_dup d_Mo_isArithmetic_146 rfl ?_
        refine j_get F_Mo hI.1 11 (by decide) w_954 (Or.inl rfl) rfl d_Mo_isArithmetic_147 ?_
        refine j_iload_n d_Mo_isArithmetic_150 rfl 3 rfl ?_
        refine j_isub d_Mo_isArithmetic_151 ?_
        refine j_eqi (y := nI (dp - 2)) (pk_sub (by omega)) ?_
        refine j_put F_Mo hI.1 11 (by decide) w_954 (Or.inl rfl) rfl rfl rfl (Nat.le_of_ble_eq_true rfl) d_Mo_isArithmetic_152 ?_
        show mp_J Γ m_Mo_isArithmetic E κ (mp_up M (R 0) (mp_o 7 [.ref (R 1), .int (nI rows), .int thr, .ref (R 2), .ref (R 3), .ref (R 4), .ref (R 5), .ref (R 6), .ref (R 7), .ref (R 8), .ref (R 9), .int (nI (dp - 2)), .int (nI as_), .int (nI ops), .ref (R 10)])) [(7, .long 0), (5, .long (am_num (A (dp - 1)))), (3, .long (am_num (A (dp - 2)))), (2, .int (nI 2)), (0, .ref (R 0)), (1, .int (nI 159))] 155 [] 0 0
        generalize eM1 : mp_up M (R 0) (mp_o 7 [.ref (R 1), .int (nI rows), .int thr, .ref (R 2), .ref (R 3), .ref (R 4), .ref (R 5), .ref (R 6), .ref (R 7), .ref (R 8), .ref (R 9), .int (nI (dp - 2)), .int (nI as_), .int (nI ops), .ref (R 10)]) = M1
        have hM1__R_0_ : M1 (R 0) = some (mp_o 7 [.ref (R 1), .int (nI rows), .int thr, .ref (R 2), .ref (R 3), .ref (R 4), .ref (R 5), .ref (R 6), .ref (R 7), .ref (R 8), .ref (R 9), .int (nI (dp - 2)), .int (nI as_), .int (nI ops), .ref (R 10)]) := by rw [← eM1]; exact mp_s
        have JM1 : RI E M1 R rows thr (dp - 2) as_ ops A := hI.set hR eM1
        have fM1 : RFr R M M1 := RFr.s0 eM1
        refine j_iload_n d_Mo_isArithmetic_155 rfl 5 rfl ?_
        refine j_tableIn 459 d_Mo_isArithmetic_156 (by decide) (by decide) rfl (by decide) ?_
        refine j_lload_n d_Mo_isArithmetic_459 rfl 2 rfl ?_
        refine j_lload d_Mo_isArithmetic_460 1 rfl ?_
        refine j_lcmp d_Mo_isArithmetic_462 ?_
        refine j_if_ge 470 d_Mo_isArithmetic_463 (by decide) (fun b463 => ?_) (fun b463 => ?_)
        · skip
          refine j_lconst (v := 0) d_Mo_isArithmetic_470 (by decide) ?_
          refine j_lstore [(9, .long 0), (7, .long 0), (5, .long (am_num (A (dp - 1)))), (3, .long (am_num (A (dp - 2)))), (2, .int (nI 2)), (0, .ref (R 0)), (1, .int (nI 159))] d_Mo_isArithmetic_471 (by decide) rfl ?_
          refine j_goto (tgt := 584) d_Mo_isArithmetic_473 (by decide) ?_
          refine j_aload_n d_Mo_isArithmetic_584 rfl 5 rfl ?_
          refine j_lload d_Mo_isArithmetic_585 0 rfl ?_
          refine j_callV (As := [.long 0]) (rest := []) (r_pushNumber Γ.l JM1 hR 0 (am_mag_lt (by decide)) (by omega)) Y_Mo_pushNumber w_1031 w_1033 ws_33 hM1__R_0_ rfl rfl rfl (Nat.le_of_ble_eq_true rfl) (by omega) (by omega) (by omega) d_Mo_isArithmetic_587 (fun v587 N587 p587 => ?_)
          obtain ⟨rfl, I587, f587⟩ := p587
          show mp_J Γ m_Mo_isArithmetic E κ N587 [(9, .long 0), (7, .long 0), (5, .long (am_num (A (dp - 1)))), (3, .long (am_num (A (dp - 2)))), (2, .int (nI 2)), (0, .ref (R 0)), (1, .int (nI 159))] 590 [] 0 0
          refine j_iconst (v := nI 1) d_Mo_isArithmetic_590 (by decide) ?_
          exact j_zret hκ rfl (by first | exact Or.inl rfl | exact Or.inr rfl) (by omega) (by omega) d_Mo_isArithmetic_591 (RQ.t I587 (fM1.trans f587) (by omega) (by unfold am_op; rw [if_neg (by decide), if_neg (by decide), if_neg (by decide), if_neg (by decide), if_neg (by decide), if_pos (by decide)]; exact ar3 (by omega) (by omega) (show _ = some ((am_bt (decide (am_num ((LM A dp).getD 1 []) < am_num ((LM A dp).getD 0 [])))) :: (LM A dp).drop 2, LO A as_, b, ops) from by unfold a_ord; rw [if_neg (fun z => z (an_2 (by omega) (by assumption) (by assumption))), if_pos rfl]) (by rw [g0 (by omega), g1 (by omega)]; first | exact am_b0 (Int64.not_lt.mpr ((lg_cmp_ge _ _).mp b463)))))
        · skip
          refine j_lconst (v := 1) d_Mo_isArithmetic_466 (by decide) ?_
          refine j_goto (tgt := 471) d_Mo_isArithmetic_467 (by decide) ?_
          refine j_lstore [(9, .long 1), (7, .long 0), (5, .long (am_num (A (dp - 1)))), (3, .long (am_num (A (dp - 2)))), (2, .int (nI 2)), (0, .ref (R 0)), (1, .int (nI 159))] d_Mo_isArithmetic_471 (by decide) rfl ?_
          refine j_goto (tgt := 584) d_Mo_isArithmetic_473 (by decide) ?_
          refine j_aload_n d_Mo_isArithmetic_584 rfl 5 rfl ?_
          refine j_lload d_Mo_isArithmetic_585 0 rfl ?_
          refine j_callV (As := [.long 1]) (rest := []) (r_pushNumber Γ.l JM1 hR 1 (am_mag_lt (by decide)) (by omega)) Y_Mo_pushNumber w_1031 w_1033 ws_33 hM1__R_0_ rfl rfl rfl (Nat.le_of_ble_eq_true rfl) (by omega) (by omega) (by omega) d_Mo_isArithmetic_587 (fun v587 N587 p587 => ?_)
          obtain ⟨rfl, I587, f587⟩ := p587
          show mp_J Γ m_Mo_isArithmetic E κ N587 [(9, .long 1), (7, .long 0), (5, .long (am_num (A (dp - 1)))), (3, .long (am_num (A (dp - 2)))), (2, .int (nI 2)), (0, .ref (R 0)), (1, .int (nI 159))] 590 [] 0 0
          refine j_iconst (v := nI 1) d_Mo_isArithmetic_590 (by decide) ?_
          exact j_zret hκ rfl (by first | exact Or.inl rfl | exact Or.inr rfl) (by omega) (by omega) d_Mo_isArithmetic_591 (RQ.t I587 (fM1.trans f587) (by omega) (by unfold am_op; rw [if_neg (by decide), if_neg (by decide), if_neg (by decide), if_neg (by decide), if_neg (by decide), if_pos (by decide)]; exact ar3 (by omega) (by omega) (show _ = some ((am_bt (decide (am_num ((LM A dp).getD 1 []) < am_num ((LM A dp).getD 0 [])))) :: (LM A dp).drop 2, LO A as_, b, ops) from by unfold a_ord; rw [if_neg (fun z => z (an_2 (by omega) (by assumption) (by assumption))), if_pos rfl]) (by rw [g0 (by omega), g1 (by omega)]; first | exact am_b1 (Int64.not_le.mp (fun h => b463 ((lg_cmp_ge _ _).mpr h))))))
      · skip
        have d79 := of_decide_eq_false b79
        refine j_iconst (v := nI 0) d_Mo_isArithmetic_82 (by decide) ?_
        exact j_zret hκ rfl (by first | exact Or.inl rfl | exact Or.inr rfl) (by omega) (by omega) d_Mo_isArithmetic_83 (RQ.f hI RFr.refl (by omega) (by unfold am_op; rw [if_neg (by decide), if_neg (by decide), if_neg (by decide), if_neg (by decide), if_neg (by decide), if_pos (by decide)]; unfold a_ord; rw [if_pos (an_f (p := 1) (by decide) (Or.inr ⟨by omega, by rw [show dp - 1 - 1 = dp - 2 by omega]; exact d79⟩))]))
    · skip
      have d79 := of_decide_eq_false b79
      refine j_iconst (v := nI 0) d_Mo_isArithmetic_82 (by decide) ?_
      exact j_zret hκ rfl (by first | exact Or.inl rfl | exact Or.inr rfl) (by omega) (by omega) d_Mo_isArithmetic_83 (RQ.f hI RFr.refl (by omega) (by unfold am_op; rw [if_neg (by decide), if_neg (by decide), if_neg (by decide), if_neg (by decide), if_neg (by decide), if_pos (by decide)]; unfold a_ord; rw [if_pos (an_f (p := 0) (by decide) (Or.inr ⟨by omega, by rw [show dp - 1 - 0 = dp - 1 by omega]; exact d79⟩))]))
  · skip
    have d57 := of_decide_eq_false b57
    refine j_iconst (v := nI 0) d_Mo_isArithmetic_60 (by decide) ?_
    exact j_zret hκ rfl (by first | exact Or.inl rfl | exact Or.inr rfl) (by omega) (by omega) d_Mo_isArithmetic_61 (RQ.f hI RFr.refl (by omega) (by unfold am_op; rw [if_neg (by decide), if_neg (by decide), if_neg (by decide), if_neg (by decide), if_neg (by decide), if_pos (by decide)]; unfold a_ord; rw [if_pos (an_f (p := 0) (by decide) (Or.inl (by omega)))]))

set_option maxHeartbeats 4000000 in
set_option maxRecDepth 100000 in
theorem c_Mo_ar_160 (l : Launch) (E : mp_E) (M : mp_M) (R : Nat → Nat) (rows : Nat) (thr : Int32) (dp as_ ops : Nat) (A : Nat → am_T) (b : List Bool) (hI : RI E M R rows thr dp as_ ops A) (hR : RL R) (hd : dp + as_ ≤ 200) (hk : ops ≤ 1000) : mp_Cr l m_Mo_isArithmetic E M 2 0 0 [.ref (R 0), .int (nI 160)] (RQ E R M rows thr b (am_op 160 (LM A dp) (LO A as_) b ops)) := by
  refine mp_Cr.of (by decide) (Nat.le_of_ble_eq_true rfl) fun Γ κ hl hκ => ?_
  subst hl
  obtain ⟨hκd, hκc, hκs, -⟩ := id hκ
  show mp_J Γ m_Mo_isArithmetic E κ M [(0, .ref (R 0)), (1, .int (nI 160))] 0 [] 0 0
  refine j_iload_n d_Mo_isArithmetic_0 rfl 1 rfl ?_
  refine j_sipush (v := nI 165) d_Mo_isArithmetic_1 (by decide) ?_
  refine j_ncmp_ne 11 160 165 rfl rfl (by omega) (by omega) d_Mo_isArithmetic_4 (by decide) (fun b4 => ?_) (fun b4 => (by first | exact b4.elim | exact absurd b4 (by omega)))
  refine j_iload_n d_Mo_isArithmetic_11 rfl 1 rfl ?_
  refine j_sipush (v := nI 146) d_Mo_isArithmetic_12 (by decide) ?_
  refine j_ncmp_gt 22 160 146 rfl rfl (by omega) (by omega) d_Mo_isArithmetic_15 (by decide) (fun b15 => ?_) (fun b15 => (by first | exact b15.elim | exact absurd b15 (by omega)))
  refine j_iconst (v := nI 2) d_Mo_isArithmetic_22 (by decide) ?_
  refine j_istore_n [(2, .int (nI 2)), (0, .ref (R 0)), (1, .int (nI 160))] d_Mo_isArithmetic_23 rfl (by decide) rfl ?_
  refine j_iload_n d_Mo_isArithmetic_24 rfl 2 rfl ?_
  refine j_sipush (v := nI 141) d_Mo_isArithmetic_25 (by decide) ?_
  refine j_ncmp_eq 60 160 141 rfl rfl (by omega) (by omega) d_Mo_isArithmetic_28 (by decide) (fun b28 => (by first | exact b28.elim | exact absurd b28 (by omega))) (fun b28 => ?_)
  refine j_iload_n d_Mo_isArithmetic_31 rfl 2 rfl ?_
  refine j_sipush (v := nI 142) d_Mo_isArithmetic_32 (by decide) ?_
  refine j_ncmp_eq 60 160 142 rfl rfl (by omega) (by omega) d_Mo_isArithmetic_35 (by decide) (fun b35 => (by first | exact b35.elim | exact absurd b35 (by omega))) (fun b35 => ?_)
  refine j_iload_n d_Mo_isArithmetic_38 rfl 2 rfl ?_
  refine j_sipush (v := nI 149) d_Mo_isArithmetic_39 (by decide) ?_
  refine j_ncmp_lt 52 160 149 rfl rfl (by omega) (by omega) d_Mo_isArithmetic_42 (by decide) (fun b42 => (by first | exact b42.elim | exact absurd b42 (by omega))) (fun b42 => ?_)
  refine j_iload_n d_Mo_isArithmetic_45 rfl 2 rfl ?_
  refine j_sipush (v := nI 153) d_Mo_isArithmetic_46 (by decide) ?_
  refine j_ncmp_le 60 160 153 rfl rfl (by omega) (by omega) d_Mo_isArithmetic_49 (by decide) (fun b49 => (by first | exact b49.elim | exact absurd b49 (by omega))) (fun b49 => ?_)
  refine j_aload_n d_Mo_isArithmetic_52 rfl 1 rfl ?_
  refine j_iload_n d_Mo_isArithmetic_53 rfl 0 rfl ?_
  refine j_callV (As := [.int (nI 2)]) (rest := []) (c_Mo_has Γ.l E M (R 0) (R 1) rows (R 2) (R 3) (R 4) (R 5) (R 6) (R 7) (R 8) (R 9) dp as_ ops (R 10) thr 2 hI.1 (by omega) (by omega)) Y_Mo_has w_1039 w_1041 ws_35 hI.1 rfl rfl rfl (Nat.le_of_ble_eq_true rfl) (by omega) (by omega) (by omega) d_Mo_isArithmetic_54 (fun v54 N54 p54 => ?_)
  obtain ⟨rfl, q54⟩ := p54
  obtain rfl := q54.symm
  show mp_J Γ m_Mo_isArithmetic E κ M [(2, .int (nI 2)), (0, .ref (R 0)), (1, .int (nI 160))] 57 [.int (tf (decide (2 ≤ dp)))] 0 0
  refine j_tif_ne 62 d_Mo_isArithmetic_57 (by decide) (fun b57 => ?_) (fun b57 => ?_)
  · skip
    have d57 := of_decide_eq_true b57
    refine j_iconst (v := nI 1) d_Mo_isArithmetic_62 (by decide) ?_
    refine j_istore_n [(3, .int (nI 1)), (2, .int (nI 2)), (0, .ref (R 0)), (1, .int (nI 160))] d_Mo_isArithmetic_63 rfl (by decide) rfl ?_
    refine j_iload_n d_Mo_isArithmetic_64 rfl 0 rfl ?_
    refine j_iload_n d_Mo_isArithmetic_65 rfl 1 rfl ?_
    refine j_ncmp_gt 90 1 2 rfl rfl (by omega) (by omega) d_Mo_isArithmetic_66 (by decide) (fun b66 => (by first | exact b66.elim | exact absurd b66 (by omega))) (fun b66 => ?_)
    refine j_aload_n d_Mo_isArithmetic_69 rfl 2 rfl ?_
    refine j_aload_n d_Mo_isArithmetic_70 rfl 2 rfl ?_
    refine j_get F_Mo hI.1 11 (by decide) w_954 (Or.inl rfl) rfl d_Mo_isArithmetic_71 ?_
    refine j_iload_n d_Mo_isArithmetic_74 rfl 0 rfl ?_
    refine j_isub d_Mo_isArithmetic_75 ?_
    refine j_eqi (y := nI (dp - 1)) (pk_sub (by omega)) ?_
    refine j_callV (As := [.int (nI (dp - 1))]) (rest := []) (r_isNumber Γ.l hI (dp - 1) (by omega)) Y_Mo_isNumber w_1043 w_1045 ws_36 hI.1 rfl rfl rfl (Nat.le_of_ble_eq_true rfl) (by omega) (by omega) (by omega) d_Mo_isArithmetic_76 (fun v76 N76 p76 => ?_)
    obtain ⟨rfl, q76⟩ := p76
    obtain rfl := q76.symm
    show mp_J Γ m_Mo_isArithmetic E κ M [(3, .int (nI 1)), (2, .int (nI 2)), (0, .ref (R 0)), (1, .int (nI 160))] 79 [.int (tf (decide ((A (dp - 1)).length ≤ 4)))] 0 0
    refine j_tif_ne 84 d_Mo_isArithmetic_79 (by decide) (fun b79 => ?_) (fun b79 => ?_)
    · skip
      have d79 := of_decide_eq_true b79
      refine j_iinc (v := nI 2) [(3, .int (nI 2)), (2, .int (nI 2)), (0, .ref (R 0)), (1, .int (nI 160))] d_Mo_isArithmetic_84 0 rfl (by decide) (by decide) rfl ?_
      refine j_goto (tgt := 64) d_Mo_isArithmetic_87 (by decide) ?_
      refine j_iload_n d_Mo_isArithmetic_64 rfl 0 rfl ?_
      refine j_iload_n d_Mo_isArithmetic_65 rfl 1 rfl ?_
      refine j_ncmp_gt 90 2 2 rfl rfl (by omega) (by omega) d_Mo_isArithmetic_66 (by decide) (fun b66 => (by first | exact b66.elim | exact absurd b66 (by omega))) (fun b66 => ?_)
      refine j_aload_n d_Mo_isArithmetic_69 rfl 2 rfl ?_
      refine j_aload_n d_Mo_isArithmetic_70 rfl 2 rfl ?_
      refine j_get F_Mo hI.1 11 (by decide) w_954 (Or.inl rfl) rfl d_Mo_isArithmetic_71 ?_
      refine j_iload_n d_Mo_isArithmetic_74 rfl 0 rfl ?_
      refine j_isub d_Mo_isArithmetic_75 ?_
      refine j_eqi (y := nI (dp - 2)) (pk_sub (by omega)) ?_
      refine j_callV (As := [.int (nI (dp - 2))]) (rest := []) (r_isNumber Γ.l hI (dp - 2) (by omega)) Y_Mo_isNumber w_1043 w_1045 ws_36 hI.1 rfl rfl rfl (Nat.le_of_ble_eq_true rfl) (by omega) (by omega) (by omega) d_Mo_isArithmetic_76 (fun v76 N76 p76 => ?_)
      obtain ⟨rfl, q76⟩ := p76
      obtain rfl := q76.symm
      show mp_J Γ m_Mo_isArithmetic E κ M [(3, .int (nI 2)), (2, .int (nI 2)), (0, .ref (R 0)), (1, .int (nI 160))] 79 [.int (tf (decide ((A (dp - 2)).length ≤ 4)))] 0 0
      refine j_tif_ne 84 d_Mo_isArithmetic_79 (by decide) (fun b79 => ?_) (fun b79 => ?_)
      · skip
        have d79 := of_decide_eq_true b79
        refine j_iinc (v := nI 3) [(3, .int (nI 3)), (2, .int (nI 2)), (0, .ref (R 0)), (1, .int (nI 160))] d_Mo_isArithmetic_84 0 rfl (by decide) (by decide) rfl ?_
        refine j_goto (tgt := 64) d_Mo_isArithmetic_87 (by decide) ?_
        refine j_iload_n d_Mo_isArithmetic_64 rfl 0 rfl ?_
        refine j_iload_n d_Mo_isArithmetic_65 rfl 1 rfl ?_
        refine j_ncmp_gt 90 3 2 rfl rfl (by omega) (by omega) d_Mo_isArithmetic_66 (by decide) (fun b66 => ?_) (fun b66 => (by first | exact b66.elim | exact absurd b66 (by omega)))
        refine j_aload_n d_Mo_isArithmetic_90 rfl 2 rfl ?_
        refine j_aload_n d_Mo_isArithmetic_91 rfl 2 rfl ?_
        refine j_get F_Mo hI.1 11 (by decide) w_954 (Or.inl rfl) rfl d_Mo_isArithmetic_92 ?_
        refine j_iload_n d_Mo_isArithmetic_95 rfl 1 rfl ?_
        refine j_isub d_Mo_isArithmetic_96 ?_
        refine j_eqi (y := nI (dp - 2)) (pk_sub (by omega)) ?_
        refine j_callV (As := [.int (nI (dp - 2))]) (rest := []) (r_numberAt Γ.l hI (dp - 2) (by omega) (by assumption)) Y_Mo_numberAt w_1047 w_1049 ws_37 hI.1 rfl rfl rfl (Nat.le_of_ble_eq_true rfl) (by omega) (by omega) (by omega) d_Mo_isArithmetic_97 (fun v97 N97 p97 => ?_)
        obtain ⟨rfl, q97⟩ := p97
        obtain rfl := q97.symm
        show mp_J Γ m_Mo_isArithmetic E κ M [(3, .int (nI 3)), (2, .int (nI 2)), (0, .ref (R 0)), (1, .int (nI 160))] 100 [.long (am_num (A (dp - 2)))] 0 0
        refine j_lstore_n [(3, .long (am_num (A (dp - 2)))), (2, .int (nI 2)), (0, .ref (R 0)), (1, .int (nI 160))] d_Mo_isArithmetic_100 rfl (by decide) rfl ?_
        refine j_iload_n d_Mo_isArithmetic_101 rfl 1 rfl ?_
        refine j_iconst (v := nI 1) d_Mo_isArithmetic_102 (by decide) ?_
        refine j_ncmp_le 121 2 1 rfl rfl (by omega) (by omega) d_Mo_isArithmetic_103 (by decide) (fun b103 => (by first | exact b103.elim | exact absurd b103 (by omega))) (fun b103 => ?_)
        refine j_aload_n d_Mo_isArithmetic_106 rfl 2 rfl ?_
        refine j_aload_n d_Mo_isArithmetic_107 rfl 2 rfl ?_
        refine j_get F_Mo hI.1 11 (by decide) w_954 (Or.inl rfl) rfl d_Mo_isArithmetic_108 ?_
        refine j_iload_n d_Mo_isArithmetic_111 rfl 1 rfl ?_
        refine j_isub d_Mo_isArithmetic_112 ?_
        refine j_eqi (y := nI (dp - 2)) (pk_sub (by omega)) ?_
        refine j_iconst (v := nI 1) d_Mo_isArithmetic_113 (by decide) ?_
        refine j_iadd d_Mo_isArithmetic_114 ?_
        refine j_eqi (y := nI ((dp - 2) + 1)) (nI_add (dp - 2) 1) ?_
        refine j_eqi (y := nI (dp - 1)) (by rw [show dp - 2 + 1 = dp - 1 by omega]) ?_
        refine j_callV (As := [.int (nI (dp - 1))]) (rest := []) (r_numberAt Γ.l hI (dp - 1) (by omega) (by assumption)) Y_Mo_numberAt w_1047 w_1049 ws_37 hI.1 rfl rfl rfl (Nat.le_of_ble_eq_true rfl) (by omega) (by omega) (by omega) d_Mo_isArithmetic_115 (fun v115 N115 p115 => ?_)
        obtain ⟨rfl, q115⟩ := p115
        obtain rfl := q115.symm
        show mp_J Γ m_Mo_isArithmetic E κ M [(3, .long (am_num (A (dp - 2)))), (2, .int (nI 2)), (0, .ref (R 0)), (1, .int (nI 160))] 118 [.long (am_num (A (dp - 1)))] 0 0
        refine j_goto (tgt := 122) d_Mo_isArithmetic_118 (by decide) ?_
        refine j_lstore [(5, .long (am_num (A (dp - 1)))), (3, .long (am_num (A (dp - 2)))), (2, .int (nI 2)), (0, .ref (R 0)), (1, .int (nI 160))] d_Mo_isArithmetic_122 (by decide) rfl ?_
        refine j_iload_n d_Mo_isArithmetic_124 rfl 2 rfl ?_
        refine j_iconst (v := nI 2) d_Mo_isArithmetic_125 (by decide) ?_
        refine j_ncmp_le 142 2 2 rfl rfl (by omega) (by omega) d_Mo_isArithmetic_126 (by decide) (fun b126 => ?_) (fun b126 => (by first | exact b126.elim | exact absurd b126 (by omega)))
        refine j_lconst (v := 0) d_Mo_isArithmetic_142 (by decide) ?_
        refine j_lstore [(7, .long 0), (5, .long (am_num (A (dp - 1)))), (3, .long (am_num (A (dp - 2)))), (2, .int (nI 2)), (0, .ref (R 0)), (1, .int (nI 160))] d_Mo_isArithmetic_143 (by decide) rfl ?_
        have v1 := am_num_lim (x := A (dp - 1)) (by assumption)
        have v2 := am_num_lim (x := A (dp - 2)) (by assumption)
        refine j_aload_n d_Mo_isArithmetic_145 rfl 4 rfl ?_
        refine j_dup d_Mo_isArithmetic_146 rfl ?_
        refine j_get F_Mo hI.1 11 (by decide) w_954 (Or.inl rfl) rfl d_Mo_isArithmetic_147 ?_
        refine j_iload_n d_Mo_isArithmetic_150 rfl 3 rfl ?_
        refine j_isub d_Mo_isArithmetic_151 ?_
        refine j_eqi (y := nI (dp - 2)) (pk_sub (by omega)) ?_
        refine j_put F_Mo hI.1 11 (by decide) w_954 (Or.inl rfl) rfl rfl rfl (Nat.le_of_ble_eq_true rfl) d_Mo_isArithmetic_152 ?_
        show mp_J Γ m_Mo_isArithmetic E κ (mp_up M (R 0) (mp_o 7 [.ref (R 1), .int (nI rows), .int thr, .ref (R 2), .ref (R 3), .ref (R 4), .ref (R 5), .ref (R 6), .ref (R 7), .ref (R 8), .ref (R 9), .int (nI (dp - 2)), .int (nI as_), .int (nI ops), .ref (R 10)])) [(7, .long 0), (5, .long (am_num (A (dp - 1)))), (3, .long (am_num (A (dp - 2)))), (2, .int (nI 2)), (0, .ref (R 0)), (1, .int (nI 160))] 155 [] 0 0
        generalize eM1 : mp_up M (R 0) (mp_o 7 [.ref (R 1), .int (nI rows), .int thr, .ref (R 2), .ref (R 3), .ref (R 4), .ref (R 5), .ref (R 6), .ref (R 7), .ref (R 8), .ref (R 9), .int (nI (dp - 2)), .int (nI as_), .int (nI ops), .ref (R 10)]) = M1
        have hM1__R_0_ : M1 (R 0) = some (mp_o 7 [.ref (R 1), .int (nI rows), .int thr, .ref (R 2), .ref (R 3), .ref (R 4), .ref (R 5), .ref (R 6), .ref (R 7), .ref (R 8), .ref (R 9), .int (nI (dp - 2)), .int (nI as_), .int (nI ops), .ref (R 10)]) := by rw [← eM1]; exact mp_s
        have JM1 : RI E M1 R rows thr (dp - 2) as_ ops A := hI.set hR eM1
        have fM1 : RFr R M M1 := RFr.s0 eM1
        refine j_iload_n d_Mo_isArithmetic_155 rfl 5 rfl ?_
        refine j_tableIn 476 d_Mo_isArithmetic_156 (by decide) (by decide) rfl (by decide) ?_
        refine j_lload_n d_Mo_isArithmetic_476 rfl 2 rfl ?_
        refine j_lload d_Mo_isArithmetic_477 1 rfl ?_
        refine j_lcmp d_Mo_isArithmetic_479 ?_
        refine j_if_le 487 d_Mo_isArithmetic_480 (by decide) (fun b480 => ?_) (fun b480 => ?_)
        · skip
          refine j_lconst (v := 0) d_Mo_isArithmetic_487 (by decide) ?_
          refine j_lstore [(9, .long 0), (7, .long 0), (5, .long (am_num (A (dp - 1)))), (3, .long (am_num (A (dp - 2)))), (2, .int (nI 2)), (0, .ref (R 0)), (1, .int (nI 160))] d_Mo_isArithmetic_488 (by decide) rfl ?_
          refine j_goto (tgt := 584) d_Mo_isArithmetic_490 (by decide) ?_
          refine j_aload_n d_Mo_isArithmetic_584 rfl 5 rfl ?_
          refine j_lload d_Mo_isArithmetic_585 0 rfl ?_
          refine j_callV (As := [.long 0]) (rest := []) (r_pushNumber Γ.l JM1 hR 0 (am_mag_lt (by decide)) (by omega)) Y_Mo_pushNumber w_1031 w_1033 ws_33 hM1__R_0_ rfl rfl rfl (Nat.le_of_ble_eq_true rfl) (by omega) (by omega) (by omega) d_Mo_isArithmetic_587 (fun v587 N587 p587 => ?_)
          obtain ⟨rfl, I587, f587⟩ := p587
          show mp_J Γ m_Mo_isArithmetic E κ N587 [(9, .long 0), (7, .long 0), (5, .long (am_num (A (dp - 1)))), (3, .long (am_num (A (dp - 2)))), (2, .int (nI 2)), (0, .ref (R 0)), (1, .int (nI 160))] 590 [] 0 0
          refine j_iconst (v := nI 1) d_Mo_isArithmetic_590 (by decide) ?_
          exact j_zret hκ rfl (by first | exact Or.inl rfl | exact Or.inr rfl) (by omega) (by omega) d_Mo_isArithmetic_591 (RQ.t I587 (fM1.trans f587) (by omega) (by unfold am_op; rw [if_neg (by decide), if_neg (by decide), if_neg (by decide), if_neg (by decide), if_neg (by decide), if_pos (by decide)]; exact ar3 (by omega) (by omega) (show _ = some ((am_bt (decide (am_num ((LM A dp).getD 0 []) < am_num ((LM A dp).getD 1 [])))) :: (LM A dp).drop 2, LO A as_, b, ops) from by unfold a_ord; rw [if_neg (fun z => z (an_2 (by omega) (by assumption) (by assumption))), if_neg (by decide), if_pos rfl]) (by rw [g0 (by omega), g1 (by omega)]; first | exact am_b0 (Int64.not_lt.mpr ((lg_cmp_le _ _).mp b480)))))
        · skip
          refine j_lconst (v := 1) d_Mo_isArithmetic_483 (by decide) ?_
          refine j_goto (tgt := 488) d_Mo_isArithmetic_484 (by decide) ?_
          refine j_lstore [(9, .long 1), (7, .long 0), (5, .long (am_num (A (dp - 1)))), (3, .long (am_num (A (dp - 2)))), (2, .int (nI 2)), (0, .ref (R 0)), (1, .int (nI 160))] d_Mo_isArithmetic_488 (by decide) rfl ?_
          refine j_goto (tgt := 584) d_Mo_isArithmetic_490 (by decide) ?_
          refine j_aload_n d_Mo_isArithmetic_584 rfl 5 rfl ?_
          refine j_lload d_Mo_isArithmetic_585 0 rfl ?_
          refine j_callV (As := [.long 1]) (rest := []) (r_pushNumber Γ.l JM1 hR 1 (am_mag_lt (by decide)) (by omega)) Y_Mo_pushNumber w_1031 w_1033 ws_33 hM1__R_0_ rfl rfl rfl (Nat.le_of_ble_eq_true rfl) (by omega) (by omega) (by omega) d_Mo_isArithmetic_587 (fun v587 N587 p587 => ?_)
          obtain ⟨rfl, I587, f587⟩ := p587
          show mp_J Γ m_Mo_isArithmetic E κ N587 [(9, .long 1), (7, .long 0), (5, .long (am_num (A (dp - 1)))), (3, .long (am_num (A (dp - 2)))), (2, .int (nI 2)), (0, .ref (R 0)), (1, .int (nI 160))] 590 [] 0 0
          refine j_iconst (v := nI 1) d_Mo_isArithmetic_590 (by decide) ?_
          exact j_zret hκ rfl (by first | exact Or.inl rfl | exact Or.inr rfl) (by omega) (by omega) d_Mo_isArithmetic_591 (RQ.t I587 (fM1.trans f587) (by omega) (by unfold am_op; rw [if_neg (by decide), if_neg (by decide), if_neg (by decide), if_neg (by decide), if_neg (by decide), if_pos (by decide)]; exact ar3 (by omega) (by omega) (show _ = some ((am_bt (decide (am_num ((LM A dp).getD 0 []) < am_num ((LM A dp).getD 1 [])))) :: (LM A dp).drop 2, LO A as_, b, ops) from by unfold a_ord; rw [if_neg (fun z => z (an_2 (by omega) (by assumption) (by assumption))), if_neg (by decide), if_pos rfl]) (by rw [g0 (by omega), g1 (by omega)]; first | exact am_b1 (Int64.not_le.mp (fun h => b480 ((lg_cmp_le _ _).mpr h))))))
      · skip
        have d79 := of_decide_eq_false b79
        refine j_iconst (v := nI 0) d_Mo_isArithmetic_82 (by decide) ?_
        exact j_zret hκ rfl (by first | exact Or.inl rfl | exact Or.inr rfl) (by omega) (by omega) d_Mo_isArithmetic_83 (RQ.f hI RFr.refl (by omega) (by unfold am_op; rw [if_neg (by decide), if_neg (by decide), if_neg (by decide), if_neg (by decide), if_neg (by decide), if_pos (by decide)]; unfold a_ord; rw [if_pos (an_f (p := 1) (by decide) (Or.inr ⟨by omega, by rw [show dp - 1 - 1 = dp - 2 by omega]; exact d79⟩))]))
    · skip
      have d79 := of_decide_eq_false b79
      refine j_iconst (v := nI 0) d_Mo_isArithmetic_82 (by decide) ?_
      exact j_zret hκ rfl (by first | exact Or.inl rfl | exact Or.inr rfl) (by omega) (by omega) d_Mo_isArithmetic_83 (RQ.f hI RFr.refl (by omega) (by unfold am_op; rw [if_neg (by decide), if_neg (by decide), if_neg (by decide), if_neg (by decide), if_neg (by decide), if_pos (by decide)]; unfold a_ord; rw [if_pos (an_f (p := 0) (by decide) (Or.inr ⟨by omega, by rw [show dp - 1 - 0 = dp - 1 by omega]; exact d79⟩))]))
  · skip
    have d57 := of_decide_eq_false b57
    refine j_iconst (v := nI 0) d_Mo_isArithmetic_60 (by decide) ?_
    exact j_zret hκ rfl (by first | exact Or.inl rfl | exact Or.inr rfl) (by omega) (by omega) d_Mo_isArithmetic_61 (RQ.f hI RFr.refl (by omega) (by unfold am_op; rw [if_neg (by decide), if_neg (by decide), if_neg (by decide), if_neg (by decide), if_neg (by decide), if_pos (by decide)]; unfold a_ord; rw [if_pos (an_f (p := 0) (by decide) (Or.inl (by omega)))]))

set_option maxHeartbeats 4000000 in
set_option maxRecDepth 100000 in
theorem c_Mo_ar_161 (l : Launch) (E : mp_E) (M : mp_M) (R : Nat → Nat) (rows : Nat) (thr : Int32) (dp as_ ops : Nat) (A : Nat → am_T) (b : List Bool) (hI : RI E M R rows thr dp as_ ops A) (hR : RL R) (hd : dp + as_ ≤ 200) (hk : ops ≤ 1000) : mp_Cr l m_Mo_isArithmetic E M 2 0 0 [.ref (R 0), .int (nI 161)] (RQ E R M rows thr b (am_op 161 (LM A dp) (LO A as_) b ops)) := by
  refine mp_Cr.of (by decide) (Nat.le_of_ble_eq_true rfl) fun Γ κ hl hκ => ?_
  subst hl
  obtain ⟨hκd, hκc, hκs, -⟩ := id hκ
  show mp_J Γ m_Mo_isArithmetic E κ M [(0, .ref (R 0)), (1, .int (nI 161))] 0 [] 0 0
  refine j_iload_n d_Mo_isArithmetic_0 rfl 1 rfl ?_
  refine j_sipush (v := nI 165) d_Mo_isArithmetic_1 (by decide) ?_
  refine j_ncmp_ne 11 161 165 rfl rfl (by omega) (by omega) d_Mo_isArithmetic_4 (by decide) (fun b4 => ?_) (fun b4 => (by first | exact b4.elim | exact absurd b4 (by omega)))
  refine j_iload_n d_Mo_isArithmetic_11 rfl 1 rfl ?_
  refine j_sipush (v := nI 146) d_Mo_isArithmetic_12 (by decide) ?_
  refine j_ncmp_gt 22 161 146 rfl rfl (by omega) (by omega) d_Mo_isArithmetic_15 (by decide) (fun b15 => ?_) (fun b15 => (by first | exact b15.elim | exact absurd b15 (by omega)))
  refine j_iconst (v := nI 2) d_Mo_isArithmetic_22 (by decide) ?_
  refine j_istore_n [(2, .int (nI 2)), (0, .ref (R 0)), (1, .int (nI 161))] d_Mo_isArithmetic_23 rfl (by decide) rfl ?_
  refine j_iload_n d_Mo_isArithmetic_24 rfl 2 rfl ?_
  refine j_sipush (v := nI 141) d_Mo_isArithmetic_25 (by decide) ?_
  refine j_ncmp_eq 60 161 141 rfl rfl (by omega) (by omega) d_Mo_isArithmetic_28 (by decide) (fun b28 => (by first | exact b28.elim | exact absurd b28 (by omega))) (fun b28 => ?_)
  refine j_iload_n d_Mo_isArithmetic_31 rfl 2 rfl ?_
  refine j_sipush (v := nI 142) d_Mo_isArithmetic_32 (by decide) ?_
  refine j_ncmp_eq 60 161 142 rfl rfl (by omega) (by omega) d_Mo_isArithmetic_35 (by decide) (fun b35 => (by first | exact b35.elim | exact absurd b35 (by omega))) (fun b35 => ?_)
  refine j_iload_n d_Mo_isArithmetic_38 rfl 2 rfl ?_
  refine j_sipush (v := nI 149) d_Mo_isArithmetic_39 (by decide) ?_
  refine j_ncmp_lt 52 161 149 rfl rfl (by omega) (by omega) d_Mo_isArithmetic_42 (by decide) (fun b42 => (by first | exact b42.elim | exact absurd b42 (by omega))) (fun b42 => ?_)
  refine j_iload_n d_Mo_isArithmetic_45 rfl 2 rfl ?_
  refine j_sipush (v := nI 153) d_Mo_isArithmetic_46 (by decide) ?_
  refine j_ncmp_le 60 161 153 rfl rfl (by omega) (by omega) d_Mo_isArithmetic_49 (by decide) (fun b49 => (by first | exact b49.elim | exact absurd b49 (by omega))) (fun b49 => ?_)
  refine j_aload_n d_Mo_isArithmetic_52 rfl 1 rfl ?_
  refine j_iload_n d_Mo_isArithmetic_53 rfl 0 rfl ?_
  refine j_callV (As := [.int (nI 2)]) (rest := []) (c_Mo_has Γ.l E M (R 0) (R 1) rows (R 2) (R 3) (R 4) (R 5) (R 6) (R 7) (R 8) (R 9) dp as_ ops (R 10) thr 2 hI.1 (by omega) (by omega)) Y_Mo_has w_1039 w_1041 ws_35 hI.1 rfl rfl rfl (Nat.le_of_ble_eq_true rfl) (by omega) (by omega) (by omega) d_Mo_isArithmetic_54 (fun v54 N54 p54 => ?_)
  obtain ⟨rfl, q54⟩ := p54
  obtain rfl := q54.symm
  show mp_J Γ m_Mo_isArithmetic E κ M [(2, .int (nI 2)), (0, .ref (R 0)), (1, .int (nI 161))] 57 [.int (tf (decide (2 ≤ dp)))] 0 0
  refine j_tif_ne 62 d_Mo_isArithmetic_57 (by decide) (fun b57 => ?_) (fun b57 => ?_)
  · skip
    have d57 := of_decide_eq_true b57
    refine j_iconst (v := nI 1) d_Mo_isArithmetic_62 (by decide) ?_
    refine j_istore_n [(3, .int (nI 1)), (2, .int (nI 2)), (0, .ref (R 0)), (1, .int (nI 161))] d_Mo_isArithmetic_63 rfl (by decide) rfl ?_
    refine j_iload_n d_Mo_isArithmetic_64 rfl 0 rfl ?_
    refine j_iload_n d_Mo_isArithmetic_65 rfl 1 rfl ?_
    refine j_ncmp_gt 90 1 2 rfl rfl (by omega) (by omega) d_Mo_isArithmetic_66 (by decide) (fun b66 => (by first | exact b66.elim | exact absurd b66 (by omega))) (fun b66 => ?_)
    refine j_aload_n d_Mo_isArithmetic_69 rfl 2 rfl ?_
    refine j_aload_n d_Mo_isArithmetic_70 rfl 2 rfl ?_
    refine j_get F_Mo hI.1 11 (by decide) w_954 (Or.inl rfl) rfl d_Mo_isArithmetic_71 ?_
    refine j_iload_n d_Mo_isArithmetic_74 rfl 0 rfl ?_
    refine j_isub d_Mo_isArithmetic_75 ?_
    refine j_eqi (y := nI (dp - 1)) (pk_sub (by omega)) ?_
    refine j_callV (As := [.int (nI (dp - 1))]) (rest := []) (r_isNumber Γ.l hI (dp - 1) (by omega)) Y_Mo_isNumber w_1043 w_1045 ws_36 hI.1 rfl rfl rfl (Nat.le_of_ble_eq_true rfl) (by omega) (by omega) (by omega) d_Mo_isArithmetic_76 (fun v76 N76 p76 => ?_)
    obtain ⟨rfl, q76⟩ := p76
    obtain rfl := q76.symm
    show mp_J Γ m_Mo_isArithmetic E κ M [(3, .int (nI 1)), (2, .int (nI 2)), (0, .ref (R 0)), (1, .int (nI 161))] 79 [.int (tf (decide ((A (dp - 1)).length ≤ 4)))] 0 0
    refine j_tif_ne 84 d_Mo_isArithmetic_79 (by decide) (fun b79 => ?_) (fun b79 => ?_)
    · skip
      have d79 := of_decide_eq_true b79
      refine j_iinc (v := nI 2) [(3, .int (nI 2)), (2, .int (nI 2)), (0, .ref (R 0)), (1, .int (nI 161))] d_Mo_isArithmetic_84 0 rfl (by decide) (by decide) rfl ?_
      refine j_goto (tgt := 64) d_Mo_isArithmetic_87 (by decide) ?_
      refine j_iload_n d_Mo_isArithmetic_64 rfl 0 rfl ?_
      refine j_iload_n d_Mo_isArithmetic_65 rfl 1 rfl ?_
      refine j_ncmp_gt 90 2 2 rfl rfl (by omega) (by omega) d_Mo_isArithmetic_66 (by decide) (fun b66 => (by first | exact b66.elim | exact absurd b66 (by omega))) (fun b66 => ?_)
      refine j_aload_n d_Mo_isArithmetic_69 rfl 2 rfl ?_
      refine j_aload_n d_Mo_isArithmetic_70 rfl 2 rfl ?_
      refine j_get F_Mo hI.1 11 (by decide) w_954 (Or.inl rfl) rfl d_Mo_isArithmetic_71 ?_
      refine j_iload_n d_Mo_isArithmetic_74 rfl 0 rfl ?_
      refine j_isub d_Mo_isArithmetic_75 ?_
      refine j_eqi (y := nI (dp - 2)) (pk_sub (by omega)) ?_
      refine j_callV (As := [.int (nI (dp - 2))]) (rest := []) (r_isNumber Γ.l hI (dp - 2) (by omega)) Y_Mo_isNumber w_1043 w_1045 ws_36 hI.1 rfl rfl rfl (Nat.le_of_ble_eq_true rfl) (by omega) (by omega) (by omega) d_Mo_isArithmetic_76 (fun v76 N76 p76 => ?_)
      obtain ⟨rfl, q76⟩ := p76
      obtain rfl := q76.symm
      show mp_J Γ m_Mo_isArithmetic E κ M [(3, .int (nI 2)), (2, .int (nI 2)), (0, .ref (R 0)), (1, .int (nI 161))] 79 [.int (tf (decide ((A (dp - 2)).length ≤ 4)))] 0 0
      refine j_tif_ne 84 d_Mo_isArithmetic_79 (by decide) (fun b79 => ?_) (fun b79 => ?_)
      · skip
        have d79 := of_decide_eq_true b79
        refine j_iinc (v := nI 3) [(3, .int (nI 3)), (2, .int (nI 2)), (0, .ref (R 0)), (1, .int (nI 161))] d_Mo_isArithmetic_84 0 rfl (by decide) (by decide) rfl ?_
        refine j_goto (tgt := 64) d_Mo_isArithmetic_87 (by decide) ?_
        refine j_iload_n d_Mo_isArithmetic_64 rfl 0 rfl ?_
        refine j_iload_n d_Mo_isArithmetic_65 rfl 1 rfl ?_
        refine j_ncmp_gt 90 3 2 rfl rfl (by omega) (by omega) d_Mo_isArithmetic_66 (by decide) (fun b66 => ?_) (fun b66 => (by first | exact b66.elim | exact absurd b66 (by omega)))
        refine j_aload_n d_Mo_isArithmetic_90 rfl 2 rfl ?_
        refine j_aload_n d_Mo_isArithmetic_91 rfl 2 rfl ?_
        refine j_get F_Mo hI.1 11 (by decide) w_954 (Or.inl rfl) rfl d_Mo_isArithmetic_92 ?_
        refine j_iload_n d_Mo_isArithmetic_95 rfl 1 rfl ?_
        refine j_isub d_Mo_isArithmetic_96 ?_
        refine j_eqi (y := nI (dp - 2)) (pk_sub (by omega)) ?_
        refine j_callV (As := [.int (nI (dp - 2))]) (rest := []) (r_numberAt Γ.l hI (dp - 2) (by omega) (by assumption)) Y_Mo_numberAt w_1047 w_1049 ws_37 hI.1 rfl rfl rfl (Nat.le_of_ble_eq_true rfl) (by omega) (by omega) (by omega) d_Mo_isArithmetic_97 (fun v97 N97 p97 => ?_)
        obtain ⟨rfl, q97⟩ := p97
        obtain rfl := q97.symm
        show mp_J Γ m_Mo_isArithmetic E κ M [(3, .int (nI 3)), (2, .int (nI 2)), (0, .ref (R 0)), (1, .int (nI 161))] 100 [.long (am_num (A (dp - 2)))] 0 0
        refine j_lstore_n [(3, .long (am_num (A (dp - 2)))), (2, .int (nI 2)), (0, .ref (R 0)), (1, .int (nI 161))] d_Mo_isArithmetic_100 rfl (by decide) rfl ?_
        refine j_iload_n d_Mo_isArithmetic_101 rfl 1 rfl ?_
        refine j_iconst (v := nI 1) d_Mo_isArithmetic_102 (by decide) ?_
        refine j_ncmp_le 121 2 1 rfl rfl (by omega) (by omega) d_Mo_isArithmetic_103 (by decide) (fun b103 => (by first | exact b103.elim | exact absurd b103 (by omega))) (fun b103 => ?_)
        refine j_aload_n d_Mo_isArithmetic_106 rfl 2 rfl ?_
        refine j_aload_n d_Mo_isArithmetic_107 rfl 2 rfl ?_
        refine j_get F_Mo hI.1 11 (by decide) w_954 (Or.inl rfl) rfl d_Mo_isArithmetic_108 ?_
        refine j_iload_n d_Mo_isArithmetic_111 rfl 1 rfl ?_
        refine j_isub d_Mo_isArithmetic_112 ?_
        refine j_eqi (y := nI (dp - 2)) (pk_sub (by omega)) ?_
        refine j_iconst (v := nI 1) d_Mo_isArithmetic_113 (by decide) ?_
        refine j_iadd d_Mo_isArithmetic_114 ?_
        refine j_eqi (y := nI ((dp - 2) + 1)) (nI_add (dp - 2) 1) ?_
        refine j_eqi (y := nI (dp - 1)) (by rw [show dp - 2 + 1 = dp - 1 by omega]) ?_
        refine j_callV (As := [.int (nI (dp - 1))]) (rest := []) (r_numberAt Γ.l hI (dp - 1) (by omega) (by assumption)) Y_Mo_numberAt w_1047 w_1049 ws_37 hI.1 rfl rfl rfl (Nat.le_of_ble_eq_true rfl) (by omega) (by omega) (by omega) d_Mo_isArithmetic_115 (fun v115 N115 p115 => ?_)
        obtain ⟨rfl, q115⟩ := p115
        obtain rfl := q115.symm
        show mp_J Γ m_Mo_isArithmetic E κ M [(3, .long (am_num (A (dp - 2)))), (2, .int (nI 2)), (0, .ref (R 0)), (1, .int (nI 161))] 118 [.long (am_num (A (dp - 1)))] 0 0
        refine j_goto (tgt := 122) d_Mo_isArithmetic_118 (by decide) ?_
        refine j_lstore [(5, .long (am_num (A (dp - 1)))), (3, .long (am_num (A (dp - 2)))), (2, .int (nI 2)), (0, .ref (R 0)), (1, .int (nI 161))] d_Mo_isArithmetic_122 (by decide) rfl ?_
        refine j_iload_n d_Mo_isArithmetic_124 rfl 2 rfl ?_
        refine j_iconst (v := nI 2) d_Mo_isArithmetic_125 (by decide) ?_
        refine j_ncmp_le 142 2 2 rfl rfl (by omega) (by omega) d_Mo_isArithmetic_126 (by decide) (fun b126 => ?_) (fun b126 => (by first | exact b126.elim | exact absurd b126 (by omega)))
        refine j_lconst (v := 0) d_Mo_isArithmetic_142 (by decide) ?_
        refine j_lstore [(7, .long 0), (5, .long (am_num (A (dp - 1)))), (3, .long (am_num (A (dp - 2)))), (2, .int (nI 2)), (0, .ref (R 0)), (1, .int (nI 161))] d_Mo_isArithmetic_143 (by decide) rfl ?_
        have v1 := am_num_lim (x := A (dp - 1)) (by assumption)
        have v2 := am_num_lim (x := A (dp - 2)) (by assumption)
        refine j_aload_n d_Mo_isArithmetic_145 rfl 4 rfl ?_
        refine j_dup d_Mo_isArithmetic_146 rfl ?_
        refine j_get F_Mo hI.1 11 (by decide) w_954 (Or.inl rfl) rfl d_Mo_isArithmetic_147 ?_
        refine j_iload_n d_Mo_isArithmetic_150 rfl 3 rfl ?_
        refine j_isub d_Mo_isArithmetic_151 ?_
        refine j_eqi (y := nI (dp - 2)) (pk_sub (by omega)) ?_
        refine j_put F_Mo hI.1 11 (by decide) w_954 (Or.inl rfl) rfl rfl rfl (Nat.le_of_ble_eq_true rfl) d_Mo_isArithmetic_152 ?_
        show mp_J Γ m_Mo_isArithmetic E κ (mp_up M (R 0) (mp_o 7 [.ref (R 1), .int (nI rows), .int thr, .ref (R 2), .ref (R 3), .ref (R 4), .ref (R 5), .ref (R 6), .ref (R 7), .ref (R 8), .ref (R 9), .int (nI (dp - 2)), .int (nI as_), .int (nI ops), .ref (R 10)])) [(7, .long 0), (5, .long (am_num (A (dp - 1)))), (3, .long (am_num (A (dp - 2)))), (2, .int (nI 2)), (0, .ref (R 0)), (1, .int (nI 161))] 155 [] 0 0
        generalize eM1 : mp_up M (R 0) (mp_o 7 [.ref (R 1), .int (nI rows), .int thr, .ref (R 2), .ref (R 3), .ref (R 4), .ref (R 5), .ref (R 6), .ref (R 7), .ref (R 8), .ref (R 9), .int (nI (dp - 2)), .int (nI as_), .int (nI ops), .ref (R 10)]) = M1
        have hM1__R_0_ : M1 (R 0) = some (mp_o 7 [.ref (R 1), .int (nI rows), .int thr, .ref (R 2), .ref (R 3), .ref (R 4), .ref (R 5), .ref (R 6), .ref (R 7), .ref (R 8), .ref (R 9), .int (nI (dp - 2)), .int (nI as_), .int (nI ops), .ref (R 10)]) := by rw [← eM1]; exact mp_s
        have JM1 : RI E M1 R rows thr (dp - 2) as_ ops A := hI.set hR eM1
        have fM1 : RFr R M M1 := RFr.s0 eM1
        refine j_iload_n d_Mo_isArithmetic_155 rfl 5 rfl ?_
        refine j_tableIn 493 d_Mo_isArithmetic_156 (by decide) (by decide) rfl (by decide) ?_
        refine j_lload_n d_Mo_isArithmetic_493 rfl 2 rfl ?_
        refine j_lload d_Mo_isArithmetic_494 1 rfl ?_
        refine j_lcmp d_Mo_isArithmetic_496 ?_
        refine j_if_gt 504 d_Mo_isArithmetic_497 (by decide) (fun b497 => ?_) (fun b497 => ?_)
        · skip
          refine j_lconst (v := 0) d_Mo_isArithmetic_504 (by decide) ?_
          refine j_lstore [(9, .long 0), (7, .long 0), (5, .long (am_num (A (dp - 1)))), (3, .long (am_num (A (dp - 2)))), (2, .int (nI 2)), (0, .ref (R 0)), (1, .int (nI 161))] d_Mo_isArithmetic_505 (by decide) rfl ?_
          refine j_goto (tgt := 584) d_Mo_isArithmetic_507 (by decide) ?_
          refine j_aload_n d_Mo_isArithmetic_584 rfl 5 rfl ?_
          refine j_lload d_Mo_isArithmetic_585 0 rfl ?_
          refine j_callV (As := [.long 0]) (rest := []) (r_pushNumber Γ.l JM1 hR 0 (am_mag_lt (by decide)) (by omega)) Y_Mo_pushNumber w_1031 w_1033 ws_33 hM1__R_0_ rfl rfl rfl (Nat.le_of_ble_eq_true rfl) (by omega) (by omega) (by omega) d_Mo_isArithmetic_587 (fun v587 N587 p587 => ?_)
          obtain ⟨rfl, I587, f587⟩ := p587
          show mp_J Γ m_Mo_isArithmetic E κ N587 [(9, .long 0), (7, .long 0), (5, .long (am_num (A (dp - 1)))), (3, .long (am_num (A (dp - 2)))), (2, .int (nI 2)), (0, .ref (R 0)), (1, .int (nI 161))] 590 [] 0 0
          refine j_iconst (v := nI 1) d_Mo_isArithmetic_590 (by decide) ?_
          exact j_zret hκ rfl (by first | exact Or.inl rfl | exact Or.inr rfl) (by omega) (by omega) d_Mo_isArithmetic_591 (RQ.t I587 (fM1.trans f587) (by omega) (by unfold am_op; rw [if_neg (by decide), if_neg (by decide), if_neg (by decide), if_neg (by decide), if_neg (by decide), if_pos (by decide)]; exact ar3 (by omega) (by omega) (show _ = some ((am_bt (decide (am_num ((LM A dp).getD 1 []) ≤ am_num ((LM A dp).getD 0 [])))) :: (LM A dp).drop 2, LO A as_, b, ops) from by unfold a_ord; rw [if_neg (fun z => z (an_2 (by omega) (by assumption) (by assumption))), if_neg (by decide), if_neg (by decide), if_pos rfl]) (by rw [g0 (by omega), g1 (by omega)]; first | exact am_b0 (Int64.not_le.mpr ((lg_cmp_gt _ _).mp b497)))))
        · skip
          refine j_lconst (v := 1) d_Mo_isArithmetic_500 (by decide) ?_
          refine j_goto (tgt := 505) d_Mo_isArithmetic_501 (by decide) ?_
          refine j_lstore [(9, .long 1), (7, .long 0), (5, .long (am_num (A (dp - 1)))), (3, .long (am_num (A (dp - 2)))), (2, .int (nI 2)), (0, .ref (R 0)), (1, .int (nI 161))] d_Mo_isArithmetic_505 (by decide) rfl ?_
          refine j_goto (tgt := 584) d_Mo_isArithmetic_507 (by decide) ?_
          refine j_aload_n d_Mo_isArithmetic_584 rfl 5 rfl ?_
          refine j_lload d_Mo_isArithmetic_585 0 rfl ?_
          refine j_callV (As := [.long 1]) (rest := []) (r_pushNumber Γ.l JM1 hR 1 (am_mag_lt (by decide)) (by omega)) Y_Mo_pushNumber w_1031 w_1033 ws_33 hM1__R_0_ rfl rfl rfl (Nat.le_of_ble_eq_true rfl) (by omega) (by omega) (by omega) d_Mo_isArithmetic_587 (fun v587 N587 p587 => ?_)
          obtain ⟨rfl, I587, f587⟩ := p587
          show mp_J Γ m_Mo_isArithmetic E κ N587 [(9, .long 1), (7, .long 0), (5, .long (am_num (A (dp - 1)))), (3, .long (am_num (A (dp - 2)))), (2, .int (nI 2)), (0, .ref (R 0)), (1, .int (nI 161))] 590 [] 0 0
          refine j_iconst (v := nI 1) d_Mo_isArithmetic_590 (by decide) ?_
          exact j_zret hκ rfl (by first | exact Or.inl rfl | exact Or.inr rfl) (by omega) (by omega) d_Mo_isArithmetic_591 (RQ.t I587 (fM1.trans f587) (by omega) (by unfold am_op; rw [if_neg (by decide), if_neg (by decide), if_neg (by decide), if_neg (by decide), if_neg (by decide), if_pos (by decide)]; exact ar3 (by omega) (by omega) (show _ = some ((am_bt (decide (am_num ((LM A dp).getD 1 []) ≤ am_num ((LM A dp).getD 0 [])))) :: (LM A dp).drop 2, LO A as_, b, ops) from by unfold a_ord; rw [if_neg (fun z => z (an_2 (by omega) (by assumption) (by assumption))), if_neg (by decide), if_neg (by decide), if_pos rfl]) (by rw [g0 (by omega), g1 (by omega)]; first | exact am_b1 (Int64.not_lt.mp (fun h => b497 ((lg_cmp_gt _ _).mpr h))))))
      · skip
        have d79 := of_decide_eq_false b79
        refine j_iconst (v := nI 0) d_Mo_isArithmetic_82 (by decide) ?_
        exact j_zret hκ rfl (by first | exact Or.inl rfl | exact Or.inr rfl) (by omega) (by omega) d_Mo_isArithmetic_83 (RQ.f hI RFr.refl (by omega) (by unfold am_op; rw [if_neg (by decide), if_neg (by decide), if_neg (by decide), if_neg (by decide), if_neg (by decide), if_pos (by decide)]; unfold a_ord; rw [if_pos (an_f (p := 1) (by decide) (Or.inr ⟨by omega, by rw [show dp - 1 - 1 = dp - 2 by omega]; exact d79⟩))]))
    · skip
      have d79 := of_decide_eq_false b79
      refine j_iconst (v := nI 0) d_Mo_isArithmetic_82 (by decide) ?_
      exact j_zret hκ rfl (by first | exact Or.inl rfl | exact Or.inr rfl) (by omega) (by omega) d_Mo_isArithmetic_83 (RQ.f hI RFr.refl (by omega) (by unfold am_op; rw [if_neg (by decide), if_neg (by decide), if_neg (by decide), if_neg (by decide), if_neg (by decide), if_pos (by decide)]; unfold a_ord; rw [if_pos (an_f (p := 0) (by decide) (Or.inr ⟨by omega, by rw [show dp - 1 - 0 = dp - 1 by omega]; exact d79⟩))]))
  · skip
    have d57 := of_decide_eq_false b57
    refine j_iconst (v := nI 0) d_Mo_isArithmetic_60 (by decide) ?_
    exact j_zret hκ rfl (by first | exact Or.inl rfl | exact Or.inr rfl) (by omega) (by omega) d_Mo_isArithmetic_61 (RQ.f hI RFr.refl (by omega) (by unfold am_op; rw [if_neg (by decide), if_neg (by decide), if_neg (by decide), if_neg (by decide), if_neg (by decide), if_pos (by decide)]; unfold a_ord; rw [if_pos (an_f (p := 0) (by decide) (Or.inl (by omega)))]))

set_option maxHeartbeats 4000000 in
set_option maxRecDepth 100000 in
theorem c_Mo_ar_162 (l : Launch) (E : mp_E) (M : mp_M) (R : Nat → Nat) (rows : Nat) (thr : Int32) (dp as_ ops : Nat) (A : Nat → am_T) (b : List Bool) (hI : RI E M R rows thr dp as_ ops A) (hR : RL R) (hd : dp + as_ ≤ 200) (hk : ops ≤ 1000) : mp_Cr l m_Mo_isArithmetic E M 2 0 0 [.ref (R 0), .int (nI 162)] (RQ E R M rows thr b (am_op 162 (LM A dp) (LO A as_) b ops)) := by
  refine mp_Cr.of (by decide) (Nat.le_of_ble_eq_true rfl) fun Γ κ hl hκ => ?_
  subst hl
  obtain ⟨hκd, hκc, hκs, -⟩ := id hκ
  show mp_J Γ m_Mo_isArithmetic E κ M [(0, .ref (R 0)), (1, .int (nI 162))] 0 [] 0 0
  refine j_iload_n d_Mo_isArithmetic_0 rfl 1 rfl ?_
  refine j_sipush (v := nI 165) d_Mo_isArithmetic_1 (by decide) ?_
  refine j_ncmp_ne 11 162 165 rfl rfl (by omega) (by omega) d_Mo_isArithmetic_4 (by decide) (fun b4 => ?_) (fun b4 => (by first | exact b4.elim | exact absurd b4 (by omega)))
  refine j_iload_n d_Mo_isArithmetic_11 rfl 1 rfl ?_
  refine j_sipush (v := nI 146) d_Mo_isArithmetic_12 (by decide) ?_
  refine j_ncmp_gt 22 162 146 rfl rfl (by omega) (by omega) d_Mo_isArithmetic_15 (by decide) (fun b15 => ?_) (fun b15 => (by first | exact b15.elim | exact absurd b15 (by omega)))
  refine j_iconst (v := nI 2) d_Mo_isArithmetic_22 (by decide) ?_
  refine j_istore_n [(2, .int (nI 2)), (0, .ref (R 0)), (1, .int (nI 162))] d_Mo_isArithmetic_23 rfl (by decide) rfl ?_
  refine j_iload_n d_Mo_isArithmetic_24 rfl 2 rfl ?_
  refine j_sipush (v := nI 141) d_Mo_isArithmetic_25 (by decide) ?_
  refine j_ncmp_eq 60 162 141 rfl rfl (by omega) (by omega) d_Mo_isArithmetic_28 (by decide) (fun b28 => (by first | exact b28.elim | exact absurd b28 (by omega))) (fun b28 => ?_)
  refine j_iload_n d_Mo_isArithmetic_31 rfl 2 rfl ?_
  refine j_sipush (v := nI 142) d_Mo_isArithmetic_32 (by decide) ?_
  refine j_ncmp_eq 60 162 142 rfl rfl (by omega) (by omega) d_Mo_isArithmetic_35 (by decide) (fun b35 => (by first | exact b35.elim | exact absurd b35 (by omega))) (fun b35 => ?_)
  refine j_iload_n d_Mo_isArithmetic_38 rfl 2 rfl ?_
  refine j_sipush (v := nI 149) d_Mo_isArithmetic_39 (by decide) ?_
  refine j_ncmp_lt 52 162 149 rfl rfl (by omega) (by omega) d_Mo_isArithmetic_42 (by decide) (fun b42 => (by first | exact b42.elim | exact absurd b42 (by omega))) (fun b42 => ?_)
  refine j_iload_n d_Mo_isArithmetic_45 rfl 2 rfl ?_
  refine j_sipush (v := nI 153) d_Mo_isArithmetic_46 (by decide) ?_
  refine j_ncmp_le 60 162 153 rfl rfl (by omega) (by omega) d_Mo_isArithmetic_49 (by decide) (fun b49 => (by first | exact b49.elim | exact absurd b49 (by omega))) (fun b49 => ?_)
  refine j_aload_n d_Mo_isArithmetic_52 rfl 1 rfl ?_
  refine j_iload_n d_Mo_isArithmetic_53 rfl 0 rfl ?_
  refine j_callV (As := [.int (nI 2)]) (rest := []) (c_Mo_has Γ.l E M (R 0) (R 1) rows (R 2) (R 3) (R 4) (R 5) (R 6) (R 7) (R 8) (R 9) dp as_ ops (R 10) thr 2 hI.1 (by omega) (by omega)) Y_Mo_has w_1039 w_1041 ws_35 hI.1 rfl rfl rfl (Nat.le_of_ble_eq_true rfl) (by omega) (by omega) (by omega) d_Mo_isArithmetic_54 (fun v54 N54 p54 => ?_)
  obtain ⟨rfl, q54⟩ := p54
  obtain rfl := q54.symm
  show mp_J Γ m_Mo_isArithmetic E κ M [(2, .int (nI 2)), (0, .ref (R 0)), (1, .int (nI 162))] 57 [.int (tf (decide (2 ≤ dp)))] 0 0
  refine j_tif_ne 62 d_Mo_isArithmetic_57 (by decide) (fun b57 => ?_) (fun b57 => ?_)
  · skip
    have d57 := of_decide_eq_true b57
    refine j_iconst (v := nI 1) d_Mo_isArithmetic_62 (by decide) ?_
    refine j_istore_n [(3, .int (nI 1)), (2, .int (nI 2)), (0, .ref (R 0)), (1, .int (nI 162))] d_Mo_isArithmetic_63 rfl (by decide) rfl ?_
    refine j_iload_n d_Mo_isArithmetic_64 rfl 0 rfl ?_
    refine j_iload_n d_Mo_isArithmetic_65 rfl 1 rfl ?_
    refine j_ncmp_gt 90 1 2 rfl rfl (by omega) (by omega) d_Mo_isArithmetic_66 (by decide) (fun b66 => (by first | exact b66.elim | exact absurd b66 (by omega))) (fun b66 => ?_)
    refine j_aload_n d_Mo_isArithmetic_69 rfl 2 rfl ?_
    refine j_aload_n d_Mo_isArithmetic_70 rfl 2 rfl ?_
    refine j_get F_Mo hI.1 11 (by decide) w_954 (Or.inl rfl) rfl d_Mo_isArithmetic_71 ?_
    refine j_iload_n d_Mo_isArithmetic_74 rfl 0 rfl ?_
    refine j_isub d_Mo_isArithmetic_75 ?_
    refine j_eqi (y := nI (dp - 1)) (pk_sub (by omega)) ?_
    refine j_callV (As := [.int (nI (dp - 1))]) (rest := []) (r_isNumber Γ.l hI (dp - 1) (by omega)) Y_Mo_isNumber w_1043 w_1045 ws_36 hI.1 rfl rfl rfl (Nat.le_of_ble_eq_true rfl) (by omega) (by omega) (by omega) d_Mo_isArithmetic_76 (fun v76 N76 p76 => ?_)
    obtain ⟨rfl, q76⟩ := p76
    obtain rfl := q76.symm
    show mp_J Γ m_Mo_isArithmetic E κ M [(3, .int (nI 1)), (2, .int (nI 2)), (0, .ref (R 0)), (1, .int (nI 162))] 79 [.int (tf (decide ((A (dp - 1)).length ≤ 4)))] 0 0
    refine j_tif_ne 84 d_Mo_isArithmetic_79 (by decide) (fun b79 => ?_) (fun b79 => ?_)
    · skip
      have d79 := of_decide_eq_true b79
      refine j_iinc (v := nI 2) [(3, .int (nI 2)), (2, .int (nI 2)), (0, .ref (R 0)), (1, .int (nI 162))] d_Mo_isArithmetic_84 0 rfl (by decide) (by decide) rfl ?_
      refine j_goto (tgt := 64) d_Mo_isArithmetic_87 (by decide) ?_
      refine j_iload_n d_Mo_isArithmetic_64 rfl 0 rfl ?_
      refine j_iload_n d_Mo_isArithmetic_65 rfl 1 rfl ?_
      refine j_ncmp_gt 90 2 2 rfl rfl (by omega) (by omega) d_Mo_isArithmetic_66 (by decide) (fun b66 => (by first | exact b66.elim | exact absurd b66 (by omega))) (fun b66 => ?_)
      refine j_aload_n d_Mo_isArithmetic_69 rfl 2 rfl ?_
      refine j_aload_n d_Mo_isArithmetic_70 rfl 2 rfl ?_
      refine j_get F_Mo hI.1 11 (by decide) w_954 (Or.inl rfl) rfl d_Mo_isArithmetic_71 ?_
      refine j_iload_n d_Mo_isArithmetic_74 rfl 0 rfl ?_
      refine j_isub d_Mo_isArithmetic_75 ?_
      refine j_eqi (y := nI (dp - 2)) (pk_sub (by omega)) ?_
      refine j_callV (As := [.int (nI (dp - 2))]) (rest := []) (r_isNumber Γ.l hI (dp - 2) (by omega)) Y_Mo_isNumber w_1043 w_1045 ws_36 hI.1 rfl rfl rfl (Nat.le_of_ble_eq_true rfl) (by omega) (by omega) (by omega) d_Mo_isArithmetic_76 (fun v76 N76 p76 => ?_)
      obtain ⟨rfl, q76⟩ := p76
      obtain rfl := q76.symm
      show mp_J Γ m_Mo_isArithmetic E κ M [(3, .int (nI 2)), (2, .int (nI 2)), (0, .ref (R 0)), (1, .int (nI 162))] 79 [.int (tf (decide ((A (dp - 2)).length ≤ 4)))] 0 0
      refine j_tif_ne 84 d_Mo_isArithmetic_79 (by decide) (fun b79 => ?_) (fun b79 => ?_)
      · skip
        have d79 := of_decide_eq_true b79
        refine j_iinc (v := nI 3) [(3, .int (nI 3)), (2, .int (nI 2)), (0, .ref (R 0)), (1, .int (nI 162))] d_Mo_isArithmetic_84 0 rfl (by decide) (by decide) rfl ?_
        refine j_goto (tgt := 64) d_Mo_isArithmetic_87 (by decide) ?_
        refine j_iload_n d_Mo_isArithmetic_64 rfl 0 rfl ?_
        refine j_iload_n d_Mo_isArithmetic_65 rfl 1 rfl ?_
        refine j_ncmp_gt 90 3 2 rfl rfl (by omega) (by omega) d_Mo_isArithmetic_66 (by decide) (fun b66 => ?_) (fun b66 => (by first | exact b66.elim | exact absurd b66 (by omega)))
        refine j_aload_n d_Mo_isArithmetic_90 rfl 2 rfl ?_
        refine j_aload_n d_Mo_isArithmetic_91 rfl 2 rfl ?_
        refine j_get F_Mo hI.1 11 (by decide) w_954 (Or.inl rfl) rfl d_Mo_isArithmetic_92 ?_
        refine j_iload_n d_Mo_isArithmetic_95 rfl 1 rfl ?_
        refine j_isub d_Mo_isArithmetic_96 ?_
        refine j_eqi (y := nI (dp - 2)) (pk_sub (by omega)) ?_
        refine j_callV (As := [.int (nI (dp - 2))]) (rest := []) (r_numberAt Γ.l hI (dp - 2) (by omega) (by assumption)) Y_Mo_numberAt w_1047 w_1049 ws_37 hI.1 rfl rfl rfl (Nat.le_of_ble_eq_true rfl) (by omega) (by omega) (by omega) d_Mo_isArithmetic_97 (fun v97 N97 p97 => ?_)
        obtain ⟨rfl, q97⟩ := p97
        obtain rfl := q97.symm
        show mp_J Γ m_Mo_isArithmetic E κ M [(3, .int (nI 3)), (2, .int (nI 2)), (0, .ref (R 0)), (1, .int (nI 162))] 100 [.long (am_num (A (dp - 2)))] 0 0
        refine j_lstore_n [(3, .long (am_num (A (dp - 2)))), (2, .int (nI 2)), (0, .ref (R 0)), (1, .int (nI 162))] d_Mo_isArithmetic_100 rfl (by decide) rfl ?_
        refine j_iload_n d_Mo_isArithmetic_101 rfl 1 rfl ?_
        refine j_iconst (v := nI 1) d_Mo_isArithmetic_102 (by decide) ?_
        refine j_ncmp_le 121 2 1 rfl rfl (by omega) (by omega) d_Mo_isArithmetic_103 (by decide) (fun b103 => (by first | exact b103.elim | exact absurd b103 (by omega))) (fun b103 => ?_)
        refine j_aload_n d_Mo_isArithmetic_106 rfl 2 rfl ?_
        refine j_aload_n d_Mo_isArithmetic_107 rfl 2 rfl ?_
        refine j_get F_Mo hI.1 11 (by decide) w_954 (Or.inl rfl) rfl d_Mo_isArithmetic_108 ?_
        refine j_iload_n d_Mo_isArithmetic_111 rfl 1 rfl ?_
        refine j_isub d_Mo_isArithmetic_112 ?_
        refine j_eqi (y := nI (dp - 2)) (pk_sub (by omega)) ?_
        refine j_iconst (v := nI 1) d_Mo_isArithmetic_113 (by decide) ?_
        refine j_iadd d_Mo_isArithmetic_114 ?_
        refine j_eqi (y := nI ((dp - 2) + 1)) (nI_add (dp - 2) 1) ?_
        refine j_eqi (y := nI (dp - 1)) (by rw [show dp - 2 + 1 = dp - 1 by omega]) ?_
        refine j_callV (As := [.int (nI (dp - 1))]) (rest := []) (r_numberAt Γ.l hI (dp - 1) (by omega) (by assumption)) Y_Mo_numberAt w_1047 w_1049 ws_37 hI.1 rfl rfl rfl (Nat.le_of_ble_eq_true rfl) (by omega) (by omega) (by omega) d_Mo_isArithmetic_115 (fun v115 N115 p115 => ?_)
        obtain ⟨rfl, q115⟩ := p115
        obtain rfl := q115.symm
        show mp_J Γ m_Mo_isArithmetic E κ M [(3, .long (am_num (A (dp - 2)))), (2, .int (nI 2)), (0, .ref (R 0)), (1, .int (nI 162))] 118 [.long (am_num (A (dp - 1)))] 0 0
        refine j_goto (tgt := 122) d_Mo_isArithmetic_118 (by decide) ?_
        refine j_lstore [(5, .long (am_num (A (dp - 1)))), (3, .long (am_num (A (dp - 2)))), (2, .int (nI 2)), (0, .ref (R 0)), (1, .int (nI 162))] d_Mo_isArithmetic_122 (by decide) rfl ?_
        refine j_iload_n d_Mo_isArithmetic_124 rfl 2 rfl ?_
        refine j_iconst (v := nI 2) d_Mo_isArithmetic_125 (by decide) ?_
        refine j_ncmp_le 142 2 2 rfl rfl (by omega) (by omega) d_Mo_isArithmetic_126 (by decide) (fun b126 => ?_) (fun b126 => (by first | exact b126.elim | exact absurd b126 (by omega)))
        refine j_lconst (v := 0) d_Mo_isArithmetic_142 (by decide) ?_
        refine j_lstore [(7, .long 0), (5, .long (am_num (A (dp - 1)))), (3, .long (am_num (A (dp - 2)))), (2, .int (nI 2)), (0, .ref (R 0)), (1, .int (nI 162))] d_Mo_isArithmetic_143 (by decide) rfl ?_
        have v1 := am_num_lim (x := A (dp - 1)) (by assumption)
        have v2 := am_num_lim (x := A (dp - 2)) (by assumption)
        refine j_aload_n d_Mo_isArithmetic_145 rfl 4 rfl ?_
        refine j_dup d_Mo_isArithmetic_146 rfl ?_
        refine j_get F_Mo hI.1 11 (by decide) w_954 (Or.inl rfl) rfl d_Mo_isArithmetic_147 ?_
        refine j_iload_n d_Mo_isArithmetic_150 rfl 3 rfl ?_
        refine j_isub d_Mo_isArithmetic_151 ?_
        refine j_eqi (y := nI (dp - 2)) (pk_sub (by omega)) ?_
        refine j_put F_Mo hI.1 11 (by decide) w_954 (Or.inl rfl) rfl rfl rfl (Nat.le_of_ble_eq_true rfl) d_Mo_isArithmetic_152 ?_
        show mp_J Γ m_Mo_isArithmetic E κ (mp_up M (R 0) (mp_o 7 [.ref (R 1), .int (nI rows), .int thr, .ref (R 2), .ref (R 3), .ref (R 4), .ref (R 5), .ref (R 6), .ref (R 7), .ref (R 8), .ref (R 9), .int (nI (dp - 2)), .int (nI as_), .int (nI ops), .ref (R 10)])) [(7, .long 0), (5, .long (am_num (A (dp - 1)))), (3, .long (am_num (A (dp - 2)))), (2, .int (nI 2)), (0, .ref (R 0)), (1, .int (nI 162))] 155 [] 0 0
        generalize eM1 : mp_up M (R 0) (mp_o 7 [.ref (R 1), .int (nI rows), .int thr, .ref (R 2), .ref (R 3), .ref (R 4), .ref (R 5), .ref (R 6), .ref (R 7), .ref (R 8), .ref (R 9), .int (nI (dp - 2)), .int (nI as_), .int (nI ops), .ref (R 10)]) = M1
        have hM1__R_0_ : M1 (R 0) = some (mp_o 7 [.ref (R 1), .int (nI rows), .int thr, .ref (R 2), .ref (R 3), .ref (R 4), .ref (R 5), .ref (R 6), .ref (R 7), .ref (R 8), .ref (R 9), .int (nI (dp - 2)), .int (nI as_), .int (nI ops), .ref (R 10)]) := by rw [← eM1]; exact mp_s
        have JM1 : RI E M1 R rows thr (dp - 2) as_ ops A := hI.set hR eM1
        have fM1 : RFr R M M1 := RFr.s0 eM1
        refine j_iload_n d_Mo_isArithmetic_155 rfl 5 rfl ?_
        refine j_tableIn 510 d_Mo_isArithmetic_156 (by decide) (by decide) rfl (by decide) ?_
        refine j_lload_n d_Mo_isArithmetic_510 rfl 2 rfl ?_
        refine j_lload d_Mo_isArithmetic_511 1 rfl ?_
        refine j_lcmp d_Mo_isArithmetic_513 ?_
        refine j_if_lt 521 d_Mo_isArithmetic_514 (by decide) (fun b514 => ?_) (fun b514 => ?_)
        · skip
          refine j_lconst (v := 0) d_Mo_isArithmetic_521 (by decide) ?_
          refine j_lstore [(9, .long 0), (7, .long 0), (5, .long (am_num (A (dp - 1)))), (3, .long (am_num (A (dp - 2)))), (2, .int (nI 2)), (0, .ref (R 0)), (1, .int (nI 162))] d_Mo_isArithmetic_522 (by decide) rfl ?_
          refine j_goto (tgt := 584) d_Mo_isArithmetic_524 (by decide) ?_
          refine j_aload_n d_Mo_isArithmetic_584 rfl 5 rfl ?_
          refine j_lload d_Mo_isArithmetic_585 0 rfl ?_
          refine j_callV (As := [.long 0]) (rest := []) (r_pushNumber Γ.l JM1 hR 0 (am_mag_lt (by decide)) (by omega)) Y_Mo_pushNumber w_1031 w_1033 ws_33 hM1__R_0_ rfl rfl rfl (Nat.le_of_ble_eq_true rfl) (by omega) (by omega) (by omega) d_Mo_isArithmetic_587 (fun v587 N587 p587 => ?_)
          obtain ⟨rfl, I587, f587⟩ := p587
          show mp_J Γ m_Mo_isArithmetic E κ N587 [(9, .long 0), (7, .long 0), (5, .long (am_num (A (dp - 1)))), (3, .long (am_num (A (dp - 2)))), (2, .int (nI 2)), (0, .ref (R 0)), (1, .int (nI 162))] 590 [] 0 0
          refine j_iconst (v := nI 1) d_Mo_isArithmetic_590 (by decide) ?_
          exact j_zret hκ rfl (by first | exact Or.inl rfl | exact Or.inr rfl) (by omega) (by omega) d_Mo_isArithmetic_591 (RQ.t I587 (fM1.trans f587) (by omega) (by unfold am_op; rw [if_neg (by decide), if_neg (by decide), if_neg (by decide), if_neg (by decide), if_neg (by decide), if_pos (by decide)]; exact ar3 (by omega) (by omega) (show _ = some ((am_bt (decide (am_num ((LM A dp).getD 0 []) ≤ am_num ((LM A dp).getD 1 [])))) :: (LM A dp).drop 2, LO A as_, b, ops) from by unfold a_ord; rw [if_neg (fun z => z (an_2 (by omega) (by assumption) (by assumption))), if_neg (by decide), if_neg (by decide), if_neg (by decide), if_pos rfl]) (by rw [g0 (by omega), g1 (by omega)]; first | exact am_b0 (Int64.not_le.mpr ((lg_cmp_lt _ _).mp b514)))))
        · skip
          refine j_lconst (v := 1) d_Mo_isArithmetic_517 (by decide) ?_
          refine j_goto (tgt := 522) d_Mo_isArithmetic_518 (by decide) ?_
          refine j_lstore [(9, .long 1), (7, .long 0), (5, .long (am_num (A (dp - 1)))), (3, .long (am_num (A (dp - 2)))), (2, .int (nI 2)), (0, .ref (R 0)), (1, .int (nI 162))] d_Mo_isArithmetic_522 (by decide) rfl ?_
          refine j_goto (tgt := 584) d_Mo_isArithmetic_524 (by decide) ?_
          refine j_aload_n d_Mo_isArithmetic_584 rfl 5 rfl ?_
          refine j_lload d_Mo_isArithmetic_585 0 rfl ?_
          refine j_callV (As := [.long 1]) (rest := []) (r_pushNumber Γ.l JM1 hR 1 (am_mag_lt (by decide)) (by omega)) Y_Mo_pushNumber w_1031 w_1033 ws_33 hM1__R_0_ rfl rfl rfl (Nat.le_of_ble_eq_true rfl) (by omega) (by omega) (by omega) d_Mo_isArithmetic_587 (fun v587 N587 p587 => ?_)
          obtain ⟨rfl, I587, f587⟩ := p587
          show mp_J Γ m_Mo_isArithmetic E κ N587 [(9, .long 1), (7, .long 0), (5, .long (am_num (A (dp - 1)))), (3, .long (am_num (A (dp - 2)))), (2, .int (nI 2)), (0, .ref (R 0)), (1, .int (nI 162))] 590 [] 0 0
          refine j_iconst (v := nI 1) d_Mo_isArithmetic_590 (by decide) ?_
          exact j_zret hκ rfl (by first | exact Or.inl rfl | exact Or.inr rfl) (by omega) (by omega) d_Mo_isArithmetic_591 (RQ.t I587 (fM1.trans f587) (by omega) (by unfold am_op; rw [if_neg (by decide), if_neg (by decide), if_neg (by decide), if_neg (by decide), if_neg (by decide), if_pos (by decide)]; exact ar3 (by omega) (by omega) (show _ = some ((am_bt (decide (am_num ((LM A dp).getD 0 []) ≤ am_num ((LM A dp).getD 1 [])))) :: (LM A dp).drop 2, LO A as_, b, ops) from by unfold a_ord; rw [if_neg (fun z => z (an_2 (by omega) (by assumption) (by assumption))), if_neg (by decide), if_neg (by decide), if_neg (by decide), if_pos rfl]) (by rw [g0 (by omega), g1 (by omega)]; first | exact am_b1 (Int64.not_lt.mp (fun h => b514 ((lg_cmp_lt _ _).mpr h))))))
      · skip
        have d79 := of_decide_eq_false b79
        refine j_iconst (v := nI 0) d_Mo_isArithmetic_82 (by decide) ?_
        exact j_zret hκ rfl (by first | exact Or.inl rfl | exact Or.inr rfl) (by omega) (by omega) d_Mo_isArithmetic_83 (RQ.f hI RFr.refl (by omega) (by unfold am_op; rw [if_neg (by decide), if_neg (by decide), if_neg (by decide), if_neg (by decide), if_neg (by decide), if_pos (by decide)]; unfold a_ord; rw [if_pos (an_f (p := 1) (by decide) (Or.inr ⟨by omega, by rw [show dp - 1 - 1 = dp - 2 by omega]; exact d79⟩))]))
    · skip
      have d79 := of_decide_eq_false b79
      refine j_iconst (v := nI 0) d_Mo_isArithmetic_82 (by decide) ?_
      exact j_zret hκ rfl (by first | exact Or.inl rfl | exact Or.inr rfl) (by omega) (by omega) d_Mo_isArithmetic_83 (RQ.f hI RFr.refl (by omega) (by unfold am_op; rw [if_neg (by decide), if_neg (by decide), if_neg (by decide), if_neg (by decide), if_neg (by decide), if_pos (by decide)]; unfold a_ord; rw [if_pos (an_f (p := 0) (by decide) (Or.inr ⟨by omega, by rw [show dp - 1 - 0 = dp - 1 by omega]; exact d79⟩))]))
  · skip
    have d57 := of_decide_eq_false b57
    refine j_iconst (v := nI 0) d_Mo_isArithmetic_60 (by decide) ?_
    exact j_zret hκ rfl (by first | exact Or.inl rfl | exact Or.inr rfl) (by omega) (by omega) d_Mo_isArithmetic_61 (RQ.f hI RFr.refl (by omega) (by unfold am_op; rw [if_neg (by decide), if_neg (by decide), if_neg (by decide), if_neg (by decide), if_neg (by decide), if_pos (by decide)]; unfold a_ord; rw [if_pos (an_f (p := 0) (by decide) (Or.inl (by omega)))]))

set_option maxHeartbeats 4000000 in
set_option maxRecDepth 100000 in
theorem c_Mo_ar_163 (l : Launch) (E : mp_E) (M : mp_M) (R : Nat → Nat) (rows : Nat) (thr : Int32) (dp as_ ops : Nat) (A : Nat → am_T) (b : List Bool) (hI : RI E M R rows thr dp as_ ops A) (hR : RL R) (hd : dp + as_ ≤ 200) (hk : ops ≤ 1000) : mp_Cr l m_Mo_isArithmetic E M 2 0 0 [.ref (R 0), .int (nI 163)] (RQ E R M rows thr b (am_op 163 (LM A dp) (LO A as_) b ops)) := by
  refine mp_Cr.of (by decide) (Nat.le_of_ble_eq_true rfl) fun Γ κ hl hκ => ?_
  subst hl
  obtain ⟨hκd, hκc, hκs, -⟩ := id hκ
  show mp_J Γ m_Mo_isArithmetic E κ M [(0, .ref (R 0)), (1, .int (nI 163))] 0 [] 0 0
  refine j_iload_n d_Mo_isArithmetic_0 rfl 1 rfl ?_
  refine j_sipush (v := nI 165) d_Mo_isArithmetic_1 (by decide) ?_
  refine j_ncmp_ne 11 163 165 rfl rfl (by omega) (by omega) d_Mo_isArithmetic_4 (by decide) (fun b4 => ?_) (fun b4 => (by first | exact b4.elim | exact absurd b4 (by omega)))
  refine j_iload_n d_Mo_isArithmetic_11 rfl 1 rfl ?_
  refine j_sipush (v := nI 146) d_Mo_isArithmetic_12 (by decide) ?_
  refine j_ncmp_gt 22 163 146 rfl rfl (by omega) (by omega) d_Mo_isArithmetic_15 (by decide) (fun b15 => ?_) (fun b15 => (by first | exact b15.elim | exact absurd b15 (by omega)))
  refine j_iconst (v := nI 2) d_Mo_isArithmetic_22 (by decide) ?_
  refine j_istore_n [(2, .int (nI 2)), (0, .ref (R 0)), (1, .int (nI 163))] d_Mo_isArithmetic_23 rfl (by decide) rfl ?_
  refine j_iload_n d_Mo_isArithmetic_24 rfl 2 rfl ?_
  refine j_sipush (v := nI 141) d_Mo_isArithmetic_25 (by decide) ?_
  refine j_ncmp_eq 60 163 141 rfl rfl (by omega) (by omega) d_Mo_isArithmetic_28 (by decide) (fun b28 => (by first | exact b28.elim | exact absurd b28 (by omega))) (fun b28 => ?_)
  refine j_iload_n d_Mo_isArithmetic_31 rfl 2 rfl ?_
  refine j_sipush (v := nI 142) d_Mo_isArithmetic_32 (by decide) ?_
  refine j_ncmp_eq 60 163 142 rfl rfl (by omega) (by omega) d_Mo_isArithmetic_35 (by decide) (fun b35 => (by first | exact b35.elim | exact absurd b35 (by omega))) (fun b35 => ?_)
  refine j_iload_n d_Mo_isArithmetic_38 rfl 2 rfl ?_
  refine j_sipush (v := nI 149) d_Mo_isArithmetic_39 (by decide) ?_
  refine j_ncmp_lt 52 163 149 rfl rfl (by omega) (by omega) d_Mo_isArithmetic_42 (by decide) (fun b42 => (by first | exact b42.elim | exact absurd b42 (by omega))) (fun b42 => ?_)
  refine j_iload_n d_Mo_isArithmetic_45 rfl 2 rfl ?_
  refine j_sipush (v := nI 153) d_Mo_isArithmetic_46 (by decide) ?_
  refine j_ncmp_le 60 163 153 rfl rfl (by omega) (by omega) d_Mo_isArithmetic_49 (by decide) (fun b49 => (by first | exact b49.elim | exact absurd b49 (by omega))) (fun b49 => ?_)
  refine j_aload_n d_Mo_isArithmetic_52 rfl 1 rfl ?_
  refine j_iload_n d_Mo_isArithmetic_53 rfl 0 rfl ?_
  refine j_callV (As := [.int (nI 2)]) (rest := []) (c_Mo_has Γ.l E M (R 0) (R 1) rows (R 2) (R 3) (R 4) (R 5) (R 6) (R 7) (R 8) (R 9) dp as_ ops (R 10) thr 2 hI.1 (by omega) (by omega)) Y_Mo_has w_1039 w_1041 ws_35 hI.1 rfl rfl rfl (Nat.le_of_ble_eq_true rfl) (by omega) (by omega) (by omega) d_Mo_isArithmetic_54 (fun v54 N54 p54 => ?_)
  obtain ⟨rfl, q54⟩ := p54
  obtain rfl := q54.symm
  show mp_J Γ m_Mo_isArithmetic E κ M [(2, .int (nI 2)), (0, .ref (R 0)), (1, .int (nI 163))] 57 [.int (tf (decide (2 ≤ dp)))] 0 0
  refine j_tif_ne 62 d_Mo_isArithmetic_57 (by decide) (fun b57 => ?_) (fun b57 => ?_)
  · skip
    have d57 := of_decide_eq_true b57
    refine j_iconst (v := nI 1) d_Mo_isArithmetic_62 (by decide) ?_
    refine j_istore_n [(3, .int (nI 1)), (2, .int (nI 2)), (0, .ref (R 0)), (1, .int (nI 163))] d_Mo_isArithmetic_63 rfl (by decide) rfl ?_
    refine j_iload_n d_Mo_isArithmetic_64 rfl 0 rfl ?_
    refine j_iload_n d_Mo_isArithmetic_65 rfl 1 rfl ?_
    refine j_ncmp_gt 90 1 2 rfl rfl (by omega) (by omega) d_Mo_isArithmetic_66 (by decide) (fun b66 => (by first | exact b66.elim | exact absurd b66 (by omega))) (fun b66 => ?_)
    refine j_aload_n d_Mo_isArithmetic_69 rfl 2 rfl ?_
    refine j_aload_n d_Mo_isArithmetic_70 rfl 2 rfl ?_
    refine j_get F_Mo hI.1 11 (by decide) w_954 (Or.inl rfl) rfl d_Mo_isArithmetic_71 ?_
    refine j_iload_n d_Mo_isArithmetic_74 rfl 0 rfl ?_
    refine j_isub d_Mo_isArithmetic_75 ?_
    refine j_eqi (y := nI (dp - 1)) (pk_sub (by omega)) ?_
    refine j_callV (As := [.int (nI (dp - 1))]) (rest := []) (r_isNumber Γ.l hI (dp - 1) (by omega)) Y_Mo_isNumber w_1043 w_1045 ws_36 hI.1 rfl rfl rfl (Nat.le_of_ble_eq_true rfl) (by omega) (by omega) (by omega) d_Mo_isArithmetic_76 (fun v76 N76 p76 => ?_)
    obtain ⟨rfl, q76⟩ := p76
    obtain rfl := q76.symm
    show mp_J Γ m_Mo_isArithmetic E κ M [(3, .int (nI 1)), (2, .int (nI 2)), (0, .ref (R 0)), (1, .int (nI 163))] 79 [.int (tf (decide ((A (dp - 1)).length ≤ 4)))] 0 0
    refine j_tif_ne 84 d_Mo_isArithmetic_79 (by decide) (fun b79 => ?_) (fun b79 => ?_)
    · skip
      have d79 := of_decide_eq_true b79
      refine j_iinc (v := nI 2) [(3, .int (nI 2)), (2, .int (nI 2)), (0, .ref (R 0)), (1, .int (nI 163))] d_Mo_isArithmetic_84 0 rfl (by decide) (by decide) rfl ?_
      refine j_goto (tgt := 64) d_Mo_isArithmetic_87 (by decide) ?_
      refine j_iload_n d_Mo_isArithmetic_64 rfl 0 rfl ?_
      refine j_iload_n d_Mo_isArithmetic_65 rfl 1 rfl ?_
      refine j_ncmp_gt 90 2 2 rfl rfl (by omega) (by omega) d_Mo_isArithmetic_66 (by decide) (fun b66 => (by first | exact b66.elim | exact absurd b66 (by omega))) (fun b66 => ?_)
      refine j_aload_n d_Mo_isArithmetic_69 rfl 2 rfl ?_
      refine j_aload_n d_Mo_isArithmetic_70 rfl 2 rfl ?_
      refine j_get F_Mo hI.1 11 (by decide) w_954 (Or.inl rfl) rfl d_Mo_isArithmetic_71 ?_
      refine j_iload_n d_Mo_isArithmetic_74 rfl 0 rfl ?_
      refine j_isub d_Mo_isArithmetic_75 ?_
      refine j_eqi (y := nI (dp - 2)) (pk_sub (by omega)) ?_
      refine j_callV (As := [.int (nI (dp - 2))]) (rest := []) (r_isNumber Γ.l hI (dp - 2) (by omega)) Y_Mo_isNumber w_1043 w_1045 ws_36 hI.1 rfl rfl rfl (Nat.le_of_ble_eq_true rfl) (by omega) (by omega) (by omega) d_Mo_isArithmetic_76 (fun v76 N76 p76 => ?_)
      obtain ⟨rfl, q76⟩ := p76
      obtain rfl := q76.symm
      show mp_J Γ m_Mo_isArithmetic E κ M [(3, .int (nI 2)), (2, .int (nI 2)), (0, .ref (R 0)), (1, .int (nI 163))] 79 [.int (tf (decide ((A (dp - 2)).length ≤ 4)))] 0 0
      refine j_tif_ne 84 d_Mo_isArithmetic_79 (by decide) (fun b79 => ?_) (fun b79 => ?_)
      · skip
        have d79 := of_decide_eq_true b79
        refine j_iinc (v := nI 3) [(3, .int (nI 3)), (2, .int (nI 2)), (0, .ref (R 0)), (1, .int (nI 163))] d_Mo_isArithmetic_84 0 rfl (by decide) (by decide) rfl ?_
        refine j_goto (tgt := 64) d_Mo_isArithmetic_87 (by decide) ?_
        refine j_iload_n d_Mo_isArithmetic_64 rfl 0 rfl ?_
        refine j_iload_n d_Mo_isArithmetic_65 rfl 1 rfl ?_
        refine j_ncmp_gt 90 3 2 rfl rfl (by omega) (by omega) d_Mo_isArithmetic_66 (by decide) (fun b66 => ?_) (fun b66 => (by first | exact b66.elim | exact absurd b66 (by omega)))
        refine j_aload_n d_Mo_isArithmetic_90 rfl 2 rfl ?_
        refine j_aload_n d_Mo_isArithmetic_91 rfl 2 rfl ?_
        refine j_get F_Mo hI.1 11 (by decide) w_954 (Or.inl rfl) rfl d_Mo_isArithmetic_92 ?_
        refine j_iload_n d_Mo_isArithmetic_95 rfl 1 rfl ?_
        refine j_isub d_Mo_isArithmetic_96 ?_
        refine j_eqi (y := nI (dp - 2)) (pk_sub (by omega)) ?_
        refine j_callV (As := [.int (nI (dp - 2))]) (rest := []) (r_numberAt Γ.l hI (dp - 2) (by omega) (by assumption)) Y_Mo_numberAt w_1047 w_1049 ws_37 hI.1 rfl rfl rfl (Nat.le_of_ble_eq_true rfl) (by omega) (by omega) (by omega) d_Mo_isArithmetic_97 (fun v97 N97 p97 => ?_)
        obtain ⟨rfl, q97⟩ := p97
        obtain rfl := q97.symm
        show mp_J Γ m_Mo_isArithmetic E κ M [(3, .int (nI 3)), (2, .int (nI 2)), (0, .ref (R 0)), (1, .int (nI 163))] 100 [.long (am_num (A (dp - 2)))] 0 0
        refine j_lstore_n [(3, .long (am_num (A (dp - 2)))), (2, .int (nI 2)), (0, .ref (R 0)), (1, .int (nI 163))] d_Mo_isArithmetic_100 rfl (by decide) rfl ?_
        refine j_iload_n d_Mo_isArithmetic_101 rfl 1 rfl ?_
        refine j_iconst (v := nI 1) d_Mo_isArithmetic_102 (by decide) ?_
        refine j_ncmp_le 121 2 1 rfl rfl (by omega) (by omega) d_Mo_isArithmetic_103 (by decide) (fun b103 => (by first | exact b103.elim | exact absurd b103 (by omega))) (fun b103 => ?_)
        refine j_aload_n d_Mo_isArithmetic_106 rfl 2 rfl ?_
        refine j_aload_n d_Mo_isArithmetic_107 rfl 2 rfl ?_
        refine j_get F_Mo hI.1 11 (by decide) w_954 (Or.inl rfl) rfl d_Mo_isArithmetic_108 ?_
        refine j_iload_n d_Mo_isArithmetic_111 rfl 1 rfl ?_
        refine j_isub d_Mo_isArithmetic_112 ?_
        refine j_eqi (y := nI (dp - 2)) (pk_sub (by omega)) ?_
        refine j_iconst (v := nI 1) d_Mo_isArithmetic_113 (by decide) ?_
        refine j_iadd d_Mo_isArithmetic_114 ?_
        refine j_eqi (y := nI ((dp - 2) + 1)) (nI_add (dp - 2) 1) ?_
        refine j_eqi (y := nI (dp - 1)) (by rw [show dp - 2 + 1 = dp - 1 by omega]) ?_
        refine j_callV (As := [.int (nI (dp - 1))]) (rest := []) (r_numberAt Γ.l hI (dp - 1) (by omega) (by assumption)) Y_Mo_numberAt w_1047 w_1049 ws_37 hI.1 rfl rfl rfl (Nat.le_of_ble_eq_true rfl) (by omega) (by omega) (by omega) d_Mo_isArithmetic_115 (fun v115 N115 p115 => ?_)
        obtain ⟨rfl, q115⟩ := p115
        obtain rfl := q115.symm
        show mp_J Γ m_Mo_isArithmetic E κ M [(3, .long (am_num (A (dp - 2)))), (2, .int (nI 2)), (0, .ref (R 0)), (1, .int (nI 163))] 118 [.long (am_num (A (dp - 1)))] 0 0
        refine j_goto (tgt := 122) d_Mo_isArithmetic_118 (by decide) ?_
        refine j_lstore [(5, .long (am_num (A (dp - 1)))), (3, .long (am_num (A (dp - 2)))), (2, .int (nI 2)), (0, .ref (R 0)), (1, .int (nI 163))] d_Mo_isArithmetic_122 (by decide) rfl ?_
        refine j_iload_n d_Mo_isArithmetic_124 rfl 2 rfl ?_
        refine j_iconst (v := nI 2) d_Mo_isArithmetic_125 (by decide) ?_
        refine j_ncmp_le 142 2 2 rfl rfl (by omega) (by omega) d_Mo_isArithmetic_126 (by decide) (fun b126 => ?_) (fun b126 => (by first | exact b126.elim | exact absurd b126 (by omega)))
        refine j_lconst (v := 0) d_Mo_isArithmetic_142 (by decide) ?_
        refine j_lstore [(7, .long 0), (5, .long (am_num (A (dp - 1)))), (3, .long (am_num (A (dp - 2)))), (2, .int (nI 2)), (0, .ref (R 0)), (1, .int (nI 163))] d_Mo_isArithmetic_143 (by decide) rfl ?_
        have v1 := am_num_lim (x := A (dp - 1)) (by assumption)
        have v2 := am_num_lim (x := A (dp - 2)) (by assumption)
        refine j_aload_n d_Mo_isArithmetic_145 rfl 4 rfl ?_
        refine j_dup d_Mo_isArithmetic_146 rfl ?_
        refine j_get F_Mo hI.1 11 (by decide) w_954 (Or.inl rfl) rfl d_Mo_isArithmetic_147 ?_
        refine j_iload_n d_Mo_isArithmetic_150 rfl 3 rfl ?_
        refine j_isub d_Mo_isArithmetic_151 ?_
        refine j_eqi (y := nI (dp - 2)) (pk_sub (by omega)) ?_
        refine j_put F_Mo hI.1 11 (by decide) w_954 (Or.inl rfl) rfl rfl rfl (Nat.le_of_ble_eq_true rfl) d_Mo_isArithmetic_152 ?_
        show mp_J Γ m_Mo_isArithmetic E κ (mp_up M (R 0) (mp_o 7 [.ref (R 1), .int (nI rows), .int thr, .ref (R 2), .ref (R 3), .ref (R 4), .ref (R 5), .ref (R 6), .ref (R 7), .ref (R 8), .ref (R 9), .int (nI (dp - 2)), .int (nI as_), .int (nI ops), .ref (R 10)])) [(7, .long 0), (5, .long (am_num (A (dp - 1)))), (3, .long (am_num (A (dp - 2)))), (2, .int (nI 2)), (0, .ref (R 0)), (1, .int (nI 163))] 155 [] 0 0
        generalize eM1 : mp_up M (R 0) (mp_o 7 [.ref (R 1), .int (nI rows), .int thr, .ref (R 2), .ref (R 3), .ref (R 4), .ref (R 5), .ref (R 6), .ref (R 7), .ref (R 8), .ref (R 9), .int (nI (dp - 2)), .int (nI as_), .int (nI ops), .ref (R 10)]) = M1
        have hM1__R_0_ : M1 (R 0) = some (mp_o 7 [.ref (R 1), .int (nI rows), .int thr, .ref (R 2), .ref (R 3), .ref (R 4), .ref (R 5), .ref (R 6), .ref (R 7), .ref (R 8), .ref (R 9), .int (nI (dp - 2)), .int (nI as_), .int (nI ops), .ref (R 10)]) := by rw [← eM1]; exact mp_s
        have JM1 : RI E M1 R rows thr (dp - 2) as_ ops A := hI.set hR eM1
        have fM1 : RFr R M M1 := RFr.s0 eM1
        refine j_iload_n d_Mo_isArithmetic_155 rfl 5 rfl ?_
        refine j_tableIn 527 d_Mo_isArithmetic_156 (by decide) (by decide) rfl (by decide) ?_
        refine j_lload_n d_Mo_isArithmetic_527 rfl 2 rfl ?_
        refine j_lload d_Mo_isArithmetic_528 1 rfl ?_
        refine j_lcmp d_Mo_isArithmetic_530 ?_
        refine j_if_ge 538 d_Mo_isArithmetic_531 (by decide) (fun b531 => ?_) (fun b531 => ?_)
        · skip
          refine j_lload d_Mo_isArithmetic_538 1 rfl ?_
          refine j_lstore [(9, .long (am_num (A (dp - 1)))), (7, .long 0), (5, .long (am_num (A (dp - 1)))), (3, .long (am_num (A (dp - 2)))), (2, .int (nI 2)), (0, .ref (R 0)), (1, .int (nI 163))] d_Mo_isArithmetic_540 (by decide) rfl ?_
          refine j_goto (tgt := 584) d_Mo_isArithmetic_542 (by decide) ?_
          refine j_aload_n d_Mo_isArithmetic_584 rfl 5 rfl ?_
          refine j_lload d_Mo_isArithmetic_585 0 rfl ?_
          refine j_callV (As := [.long (am_num (A (dp - 1)))]) (rest := []) (r_pushNumber Γ.l JM1 hR (am_num (A (dp - 1))) (am_mag_lt (by omega)) (by omega)) Y_Mo_pushNumber w_1031 w_1033 ws_33 hM1__R_0_ rfl rfl rfl (Nat.le_of_ble_eq_true rfl) (by omega) (by omega) (by omega) d_Mo_isArithmetic_587 (fun v587 N587 p587 => ?_)
          obtain ⟨rfl, I587, f587⟩ := p587
          show mp_J Γ m_Mo_isArithmetic E κ N587 [(9, .long (am_num (A (dp - 1)))), (7, .long 0), (5, .long (am_num (A (dp - 1)))), (3, .long (am_num (A (dp - 2)))), (2, .int (nI 2)), (0, .ref (R 0)), (1, .int (nI 163))] 590 [] 0 0
          refine j_iconst (v := nI 1) d_Mo_isArithmetic_590 (by decide) ?_
          exact j_zret hκ rfl (by first | exact Or.inl rfl | exact Or.inr rfl) (by omega) (by omega) d_Mo_isArithmetic_591 (RQ.t I587 (fM1.trans f587) (by omega) (by unfold am_op; rw [if_neg (by decide), if_neg (by decide), if_neg (by decide), if_neg (by decide), if_neg (by decide), if_pos (by decide)]; exact ar3 (by omega) (by omega) (show _ = some ((am_of (if am_num ((LM A dp).getD 0 []) < am_num ((LM A dp).getD 1 []) then am_num ((LM A dp).getD 0 []) else am_num ((LM A dp).getD 1 []))) :: (LM A dp).drop 2, LO A as_, b, ops) from by unfold a_ord; rw [if_neg (fun z => z (an_2 (by omega) (by assumption) (by assumption))), if_neg (by decide), if_neg (by decide), if_neg (by decide), if_neg (by decide), if_pos rfl]) (by rw [g0 (by omega), g1 (by omega)]; first | rw [mn_2 ((lg_cmp_ge _ _).mp b531)] | rw [mn_1 (fun h => b531 ((lg_cmp_ge _ _).mpr h))])))
        · skip
          refine j_lload_n d_Mo_isArithmetic_534 rfl 2 rfl ?_
          refine j_goto (tgt := 540) d_Mo_isArithmetic_535 (by decide) ?_
          refine j_lstore [(9, .long (am_num (A (dp - 2)))), (7, .long 0), (5, .long (am_num (A (dp - 1)))), (3, .long (am_num (A (dp - 2)))), (2, .int (nI 2)), (0, .ref (R 0)), (1, .int (nI 163))] d_Mo_isArithmetic_540 (by decide) rfl ?_
          refine j_goto (tgt := 584) d_Mo_isArithmetic_542 (by decide) ?_
          refine j_aload_n d_Mo_isArithmetic_584 rfl 5 rfl ?_
          refine j_lload d_Mo_isArithmetic_585 0 rfl ?_
          refine j_callV (As := [.long (am_num (A (dp - 2)))]) (rest := []) (r_pushNumber Γ.l JM1 hR (am_num (A (dp - 2))) (am_mag_lt (by omega)) (by omega)) Y_Mo_pushNumber w_1031 w_1033 ws_33 hM1__R_0_ rfl rfl rfl (Nat.le_of_ble_eq_true rfl) (by omega) (by omega) (by omega) d_Mo_isArithmetic_587 (fun v587 N587 p587 => ?_)
          obtain ⟨rfl, I587, f587⟩ := p587
          show mp_J Γ m_Mo_isArithmetic E κ N587 [(9, .long (am_num (A (dp - 2)))), (7, .long 0), (5, .long (am_num (A (dp - 1)))), (3, .long (am_num (A (dp - 2)))), (2, .int (nI 2)), (0, .ref (R 0)), (1, .int (nI 163))] 590 [] 0 0
          refine j_iconst (v := nI 1) d_Mo_isArithmetic_590 (by decide) ?_
          exact j_zret hκ rfl (by first | exact Or.inl rfl | exact Or.inr rfl) (by omega) (by omega) d_Mo_isArithmetic_591 (RQ.t I587 (fM1.trans f587) (by omega) (by unfold am_op; rw [if_neg (by decide), if_neg (by decide), if_neg (by decide), if_neg (by decide), if_neg (by decide), if_pos (by decide)]; exact ar3 (by omega) (by omega) (show _ = some ((am_of (if am_num ((LM A dp).getD 0 []) < am_num ((LM A dp).getD 1 []) then am_num ((LM A dp).getD 0 []) else am_num ((LM A dp).getD 1 []))) :: (LM A dp).drop 2, LO A as_, b, ops) from by unfold a_ord; rw [if_neg (fun z => z (an_2 (by omega) (by assumption) (by assumption))), if_neg (by decide), if_neg (by decide), if_neg (by decide), if_neg (by decide), if_pos rfl]) (by rw [g0 (by omega), g1 (by omega)]; first | rw [mn_2 ((lg_cmp_ge _ _).mp b531)] | rw [mn_1 (fun h => b531 ((lg_cmp_ge _ _).mpr h))])))
      · skip
        have d79 := of_decide_eq_false b79
        refine j_iconst (v := nI 0) d_Mo_isArithmetic_82 (by decide) ?_
        exact j_zret hκ rfl (by first | exact Or.inl rfl | exact Or.inr rfl) (by omega) (by omega) d_Mo_isArithmetic_83 (RQ.f hI RFr.refl (by omega) (by unfold am_op; rw [if_neg (by decide), if_neg (by decide), if_neg (by decide), if_neg (by decide), if_neg (by decide), if_pos (by decide)]; unfold a_ord; rw [if_pos (an_f (p := 1) (by decide) (Or.inr ⟨by omega, by rw [show dp - 1 - 1 = dp - 2 by omega]; exact d79⟩))]))
    · skip
      have d79 := of_decide_eq_false b79
      refine j_iconst (v := nI 0) d_Mo_isArithmetic_82 (by decide) ?_
      exact j_zret hκ rfl (by first | exact Or.inl rfl | exact Or.inr rfl) (by omega) (by omega) d_Mo_isArithmetic_83 (RQ.f hI RFr.refl (by omega) (by unfold am_op; rw [if_neg (by decide), if_neg (by decide), if_neg (by decide), if_neg (by decide), if_neg (by decide), if_pos (by decide)]; unfold a_ord; rw [if_pos (an_f (p := 0) (by decide) (Or.inr ⟨by omega, by rw [show dp - 1 - 0 = dp - 1 by omega]; exact d79⟩))]))
  · skip
    have d57 := of_decide_eq_false b57
    refine j_iconst (v := nI 0) d_Mo_isArithmetic_60 (by decide) ?_
    exact j_zret hκ rfl (by first | exact Or.inl rfl | exact Or.inr rfl) (by omega) (by omega) d_Mo_isArithmetic_61 (RQ.f hI RFr.refl (by omega) (by unfold am_op; rw [if_neg (by decide), if_neg (by decide), if_neg (by decide), if_neg (by decide), if_neg (by decide), if_pos (by decide)]; unfold a_ord; rw [if_pos (an_f (p := 0) (by decide) (Or.inl (by omega)))]))

set_option maxHeartbeats 4000000 in
set_option maxRecDepth 100000 in
theorem c_Mo_ar_164 (l : Launch) (E : mp_E) (M : mp_M) (R : Nat → Nat) (rows : Nat) (thr : Int32) (dp as_ ops : Nat) (A : Nat → am_T) (b : List Bool) (hI : RI E M R rows thr dp as_ ops A) (hR : RL R) (hd : dp + as_ ≤ 200) (hk : ops ≤ 1000) : mp_Cr l m_Mo_isArithmetic E M 2 0 0 [.ref (R 0), .int (nI 164)] (RQ E R M rows thr b (am_op 164 (LM A dp) (LO A as_) b ops)) := by
  refine mp_Cr.of (by decide) (Nat.le_of_ble_eq_true rfl) fun Γ κ hl hκ => ?_
  subst hl
  obtain ⟨hκd, hκc, hκs, -⟩ := id hκ
  show mp_J Γ m_Mo_isArithmetic E κ M [(0, .ref (R 0)), (1, .int (nI 164))] 0 [] 0 0
  refine j_iload_n d_Mo_isArithmetic_0 rfl 1 rfl ?_
  refine j_sipush (v := nI 165) d_Mo_isArithmetic_1 (by decide) ?_
  refine j_ncmp_ne 11 164 165 rfl rfl (by omega) (by omega) d_Mo_isArithmetic_4 (by decide) (fun b4 => ?_) (fun b4 => (by first | exact b4.elim | exact absurd b4 (by omega)))
  refine j_iload_n d_Mo_isArithmetic_11 rfl 1 rfl ?_
  refine j_sipush (v := nI 146) d_Mo_isArithmetic_12 (by decide) ?_
  refine j_ncmp_gt 22 164 146 rfl rfl (by omega) (by omega) d_Mo_isArithmetic_15 (by decide) (fun b15 => ?_) (fun b15 => (by first | exact b15.elim | exact absurd b15 (by omega)))
  refine j_iconst (v := nI 2) d_Mo_isArithmetic_22 (by decide) ?_
  refine j_istore_n [(2, .int (nI 2)), (0, .ref (R 0)), (1, .int (nI 164))] d_Mo_isArithmetic_23 rfl (by decide) rfl ?_
  refine j_iload_n d_Mo_isArithmetic_24 rfl 2 rfl ?_
  refine j_sipush (v := nI 141) d_Mo_isArithmetic_25 (by decide) ?_
  refine j_ncmp_eq 60 164 141 rfl rfl (by omega) (by omega) d_Mo_isArithmetic_28 (by decide) (fun b28 => (by first | exact b28.elim | exact absurd b28 (by omega))) (fun b28 => ?_)
  refine j_iload_n d_Mo_isArithmetic_31 rfl 2 rfl ?_
  refine j_sipush (v := nI 142) d_Mo_isArithmetic_32 (by decide) ?_
  refine j_ncmp_eq 60 164 142 rfl rfl (by omega) (by omega) d_Mo_isArithmetic_35 (by decide) (fun b35 => (by first | exact b35.elim | exact absurd b35 (by omega))) (fun b35 => ?_)
  refine j_iload_n d_Mo_isArithmetic_38 rfl 2 rfl ?_
  refine j_sipush (v := nI 149) d_Mo_isArithmetic_39 (by decide) ?_
  refine j_ncmp_lt 52 164 149 rfl rfl (by omega) (by omega) d_Mo_isArithmetic_42 (by decide) (fun b42 => (by first | exact b42.elim | exact absurd b42 (by omega))) (fun b42 => ?_)
  refine j_iload_n d_Mo_isArithmetic_45 rfl 2 rfl ?_
  refine j_sipush (v := nI 153) d_Mo_isArithmetic_46 (by decide) ?_
  refine j_ncmp_le 60 164 153 rfl rfl (by omega) (by omega) d_Mo_isArithmetic_49 (by decide) (fun b49 => (by first | exact b49.elim | exact absurd b49 (by omega))) (fun b49 => ?_)
  refine j_aload_n d_Mo_isArithmetic_52 rfl 1 rfl ?_
  refine j_iload_n d_Mo_isArithmetic_53 rfl 0 rfl ?_
  refine j_callV (As := [.int (nI 2)]) (rest := []) (c_Mo_has Γ.l E M (R 0) (R 1) rows (R 2) (R 3) (R 4) (R 5) (R 6) (R 7) (R 8) (R 9) dp as_ ops (R 10) thr 2 hI.1 (by omega) (by omega)) Y_Mo_has w_1039 w_1041 ws_35 hI.1 rfl rfl rfl (Nat.le_of_ble_eq_true rfl) (by omega) (by omega) (by omega) d_Mo_isArithmetic_54 (fun v54 N54 p54 => ?_)
  obtain ⟨rfl, q54⟩ := p54
  obtain rfl := q54.symm
  show mp_J Γ m_Mo_isArithmetic E κ M [(2, .int (nI 2)), (0, .ref (R 0)), (1, .int (nI 164))] 57 [.int (tf (decide (2 ≤ dp)))] 0 0
  refine j_tif_ne 62 d_Mo_isArithmetic_57 (by decide) (fun b57 => ?_) (fun b57 => ?_)
  · skip
    have d57 := of_decide_eq_true b57
    refine j_iconst (v := nI 1) d_Mo_isArithmetic_62 (by decide) ?_
    refine j_istore_n [(3, .int (nI 1)), (2, .int (nI 2)), (0, .ref (R 0)), (1, .int (nI 164))] d_Mo_isArithmetic_63 rfl (by decide) rfl ?_
    refine j_iload_n d_Mo_isArithmetic_64 rfl 0 rfl ?_
    refine j_iload_n d_Mo_isArithmetic_65 rfl 1 rfl ?_
    refine j_ncmp_gt 90 1 2 rfl rfl (by omega) (by omega) d_Mo_isArithmetic_66 (by decide) (fun b66 => (by first | exact b66.elim | exact absurd b66 (by omega))) (fun b66 => ?_)
    refine j_aload_n d_Mo_isArithmetic_69 rfl 2 rfl ?_
    refine j_aload_n d_Mo_isArithmetic_70 rfl 2 rfl ?_
    refine j_get F_Mo hI.1 11 (by decide) w_954 (Or.inl rfl) rfl d_Mo_isArithmetic_71 ?_
    refine j_iload_n d_Mo_isArithmetic_74 rfl 0 rfl ?_
    refine j_isub d_Mo_isArithmetic_75 ?_
    refine j_eqi (y := nI (dp - 1)) (pk_sub (by omega)) ?_
    refine j_callV (As := [.int (nI (dp - 1))]) (rest := []) (r_isNumber Γ.l hI (dp - 1) (by omega)) Y_Mo_isNumber w_1043 w_1045 ws_36 hI.1 rfl rfl rfl (Nat.le_of_ble_eq_true rfl) (by omega) (by omega) (by omega) d_Mo_isArithmetic_76 (fun v76 N76 p76 => ?_)
    obtain ⟨rfl, q76⟩ := p76
    obtain rfl := q76.symm
    show mp_J Γ m_Mo_isArithmetic E κ M [(3, .int (nI 1)), (2, .int (nI 2)), (0, .ref (R 0)), (1, .int (nI 164))] 79 [.int (tf (decide ((A (dp - 1)).length ≤ 4)))] 0 0
    refine j_tif_ne 84 d_Mo_isArithmetic_79 (by decide) (fun b79 => ?_) (fun b79 => ?_)
    · skip
      have d79 := of_decide_eq_true b79
      refine j_iinc (v := nI 2) [(3, .int (nI 2)), (2, .int (nI 2)), (0, .ref (R 0)), (1, .int (nI 164))] d_Mo_isArithmetic_84 0 rfl (by decide) (by decide) rfl ?_
      refine j_goto (tgt := 64) d_Mo_isArithmetic_87 (by decide) ?_
      refine j_iload_n d_Mo_isArithmetic_64 rfl 0 rfl ?_
      refine j_iload_n d_Mo_isArithmetic_65 rfl 1 rfl ?_
      refine j_ncmp_gt 90 2 2 rfl rfl (by omega) (by omega) d_Mo_isArithmetic_66 (by decide) (fun b66 => (by first | exact b66.elim | exact absurd b66 (by omega))) (fun b66 => ?_)
      refine j_aload_n d_Mo_isArithmetic_69 rfl 2 rfl ?_
      refine j_aload_n d_Mo_isArithmetic_70 rfl 2 rfl ?_
      refine j_get F_Mo hI.1 11 (by decide) w_954 (Or.inl rfl) rfl d_Mo_isArithmetic_71 ?_
      refine j_iload_n d_Mo_isArithmetic_74 rfl 0 rfl ?_
      refine j_isub d_Mo_isArithmetic_75 ?_
      refine j_eqi (y := nI (dp - 2)) (pk_sub (by omega)) ?_
      refine j_callV (As := [.int (nI (dp - 2))]) (rest := []) (r_isNumber Γ.l hI (dp - 2) (by omega)) Y_Mo_isNumber w_1043 w_1045 ws_36 hI.1 rfl rfl rfl (Nat.le_of_ble_eq_true rfl) (by omega) (by omega) (by omega) d_Mo_isArithmetic_76 (fun v76 N76 p76 => ?_)
      obtain ⟨rfl, q76⟩ := p76
      obtain rfl := q76.symm
      show mp_J Γ m_Mo_isArithmetic E κ M [(3, .int (nI 2)), (2, .int (nI 2)), (0, .ref (R 0)), (1, .int (nI 164))] 79 [.int (tf (decide ((A (dp - 2)).length ≤ 4)))] 0 0
      refine j_tif_ne 84 d_Mo_isArithmetic_79 (by decide) (fun b79 => ?_) (fun b79 => ?_)
      · skip
        have d79 := of_decide_eq_true b79
        refine j_iinc (v := nI 3) [(3, .int (nI 3)), (2, .int (nI 2)), (0, .ref (R 0)), (1, .int (nI 164))] d_Mo_isArithmetic_84 0 rfl (by decide) (by decide) rfl ?_
        refine j_goto (tgt := 64) d_Mo_isArithmetic_87 (by decide) ?_
        refine j_iload_n d_Mo_isArithmetic_64 rfl 0 rfl ?_
        refine j_iload_n d_Mo_isArithmetic_65 rfl 1 rfl ?_
        refine j_ncmp_gt 90 3 2 rfl rfl (by omega) (by omega) d_Mo_isArithmetic_66 (by decide) (fun b66 => ?_) (fun b66 => (by first | exact b66.elim | exact absurd b66 (by omega)))
        refine j_aload_n d_Mo_isArithmetic_90 rfl 2 rfl ?_
        refine j_aload_n d_Mo_isArithmetic_91 rfl 2 rfl ?_
        refine j_get F_Mo hI.1 11 (by decide) w_954 (Or.inl rfl) rfl d_Mo_isArithmetic_92 ?_
        refine j_iload_n d_Mo_isArithmetic_95 rfl 1 rfl ?_
        refine j_isub d_Mo_isArithmetic_96 ?_
        refine j_eqi (y := nI (dp - 2)) (pk_sub (by omega)) ?_
        refine j_callV (As := [.int (nI (dp - 2))]) (rest := []) (r_numberAt Γ.l hI (dp - 2) (by omega) (by assumption)) Y_Mo_numberAt w_1047 w_1049 ws_37 hI.1 rfl rfl rfl (Nat.le_of_ble_eq_true rfl) (by omega) (by omega) (by omega) d_Mo_isArithmetic_97 (fun v97 N97 p97 => ?_)
        obtain ⟨rfl, q97⟩ := p97
        obtain rfl := q97.symm
        show mp_J Γ m_Mo_isArithmetic E κ M [(3, .int (nI 3)), (2, .int (nI 2)), (0, .ref (R 0)), (1, .int (nI 164))] 100 [.long (am_num (A (dp - 2)))] 0 0
        refine j_lstore_n [(3, .long (am_num (A (dp - 2)))), (2, .int (nI 2)), (0, .ref (R 0)), (1, .int (nI 164))] d_Mo_isArithmetic_100 rfl (by decide) rfl ?_
        refine j_iload_n d_Mo_isArithmetic_101 rfl 1 rfl ?_
        refine j_iconst (v := nI 1) d_Mo_isArithmetic_102 (by decide) ?_
        refine j_ncmp_le 121 2 1 rfl rfl (by omega) (by omega) d_Mo_isArithmetic_103 (by decide) (fun b103 => (by first | exact b103.elim | exact absurd b103 (by omega))) (fun b103 => ?_)
        refine j_aload_n d_Mo_isArithmetic_106 rfl 2 rfl ?_
        refine j_aload_n d_Mo_isArithmetic_107 rfl 2 rfl ?_
        refine j_get F_Mo hI.1 11 (by decide) w_954 (Or.inl rfl) rfl d_Mo_isArithmetic_108 ?_
        refine j_iload_n d_Mo_isArithmetic_111 rfl 1 rfl ?_
        refine j_isub d_Mo_isArithmetic_112 ?_
        refine j_eqi (y := nI (dp - 2)) (pk_sub (by omega)) ?_
        refine j_iconst (v := nI 1) d_Mo_isArithmetic_113 (by decide) ?_
        refine j_iadd d_Mo_isArithmetic_114 ?_
        refine j_eqi (y := nI ((dp - 2) + 1)) (nI_add (dp - 2) 1) ?_
        refine j_eqi (y := nI (dp - 1)) (by rw [show dp - 2 + 1 = dp - 1 by omega]) ?_
        refine j_callV (As := [.int (nI (dp - 1))]) (rest := []) (r_numberAt Γ.l hI (dp - 1) (by omega) (by assumption)) Y_Mo_numberAt w_1047 w_1049 ws_37 hI.1 rfl rfl rfl (Nat.le_of_ble_eq_true rfl) (by omega) (by omega) (by omega) d_Mo_isArithmetic_115 (fun v115 N115 p115 => ?_)
        obtain ⟨rfl, q115⟩ := p115
        obtain rfl := q115.symm
        show mp_J Γ m_Mo_isArithmetic E κ M [(3, .long (am_num (A (dp - 2)))), (2, .int (nI 2)), (0, .ref (R 0)), (1, .int (nI 164))] 118 [.long (am_num (A (dp - 1)))] 0 0
        refine j_goto (tgt := 122) d_Mo_isArithmetic_118 (by decide) ?_
        refine j_lstore [(5, .long (am_num (A (dp - 1)))), (3, .long (am_num (A (dp - 2)))), (2, .int (nI 2)), (0, .ref (R 0)), (1, .int (nI 164))] d_Mo_isArithmetic_122 (by decide) rfl ?_
        refine j_iload_n d_Mo_isArithmetic_124 rfl 2 rfl ?_
        refine j_iconst (v := nI 2) d_Mo_isArithmetic_125 (by decide) ?_
        refine j_ncmp_le 142 2 2 rfl rfl (by omega) (by omega) d_Mo_isArithmetic_126 (by decide) (fun b126 => ?_) (fun b126 => (by first | exact b126.elim | exact absurd b126 (by omega)))
        refine j_lconst (v := 0) d_Mo_isArithmetic_142 (by decide) ?_
        refine j_lstore [(7, .long 0), (5, .long (am_num (A (dp - 1)))), (3, .long (am_num (A (dp - 2)))), (2, .int (nI 2)), (0, .ref (R 0)), (1, .int (nI 164))] d_Mo_isArithmetic_143 (by decide) rfl ?_
        have v1 := am_num_lim (x := A (dp - 1)) (by assumption)
        have v2 := am_num_lim (x := A (dp - 2)) (by assumption)
        refine j_aload_n d_Mo_isArithmetic_145 rfl 4 rfl ?_
        refine j_dup d_Mo_isArithmetic_146 rfl ?_
        refine j_get F_Mo hI.1 11 (by decide) w_954 (Or.inl rfl) rfl d_Mo_isArithmetic_147 ?_
        refine j_iload_n d_Mo_isArithmetic_150 rfl 3 rfl ?_
        refine j_isub d_Mo_isArithmetic_151 ?_
        refine j_eqi (y := nI (dp - 2)) (pk_sub (by omega)) ?_
        refine j_put F_Mo hI.1 11 (by decide) w_954 (Or.inl rfl) rfl rfl rfl (Nat.le_of_ble_eq_true rfl) d_Mo_isArithmetic_152 ?_
        show mp_J Γ m_Mo_isArithmetic E κ (mp_up M (R 0) (mp_o 7 [.ref (R 1), .int (nI rows), .int thr, .ref (R 2), .ref (R 3), .ref (R 4), .ref (R 5), .ref (R 6), .ref (R 7), .ref (R 8), .ref (R 9), .int (nI (dp - 2)), .int (nI as_), .int (nI ops), .ref (R 10)])) [(7, .long 0), (5, .long (am_num (A (dp - 1)))), (3, .long (am_num (A (dp - 2)))), (2, .int (nI 2)), (0, .ref (R 0)), (1, .int (nI 164))] 155 [] 0 0
        generalize eM1 : mp_up M (R 0) (mp_o 7 [.ref (R 1), .int (nI rows), .int thr, .ref (R 2), .ref (R 3), .ref (R 4), .ref (R 5), .ref (R 6), .ref (R 7), .ref (R 8), .ref (R 9), .int (nI (dp - 2)), .int (nI as_), .int (nI ops), .ref (R 10)]) = M1
        have hM1__R_0_ : M1 (R 0) = some (mp_o 7 [.ref (R 1), .int (nI rows), .int thr, .ref (R 2), .ref (R 3), .ref (R 4), .ref (R 5), .ref (R 6), .ref (R 7), .ref (R 8), .ref (R 9), .int (nI (dp - 2)), .int (nI as_), .int (nI ops), .ref (R 10)]) := by rw [← eM1]; exact mp_s
        have JM1 : RI E M1 R rows thr (dp - 2) as_ ops A := hI.set hR eM1
        have fM1 : RFr R M M1 := RFr.s0 eM1
        refine j_iload_n d_Mo_isArithmetic_155 rfl 5 rfl ?_
        refine j_tableIn 545 d_Mo_isArithmetic_156 (by decide) (by decide) rfl (by decide) ?_
        refine j_lload_n d_Mo_isArithmetic_545 rfl 2 rfl ?_
        refine j_lload d_Mo_isArithmetic_546 1 rfl ?_
        refine j_lcmp d_Mo_isArithmetic_548 ?_
        refine j_if_le 556 d_Mo_isArithmetic_549 (by decide) (fun b549 => ?_) (fun b549 => ?_)
        · skip
          refine j_lload d_Mo_isArithmetic_556 1 rfl ?_
          refine j_lstore [(9, .long (am_num (A (dp - 1)))), (7, .long 0), (5, .long (am_num (A (dp - 1)))), (3, .long (am_num (A (dp - 2)))), (2, .int (nI 2)), (0, .ref (R 0)), (1, .int (nI 164))] d_Mo_isArithmetic_558 (by decide) rfl ?_
          refine j_goto (tgt := 584) d_Mo_isArithmetic_560 (by decide) ?_
          refine j_aload_n d_Mo_isArithmetic_584 rfl 5 rfl ?_
          refine j_lload d_Mo_isArithmetic_585 0 rfl ?_
          refine j_callV (As := [.long (am_num (A (dp - 1)))]) (rest := []) (r_pushNumber Γ.l JM1 hR (am_num (A (dp - 1))) (am_mag_lt (by omega)) (by omega)) Y_Mo_pushNumber w_1031 w_1033 ws_33 hM1__R_0_ rfl rfl rfl (Nat.le_of_ble_eq_true rfl) (by omega) (by omega) (by omega) d_Mo_isArithmetic_587 (fun v587 N587 p587 => ?_)
          obtain ⟨rfl, I587, f587⟩ := p587
          show mp_J Γ m_Mo_isArithmetic E κ N587 [(9, .long (am_num (A (dp - 1)))), (7, .long 0), (5, .long (am_num (A (dp - 1)))), (3, .long (am_num (A (dp - 2)))), (2, .int (nI 2)), (0, .ref (R 0)), (1, .int (nI 164))] 590 [] 0 0
          refine j_iconst (v := nI 1) d_Mo_isArithmetic_590 (by decide) ?_
          exact j_zret hκ rfl (by first | exact Or.inl rfl | exact Or.inr rfl) (by omega) (by omega) d_Mo_isArithmetic_591 (RQ.t I587 (fM1.trans f587) (by omega) (by unfold am_op; rw [if_neg (by decide), if_neg (by decide), if_neg (by decide), if_neg (by decide), if_neg (by decide), if_pos (by decide)]; exact ar3 (by omega) (by omega) (show _ = some ((am_of (if am_num ((LM A dp).getD 0 []) < am_num ((LM A dp).getD 1 []) then am_num ((LM A dp).getD 1 []) else am_num ((LM A dp).getD 0 []))) :: (LM A dp).drop 2, LO A as_, b, ops) from by unfold a_ord; rw [if_neg (fun z => z (an_2 (by omega) (by assumption) (by assumption))), if_neg (by decide), if_neg (by decide), if_neg (by decide), if_neg (by decide), if_neg (by decide), if_pos rfl]) (by rw [g0 (by omega), g1 (by omega)]; first | rw [if_neg (Int64.not_lt.mpr ((lg_cmp_le _ _).mp b549))] | rw [if_pos (Int64.not_le.mp (fun h => b549 ((lg_cmp_le _ _).mpr h)))])))
        · skip
          refine j_lload_n d_Mo_isArithmetic_552 rfl 2 rfl ?_
          refine j_goto (tgt := 558) d_Mo_isArithmetic_553 (by decide) ?_
          refine j_lstore [(9, .long (am_num (A (dp - 2)))), (7, .long 0), (5, .long (am_num (A (dp - 1)))), (3, .long (am_num (A (dp - 2)))), (2, .int (nI 2)), (0, .ref (R 0)), (1, .int (nI 164))] d_Mo_isArithmetic_558 (by decide) rfl ?_
          refine j_goto (tgt := 584) d_Mo_isArithmetic_560 (by decide) ?_
          refine j_aload_n d_Mo_isArithmetic_584 rfl 5 rfl ?_
          refine j_lload d_Mo_isArithmetic_585 0 rfl ?_
          refine j_callV (As := [.long (am_num (A (dp - 2)))]) (rest := []) (r_pushNumber Γ.l JM1 hR (am_num (A (dp - 2))) (am_mag_lt (by omega)) (by omega)) Y_Mo_pushNumber w_1031 w_1033 ws_33 hM1__R_0_ rfl rfl rfl (Nat.le_of_ble_eq_true rfl) (by omega) (by omega) (by omega) d_Mo_isArithmetic_587 (fun v587 N587 p587 => ?_)
          obtain ⟨rfl, I587, f587⟩ := p587
          show mp_J Γ m_Mo_isArithmetic E κ N587 [(9, .long (am_num (A (dp - 2)))), (7, .long 0), (5, .long (am_num (A (dp - 1)))), (3, .long (am_num (A (dp - 2)))), (2, .int (nI 2)), (0, .ref (R 0)), (1, .int (nI 164))] 590 [] 0 0
          refine j_iconst (v := nI 1) d_Mo_isArithmetic_590 (by decide) ?_
          exact j_zret hκ rfl (by first | exact Or.inl rfl | exact Or.inr rfl) (by omega) (by omega) d_Mo_isArithmetic_591 (RQ.t I587 (fM1.trans f587) (by omega) (by unfold am_op; rw [if_neg (by decide), if_neg (by decide), if_neg (by decide), if_neg (by decide), if_neg (by decide), if_pos (by decide)]; exact ar3 (by omega) (by omega) (show _ = some ((am_of (if am_num ((LM A dp).getD 0 []) < am_num ((LM A dp).getD 1 []) then am_num ((LM A dp).getD 1 []) else am_num ((LM A dp).getD 0 []))) :: (LM A dp).drop 2, LO A as_, b, ops) from by unfold a_ord; rw [if_neg (fun z => z (an_2 (by omega) (by assumption) (by assumption))), if_neg (by decide), if_neg (by decide), if_neg (by decide), if_neg (by decide), if_neg (by decide), if_pos rfl]) (by rw [g0 (by omega), g1 (by omega)]; first | rw [if_neg (Int64.not_lt.mpr ((lg_cmp_le _ _).mp b549))] | rw [if_pos (Int64.not_le.mp (fun h => b549 ((lg_cmp_le _ _).mpr h)))])))
      · skip
        have d79 := of_decide_eq_false b79
        refine j_iconst (v := nI 0) d_Mo_isArithmetic_82 (by decide) ?_
        exact j_zret hκ rfl (by first | exact Or.inl rfl | exact Or.inr rfl) (by omega) (by omega) d_Mo_isArithmetic_83 (RQ.f hI RFr.refl (by omega) (by unfold am_op; rw [if_neg (by decide), if_neg (by decide), if_neg (by decide), if_neg (by decide), if_neg (by decide), if_pos (by decide)]; unfold a_ord; rw [if_pos (an_f (p := 1) (by decide) (Or.inr ⟨by omega, by rw [show dp - 1 - 1 = dp - 2 by omega]; exact d79⟩))]))
    · skip
      have d79 := of_decide_eq_false b79
      refine j_iconst (v := nI 0) d_Mo_isArithmetic_82 (by decide) ?_
      exact j_zret hκ rfl (by first | exact Or.inl rfl | exact Or.inr rfl) (by omega) (by omega) d_Mo_isArithmetic_83 (RQ.f hI RFr.refl (by omega) (by unfold am_op; rw [if_neg (by decide), if_neg (by decide), if_neg (by decide), if_neg (by decide), if_neg (by decide), if_pos (by decide)]; unfold a_ord; rw [if_pos (an_f (p := 0) (by decide) (Or.inr ⟨by omega, by rw [show dp - 1 - 0 = dp - 1 by omega]; exact d79⟩))]))
  · skip
    have d57 := of_decide_eq_false b57
    refine j_iconst (v := nI 0) d_Mo_isArithmetic_60 (by decide) ?_
    exact j_zret hκ rfl (by first | exact Or.inl rfl | exact Or.inr rfl) (by omega) (by omega) d_Mo_isArithmetic_61 (RQ.f hI RFr.refl (by omega) (by unfold am_op; rw [if_neg (by decide), if_neg (by decide), if_neg (by decide), if_neg (by decide), if_neg (by decide), if_pos (by decide)]; unfold a_ord; rw [if_pos (an_f (p := 0) (by decide) (Or.inl (by omega)))]))

set_option maxHeartbeats 4000000 in
set_option maxRecDepth 100000 in
theorem c_Mo_ar_165 (l : Launch) (E : mp_E) (M : mp_M) (R : Nat → Nat) (rows : Nat) (thr : Int32) (dp as_ ops : Nat) (A : Nat → am_T) (b : List Bool) (hI : RI E M R rows thr dp as_ ops A) (hR : RL R) (hd : dp + as_ ≤ 200) (hk : ops ≤ 1000) : mp_Cr l m_Mo_isArithmetic E M 2 0 0 [.ref (R 0), .int (nI 165)] (RQ E R M rows thr b (am_op 165 (LM A dp) (LO A as_) b ops)) := by
  refine mp_Cr.of (by decide) (Nat.le_of_ble_eq_true rfl) fun Γ κ hl hκ => ?_
  subst hl
  obtain ⟨hκd, hκc, hκs, -⟩ := id hκ
  show mp_J Γ m_Mo_isArithmetic E κ M [(0, .ref (R 0)), (1, .int (nI 165))] 0 [] 0 0
  refine j_iload_n d_Mo_isArithmetic_0 rfl 1 rfl ?_
  refine j_sipush (v := nI 165) d_Mo_isArithmetic_1 (by decide) ?_
  refine j_ncmp_ne 11 165 165 rfl rfl (by omega) (by omega) d_Mo_isArithmetic_4 (by decide) (fun b4 => (by first | exact b4.elim | exact absurd b4 (by omega))) (fun b4 => ?_)
  refine j_iconst (v := nI 3) d_Mo_isArithmetic_7 (by decide) ?_
  refine j_goto (tgt := 23) d_Mo_isArithmetic_8 (by decide) ?_
  refine j_istore_n [(2, .int (nI 3)), (0, .ref (R 0)), (1, .int (nI 165))] d_Mo_isArithmetic_23 rfl (by decide) rfl ?_
  refine j_iload_n d_Mo_isArithmetic_24 rfl 2 rfl ?_
  refine j_sipush (v := nI 141) d_Mo_isArithmetic_25 (by decide) ?_
  refine j_ncmp_eq 60 165 141 rfl rfl (by omega) (by omega) d_Mo_isArithmetic_28 (by decide) (fun b28 => (by first | exact b28.elim | exact absurd b28 (by omega))) (fun b28 => ?_)
  refine j_iload_n d_Mo_isArithmetic_31 rfl 2 rfl ?_
  refine j_sipush (v := nI 142) d_Mo_isArithmetic_32 (by decide) ?_
  refine j_ncmp_eq 60 165 142 rfl rfl (by omega) (by omega) d_Mo_isArithmetic_35 (by decide) (fun b35 => (by first | exact b35.elim | exact absurd b35 (by omega))) (fun b35 => ?_)
  refine j_iload_n d_Mo_isArithmetic_38 rfl 2 rfl ?_
  refine j_sipush (v := nI 149) d_Mo_isArithmetic_39 (by decide) ?_
  refine j_ncmp_lt 52 165 149 rfl rfl (by omega) (by omega) d_Mo_isArithmetic_42 (by decide) (fun b42 => (by first | exact b42.elim | exact absurd b42 (by omega))) (fun b42 => ?_)
  refine j_iload_n d_Mo_isArithmetic_45 rfl 2 rfl ?_
  refine j_sipush (v := nI 153) d_Mo_isArithmetic_46 (by decide) ?_
  refine j_ncmp_le 60 165 153 rfl rfl (by omega) (by omega) d_Mo_isArithmetic_49 (by decide) (fun b49 => (by first | exact b49.elim | exact absurd b49 (by omega))) (fun b49 => ?_)
  refine j_aload_n d_Mo_isArithmetic_52 rfl 1 rfl ?_
  refine j_iload_n d_Mo_isArithmetic_53 rfl 0 rfl ?_
  refine j_callV (As := [.int (nI 3)]) (rest := []) (c_Mo_has Γ.l E M (R 0) (R 1) rows (R 2) (R 3) (R 4) (R 5) (R 6) (R 7) (R 8) (R 9) dp as_ ops (R 10) thr 3 hI.1 (by omega) (by omega)) Y_Mo_has w_1039 w_1041 ws_35 hI.1 rfl rfl rfl (Nat.le_of_ble_eq_true rfl) (by omega) (by omega) (by omega) d_Mo_isArithmetic_54 (fun v54 N54 p54 => ?_)
  obtain ⟨rfl, q54⟩ := p54
  obtain rfl := q54.symm
  show mp_J Γ m_Mo_isArithmetic E κ M [(2, .int (nI 3)), (0, .ref (R 0)), (1, .int (nI 165))] 57 [.int (tf (decide (3 ≤ dp)))] 0 0
  refine j_tif_ne 62 d_Mo_isArithmetic_57 (by decide) (fun b57 => ?_) (fun b57 => ?_)
  · skip
    have d57 := of_decide_eq_true b57
    refine j_iconst (v := nI 1) d_Mo_isArithmetic_62 (by decide) ?_
    refine j_istore_n [(3, .int (nI 1)), (2, .int (nI 3)), (0, .ref (R 0)), (1, .int (nI 165))] d_Mo_isArithmetic_63 rfl (by decide) rfl ?_
    refine j_iload_n d_Mo_isArithmetic_64 rfl 0 rfl ?_
    refine j_iload_n d_Mo_isArithmetic_65 rfl 1 rfl ?_
    refine j_ncmp_gt 90 1 3 rfl rfl (by omega) (by omega) d_Mo_isArithmetic_66 (by decide) (fun b66 => (by first | exact b66.elim | exact absurd b66 (by omega))) (fun b66 => ?_)
    refine j_aload_n d_Mo_isArithmetic_69 rfl 2 rfl ?_
    refine j_aload_n d_Mo_isArithmetic_70 rfl 2 rfl ?_
    refine j_get F_Mo hI.1 11 (by decide) w_954 (Or.inl rfl) rfl d_Mo_isArithmetic_71 ?_
    refine j_iload_n d_Mo_isArithmetic_74 rfl 0 rfl ?_
    refine j_isub d_Mo_isArithmetic_75 ?_
    refine j_eqi (y := nI (dp - 1)) (pk_sub (by omega)) ?_
    refine j_callV (As := [.int (nI (dp - 1))]) (rest := []) (r_isNumber Γ.l hI (dp - 1) (by omega)) Y_Mo_isNumber w_1043 w_1045 ws_36 hI.1 rfl rfl rfl (Nat.le_of_ble_eq_true rfl) (by omega) (by omega) (by omega) d_Mo_isArithmetic_76 (fun v76 N76 p76 => ?_)
    obtain ⟨rfl, q76⟩ := p76
    obtain rfl := q76.symm
    show mp_J Γ m_Mo_isArithmetic E κ M [(3, .int (nI 1)), (2, .int (nI 3)), (0, .ref (R 0)), (1, .int (nI 165))] 79 [.int (tf (decide ((A (dp - 1)).length ≤ 4)))] 0 0
    refine j_tif_ne 84 d_Mo_isArithmetic_79 (by decide) (fun b79 => ?_) (fun b79 => ?_)
    · skip
      have d79 := of_decide_eq_true b79
      refine j_iinc (v := nI 2) [(3, .int (nI 2)), (2, .int (nI 3)), (0, .ref (R 0)), (1, .int (nI 165))] d_Mo_isArithmetic_84 0 rfl (by decide) (by decide) rfl ?_
      refine j_goto (tgt := 64) d_Mo_isArithmetic_87 (by decide) ?_
      refine j_iload_n d_Mo_isArithmetic_64 rfl 0 rfl ?_
      refine j_iload_n d_Mo_isArithmetic_65 rfl 1 rfl ?_
      refine j_ncmp_gt 90 2 3 rfl rfl (by omega) (by omega) d_Mo_isArithmetic_66 (by decide) (fun b66 => (by first | exact b66.elim | exact absurd b66 (by omega))) (fun b66 => ?_)
      refine j_aload_n d_Mo_isArithmetic_69 rfl 2 rfl ?_
      refine j_aload_n d_Mo_isArithmetic_70 rfl 2 rfl ?_
      refine j_get F_Mo hI.1 11 (by decide) w_954 (Or.inl rfl) rfl d_Mo_isArithmetic_71 ?_
      refine j_iload_n d_Mo_isArithmetic_74 rfl 0 rfl ?_
      refine j_isub d_Mo_isArithmetic_75 ?_
      refine j_eqi (y := nI (dp - 2)) (pk_sub (by omega)) ?_
      refine j_callV (As := [.int (nI (dp - 2))]) (rest := []) (r_isNumber Γ.l hI (dp - 2) (by omega)) Y_Mo_isNumber w_1043 w_1045 ws_36 hI.1 rfl rfl rfl (Nat.le_of_ble_eq_true rfl) (by omega) (by omega) (by omega) d_Mo_isArithmetic_76 (fun v76 N76 p76 => ?_)
      obtain ⟨rfl, q76⟩ := p76
      obtain rfl := q76.symm
      show mp_J Γ m_Mo_isArithmetic E κ M [(3, .int (nI 2)), (2, .int (nI 3)), (0, .ref (R 0)), (1, .int (nI 165))] 79 [.int (tf (decide ((A (dp - 2)).length ≤ 4)))] 0 0
      refine j_tif_ne 84 d_Mo_isArithmetic_79 (by decide) (fun b79 => ?_) (fun b79 => ?_)
      · skip
        have d79 := of_decide_eq_true b79
        refine j_iinc (v := nI 3) [(3, .int (nI 3)), (2, .int (nI 3)), (0, .ref (R 0)), (1, .int (nI 165))] d_Mo_isArithmetic_84 0 rfl (by decide) (by decide) rfl ?_
        refine j_goto (tgt := 64) d_Mo_isArithmetic_87 (by decide) ?_
        refine j_iload_n d_Mo_isArithmetic_64 rfl 0 rfl ?_
        refine j_iload_n d_Mo_isArithmetic_65 rfl 1 rfl ?_
        refine j_ncmp_gt 90 3 3 rfl rfl (by omega) (by omega) d_Mo_isArithmetic_66 (by decide) (fun b66 => (by first | exact b66.elim | exact absurd b66 (by omega))) (fun b66 => ?_)
        refine j_aload_n d_Mo_isArithmetic_69 rfl 2 rfl ?_
        refine j_aload_n d_Mo_isArithmetic_70 rfl 2 rfl ?_
        refine j_get F_Mo hI.1 11 (by decide) w_954 (Or.inl rfl) rfl d_Mo_isArithmetic_71 ?_
        refine j_iload_n d_Mo_isArithmetic_74 rfl 0 rfl ?_
        refine j_isub d_Mo_isArithmetic_75 ?_
        refine j_eqi (y := nI (dp - 3)) (pk_sub (by omega)) ?_
        refine j_callV (As := [.int (nI (dp - 3))]) (rest := []) (r_isNumber Γ.l hI (dp - 3) (by omega)) Y_Mo_isNumber w_1043 w_1045 ws_36 hI.1 rfl rfl rfl (Nat.le_of_ble_eq_true rfl) (by omega) (by omega) (by omega) d_Mo_isArithmetic_76 (fun v76 N76 p76 => ?_)
        obtain ⟨rfl, q76⟩ := p76
        obtain rfl := q76.symm
        show mp_J Γ m_Mo_isArithmetic E κ M [(3, .int (nI 3)), (2, .int (nI 3)), (0, .ref (R 0)), (1, .int (nI 165))] 79 [.int (tf (decide ((A (dp - 3)).length ≤ 4)))] 0 0
        refine j_tif_ne 84 d_Mo_isArithmetic_79 (by decide) (fun b79 => ?_) (fun b79 => ?_)
        · skip
          have d79 := of_decide_eq_true b79
          refine j_iinc (v := nI 4) [(3, .int (nI 4)), (2, .int (nI 3)), (0, .ref (R 0)), (1, .int (nI 165))] d_Mo_isArithmetic_84 0 rfl (by decide) (by decide) rfl ?_
          refine j_goto (tgt := 64) d_Mo_isArithmetic_87 (by decide) ?_
          refine j_iload_n d_Mo_isArithmetic_64 rfl 0 rfl ?_
          refine j_iload_n d_Mo_isArithmetic_65 rfl 1 rfl ?_
          refine j_ncmp_gt 90 4 3 rfl rfl (by omega) (by omega) d_Mo_isArithmetic_66 (by decide) (fun b66 => ?_) (fun b66 => (by first | exact b66.elim | exact absurd b66 (by omega)))
          refine j_aload_n d_Mo_isArithmetic_90 rfl 2 rfl ?_
          refine j_aload_n d_Mo_isArithmetic_91 rfl 2 rfl ?_
          refine j_get F_Mo hI.1 11 (by decide) w_954 (Or.inl rfl) rfl d_Mo_isArithmetic_92 ?_
          refine j_iload_n d_Mo_isArithmetic_95 rfl 1 rfl ?_
          refine j_isub d_Mo_isArithmetic_96 ?_
          refine j_eqi (y := nI (dp - 3)) (pk_sub (by omega)) ?_
          refine j_callV (As := [.int (nI (dp - 3))]) (rest := []) (r_numberAt Γ.l hI (dp - 3) (by omega) (by assumption)) Y_Mo_numberAt w_1047 w_1049 ws_37 hI.1 rfl rfl rfl (Nat.le_of_ble_eq_true rfl) (by omega) (by omega) (by omega) d_Mo_isArithmetic_97 (fun v97 N97 p97 => ?_)
          obtain ⟨rfl, q97⟩ := p97
          obtain rfl := q97.symm
          show mp_J Γ m_Mo_isArithmetic E κ M [(3, .int (nI 4)), (2, .int (nI 3)), (0, .ref (R 0)), (1, .int (nI 165))] 100 [.long (am_num (A (dp - 3)))] 0 0
          refine j_lstore_n [(3, .long (am_num (A (dp - 3)))), (2, .int (nI 3)), (0, .ref (R 0)), (1, .int (nI 165))] d_Mo_isArithmetic_100 rfl (by decide) rfl ?_
          refine j_iload_n d_Mo_isArithmetic_101 rfl 1 rfl ?_
          refine j_iconst (v := nI 1) d_Mo_isArithmetic_102 (by decide) ?_
          refine j_ncmp_le 121 3 1 rfl rfl (by omega) (by omega) d_Mo_isArithmetic_103 (by decide) (fun b103 => (by first | exact b103.elim | exact absurd b103 (by omega))) (fun b103 => ?_)
          refine j_aload_n d_Mo_isArithmetic_106 rfl 2 rfl ?_
          refine j_aload_n d_Mo_isArithmetic_107 rfl 2 rfl ?_
          refine j_get F_Mo hI.1 11 (by decide) w_954 (Or.inl rfl) rfl d_Mo_isArithmetic_108 ?_
          refine j_iload_n d_Mo_isArithmetic_111 rfl 1 rfl ?_
          refine j_isub d_Mo_isArithmetic_112 ?_
          refine j_eqi (y := nI (dp - 3)) (pk_sub (by omega)) ?_
          refine j_iconst (v := nI 1) d_Mo_isArithmetic_113 (by decide) ?_
          refine j_iadd d_Mo_isArithmetic_114 ?_
          refine j_eqi (y := nI ((dp - 3) + 1)) (nI_add (dp - 3) 1) ?_
          refine j_eqi (y := nI (dp - 2)) (by rw [show dp - 3 + 1 = dp - 2 by omega]) ?_
          refine j_callV (As := [.int (nI (dp - 2))]) (rest := []) (r_numberAt Γ.l hI (dp - 2) (by omega) (by assumption)) Y_Mo_numberAt w_1047 w_1049 ws_37 hI.1 rfl rfl rfl (Nat.le_of_ble_eq_true rfl) (by omega) (by omega) (by omega) d_Mo_isArithmetic_115 (fun v115 N115 p115 => ?_)
          obtain ⟨rfl, q115⟩ := p115
          obtain rfl := q115.symm
          show mp_J Γ m_Mo_isArithmetic E κ M [(3, .long (am_num (A (dp - 3)))), (2, .int (nI 3)), (0, .ref (R 0)), (1, .int (nI 165))] 118 [.long (am_num (A (dp - 2)))] 0 0
          refine j_goto (tgt := 122) d_Mo_isArithmetic_118 (by decide) ?_
          refine j_lstore [(5, .long (am_num (A (dp - 2)))), (3, .long (am_num (A (dp - 3)))), (2, .int (nI 3)), (0, .ref (R 0)), (1, .int (nI 165))] d_Mo_isArithmetic_122 (by decide) rfl ?_
          refine j_iload_n d_Mo_isArithmetic_124 rfl 2 rfl ?_
          refine j_iconst (v := nI 2) d_Mo_isArithmetic_125 (by decide) ?_
          refine j_ncmp_le 142 3 2 rfl rfl (by omega) (by omega) d_Mo_isArithmetic_126 (by decide) (fun b126 => (by first | exact b126.elim | exact absurd b126 (by omega))) (fun b126 => ?_)
          refine j_aload_n d_Mo_isArithmetic_129 rfl 3 rfl ?_
          refine j_aload_n d_Mo_isArithmetic_130 rfl 3 rfl ?_
          refine j_get F_Mo hI.1 11 (by decide) w_954 (Or.inl rfl) rfl d_Mo_isArithmetic_131 ?_
          refine j_iconst (v := nI 1) d_Mo_isArithmetic_134 (by decide) ?_
          refine j_isub d_Mo_isArithmetic_135 ?_
          refine j_eqi (y := nI (dp - 1)) (pk_sub (by omega)) ?_
          refine j_callV (As := [.int (nI (dp - 1))]) (rest := []) (r_numberAt Γ.l hI (dp - 1) (by omega) (by assumption)) Y_Mo_numberAt w_1047 w_1049 ws_37 hI.1 rfl rfl rfl (Nat.le_of_ble_eq_true rfl) (by omega) (by omega) (by omega) d_Mo_isArithmetic_136 (fun v136 N136 p136 => ?_)
          obtain ⟨rfl, q136⟩ := p136
          obtain rfl := q136.symm
          show mp_J Γ m_Mo_isArithmetic E κ M [(5, .long (am_num (A (dp - 2)))), (3, .long (am_num (A (dp - 3)))), (2, .int (nI 3)), (0, .ref (R 0)), (1, .int (nI 165))] 139 [.long (am_num (A (dp - 1)))] 0 0
          refine j_goto (tgt := 143) d_Mo_isArithmetic_139 (by decide) ?_
          refine j_lstore [(7, .long (am_num (A (dp - 1)))), (5, .long (am_num (A (dp - 2)))), (3, .long (am_num (A (dp - 3)))), (2, .int (nI 3)), (0, .ref (R 0)), (1, .int (nI 165))] d_Mo_isArithmetic_143 (by decide) rfl ?_
          have v1 := am_num_lim (x := A (dp - 1)) (by assumption)
          have v2 := am_num_lim (x := A (dp - 2)) (by assumption)
          have v3 := am_num_lim (x := A (dp - 3)) (by assumption)
          refine j_aload_n d_Mo_isArithmetic_145 rfl 4 rfl ?_
          refine j_dup d_Mo_isArithmetic_146 rfl ?_
          refine j_get F_Mo hI.1 11 (by decide) w_954 (Or.inl rfl) rfl d_Mo_isArithmetic_147 ?_
          refine j_iload_n d_Mo_isArithmetic_150 rfl 3 rfl ?_
          refine j_isub d_Mo_isArithmetic_151 ?_
          refine j_eqi (y := nI (dp - 3)) (pk_sub (by omega)) ?_
          refine j_put F_Mo hI.1 11 (by decide) w_954 (Or.inl rfl) rfl rfl rfl (Nat.le_of_ble_eq_true rfl) d_Mo_isArithmetic_152 ?_
          show mp_J Γ m_Mo_isArithmetic E κ (mp_up M (R 0) (mp_o 7 [.ref (R 1), .int (nI rows), .int thr, .ref (R 2), .ref (R 3), .ref (R 4), .ref (R 5), .ref (R 6), .ref (R 7), .ref (R 8), .ref (R 9), .int (nI (dp - 3)), .int (nI as_), .int (nI ops), .ref (R 10)])) [(7, .long (am_num (A (dp - 1)))), (5, .long (am_num (A (dp - 2)))), (3, .long (am_num (A (dp - 3)))), (2, .int (nI 3)), (0, .ref (R 0)), (1, .int (nI 165))] 155 [] 0 0
          generalize eM1 : mp_up M (R 0) (mp_o 7 [.ref (R 1), .int (nI rows), .int thr, .ref (R 2), .ref (R 3), .ref (R 4), .ref (R 5), .ref (R 6), .ref (R 7), .ref (R 8), .ref (R 9), .int (nI (dp - 3)), .int (nI as_), .int (nI ops), .ref (R 10)]) = M1
          have hM1__R_0_ : M1 (R 0) = some (mp_o 7 [.ref (R 1), .int (nI rows), .int thr, .ref (R 2), .ref (R 3), .ref (R 4), .ref (R 5), .ref (R 6), .ref (R 7), .ref (R 8), .ref (R 9), .int (nI (dp - 3)), .int (nI as_), .int (nI ops), .ref (R 10)]) := by rw [← eM1]; exact mp_s
          have JM1 : RI E M1 R rows thr (dp - 3) as_ ops A := hI.set hR eM1
          have fM1 : RFr R M M1 := RFr.s0 eM1
          refine j_iload_n d_Mo_isArithmetic_155 rfl 5 rfl ?_
          refine j_tableOut 563 d_Mo_isArithmetic_156 (by decide) (by decide) ?_
          refine j_lload_n d_Mo_isArithmetic_563 rfl 2 rfl ?_
          refine j_lload d_Mo_isArithmetic_564 1 rfl ?_
          refine j_lcmp d_Mo_isArithmetic_566 ?_
          refine j_if_lt 581 d_Mo_isArithmetic_567 (by decide) (fun b567 => ?_) (fun b567 => ?_)
          · skip
            refine j_lconst (v := 0) d_Mo_isArithmetic_581 (by decide) ?_
            refine j_lstore [(9, .long 0), (7, .long (am_num (A (dp - 1)))), (5, .long (am_num (A (dp - 2)))), (3, .long (am_num (A (dp - 3)))), (2, .int (nI 3)), (0, .ref (R 0)), (1, .int (nI 165))] d_Mo_isArithmetic_582 (by decide) rfl ?_
            refine j_aload_n d_Mo_isArithmetic_584 rfl 5 rfl ?_
            refine j_lload d_Mo_isArithmetic_585 0 rfl ?_
            refine j_callV (As := [.long 0]) (rest := []) (r_pushNumber Γ.l JM1 hR 0 (am_mag_lt (by decide)) (by omega)) Y_Mo_pushNumber w_1031 w_1033 ws_33 hM1__R_0_ rfl rfl rfl (Nat.le_of_ble_eq_true rfl) (by omega) (by omega) (by omega) d_Mo_isArithmetic_587 (fun v587 N587 p587 => ?_)
            obtain ⟨rfl, I587, f587⟩ := p587
            show mp_J Γ m_Mo_isArithmetic E κ N587 [(9, .long 0), (7, .long (am_num (A (dp - 1)))), (5, .long (am_num (A (dp - 2)))), (3, .long (am_num (A (dp - 3)))), (2, .int (nI 3)), (0, .ref (R 0)), (1, .int (nI 165))] 590 [] 0 0
            refine j_iconst (v := nI 1) d_Mo_isArithmetic_590 (by decide) ?_
            exact j_zret hκ rfl (by first | exact Or.inl rfl | exact Or.inr rfl) (by omega) (by omega) d_Mo_isArithmetic_591 (RQ.t I587 (fM1.trans f587) (by omega) (by unfold am_op; rw [if_neg (by decide), if_neg (by decide), if_neg (by decide), if_neg (by decide), if_neg (by decide), if_neg (by decide), if_pos (by decide)]; exact ar4 (by omega) (by omega) (show _ = some ((am_bt (decide (am_num ((LM A dp).getD 1 []) ≤ am_num ((LM A dp).getD 2 []) ∧ am_num ((LM A dp).getD 2 []) < am_num ((LM A dp).getD 0 [])))) :: (LM A dp).drop 3, LO A as_, b, ops) from by unfold a_with; rw [if_neg (fun z => z (an_3 (by omega) (by assumption) (by assumption) (by assumption)))]) (by rw [g0 (by omega), g1 (by omega), g2 (by omega)]; first | exact am_b0 (fun h => absurd h.1 (Int64.not_le.mpr ((lg_cmp_lt _ _).mp b567))) | exact am_b0 (fun h => absurd h.2 (Int64.not_lt.mpr ((lg_cmp_ge _ _).mp b574))))))
          · skip
            refine j_lload_n d_Mo_isArithmetic_570 rfl 2 rfl ?_
            refine j_lload d_Mo_isArithmetic_571 0 rfl ?_
            refine j_lcmp d_Mo_isArithmetic_573 ?_
            refine j_if_ge 581 d_Mo_isArithmetic_574 (by decide) (fun b574 => ?_) (fun b574 => ?_)
            · skip
              refine j_lconst (v := 0) d_Mo_isArithmetic_581 (by decide) ?_
              refine j_lstore [(9, .long 0), (7, .long (am_num (A (dp - 1)))), (5, .long (am_num (A (dp - 2)))), (3, .long (am_num (A (dp - 3)))), (2, .int (nI 3)), (0, .ref (R 0)), (1, .int (nI 165))] d_Mo_isArithmetic_582 (by decide) rfl ?_
              refine j_aload_n d_Mo_isArithmetic_584 rfl 5 rfl ?_
              refine j_lload d_Mo_isArithmetic_585 0 rfl ?_
              refine j_callV (As := [.long 0]) (rest := []) (r_pushNumber Γ.l JM1 hR 0 (am_mag_lt (by decide)) (by omega)) Y_Mo_pushNumber w_1031 w_1033 ws_33 hM1__R_0_ rfl rfl rfl (Nat.le_of_ble_eq_true rfl) (by omega) (by omega) (by omega) d_Mo_isArithmetic_587 (fun v587 N587 p587 => ?_)
              obtain ⟨rfl, I587, f587⟩ := p587
              show mp_J Γ m_Mo_isArithmetic E κ N587 [(9, .long 0), (7, .long (am_num (A (dp - 1)))), (5, .long (am_num (A (dp - 2)))), (3, .long (am_num (A (dp - 3)))), (2, .int (nI 3)), (0, .ref (R 0)), (1, .int (nI 165))] 590 [] 0 0
              refine j_iconst (v := nI 1) d_Mo_isArithmetic_590 (by decide) ?_
              exact j_zret hκ rfl (by first | exact Or.inl rfl | exact Or.inr rfl) (by omega) (by omega) d_Mo_isArithmetic_591 (RQ.t I587 (fM1.trans f587) (by omega) (by unfold am_op; rw [if_neg (by decide), if_neg (by decide), if_neg (by decide), if_neg (by decide), if_neg (by decide), if_neg (by decide), if_pos (by decide)]; exact ar4 (by omega) (by omega) (show _ = some ((am_bt (decide (am_num ((LM A dp).getD 1 []) ≤ am_num ((LM A dp).getD 2 []) ∧ am_num ((LM A dp).getD 2 []) < am_num ((LM A dp).getD 0 [])))) :: (LM A dp).drop 3, LO A as_, b, ops) from by unfold a_with; rw [if_neg (fun z => z (an_3 (by omega) (by assumption) (by assumption) (by assumption)))]) (by rw [g0 (by omega), g1 (by omega), g2 (by omega)]; first | exact am_b0 (fun h => absurd h.1 (Int64.not_le.mpr ((lg_cmp_lt _ _).mp b567))) | exact am_b0 (fun h => absurd h.2 (Int64.not_lt.mpr ((lg_cmp_ge _ _).mp b574))))))
            · skip
              refine j_lconst (v := 1) d_Mo_isArithmetic_577 (by decide) ?_
              refine j_goto (tgt := 582) d_Mo_isArithmetic_578 (by decide) ?_
              refine j_lstore [(9, .long 1), (7, .long (am_num (A (dp - 1)))), (5, .long (am_num (A (dp - 2)))), (3, .long (am_num (A (dp - 3)))), (2, .int (nI 3)), (0, .ref (R 0)), (1, .int (nI 165))] d_Mo_isArithmetic_582 (by decide) rfl ?_
              refine j_aload_n d_Mo_isArithmetic_584 rfl 5 rfl ?_
              refine j_lload d_Mo_isArithmetic_585 0 rfl ?_
              refine j_callV (As := [.long 1]) (rest := []) (r_pushNumber Γ.l JM1 hR 1 (am_mag_lt (by decide)) (by omega)) Y_Mo_pushNumber w_1031 w_1033 ws_33 hM1__R_0_ rfl rfl rfl (Nat.le_of_ble_eq_true rfl) (by omega) (by omega) (by omega) d_Mo_isArithmetic_587 (fun v587 N587 p587 => ?_)
              obtain ⟨rfl, I587, f587⟩ := p587
              show mp_J Γ m_Mo_isArithmetic E κ N587 [(9, .long 1), (7, .long (am_num (A (dp - 1)))), (5, .long (am_num (A (dp - 2)))), (3, .long (am_num (A (dp - 3)))), (2, .int (nI 3)), (0, .ref (R 0)), (1, .int (nI 165))] 590 [] 0 0
              refine j_iconst (v := nI 1) d_Mo_isArithmetic_590 (by decide) ?_
              exact j_zret hκ rfl (by first | exact Or.inl rfl | exact Or.inr rfl) (by omega) (by omega) d_Mo_isArithmetic_591 (RQ.t I587 (fM1.trans f587) (by omega) (by unfold am_op; rw [if_neg (by decide), if_neg (by decide), if_neg (by decide), if_neg (by decide), if_neg (by decide), if_neg (by decide), if_pos (by decide)]; exact ar4 (by omega) (by omega) (show _ = some ((am_bt (decide (am_num ((LM A dp).getD 1 []) ≤ am_num ((LM A dp).getD 2 []) ∧ am_num ((LM A dp).getD 2 []) < am_num ((LM A dp).getD 0 [])))) :: (LM A dp).drop 3, LO A as_, b, ops) from by unfold a_with; rw [if_neg (fun z => z (an_3 (by omega) (by assumption) (by assumption) (by assumption)))]) (by rw [g0 (by omega), g1 (by omega), g2 (by omega)]; first | exact am_b1 ⟨Int64.not_lt.mp (fun h => b567 ((lg_cmp_lt _ _).mpr h)), Int64.not_le.mp (fun h => b574 ((lg_cmp_ge _ _).mpr h))⟩)))
        · skip
          have d79 := of_decide_eq_false b79
          refine j_iconst (v := nI 0) d_Mo_isArithmetic_82 (by decide) ?_
          exact j_zret hκ rfl (by first | exact Or.inl rfl | exact Or.inr rfl) (by omega) (by omega) d_Mo_isArithmetic_83 (RQ.f hI RFr.refl (by omega) (by unfold am_op; rw [if_neg (by decide), if_neg (by decide), if_neg (by decide), if_neg (by decide), if_neg (by decide), if_neg (by decide), if_pos (by decide)]; unfold a_with; rw [if_pos (an_f (p := 2) (by decide) (Or.inr ⟨by omega, by rw [show dp - 1 - 2 = dp - 3 by omega]; exact d79⟩))]))
      · skip
        have d79 := of_decide_eq_false b79
        refine j_iconst (v := nI 0) d_Mo_isArithmetic_82 (by decide) ?_
        exact j_zret hκ rfl (by first | exact Or.inl rfl | exact Or.inr rfl) (by omega) (by omega) d_Mo_isArithmetic_83 (RQ.f hI RFr.refl (by omega) (by unfold am_op; rw [if_neg (by decide), if_neg (by decide), if_neg (by decide), if_neg (by decide), if_neg (by decide), if_neg (by decide), if_pos (by decide)]; unfold a_with; rw [if_pos (an_f (p := 1) (by decide) (Or.inr ⟨by omega, by rw [show dp - 1 - 1 = dp - 2 by omega]; exact d79⟩))]))
    · skip
      have d79 := of_decide_eq_false b79
      refine j_iconst (v := nI 0) d_Mo_isArithmetic_82 (by decide) ?_
      exact j_zret hκ rfl (by first | exact Or.inl rfl | exact Or.inr rfl) (by omega) (by omega) d_Mo_isArithmetic_83 (RQ.f hI RFr.refl (by omega) (by unfold am_op; rw [if_neg (by decide), if_neg (by decide), if_neg (by decide), if_neg (by decide), if_neg (by decide), if_neg (by decide), if_pos (by decide)]; unfold a_with; rw [if_pos (an_f (p := 0) (by decide) (Or.inr ⟨by omega, by rw [show dp - 1 - 0 = dp - 1 by omega]; exact d79⟩))]))
  · skip
    have d57 := of_decide_eq_false b57
    refine j_iconst (v := nI 0) d_Mo_isArithmetic_60 (by decide) ?_
    exact j_zret hκ rfl (by first | exact Or.inl rfl | exact Or.inr rfl) (by omega) (by omega) d_Mo_isArithmetic_61 (RQ.f hI RFr.refl (by omega) (by unfold am_op; rw [if_neg (by decide), if_neg (by decide), if_neg (by decide), if_neg (by decide), if_neg (by decide), if_neg (by decide), if_pos (by decide)]; unfold a_with; rw [if_pos (an_f (p := 0) (by decide) (Or.inl (by omega)))]))

theorem c_Mo_isArithmetic (l : Launch) (E : mp_E) (M : mp_M) (R : Nat → Nat) (rows : Nat) (thr : Int32) (dp as_ ops : Nat) (A : Nat → am_T) (b : List Bool) (c : Nat) (hI : RI E M R rows thr dp as_ ops A) (hR : RL R) (hd : dp + as_ ≤ 200) (hk : ops ≤ 1000) (hc : 139 ≤ c ∧ c ≤ 165) : mp_Cr l m_Mo_isArithmetic E M 2 0 0 [.ref (R 0), .int (nI c)] (RQ E R M rows thr b (am_op c (LM A dp) (LO A as_) b ops)) := by
  rcases (show c = 139 ∨ c = 140 ∨ c = 141 ∨ c = 142 ∨ c = 143 ∨ c = 144 ∨ c = 145 ∨ c = 146 ∨ c = 147 ∨ c = 148 ∨ c = 149 ∨ c = 150 ∨ c = 151 ∨ c = 152 ∨ c = 153 ∨ c = 154 ∨ c = 155 ∨ c = 156 ∨ c = 157 ∨ c = 158 ∨ c = 159 ∨ c = 160 ∨ c = 161 ∨ c = 162 ∨ c = 163 ∨ c = 164 ∨ c = 165 by omega) with rfl | rfl | rfl | rfl | rfl | rfl | rfl | rfl | rfl | rfl | rfl | rfl | rfl | rfl | rfl | rfl | rfl | rfl | rfl | rfl | rfl | rfl | rfl | rfl | rfl | rfl | rfl
  · exact c_Mo_ar_139 l E M R rows thr dp as_ ops A b hI hR hd hk
  · exact c_Mo_ar_140 l E M R rows thr dp as_ ops A b hI hR hd hk
  · exact c_Mo_ar_141 l E M R rows thr dp as_ ops A b hI hR hd hk
  · exact c_Mo_ar_142 l E M R rows thr dp as_ ops A b hI hR hd hk
  · exact c_Mo_ar_143 l E M R rows thr dp as_ ops A b hI hR hd hk
  · exact c_Mo_ar_144 l E M R rows thr dp as_ ops A b hI hR hd hk
  · exact c_Mo_ar_145 l E M R rows thr dp as_ ops A b hI hR hd hk
  · exact c_Mo_ar_146 l E M R rows thr dp as_ ops A b hI hR hd hk
  · exact c_Mo_ar_147 l E M R rows thr dp as_ ops A b hI hR hd hk
  · exact c_Mo_ar_148 l E M R rows thr dp as_ ops A b hI hR hd hk
  · exact c_Mo_ar_149 l E M R rows thr dp as_ ops A b hI hR hd hk
  · exact c_Mo_ar_150 l E M R rows thr dp as_ ops A b hI hR hd hk
  · exact c_Mo_ar_151 l E M R rows thr dp as_ ops A b hI hR hd hk
  · exact c_Mo_ar_152 l E M R rows thr dp as_ ops A b hI hR hd hk
  · exact c_Mo_ar_153 l E M R rows thr dp as_ ops A b hI hR hd hk
  · exact c_Mo_ar_154 l E M R rows thr dp as_ ops A b hI hR hd hk
  · exact c_Mo_ar_155 l E M R rows thr dp as_ ops A b hI hR hd hk
  · exact c_Mo_ar_156 l E M R rows thr dp as_ ops A b hI hR hd hk
  · exact c_Mo_ar_157 l E M R rows thr dp as_ ops A b hI hR hd hk
  · exact c_Mo_ar_158 l E M R rows thr dp as_ ops A b hI hR hd hk
  · exact c_Mo_ar_159 l E M R rows thr dp as_ ops A b hI hR hd hk
  · exact c_Mo_ar_160 l E M R rows thr dp as_ ops A b hI hR hd hk
  · exact c_Mo_ar_161 l E M R rows thr dp as_ ops A b hI hR hd hk
  · exact c_Mo_ar_162 l E M R rows thr dp as_ ops A b hI hR hd hk
  · exact c_Mo_ar_163 l E M R rows thr dp as_ ops A b hI hR hd hk
  · exact c_Mo_ar_164 l E M R rows thr dp as_ ops A b hI hR hd hk
  · exact c_Mo_ar_165 l E M R rows thr dp as_ ops A b hI hR hd hk