theorem pd_at_c {f g : Nat → Int32} {n p : Nat} (h : ∀ j, j < n → f j = g j) : pd_at f n p = pd_at g n p := by
  unfold pd_at
  by_cases hp : p < n
  · rw [if_pos hp, if_pos hp, h p hp]
  · rw [if_neg hp, if_neg hp]
theorem pd_w_c {hi : Bool} {f g : Nat → Int32} {n p : Nat} (h : ∀ j, j < n → f j = g j) : ∀ i, pd_w hi f n p i = pd_w hi g n p i
  | 0 => rfl
  | i + 1 => by
    show pd_w hi f n p i ||| _ = pd_w hi g n p i ||| _
    rw [pd_w_c h i, pd_at_c h]
theorem pd_fold_c {mix : (Nat → Int32) → (Nat → Int32) → (Nat → Int32)} {hi : Bool} {f g : Nat → Int32} {n : Nat} {S : Nat → Int32} (h : ∀ j, j < n → f j = g j) : ∀ q, pd_fold mix hi f n S q = pd_fold mix hi g n S q
  | 0 => rfl
  | q + 1 => by
    show mix (pd_fold mix hi f n S q) (pd_blk hi f n q) = mix (pd_fold mix hi g n S q) (pd_blk hi g n q)
    rw [pd_fold_c h q]
    congr 1
    funext w
    unfold pd_blk
    rw [pd_w_c h 4]
theorem sm_sha_c {f g : Nat → Int32} {n : Nat} (h : ∀ j, j < n → f j = g j) : sm_sha f n = sm_sha g n := by
  unfold sm_sha
  rw [pd_fold_c h]
theorem sm_rip_c {f g : Nat → Int32} {n : Nat} (h : ∀ j, j < n → f j = g j) : sm_rip f n = sm_rip g n := by
  unfold sm_rip
  rw [pd_fold_c h]
/-- the bytes of a sum of a place -/
theorem sg_sha {T : Nat → Int32} {p : Nat} {x : am_T} (h : ∀ j, j < x.length → T (p + j) = gb x j) : ∀ j, j < 32 → sm_sha (fun e => T (p + e)) x.length (0 + j) = gb (am_sha x) j := fun j hj => by
  rw [sm_sha_c (g := gb x) h, Nat.zero_add]
  exact (gl_at hj).symm
theorem am_sha_l {x : am_T} : (am_sha x).length = 32 := gl_len
theorem am_sha_e {x : am_T} {n : Nat} (h : x.length = n) : am_sha x = gl 32 (sm_sha (gb x) n) := by unfold am_sha; rw [h]
theorem am_rip_l {x : am_T} : (am_rip x).length = 20 := gl_len
theorem lm_d {a g : Nat} (ha : a < 2 ^ 31) (hg : g < 2 ^ 31) : 0 ≤ lg_cmp (lN a - lN g - 1) 0 ↔ g + 1 ≤ a := by
  have h1 := pk_lT (show a < 2 ^ 63 by omega)
  have h2 := pk_lT (show g < 2 ^ 63 by omega)
  have e1 : (lN a - lN g).toInt = (a : Int) - g := by rw [i6_sub (by omega), h1, h2]
  have e2 : (lN a - lN g - 1).toInt = (a : Int) - g - 1 := by rw [i6_sub (by rw [i6_1]; omega), i6_1, e1]
  rw [lg_cmp_ge, Int64.le_iff_toInt_le, e2, show (0 : Int64).toInt = 0 by decide]
  omega
set_option maxHeartbeats 4000000 in
set_option maxRecDepth 100000 in
theorem c_Mo_hs_166 (l : Launch) (E : mp_E) (M : mp_M) (R : Nat → Nat) (rows : Nat) (thr : Int32) (dp as_ ops : Nat) (A : Nat → am_T) (b : List Bool) (hI : RI E M R rows thr dp as_ ops A) (hR : RL R) (hd : dp + as_ ≤ 200) (hk : ops ≤ 1000) : mp_Cr l m_Mo_hashed E M 3 0 0 [.ref (R 0), .int (nI 166)] (RQ E R M rows thr b (am_op 166 (LM A dp) (LO A as_) b ops)) := by
  refine mp_Cr.of (by decide) (Nat.le_of_ble_eq_true rfl) fun Γ κ hl hκ => ?_
  subst hl
  obtain ⟨hκd, hκc, hκs, -⟩ := id hκ
  show mp_J Γ m_Mo_hashed E κ M [(0, .ref (R 0)), (1, .int (nI 166))] 0 [] 0 0
  refine j_aload_n d_Mo_hashed_0 rfl 0 rfl ?_
  refine j_iconst (v := nI 1) d_Mo_hashed_1 (by decide) ?_
  refine j_callV (As := [.int (nI 1)]) (rest := []) (c_Mo_has Γ.l E M (R 0) (R 1) rows (R 2) (R 3) (R 4) (R 5) (R 6) (R 7) (R 8) (R 9) dp as_ ops (R 10) thr 1 hI.1 (by omega) (by omega)) Y_Mo_has w_1039 w_1041 ws_35 hI.1 rfl rfl rfl (Nat.le_of_ble_eq_true rfl) (by omega) (by omega) (by omega) d_Mo_hashed_2 (fun v2 N2 p2 => ?_)
  obtain ⟨rfl, q2⟩ := p2
  obtain rfl := q2.symm
  show mp_J Γ m_Mo_hashed E κ M [(0, .ref (R 0)), (1, .int (nI 166))] 5 [.int (tf (decide (1 ≤ dp)))] 0 0
  refine j_tif_ne 10 d_Mo_hashed_5 (by decide) (fun b5 => ?_) (fun b5 => ?_)
  · skip
    have d5 := of_decide_eq_true b5
    refine j_aload_n d_Mo_hashed_10 rfl 0 rfl ?_
    refine j_dup d_Mo_hashed_11 rfl ?_
    refine j_get F_Mo hI.1 11 (by decide) w_954 (Or.inl rfl) rfl d_Mo_hashed_12 ?_
    refine j_iconst (v := nI 1) d_Mo_hashed_15 (by decide) ?_
    refine j_isub d_Mo_hashed_16 ?_
    refine j_eqi (y := nI (dp - 1)) (pk_sub (by omega)) ?_
    refine j_put F_Mo hI.1 11 (by decide) w_954 (Or.inl rfl) rfl rfl rfl (Nat.le_of_ble_eq_true rfl) d_Mo_hashed_17 ?_
    show mp_J Γ m_Mo_hashed E κ (mp_up M (R 0) (mp_o 7 [.ref (R 1), .int (nI rows), .int thr, .ref (R 2), .ref (R 3), .ref (R 4), .ref (R 5), .ref (R 6), .ref (R 7), .ref (R 8), .ref (R 9), .int (nI (dp - 1)), .int (nI as_), .int (nI ops), .ref (R 10)])) [(0, .ref (R 0)), (1, .int (nI 166))] 20 [] 0 0
    generalize eM1 : mp_up M (R 0) (mp_o 7 [.ref (R 1), .int (nI rows), .int thr, .ref (R 2), .ref (R 3), .ref (R 4), .ref (R 5), .ref (R 6), .ref (R 7), .ref (R 8), .ref (R 9), .int (nI (dp - 1)), .int (nI as_), .int (nI ops), .ref (R 10)]) = M1
    have hM1__R_0_ : M1 (R 0) = some (mp_o 7 [.ref (R 1), .int (nI rows), .int thr, .ref (R 2), .ref (R 3), .ref (R 4), .ref (R 5), .ref (R 6), .ref (R 7), .ref (R 8), .ref (R 9), .int (nI (dp - 1)), .int (nI as_), .int (nI ops), .ref (R 10)]) := by rw [← eM1]; exact mp_s
    have JM1 : RI E M1 R rows thr (dp - 1) as_ ops A := hI.set hR eM1
    have fM1 : RFr R M M1 := RFr.s0 eM1
    refine j_sipush (v := nI 256) d_Mo_hashed_20 (by decide) ?_
    refine j_aload_n d_Mo_hashed_23 rfl 0 rfl ?_
    refine j_get F_Mo hM1__R_0_ 11 (by decide) w_954 (Or.inl rfl) rfl d_Mo_hashed_24 ?_
    refine j_imul d_Mo_hashed_27 ?_
    refine j_eqi (y := nI (256 * (dp - 1))) (pk_mul 256 (dp - 1)) ?_
    refine j_istore_n [(2, .int (nI (256 * (dp - 1)))), (0, .ref (R 0)), (1, .int (nI 166))] d_Mo_hashed_28 rfl (by decide) rfl ?_
    refine j_aload_n d_Mo_hashed_29 rfl 1 rfl ?_
    refine j_get F_Mo hM1__R_0_ 10 (by decide) w_953 (Or.inl rfl) rfl d_Mo_hashed_30 ?_
    refine j_aload_n d_Mo_hashed_33 rfl 1 rfl ?_
    refine j_get F_Mo hM1__R_0_ 11 (by decide) w_954 (Or.inl rfl) rfl d_Mo_hashed_34 ?_
    obtain ⟨T, Z, t1, t2, t3, t4⟩ := JM1.ra
    have tl := (t4 (dp - 1) (by omega)).2.1
    have tb := (t4 (dp - 1) (by omega)).2.2
    refine j_iald t2 (dp - 1) rfl (by omega) (by omega) d_Mo_hashed_37 ?_
    refine j_eqi (y := nI (A (dp - 1)).length) (t4 (dp - 1) (by omega)).1 ?_
    refine j_istore_n [(3, .int (nI (A (dp - 1)).length)), (2, .int (nI (256 * (dp - 1)))), (0, .ref (R 0)), (1, .int (nI 166))] d_Mo_hashed_38 rfl (by decide) rfl ?_
    refine j_iload_n d_Mo_hashed_39 rfl 3 rfl ?_
    refine j_sipush (v := nI 166) d_Mo_hashed_40 (by decide) ?_
    refine j_ncmp_ne 59 166 166 rfl rfl (by omega) (by omega) d_Mo_hashed_43 (by decide) (fun b43 => (by first | exact b43.elim | exact absurd b43 (by omega))) (fun b43 => ?_)
    refine j_aload_n d_Mo_hashed_46 rfl 2 rfl ?_
    refine j_aload_n d_Mo_hashed_47 rfl 2 rfl ?_
    refine j_get F_Mo hM1__R_0_ 9 (by decide) w_952 (Or.inl rfl) rfl d_Mo_hashed_48 ?_
    refine j_iload_n d_Mo_hashed_51 rfl 1 rfl ?_
    refine j_iload_n d_Mo_hashed_52 rfl 0 rfl ?_
    refine j_callV (As := [.ref (R 8), .int (nI (256 * (dp - 1))), .int (nI (A (dp - 1)).length)]) (rest := []) (c_Mo_ripemd Γ.l E M1 R rows thr (dp - 1) as_ ops A (R 8) 104448 (256 * (dp - 1)) (A (dp - 1)).length T JM1 hR t1 (by decide) (by omega) (by omega) t3 (hR.ne (by decide) (by decide) (by decide))) Y_Mo_ripemd w_1080 w_1082 ws_44 hM1__R_0_ rfl rfl rfl (Nat.le_of_ble_eq_true rfl) (by omega) (by omega) (by omega) d_Mo_hashed_53 (fun v53 N53 p53 => ?_)
    obtain ⟨rfl, I53, ⟨H53, z53, r53, u53⟩, f53⟩ := p53
    have y53 : ∀ j, j < 20 → H53 (0 + j) = gb (am_rip (A (dp - 1))) j := fun j hj => by rw [Nat.zero_add, r53 j hj, sm_rip_c (g := gb (A (dp - 1))) tb]; exact ((gl_at hj).symm)
    show mp_J Γ m_Mo_hashed E κ N53 [(3, .int (nI (A (dp - 1)).length)), (2, .int (nI (256 * (dp - 1)))), (0, .ref (R 0)), (1, .int (nI 166))] 56 [] 0 0
    refine j_goto (tgt := 105) d_Mo_hashed_56 (by decide) ?_
    refine j_aload_n d_Mo_hashed_105 rfl 2 rfl ?_
    refine j_aload_n d_Mo_hashed_106 rfl 2 rfl ?_
    refine j_get F_Mo I53.1 7 (by decide) w_950 (Or.inl rfl) rfl d_Mo_hashed_107 ?_
    refine j_iconst (v := nI 0) d_Mo_hashed_110 (by decide) ?_
    refine j_iload_n d_Mo_hashed_111 rfl 3 rfl ?_
    refine j_sipush (v := nI 166) d_Mo_hashed_112 (by decide) ?_
    refine j_ncmp_eq 125 166 166 rfl rfl (by omega) (by omega) d_Mo_hashed_115 (by decide) (fun b115 => ?_) (fun b115 => (by first | exact b115.elim | exact absurd b115 (by omega)))
    refine j_bipush (v := nI 20) d_Mo_hashed_125 (by decide) ?_
    refine j_goto (tgt := 132) d_Mo_hashed_127 (by decide) ?_
    refine j_callV (As := [.ref (R 6), .int (nI 0), .int (nI 20)]) (rest := []) (r_push Γ.l I53 hR (R 6) 32 0 20 (am_rip (A (dp - 1))) (H53) am_rip_l z53 (by decide) u53 (by decide) (by decide) (by omega) (hR.ne (by decide) (by decide) (by decide)) (hR.ne (by decide) (by decide) (by decide)) y53) Y_Mo_push w_1019 w_1021 ws_30 I53.1 rfl rfl rfl (Nat.le_of_ble_eq_true rfl) (by omega) (by omega) (by omega) d_Mo_hashed_132 (fun v132 N132 p132 => ?_)
    obtain ⟨rfl, I132, f132⟩ := p132
    show mp_J Γ m_Mo_hashed E κ N132 [(3, .int (nI (A (dp - 1)).length)), (2, .int (nI (256 * (dp - 1)))), (0, .ref (R 0)), (1, .int (nI 166))] 135 [] 0 0
    refine j_iconst (v := nI 1) d_Mo_hashed_135 (by decide) ?_
    exact j_zret hκ rfl (by first | exact Or.inl rfl | exact Or.inr rfl) (by omega) (by omega) d_Mo_hashed_136 (RQ.t I132 ((fM1.trans f53).trans f132) (by omega) (x166 (by omega) (by omega)))
  · skip
    have d5 := of_decide_eq_false b5
    refine j_iconst (v := nI 0) d_Mo_hashed_8 (by decide) ?_
    exact j_zret hκ rfl (by first | exact Or.inl rfl | exact Or.inr rfl) (by omega) (by omega) d_Mo_hashed_9 (RQ.f hI RFr.refl (by omega) (xf166 d5))

set_option maxHeartbeats 4000000 in
set_option maxRecDepth 100000 in
theorem c_Mo_hs_168 (l : Launch) (E : mp_E) (M : mp_M) (R : Nat → Nat) (rows : Nat) (thr : Int32) (dp as_ ops : Nat) (A : Nat → am_T) (b : List Bool) (hI : RI E M R rows thr dp as_ ops A) (hR : RL R) (hd : dp + as_ ≤ 200) (hk : ops ≤ 1000) : mp_Cr l m_Mo_hashed E M 3 0 0 [.ref (R 0), .int (nI 168)] (RQ E R M rows thr b (am_op 168 (LM A dp) (LO A as_) b ops)) := by
  refine mp_Cr.of (by decide) (Nat.le_of_ble_eq_true rfl) fun Γ κ hl hκ => ?_
  subst hl
  obtain ⟨hκd, hκc, hκs, -⟩ := id hκ
  show mp_J Γ m_Mo_hashed E κ M [(0, .ref (R 0)), (1, .int (nI 168))] 0 [] 0 0
  refine j_aload_n d_Mo_hashed_0 rfl 0 rfl ?_
  refine j_iconst (v := nI 1) d_Mo_hashed_1 (by decide) ?_
  refine j_callV (As := [.int (nI 1)]) (rest := []) (c_Mo_has Γ.l E M (R 0) (R 1) rows (R 2) (R 3) (R 4) (R 5) (R 6) (R 7) (R 8) (R 9) dp as_ ops (R 10) thr 1 hI.1 (by omega) (by omega)) Y_Mo_has w_1039 w_1041 ws_35 hI.1 rfl rfl rfl (Nat.le_of_ble_eq_true rfl) (by omega) (by omega) (by omega) d_Mo_hashed_2 (fun v2 N2 p2 => ?_)
  obtain ⟨rfl, q2⟩ := p2
  obtain rfl := q2.symm
  show mp_J Γ m_Mo_hashed E κ M [(0, .ref (R 0)), (1, .int (nI 168))] 5 [.int (tf (decide (1 ≤ dp)))] 0 0
  refine j_tif_ne 10 d_Mo_hashed_5 (by decide) (fun b5 => ?_) (fun b5 => ?_)
  · skip
    have d5 := of_decide_eq_true b5
    refine j_aload_n d_Mo_hashed_10 rfl 0 rfl ?_
    refine j_dup d_Mo_hashed_11 rfl ?_
    refine j_get F_Mo hI.1 11 (by decide) w_954 (Or.inl rfl) rfl d_Mo_hashed_12 ?_
    refine j_iconst (v := nI 1) d_Mo_hashed_15 (by decide) ?_
    refine j_isub d_Mo_hashed_16 ?_
    refine j_eqi (y := nI (dp - 1)) (pk_sub (by omega)) ?_
    refine j_put F_Mo hI.1 11 (by decide) w_954 (Or.inl rfl) rfl rfl rfl (Nat.le_of_ble_eq_true rfl) d_Mo_hashed_17 ?_
    show mp_J Γ m_Mo_hashed E κ (mp_up M (R 0) (mp_o 7 [.ref (R 1), .int (nI rows), .int thr, .ref (R 2), .ref (R 3), .ref (R 4), .ref (R 5), .ref (R 6), .ref (R 7), .ref (R 8), .ref (R 9), .int (nI (dp - 1)), .int (nI as_), .int (nI ops), .ref (R 10)])) [(0, .ref (R 0)), (1, .int (nI 168))] 20 [] 0 0
    generalize eM1 : mp_up M (R 0) (mp_o 7 [.ref (R 1), .int (nI rows), .int thr, .ref (R 2), .ref (R 3), .ref (R 4), .ref (R 5), .ref (R 6), .ref (R 7), .ref (R 8), .ref (R 9), .int (nI (dp - 1)), .int (nI as_), .int (nI ops), .ref (R 10)]) = M1
    have hM1__R_0_ : M1 (R 0) = some (mp_o 7 [.ref (R 1), .int (nI rows), .int thr, .ref (R 2), .ref (R 3), .ref (R 4), .ref (R 5), .ref (R 6), .ref (R 7), .ref (R 8), .ref (R 9), .int (nI (dp - 1)), .int (nI as_), .int (nI ops), .ref (R 10)]) := by rw [← eM1]; exact mp_s
    have JM1 : RI E M1 R rows thr (dp - 1) as_ ops A := hI.set hR eM1
    have fM1 : RFr R M M1 := RFr.s0 eM1
    refine j_sipush (v := nI 256) d_Mo_hashed_20 (by decide) ?_
    refine j_aload_n d_Mo_hashed_23 rfl 0 rfl ?_
    refine j_get F_Mo hM1__R_0_ 11 (by decide) w_954 (Or.inl rfl) rfl d_Mo_hashed_24 ?_
    refine j_imul d_Mo_hashed_27 ?_
    refine j_eqi (y := nI (256 * (dp - 1))) (pk_mul 256 (dp - 1)) ?_
    refine j_istore_n [(2, .int (nI (256 * (dp - 1)))), (0, .ref (R 0)), (1, .int (nI 168))] d_Mo_hashed_28 rfl (by decide) rfl ?_
    refine j_aload_n d_Mo_hashed_29 rfl 1 rfl ?_
    refine j_get F_Mo hM1__R_0_ 10 (by decide) w_953 (Or.inl rfl) rfl d_Mo_hashed_30 ?_
    refine j_aload_n d_Mo_hashed_33 rfl 1 rfl ?_
    refine j_get F_Mo hM1__R_0_ 11 (by decide) w_954 (Or.inl rfl) rfl d_Mo_hashed_34 ?_
    obtain ⟨T, Z, t1, t2, t3, t4⟩ := JM1.ra
    have tl := (t4 (dp - 1) (by omega)).2.1
    have tb := (t4 (dp - 1) (by omega)).2.2
    refine j_iald t2 (dp - 1) rfl (by omega) (by omega) d_Mo_hashed_37 ?_
    refine j_eqi (y := nI (A (dp - 1)).length) (t4 (dp - 1) (by omega)).1 ?_
    refine j_istore_n [(3, .int (nI (A (dp - 1)).length)), (2, .int (nI (256 * (dp - 1)))), (0, .ref (R 0)), (1, .int (nI 168))] d_Mo_hashed_38 rfl (by decide) rfl ?_
    refine j_iload_n d_Mo_hashed_39 rfl 3 rfl ?_
    refine j_sipush (v := nI 166) d_Mo_hashed_40 (by decide) ?_
    refine j_ncmp_ne 59 168 166 rfl rfl (by omega) (by omega) d_Mo_hashed_43 (by decide) (fun b43 => ?_) (fun b43 => (by first | exact b43.elim | exact absurd b43 (by omega)))
    refine j_aload_n d_Mo_hashed_59 rfl 2 rfl ?_
    refine j_aload_n d_Mo_hashed_60 rfl 2 rfl ?_
    refine j_get F_Mo hM1__R_0_ 9 (by decide) w_952 (Or.inl rfl) rfl d_Mo_hashed_61 ?_
    refine j_iload_n d_Mo_hashed_64 rfl 1 rfl ?_
    refine j_iload_n d_Mo_hashed_65 rfl 0 rfl ?_
    refine j_callV (As := [.ref (R 8), .int (nI (256 * (dp - 1))), .int (nI (A (dp - 1)).length)]) (rest := []) (c_Mo_sha Γ.l E M1 R rows thr (dp - 1) as_ ops A (R 8) 104448 (256 * (dp - 1)) (A (dp - 1)).length T JM1 hR t1 (by decide) (by omega) (by omega) t3 (hR.ne (by decide) (by decide) (by decide))) Y_Mo_sha w_1108 w_1110 ws_45 hM1__R_0_ rfl rfl rfl (Nat.le_of_ble_eq_true rfl) (by omega) (by omega) (by omega) d_Mo_hashed_66 (fun v66 N66 p66 => ?_)
    obtain ⟨rfl, I66, z66, f66⟩ := p66
    have y66 : ∀ j, j < 32 → (sm_sha (fun e => T (256 * (dp - 1) + e)) (A (dp - 1)).length) (0 + j) = gb (am_sha (A (dp - 1))) j := sg_sha tb
    show mp_J Γ m_Mo_hashed E κ N66 [(3, .int (nI (A (dp - 1)).length)), (2, .int (nI (256 * (dp - 1)))), (0, .ref (R 0)), (1, .int (nI 168))] 69 [] 0 0
    refine j_iload_n d_Mo_hashed_69 rfl 3 rfl ?_
    refine j_sipush (v := nI 169) d_Mo_hashed_70 (by decide) ?_
    refine j_ncmp_ne 87 168 169 rfl rfl (by omega) (by omega) d_Mo_hashed_73 (by decide) (fun b73 => ?_) (fun b73 => (by first | exact b73.elim | exact absurd b73 (by omega)))
    refine j_iload_n d_Mo_hashed_87 rfl 3 rfl ?_
    refine j_sipush (v := nI 170) d_Mo_hashed_88 (by decide) ?_
    refine j_ncmp_ne 105 168 170 rfl rfl (by omega) (by omega) d_Mo_hashed_91 (by decide) (fun b91 => ?_) (fun b91 => (by first | exact b91.elim | exact absurd b91 (by omega)))
    refine j_aload_n d_Mo_hashed_105 rfl 2 rfl ?_
    refine j_aload_n d_Mo_hashed_106 rfl 2 rfl ?_
    refine j_get F_Mo I66.1 7 (by decide) w_950 (Or.inl rfl) rfl d_Mo_hashed_107 ?_
    refine j_iconst (v := nI 0) d_Mo_hashed_110 (by decide) ?_
    refine j_iload_n d_Mo_hashed_111 rfl 3 rfl ?_
    refine j_sipush (v := nI 166) d_Mo_hashed_112 (by decide) ?_
    refine j_ncmp_eq 125 168 166 rfl rfl (by omega) (by omega) d_Mo_hashed_115 (by decide) (fun b115 => (by first | exact b115.elim | exact absurd b115 (by omega))) (fun b115 => ?_)
    refine j_iload_n d_Mo_hashed_118 rfl 3 rfl ?_
    refine j_sipush (v := nI 169) d_Mo_hashed_119 (by decide) ?_
    refine j_ncmp_ne 130 168 169 rfl rfl (by omega) (by omega) d_Mo_hashed_122 (by decide) (fun b122 => ?_) (fun b122 => (by first | exact b122.elim | exact absurd b122 (by omega)))
    refine j_bipush (v := nI 32) d_Mo_hashed_130 (by decide) ?_
    refine j_callV (As := [.ref (R 6), .int (nI 0), .int (nI 32)]) (rest := []) (r_push Γ.l I66 hR (R 6) 32 0 32 (am_sha (A (dp - 1))) (sm_sha (fun e => T (256 * (dp - 1) + e)) (A (dp - 1)).length) am_sha_l z66 (by decide) (fun i hi => pk_fb _) (by decide) (by decide) (by omega) (hR.ne (by decide) (by decide) (by decide)) (hR.ne (by decide) (by decide) (by decide)) y66) Y_Mo_push w_1019 w_1021 ws_30 I66.1 rfl rfl rfl (Nat.le_of_ble_eq_true rfl) (by omega) (by omega) (by omega) d_Mo_hashed_132 (fun v132 N132 p132 => ?_)
    obtain ⟨rfl, I132, f132⟩ := p132
    show mp_J Γ m_Mo_hashed E κ N132 [(3, .int (nI (A (dp - 1)).length)), (2, .int (nI (256 * (dp - 1)))), (0, .ref (R 0)), (1, .int (nI 168))] 135 [] 0 0
    refine j_iconst (v := nI 1) d_Mo_hashed_135 (by decide) ?_
    exact j_zret hκ rfl (by first | exact Or.inl rfl | exact Or.inr rfl) (by omega) (by omega) d_Mo_hashed_136 (RQ.t I132 ((fM1.trans f66).trans f132) (by omega) (x168 (by omega) (by omega)))
  · skip
    have d5 := of_decide_eq_false b5
    refine j_iconst (v := nI 0) d_Mo_hashed_8 (by decide) ?_
    exact j_zret hκ rfl (by first | exact Or.inl rfl | exact Or.inr rfl) (by omega) (by omega) d_Mo_hashed_9 (RQ.f hI RFr.refl (by omega) (xf168 d5))

set_option maxHeartbeats 4000000 in
set_option maxRecDepth 100000 in
theorem c_Mo_hs_169 (l : Launch) (E : mp_E) (M : mp_M) (R : Nat → Nat) (rows : Nat) (thr : Int32) (dp as_ ops : Nat) (A : Nat → am_T) (b : List Bool) (hI : RI E M R rows thr dp as_ ops A) (hR : RL R) (hd : dp + as_ ≤ 200) (hk : ops ≤ 1000) : mp_Cr l m_Mo_hashed E M 3 0 0 [.ref (R 0), .int (nI 169)] (RQ E R M rows thr b (am_op 169 (LM A dp) (LO A as_) b ops)) := by
  refine mp_Cr.of (by decide) (Nat.le_of_ble_eq_true rfl) fun Γ κ hl hκ => ?_
  subst hl
  obtain ⟨hκd, hκc, hκs, -⟩ := id hκ
  show mp_J Γ m_Mo_hashed E κ M [(0, .ref (R 0)), (1, .int (nI 169))] 0 [] 0 0
  refine j_aload_n d_Mo_hashed_0 rfl 0 rfl ?_
  refine j_iconst (v := nI 1) d_Mo_hashed_1 (by decide) ?_
  refine j_callV (As := [.int (nI 1)]) (rest := []) (c_Mo_has Γ.l E M (R 0) (R 1) rows (R 2) (R 3) (R 4) (R 5) (R 6) (R 7) (R 8) (R 9) dp as_ ops (R 10) thr 1 hI.1 (by omega) (by omega)) Y_Mo_has w_1039 w_1041 ws_35 hI.1 rfl rfl rfl (Nat.le_of_ble_eq_true rfl) (by omega) (by omega) (by omega) d_Mo_hashed_2 (fun v2 N2 p2 => ?_)
  obtain ⟨rfl, q2⟩ := p2
  obtain rfl := q2.symm
  show mp_J Γ m_Mo_hashed E κ M [(0, .ref (R 0)), (1, .int (nI 169))] 5 [.int (tf (decide (1 ≤ dp)))] 0 0
  refine j_tif_ne 10 d_Mo_hashed_5 (by decide) (fun b5 => ?_) (fun b5 => ?_)
  · skip
    have d5 := of_decide_eq_true b5
    refine j_aload_n d_Mo_hashed_10 rfl 0 rfl ?_
    refine j_dup d_Mo_hashed_11 rfl ?_
    refine j_get F_Mo hI.1 11 (by decide) w_954 (Or.inl rfl) rfl d_Mo_hashed_12 ?_
    refine j_iconst (v := nI 1) d_Mo_hashed_15 (by decide) ?_
    refine j_isub d_Mo_hashed_16 ?_
    refine j_eqi (y := nI (dp - 1)) (pk_sub (by omega)) ?_
    refine j_put F_Mo hI.1 11 (by decide) w_954 (Or.inl rfl) rfl rfl rfl (Nat.le_of_ble_eq_true rfl) d_Mo_hashed_17 ?_
    show mp_J Γ m_Mo_hashed E κ (mp_up M (R 0) (mp_o 7 [.ref (R 1), .int (nI rows), .int thr, .ref (R 2), .ref (R 3), .ref (R 4), .ref (R 5), .ref (R 6), .ref (R 7), .ref (R 8), .ref (R 9), .int (nI (dp - 1)), .int (nI as_), .int (nI ops), .ref (R 10)])) [(0, .ref (R 0)), (1, .int (nI 169))] 20 [] 0 0
    generalize eM1 : mp_up M (R 0) (mp_o 7 [.ref (R 1), .int (nI rows), .int thr, .ref (R 2), .ref (R 3), .ref (R 4), .ref (R 5), .ref (R 6), .ref (R 7), .ref (R 8), .ref (R 9), .int (nI (dp - 1)), .int (nI as_), .int (nI ops), .ref (R 10)]) = M1
    have hM1__R_0_ : M1 (R 0) = some (mp_o 7 [.ref (R 1), .int (nI rows), .int thr, .ref (R 2), .ref (R 3), .ref (R 4), .ref (R 5), .ref (R 6), .ref (R 7), .ref (R 8), .ref (R 9), .int (nI (dp - 1)), .int (nI as_), .int (nI ops), .ref (R 10)]) := by rw [← eM1]; exact mp_s
    have JM1 : RI E M1 R rows thr (dp - 1) as_ ops A := hI.set hR eM1
    have fM1 : RFr R M M1 := RFr.s0 eM1
    refine j_sipush (v := nI 256) d_Mo_hashed_20 (by decide) ?_
    refine j_aload_n d_Mo_hashed_23 rfl 0 rfl ?_
    refine j_get F_Mo hM1__R_0_ 11 (by decide) w_954 (Or.inl rfl) rfl d_Mo_hashed_24 ?_
    refine j_imul d_Mo_hashed_27 ?_
    refine j_eqi (y := nI (256 * (dp - 1))) (pk_mul 256 (dp - 1)) ?_
    refine j_istore_n [(2, .int (nI (256 * (dp - 1)))), (0, .ref (R 0)), (1, .int (nI 169))] d_Mo_hashed_28 rfl (by decide) rfl ?_
    refine j_aload_n d_Mo_hashed_29 rfl 1 rfl ?_
    refine j_get F_Mo hM1__R_0_ 10 (by decide) w_953 (Or.inl rfl) rfl d_Mo_hashed_30 ?_
    refine j_aload_n d_Mo_hashed_33 rfl 1 rfl ?_
    refine j_get F_Mo hM1__R_0_ 11 (by decide) w_954 (Or.inl rfl) rfl d_Mo_hashed_34 ?_
    obtain ⟨T, Z, t1, t2, t3, t4⟩ := JM1.ra
    have tl := (t4 (dp - 1) (by omega)).2.1
    have tb := (t4 (dp - 1) (by omega)).2.2
    refine j_iald t2 (dp - 1) rfl (by omega) (by omega) d_Mo_hashed_37 ?_
    refine j_eqi (y := nI (A (dp - 1)).length) (t4 (dp - 1) (by omega)).1 ?_
    refine j_istore_n [(3, .int (nI (A (dp - 1)).length)), (2, .int (nI (256 * (dp - 1)))), (0, .ref (R 0)), (1, .int (nI 169))] d_Mo_hashed_38 rfl (by decide) rfl ?_
    refine j_iload_n d_Mo_hashed_39 rfl 3 rfl ?_
    refine j_sipush (v := nI 166) d_Mo_hashed_40 (by decide) ?_
    refine j_ncmp_ne 59 169 166 rfl rfl (by omega) (by omega) d_Mo_hashed_43 (by decide) (fun b43 => ?_) (fun b43 => (by first | exact b43.elim | exact absurd b43 (by omega)))
    refine j_aload_n d_Mo_hashed_59 rfl 2 rfl ?_
    refine j_aload_n d_Mo_hashed_60 rfl 2 rfl ?_
    refine j_get F_Mo hM1__R_0_ 9 (by decide) w_952 (Or.inl rfl) rfl d_Mo_hashed_61 ?_
    refine j_iload_n d_Mo_hashed_64 rfl 1 rfl ?_
    refine j_iload_n d_Mo_hashed_65 rfl 0 rfl ?_
    refine j_callV (As := [.ref (R 8), .int (nI (256 * (dp - 1))), .int (nI (A (dp - 1)).length)]) (rest := []) (c_Mo_sha Γ.l E M1 R rows thr (dp - 1) as_ ops A (R 8) 104448 (256 * (dp - 1)) (A (dp - 1)).length T JM1 hR t1 (by decide) (by omega) (by omega) t3 (hR.ne (by decide) (by decide) (by decide))) Y_Mo_sha w_1108 w_1110 ws_45 hM1__R_0_ rfl rfl rfl (Nat.le_of_ble_eq_true rfl) (by omega) (by omega) (by omega) d_Mo_hashed_66 (fun v66 N66 p66 => ?_)
    obtain ⟨rfl, I66, z66, f66⟩ := p66
    have y66 : ∀ j, j < 32 → (sm_sha (fun e => T (256 * (dp - 1) + e)) (A (dp - 1)).length) (0 + j) = gb (am_sha (A (dp - 1))) j := sg_sha tb
    show mp_J Γ m_Mo_hashed E κ N66 [(3, .int (nI (A (dp - 1)).length)), (2, .int (nI (256 * (dp - 1)))), (0, .ref (R 0)), (1, .int (nI 169))] 69 [] 0 0
    refine j_iload_n d_Mo_hashed_69 rfl 3 rfl ?_
    refine j_sipush (v := nI 169) d_Mo_hashed_70 (by decide) ?_
    refine j_ncmp_ne 87 169 169 rfl rfl (by omega) (by omega) d_Mo_hashed_73 (by decide) (fun b73 => (by first | exact b73.elim | exact absurd b73 (by omega))) (fun b73 => ?_)
    refine j_aload_n d_Mo_hashed_76 rfl 2 rfl ?_
    refine j_aload_n d_Mo_hashed_77 rfl 2 rfl ?_
    refine j_get F_Mo I66.1 7 (by decide) w_950 (Or.inl rfl) rfl d_Mo_hashed_78 ?_
    refine j_iconst (v := nI 0) d_Mo_hashed_81 (by decide) ?_
    refine j_bipush (v := nI 32) d_Mo_hashed_82 (by decide) ?_
    refine j_callV (As := [.ref (R 6), .int (nI 0), .int (nI 32)]) (rest := []) (c_Mo_ripemd Γ.l E N66 R rows thr (dp - 1) as_ ops A (R 6) 32 0 32 (sm_sha (fun e => T (256 * (dp - 1) + e)) (A (dp - 1)).length) I66 hR z66 (by decide) (by decide) (by decide) (fun i hi => pk_fb _) (hR.ne (by decide) (by decide) (by decide))) Y_Mo_ripemd w_1080 w_1082 ws_44 I66.1 rfl rfl rfl (Nat.le_of_ble_eq_true rfl) (by omega) (by omega) (by omega) d_Mo_hashed_84 (fun v84 N84 p84 => ?_)
    obtain ⟨rfl, I84, ⟨H84, z84, r84, u84⟩, f84⟩ := p84
    have y84 : ∀ j, j < 20 → H84 (0 + j) = gb (am_rip (am_sha (A (dp - 1)))) j := fun j hj => by rw [Nat.zero_add, r84 j hj, sm_rip_c (g := gb (am_sha (A (dp - 1)))) y66]; exact ((gl_at hj).symm.trans (by unfold am_rip; rw [am_sha_l]))
    show mp_J Γ m_Mo_hashed E κ N84 [(3, .int (nI (A (dp - 1)).length)), (2, .int (nI (256 * (dp - 1)))), (0, .ref (R 0)), (1, .int (nI 169))] 87 [] 0 0
    refine j_iload_n d_Mo_hashed_87 rfl 3 rfl ?_
    refine j_sipush (v := nI 170) d_Mo_hashed_88 (by decide) ?_
    refine j_ncmp_ne 105 169 170 rfl rfl (by omega) (by omega) d_Mo_hashed_91 (by decide) (fun b91 => ?_) (fun b91 => (by first | exact b91.elim | exact absurd b91 (by omega)))
    refine j_aload_n d_Mo_hashed_105 rfl 2 rfl ?_
    refine j_aload_n d_Mo_hashed_106 rfl 2 rfl ?_
    refine j_get F_Mo I84.1 7 (by decide) w_950 (Or.inl rfl) rfl d_Mo_hashed_107 ?_
    refine j_iconst (v := nI 0) d_Mo_hashed_110 (by decide) ?_
    refine j_iload_n d_Mo_hashed_111 rfl 3 rfl ?_
    refine j_sipush (v := nI 166) d_Mo_hashed_112 (by decide) ?_
    refine j_ncmp_eq 125 169 166 rfl rfl (by omega) (by omega) d_Mo_hashed_115 (by decide) (fun b115 => (by first | exact b115.elim | exact absurd b115 (by omega))) (fun b115 => ?_)
    refine j_iload_n d_Mo_hashed_118 rfl 3 rfl ?_
    refine j_sipush (v := nI 169) d_Mo_hashed_119 (by decide) ?_
    refine j_ncmp_ne 130 169 169 rfl rfl (by omega) (by omega) d_Mo_hashed_122 (by decide) (fun b122 => (by first | exact b122.elim | exact absurd b122 (by omega))) (fun b122 => ?_)
    refine j_bipush (v := nI 20) d_Mo_hashed_125 (by decide) ?_
    refine j_goto (tgt := 132) d_Mo_hashed_127 (by decide) ?_
    refine j_callV (As := [.ref (R 6), .int (nI 0), .int (nI 20)]) (rest := []) (r_push Γ.l I84 hR (R 6) 32 0 20 (am_rip (am_sha (A (dp - 1)))) (H84) am_rip_l z84 (by decide) u84 (by decide) (by decide) (by omega) (hR.ne (by decide) (by decide) (by decide)) (hR.ne (by decide) (by decide) (by decide)) y84) Y_Mo_push w_1019 w_1021 ws_30 I84.1 rfl rfl rfl (Nat.le_of_ble_eq_true rfl) (by omega) (by omega) (by omega) d_Mo_hashed_132 (fun v132 N132 p132 => ?_)
    obtain ⟨rfl, I132, f132⟩ := p132
    show mp_J Γ m_Mo_hashed E κ N132 [(3, .int (nI (A (dp - 1)).length)), (2, .int (nI (256 * (dp - 1)))), (0, .ref (R 0)), (1, .int (nI 169))] 135 [] 0 0
    refine j_iconst (v := nI 1) d_Mo_hashed_135 (by decide) ?_
    exact j_zret hκ rfl (by first | exact Or.inl rfl | exact Or.inr rfl) (by omega) (by omega) d_Mo_hashed_136 (RQ.t I132 (((fM1.trans f66).trans f84).trans f132) (by omega) (x169 (by omega) (by omega)))
  · skip
    have d5 := of_decide_eq_false b5
    refine j_iconst (v := nI 0) d_Mo_hashed_8 (by decide) ?_
    exact j_zret hκ rfl (by first | exact Or.inl rfl | exact Or.inr rfl) (by omega) (by omega) d_Mo_hashed_9 (RQ.f hI RFr.refl (by omega) (xf169 d5))

set_option maxHeartbeats 4000000 in
set_option maxRecDepth 100000 in
theorem c_Mo_hs_170 (l : Launch) (E : mp_E) (M : mp_M) (R : Nat → Nat) (rows : Nat) (thr : Int32) (dp as_ ops : Nat) (A : Nat → am_T) (b : List Bool) (hI : RI E M R rows thr dp as_ ops A) (hR : RL R) (hd : dp + as_ ≤ 200) (hk : ops ≤ 1000) : mp_Cr l m_Mo_hashed E M 3 0 0 [.ref (R 0), .int (nI 170)] (RQ E R M rows thr b (am_op 170 (LM A dp) (LO A as_) b ops)) := by
  refine mp_Cr.of (by decide) (Nat.le_of_ble_eq_true rfl) fun Γ κ hl hκ => ?_
  subst hl
  obtain ⟨hκd, hκc, hκs, -⟩ := id hκ
  show mp_J Γ m_Mo_hashed E κ M [(0, .ref (R 0)), (1, .int (nI 170))] 0 [] 0 0
  refine j_aload_n d_Mo_hashed_0 rfl 0 rfl ?_
  refine j_iconst (v := nI 1) d_Mo_hashed_1 (by decide) ?_
  refine j_callV (As := [.int (nI 1)]) (rest := []) (c_Mo_has Γ.l E M (R 0) (R 1) rows (R 2) (R 3) (R 4) (R 5) (R 6) (R 7) (R 8) (R 9) dp as_ ops (R 10) thr 1 hI.1 (by omega) (by omega)) Y_Mo_has w_1039 w_1041 ws_35 hI.1 rfl rfl rfl (Nat.le_of_ble_eq_true rfl) (by omega) (by omega) (by omega) d_Mo_hashed_2 (fun v2 N2 p2 => ?_)
  obtain ⟨rfl, q2⟩ := p2
  obtain rfl := q2.symm
  show mp_J Γ m_Mo_hashed E κ M [(0, .ref (R 0)), (1, .int (nI 170))] 5 [.int (tf (decide (1 ≤ dp)))] 0 0
  refine j_tif_ne 10 d_Mo_hashed_5 (by decide) (fun b5 => ?_) (fun b5 => ?_)
  · skip
    have d5 := of_decide_eq_true b5
    refine j_aload_n d_Mo_hashed_10 rfl 0 rfl ?_
    refine j_dup d_Mo_hashed_11 rfl ?_
    refine j_get F_Mo hI.1 11 (by decide) w_954 (Or.inl rfl) rfl d_Mo_hashed_12 ?_
    refine j_iconst (v := nI 1) d_Mo_hashed_15 (by decide) ?_
    refine j_isub d_Mo_hashed_16 ?_
    refine j_eqi (y := nI (dp - 1)) (pk_sub (by omega)) ?_
    refine j_put F_Mo hI.1 11 (by decide) w_954 (Or.inl rfl) rfl rfl rfl (Nat.le_of_ble_eq_true rfl) d_Mo_hashed_17 ?_
    show mp_J Γ m_Mo_hashed E κ (mp_up M (R 0) (mp_o 7 [.ref (R 1), .int (nI rows), .int thr, .ref (R 2), .ref (R 3), .ref (R 4), .ref (R 5), .ref (R 6), .ref (R 7), .ref (R 8), .ref (R 9), .int (nI (dp - 1)), .int (nI as_), .int (nI ops), .ref (R 10)])) [(0, .ref (R 0)), (1, .int (nI 170))] 20 [] 0 0
    generalize eM1 : mp_up M (R 0) (mp_o 7 [.ref (R 1), .int (nI rows), .int thr, .ref (R 2), .ref (R 3), .ref (R 4), .ref (R 5), .ref (R 6), .ref (R 7), .ref (R 8), .ref (R 9), .int (nI (dp - 1)), .int (nI as_), .int (nI ops), .ref (R 10)]) = M1
    have hM1__R_0_ : M1 (R 0) = some (mp_o 7 [.ref (R 1), .int (nI rows), .int thr, .ref (R 2), .ref (R 3), .ref (R 4), .ref (R 5), .ref (R 6), .ref (R 7), .ref (R 8), .ref (R 9), .int (nI (dp - 1)), .int (nI as_), .int (nI ops), .ref (R 10)]) := by rw [← eM1]; exact mp_s
    have JM1 : RI E M1 R rows thr (dp - 1) as_ ops A := hI.set hR eM1
    have fM1 : RFr R M M1 := RFr.s0 eM1
    refine j_sipush (v := nI 256) d_Mo_hashed_20 (by decide) ?_
    refine j_aload_n d_Mo_hashed_23 rfl 0 rfl ?_
    refine j_get F_Mo hM1__R_0_ 11 (by decide) w_954 (Or.inl rfl) rfl d_Mo_hashed_24 ?_
    refine j_imul d_Mo_hashed_27 ?_
    refine j_eqi (y := nI (256 * (dp - 1))) (pk_mul 256 (dp - 1)) ?_
    refine j_istore_n [(2, .int (nI (256 * (dp - 1)))), (0, .ref (R 0)), (1, .int (nI 170))] d_Mo_hashed_28 rfl (by decide) rfl ?_
    refine j_aload_n d_Mo_hashed_29 rfl 1 rfl ?_
    refine j_get F_Mo hM1__R_0_ 10 (by decide) w_953 (Or.inl rfl) rfl d_Mo_hashed_30 ?_
    refine j_aload_n d_Mo_hashed_33 rfl 1 rfl ?_
    refine j_get F_Mo hM1__R_0_ 11 (by decide) w_954 (Or.inl rfl) rfl d_Mo_hashed_34 ?_
    obtain ⟨T, Z, t1, t2, t3, t4⟩ := JM1.ra
    have tl := (t4 (dp - 1) (by omega)).2.1
    have tb := (t4 (dp - 1) (by omega)).2.2
    refine j_iald t2 (dp - 1) rfl (by omega) (by omega) d_Mo_hashed_37 ?_
    refine j_eqi (y := nI (A (dp - 1)).length) (t4 (dp - 1) (by omega)).1 ?_
    refine j_istore_n [(3, .int (nI (A (dp - 1)).length)), (2, .int (nI (256 * (dp - 1)))), (0, .ref (R 0)), (1, .int (nI 170))] d_Mo_hashed_38 rfl (by decide) rfl ?_
    refine j_iload_n d_Mo_hashed_39 rfl 3 rfl ?_
    refine j_sipush (v := nI 166) d_Mo_hashed_40 (by decide) ?_
    refine j_ncmp_ne 59 170 166 rfl rfl (by omega) (by omega) d_Mo_hashed_43 (by decide) (fun b43 => ?_) (fun b43 => (by first | exact b43.elim | exact absurd b43 (by omega)))
    refine j_aload_n d_Mo_hashed_59 rfl 2 rfl ?_
    refine j_aload_n d_Mo_hashed_60 rfl 2 rfl ?_
    refine j_get F_Mo hM1__R_0_ 9 (by decide) w_952 (Or.inl rfl) rfl d_Mo_hashed_61 ?_
    refine j_iload_n d_Mo_hashed_64 rfl 1 rfl ?_
    refine j_iload_n d_Mo_hashed_65 rfl 0 rfl ?_
    refine j_callV (As := [.ref (R 8), .int (nI (256 * (dp - 1))), .int (nI (A (dp - 1)).length)]) (rest := []) (c_Mo_sha Γ.l E M1 R rows thr (dp - 1) as_ ops A (R 8) 104448 (256 * (dp - 1)) (A (dp - 1)).length T JM1 hR t1 (by decide) (by omega) (by omega) t3 (hR.ne (by decide) (by decide) (by decide))) Y_Mo_sha w_1108 w_1110 ws_45 hM1__R_0_ rfl rfl rfl (Nat.le_of_ble_eq_true rfl) (by omega) (by omega) (by omega) d_Mo_hashed_66 (fun v66 N66 p66 => ?_)
    obtain ⟨rfl, I66, z66, f66⟩ := p66
    have y66 : ∀ j, j < 32 → (sm_sha (fun e => T (256 * (dp - 1) + e)) (A (dp - 1)).length) (0 + j) = gb (am_sha (A (dp - 1))) j := sg_sha tb
    show mp_J Γ m_Mo_hashed E κ N66 [(3, .int (nI (A (dp - 1)).length)), (2, .int (nI (256 * (dp - 1)))), (0, .ref (R 0)), (1, .int (nI 170))] 69 [] 0 0
    refine j_iload_n d_Mo_hashed_69 rfl 3 rfl ?_
    refine j_sipush (v := nI 169) d_Mo_hashed_70 (by decide) ?_
    refine j_ncmp_ne 87 170 169 rfl rfl (by omega) (by omega) d_Mo_hashed_73 (by decide) (fun b73 => ?_) (fun b73 => (by first | exact b73.elim | exact absurd b73 (by omega)))
    refine j_iload_n d_Mo_hashed_87 rfl 3 rfl ?_
    refine j_sipush (v := nI 170) d_Mo_hashed_88 (by decide) ?_
    refine j_ncmp_ne 105 170 170 rfl rfl (by omega) (by omega) d_Mo_hashed_91 (by decide) (fun b91 => (by first | exact b91.elim | exact absurd b91 (by omega))) (fun b91 => ?_)
    refine j_aload_n d_Mo_hashed_94 rfl 2 rfl ?_
    refine j_aload_n d_Mo_hashed_95 rfl 2 rfl ?_
    refine j_get F_Mo I66.1 7 (by decide) w_950 (Or.inl rfl) rfl d_Mo_hashed_96 ?_
    refine j_iconst (v := nI 0) d_Mo_hashed_99 (by decide) ?_
    refine j_bipush (v := nI 32) d_Mo_hashed_100 (by decide) ?_
    refine j_callV (As := [.ref (R 6), .int (nI 0), .int (nI 32)]) (rest := []) (c_Mo_sha Γ.l E N66 R rows thr (dp - 1) as_ ops A (R 6) 32 0 32 (sm_sha (fun e => T (256 * (dp - 1) + e)) (A (dp - 1)).length) I66 hR z66 (by decide) (by decide) (by decide) (fun i hi => pk_fb _) (hR.ne (by decide) (by decide) (by decide))) Y_Mo_sha w_1108 w_1110 ws_45 I66.1 rfl rfl rfl (Nat.le_of_ble_eq_true rfl) (by omega) (by omega) (by omega) d_Mo_hashed_102 (fun v102 N102 p102 => ?_)
    obtain ⟨rfl, I102, z102, f102⟩ := p102
    have y102 : ∀ j, j < 32 → (sm_sha (fun e => (sm_sha (fun e => T (256 * (dp - 1) + e)) (A (dp - 1)).length) (0 + e)) 32) (0 + j) = gb (am_sha (am_sha (A (dp - 1)))) j := fun j hj => by rw [Nat.zero_add, sm_sha_c (g := gb (am_sha (A (dp - 1)))) y66]; exact ((gl_at hj).symm.trans (by rw [am_sha_e (x := am_sha (A (dp - 1))) am_sha_l]))
    show mp_J Γ m_Mo_hashed E κ N102 [(3, .int (nI (A (dp - 1)).length)), (2, .int (nI (256 * (dp - 1)))), (0, .ref (R 0)), (1, .int (nI 170))] 105 [] 0 0
    refine j_aload_n d_Mo_hashed_105 rfl 2 rfl ?_
    refine j_aload_n d_Mo_hashed_106 rfl 2 rfl ?_
    refine j_get F_Mo I102.1 7 (by decide) w_950 (Or.inl rfl) rfl d_Mo_hashed_107 ?_
    refine j_iconst (v := nI 0) d_Mo_hashed_110 (by decide) ?_
    refine j_iload_n d_Mo_hashed_111 rfl 3 rfl ?_
    refine j_sipush (v := nI 166) d_Mo_hashed_112 (by decide) ?_
    refine j_ncmp_eq 125 170 166 rfl rfl (by omega) (by omega) d_Mo_hashed_115 (by decide) (fun b115 => (by first | exact b115.elim | exact absurd b115 (by omega))) (fun b115 => ?_)
    refine j_iload_n d_Mo_hashed_118 rfl 3 rfl ?_
    refine j_sipush (v := nI 169) d_Mo_hashed_119 (by decide) ?_
    refine j_ncmp_ne 130 170 169 rfl rfl (by omega) (by omega) d_Mo_hashed_122 (by decide) (fun b122 => ?_) (fun b122 => (by first | exact b122.elim | exact absurd b122 (by omega)))
    refine j_bipush (v := nI 32) d_Mo_hashed_130 (by decide) ?_
    refine j_callV (As := [.ref (R 6), .int (nI 0), .int (nI 32)]) (rest := []) (r_push Γ.l I102 hR (R 6) 32 0 32 (am_sha (am_sha (A (dp - 1)))) (sm_sha (fun e => (sm_sha (fun e => T (256 * (dp - 1) + e)) (A (dp - 1)).length) (0 + e)) 32) am_sha_l z102 (by decide) (fun i hi => pk_fb _) (by decide) (by decide) (by omega) (hR.ne (by decide) (by decide) (by decide)) (hR.ne (by decide) (by decide) (by decide)) y102) Y_Mo_push w_1019 w_1021 ws_30 I102.1 rfl rfl rfl (Nat.le_of_ble_eq_true rfl) (by omega) (by omega) (by omega) d_Mo_hashed_132 (fun v132 N132 p132 => ?_)
    obtain ⟨rfl, I132, f132⟩ := p132
    show mp_J Γ m_Mo_hashed E κ N132 [(3, .int (nI (A (dp - 1)).length)), (2, .int (nI (256 * (dp - 1)))), (0, .ref (R 0)), (1, .int (nI 170))] 135 [] 0 0
    refine j_iconst (v := nI 1) d_Mo_hashed_135 (by decide) ?_
    exact j_zret hκ rfl (by first | exact Or.inl rfl | exact Or.inr rfl) (by omega) (by omega) d_Mo_hashed_136 (RQ.t I132 (((fM1.trans f66).trans f102).trans f132) (by omega) (x170 (by omega) (by omega)))
  · skip
    have d5 := of_decide_eq_false b5
    refine j_iconst (v := nI 0) d_Mo_hashed_8 (by decide) ?_
    exact j_zret hκ rfl (by first | exact Or.inl rfl | exact Or.inr rfl) (by omega) (by omega) d_Mo_hashed_9 (RQ.f hI RFr.refl (by omega) (xf170 d5))

set_option maxHeartbeats 4000000 in
set_option maxRecDepth 100000 in
theorem c_Mo_many (l : Launch) (E : mp_E) (M : mp_M) (R : Nat → Nat) (rows : Nat) (thr : Int32) (dp as_ ops : Nat) (A : Nat → am_T) (b : List Bool) (vf : Bool) (hI : RI E M R rows thr dp as_ ops A) (hR : RL R) (hd : dp + as_ ≤ 200) (hk : ops ≤ 1000) : mp_Cr l m_Mo_many E M 3 0 0 [.ref (R 0), .int (tf vf)] (RQ E R M rows thr b (a_many vf (LM A dp) (LO A as_) b ops)) := by
  refine mp_Cr.of (by decide) (Nat.le_of_ble_eq_true rfl) fun Γ κ hl hκ => ?_
  subst hl
  obtain ⟨hκd, hκc, hκs, -⟩ := id hκ
  show mp_J Γ m_Mo_many E κ M [(0, .ref (R 0)), (1, .int (tf vf))] 0 [] 0 0
  refine j_aload_n d_Mo_many_0 rfl 0 rfl ?_
  refine j_iconst (v := nI 1) d_Mo_many_1 (by decide) ?_
  refine j_callV (As := [.int (nI 1)]) (rest := []) (c_Mo_has Γ.l E M (R 0) (R 1) rows (R 2) (R 3) (R 4) (R 5) (R 6) (R 7) (R 8) (R 9) dp as_ ops (R 10) thr 1 hI.1 (by omega) (by omega)) Y_Mo_has w_1039 w_1041 ws_35 hI.1 rfl rfl rfl (Nat.le_of_ble_eq_true rfl) (by omega) (by omega) (by omega) d_Mo_many_2 (fun v2 N2 p2 => ?_)
  obtain ⟨rfl, q2⟩ := p2
  obtain rfl := q2.symm
  show mp_J Γ m_Mo_many E κ M [(0, .ref (R 0)), (1, .int (tf vf))] 5 [.int (tf (decide (1 ≤ dp)))] 0 0
  refine j_tif_eq 21 d_Mo_many_5 (by decide) (fun b5 => ?_) (fun b5 => ?_)
  · skip
    have d5 := of_decide_eq_false b5
    refine j_iconst (v := nI 0) d_Mo_many_21 (by decide) ?_
    exact j_zret hκ rfl (by first | exact Or.inl rfl | exact Or.inr rfl) (by omega) (by omega) d_Mo_many_22 (RQ.f hI RFr.refl (by omega) (by first | exact xm1 (LM_cntn (by decide) (Or.inl (by omega))) | exact xm1 (LM_cntn (by decide) (Or.inr ⟨by omega, Or.inl d18⟩))))
  · skip
    have d5 := of_decide_eq_true b5
    refine j_aload_n d_Mo_many_8 rfl 0 rfl ?_
    refine j_aload_n d_Mo_many_9 rfl 0 rfl ?_
    refine j_get F_Mo hI.1 11 (by decide) w_954 (Or.inl rfl) rfl d_Mo_many_10 ?_
    refine j_iconst (v := nI 1) d_Mo_many_13 (by decide) ?_
    refine j_isub d_Mo_many_14 ?_
    refine j_eqi (y := nI (dp - 1)) (pk_sub (by omega)) ?_
    refine j_callV (As := [.int (nI (dp - 1))]) (rest := []) (r_isNumber Γ.l hI (dp - 1) (by omega)) Y_Mo_isNumber w_1043 w_1045 ws_36 hI.1 rfl rfl rfl (Nat.le_of_ble_eq_true rfl) (by omega) (by omega) (by omega) d_Mo_many_15 (fun v15 N15 p15 => ?_)
    obtain ⟨rfl, q15⟩ := p15
    obtain rfl := q15.symm
    show mp_J Γ m_Mo_many E κ M [(0, .ref (R 0)), (1, .int (tf vf))] 18 [.int (tf (decide ((A (dp - 1)).length ≤ 4)))] 0 0
    refine j_tif_ne 23 d_Mo_many_18 (by decide) (fun b18 => ?_) (fun b18 => ?_)
    · skip
      have d18 := of_decide_eq_true b18
      refine j_aload_n d_Mo_many_23 rfl 0 rfl ?_
      refine j_aload_n d_Mo_many_24 rfl 0 rfl ?_
      refine j_get F_Mo hI.1 11 (by decide) w_954 (Or.inl rfl) rfl d_Mo_many_25 ?_
      refine j_iconst (v := nI 1) d_Mo_many_28 (by decide) ?_
      refine j_isub d_Mo_many_29 ?_
      refine j_eqi (y := nI (dp - 1)) (pk_sub (by omega)) ?_
      refine j_callV (As := [.int (nI (dp - 1))]) (rest := []) (r_numberAt Γ.l hI (dp - 1) (by omega) d18) Y_Mo_numberAt w_1047 w_1049 ws_37 hI.1 rfl rfl rfl (Nat.le_of_ble_eq_true rfl) (by omega) (by omega) (by omega) d_Mo_many_30 (fun v30 N30 p30 => ?_)
      obtain ⟨rfl, q30⟩ := p30
      obtain rfl := q30.symm
      show mp_J Γ m_Mo_many E κ M [(0, .ref (R 0)), (1, .int (tf vf))] 33 [.long (am_num (A (dp - 1)))] 0 0
      refine j_lstore_n [(2, .long (am_num (A (dp - 1)))), (0, .ref (R 0)), (1, .int (tf vf))] d_Mo_many_33 rfl (by decide) rfl ?_
      refine j_lload_n d_Mo_many_34 rfl 0 rfl ?_
      refine j_lconst (v := 0) d_Mo_many_35 (by decide) ?_
      refine j_lcmp d_Mo_many_36 ?_
      refine j_if_lt 48 d_Mo_many_37 (by decide) (fun b37 => ?_) (fun b37 => ?_)
      · skip
        refine j_iconst (v := nI 0) d_Mo_many_48 (by decide) ?_
        exact j_zret hκ rfl (by first | exact Or.inl rfl | exact Or.inr rfl) (by omega) (by omega) d_Mo_many_49 (RQ.f hI RFr.refl (by omega) (by first | exact xm1 (LM_cntn (by decide) (Or.inr ⟨by omega, Or.inr (Or.inl ((lg_cmp_lt _ _).mp b37))⟩)) | exact xm1 (LM_cntn (by decide) (Or.inr ⟨by omega, Or.inr (Or.inr ⟨j, hj1, hj2, by omega⟩)⟩))))
      · skip
        obtain ⟨j, hj1, hj2⟩ := pk_lOf (fun z => b37 ((lg_cmp_lt _ _).mpr z))
        rw [hj2]
        refine j_lload_n d_Mo_many_40 rfl 0 rfl ?_
        refine j_ldc2 (v := 20) w_1126 d_Mo_many_41 ?_
        refine j_lcmp d_Mo_many_44 ?_
        refine j_if_le 50 d_Mo_many_45 (by decide) (fun b45 => ?_) (fun b45 => ?_)
        · skip
          have hj20 : j ≤ 20 := (pk_lLE hj1 (by omega)).mp ((lg_cmp_le (lN j) (lN 20)).mp b45)
          have hc : am_cnt (LM A dp) 0 20 = some j := LM_cnt (by omega) d18 hj2 hj20 (by decide)
          refine j_aload_n d_Mo_many_50 rfl 1 rfl ?_
          refine j_dup d_Mo_many_51 rfl ?_
          refine j_get F_Mo hI.1 13 (by decide) w_956 (Or.inl rfl) rfl d_Mo_many_52 ?_
          refine j_lload_n d_Mo_many_55 rfl 0 rfl ?_
          refine j_l2i d_Mo_many_56 ?_
          refine j_eqi (y := nI j) (lN_i _) ?_
          refine j_iadd d_Mo_many_57 ?_
          refine j_eqi (y := nI (ops + j)) (nI_add ops j) ?_
          refine j_put F_Mo hI.1 13 (by decide) w_956 (Or.inl rfl) rfl rfl rfl (Nat.le_of_ble_eq_true rfl) d_Mo_many_58 ?_
          show mp_J Γ m_Mo_many E κ (mp_up M (R 0) (mp_o 7 [.ref (R 1), .int (nI rows), .int thr, .ref (R 2), .ref (R 3), .ref (R 4), .ref (R 5), .ref (R 6), .ref (R 7), .ref (R 8), .ref (R 9), .int (nI dp), .int (nI as_), .int (nI (ops + j)), .ref (R 10)])) [(2, .long (lN j)), (0, .ref (R 0)), (1, .int (tf vf))] 61 [] 0 0
          generalize eM1 : mp_up M (R 0) (mp_o 7 [.ref (R 1), .int (nI rows), .int thr, .ref (R 2), .ref (R 3), .ref (R 4), .ref (R 5), .ref (R 6), .ref (R 7), .ref (R 8), .ref (R 9), .int (nI dp), .int (nI as_), .int (nI (ops + j)), .ref (R 10)]) = M1
          have hM1__R_0_ : M1 (R 0) = some (mp_o 7 [.ref (R 1), .int (nI rows), .int thr, .ref (R 2), .ref (R 3), .ref (R 4), .ref (R 5), .ref (R 6), .ref (R 7), .ref (R 8), .ref (R 9), .int (nI dp), .int (nI as_), .int (nI (ops + j)), .ref (R 10)]) := by rw [← eM1]; exact mp_s
          have JM1 : RI E M1 R rows thr dp as_ (ops + j) A := hI.set hR eM1
          have fM1 : RFr R M M1 := RFr.s0 eM1
          refine j_aload_n d_Mo_many_61 rfl 1 rfl ?_
          refine j_get F_Mo hM1__R_0_ 13 (by decide) w_956 (Or.inl rfl) rfl d_Mo_many_62 ?_
          refine j_sipush (v := nI 201) d_Mo_many_65 (by decide) ?_
          refine j_ncmp_gt 82 (ops + j) 201 rfl rfl (by omega) (by omega) d_Mo_many_68 (by decide) (fun b68 => ?_) (fun b68 => ?_)
          · skip
            refine j_iconst (v := nI 0) d_Mo_many_82 (by decide) ?_
            exact j_zret hκ rfl (by first | exact Or.inl rfl | exact Or.inr rfl) (by omega) (by omega) d_Mo_many_83 (RQ.f JM1 fM1 (by omega) (by first | exact xm2 hc (by omega) | exact xm3 hc (LM_cntn (by omega) (Or.inl (by omega)))))
          · skip
            refine j_aload_n d_Mo_many_71 rfl 1 rfl ?_
            refine j_lload_n d_Mo_many_72 rfl 0 rfl ?_
            refine j_l2i d_Mo_many_73 ?_
            refine j_eqi (y := nI j) (lN_i _) ?_
            refine j_iconst (v := nI 2) d_Mo_many_74 (by decide) ?_
            refine j_iadd d_Mo_many_75 ?_
            refine j_eqi (y := nI (j + 2)) (nI_add j 2) ?_
            refine j_callV (As := [.int (nI (j + 2))]) (rest := []) (c_Mo_has Γ.l E M1 (R 0) (R 1) rows (R 2) (R 3) (R 4) (R 5) (R 6) (R 7) (R 8) (R 9) dp as_ (ops + j) (R 10) thr (j + 2) JM1.1 (by omega) (by omega)) Y_Mo_has w_1039 w_1041 ws_35 hM1__R_0_ rfl rfl rfl (Nat.le_of_ble_eq_true rfl) (by omega) (by omega) (by omega) d_Mo_many_76 (fun v76 N76 p76 => ?_)
            obtain ⟨rfl, q76⟩ := p76
            obtain rfl := q76.symm
            show mp_J Γ m_Mo_many E κ M1 [(2, .long (lN j)), (0, .ref (R 0)), (1, .int (tf vf))] 79 [.int (tf (decide ((j + 2) ≤ dp)))] 0 0
            refine j_tif_ne 84 d_Mo_many_79 (by decide) (fun b79 => ?_) (fun b79 => ?_)
            · skip
              have d79 := of_decide_eq_true b79
              refine j_aload_n d_Mo_many_84 rfl 1 rfl ?_
              refine j_get F_Mo hM1__R_0_ 11 (by decide) w_954 (Or.inl rfl) rfl d_Mo_many_85 ?_
              refine j_iconst (v := nI 2) d_Mo_many_88 (by decide) ?_
              refine j_isub d_Mo_many_89 ?_
              refine j_eqi (y := nI (dp - 2)) (pk_sub (by omega)) ?_
              refine j_lload_n d_Mo_many_90 rfl 0 rfl ?_
              refine j_l2i d_Mo_many_91 ?_
              refine j_eqi (y := nI j) (lN_i _) ?_
              refine j_isub d_Mo_many_92 ?_
              refine j_eqi (y := nI ((dp - 2) - j)) (pk_sub (by omega)) ?_
              refine j_istore [(4, .int (nI ((dp - 2) - j))), (2, .long (lN j)), (0, .ref (R 0)), (1, .int (tf vf))] d_Mo_many_93 (by decide) rfl ?_
              refine j_aload_n d_Mo_many_95 rfl 2 rfl ?_
              refine j_iload d_Mo_many_96 0 rfl ?_
              refine j_callV (As := [.int (nI ((dp - 2) - j))]) (rest := []) (r_isNumber Γ.l JM1 ((dp - 2) - j) (by omega)) Y_Mo_isNumber w_1043 w_1045 ws_36 hM1__R_0_ rfl rfl rfl (Nat.le_of_ble_eq_true rfl) (by omega) (by omega) (by omega) d_Mo_many_98 (fun v98 N98 p98 => ?_)
              obtain ⟨rfl, q98⟩ := p98
              obtain rfl := q98.symm
              show mp_J Γ m_Mo_many E κ M1 [(4, .int (nI ((dp - 2) - j))), (2, .long (lN j)), (0, .ref (R 0)), (1, .int (tf vf))] 101 [.int (tf (decide ((A ((dp - 2) - j)).length ≤ 4)))] 0 0
              refine j_tif_ne 106 d_Mo_many_101 (by decide) (fun b101 => ?_) (fun b101 => ?_)
              · skip
                have d101 := of_decide_eq_true b101
                refine j_aload_n d_Mo_many_106 rfl 2 rfl ?_
                refine j_iload d_Mo_many_107 0 rfl ?_
                refine j_callV (As := [.int (nI ((dp - 2) - j))]) (rest := []) (r_numberAt Γ.l JM1 ((dp - 2) - j) (by omega) d101) Y_Mo_numberAt w_1047 w_1049 ws_37 hM1__R_0_ rfl rfl rfl (Nat.le_of_ble_eq_true rfl) (by omega) (by omega) (by omega) d_Mo_many_109 (fun v109 N109 p109 => ?_)
                obtain ⟨rfl, q109⟩ := p109
                obtain rfl := q109.symm
                show mp_J Γ m_Mo_many E κ M1 [(4, .int (nI ((dp - 2) - j))), (2, .long (lN j)), (0, .ref (R 0)), (1, .int (tf vf))] 112 [.long (am_num (A ((dp - 2) - j)))] 0 0
                refine j_lstore [(5, .long (am_num (A ((dp - 2) - j)))), (4, .int (nI ((dp - 2) - j))), (2, .long (lN j)), (0, .ref (R 0)), (1, .int (tf vf))] d_Mo_many_112 (by decide) rfl ?_
                refine j_lload d_Mo_many_114 0 rfl ?_
                refine j_lconst (v := 0) d_Mo_many_116 (by decide) ?_
                refine j_lcmp d_Mo_many_117 ?_
                refine j_if_lt 141 d_Mo_many_118 (by decide) (fun b118 => ?_) (fun b118 => ?_)
                · skip
                  refine j_iconst (v := nI 0) d_Mo_many_141 (by decide) ?_
                  exact j_zret hκ rfl (by first | exact Or.inl rfl | exact Or.inr rfl) (by omega) (by omega) d_Mo_many_142 (RQ.f JM1 fM1 (by omega) (by first | exact xm3 hc (LM_cntn (by omega) (Or.inr ⟨by omega, Or.inr (Or.inl (by rw [show dp - 1 - (j + 1) = dp - 2 - j by omega]; exact (lg_cmp_lt _ _).mp b118))⟩)) | exact xm3 hc (LM_cntn (by omega) (Or.inr ⟨by omega, Or.inr (Or.inr ⟨g, hg1, by rw [show dp - 1 - (j + 1) = dp - 2 - j by omega]; exact hg2, by omega⟩)⟩)) | exact xm4 hc hc2 (by omega)))
                · skip
                  obtain ⟨g, hg1, hg2⟩ := pk_lOf (fun z => b118 ((lg_cmp_lt _ _).mpr z))
                  rw [hg2]
                  refine j_lload d_Mo_many_121 0 rfl ?_
                  refine j_lload_n d_Mo_many_123 rfl 2 rfl ?_
                  refine j_lcmp d_Mo_many_124 ?_
                  refine j_if_gt 141 d_Mo_many_125 (by decide) (fun b125 => ?_) (fun b125 => ?_)
                  · skip
                    have hgj : ¬ g ≤ j := fun z => Int64.not_lt.mpr ((pk_lLE hg1 hj1).mpr z) ((lg_cmp_gt _ _).mp b125)
                    refine j_iconst (v := nI 0) d_Mo_many_141 (by decide) ?_
                    exact j_zret hκ rfl (by first | exact Or.inl rfl | exact Or.inr rfl) (by omega) (by omega) d_Mo_many_142 (RQ.f JM1 fM1 (by omega) (by first | exact xm3 hc (LM_cntn (by omega) (Or.inr ⟨by omega, Or.inr (Or.inl (by rw [show dp - 1 - (j + 1) = dp - 2 - j by omega]; exact (lg_cmp_lt _ _).mp b118))⟩)) | exact xm3 hc (LM_cntn (by omega) (Or.inr ⟨by omega, Or.inr (Or.inr ⟨g, hg1, by rw [show dp - 1 - (j + 1) = dp - 2 - j by omega]; exact hg2, by omega⟩)⟩)) | exact xm4 hc hc2 (by omega)))
                  · skip
                    have hgj : g ≤ j := (pk_lLE hg1 hj1).mp (Int64.not_lt.mp (fun z => b125 ((lg_cmp_gt _ _).mpr z)))
                    have hc2 : am_cnt (LM A dp) (j + 1) j = some g := LM_cnt (by omega) (by rw [show dp - 1 - (j + 1) = dp - 2 - j by omega]; exact d101) (by rw [show dp - 1 - (j + 1) = dp - 2 - j by omega]; exact hg2) hgj (by omega)
                    refine j_iload d_Mo_many_128 1 rfl ?_
                    refine j_i2l d_Mo_many_130 ?_
                    refine j_eql (y := lN (dp - 2 - j)) (nI_l (by omega)) ?_
                    refine j_lload d_Mo_many_131 0 rfl ?_
                    refine j_lsub d_Mo_many_133 ?_
                    refine j_lconst (v := 1) d_Mo_many_134 (by decide) ?_
                    refine j_lsub d_Mo_many_135 ?_
                    refine j_lconst (v := 0) d_Mo_many_136 (by decide) ?_
                    refine j_lcmp d_Mo_many_137 ?_
                    refine j_if_ge 143 d_Mo_many_138 (by decide) (fun b138 => ?_) (fun b138 => ?_)
                    · skip
                      have hfit : g + 1 ≤ dp - 2 - j := (lm_d (by omega) (by omega)).mp b138
                      refine j_lload d_Mo_many_143 0 rfl ?_
                      refine j_lconst (v := 0) d_Mo_many_145 (by decide) ?_
                      refine j_lcmp d_Mo_many_146 ?_
                      refine j_if_ne 154 d_Mo_many_147 (by decide) (fun b147 => ?_) (fun b147 => ?_)
                      · skip
                        have hg0 : ¬ g = 0 := fun z => b147 ((lg_cmp_eq _ _).mpr (by rw [z]; rfl))
                        refine j_iconst (v := nI 0) d_Mo_many_154 (by decide) ?_
                        refine j_istore [(7, .int (nI 0)), (5, .long (lN g)), (4, .int (nI ((dp - 2) - j))), (2, .long (lN j)), (0, .ref (R 0)), (1, .int (tf vf))] d_Mo_many_155 (by decide) rfl ?_
                        refine j_aload_n d_Mo_many_157 rfl 4 rfl ?_
                        refine j_iload d_Mo_many_158 2 rfl ?_
                        refine j_lload d_Mo_many_160 1 rfl ?_
                        refine j_l2i d_Mo_many_162 ?_
                        refine j_eqi (y := nI g) (lN_i _) ?_
                        refine j_isub d_Mo_many_163 ?_
                        refine j_eqi (y := nI (((dp - 2) - j) - g)) (pk_sub (by omega)) ?_
                        refine j_iconst (v := nI 1) d_Mo_many_164 (by decide) ?_
                        refine j_isub d_Mo_many_165 ?_
                        refine j_eqi (y := nI ((((dp - 2) - j) - g) - 1)) (pk_sub (by omega)) ?_
                        refine j_put F_Mo hM1__R_0_ 11 (by decide) w_954 (Or.inl rfl) rfl rfl rfl (Nat.le_of_ble_eq_true rfl) d_Mo_many_166 ?_
                        show mp_J Γ m_Mo_many E κ (mp_up M1 (R 0) (mp_o 7 [.ref (R 1), .int (nI rows), .int thr, .ref (R 2), .ref (R 3), .ref (R 4), .ref (R 5), .ref (R 6), .ref (R 7), .ref (R 8), .ref (R 9), .int (nI ((((dp - 2) - j) - g) - 1)), .int (nI as_), .int (nI (ops + j)), .ref (R 10)])) [(7, .int (nI 0)), (5, .long (lN g)), (4, .int (nI ((dp - 2) - j))), (2, .long (lN j)), (0, .ref (R 0)), (1, .int (tf vf))] 169 [] 0 0
                        generalize eM2 : mp_up M1 (R 0) (mp_o 7 [.ref (R 1), .int (nI rows), .int thr, .ref (R 2), .ref (R 3), .ref (R 4), .ref (R 5), .ref (R 6), .ref (R 7), .ref (R 8), .ref (R 9), .int (nI ((((dp - 2) - j) - g) - 1)), .int (nI as_), .int (nI (ops + j)), .ref (R 10)]) = M2
                        have hM2__R_0_ : M2 (R 0) = some (mp_o 7 [.ref (R 1), .int (nI rows), .int thr, .ref (R 2), .ref (R 3), .ref (R 4), .ref (R 5), .ref (R 6), .ref (R 7), .ref (R 8), .ref (R 9), .int (nI ((((dp - 2) - j) - g) - 1)), .int (nI as_), .int (nI (ops + j)), .ref (R 10)]) := by rw [← eM2]; exact mp_s
                        have JM2 : RI E M2 R rows thr ((((dp - 2) - j) - g) - 1) as_ (ops + j) A := JM1.set hR eM2
                        have fM2 : RFr R M1 M2 := RFr.s0 eM2
                        refine j_iload_n d_Mo_many_169 rfl 5 rfl ?_
                        refine j_tif_eq 176 d_Mo_many_170 (by decide) (fun b170 => ?_) (fun b170 => ?_)
                        · skip
                          refine j_aload_n d_Mo_many_176 rfl 4 rfl ?_
                          refine j_iload d_Mo_many_177 0 rfl ?_
                          refine j_callV (As := [.int (nI 0)]) (rest := []) (r_pushTruth Γ.l E M2 R rows thr ((((dp - 2) - j) - g) - 1) as_ (ops + j) A false JM2 hR (by omega)) Y_Mo_pushTruth w_1072 w_1074 ws_42 hM2__R_0_ rfl rfl rfl (Nat.le_of_ble_eq_true rfl) (by omega) (by omega) (by omega) d_Mo_many_179 (fun v179 N179 p179 => ?_)
                          obtain ⟨rfl, I179, f179⟩ := p179
                          show mp_J Γ m_Mo_many E κ N179 [(7, .int (nI 0)), (5, .long (lN g)), (4, .int (nI ((dp - 2) - j))), (2, .long (lN j)), (0, .ref (R 0)), (1, .int (tf vf))] 182 [] 0 0
                          refine j_iconst (v := nI 1) d_Mo_many_182 (by decide) ?_
                          exact j_zret hκ rfl (by first | exact Or.inl rfl | exact Or.inr rfl) (by omega) (by omega) d_Mo_many_183 (RQ.t I179 ((fM1.trans fM2).trans f179) (by omega) (by have e9 := xm6 (as_ := as_) (k := ops) (b := b) hc (by omega) hc2 (by omega) (show dp + as_ ≤ 204 by omega); (first | rw [decide_eq_true hg0] at e9 | rw [decide_eq_false hg0] at e9); rw [b170]; exact e9))
                        · skip
                          refine j_iload d_Mo_many_173 0 rfl ?_
                          exact j_zret hκ rfl (by first | exact Or.inl rfl | exact Or.inr rfl) (by omega) (by omega) d_Mo_many_175 (RQ.f JM2 (fM1.trans fM2) (by omega) (by rw [b170, xm5 hc (by omega) hc2 (by omega), if_neg (by rw [decide_eq_false hg0]; decide)]))
                      · skip
                        have hg0 : g = 0 := (pk_lEQ (b := 0) hg1 (by omega)).mp ((lg_cmp_eq _ _).mp b147)
                        refine j_iconst (v := nI 1) d_Mo_many_150 (by decide) ?_
                        refine j_goto (tgt := 155) d_Mo_many_151 (by decide) ?_
                        refine j_istore [(7, .int (nI 1)), (5, .long (lN g)), (4, .int (nI ((dp - 2) - j))), (2, .long (lN j)), (0, .ref (R 0)), (1, .int (tf vf))] d_Mo_many_155 (by decide) rfl ?_
                        refine j_aload_n d_Mo_many_157 rfl 4 rfl ?_
                        refine j_iload d_Mo_many_158 2 rfl ?_
                        refine j_lload d_Mo_many_160 1 rfl ?_
                        refine j_l2i d_Mo_many_162 ?_
                        refine j_eqi (y := nI g) (lN_i _) ?_
                        refine j_isub d_Mo_many_163 ?_
                        refine j_eqi (y := nI (((dp - 2) - j) - g)) (pk_sub (by omega)) ?_
                        refine j_iconst (v := nI 1) d_Mo_many_164 (by decide) ?_
                        refine j_isub d_Mo_many_165 ?_
                        refine j_eqi (y := nI ((((dp - 2) - j) - g) - 1)) (pk_sub (by omega)) ?_
                        refine j_put F_Mo hM1__R_0_ 11 (by decide) w_954 (Or.inl rfl) rfl rfl rfl (Nat.le_of_ble_eq_true rfl) d_Mo_many_166 ?_
                        show mp_J Γ m_Mo_many E κ (mp_up M1 (R 0) (mp_o 7 [.ref (R 1), .int (nI rows), .int thr, .ref (R 2), .ref (R 3), .ref (R 4), .ref (R 5), .ref (R 6), .ref (R 7), .ref (R 8), .ref (R 9), .int (nI ((((dp - 2) - j) - g) - 1)), .int (nI as_), .int (nI (ops + j)), .ref (R 10)])) [(7, .int (nI 1)), (5, .long (lN g)), (4, .int (nI ((dp - 2) - j))), (2, .long (lN j)), (0, .ref (R 0)), (1, .int (tf vf))] 169 [] 0 0
                        generalize eM3 : mp_up M1 (R 0) (mp_o 7 [.ref (R 1), .int (nI rows), .int thr, .ref (R 2), .ref (R 3), .ref (R 4), .ref (R 5), .ref (R 6), .ref (R 7), .ref (R 8), .ref (R 9), .int (nI ((((dp - 2) - j) - g) - 1)), .int (nI as_), .int (nI (ops + j)), .ref (R 10)]) = M3
                        have hM3__R_0_ : M3 (R 0) = some (mp_o 7 [.ref (R 1), .int (nI rows), .int thr, .ref (R 2), .ref (R 3), .ref (R 4), .ref (R 5), .ref (R 6), .ref (R 7), .ref (R 8), .ref (R 9), .int (nI ((((dp - 2) - j) - g) - 1)), .int (nI as_), .int (nI (ops + j)), .ref (R 10)]) := by rw [← eM3]; exact mp_s
                        have JM3 : RI E M3 R rows thr ((((dp - 2) - j) - g) - 1) as_ (ops + j) A := JM1.set hR eM3
                        have fM3 : RFr R M1 M3 := RFr.s0 eM3
                        refine j_iload_n d_Mo_many_169 rfl 5 rfl ?_
                        refine j_tif_eq 176 d_Mo_many_170 (by decide) (fun b170 => ?_) (fun b170 => ?_)
                        · skip
                          refine j_aload_n d_Mo_many_176 rfl 4 rfl ?_
                          refine j_iload d_Mo_many_177 0 rfl ?_
                          refine j_callV (As := [.int (nI 1)]) (rest := []) (r_pushTruth Γ.l E M3 R rows thr ((((dp - 2) - j) - g) - 1) as_ (ops + j) A true JM3 hR (by omega)) Y_Mo_pushTruth w_1072 w_1074 ws_42 hM3__R_0_ rfl rfl rfl (Nat.le_of_ble_eq_true rfl) (by omega) (by omega) (by omega) d_Mo_many_179 (fun v179 N179 p179 => ?_)
                          obtain ⟨rfl, I179, f179⟩ := p179
                          show mp_J Γ m_Mo_many E κ N179 [(7, .int (nI 1)), (5, .long (lN g)), (4, .int (nI ((dp - 2) - j))), (2, .long (lN j)), (0, .ref (R 0)), (1, .int (tf vf))] 182 [] 0 0
                          refine j_iconst (v := nI 1) d_Mo_many_182 (by decide) ?_
                          exact j_zret hκ rfl (by first | exact Or.inl rfl | exact Or.inr rfl) (by omega) (by omega) d_Mo_many_183 (RQ.t I179 ((fM1.trans fM3).trans f179) (by omega) (by have e9 := xm6 (as_ := as_) (k := ops) (b := b) hc (by omega) hc2 (by omega) (show dp + as_ ≤ 204 by omega); (first | rw [decide_eq_true hg0] at e9 | rw [decide_eq_false hg0] at e9); rw [b170]; exact e9))
                        · skip
                          refine j_iload d_Mo_many_173 0 rfl ?_
                          exact j_zret hκ rfl (by first | exact Or.inl rfl | exact Or.inr rfl) (by omega) (by omega) d_Mo_many_175 (RQ.t JM3 (fM1.trans fM3) (by omega) (by rw [b170, xm5 hc (by omega) hc2 (by omega), if_pos (decide_eq_true hg0)]))
                    · skip
                      have hfit : ¬ g + 1 ≤ dp - 2 - j := fun z => b138 ((lm_d (by omega) (by omega)).mpr z)
                      refine j_iconst (v := nI 0) d_Mo_many_141 (by decide) ?_
                      exact j_zret hκ rfl (by first | exact Or.inl rfl | exact Or.inr rfl) (by omega) (by omega) d_Mo_many_142 (RQ.f JM1 fM1 (by omega) (by first | exact xm3 hc (LM_cntn (by omega) (Or.inr ⟨by omega, Or.inr (Or.inl (by rw [show dp - 1 - (j + 1) = dp - 2 - j by omega]; exact (lg_cmp_lt _ _).mp b118))⟩)) | exact xm3 hc (LM_cntn (by omega) (Or.inr ⟨by omega, Or.inr (Or.inr ⟨g, hg1, by rw [show dp - 1 - (j + 1) = dp - 2 - j by omega]; exact hg2, by omega⟩)⟩)) | exact xm4 hc hc2 (by omega)))
              · skip
                have d101 := of_decide_eq_false b101
                refine j_iconst (v := nI 0) d_Mo_many_104 (by decide) ?_
                exact j_zret hκ rfl (by first | exact Or.inl rfl | exact Or.inr rfl) (by omega) (by omega) d_Mo_many_105 (RQ.f JM1 fM1 (by omega) (xm3 hc (LM_cntn (by omega) (Or.inr ⟨by omega, Or.inl (by rw [show dp - 1 - (j + 1) = dp - 2 - j by omega]; exact d101)⟩))))
            · skip
              have d79 := of_decide_eq_false b79
              refine j_iconst (v := nI 0) d_Mo_many_82 (by decide) ?_
              exact j_zret hκ rfl (by first | exact Or.inl rfl | exact Or.inr rfl) (by omega) (by omega) d_Mo_many_83 (RQ.f JM1 fM1 (by omega) (by first | exact xm2 hc (by omega) | exact xm3 hc (LM_cntn (by omega) (Or.inl (by omega)))))
        · skip
          have hj20 : ¬ j ≤ 20 := fun z => b45 ((lg_cmp_le (lN j) (lN 20)).mpr ((pk_lLE hj1 (by omega)).mpr z))
          refine j_iconst (v := nI 0) d_Mo_many_48 (by decide) ?_
          exact j_zret hκ rfl (by first | exact Or.inl rfl | exact Or.inr rfl) (by omega) (by omega) d_Mo_many_49 (RQ.f hI RFr.refl (by omega) (by first | exact xm1 (LM_cntn (by decide) (Or.inr ⟨by omega, Or.inr (Or.inl ((lg_cmp_lt _ _).mp b37))⟩)) | exact xm1 (LM_cntn (by decide) (Or.inr ⟨by omega, Or.inr (Or.inr ⟨j, hj1, hj2, by omega⟩)⟩))))
    · skip
      have d18 := of_decide_eq_false b18
      refine j_iconst (v := nI 0) d_Mo_many_21 (by decide) ?_
      exact j_zret hκ rfl (by first | exact Or.inl rfl | exact Or.inr rfl) (by omega) (by omega) d_Mo_many_22 (RQ.f hI RFr.refl (by omega) (by first | exact xm1 (LM_cntn (by decide) (Or.inl (by omega))) | exact xm1 (LM_cntn (by decide) (Or.inr ⟨by omega, Or.inl d18⟩))))
