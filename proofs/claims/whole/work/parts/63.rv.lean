theorem x174 {m o : List am_T} {b : List Bool} {k : Nat} : am_op 174 m o b k = a_many false m o b k := by
  unfold am_op
  rw [if_neg (by decide), if_neg (by decide), if_neg (by decide), if_neg (by decide), if_neg (by decide), if_neg (by decide), if_neg (by decide), if_neg (by decide)]
  unfold a_sig
  rw [if_neg (by decide), if_pos rfl]
theorem x175 {m o : List am_T} {b : List Bool} {k : Nat} : am_op 175 m o b k = a_many true m o b k := by
  unfold am_op
  rw [if_neg (by decide), if_neg (by decide), if_neg (by decide), if_neg (by decide), if_neg (by decide), if_neg (by decide), if_neg (by decide), if_neg (by decide)]
  unfold a_sig
  rw [if_neg (by decide), if_neg (by decide), if_pos rfl]
set_option maxHeartbeats 4000000 in
set_option maxRecDepth 100000 in
theorem c_Mo_dn_77 (l : Launch) (E : mp_E) (M : mp_M) (R : Nat → Nat) (rows : Nat) (thr : Int32) (dp as_ ops : Nat) (A : Nat → am_T) (b : List Bool) (hI : RI E M R rows thr dp as_ ops A) (hR : RL R) (hd : dp + as_ ≤ 200) (hk : ops ≤ 1000) : mp_Cr l m_Mo_isDone E M 4 0 0 [.ref (R 0), .int (nI 77)] (RQ E R M rows thr b (am_op 77 (LM A dp) (LO A as_) b ops)) := by
  refine mp_Cr.of (by decide) (Nat.le_of_ble_eq_true rfl) fun Γ κ hl hκ => ?_
  subst hl
  obtain ⟨hκd, hκc, hκs, -⟩ := id hκ
  show mp_J Γ m_Mo_isDone E κ M [(0, .ref (R 0)), (1, .int (nI 77))] 0 [] 0 0
  refine j_iload_n d_Mo_isDone_0 rfl 1 rfl ?_
  refine j_bipush (v := nI 79) d_Mo_isDone_1 (by decide) ?_
  refine j_ncmp_eq 18 77 79 rfl rfl (by omega) (by omega) d_Mo_isDone_3 (by decide) (fun b3 => (by first | exact b3.elim | exact absurd b3 (by omega))) (fun b3 => ?_)
  refine j_iload_n d_Mo_isDone_6 rfl 1 rfl ?_
  refine j_bipush (v := nI 81) d_Mo_isDone_7 (by decide) ?_
  refine j_ncmp_lt 29 77 81 rfl rfl (by omega) (by omega) d_Mo_isDone_9 (by decide) (fun b9 => ?_) (fun b9 => (by first | exact b9.elim | exact absurd b9 (by omega)))
  refine j_iload_n d_Mo_isDone_29 rfl 1 rfl ?_
  refine j_sipush (v := nI 139) d_Mo_isDone_30 (by decide) ?_
  refine j_ncmp_lt 49 77 139 rfl rfl (by omega) (by omega) d_Mo_isDone_33 (by decide) (fun b33 => ?_) (fun b33 => (by first | exact b33.elim | exact absurd b33 (by omega)))
  refine j_iload_n d_Mo_isDone_49 rfl 1 rfl ?_
  refine j_tableOut 992 d_Mo_isDone_50 (by decide) (by decide) ?_
  refine j_iconst (v := nI 0) d_Mo_isDone_992 (by decide) ?_
  exact j_zret hκ rfl (by first | exact Or.inl rfl | exact Or.inr rfl) (by omega) (by omega) d_Mo_isDone_993 (RQ.f hI RFr.refl (by omega) (xn96 (by decide)))

set_option maxHeartbeats 4000000 in
set_option maxRecDepth 100000 in
theorem c_Mo_dn_78 (l : Launch) (E : mp_E) (M : mp_M) (R : Nat → Nat) (rows : Nat) (thr : Int32) (dp as_ ops : Nat) (A : Nat → am_T) (b : List Bool) (hI : RI E M R rows thr dp as_ ops A) (hR : RL R) (hd : dp + as_ ≤ 200) (hk : ops ≤ 1000) : mp_Cr l m_Mo_isDone E M 4 0 0 [.ref (R 0), .int (nI 78)] (RQ E R M rows thr b (am_op 78 (LM A dp) (LO A as_) b ops)) := by
  refine mp_Cr.of (by decide) (Nat.le_of_ble_eq_true rfl) fun Γ κ hl hκ => ?_
  subst hl
  obtain ⟨hκd, hκc, hκs, -⟩ := id hκ
  show mp_J Γ m_Mo_isDone E κ M [(0, .ref (R 0)), (1, .int (nI 78))] 0 [] 0 0
  refine j_iload_n d_Mo_isDone_0 rfl 1 rfl ?_
  refine j_bipush (v := nI 79) d_Mo_isDone_1 (by decide) ?_
  refine j_ncmp_eq 18 78 79 rfl rfl (by omega) (by omega) d_Mo_isDone_3 (by decide) (fun b3 => (by first | exact b3.elim | exact absurd b3 (by omega))) (fun b3 => ?_)
  refine j_iload_n d_Mo_isDone_6 rfl 1 rfl ?_
  refine j_bipush (v := nI 81) d_Mo_isDone_7 (by decide) ?_
  refine j_ncmp_lt 29 78 81 rfl rfl (by omega) (by omega) d_Mo_isDone_9 (by decide) (fun b9 => ?_) (fun b9 => (by first | exact b9.elim | exact absurd b9 (by omega)))
  refine j_iload_n d_Mo_isDone_29 rfl 1 rfl ?_
  refine j_sipush (v := nI 139) d_Mo_isDone_30 (by decide) ?_
  refine j_ncmp_lt 49 78 139 rfl rfl (by omega) (by omega) d_Mo_isDone_33 (by decide) (fun b33 => ?_) (fun b33 => (by first | exact b33.elim | exact absurd b33 (by omega)))
  refine j_iload_n d_Mo_isDone_49 rfl 1 rfl ?_
  refine j_tableOut 992 d_Mo_isDone_50 (by decide) (by decide) ?_
  refine j_iconst (v := nI 0) d_Mo_isDone_992 (by decide) ?_
  exact j_zret hκ rfl (by first | exact Or.inl rfl | exact Or.inr rfl) (by omega) (by omega) d_Mo_isDone_993 (RQ.f hI RFr.refl (by omega) (xn96 (by decide)))

set_option maxHeartbeats 4000000 in
set_option maxRecDepth 100000 in
theorem c_Mo_dn_79 (l : Launch) (E : mp_E) (M : mp_M) (R : Nat → Nat) (rows : Nat) (thr : Int32) (dp as_ ops : Nat) (A : Nat → am_T) (b : List Bool) (hI : RI E M R rows thr dp as_ ops A) (hR : RL R) (hd : dp + as_ ≤ 200) (hk : ops ≤ 1000) : mp_Cr l m_Mo_isDone E M 4 0 0 [.ref (R 0), .int (nI 79)] (RQ E R M rows thr b (am_op 79 (LM A dp) (LO A as_) b ops)) := by
  refine mp_Cr.of (by decide) (Nat.le_of_ble_eq_true rfl) fun Γ κ hl hκ => ?_
  subst hl
  obtain ⟨hκd, hκc, hκs, -⟩ := id hκ
  show mp_J Γ m_Mo_isDone E κ M [(0, .ref (R 0)), (1, .int (nI 79))] 0 [] 0 0
  refine j_iload_n d_Mo_isDone_0 rfl 1 rfl ?_
  refine j_bipush (v := nI 79) d_Mo_isDone_1 (by decide) ?_
  refine j_ncmp_eq 18 79 79 rfl rfl (by omega) (by omega) d_Mo_isDone_3 (by decide) (fun b3 => ?_) (fun b3 => (by first | exact b3.elim | exact absurd b3 (by omega)))
  refine j_aload_n d_Mo_isDone_18 rfl 0 rfl ?_
  refine j_iload_n d_Mo_isDone_19 rfl 1 rfl ?_
  refine j_bipush (v := nI 80) d_Mo_isDone_20 (by decide) ?_
  refine j_isub d_Mo_isDone_22 ?_
  refine j_eqi (y := (-1)) (by decide) ?_
  refine j_i2l d_Mo_isDone_23 ?_
  refine j_eql (y := (-1)) (by decide) ?_
  refine j_callV (As := [.long (-1)]) (rest := []) (r_pushNumber Γ.l hI hR (-1) (am_mag_lt (by decide)) (by omega)) Y_Mo_pushNumber w_1031 w_1033 ws_33 hI.1 rfl rfl rfl (Nat.le_of_ble_eq_true rfl) (by omega) (by omega) (by omega) d_Mo_isDone_24 (fun v24 N24 p24 => ?_)
  obtain ⟨rfl, I24, f24⟩ := p24
  show mp_J Γ m_Mo_isDone E κ N24 [(0, .ref (R 0)), (1, .int (nI 79))] 27 [] 0 0
  refine j_iconst (v := nI 1) d_Mo_isDone_27 (by decide) ?_
  exact j_zret hκ rfl (by first | exact Or.inl rfl | exact Or.inr rfl) (by omega) (by omega) d_Mo_isDone_28 (RQ.t I24 f24 (by omega) (x79 (by omega)))

set_option maxHeartbeats 4000000 in
set_option maxRecDepth 100000 in
theorem c_Mo_dn_80 (l : Launch) (E : mp_E) (M : mp_M) (R : Nat → Nat) (rows : Nat) (thr : Int32) (dp as_ ops : Nat) (A : Nat → am_T) (b : List Bool) (hI : RI E M R rows thr dp as_ ops A) (hR : RL R) (hd : dp + as_ ≤ 200) (hk : ops ≤ 1000) : mp_Cr l m_Mo_isDone E M 4 0 0 [.ref (R 0), .int (nI 80)] (RQ E R M rows thr b (am_op 80 (LM A dp) (LO A as_) b ops)) := by
  refine mp_Cr.of (by decide) (Nat.le_of_ble_eq_true rfl) fun Γ κ hl hκ => ?_
  subst hl
  obtain ⟨hκd, hκc, hκs, -⟩ := id hκ
  show mp_J Γ m_Mo_isDone E κ M [(0, .ref (R 0)), (1, .int (nI 80))] 0 [] 0 0
  refine j_iload_n d_Mo_isDone_0 rfl 1 rfl ?_
  refine j_bipush (v := nI 79) d_Mo_isDone_1 (by decide) ?_
  refine j_ncmp_eq 18 80 79 rfl rfl (by omega) (by omega) d_Mo_isDone_3 (by decide) (fun b3 => (by first | exact b3.elim | exact absurd b3 (by omega))) (fun b3 => ?_)
  refine j_iload_n d_Mo_isDone_6 rfl 1 rfl ?_
  refine j_bipush (v := nI 81) d_Mo_isDone_7 (by decide) ?_
  refine j_ncmp_lt 29 80 81 rfl rfl (by omega) (by omega) d_Mo_isDone_9 (by decide) (fun b9 => ?_) (fun b9 => (by first | exact b9.elim | exact absurd b9 (by omega)))
  refine j_iload_n d_Mo_isDone_29 rfl 1 rfl ?_
  refine j_sipush (v := nI 139) d_Mo_isDone_30 (by decide) ?_
  refine j_ncmp_lt 49 80 139 rfl rfl (by omega) (by omega) d_Mo_isDone_33 (by decide) (fun b33 => ?_) (fun b33 => (by first | exact b33.elim | exact absurd b33 (by omega)))
  refine j_iload_n d_Mo_isDone_49 rfl 1 rfl ?_
  refine j_tableOut 992 d_Mo_isDone_50 (by decide) (by decide) ?_
  refine j_iconst (v := nI 0) d_Mo_isDone_992 (by decide) ?_
  exact j_zret hκ rfl (by first | exact Or.inl rfl | exact Or.inr rfl) (by omega) (by omega) d_Mo_isDone_993 (RQ.f hI RFr.refl (by omega) (xn96 (by decide)))

set_option maxHeartbeats 4000000 in
set_option maxRecDepth 100000 in
theorem c_Mo_dn_97 (l : Launch) (E : mp_E) (M : mp_M) (R : Nat → Nat) (rows : Nat) (thr : Int32) (dp as_ ops : Nat) (A : Nat → am_T) (b : List Bool) (hI : RI E M R rows thr dp as_ ops A) (hR : RL R) (hd : dp + as_ ≤ 200) (hk : ops ≤ 1000) : mp_Cr l m_Mo_isDone E M 4 0 0 [.ref (R 0), .int (nI 97)] (RQ E R M rows thr b (am_op 97 (LM A dp) (LO A as_) b ops)) := by
  refine mp_Cr.of (by decide) (Nat.le_of_ble_eq_true rfl) fun Γ κ hl hκ => ?_
  subst hl
  obtain ⟨hκd, hκc, hκs, -⟩ := id hκ
  show mp_J Γ m_Mo_isDone E κ M [(0, .ref (R 0)), (1, .int (nI 97))] 0 [] 0 0
  refine j_iload_n d_Mo_isDone_0 rfl 1 rfl ?_
  refine j_bipush (v := nI 79) d_Mo_isDone_1 (by decide) ?_
  refine j_ncmp_eq 18 97 79 rfl rfl (by omega) (by omega) d_Mo_isDone_3 (by decide) (fun b3 => (by first | exact b3.elim | exact absurd b3 (by omega))) (fun b3 => ?_)
  refine j_iload_n d_Mo_isDone_6 rfl 1 rfl ?_
  refine j_bipush (v := nI 81) d_Mo_isDone_7 (by decide) ?_
  refine j_ncmp_lt 29 97 81 rfl rfl (by omega) (by omega) d_Mo_isDone_9 (by decide) (fun b9 => (by first | exact b9.elim | exact absurd b9 (by omega))) (fun b9 => ?_)
  refine j_iload_n d_Mo_isDone_12 rfl 1 rfl ?_
  refine j_bipush (v := nI 96) d_Mo_isDone_13 (by decide) ?_
  refine j_ncmp_gt 29 97 96 rfl rfl (by omega) (by omega) d_Mo_isDone_15 (by decide) (fun b15 => ?_) (fun b15 => (by first | exact b15.elim | exact absurd b15 (by omega)))
  refine j_iload_n d_Mo_isDone_29 rfl 1 rfl ?_
  refine j_sipush (v := nI 139) d_Mo_isDone_30 (by decide) ?_
  refine j_ncmp_lt 49 97 139 rfl rfl (by omega) (by omega) d_Mo_isDone_33 (by decide) (fun b33 => ?_) (fun b33 => (by first | exact b33.elim | exact absurd b33 (by omega)))
  refine j_iload_n d_Mo_isDone_49 rfl 1 rfl ?_
  refine j_tableIn 380 d_Mo_isDone_50 (by decide) (by decide) rfl (by decide) ?_
  refine j_iconst (v := nI 1) d_Mo_isDone_380 (by decide) ?_
  exact j_zret hκ rfl (by first | exact Or.inl rfl | exact Or.inr rfl) (by omega) (by omega) d_Mo_isDone_381 (RQ.t hI RFr.refl (by omega) x97)

set_option maxHeartbeats 4000000 in
set_option maxRecDepth 100000 in
theorem c_Mo_dn_98 (l : Launch) (E : mp_E) (M : mp_M) (R : Nat → Nat) (rows : Nat) (thr : Int32) (dp as_ ops : Nat) (A : Nat → am_T) (b : List Bool) (hI : RI E M R rows thr dp as_ ops A) (hR : RL R) (hd : dp + as_ ≤ 200) (hk : ops ≤ 1000) : mp_Cr l m_Mo_isDone E M 4 0 0 [.ref (R 0), .int (nI 98)] (RQ E R M rows thr b (am_op 98 (LM A dp) (LO A as_) b ops)) := by
  refine mp_Cr.of (by decide) (Nat.le_of_ble_eq_true rfl) fun Γ κ hl hκ => ?_
  subst hl
  obtain ⟨hκd, hκc, hκs, -⟩ := id hκ
  show mp_J Γ m_Mo_isDone E κ M [(0, .ref (R 0)), (1, .int (nI 98))] 0 [] 0 0
  refine j_iload_n d_Mo_isDone_0 rfl 1 rfl ?_
  refine j_bipush (v := nI 79) d_Mo_isDone_1 (by decide) ?_
  refine j_ncmp_eq 18 98 79 rfl rfl (by omega) (by omega) d_Mo_isDone_3 (by decide) (fun b3 => (by first | exact b3.elim | exact absurd b3 (by omega))) (fun b3 => ?_)
  refine j_iload_n d_Mo_isDone_6 rfl 1 rfl ?_
  refine j_bipush (v := nI 81) d_Mo_isDone_7 (by decide) ?_
  refine j_ncmp_lt 29 98 81 rfl rfl (by omega) (by omega) d_Mo_isDone_9 (by decide) (fun b9 => (by first | exact b9.elim | exact absurd b9 (by omega))) (fun b9 => ?_)
  refine j_iload_n d_Mo_isDone_12 rfl 1 rfl ?_
  refine j_bipush (v := nI 96) d_Mo_isDone_13 (by decide) ?_
  refine j_ncmp_gt 29 98 96 rfl rfl (by omega) (by omega) d_Mo_isDone_15 (by decide) (fun b15 => ?_) (fun b15 => (by first | exact b15.elim | exact absurd b15 (by omega)))
  refine j_iload_n d_Mo_isDone_29 rfl 1 rfl ?_
  refine j_sipush (v := nI 139) d_Mo_isDone_30 (by decide) ?_
  refine j_ncmp_lt 49 98 139 rfl rfl (by omega) (by omega) d_Mo_isDone_33 (by decide) (fun b33 => ?_) (fun b33 => (by first | exact b33.elim | exact absurd b33 (by omega)))
  refine j_iload_n d_Mo_isDone_49 rfl 1 rfl ?_
  refine j_tableIn 992 d_Mo_isDone_50 (by decide) (by decide) rfl (by decide) ?_
  refine j_iconst (v := nI 0) d_Mo_isDone_992 (by decide) ?_
  exact j_zret hκ rfl (by first | exact Or.inl rfl | exact Or.inr rfl) (by omega) (by omega) d_Mo_isDone_993 (RQ.f hI RFr.refl (by omega) (xn (by omega)))

set_option maxHeartbeats 4000000 in
set_option maxRecDepth 100000 in
theorem c_Mo_dn_99 (l : Launch) (E : mp_E) (M : mp_M) (R : Nat → Nat) (rows : Nat) (thr : Int32) (dp as_ ops : Nat) (A : Nat → am_T) (b : List Bool) (hI : RI E M R rows thr dp as_ ops A) (hR : RL R) (hd : dp + as_ ≤ 200) (hk : ops ≤ 1000) : mp_Cr l m_Mo_isDone E M 4 0 0 [.ref (R 0), .int (nI 99)] (RQ E R M rows thr b (am_op 99 (LM A dp) (LO A as_) b ops)) := by
  refine mp_Cr.of (by decide) (Nat.le_of_ble_eq_true rfl) fun Γ κ hl hκ => ?_
  subst hl
  obtain ⟨hκd, hκc, hκs, -⟩ := id hκ
  show mp_J Γ m_Mo_isDone E κ M [(0, .ref (R 0)), (1, .int (nI 99))] 0 [] 0 0
  refine j_iload_n d_Mo_isDone_0 rfl 1 rfl ?_
  refine j_bipush (v := nI 79) d_Mo_isDone_1 (by decide) ?_
  refine j_ncmp_eq 18 99 79 rfl rfl (by omega) (by omega) d_Mo_isDone_3 (by decide) (fun b3 => (by first | exact b3.elim | exact absurd b3 (by omega))) (fun b3 => ?_)
  refine j_iload_n d_Mo_isDone_6 rfl 1 rfl ?_
  refine j_bipush (v := nI 81) d_Mo_isDone_7 (by decide) ?_
  refine j_ncmp_lt 29 99 81 rfl rfl (by omega) (by omega) d_Mo_isDone_9 (by decide) (fun b9 => (by first | exact b9.elim | exact absurd b9 (by omega))) (fun b9 => ?_)
  refine j_iload_n d_Mo_isDone_12 rfl 1 rfl ?_
  refine j_bipush (v := nI 96) d_Mo_isDone_13 (by decide) ?_
  refine j_ncmp_gt 29 99 96 rfl rfl (by omega) (by omega) d_Mo_isDone_15 (by decide) (fun b15 => ?_) (fun b15 => (by first | exact b15.elim | exact absurd b15 (by omega)))
  refine j_iload_n d_Mo_isDone_29 rfl 1 rfl ?_
  refine j_sipush (v := nI 139) d_Mo_isDone_30 (by decide) ?_
  refine j_ncmp_lt 49 99 139 rfl rfl (by omega) (by omega) d_Mo_isDone_33 (by decide) (fun b33 => ?_) (fun b33 => (by first | exact b33.elim | exact absurd b33 (by omega)))
  refine j_iload_n d_Mo_isDone_49 rfl 1 rfl ?_
  refine j_tableIn 992 d_Mo_isDone_50 (by decide) (by decide) rfl (by decide) ?_
  refine j_iconst (v := nI 0) d_Mo_isDone_992 (by decide) ?_
  exact j_zret hκ rfl (by first | exact Or.inl rfl | exact Or.inr rfl) (by omega) (by omega) d_Mo_isDone_993 (RQ.f hI RFr.refl (by omega) (xn (by omega)))

set_option maxHeartbeats 4000000 in
set_option maxRecDepth 100000 in
theorem c_Mo_dn_100 (l : Launch) (E : mp_E) (M : mp_M) (R : Nat → Nat) (rows : Nat) (thr : Int32) (dp as_ ops : Nat) (A : Nat → am_T) (b : List Bool) (hI : RI E M R rows thr dp as_ ops A) (hR : RL R) (hd : dp + as_ ≤ 200) (hk : ops ≤ 1000) : mp_Cr l m_Mo_isDone E M 4 0 0 [.ref (R 0), .int (nI 100)] (RQ E R M rows thr b (am_op 100 (LM A dp) (LO A as_) b ops)) := by
  refine mp_Cr.of (by decide) (Nat.le_of_ble_eq_true rfl) fun Γ κ hl hκ => ?_
  subst hl
  obtain ⟨hκd, hκc, hκs, -⟩ := id hκ
  show mp_J Γ m_Mo_isDone E κ M [(0, .ref (R 0)), (1, .int (nI 100))] 0 [] 0 0
  refine j_iload_n d_Mo_isDone_0 rfl 1 rfl ?_
  refine j_bipush (v := nI 79) d_Mo_isDone_1 (by decide) ?_
  refine j_ncmp_eq 18 100 79 rfl rfl (by omega) (by omega) d_Mo_isDone_3 (by decide) (fun b3 => (by first | exact b3.elim | exact absurd b3 (by omega))) (fun b3 => ?_)
  refine j_iload_n d_Mo_isDone_6 rfl 1 rfl ?_
  refine j_bipush (v := nI 81) d_Mo_isDone_7 (by decide) ?_
  refine j_ncmp_lt 29 100 81 rfl rfl (by omega) (by omega) d_Mo_isDone_9 (by decide) (fun b9 => (by first | exact b9.elim | exact absurd b9 (by omega))) (fun b9 => ?_)
  refine j_iload_n d_Mo_isDone_12 rfl 1 rfl ?_
  refine j_bipush (v := nI 96) d_Mo_isDone_13 (by decide) ?_
  refine j_ncmp_gt 29 100 96 rfl rfl (by omega) (by omega) d_Mo_isDone_15 (by decide) (fun b15 => ?_) (fun b15 => (by first | exact b15.elim | exact absurd b15 (by omega)))
  refine j_iload_n d_Mo_isDone_29 rfl 1 rfl ?_
  refine j_sipush (v := nI 139) d_Mo_isDone_30 (by decide) ?_
  refine j_ncmp_lt 49 100 139 rfl rfl (by omega) (by omega) d_Mo_isDone_33 (by decide) (fun b33 => ?_) (fun b33 => (by first | exact b33.elim | exact absurd b33 (by omega)))
  refine j_iload_n d_Mo_isDone_49 rfl 1 rfl ?_
  refine j_tableIn 992 d_Mo_isDone_50 (by decide) (by decide) rfl (by decide) ?_
  refine j_iconst (v := nI 0) d_Mo_isDone_992 (by decide) ?_
  exact j_zret hκ rfl (by first | exact Or.inl rfl | exact Or.inr rfl) (by omega) (by omega) d_Mo_isDone_993 (RQ.f hI RFr.refl (by omega) (xn (by omega)))

set_option maxHeartbeats 4000000 in
set_option maxRecDepth 100000 in
theorem c_Mo_dn_101 (l : Launch) (E : mp_E) (M : mp_M) (R : Nat → Nat) (rows : Nat) (thr : Int32) (dp as_ ops : Nat) (A : Nat → am_T) (b : List Bool) (hI : RI E M R rows thr dp as_ ops A) (hR : RL R) (hd : dp + as_ ≤ 200) (hk : ops ≤ 1000) : mp_Cr l m_Mo_isDone E M 4 0 0 [.ref (R 0), .int (nI 101)] (RQ E R M rows thr b (am_op 101 (LM A dp) (LO A as_) b ops)) := by
  refine mp_Cr.of (by decide) (Nat.le_of_ble_eq_true rfl) fun Γ κ hl hκ => ?_
  subst hl
  obtain ⟨hκd, hκc, hκs, -⟩ := id hκ
  show mp_J Γ m_Mo_isDone E κ M [(0, .ref (R 0)), (1, .int (nI 101))] 0 [] 0 0
  refine j_iload_n d_Mo_isDone_0 rfl 1 rfl ?_
  refine j_bipush (v := nI 79) d_Mo_isDone_1 (by decide) ?_
  refine j_ncmp_eq 18 101 79 rfl rfl (by omega) (by omega) d_Mo_isDone_3 (by decide) (fun b3 => (by first | exact b3.elim | exact absurd b3 (by omega))) (fun b3 => ?_)
  refine j_iload_n d_Mo_isDone_6 rfl 1 rfl ?_
  refine j_bipush (v := nI 81) d_Mo_isDone_7 (by decide) ?_
  refine j_ncmp_lt 29 101 81 rfl rfl (by omega) (by omega) d_Mo_isDone_9 (by decide) (fun b9 => (by first | exact b9.elim | exact absurd b9 (by omega))) (fun b9 => ?_)
  refine j_iload_n d_Mo_isDone_12 rfl 1 rfl ?_
  refine j_bipush (v := nI 96) d_Mo_isDone_13 (by decide) ?_
  refine j_ncmp_gt 29 101 96 rfl rfl (by omega) (by omega) d_Mo_isDone_15 (by decide) (fun b15 => ?_) (fun b15 => (by first | exact b15.elim | exact absurd b15 (by omega)))
  refine j_iload_n d_Mo_isDone_29 rfl 1 rfl ?_
  refine j_sipush (v := nI 139) d_Mo_isDone_30 (by decide) ?_
  refine j_ncmp_lt 49 101 139 rfl rfl (by omega) (by omega) d_Mo_isDone_33 (by decide) (fun b33 => ?_) (fun b33 => (by first | exact b33.elim | exact absurd b33 (by omega)))
  refine j_iload_n d_Mo_isDone_49 rfl 1 rfl ?_
  refine j_tableIn 992 d_Mo_isDone_50 (by decide) (by decide) rfl (by decide) ?_
  refine j_iconst (v := nI 0) d_Mo_isDone_992 (by decide) ?_
  exact j_zret hκ rfl (by first | exact Or.inl rfl | exact Or.inr rfl) (by omega) (by omega) d_Mo_isDone_993 (RQ.f hI RFr.refl (by omega) (xn (by omega)))

set_option maxHeartbeats 4000000 in
set_option maxRecDepth 100000 in
theorem c_Mo_dn_102 (l : Launch) (E : mp_E) (M : mp_M) (R : Nat → Nat) (rows : Nat) (thr : Int32) (dp as_ ops : Nat) (A : Nat → am_T) (b : List Bool) (hI : RI E M R rows thr dp as_ ops A) (hR : RL R) (hd : dp + as_ ≤ 200) (hk : ops ≤ 1000) : mp_Cr l m_Mo_isDone E M 4 0 0 [.ref (R 0), .int (nI 102)] (RQ E R M rows thr b (am_op 102 (LM A dp) (LO A as_) b ops)) := by
  refine mp_Cr.of (by decide) (Nat.le_of_ble_eq_true rfl) fun Γ κ hl hκ => ?_
  subst hl
  obtain ⟨hκd, hκc, hκs, -⟩ := id hκ
  show mp_J Γ m_Mo_isDone E κ M [(0, .ref (R 0)), (1, .int (nI 102))] 0 [] 0 0
  refine j_iload_n d_Mo_isDone_0 rfl 1 rfl ?_
  refine j_bipush (v := nI 79) d_Mo_isDone_1 (by decide) ?_
  refine j_ncmp_eq 18 102 79 rfl rfl (by omega) (by omega) d_Mo_isDone_3 (by decide) (fun b3 => (by first | exact b3.elim | exact absurd b3 (by omega))) (fun b3 => ?_)
  refine j_iload_n d_Mo_isDone_6 rfl 1 rfl ?_
  refine j_bipush (v := nI 81) d_Mo_isDone_7 (by decide) ?_
  refine j_ncmp_lt 29 102 81 rfl rfl (by omega) (by omega) d_Mo_isDone_9 (by decide) (fun b9 => (by first | exact b9.elim | exact absurd b9 (by omega))) (fun b9 => ?_)
  refine j_iload_n d_Mo_isDone_12 rfl 1 rfl ?_
  refine j_bipush (v := nI 96) d_Mo_isDone_13 (by decide) ?_
  refine j_ncmp_gt 29 102 96 rfl rfl (by omega) (by omega) d_Mo_isDone_15 (by decide) (fun b15 => ?_) (fun b15 => (by first | exact b15.elim | exact absurd b15 (by omega)))
  refine j_iload_n d_Mo_isDone_29 rfl 1 rfl ?_
  refine j_sipush (v := nI 139) d_Mo_isDone_30 (by decide) ?_
  refine j_ncmp_lt 49 102 139 rfl rfl (by omega) (by omega) d_Mo_isDone_33 (by decide) (fun b33 => ?_) (fun b33 => (by first | exact b33.elim | exact absurd b33 (by omega)))
  refine j_iload_n d_Mo_isDone_49 rfl 1 rfl ?_
  refine j_tableIn 992 d_Mo_isDone_50 (by decide) (by decide) rfl (by decide) ?_
  refine j_iconst (v := nI 0) d_Mo_isDone_992 (by decide) ?_
  exact j_zret hκ rfl (by first | exact Or.inl rfl | exact Or.inr rfl) (by omega) (by omega) d_Mo_isDone_993 (RQ.f hI RFr.refl (by omega) (xn (by omega)))

set_option maxHeartbeats 4000000 in
set_option maxRecDepth 100000 in
theorem c_Mo_dn_103 (l : Launch) (E : mp_E) (M : mp_M) (R : Nat → Nat) (rows : Nat) (thr : Int32) (dp as_ ops : Nat) (A : Nat → am_T) (b : List Bool) (hI : RI E M R rows thr dp as_ ops A) (hR : RL R) (hd : dp + as_ ≤ 200) (hk : ops ≤ 1000) : mp_Cr l m_Mo_isDone E M 4 0 0 [.ref (R 0), .int (nI 103)] (RQ E R M rows thr b (am_op 103 (LM A dp) (LO A as_) b ops)) := by
  refine mp_Cr.of (by decide) (Nat.le_of_ble_eq_true rfl) fun Γ κ hl hκ => ?_
  subst hl
  obtain ⟨hκd, hκc, hκs, -⟩ := id hκ
  show mp_J Γ m_Mo_isDone E κ M [(0, .ref (R 0)), (1, .int (nI 103))] 0 [] 0 0
  refine j_iload_n d_Mo_isDone_0 rfl 1 rfl ?_
  refine j_bipush (v := nI 79) d_Mo_isDone_1 (by decide) ?_
  refine j_ncmp_eq 18 103 79 rfl rfl (by omega) (by omega) d_Mo_isDone_3 (by decide) (fun b3 => (by first | exact b3.elim | exact absurd b3 (by omega))) (fun b3 => ?_)
  refine j_iload_n d_Mo_isDone_6 rfl 1 rfl ?_
  refine j_bipush (v := nI 81) d_Mo_isDone_7 (by decide) ?_
  refine j_ncmp_lt 29 103 81 rfl rfl (by omega) (by omega) d_Mo_isDone_9 (by decide) (fun b9 => (by first | exact b9.elim | exact absurd b9 (by omega))) (fun b9 => ?_)
  refine j_iload_n d_Mo_isDone_12 rfl 1 rfl ?_
  refine j_bipush (v := nI 96) d_Mo_isDone_13 (by decide) ?_
  refine j_ncmp_gt 29 103 96 rfl rfl (by omega) (by omega) d_Mo_isDone_15 (by decide) (fun b15 => ?_) (fun b15 => (by first | exact b15.elim | exact absurd b15 (by omega)))
  refine j_iload_n d_Mo_isDone_29 rfl 1 rfl ?_
  refine j_sipush (v := nI 139) d_Mo_isDone_30 (by decide) ?_
  refine j_ncmp_lt 49 103 139 rfl rfl (by omega) (by omega) d_Mo_isDone_33 (by decide) (fun b33 => ?_) (fun b33 => (by first | exact b33.elim | exact absurd b33 (by omega)))
  refine j_iload_n d_Mo_isDone_49 rfl 1 rfl ?_
  refine j_tableIn 992 d_Mo_isDone_50 (by decide) (by decide) rfl (by decide) ?_
  refine j_iconst (v := nI 0) d_Mo_isDone_992 (by decide) ?_
  exact j_zret hκ rfl (by first | exact Or.inl rfl | exact Or.inr rfl) (by omega) (by omega) d_Mo_isDone_993 (RQ.f hI RFr.refl (by omega) (xn (by omega)))

set_option maxHeartbeats 4000000 in
set_option maxRecDepth 100000 in
theorem c_Mo_dn_104 (l : Launch) (E : mp_E) (M : mp_M) (R : Nat → Nat) (rows : Nat) (thr : Int32) (dp as_ ops : Nat) (A : Nat → am_T) (b : List Bool) (hI : RI E M R rows thr dp as_ ops A) (hR : RL R) (hd : dp + as_ ≤ 200) (hk : ops ≤ 1000) : mp_Cr l m_Mo_isDone E M 4 0 0 [.ref (R 0), .int (nI 104)] (RQ E R M rows thr b (am_op 104 (LM A dp) (LO A as_) b ops)) := by
  refine mp_Cr.of (by decide) (Nat.le_of_ble_eq_true rfl) fun Γ κ hl hκ => ?_
  subst hl
  obtain ⟨hκd, hκc, hκs, -⟩ := id hκ
  show mp_J Γ m_Mo_isDone E κ M [(0, .ref (R 0)), (1, .int (nI 104))] 0 [] 0 0
  refine j_iload_n d_Mo_isDone_0 rfl 1 rfl ?_
  refine j_bipush (v := nI 79) d_Mo_isDone_1 (by decide) ?_
  refine j_ncmp_eq 18 104 79 rfl rfl (by omega) (by omega) d_Mo_isDone_3 (by decide) (fun b3 => (by first | exact b3.elim | exact absurd b3 (by omega))) (fun b3 => ?_)
  refine j_iload_n d_Mo_isDone_6 rfl 1 rfl ?_
  refine j_bipush (v := nI 81) d_Mo_isDone_7 (by decide) ?_
  refine j_ncmp_lt 29 104 81 rfl rfl (by omega) (by omega) d_Mo_isDone_9 (by decide) (fun b9 => (by first | exact b9.elim | exact absurd b9 (by omega))) (fun b9 => ?_)
  refine j_iload_n d_Mo_isDone_12 rfl 1 rfl ?_
  refine j_bipush (v := nI 96) d_Mo_isDone_13 (by decide) ?_
  refine j_ncmp_gt 29 104 96 rfl rfl (by omega) (by omega) d_Mo_isDone_15 (by decide) (fun b15 => ?_) (fun b15 => (by first | exact b15.elim | exact absurd b15 (by omega)))
  refine j_iload_n d_Mo_isDone_29 rfl 1 rfl ?_
  refine j_sipush (v := nI 139) d_Mo_isDone_30 (by decide) ?_
  refine j_ncmp_lt 49 104 139 rfl rfl (by omega) (by omega) d_Mo_isDone_33 (by decide) (fun b33 => ?_) (fun b33 => (by first | exact b33.elim | exact absurd b33 (by omega)))
  refine j_iload_n d_Mo_isDone_49 rfl 1 rfl ?_
  refine j_tableIn 992 d_Mo_isDone_50 (by decide) (by decide) rfl (by decide) ?_
  refine j_iconst (v := nI 0) d_Mo_isDone_992 (by decide) ?_
  exact j_zret hκ rfl (by first | exact Or.inl rfl | exact Or.inr rfl) (by omega) (by omega) d_Mo_isDone_993 (RQ.f hI RFr.refl (by omega) (xn (by omega)))

set_option maxHeartbeats 4000000 in
set_option maxRecDepth 100000 in
theorem c_Mo_dn_105 (l : Launch) (E : mp_E) (M : mp_M) (R : Nat → Nat) (rows : Nat) (thr : Int32) (dp as_ ops : Nat) (A : Nat → am_T) (b : List Bool) (hI : RI E M R rows thr dp as_ ops A) (hR : RL R) (hd : dp + as_ ≤ 200) (hk : ops ≤ 1000) : mp_Cr l m_Mo_isDone E M 4 0 0 [.ref (R 0), .int (nI 105)] (RQ E R M rows thr b (am_op 105 (LM A dp) (LO A as_) b ops)) := by
  refine mp_Cr.of (by decide) (Nat.le_of_ble_eq_true rfl) fun Γ κ hl hκ => ?_
  subst hl
  obtain ⟨hκd, hκc, hκs, -⟩ := id hκ
  show mp_J Γ m_Mo_isDone E κ M [(0, .ref (R 0)), (1, .int (nI 105))] 0 [] 0 0
  refine j_iload_n d_Mo_isDone_0 rfl 1 rfl ?_
  refine j_bipush (v := nI 79) d_Mo_isDone_1 (by decide) ?_
  refine j_ncmp_eq 18 105 79 rfl rfl (by omega) (by omega) d_Mo_isDone_3 (by decide) (fun b3 => (by first | exact b3.elim | exact absurd b3 (by omega))) (fun b3 => ?_)
  refine j_iload_n d_Mo_isDone_6 rfl 1 rfl ?_
  refine j_bipush (v := nI 81) d_Mo_isDone_7 (by decide) ?_
  refine j_ncmp_lt 29 105 81 rfl rfl (by omega) (by omega) d_Mo_isDone_9 (by decide) (fun b9 => (by first | exact b9.elim | exact absurd b9 (by omega))) (fun b9 => ?_)
  refine j_iload_n d_Mo_isDone_12 rfl 1 rfl ?_
  refine j_bipush (v := nI 96) d_Mo_isDone_13 (by decide) ?_
  refine j_ncmp_gt 29 105 96 rfl rfl (by omega) (by omega) d_Mo_isDone_15 (by decide) (fun b15 => ?_) (fun b15 => (by first | exact b15.elim | exact absurd b15 (by omega)))
  refine j_iload_n d_Mo_isDone_29 rfl 1 rfl ?_
  refine j_sipush (v := nI 139) d_Mo_isDone_30 (by decide) ?_
  refine j_ncmp_lt 49 105 139 rfl rfl (by omega) (by omega) d_Mo_isDone_33 (by decide) (fun b33 => ?_) (fun b33 => (by first | exact b33.elim | exact absurd b33 (by omega)))
  refine j_iload_n d_Mo_isDone_49 rfl 1 rfl ?_
  refine j_tableIn 382 d_Mo_isDone_50 (by decide) (by decide) rfl (by decide) ?_
  refine j_aload_n d_Mo_isDone_382 rfl 0 rfl ?_
  refine j_iconst (v := nI 1) d_Mo_isDone_383 (by decide) ?_
  refine j_callV (As := [.int (nI 1)]) (rest := []) (c_Mo_has Γ.l E M (R 0) (R 1) rows (R 2) (R 3) (R 4) (R 5) (R 6) (R 7) (R 8) (R 9) dp as_ ops (R 10) thr 1 hI.1 (by omega) (by omega)) Y_Mo_has w_1039 w_1041 ws_35 hI.1 rfl rfl rfl (Nat.le_of_ble_eq_true rfl) (by omega) (by omega) (by omega) d_Mo_isDone_384 (fun v384 N384 p384 => ?_)
  obtain ⟨rfl, q384⟩ := p384
  obtain rfl := q384.symm
  show mp_J Γ m_Mo_isDone E κ M [(0, .ref (R 0)), (1, .int (nI 105))] 387 [.int (tf (decide (1 ≤ dp)))] 0 0
  refine j_tif_ne 392 d_Mo_isDone_387 (by decide) (fun b387 => ?_) (fun b387 => ?_)
  · skip
    have d387 := of_decide_eq_true b387
    refine j_aload_n d_Mo_isDone_392 rfl 0 rfl ?_
    refine j_dup d_Mo_isDone_393 rfl ?_
    refine j_get F_Mo hI.1 11 (by decide) w_954 (Or.inl rfl) rfl d_Mo_isDone_394 ?_
    refine j_iconst (v := nI 1) d_Mo_isDone_397 (by decide) ?_
    refine j_isub d_Mo_isDone_398 ?_
    refine j_eqi (y := nI (dp - 1)) (pk_sub (by omega)) ?_
    refine j_put F_Mo hI.1 11 (by decide) w_954 (Or.inl rfl) rfl rfl rfl (Nat.le_of_ble_eq_true rfl) d_Mo_isDone_399 ?_
    show mp_J Γ m_Mo_isDone E κ (mp_up M (R 0) (mp_o 7 [.ref (R 1), .int (nI rows), .int thr, .ref (R 2), .ref (R 3), .ref (R 4), .ref (R 5), .ref (R 6), .ref (R 7), .ref (R 8), .ref (R 9), .int (nI (dp - 1)), .int (nI as_), .int (nI ops), .ref (R 10)])) [(0, .ref (R 0)), (1, .int (nI 105))] 402 [] 0 0
    generalize eM1 : mp_up M (R 0) (mp_o 7 [.ref (R 1), .int (nI rows), .int thr, .ref (R 2), .ref (R 3), .ref (R 4), .ref (R 5), .ref (R 6), .ref (R 7), .ref (R 8), .ref (R 9), .int (nI (dp - 1)), .int (nI as_), .int (nI ops), .ref (R 10)]) = M1
    have hM1__R_0_ : M1 (R 0) = some (mp_o 7 [.ref (R 1), .int (nI rows), .int thr, .ref (R 2), .ref (R 3), .ref (R 4), .ref (R 5), .ref (R 6), .ref (R 7), .ref (R 8), .ref (R 9), .int (nI (dp - 1)), .int (nI as_), .int (nI ops), .ref (R 10)]) := by rw [← eM1]; exact mp_s
    have JM1 : RI E M1 R rows thr (dp - 1) as_ ops A := hI.set hR eM1
    have fM1 : RFr R M M1 := RFr.s0 eM1
    refine j_aload_n d_Mo_isDone_402 rfl 0 rfl ?_
    refine j_aload_n d_Mo_isDone_403 rfl 0 rfl ?_
    refine j_get F_Mo hM1__R_0_ 11 (by decide) w_954 (Or.inl rfl) rfl d_Mo_isDone_404 ?_
    refine j_callV (As := [.int (nI (dp - 1))]) (rest := []) (r_isTrue Γ.l JM1 (dp - 1) (by omega)) Y_Mo_isTrue w_1023 w_1025 ws_31 hM1__R_0_ rfl rfl rfl (Nat.le_of_ble_eq_true rfl) (by omega) (by omega) (by omega) d_Mo_isDone_407 (fun v407 N407 p407 => ?_)
    obtain ⟨rfl, q407⟩ := p407
    obtain rfl := q407.symm
    show mp_J Γ m_Mo_isDone E κ M1 [(0, .ref (R 0)), (1, .int (nI 105))] 410 [.int (tf (am_true (A (dp - 1))))] 0 0
    exact j_zret hκ rfl (tf_01 _) (by omega) (by omega) d_Mo_isDone_410 (RQ.bool JM1 fM1 (by omega) (x105 d387))
  · skip
    have d387 := of_decide_eq_false b387
    refine j_iconst (v := nI 0) d_Mo_isDone_390 (by decide) ?_
    exact j_zret hκ rfl (by first | exact Or.inl rfl | exact Or.inr rfl) (by omega) (by omega) d_Mo_isDone_391 (RQ.f hI RFr.refl (by omega) (xf105 d387))

set_option maxHeartbeats 4000000 in
set_option maxRecDepth 100000 in
theorem c_Mo_dn_106 (l : Launch) (E : mp_E) (M : mp_M) (R : Nat → Nat) (rows : Nat) (thr : Int32) (dp as_ ops : Nat) (A : Nat → am_T) (b : List Bool) (hI : RI E M R rows thr dp as_ ops A) (hR : RL R) (hd : dp + as_ ≤ 200) (hk : ops ≤ 1000) : mp_Cr l m_Mo_isDone E M 4 0 0 [.ref (R 0), .int (nI 106)] (RQ E R M rows thr b (am_op 106 (LM A dp) (LO A as_) b ops)) := by
  refine mp_Cr.of (by decide) (Nat.le_of_ble_eq_true rfl) fun Γ κ hl hκ => ?_
  subst hl
  obtain ⟨hκd, hκc, hκs, -⟩ := id hκ
  show mp_J Γ m_Mo_isDone E κ M [(0, .ref (R 0)), (1, .int (nI 106))] 0 [] 0 0
  refine j_iload_n d_Mo_isDone_0 rfl 1 rfl ?_
  refine j_bipush (v := nI 79) d_Mo_isDone_1 (by decide) ?_
  refine j_ncmp_eq 18 106 79 rfl rfl (by omega) (by omega) d_Mo_isDone_3 (by decide) (fun b3 => (by first | exact b3.elim | exact absurd b3 (by omega))) (fun b3 => ?_)
  refine j_iload_n d_Mo_isDone_6 rfl 1 rfl ?_
  refine j_bipush (v := nI 81) d_Mo_isDone_7 (by decide) ?_
  refine j_ncmp_lt 29 106 81 rfl rfl (by omega) (by omega) d_Mo_isDone_9 (by decide) (fun b9 => (by first | exact b9.elim | exact absurd b9 (by omega))) (fun b9 => ?_)
  refine j_iload_n d_Mo_isDone_12 rfl 1 rfl ?_
  refine j_bipush (v := nI 96) d_Mo_isDone_13 (by decide) ?_
  refine j_ncmp_gt 29 106 96 rfl rfl (by omega) (by omega) d_Mo_isDone_15 (by decide) (fun b15 => ?_) (fun b15 => (by first | exact b15.elim | exact absurd b15 (by omega)))
  refine j_iload_n d_Mo_isDone_29 rfl 1 rfl ?_
  refine j_sipush (v := nI 139) d_Mo_isDone_30 (by decide) ?_
  refine j_ncmp_lt 49 106 139 rfl rfl (by omega) (by omega) d_Mo_isDone_33 (by decide) (fun b33 => ?_) (fun b33 => (by first | exact b33.elim | exact absurd b33 (by omega)))
  refine j_iload_n d_Mo_isDone_49 rfl 1 rfl ?_
  refine j_tableIn 992 d_Mo_isDone_50 (by decide) (by decide) rfl (by decide) ?_
  refine j_iconst (v := nI 0) d_Mo_isDone_992 (by decide) ?_
  exact j_zret hκ rfl (by first | exact Or.inl rfl | exact Or.inr rfl) (by omega) (by omega) d_Mo_isDone_993 (RQ.f hI RFr.refl (by omega) (xn (by omega)))

set_option maxHeartbeats 4000000 in
set_option maxRecDepth 100000 in
theorem c_Mo_dn_107 (l : Launch) (E : mp_E) (M : mp_M) (R : Nat → Nat) (rows : Nat) (thr : Int32) (dp as_ ops : Nat) (A : Nat → am_T) (b : List Bool) (hI : RI E M R rows thr dp as_ ops A) (hR : RL R) (hd : dp + as_ ≤ 200) (hk : ops ≤ 1000) : mp_Cr l m_Mo_isDone E M 4 0 0 [.ref (R 0), .int (nI 107)] (RQ E R M rows thr b (am_op 107 (LM A dp) (LO A as_) b ops)) := by
  refine mp_Cr.of (by decide) (Nat.le_of_ble_eq_true rfl) fun Γ κ hl hκ => ?_
  subst hl
  obtain ⟨hκd, hκc, hκs, -⟩ := id hκ
  show mp_J Γ m_Mo_isDone E κ M [(0, .ref (R 0)), (1, .int (nI 107))] 0 [] 0 0
  refine j_iload_n d_Mo_isDone_0 rfl 1 rfl ?_
  refine j_bipush (v := nI 79) d_Mo_isDone_1 (by decide) ?_
  refine j_ncmp_eq 18 107 79 rfl rfl (by omega) (by omega) d_Mo_isDone_3 (by decide) (fun b3 => (by first | exact b3.elim | exact absurd b3 (by omega))) (fun b3 => ?_)
  refine j_iload_n d_Mo_isDone_6 rfl 1 rfl ?_
  refine j_bipush (v := nI 81) d_Mo_isDone_7 (by decide) ?_
  refine j_ncmp_lt 29 107 81 rfl rfl (by omega) (by omega) d_Mo_isDone_9 (by decide) (fun b9 => (by first | exact b9.elim | exact absurd b9 (by omega))) (fun b9 => ?_)
  refine j_iload_n d_Mo_isDone_12 rfl 1 rfl ?_
  refine j_bipush (v := nI 96) d_Mo_isDone_13 (by decide) ?_
  refine j_ncmp_gt 29 107 96 rfl rfl (by omega) (by omega) d_Mo_isDone_15 (by decide) (fun b15 => ?_) (fun b15 => (by first | exact b15.elim | exact absurd b15 (by omega)))
  refine j_iload_n d_Mo_isDone_29 rfl 1 rfl ?_
  refine j_sipush (v := nI 139) d_Mo_isDone_30 (by decide) ?_
  refine j_ncmp_lt 49 107 139 rfl rfl (by omega) (by omega) d_Mo_isDone_33 (by decide) (fun b33 => ?_) (fun b33 => (by first | exact b33.elim | exact absurd b33 (by omega)))
  refine j_iload_n d_Mo_isDone_49 rfl 1 rfl ?_
  refine j_tableIn 411 d_Mo_isDone_50 (by decide) (by decide) rfl (by decide) ?_
  refine j_aload_n d_Mo_isDone_411 rfl 0 rfl ?_
  refine j_iconst (v := nI 1) d_Mo_isDone_412 (by decide) ?_
  refine j_callV (As := [.int (nI 1)]) (rest := []) (c_Mo_has Γ.l E M (R 0) (R 1) rows (R 2) (R 3) (R 4) (R 5) (R 6) (R 7) (R 8) (R 9) dp as_ ops (R 10) thr 1 hI.1 (by omega) (by omega)) Y_Mo_has w_1039 w_1041 ws_35 hI.1 rfl rfl rfl (Nat.le_of_ble_eq_true rfl) (by omega) (by omega) (by omega) d_Mo_isDone_413 (fun v413 N413 p413 => ?_)
  obtain ⟨rfl, q413⟩ := p413
  obtain rfl := q413.symm
  show mp_J Γ m_Mo_isDone E κ M [(0, .ref (R 0)), (1, .int (nI 107))] 416 [.int (tf (decide (1 ≤ dp)))] 0 0
  refine j_tif_ne 421 d_Mo_isDone_416 (by decide) (fun b416 => ?_) (fun b416 => ?_)
  · skip
    have d416 := of_decide_eq_true b416
    refine j_aload_n d_Mo_isDone_421 rfl 0 rfl ?_
    refine j_dup d_Mo_isDone_422 rfl ?_
    refine j_get F_Mo hI.1 11 (by decide) w_954 (Or.inl rfl) rfl d_Mo_isDone_423 ?_
    refine j_iconst (v := nI 1) d_Mo_isDone_426 (by decide) ?_
    refine j_isub d_Mo_isDone_427 ?_
    refine j_eqi (y := nI (dp - 1)) (pk_sub (by omega)) ?_
    refine j_put F_Mo hI.1 11 (by decide) w_954 (Or.inl rfl) rfl rfl rfl (Nat.le_of_ble_eq_true rfl) d_Mo_isDone_428 ?_
    show mp_J Γ m_Mo_isDone E κ (mp_up M (R 0) (mp_o 7 [.ref (R 1), .int (nI rows), .int thr, .ref (R 2), .ref (R 3), .ref (R 4), .ref (R 5), .ref (R 6), .ref (R 7), .ref (R 8), .ref (R 9), .int (nI (dp - 1)), .int (nI as_), .int (nI ops), .ref (R 10)])) [(0, .ref (R 0)), (1, .int (nI 107))] 431 [] 0 0
    generalize eM1 : mp_up M (R 0) (mp_o 7 [.ref (R 1), .int (nI rows), .int thr, .ref (R 2), .ref (R 3), .ref (R 4), .ref (R 5), .ref (R 6), .ref (R 7), .ref (R 8), .ref (R 9), .int (nI (dp - 1)), .int (nI as_), .int (nI ops), .ref (R 10)]) = M1
    have hM1__R_0_ : M1 (R 0) = some (mp_o 7 [.ref (R 1), .int (nI rows), .int thr, .ref (R 2), .ref (R 3), .ref (R 4), .ref (R 5), .ref (R 6), .ref (R 7), .ref (R 8), .ref (R 9), .int (nI (dp - 1)), .int (nI as_), .int (nI ops), .ref (R 10)]) := by rw [← eM1]; exact mp_s
    have JM1 : RI E M1 R rows thr (dp - 1) as_ ops A := hI.set hR eM1
    have fM1 : RFr R M M1 := RFr.s0 eM1
    refine j_aload_n d_Mo_isDone_431 rfl 0 rfl ?_
    refine j_aload_n d_Mo_isDone_432 rfl 0 rfl ?_
    refine j_get F_Mo hM1__R_0_ 11 (by decide) w_954 (Or.inl rfl) rfl d_Mo_isDone_433 ?_
    refine j_aload_n d_Mo_isDone_436 rfl 0 rfl ?_
    refine j_get F_Mo hM1__R_0_ 12 (by decide) w_955 (Or.inl rfl) rfl d_Mo_isDone_437 ?_
    refine j_callS (As := [.int (nI as_)]) (rest := [.int (nI (dp - 1)), .ref (R 0)]) (c_Mo_other Γ.l E M1 as_ (by omega)) Y_Mo_other w_1053 w_1054 rfl rfl (Nat.le_of_ble_eq_true rfl) (by omega) (by omega) (by omega) d_Mo_isDone_440 (fun v440 N440 p440 => ?_)
    obtain ⟨rfl, q440⟩ := p440
    obtain rfl := q440.symm
    show mp_J Γ m_Mo_isDone E κ M1 [(0, .ref (R 0)), (1, .int (nI 107))] 443 [.int (nI (407 - as_)), .int (nI (dp - 1)), .ref (R 0)] 0 0
    refine j_callV (As := [.int (nI (dp - 1)), .int (nI (407 - as_))]) (rest := []) (r_move Γ.l JM1 hR (dp - 1) (407 - as_) (by omega) (by omega)) Y_Mo_move w_1056 w_1058 ws_38 hM1__R_0_ rfl rfl rfl (Nat.le_of_ble_eq_true rfl) (by omega) (by omega) (by omega) d_Mo_isDone_443 (fun v443 N443 p443 => ?_)
    obtain ⟨rfl, I443, f443⟩ := p443
    show mp_J Γ m_Mo_isDone E κ N443 [(0, .ref (R 0)), (1, .int (nI 107))] 446 [] 0 0
    refine j_aload_n d_Mo_isDone_446 rfl 0 rfl ?_
    refine j_dup d_Mo_isDone_447 rfl ?_
    refine j_get F_Mo I443.1 12 (by decide) w_955 (Or.inl rfl) rfl d_Mo_isDone_448 ?_
    refine j_iconst (v := nI 1) d_Mo_isDone_451 (by decide) ?_
    refine j_iadd d_Mo_isDone_452 ?_
    refine j_eqi (y := nI (as_ + 1)) (nI_add as_ 1) ?_
    refine j_put F_Mo I443.1 12 (by decide) w_955 (Or.inl rfl) rfl rfl rfl (Nat.le_of_ble_eq_true rfl) d_Mo_isDone_453 ?_
    show mp_J Γ m_Mo_isDone E κ (mp_up N443 (R 0) (mp_o 7 [.ref (R 1), .int (nI rows), .int thr, .ref (R 2), .ref (R 3), .ref (R 4), .ref (R 5), .ref (R 6), .ref (R 7), .ref (R 8), .ref (R 9), .int (nI (dp - 1)), .int (nI (as_ + 1)), .int (nI ops), .ref (R 10)])) [(0, .ref (R 0)), (1, .int (nI 107))] 456 [] 0 0
    generalize eM2 : mp_up N443 (R 0) (mp_o 7 [.ref (R 1), .int (nI rows), .int thr, .ref (R 2), .ref (R 3), .ref (R 4), .ref (R 5), .ref (R 6), .ref (R 7), .ref (R 8), .ref (R 9), .int (nI (dp - 1)), .int (nI (as_ + 1)), .int (nI ops), .ref (R 10)]) = M2
    have hM2__R_0_ : M2 (R 0) = some (mp_o 7 [.ref (R 1), .int (nI rows), .int thr, .ref (R 2), .ref (R 3), .ref (R 4), .ref (R 5), .ref (R 6), .ref (R 7), .ref (R 8), .ref (R 9), .int (nI (dp - 1)), .int (nI (as_ + 1)), .int (nI ops), .ref (R 10)]) := by rw [← eM2]; exact mp_s
    have JM2 : RI E M2 R rows thr (dp - 1) (as_ + 1) ops (upA A (407 - as_) (A (dp - 1))) := I443.set hR eM2
    have fM2 : RFr R N443 M2 := RFr.s0 eM2
    refine j_iconst (v := nI 1) d_Mo_isDone_456 (by decide) ?_
    exact j_zret hκ rfl (by first | exact Or.inl rfl | exact Or.inr rfl) (by omega) (by omega) d_Mo_isDone_457 (RQ.t JM2 ((fM1.trans f443).trans fM2) (by omega) (x107 d416 (by omega)))
  · skip
    have d416 := of_decide_eq_false b416
    refine j_iconst (v := nI 0) d_Mo_isDone_419 (by decide) ?_
    exact j_zret hκ rfl (by first | exact Or.inl rfl | exact Or.inr rfl) (by omega) (by omega) d_Mo_isDone_420 (RQ.f hI RFr.refl (by omega) (xf107 d416))

set_option maxHeartbeats 4000000 in
set_option maxRecDepth 100000 in
theorem c_Mo_dn_108 (l : Launch) (E : mp_E) (M : mp_M) (R : Nat → Nat) (rows : Nat) (thr : Int32) (dp as_ ops : Nat) (A : Nat → am_T) (b : List Bool) (hI : RI E M R rows thr dp as_ ops A) (hR : RL R) (hd : dp + as_ ≤ 200) (hk : ops ≤ 1000) : mp_Cr l m_Mo_isDone E M 4 0 0 [.ref (R 0), .int (nI 108)] (RQ E R M rows thr b (am_op 108 (LM A dp) (LO A as_) b ops)) := by
  refine mp_Cr.of (by decide) (Nat.le_of_ble_eq_true rfl) fun Γ κ hl hκ => ?_
  subst hl
  obtain ⟨hκd, hκc, hκs, -⟩ := id hκ
  show mp_J Γ m_Mo_isDone E κ M [(0, .ref (R 0)), (1, .int (nI 108))] 0 [] 0 0
  refine j_iload_n d_Mo_isDone_0 rfl 1 rfl ?_
  refine j_bipush (v := nI 79) d_Mo_isDone_1 (by decide) ?_
  refine j_ncmp_eq 18 108 79 rfl rfl (by omega) (by omega) d_Mo_isDone_3 (by decide) (fun b3 => (by first | exact b3.elim | exact absurd b3 (by omega))) (fun b3 => ?_)
  refine j_iload_n d_Mo_isDone_6 rfl 1 rfl ?_
  refine j_bipush (v := nI 81) d_Mo_isDone_7 (by decide) ?_
  refine j_ncmp_lt 29 108 81 rfl rfl (by omega) (by omega) d_Mo_isDone_9 (by decide) (fun b9 => (by first | exact b9.elim | exact absurd b9 (by omega))) (fun b9 => ?_)
  refine j_iload_n d_Mo_isDone_12 rfl 1 rfl ?_
  refine j_bipush (v := nI 96) d_Mo_isDone_13 (by decide) ?_
  refine j_ncmp_gt 29 108 96 rfl rfl (by omega) (by omega) d_Mo_isDone_15 (by decide) (fun b15 => ?_) (fun b15 => (by first | exact b15.elim | exact absurd b15 (by omega)))
  refine j_iload_n d_Mo_isDone_29 rfl 1 rfl ?_
  refine j_sipush (v := nI 139) d_Mo_isDone_30 (by decide) ?_
  refine j_ncmp_lt 49 108 139 rfl rfl (by omega) (by omega) d_Mo_isDone_33 (by decide) (fun b33 => ?_) (fun b33 => (by first | exact b33.elim | exact absurd b33 (by omega)))
  refine j_iload_n d_Mo_isDone_49 rfl 1 rfl ?_
  refine j_tableIn 458 d_Mo_isDone_50 (by decide) (by decide) rfl (by decide) ?_
  refine j_aload_n d_Mo_isDone_458 rfl 0 rfl ?_
  refine j_get F_Mo hI.1 12 (by decide) w_955 (Or.inl rfl) rfl d_Mo_isDone_459 ?_
  refine j_nif_ne 467 as_ rfl (by omega) d_Mo_isDone_462 (by decide) (fun b462 => ?_) (fun b462 => ?_)
  · skip
    refine j_aload_n d_Mo_isDone_467 rfl 0 rfl ?_
    refine j_dup d_Mo_isDone_468 rfl ?_
    refine j_get F_Mo hI.1 12 (by decide) w_955 (Or.inl rfl) rfl d_Mo_isDone_469 ?_
    refine j_iconst (v := nI 1) d_Mo_isDone_472 (by decide) ?_
    refine j_isub d_Mo_isDone_473 ?_
    refine j_eqi (y := nI (as_ - 1)) (pk_sub (by omega)) ?_
    refine j_put F_Mo hI.1 12 (by decide) w_955 (Or.inl rfl) rfl rfl rfl (Nat.le_of_ble_eq_true rfl) d_Mo_isDone_474 ?_
    show mp_J Γ m_Mo_isDone E κ (mp_up M (R 0) (mp_o 7 [.ref (R 1), .int (nI rows), .int thr, .ref (R 2), .ref (R 3), .ref (R 4), .ref (R 5), .ref (R 6), .ref (R 7), .ref (R 8), .ref (R 9), .int (nI dp), .int (nI (as_ - 1)), .int (nI ops), .ref (R 10)])) [(0, .ref (R 0)), (1, .int (nI 108))] 477 [] 0 0
    generalize eM1 : mp_up M (R 0) (mp_o 7 [.ref (R 1), .int (nI rows), .int thr, .ref (R 2), .ref (R 3), .ref (R 4), .ref (R 5), .ref (R 6), .ref (R 7), .ref (R 8), .ref (R 9), .int (nI dp), .int (nI (as_ - 1)), .int (nI ops), .ref (R 10)]) = M1
    have hM1__R_0_ : M1 (R 0) = some (mp_o 7 [.ref (R 1), .int (nI rows), .int thr, .ref (R 2), .ref (R 3), .ref (R 4), .ref (R 5), .ref (R 6), .ref (R 7), .ref (R 8), .ref (R 9), .int (nI dp), .int (nI (as_ - 1)), .int (nI ops), .ref (R 10)]) := by rw [← eM1]; exact mp_s
    have JM1 : RI E M1 R rows thr dp (as_ - 1) ops A := hI.set hR eM1
    have fM1 : RFr R M M1 := RFr.s0 eM1
    refine j_aload_n d_Mo_isDone_477 rfl 0 rfl ?_
    refine j_aload_n d_Mo_isDone_478 rfl 0 rfl ?_
    refine j_get F_Mo hM1__R_0_ 12 (by decide) w_955 (Or.inl rfl) rfl d_Mo_isDone_479 ?_
    refine j_callS (As := [.int (nI (as_ - 1))]) (rest := [.ref (R 0)]) (c_Mo_other Γ.l E M1 (as_ - 1) (by omega)) Y_Mo_other w_1053 w_1054 rfl rfl (Nat.le_of_ble_eq_true rfl) (by omega) (by omega) (by omega) d_Mo_isDone_482 (fun v482 N482 p482 => ?_)
    obtain ⟨rfl, q482⟩ := p482
    obtain rfl := q482.symm
    show mp_J Γ m_Mo_isDone E κ M1 [(0, .ref (R 0)), (1, .int (nI 108))] 485 [.int (nI (407 - (as_ - 1))), .ref (R 0)] 0 0
    refine j_aload_n d_Mo_isDone_485 rfl 0 rfl ?_
    refine j_get F_Mo hM1__R_0_ 11 (by decide) w_954 (Or.inl rfl) rfl d_Mo_isDone_486 ?_
    refine j_callV (As := [.int (nI (407 - (as_ - 1))), .int (nI dp)]) (rest := []) (r_move Γ.l JM1 hR (407 - (as_ - 1)) dp (by omega) (by omega)) Y_Mo_move w_1056 w_1058 ws_38 hM1__R_0_ rfl rfl rfl (Nat.le_of_ble_eq_true rfl) (by omega) (by omega) (by omega) d_Mo_isDone_489 (fun v489 N489 p489 => ?_)
    obtain ⟨rfl, I489, f489⟩ := p489
    show mp_J Γ m_Mo_isDone E κ N489 [(0, .ref (R 0)), (1, .int (nI 108))] 492 [] 0 0
    refine j_aload_n d_Mo_isDone_492 rfl 0 rfl ?_
    refine j_dup d_Mo_isDone_493 rfl ?_
    refine j_get F_Mo I489.1 11 (by decide) w_954 (Or.inl rfl) rfl d_Mo_isDone_494 ?_
    refine j_iconst (v := nI 1) d_Mo_isDone_497 (by decide) ?_
    refine j_iadd d_Mo_isDone_498 ?_
    refine j_eqi (y := nI (dp + 1)) (nI_add dp 1) ?_
    refine j_put F_Mo I489.1 11 (by decide) w_954 (Or.inl rfl) rfl rfl rfl (Nat.le_of_ble_eq_true rfl) d_Mo_isDone_499 ?_
    show mp_J Γ m_Mo_isDone E κ (mp_up N489 (R 0) (mp_o 7 [.ref (R 1), .int (nI rows), .int thr, .ref (R 2), .ref (R 3), .ref (R 4), .ref (R 5), .ref (R 6), .ref (R 7), .ref (R 8), .ref (R 9), .int (nI (dp + 1)), .int (nI (as_ - 1)), .int (nI ops), .ref (R 10)])) [(0, .ref (R 0)), (1, .int (nI 108))] 502 [] 0 0
    generalize eM2 : mp_up N489 (R 0) (mp_o 7 [.ref (R 1), .int (nI rows), .int thr, .ref (R 2), .ref (R 3), .ref (R 4), .ref (R 5), .ref (R 6), .ref (R 7), .ref (R 8), .ref (R 9), .int (nI (dp + 1)), .int (nI (as_ - 1)), .int (nI ops), .ref (R 10)]) = M2
    have hM2__R_0_ : M2 (R 0) = some (mp_o 7 [.ref (R 1), .int (nI rows), .int thr, .ref (R 2), .ref (R 3), .ref (R 4), .ref (R 5), .ref (R 6), .ref (R 7), .ref (R 8), .ref (R 9), .int (nI (dp + 1)), .int (nI (as_ - 1)), .int (nI ops), .ref (R 10)]) := by rw [← eM2]; exact mp_s
    have JM2 : RI E M2 R rows thr (dp + 1) (as_ - 1) ops (upA A dp (A (407 - (as_ - 1)))) := I489.set hR eM2
    have fM2 : RFr R N489 M2 := RFr.s0 eM2
    refine j_iconst (v := nI 1) d_Mo_isDone_502 (by decide) ?_
    exact j_zret hκ rfl (by first | exact Or.inl rfl | exact Or.inr rfl) (by omega) (by omega) d_Mo_isDone_503 (RQ.t JM2 ((fM1.trans f489).trans fM2) (by omega) (x108 (by omega) (by omega)))
  · skip
    refine j_iconst (v := nI 0) d_Mo_isDone_465 (by decide) ?_
    exact j_zret hκ rfl (by first | exact Or.inl rfl | exact Or.inr rfl) (by omega) (by omega) d_Mo_isDone_466 (RQ.f hI RFr.refl (by omega) (xf108 (by omega)))

set_option maxHeartbeats 4000000 in
set_option maxRecDepth 100000 in
theorem c_Mo_dn_109 (l : Launch) (E : mp_E) (M : mp_M) (R : Nat → Nat) (rows : Nat) (thr : Int32) (dp as_ ops : Nat) (A : Nat → am_T) (b : List Bool) (hI : RI E M R rows thr dp as_ ops A) (hR : RL R) (hd : dp + as_ ≤ 200) (hk : ops ≤ 1000) : mp_Cr l m_Mo_isDone E M 4 0 0 [.ref (R 0), .int (nI 109)] (RQ E R M rows thr b (am_op 109 (LM A dp) (LO A as_) b ops)) := by
  refine mp_Cr.of (by decide) (Nat.le_of_ble_eq_true rfl) fun Γ κ hl hκ => ?_
  subst hl
  obtain ⟨hκd, hκc, hκs, -⟩ := id hκ
  show mp_J Γ m_Mo_isDone E κ M [(0, .ref (R 0)), (1, .int (nI 109))] 0 [] 0 0
  refine j_iload_n d_Mo_isDone_0 rfl 1 rfl ?_
  refine j_bipush (v := nI 79) d_Mo_isDone_1 (by decide) ?_
  refine j_ncmp_eq 18 109 79 rfl rfl (by omega) (by omega) d_Mo_isDone_3 (by decide) (fun b3 => (by first | exact b3.elim | exact absurd b3 (by omega))) (fun b3 => ?_)
  refine j_iload_n d_Mo_isDone_6 rfl 1 rfl ?_
  refine j_bipush (v := nI 81) d_Mo_isDone_7 (by decide) ?_
  refine j_ncmp_lt 29 109 81 rfl rfl (by omega) (by omega) d_Mo_isDone_9 (by decide) (fun b9 => (by first | exact b9.elim | exact absurd b9 (by omega))) (fun b9 => ?_)
  refine j_iload_n d_Mo_isDone_12 rfl 1 rfl ?_
  refine j_bipush (v := nI 96) d_Mo_isDone_13 (by decide) ?_
  refine j_ncmp_gt 29 109 96 rfl rfl (by omega) (by omega) d_Mo_isDone_15 (by decide) (fun b15 => ?_) (fun b15 => (by first | exact b15.elim | exact absurd b15 (by omega)))
  refine j_iload_n d_Mo_isDone_29 rfl 1 rfl ?_
  refine j_sipush (v := nI 139) d_Mo_isDone_30 (by decide) ?_
  refine j_ncmp_lt 49 109 139 rfl rfl (by omega) (by omega) d_Mo_isDone_33 (by decide) (fun b33 => ?_) (fun b33 => (by first | exact b33.elim | exact absurd b33 (by omega)))
  refine j_iload_n d_Mo_isDone_49 rfl 1 rfl ?_
  refine j_tableIn 504 d_Mo_isDone_50 (by decide) (by decide) rfl (by decide) ?_
  refine j_aload_n d_Mo_isDone_504 rfl 0 rfl ?_
  refine j_iconst (v := nI 2) d_Mo_isDone_505 (by decide) ?_
  refine j_callV (As := [.int (nI 2)]) (rest := []) (c_Mo_has Γ.l E M (R 0) (R 1) rows (R 2) (R 3) (R 4) (R 5) (R 6) (R 7) (R 8) (R 9) dp as_ ops (R 10) thr 2 hI.1 (by omega) (by omega)) Y_Mo_has w_1039 w_1041 ws_35 hI.1 rfl rfl rfl (Nat.le_of_ble_eq_true rfl) (by omega) (by omega) (by omega) d_Mo_isDone_506 (fun v506 N506 p506 => ?_)
  obtain ⟨rfl, q506⟩ := p506
  obtain rfl := q506.symm
  show mp_J Γ m_Mo_isDone E κ M [(0, .ref (R 0)), (1, .int (nI 109))] 509 [.int (tf (decide (2 ≤ dp)))] 0 0
  refine j_tif_ne 514 d_Mo_isDone_509 (by decide) (fun b509 => ?_) (fun b509 => ?_)
  · skip
    have d509 := of_decide_eq_true b509
    refine j_aload_n d_Mo_isDone_514 rfl 0 rfl ?_
    refine j_dup d_Mo_isDone_515 rfl ?_
    refine j_get F_Mo hI.1 11 (by decide) w_954 (Or.inl rfl) rfl d_Mo_isDone_516 ?_
    refine j_iconst (v := nI 2) d_Mo_isDone_519 (by decide) ?_
    refine j_isub d_Mo_isDone_520 ?_
    refine j_eqi (y := nI (dp - 2)) (pk_sub (by omega)) ?_
    refine j_put F_Mo hI.1 11 (by decide) w_954 (Or.inl rfl) rfl rfl rfl (Nat.le_of_ble_eq_true rfl) d_Mo_isDone_521 ?_
    show mp_J Γ m_Mo_isDone E κ (mp_up M (R 0) (mp_o 7 [.ref (R 1), .int (nI rows), .int thr, .ref (R 2), .ref (R 3), .ref (R 4), .ref (R 5), .ref (R 6), .ref (R 7), .ref (R 8), .ref (R 9), .int (nI (dp - 2)), .int (nI as_), .int (nI ops), .ref (R 10)])) [(0, .ref (R 0)), (1, .int (nI 109))] 524 [] 0 0
    generalize eM1 : mp_up M (R 0) (mp_o 7 [.ref (R 1), .int (nI rows), .int thr, .ref (R 2), .ref (R 3), .ref (R 4), .ref (R 5), .ref (R 6), .ref (R 7), .ref (R 8), .ref (R 9), .int (nI (dp - 2)), .int (nI as_), .int (nI ops), .ref (R 10)]) = M1
    have hM1__R_0_ : M1 (R 0) = some (mp_o 7 [.ref (R 1), .int (nI rows), .int thr, .ref (R 2), .ref (R 3), .ref (R 4), .ref (R 5), .ref (R 6), .ref (R 7), .ref (R 8), .ref (R 9), .int (nI (dp - 2)), .int (nI as_), .int (nI ops), .ref (R 10)]) := by rw [← eM1]; exact mp_s
    have JM1 : RI E M1 R rows thr (dp - 2) as_ ops A := hI.set hR eM1
    have fM1 : RFr R M M1 := RFr.s0 eM1
    refine j_iconst (v := nI 1) d_Mo_isDone_524 (by decide) ?_
    exact j_zret hκ rfl (by first | exact Or.inl rfl | exact Or.inr rfl) (by omega) (by omega) d_Mo_isDone_525 (RQ.t JM1 fM1 (by omega) (x109 d509))
  · skip
    have d509 := of_decide_eq_false b509
    refine j_iconst (v := nI 0) d_Mo_isDone_512 (by decide) ?_
    exact j_zret hκ rfl (by first | exact Or.inl rfl | exact Or.inr rfl) (by omega) (by omega) d_Mo_isDone_513 (RQ.f hI RFr.refl (by omega) (xf109 d509))

set_option maxHeartbeats 4000000 in
set_option maxRecDepth 100000 in
theorem c_Mo_dn_110 (l : Launch) (E : mp_E) (M : mp_M) (R : Nat → Nat) (rows : Nat) (thr : Int32) (dp as_ ops : Nat) (A : Nat → am_T) (b : List Bool) (hI : RI E M R rows thr dp as_ ops A) (hR : RL R) (hd : dp + as_ ≤ 200) (hk : ops ≤ 1000) : mp_Cr l m_Mo_isDone E M 4 0 0 [.ref (R 0), .int (nI 110)] (RQ E R M rows thr b (am_op 110 (LM A dp) (LO A as_) b ops)) := by
  refine mp_Cr.of (by decide) (Nat.le_of_ble_eq_true rfl) fun Γ κ hl hκ => ?_
  subst hl
  obtain ⟨hκd, hκc, hκs, -⟩ := id hκ
  show mp_J Γ m_Mo_isDone E κ M [(0, .ref (R 0)), (1, .int (nI 110))] 0 [] 0 0
  refine j_iload_n d_Mo_isDone_0 rfl 1 rfl ?_
  refine j_bipush (v := nI 79) d_Mo_isDone_1 (by decide) ?_
  refine j_ncmp_eq 18 110 79 rfl rfl (by omega) (by omega) d_Mo_isDone_3 (by decide) (fun b3 => (by first | exact b3.elim | exact absurd b3 (by omega))) (fun b3 => ?_)
  refine j_iload_n d_Mo_isDone_6 rfl 1 rfl ?_
  refine j_bipush (v := nI 81) d_Mo_isDone_7 (by decide) ?_
  refine j_ncmp_lt 29 110 81 rfl rfl (by omega) (by omega) d_Mo_isDone_9 (by decide) (fun b9 => (by first | exact b9.elim | exact absurd b9 (by omega))) (fun b9 => ?_)
  refine j_iload_n d_Mo_isDone_12 rfl 1 rfl ?_
  refine j_bipush (v := nI 96) d_Mo_isDone_13 (by decide) ?_
  refine j_ncmp_gt 29 110 96 rfl rfl (by omega) (by omega) d_Mo_isDone_15 (by decide) (fun b15 => ?_) (fun b15 => (by first | exact b15.elim | exact absurd b15 (by omega)))
  refine j_iload_n d_Mo_isDone_29 rfl 1 rfl ?_
  refine j_sipush (v := nI 139) d_Mo_isDone_30 (by decide) ?_
  refine j_ncmp_lt 49 110 139 rfl rfl (by omega) (by omega) d_Mo_isDone_33 (by decide) (fun b33 => ?_) (fun b33 => (by first | exact b33.elim | exact absurd b33 (by omega)))
  refine j_iload_n d_Mo_isDone_49 rfl 1 rfl ?_
  refine j_tableIn 526 d_Mo_isDone_50 (by decide) (by decide) rfl (by decide) ?_
  refine j_aload_n d_Mo_isDone_526 rfl 0 rfl ?_
  refine j_iconst (v := nI 2) d_Mo_isDone_527 (by decide) ?_
  refine j_callV (As := [.int (nI 2)]) (rest := []) (r_again Γ.l hI hR 2 (by omega) (by omega)) Y_Mo_again w_1060 w_1062 ws_39 hI.1 rfl rfl rfl (Nat.le_of_ble_eq_true rfl) (by omega) (by omega) (by omega) d_Mo_isDone_528 (fun v528 N528 p528 => ?_)
  obtain ⟨d528, B528, rfl, I528, f528, T528, g528⟩ := p528
  show mp_J Γ m_Mo_isDone E κ N528 [(0, .ref (R 0)), (1, .int (nI 110))] 531 [.int (tf (decide (2 ≤ dp)))] 0 0
  refine j_tif_eq 546 d_Mo_isDone_531 (by decide) (fun b531 => ?_) (fun b531 => ?_)
  · skip
    have d531 := of_decide_eq_false b531
    refine j_iconst (v := nI 0) d_Mo_isDone_546 (by decide) ?_
    exact j_zret hκ rfl (by first | exact Or.inl rfl | exact Or.inr rfl) (by omega) (by omega) d_Mo_isDone_547 (RQ.f I528 f528 (by omega) (xf110 d531))
  · skip
    have d531 := of_decide_eq_true b531
    refine j_aload_n d_Mo_isDone_534 rfl 0 rfl ?_
    refine j_iconst (v := nI 2) d_Mo_isDone_535 (by decide) ?_
    refine j_callV (As := [.int (nI 2)]) (rest := []) (r_again Γ.l I528 hR 2 (by omega) (by omega)) Y_Mo_again w_1060 w_1062 ws_39 I528.1 rfl rfl rfl (Nat.le_of_ble_eq_true rfl) (by omega) (by omega) (by omega) d_Mo_isDone_536 (fun v536 N536 p536 => ?_)
    obtain ⟨d536, B536, rfl, I536, f536, T536, g536⟩ := p536
    show mp_J Γ m_Mo_isDone E κ N536 [(0, .ref (R 0)), (1, .int (nI 110))] 539 [.int (tf (decide (2 ≤ d528)))] 0 0
    refine j_tif_eq 546 d_Mo_isDone_539 (by decide) (fun b539 => ?_) (fun b539 => ?_)
    · skip
      have d539 := of_decide_eq_false b539
      refine j_iconst (v := nI 0) d_Mo_isDone_546 (by decide) ?_
      exact j_zret hκ rfl (by first | exact Or.inl rfl | exact Or.inr rfl) (by omega) (by omega) d_Mo_isDone_547 (RQ.f I536 (f528.trans f536) (by omega) (absurd (by obtain ⟨e1, -⟩ := T528 d531; omega) d539))
    · skip
      have d539 := of_decide_eq_true b539
      refine j_iconst (v := nI 1) d_Mo_isDone_542 (by decide) ?_
      refine j_goto (tgt := 547) d_Mo_isDone_543 (by decide) ?_
      exact j_zret hκ rfl (by first | exact Or.inl rfl | exact Or.inr rfl) (by omega) (by omega) d_Mo_isDone_547 (RQ.t I536 (f528.trans f536) (by omega) (by obtain ⟨rfl, rfl⟩ := T528 d531; obtain ⟨rfl, rfl⟩ := T536 d539; exact x110 d531 (by omega)))

set_option maxHeartbeats 4000000 in
set_option maxRecDepth 100000 in
theorem c_Mo_dn_111 (l : Launch) (E : mp_E) (M : mp_M) (R : Nat → Nat) (rows : Nat) (thr : Int32) (dp as_ ops : Nat) (A : Nat → am_T) (b : List Bool) (hI : RI E M R rows thr dp as_ ops A) (hR : RL R) (hd : dp + as_ ≤ 200) (hk : ops ≤ 1000) : mp_Cr l m_Mo_isDone E M 4 0 0 [.ref (R 0), .int (nI 111)] (RQ E R M rows thr b (am_op 111 (LM A dp) (LO A as_) b ops)) := by
  refine mp_Cr.of (by decide) (Nat.le_of_ble_eq_true rfl) fun Γ κ hl hκ => ?_
  subst hl
  obtain ⟨hκd, hκc, hκs, -⟩ := id hκ
  show mp_J Γ m_Mo_isDone E κ M [(0, .ref (R 0)), (1, .int (nI 111))] 0 [] 0 0
  refine j_iload_n d_Mo_isDone_0 rfl 1 rfl ?_
  refine j_bipush (v := nI 79) d_Mo_isDone_1 (by decide) ?_
  refine j_ncmp_eq 18 111 79 rfl rfl (by omega) (by omega) d_Mo_isDone_3 (by decide) (fun b3 => (by first | exact b3.elim | exact absurd b3 (by omega))) (fun b3 => ?_)
  refine j_iload_n d_Mo_isDone_6 rfl 1 rfl ?_
  refine j_bipush (v := nI 81) d_Mo_isDone_7 (by decide) ?_
  refine j_ncmp_lt 29 111 81 rfl rfl (by omega) (by omega) d_Mo_isDone_9 (by decide) (fun b9 => (by first | exact b9.elim | exact absurd b9 (by omega))) (fun b9 => ?_)
  refine j_iload_n d_Mo_isDone_12 rfl 1 rfl ?_
  refine j_bipush (v := nI 96) d_Mo_isDone_13 (by decide) ?_
  refine j_ncmp_gt 29 111 96 rfl rfl (by omega) (by omega) d_Mo_isDone_15 (by decide) (fun b15 => ?_) (fun b15 => (by first | exact b15.elim | exact absurd b15 (by omega)))
  refine j_iload_n d_Mo_isDone_29 rfl 1 rfl ?_
  refine j_sipush (v := nI 139) d_Mo_isDone_30 (by decide) ?_
  refine j_ncmp_lt 49 111 139 rfl rfl (by omega) (by omega) d_Mo_isDone_33 (by decide) (fun b33 => ?_) (fun b33 => (by first | exact b33.elim | exact absurd b33 (by omega)))
  refine j_iload_n d_Mo_isDone_49 rfl 1 rfl ?_
  refine j_tableIn 992 d_Mo_isDone_50 (by decide) (by decide) rfl (by decide) ?_
  refine j_iconst (v := nI 0) d_Mo_isDone_992 (by decide) ?_
  exact j_zret hκ rfl (by first | exact Or.inl rfl | exact Or.inr rfl) (by omega) (by omega) d_Mo_isDone_993 (RQ.f hI RFr.refl (by omega) (xn (by omega)))

set_option maxHeartbeats 4000000 in
set_option maxRecDepth 100000 in
theorem c_Mo_dn_112 (l : Launch) (E : mp_E) (M : mp_M) (R : Nat → Nat) (rows : Nat) (thr : Int32) (dp as_ ops : Nat) (A : Nat → am_T) (b : List Bool) (hI : RI E M R rows thr dp as_ ops A) (hR : RL R) (hd : dp + as_ ≤ 200) (hk : ops ≤ 1000) : mp_Cr l m_Mo_isDone E M 4 0 0 [.ref (R 0), .int (nI 112)] (RQ E R M rows thr b (am_op 112 (LM A dp) (LO A as_) b ops)) := by
  refine mp_Cr.of (by decide) (Nat.le_of_ble_eq_true rfl) fun Γ κ hl hκ => ?_
  subst hl
  obtain ⟨hκd, hκc, hκs, -⟩ := id hκ
  show mp_J Γ m_Mo_isDone E κ M [(0, .ref (R 0)), (1, .int (nI 112))] 0 [] 0 0
  refine j_iload_n d_Mo_isDone_0 rfl 1 rfl ?_
  refine j_bipush (v := nI 79) d_Mo_isDone_1 (by decide) ?_
  refine j_ncmp_eq 18 112 79 rfl rfl (by omega) (by omega) d_Mo_isDone_3 (by decide) (fun b3 => (by first | exact b3.elim | exact absurd b3 (by omega))) (fun b3 => ?_)
  refine j_iload_n d_Mo_isDone_6 rfl 1 rfl ?_
  refine j_bipush (v := nI 81) d_Mo_isDone_7 (by decide) ?_
  refine j_ncmp_lt 29 112 81 rfl rfl (by omega) (by omega) d_Mo_isDone_9 (by decide) (fun b9 => (by first | exact b9.elim | exact absurd b9 (by omega))) (fun b9 => ?_)
  refine j_iload_n d_Mo_isDone_12 rfl 1 rfl ?_
  refine j_bipush (v := nI 96) d_Mo_isDone_13 (by decide) ?_
  refine j_ncmp_gt 29 112 96 rfl rfl (by omega) (by omega) d_Mo_isDone_15 (by decide) (fun b15 => ?_) (fun b15 => (by first | exact b15.elim | exact absurd b15 (by omega)))
  refine j_iload_n d_Mo_isDone_29 rfl 1 rfl ?_
  refine j_sipush (v := nI 139) d_Mo_isDone_30 (by decide) ?_
  refine j_ncmp_lt 49 112 139 rfl rfl (by omega) (by omega) d_Mo_isDone_33 (by decide) (fun b33 => ?_) (fun b33 => (by first | exact b33.elim | exact absurd b33 (by omega)))
  refine j_iload_n d_Mo_isDone_49 rfl 1 rfl ?_
  refine j_tableIn 992 d_Mo_isDone_50 (by decide) (by decide) rfl (by decide) ?_
  refine j_iconst (v := nI 0) d_Mo_isDone_992 (by decide) ?_
  exact j_zret hκ rfl (by first | exact Or.inl rfl | exact Or.inr rfl) (by omega) (by omega) d_Mo_isDone_993 (RQ.f hI RFr.refl (by omega) (xn (by omega)))

set_option maxHeartbeats 4000000 in
set_option maxRecDepth 100000 in
theorem c_Mo_dn_113 (l : Launch) (E : mp_E) (M : mp_M) (R : Nat → Nat) (rows : Nat) (thr : Int32) (dp as_ ops : Nat) (A : Nat → am_T) (b : List Bool) (hI : RI E M R rows thr dp as_ ops A) (hR : RL R) (hd : dp + as_ ≤ 200) (hk : ops ≤ 1000) : mp_Cr l m_Mo_isDone E M 4 0 0 [.ref (R 0), .int (nI 113)] (RQ E R M rows thr b (am_op 113 (LM A dp) (LO A as_) b ops)) := by
  refine mp_Cr.of (by decide) (Nat.le_of_ble_eq_true rfl) fun Γ κ hl hκ => ?_
  subst hl
  obtain ⟨hκd, hκc, hκs, -⟩ := id hκ
  show mp_J Γ m_Mo_isDone E κ M [(0, .ref (R 0)), (1, .int (nI 113))] 0 [] 0 0
  refine j_iload_n d_Mo_isDone_0 rfl 1 rfl ?_
  refine j_bipush (v := nI 79) d_Mo_isDone_1 (by decide) ?_
  refine j_ncmp_eq 18 113 79 rfl rfl (by omega) (by omega) d_Mo_isDone_3 (by decide) (fun b3 => (by first | exact b3.elim | exact absurd b3 (by omega))) (fun b3 => ?_)
  refine j_iload_n d_Mo_isDone_6 rfl 1 rfl ?_
  refine j_bipush (v := nI 81) d_Mo_isDone_7 (by decide) ?_
  refine j_ncmp_lt 29 113 81 rfl rfl (by omega) (by omega) d_Mo_isDone_9 (by decide) (fun b9 => (by first | exact b9.elim | exact absurd b9 (by omega))) (fun b9 => ?_)
  refine j_iload_n d_Mo_isDone_12 rfl 1 rfl ?_
  refine j_bipush (v := nI 96) d_Mo_isDone_13 (by decide) ?_
  refine j_ncmp_gt 29 113 96 rfl rfl (by omega) (by omega) d_Mo_isDone_15 (by decide) (fun b15 => ?_) (fun b15 => (by first | exact b15.elim | exact absurd b15 (by omega)))
  refine j_iload_n d_Mo_isDone_29 rfl 1 rfl ?_
  refine j_sipush (v := nI 139) d_Mo_isDone_30 (by decide) ?_
  refine j_ncmp_lt 49 113 139 rfl rfl (by omega) (by omega) d_Mo_isDone_33 (by decide) (fun b33 => ?_) (fun b33 => (by first | exact b33.elim | exact absurd b33 (by omega)))
  refine j_iload_n d_Mo_isDone_49 rfl 1 rfl ?_
  refine j_tableIn 992 d_Mo_isDone_50 (by decide) (by decide) rfl (by decide) ?_
  refine j_iconst (v := nI 0) d_Mo_isDone_992 (by decide) ?_
  exact j_zret hκ rfl (by first | exact Or.inl rfl | exact Or.inr rfl) (by omega) (by omega) d_Mo_isDone_993 (RQ.f hI RFr.refl (by omega) (xn (by omega)))

set_option maxHeartbeats 4000000 in
set_option maxRecDepth 100000 in
theorem c_Mo_dn_114 (l : Launch) (E : mp_E) (M : mp_M) (R : Nat → Nat) (rows : Nat) (thr : Int32) (dp as_ ops : Nat) (A : Nat → am_T) (b : List Bool) (hI : RI E M R rows thr dp as_ ops A) (hR : RL R) (hd : dp + as_ ≤ 200) (hk : ops ≤ 1000) : mp_Cr l m_Mo_isDone E M 4 0 0 [.ref (R 0), .int (nI 114)] (RQ E R M rows thr b (am_op 114 (LM A dp) (LO A as_) b ops)) := by
  refine mp_Cr.of (by decide) (Nat.le_of_ble_eq_true rfl) fun Γ κ hl hκ => ?_
  subst hl
  obtain ⟨hκd, hκc, hκs, -⟩ := id hκ
  show mp_J Γ m_Mo_isDone E κ M [(0, .ref (R 0)), (1, .int (nI 114))] 0 [] 0 0
  refine j_iload_n d_Mo_isDone_0 rfl 1 rfl ?_
  refine j_bipush (v := nI 79) d_Mo_isDone_1 (by decide) ?_
  refine j_ncmp_eq 18 114 79 rfl rfl (by omega) (by omega) d_Mo_isDone_3 (by decide) (fun b3 => (by first | exact b3.elim | exact absurd b3 (by omega))) (fun b3 => ?_)
  refine j_iload_n d_Mo_isDone_6 rfl 1 rfl ?_
  refine j_bipush (v := nI 81) d_Mo_isDone_7 (by decide) ?_
  refine j_ncmp_lt 29 114 81 rfl rfl (by omega) (by omega) d_Mo_isDone_9 (by decide) (fun b9 => (by first | exact b9.elim | exact absurd b9 (by omega))) (fun b9 => ?_)
  refine j_iload_n d_Mo_isDone_12 rfl 1 rfl ?_
  refine j_bipush (v := nI 96) d_Mo_isDone_13 (by decide) ?_
  refine j_ncmp_gt 29 114 96 rfl rfl (by omega) (by omega) d_Mo_isDone_15 (by decide) (fun b15 => ?_) (fun b15 => (by first | exact b15.elim | exact absurd b15 (by omega)))
  refine j_iload_n d_Mo_isDone_29 rfl 1 rfl ?_
  refine j_sipush (v := nI 139) d_Mo_isDone_30 (by decide) ?_
  refine j_ncmp_lt 49 114 139 rfl rfl (by omega) (by omega) d_Mo_isDone_33 (by decide) (fun b33 => ?_) (fun b33 => (by first | exact b33.elim | exact absurd b33 (by omega)))
  refine j_iload_n d_Mo_isDone_49 rfl 1 rfl ?_
  refine j_tableIn 992 d_Mo_isDone_50 (by decide) (by decide) rfl (by decide) ?_
  refine j_iconst (v := nI 0) d_Mo_isDone_992 (by decide) ?_
  exact j_zret hκ rfl (by first | exact Or.inl rfl | exact Or.inr rfl) (by omega) (by omega) d_Mo_isDone_993 (RQ.f hI RFr.refl (by omega) (xn (by omega)))

set_option maxHeartbeats 4000000 in
set_option maxRecDepth 100000 in
theorem c_Mo_dn_115 (l : Launch) (E : mp_E) (M : mp_M) (R : Nat → Nat) (rows : Nat) (thr : Int32) (dp as_ ops : Nat) (A : Nat → am_T) (b : List Bool) (hI : RI E M R rows thr dp as_ ops A) (hR : RL R) (hd : dp + as_ ≤ 200) (hk : ops ≤ 1000) : mp_Cr l m_Mo_isDone E M 4 0 0 [.ref (R 0), .int (nI 115)] (RQ E R M rows thr b (am_op 115 (LM A dp) (LO A as_) b ops)) := by
  refine mp_Cr.of (by decide) (Nat.le_of_ble_eq_true rfl) fun Γ κ hl hκ => ?_
  subst hl
  obtain ⟨hκd, hκc, hκs, -⟩ := id hκ
  show mp_J Γ m_Mo_isDone E κ M [(0, .ref (R 0)), (1, .int (nI 115))] 0 [] 0 0
  refine j_iload_n d_Mo_isDone_0 rfl 1 rfl ?_
  refine j_bipush (v := nI 79) d_Mo_isDone_1 (by decide) ?_
  refine j_ncmp_eq 18 115 79 rfl rfl (by omega) (by omega) d_Mo_isDone_3 (by decide) (fun b3 => (by first | exact b3.elim | exact absurd b3 (by omega))) (fun b3 => ?_)
  refine j_iload_n d_Mo_isDone_6 rfl 1 rfl ?_
  refine j_bipush (v := nI 81) d_Mo_isDone_7 (by decide) ?_
  refine j_ncmp_lt 29 115 81 rfl rfl (by omega) (by omega) d_Mo_isDone_9 (by decide) (fun b9 => (by first | exact b9.elim | exact absurd b9 (by omega))) (fun b9 => ?_)
  refine j_iload_n d_Mo_isDone_12 rfl 1 rfl ?_
  refine j_bipush (v := nI 96) d_Mo_isDone_13 (by decide) ?_
  refine j_ncmp_gt 29 115 96 rfl rfl (by omega) (by omega) d_Mo_isDone_15 (by decide) (fun b15 => ?_) (fun b15 => (by first | exact b15.elim | exact absurd b15 (by omega)))
  refine j_iload_n d_Mo_isDone_29 rfl 1 rfl ?_
  refine j_sipush (v := nI 139) d_Mo_isDone_30 (by decide) ?_
  refine j_ncmp_lt 49 115 139 rfl rfl (by omega) (by omega) d_Mo_isDone_33 (by decide) (fun b33 => ?_) (fun b33 => (by first | exact b33.elim | exact absurd b33 (by omega)))
  refine j_iload_n d_Mo_isDone_49 rfl 1 rfl ?_
  refine j_tableIn 548 d_Mo_isDone_50 (by decide) (by decide) rfl (by decide) ?_
  refine j_aload_n d_Mo_isDone_548 rfl 0 rfl ?_
  refine j_iconst (v := nI 1) d_Mo_isDone_549 (by decide) ?_
  refine j_callV (As := [.int (nI 1)]) (rest := []) (c_Mo_has Γ.l E M (R 0) (R 1) rows (R 2) (R 3) (R 4) (R 5) (R 6) (R 7) (R 8) (R 9) dp as_ ops (R 10) thr 1 hI.1 (by omega) (by omega)) Y_Mo_has w_1039 w_1041 ws_35 hI.1 rfl rfl rfl (Nat.le_of_ble_eq_true rfl) (by omega) (by omega) (by omega) d_Mo_isDone_550 (fun v550 N550 p550 => ?_)
  obtain ⟨rfl, q550⟩ := p550
  obtain rfl := q550.symm
  show mp_J Γ m_Mo_isDone E κ M [(0, .ref (R 0)), (1, .int (nI 115))] 553 [.int (tf (decide (1 ≤ dp)))] 0 0
  refine j_tif_eq 581 d_Mo_isDone_553 (by decide) (fun b553 => ?_) (fun b553 => ?_)
  · skip
    have d553 := of_decide_eq_false b553
    refine j_iconst (v := nI 0) d_Mo_isDone_581 (by decide) ?_
    exact j_zret hκ rfl (by first | exact Or.inl rfl | exact Or.inr rfl) (by omega) (by omega) d_Mo_isDone_582 (RQ.f hI RFr.refl (by omega) (xf115 d553))
  · skip
    have d553 := of_decide_eq_true b553
    refine j_aload_n d_Mo_isDone_556 rfl 0 rfl ?_
    refine j_aload_n d_Mo_isDone_557 rfl 0 rfl ?_
    refine j_get F_Mo hI.1 11 (by decide) w_954 (Or.inl rfl) rfl d_Mo_isDone_558 ?_
    refine j_iconst (v := nI 1) d_Mo_isDone_561 (by decide) ?_
    refine j_isub d_Mo_isDone_562 ?_
    refine j_eqi (y := nI (dp - 1)) (pk_sub (by omega)) ?_
    refine j_callV (As := [.int (nI (dp - 1))]) (rest := []) (r_isTrue Γ.l hI (dp - 1) (by omega)) Y_Mo_isTrue w_1023 w_1025 ws_31 hI.1 rfl rfl rfl (Nat.le_of_ble_eq_true rfl) (by omega) (by omega) (by omega) d_Mo_isDone_563 (fun v563 N563 p563 => ?_)
    obtain ⟨rfl, q563⟩ := p563
    obtain rfl := q563.symm
    show mp_J Γ m_Mo_isDone E κ M [(0, .ref (R 0)), (1, .int (nI 115))] 566 [.int (tf (am_true (A (dp - 1))))] 0 0
    refine j_tif_eq 577 d_Mo_isDone_566 (by decide) (fun b566 => ?_) (fun b566 => ?_)
    · skip
      refine j_iconst (v := nI 1) d_Mo_isDone_577 (by decide) ?_
      refine j_goto (tgt := 582) d_Mo_isDone_578 (by decide) ?_
      exact j_zret hκ rfl (by first | exact Or.inl rfl | exact Or.inr rfl) (by omega) (by omega) d_Mo_isDone_582 (RQ.t hI RFr.refl (by omega) (x115f d553 b566))
    · skip
      refine j_aload_n d_Mo_isDone_569 rfl 0 rfl ?_
      refine j_iconst (v := nI 1) d_Mo_isDone_570 (by decide) ?_
      refine j_callV (As := [.int (nI 1)]) (rest := []) (r_again Γ.l hI hR 1 (by omega) (by omega)) Y_Mo_again w_1060 w_1062 ws_39 hI.1 rfl rfl rfl (Nat.le_of_ble_eq_true rfl) (by omega) (by omega) (by omega) d_Mo_isDone_571 (fun v571 N571 p571 => ?_)
      obtain ⟨d571, B571, rfl, I571, f571, T571, g571⟩ := p571
      show mp_J Γ m_Mo_isDone E κ N571 [(0, .ref (R 0)), (1, .int (nI 115))] 574 [.int (tf (decide (1 ≤ dp)))] 0 0
      refine j_tif_eq 581 d_Mo_isDone_574 (by decide) (fun b574 => ?_) (fun b574 => ?_)
      · skip
        have d574 := of_decide_eq_false b574
        refine j_iconst (v := nI 0) d_Mo_isDone_581 (by decide) ?_
        exact j_zret hκ rfl (by first | exact Or.inl rfl | exact Or.inr rfl) (by omega) (by omega) d_Mo_isDone_582 (RQ.f I571 f571 (by omega) (absurd d553 d574))
      · skip
        have d574 := of_decide_eq_true b574
        refine j_iconst (v := nI 1) d_Mo_isDone_577 (by decide) ?_
        refine j_goto (tgt := 582) d_Mo_isDone_578 (by decide) ?_
        exact j_zret hκ rfl (by first | exact Or.inl rfl | exact Or.inr rfl) (by omega) (by omega) d_Mo_isDone_582 (RQ.t I571 f571 (by omega) (by obtain ⟨rfl, rfl⟩ := T571 d574; exact x115t d553 (by omega) b566))

set_option maxHeartbeats 4000000 in
set_option maxRecDepth 100000 in
theorem c_Mo_dn_116 (l : Launch) (E : mp_E) (M : mp_M) (R : Nat → Nat) (rows : Nat) (thr : Int32) (dp as_ ops : Nat) (A : Nat → am_T) (b : List Bool) (hI : RI E M R rows thr dp as_ ops A) (hR : RL R) (hd : dp + as_ ≤ 200) (hk : ops ≤ 1000) : mp_Cr l m_Mo_isDone E M 4 0 0 [.ref (R 0), .int (nI 116)] (RQ E R M rows thr b (am_op 116 (LM A dp) (LO A as_) b ops)) := by
  refine mp_Cr.of (by decide) (Nat.le_of_ble_eq_true rfl) fun Γ κ hl hκ => ?_
  subst hl
  obtain ⟨hκd, hκc, hκs, -⟩ := id hκ
  show mp_J Γ m_Mo_isDone E κ M [(0, .ref (R 0)), (1, .int (nI 116))] 0 [] 0 0
  refine j_iload_n d_Mo_isDone_0 rfl 1 rfl ?_
  refine j_bipush (v := nI 79) d_Mo_isDone_1 (by decide) ?_
  refine j_ncmp_eq 18 116 79 rfl rfl (by omega) (by omega) d_Mo_isDone_3 (by decide) (fun b3 => (by first | exact b3.elim | exact absurd b3 (by omega))) (fun b3 => ?_)
  refine j_iload_n d_Mo_isDone_6 rfl 1 rfl ?_
  refine j_bipush (v := nI 81) d_Mo_isDone_7 (by decide) ?_
  refine j_ncmp_lt 29 116 81 rfl rfl (by omega) (by omega) d_Mo_isDone_9 (by decide) (fun b9 => (by first | exact b9.elim | exact absurd b9 (by omega))) (fun b9 => ?_)
  refine j_iload_n d_Mo_isDone_12 rfl 1 rfl ?_
  refine j_bipush (v := nI 96) d_Mo_isDone_13 (by decide) ?_
  refine j_ncmp_gt 29 116 96 rfl rfl (by omega) (by omega) d_Mo_isDone_15 (by decide) (fun b15 => ?_) (fun b15 => (by first | exact b15.elim | exact absurd b15 (by omega)))
  refine j_iload_n d_Mo_isDone_29 rfl 1 rfl ?_
  refine j_sipush (v := nI 139) d_Mo_isDone_30 (by decide) ?_
  refine j_ncmp_lt 49 116 139 rfl rfl (by omega) (by omega) d_Mo_isDone_33 (by decide) (fun b33 => ?_) (fun b33 => (by first | exact b33.elim | exact absurd b33 (by omega)))
  refine j_iload_n d_Mo_isDone_49 rfl 1 rfl ?_
  refine j_tableIn 583 d_Mo_isDone_50 (by decide) (by decide) rfl (by decide) ?_
  refine j_aload_n d_Mo_isDone_583 rfl 0 rfl ?_
  refine j_aload_n d_Mo_isDone_584 rfl 0 rfl ?_
  refine j_get F_Mo hI.1 11 (by decide) w_954 (Or.inl rfl) rfl d_Mo_isDone_585 ?_
  refine j_i2l d_Mo_isDone_588 ?_
  refine j_eql (y := lN dp) (nI_l (by omega)) ?_
  refine j_callV (As := [.long (lN dp)]) (rest := []) (r_pushNumber Γ.l hI hR (lN dp) (am_mag_lt (by rw [pk_lT (by omega)]; omega)) (by omega)) Y_Mo_pushNumber w_1031 w_1033 ws_33 hI.1 rfl rfl rfl (Nat.le_of_ble_eq_true rfl) (by omega) (by omega) (by omega) d_Mo_isDone_589 (fun v589 N589 p589 => ?_)
  obtain ⟨rfl, I589, f589⟩ := p589
  show mp_J Γ m_Mo_isDone E κ N589 [(0, .ref (R 0)), (1, .int (nI 116))] 592 [] 0 0
  refine j_iconst (v := nI 1) d_Mo_isDone_592 (by decide) ?_
  exact j_zret hκ rfl (by first | exact Or.inl rfl | exact Or.inr rfl) (by omega) (by omega) d_Mo_isDone_593 (RQ.t I589 f589 (by omega) (x116 (by omega)))

set_option maxHeartbeats 4000000 in
set_option maxRecDepth 100000 in
theorem c_Mo_dn_117 (l : Launch) (E : mp_E) (M : mp_M) (R : Nat → Nat) (rows : Nat) (thr : Int32) (dp as_ ops : Nat) (A : Nat → am_T) (b : List Bool) (hI : RI E M R rows thr dp as_ ops A) (hR : RL R) (hd : dp + as_ ≤ 200) (hk : ops ≤ 1000) : mp_Cr l m_Mo_isDone E M 4 0 0 [.ref (R 0), .int (nI 117)] (RQ E R M rows thr b (am_op 117 (LM A dp) (LO A as_) b ops)) := by
  refine mp_Cr.of (by decide) (Nat.le_of_ble_eq_true rfl) fun Γ κ hl hκ => ?_
  subst hl
  obtain ⟨hκd, hκc, hκs, -⟩ := id hκ
  show mp_J Γ m_Mo_isDone E κ M [(0, .ref (R 0)), (1, .int (nI 117))] 0 [] 0 0
  refine j_iload_n d_Mo_isDone_0 rfl 1 rfl ?_
  refine j_bipush (v := nI 79) d_Mo_isDone_1 (by decide) ?_
  refine j_ncmp_eq 18 117 79 rfl rfl (by omega) (by omega) d_Mo_isDone_3 (by decide) (fun b3 => (by first | exact b3.elim | exact absurd b3 (by omega))) (fun b3 => ?_)
  refine j_iload_n d_Mo_isDone_6 rfl 1 rfl ?_
  refine j_bipush (v := nI 81) d_Mo_isDone_7 (by decide) ?_
  refine j_ncmp_lt 29 117 81 rfl rfl (by omega) (by omega) d_Mo_isDone_9 (by decide) (fun b9 => (by first | exact b9.elim | exact absurd b9 (by omega))) (fun b9 => ?_)
  refine j_iload_n d_Mo_isDone_12 rfl 1 rfl ?_
  refine j_bipush (v := nI 96) d_Mo_isDone_13 (by decide) ?_
  refine j_ncmp_gt 29 117 96 rfl rfl (by omega) (by omega) d_Mo_isDone_15 (by decide) (fun b15 => ?_) (fun b15 => (by first | exact b15.elim | exact absurd b15 (by omega)))
  refine j_iload_n d_Mo_isDone_29 rfl 1 rfl ?_
  refine j_sipush (v := nI 139) d_Mo_isDone_30 (by decide) ?_
  refine j_ncmp_lt 49 117 139 rfl rfl (by omega) (by omega) d_Mo_isDone_33 (by decide) (fun b33 => ?_) (fun b33 => (by first | exact b33.elim | exact absurd b33 (by omega)))
  refine j_iload_n d_Mo_isDone_49 rfl 1 rfl ?_
  refine j_tableIn 594 d_Mo_isDone_50 (by decide) (by decide) rfl (by decide) ?_
  refine j_aload_n d_Mo_isDone_594 rfl 0 rfl ?_
  refine j_iconst (v := nI 1) d_Mo_isDone_595 (by decide) ?_
  refine j_callV (As := [.int (nI 1)]) (rest := []) (c_Mo_has Γ.l E M (R 0) (R 1) rows (R 2) (R 3) (R 4) (R 5) (R 6) (R 7) (R 8) (R 9) dp as_ ops (R 10) thr 1 hI.1 (by omega) (by omega)) Y_Mo_has w_1039 w_1041 ws_35 hI.1 rfl rfl rfl (Nat.le_of_ble_eq_true rfl) (by omega) (by omega) (by omega) d_Mo_isDone_596 (fun v596 N596 p596 => ?_)
  obtain ⟨rfl, q596⟩ := p596
  obtain rfl := q596.symm
  show mp_J Γ m_Mo_isDone E κ M [(0, .ref (R 0)), (1, .int (nI 117))] 599 [.int (tf (decide (1 ≤ dp)))] 0 0
  refine j_tif_ne 604 d_Mo_isDone_599 (by decide) (fun b599 => ?_) (fun b599 => ?_)
  · skip
    have d599 := of_decide_eq_true b599
    refine j_aload_n d_Mo_isDone_604 rfl 0 rfl ?_
    refine j_dup d_Mo_isDone_605 rfl ?_
    refine j_get F_Mo hI.1 11 (by decide) w_954 (Or.inl rfl) rfl d_Mo_isDone_606 ?_
    refine j_iconst (v := nI 1) d_Mo_isDone_609 (by decide) ?_
    refine j_isub d_Mo_isDone_610 ?_
    refine j_eqi (y := nI (dp - 1)) (pk_sub (by omega)) ?_
    refine j_put F_Mo hI.1 11 (by decide) w_954 (Or.inl rfl) rfl rfl rfl (Nat.le_of_ble_eq_true rfl) d_Mo_isDone_611 ?_
    show mp_J Γ m_Mo_isDone E κ (mp_up M (R 0) (mp_o 7 [.ref (R 1), .int (nI rows), .int thr, .ref (R 2), .ref (R 3), .ref (R 4), .ref (R 5), .ref (R 6), .ref (R 7), .ref (R 8), .ref (R 9), .int (nI (dp - 1)), .int (nI as_), .int (nI ops), .ref (R 10)])) [(0, .ref (R 0)), (1, .int (nI 117))] 614 [] 0 0
    generalize eM1 : mp_up M (R 0) (mp_o 7 [.ref (R 1), .int (nI rows), .int thr, .ref (R 2), .ref (R 3), .ref (R 4), .ref (R 5), .ref (R 6), .ref (R 7), .ref (R 8), .ref (R 9), .int (nI (dp - 1)), .int (nI as_), .int (nI ops), .ref (R 10)]) = M1
    have hM1__R_0_ : M1 (R 0) = some (mp_o 7 [.ref (R 1), .int (nI rows), .int thr, .ref (R 2), .ref (R 3), .ref (R 4), .ref (R 5), .ref (R 6), .ref (R 7), .ref (R 8), .ref (R 9), .int (nI (dp - 1)), .int (nI as_), .int (nI ops), .ref (R 10)]) := by rw [← eM1]; exact mp_s
    have JM1 : RI E M1 R rows thr (dp - 1) as_ ops A := hI.set hR eM1
    have fM1 : RFr R M M1 := RFr.s0 eM1
    refine j_iconst (v := nI 1) d_Mo_isDone_614 (by decide) ?_
    exact j_zret hκ rfl (by first | exact Or.inl rfl | exact Or.inr rfl) (by omega) (by omega) d_Mo_isDone_615 (RQ.t JM1 fM1 (by omega) (x117 d599))
  · skip
    have d599 := of_decide_eq_false b599
    refine j_iconst (v := nI 0) d_Mo_isDone_602 (by decide) ?_
    exact j_zret hκ rfl (by first | exact Or.inl rfl | exact Or.inr rfl) (by omega) (by omega) d_Mo_isDone_603 (RQ.f hI RFr.refl (by omega) (xf117 d599))

set_option maxHeartbeats 4000000 in
set_option maxRecDepth 100000 in
theorem c_Mo_dn_118 (l : Launch) (E : mp_E) (M : mp_M) (R : Nat → Nat) (rows : Nat) (thr : Int32) (dp as_ ops : Nat) (A : Nat → am_T) (b : List Bool) (hI : RI E M R rows thr dp as_ ops A) (hR : RL R) (hd : dp + as_ ≤ 200) (hk : ops ≤ 1000) : mp_Cr l m_Mo_isDone E M 4 0 0 [.ref (R 0), .int (nI 118)] (RQ E R M rows thr b (am_op 118 (LM A dp) (LO A as_) b ops)) := by
  refine mp_Cr.of (by decide) (Nat.le_of_ble_eq_true rfl) fun Γ κ hl hκ => ?_
  subst hl
  obtain ⟨hκd, hκc, hκs, -⟩ := id hκ
  show mp_J Γ m_Mo_isDone E κ M [(0, .ref (R 0)), (1, .int (nI 118))] 0 [] 0 0
  refine j_iload_n d_Mo_isDone_0 rfl 1 rfl ?_
  refine j_bipush (v := nI 79) d_Mo_isDone_1 (by decide) ?_
  refine j_ncmp_eq 18 118 79 rfl rfl (by omega) (by omega) d_Mo_isDone_3 (by decide) (fun b3 => (by first | exact b3.elim | exact absurd b3 (by omega))) (fun b3 => ?_)
  refine j_iload_n d_Mo_isDone_6 rfl 1 rfl ?_
  refine j_bipush (v := nI 81) d_Mo_isDone_7 (by decide) ?_
  refine j_ncmp_lt 29 118 81 rfl rfl (by omega) (by omega) d_Mo_isDone_9 (by decide) (fun b9 => (by first | exact b9.elim | exact absurd b9 (by omega))) (fun b9 => ?_)
  refine j_iload_n d_Mo_isDone_12 rfl 1 rfl ?_
  refine j_bipush (v := nI 96) d_Mo_isDone_13 (by decide) ?_
  refine j_ncmp_gt 29 118 96 rfl rfl (by omega) (by omega) d_Mo_isDone_15 (by decide) (fun b15 => ?_) (fun b15 => (by first | exact b15.elim | exact absurd b15 (by omega)))
  refine j_iload_n d_Mo_isDone_29 rfl 1 rfl ?_
  refine j_sipush (v := nI 139) d_Mo_isDone_30 (by decide) ?_
  refine j_ncmp_lt 49 118 139 rfl rfl (by omega) (by omega) d_Mo_isDone_33 (by decide) (fun b33 => ?_) (fun b33 => (by first | exact b33.elim | exact absurd b33 (by omega)))
  refine j_iload_n d_Mo_isDone_49 rfl 1 rfl ?_
  refine j_tableIn 616 d_Mo_isDone_50 (by decide) (by decide) rfl (by decide) ?_
  refine j_aload_n d_Mo_isDone_616 rfl 0 rfl ?_
  refine j_iconst (v := nI 1) d_Mo_isDone_617 (by decide) ?_
  refine j_callV (As := [.int (nI 1)]) (rest := []) (r_again Γ.l hI hR 1 (by omega) (by omega)) Y_Mo_again w_1060 w_1062 ws_39 hI.1 rfl rfl rfl (Nat.le_of_ble_eq_true rfl) (by omega) (by omega) (by omega) d_Mo_isDone_618 (fun v618 N618 p618 => ?_)
  obtain ⟨d618, B618, rfl, I618, f618, T618, g618⟩ := p618
  show mp_J Γ m_Mo_isDone E κ N618 [(0, .ref (R 0)), (1, .int (nI 118))] 621 [.int (tf (decide (1 ≤ dp)))] 0 0
  exact j_zret hκ rfl (tf_01 _) (by omega) (by omega) d_Mo_isDone_621 (RQ.ag I618 f618 (by omega) (fun z => by obtain ⟨rfl, rfl⟩ := T618 z; exact x118 z (by omega)) (fun z => xf118 z))

set_option maxHeartbeats 4000000 in
set_option maxRecDepth 100000 in
theorem c_Mo_dn_119 (l : Launch) (E : mp_E) (M : mp_M) (R : Nat → Nat) (rows : Nat) (thr : Int32) (dp as_ ops : Nat) (A : Nat → am_T) (b : List Bool) (hI : RI E M R rows thr dp as_ ops A) (hR : RL R) (hd : dp + as_ ≤ 200) (hk : ops ≤ 1000) : mp_Cr l m_Mo_isDone E M 4 0 0 [.ref (R 0), .int (nI 119)] (RQ E R M rows thr b (am_op 119 (LM A dp) (LO A as_) b ops)) := by
  refine mp_Cr.of (by decide) (Nat.le_of_ble_eq_true rfl) fun Γ κ hl hκ => ?_
  subst hl
  obtain ⟨hκd, hκc, hκs, -⟩ := id hκ
  show mp_J Γ m_Mo_isDone E κ M [(0, .ref (R 0)), (1, .int (nI 119))] 0 [] 0 0
  refine j_iload_n d_Mo_isDone_0 rfl 1 rfl ?_
  refine j_bipush (v := nI 79) d_Mo_isDone_1 (by decide) ?_
  refine j_ncmp_eq 18 119 79 rfl rfl (by omega) (by omega) d_Mo_isDone_3 (by decide) (fun b3 => (by first | exact b3.elim | exact absurd b3 (by omega))) (fun b3 => ?_)
  refine j_iload_n d_Mo_isDone_6 rfl 1 rfl ?_
  refine j_bipush (v := nI 81) d_Mo_isDone_7 (by decide) ?_
  refine j_ncmp_lt 29 119 81 rfl rfl (by omega) (by omega) d_Mo_isDone_9 (by decide) (fun b9 => (by first | exact b9.elim | exact absurd b9 (by omega))) (fun b9 => ?_)
  refine j_iload_n d_Mo_isDone_12 rfl 1 rfl ?_
  refine j_bipush (v := nI 96) d_Mo_isDone_13 (by decide) ?_
  refine j_ncmp_gt 29 119 96 rfl rfl (by omega) (by omega) d_Mo_isDone_15 (by decide) (fun b15 => ?_) (fun b15 => (by first | exact b15.elim | exact absurd b15 (by omega)))
  refine j_iload_n d_Mo_isDone_29 rfl 1 rfl ?_
  refine j_sipush (v := nI 139) d_Mo_isDone_30 (by decide) ?_
  refine j_ncmp_lt 49 119 139 rfl rfl (by omega) (by omega) d_Mo_isDone_33 (by decide) (fun b33 => ?_) (fun b33 => (by first | exact b33.elim | exact absurd b33 (by omega)))
  refine j_iload_n d_Mo_isDone_49 rfl 1 rfl ?_
  refine j_tableIn 622 d_Mo_isDone_50 (by decide) (by decide) rfl (by decide) ?_
  refine j_aload_n d_Mo_isDone_622 rfl 0 rfl ?_
  refine j_iconst (v := nI 2) d_Mo_isDone_623 (by decide) ?_
  refine j_callV (As := [.int (nI 2)]) (rest := []) (c_Mo_has Γ.l E M (R 0) (R 1) rows (R 2) (R 3) (R 4) (R 5) (R 6) (R 7) (R 8) (R 9) dp as_ ops (R 10) thr 2 hI.1 (by omega) (by omega)) Y_Mo_has w_1039 w_1041 ws_35 hI.1 rfl rfl rfl (Nat.le_of_ble_eq_true rfl) (by omega) (by omega) (by omega) d_Mo_isDone_624 (fun v624 N624 p624 => ?_)
  obtain ⟨rfl, q624⟩ := p624
  obtain rfl := q624.symm
  show mp_J Γ m_Mo_isDone E κ M [(0, .ref (R 0)), (1, .int (nI 119))] 627 [.int (tf (decide (2 ≤ dp)))] 0 0
  refine j_tif_eq 643 d_Mo_isDone_627 (by decide) (fun b627 => ?_) (fun b627 => ?_)
  · skip
    have d627 := of_decide_eq_false b627
    refine j_iconst (v := nI 0) d_Mo_isDone_643 (by decide) ?_
    exact j_zret hκ rfl (by first | exact Or.inl rfl | exact Or.inr rfl) (by omega) (by omega) d_Mo_isDone_644 (RQ.f hI RFr.refl (by omega) (xf119 d627))
  · skip
    have d627 := of_decide_eq_true b627
    refine j_aload_n d_Mo_isDone_630 rfl 0 rfl ?_
    refine j_iconst (v := nI 2) d_Mo_isDone_631 (by decide) ?_
    refine j_iconst (v := nI 0) d_Mo_isDone_632 (by decide) ?_
    refine j_callV (As := [.int (nI 2), .int (nI 0)]) (rest := []) (r_takes Γ.l E M R rows thr dp as_ ops A 2 false hI hR (by omega) (by omega)) Y_Mo_takes w_1064 w_1066 ws_40 hI.1 rfl rfl rfl (Nat.le_of_ble_eq_true rfl) (by omega) (by omega) (by omega) d_Mo_isDone_633 (fun v633 N633 p633 => ?_)
    obtain ⟨rfl, I633x, f633⟩ := p633
    have I633 : RI E N633 R rows thr (dp - 1) as_ ops (tkA A dp 2) := I633x
    show mp_J Γ m_Mo_isDone E κ N633 [(0, .ref (R 0)), (1, .int (nI 119))] 636 [.int (nI 1)] 0 0
    refine j_nif_eq 643 1 rfl (by omega) d_Mo_isDone_636 (by decide) (fun b636 => (by first | exact b636.elim | exact absurd b636 (by omega))) (fun b636 => ?_)
    refine j_iconst (v := nI 1) d_Mo_isDone_639 (by decide) ?_
    refine j_goto (tgt := 644) d_Mo_isDone_640 (by decide) ?_
    exact j_zret hκ rfl (by first | exact Or.inl rfl | exact Or.inr rfl) (by omega) (by omega) d_Mo_isDone_644 (RQ.t I633 f633 (by omega) (x119 d627 (by omega)))

set_option maxHeartbeats 4000000 in
set_option maxRecDepth 100000 in
theorem c_Mo_dn_120 (l : Launch) (E : mp_E) (M : mp_M) (R : Nat → Nat) (rows : Nat) (thr : Int32) (dp as_ ops : Nat) (A : Nat → am_T) (b : List Bool) (hI : RI E M R rows thr dp as_ ops A) (hR : RL R) (hd : dp + as_ ≤ 200) (hk : ops ≤ 1000) : mp_Cr l m_Mo_isDone E M 4 0 0 [.ref (R 0), .int (nI 120)] (RQ E R M rows thr b (am_op 120 (LM A dp) (LO A as_) b ops)) := by
  refine mp_Cr.of (by decide) (Nat.le_of_ble_eq_true rfl) fun Γ κ hl hκ => ?_
  subst hl
  obtain ⟨hκd, hκc, hκs, -⟩ := id hκ
  show mp_J Γ m_Mo_isDone E κ M [(0, .ref (R 0)), (1, .int (nI 120))] 0 [] 0 0
  refine j_iload_n d_Mo_isDone_0 rfl 1 rfl ?_
  refine j_bipush (v := nI 79) d_Mo_isDone_1 (by decide) ?_
  refine j_ncmp_eq 18 120 79 rfl rfl (by omega) (by omega) d_Mo_isDone_3 (by decide) (fun b3 => (by first | exact b3.elim | exact absurd b3 (by omega))) (fun b3 => ?_)
  refine j_iload_n d_Mo_isDone_6 rfl 1 rfl ?_
  refine j_bipush (v := nI 81) d_Mo_isDone_7 (by decide) ?_
  refine j_ncmp_lt 29 120 81 rfl rfl (by omega) (by omega) d_Mo_isDone_9 (by decide) (fun b9 => (by first | exact b9.elim | exact absurd b9 (by omega))) (fun b9 => ?_)
  refine j_iload_n d_Mo_isDone_12 rfl 1 rfl ?_
  refine j_bipush (v := nI 96) d_Mo_isDone_13 (by decide) ?_
  refine j_ncmp_gt 29 120 96 rfl rfl (by omega) (by omega) d_Mo_isDone_15 (by decide) (fun b15 => ?_) (fun b15 => (by first | exact b15.elim | exact absurd b15 (by omega)))
  refine j_iload_n d_Mo_isDone_29 rfl 1 rfl ?_
  refine j_sipush (v := nI 139) d_Mo_isDone_30 (by decide) ?_
  refine j_ncmp_lt 49 120 139 rfl rfl (by omega) (by omega) d_Mo_isDone_33 (by decide) (fun b33 => ?_) (fun b33 => (by first | exact b33.elim | exact absurd b33 (by omega)))
  refine j_iload_n d_Mo_isDone_49 rfl 1 rfl ?_
  refine j_tableIn 645 d_Mo_isDone_50 (by decide) (by decide) rfl (by decide) ?_
  refine j_aload_n d_Mo_isDone_645 rfl 0 rfl ?_
  refine j_iconst (v := nI 2) d_Mo_isDone_646 (by decide) ?_
  refine j_callV (As := [.int (nI 2)]) (rest := []) (r_again Γ.l hI hR 2 (by omega) (by omega)) Y_Mo_again w_1060 w_1062 ws_39 hI.1 rfl rfl rfl (Nat.le_of_ble_eq_true rfl) (by omega) (by omega) (by omega) d_Mo_isDone_647 (fun v647 N647 p647 => ?_)
  obtain ⟨d647, B647, rfl, I647, f647, T647, g647⟩ := p647
  show mp_J Γ m_Mo_isDone E κ N647 [(0, .ref (R 0)), (1, .int (nI 120))] 650 [.int (tf (decide (2 ≤ dp)))] 0 0
  exact j_zret hκ rfl (tf_01 _) (by omega) (by omega) d_Mo_isDone_650 (RQ.ag I647 f647 (by omega) (fun z => by obtain ⟨rfl, rfl⟩ := T647 z; exact x120 z (by omega)) (fun z => xf120 z))

set_option maxHeartbeats 4000000 in
set_option maxRecDepth 100000 in
theorem c_Mo_dn_121 (l : Launch) (E : mp_E) (M : mp_M) (R : Nat → Nat) (rows : Nat) (thr : Int32) (dp as_ ops : Nat) (A : Nat → am_T) (b : List Bool) (hI : RI E M R rows thr dp as_ ops A) (hR : RL R) (hd : dp + as_ ≤ 200) (hk : ops ≤ 1000) : mp_Cr l m_Mo_isDone E M 4 0 0 [.ref (R 0), .int (nI 121)] (RQ E R M rows thr b (am_op 121 (LM A dp) (LO A as_) b ops)) := by
  refine mp_Cr.of (by decide) (Nat.le_of_ble_eq_true rfl) fun Γ κ hl hκ => ?_
  subst hl
  obtain ⟨hκd, hκc, hκs, -⟩ := id hκ
  show mp_J Γ m_Mo_isDone E κ M [(0, .ref (R 0)), (1, .int (nI 121))] 0 [] 0 0
  refine j_iload_n d_Mo_isDone_0 rfl 1 rfl ?_
  refine j_bipush (v := nI 79) d_Mo_isDone_1 (by decide) ?_
  refine j_ncmp_eq 18 121 79 rfl rfl (by omega) (by omega) d_Mo_isDone_3 (by decide) (fun b3 => (by first | exact b3.elim | exact absurd b3 (by omega))) (fun b3 => ?_)
  refine j_iload_n d_Mo_isDone_6 rfl 1 rfl ?_
  refine j_bipush (v := nI 81) d_Mo_isDone_7 (by decide) ?_
  refine j_ncmp_lt 29 121 81 rfl rfl (by omega) (by omega) d_Mo_isDone_9 (by decide) (fun b9 => (by first | exact b9.elim | exact absurd b9 (by omega))) (fun b9 => ?_)
  refine j_iload_n d_Mo_isDone_12 rfl 1 rfl ?_
  refine j_bipush (v := nI 96) d_Mo_isDone_13 (by decide) ?_
  refine j_ncmp_gt 29 121 96 rfl rfl (by omega) (by omega) d_Mo_isDone_15 (by decide) (fun b15 => ?_) (fun b15 => (by first | exact b15.elim | exact absurd b15 (by omega)))
  refine j_iload_n d_Mo_isDone_29 rfl 1 rfl ?_
  refine j_sipush (v := nI 139) d_Mo_isDone_30 (by decide) ?_
  refine j_ncmp_lt 49 121 139 rfl rfl (by omega) (by omega) d_Mo_isDone_33 (by decide) (fun b33 => ?_) (fun b33 => (by first | exact b33.elim | exact absurd b33 (by omega)))
  refine j_iload_n d_Mo_isDone_49 rfl 1 rfl ?_
  refine j_tableIn 651 d_Mo_isDone_50 (by decide) (by decide) rfl (by decide) ?_
  refine j_aload_n d_Mo_isDone_651 rfl 0 rfl ?_
  refine j_iconst (v := nI 2) d_Mo_isDone_652 (by decide) ?_
  refine j_callV (As := [.int (nI 2)]) (rest := []) (c_Mo_has Γ.l E M (R 0) (R 1) rows (R 2) (R 3) (R 4) (R 5) (R 6) (R 7) (R 8) (R 9) dp as_ ops (R 10) thr 2 hI.1 (by omega) (by omega)) Y_Mo_has w_1039 w_1041 ws_35 hI.1 rfl rfl rfl (Nat.le_of_ble_eq_true rfl) (by omega) (by omega) (by omega) d_Mo_isDone_653 (fun v653 N653 p653 => ?_)
  obtain ⟨rfl, q653⟩ := p653
  obtain rfl := q653.symm
  show mp_J Γ m_Mo_isDone E κ M [(0, .ref (R 0)), (1, .int (nI 121))] 656 [.int (tf (decide (2 ≤ dp)))] 0 0
  refine j_tif_eq 672 d_Mo_isDone_656 (by decide) (fun b656 => ?_) (fun b656 => ?_)
  · skip
    have d656 := of_decide_eq_false b656
    refine j_iconst (v := nI 0) d_Mo_isDone_672 (by decide) ?_
    exact j_zret hκ rfl (by first | exact Or.inl rfl | exact Or.inr rfl) (by omega) (by omega) d_Mo_isDone_673 (RQ.f hI RFr.refl (by omega) (by first | exact xf121 d656 | exact xf122 d656 | exact xfn (by decide) d656 (LM_cntn (by omega) (Or.inr ⟨by omega, Or.inl d669⟩))))
  · skip
    have d656 := of_decide_eq_true b656
    refine j_aload_n d_Mo_isDone_659 rfl 0 rfl ?_
    refine j_aload_n d_Mo_isDone_660 rfl 0 rfl ?_
    refine j_get F_Mo hI.1 11 (by decide) w_954 (Or.inl rfl) rfl d_Mo_isDone_661 ?_
    refine j_iconst (v := nI 1) d_Mo_isDone_664 (by decide) ?_
    refine j_isub d_Mo_isDone_665 ?_
    refine j_eqi (y := nI (dp - 1)) (pk_sub (by omega)) ?_
    refine j_callV (As := [.int (nI (dp - 1))]) (rest := []) (r_isNumber Γ.l hI (dp - 1) (by omega)) Y_Mo_isNumber w_1043 w_1045 ws_36 hI.1 rfl rfl rfl (Nat.le_of_ble_eq_true rfl) (by omega) (by omega) (by omega) d_Mo_isDone_666 (fun v666 N666 p666 => ?_)
    obtain ⟨rfl, q666⟩ := p666
    obtain rfl := q666.symm
    show mp_J Γ m_Mo_isDone E κ M [(0, .ref (R 0)), (1, .int (nI 121))] 669 [.int (tf (decide ((A (dp - 1)).length ≤ 4)))] 0 0
    refine j_tif_ne 674 d_Mo_isDone_669 (by decide) (fun b669 => ?_) (fun b669 => ?_)
    · skip
      have d669 := of_decide_eq_true b669
      refine j_aload_n d_Mo_isDone_674 rfl 0 rfl ?_
      refine j_aload_n d_Mo_isDone_675 rfl 0 rfl ?_
      refine j_get F_Mo hI.1 11 (by decide) w_954 (Or.inl rfl) rfl d_Mo_isDone_676 ?_
      refine j_iconst (v := nI 1) d_Mo_isDone_679 (by decide) ?_
      refine j_isub d_Mo_isDone_680 ?_
      refine j_eqi (y := nI (dp - 1)) (pk_sub (by omega)) ?_
      refine j_callV (As := [.int (nI (dp - 1))]) (rest := []) (r_numberAt Γ.l hI (dp - 1) (by omega) d669) Y_Mo_numberAt w_1047 w_1049 ws_37 hI.1 rfl rfl rfl (Nat.le_of_ble_eq_true rfl) (by omega) (by omega) (by omega) d_Mo_isDone_681 (fun v681 N681 p681 => ?_)
      obtain ⟨rfl, q681⟩ := p681
      obtain rfl := q681.symm
      show mp_J Γ m_Mo_isDone E κ M [(0, .ref (R 0)), (1, .int (nI 121))] 684 [.long (am_num (A (dp - 1)))] 0 0
      refine j_lstore_n [(2, .long (am_num (A (dp - 1)))), (0, .ref (R 0)), (1, .int (nI 121))] d_Mo_isDone_684 rfl (by decide) rfl ?_
      refine j_aload_n d_Mo_isDone_685 rfl 1 rfl ?_
      refine j_dup d_Mo_isDone_686 rfl ?_
      refine j_get F_Mo hI.1 11 (by decide) w_954 (Or.inl rfl) rfl d_Mo_isDone_687 ?_
      refine j_iconst (v := nI 1) d_Mo_isDone_690 (by decide) ?_
      refine j_isub d_Mo_isDone_691 ?_
      refine j_eqi (y := nI (dp - 1)) (pk_sub (by omega)) ?_
      refine j_put F_Mo hI.1 11 (by decide) w_954 (Or.inl rfl) rfl rfl rfl (Nat.le_of_ble_eq_true rfl) d_Mo_isDone_692 ?_
      show mp_J Γ m_Mo_isDone E κ (mp_up M (R 0) (mp_o 7 [.ref (R 1), .int (nI rows), .int thr, .ref (R 2), .ref (R 3), .ref (R 4), .ref (R 5), .ref (R 6), .ref (R 7), .ref (R 8), .ref (R 9), .int (nI (dp - 1)), .int (nI as_), .int (nI ops), .ref (R 10)])) [(2, .long (am_num (A (dp - 1)))), (0, .ref (R 0)), (1, .int (nI 121))] 695 [] 0 0
      generalize eM1 : mp_up M (R 0) (mp_o 7 [.ref (R 1), .int (nI rows), .int thr, .ref (R 2), .ref (R 3), .ref (R 4), .ref (R 5), .ref (R 6), .ref (R 7), .ref (R 8), .ref (R 9), .int (nI (dp - 1)), .int (nI as_), .int (nI ops), .ref (R 10)]) = M1
      have hM1__R_0_ : M1 (R 0) = some (mp_o 7 [.ref (R 1), .int (nI rows), .int thr, .ref (R 2), .ref (R 3), .ref (R 4), .ref (R 5), .ref (R 6), .ref (R 7), .ref (R 8), .ref (R 9), .int (nI (dp - 1)), .int (nI as_), .int (nI ops), .ref (R 10)]) := by rw [← eM1]; exact mp_s
      have JM1 : RI E M1 R rows thr (dp - 1) as_ ops A := hI.set hR eM1
      have fM1 : RFr R M M1 := RFr.s0 eM1
      refine j_lload_n d_Mo_isDone_695 rfl 0 rfl ?_
      refine j_lconst (v := 0) d_Mo_isDone_696 (by decide) ?_
      refine j_lcmp d_Mo_isDone_697 ?_
      refine j_if_lt 711 d_Mo_isDone_698 (by decide) (fun b698 => ?_) (fun b698 => ?_)
      · skip
        refine j_iconst (v := nI 0) d_Mo_isDone_711 (by decide) ?_
        exact j_zret hκ rfl (by first | exact Or.inl rfl | exact Or.inr rfl) (by omega) (by omega) d_Mo_isDone_712 (RQ.f JM1 fM1 (by omega) (xfn (by decide) d656 (by first | exact LM_cntn (by omega) (Or.inr ⟨by omega, Or.inr (Or.inl ((lg_cmp_lt _ _).mp b698))⟩) | exact LM_cntn (by omega) (Or.inr ⟨by omega, Or.inr (Or.inr ⟨j, hj1, hj2, by omega⟩)⟩))))
      · skip
        obtain ⟨j, hj1, hj2⟩ := pk_lOf (fun z => b698 ((lg_cmp_lt _ _).mpr z))
        rw [hj2]
        refine j_lload_n d_Mo_isDone_701 rfl 0 rfl ?_
        refine j_aload_n d_Mo_isDone_702 rfl 1 rfl ?_
        refine j_get F_Mo hM1__R_0_ 11 (by decide) w_954 (Or.inl rfl) rfl d_Mo_isDone_703 ?_
        refine j_i2l d_Mo_isDone_706 ?_
        refine j_eql (y := lN (dp - 1)) (nI_l (by omega)) ?_
        refine j_lcmp d_Mo_isDone_707 ?_
        refine j_if_lt 713 d_Mo_isDone_708 (by decide) (fun b708 => ?_) (fun b708 => ?_)
        · skip
          have hjd : j < dp - 1 := (pk_lLT hj1 (by omega)).mp ((lg_cmp_lt _ _).mp b708)
          have hc : am_cnt (LM A dp) 0 (dp - 2) = some j := LM_cnt (by omega) d669 hj2 (by omega) (by omega)
          refine j_iload_n d_Mo_isDone_713 rfl 2 rfl ?_
          refine j_bipush (v := nI 121) d_Mo_isDone_714 (by decide) ?_
          refine j_ncmp_ne 730 121 121 rfl rfl (by omega) (by omega) d_Mo_isDone_716 (by decide) (fun b716 => (by first | exact b716.elim | exact absurd b716 (by omega))) (fun b716 => ?_)
          refine j_aload_n d_Mo_isDone_719 rfl 1 rfl ?_
          refine j_lload_n d_Mo_isDone_720 rfl 0 rfl ?_
          refine j_l2i d_Mo_isDone_721 ?_
          refine j_eqi (y := nI j) (lN_i _) ?_
          refine j_iconst (v := nI 1) d_Mo_isDone_722 (by decide) ?_
          refine j_iadd d_Mo_isDone_723 ?_
          refine j_eqi (y := nI (j + 1)) (nI_add j 1) ?_
          refine j_callV (As := [.int (nI (j + 1))]) (rest := []) (r_again Γ.l JM1 hR (j + 1) (by omega) (by omega)) Y_Mo_again w_1060 w_1062 ws_39 hM1__R_0_ rfl rfl rfl (Nat.le_of_ble_eq_true rfl) (by omega) (by omega) (by omega) d_Mo_isDone_724 (fun v724 N724 p724 => ?_)
          obtain ⟨d724, B724, rfl, I724, f724, T724, g724⟩ := p724
          show mp_J Γ m_Mo_isDone E κ N724 [(2, .long (lN j)), (0, .ref (R 0)), (1, .int (nI 121))] 727 [.int (tf (decide ((j + 1) ≤ dp - 1)))] 0 0
          refine j_goto (tgt := 739) d_Mo_isDone_727 (by decide) ?_
          exact j_zret hκ rfl (tf_01 _) (by omega) (by omega) d_Mo_isDone_739 (RQ.ag I724 (fM1.trans f724) (by omega) (fun z => by obtain ⟨rfl, rfl⟩ := T724 z; exact x121 d656 (by omega) hc (by omega)) (fun z => absurd (by omega) z))
        · skip
          have hjd : ¬ j < dp - 1 := fun z => b708 ((lg_cmp_lt _ _).mpr ((pk_lLT hj1 (by omega)).mpr z))
          refine j_iconst (v := nI 0) d_Mo_isDone_711 (by decide) ?_
          exact j_zret hκ rfl (by first | exact Or.inl rfl | exact Or.inr rfl) (by omega) (by omega) d_Mo_isDone_712 (RQ.f JM1 fM1 (by omega) (xfn (by decide) d656 (by first | exact LM_cntn (by omega) (Or.inr ⟨by omega, Or.inr (Or.inl ((lg_cmp_lt _ _).mp b698))⟩) | exact LM_cntn (by omega) (Or.inr ⟨by omega, Or.inr (Or.inr ⟨j, hj1, hj2, by omega⟩)⟩))))
    · skip
      have d669 := of_decide_eq_false b669
      refine j_iconst (v := nI 0) d_Mo_isDone_672 (by decide) ?_
      exact j_zret hκ rfl (by first | exact Or.inl rfl | exact Or.inr rfl) (by omega) (by omega) d_Mo_isDone_673 (RQ.f hI RFr.refl (by omega) (by first | exact xf121 d656 | exact xf122 d656 | exact xfn (by decide) d656 (LM_cntn (by omega) (Or.inr ⟨by omega, Or.inl d669⟩))))

set_option maxHeartbeats 4000000 in
set_option maxRecDepth 100000 in
theorem c_Mo_dn_122 (l : Launch) (E : mp_E) (M : mp_M) (R : Nat → Nat) (rows : Nat) (thr : Int32) (dp as_ ops : Nat) (A : Nat → am_T) (b : List Bool) (hI : RI E M R rows thr dp as_ ops A) (hR : RL R) (hd : dp + as_ ≤ 200) (hk : ops ≤ 1000) : mp_Cr l m_Mo_isDone E M 4 0 0 [.ref (R 0), .int (nI 122)] (RQ E R M rows thr b (am_op 122 (LM A dp) (LO A as_) b ops)) := by
  refine mp_Cr.of (by decide) (Nat.le_of_ble_eq_true rfl) fun Γ κ hl hκ => ?_
  subst hl
  obtain ⟨hκd, hκc, hκs, -⟩ := id hκ
  show mp_J Γ m_Mo_isDone E κ M [(0, .ref (R 0)), (1, .int (nI 122))] 0 [] 0 0
  refine j_iload_n d_Mo_isDone_0 rfl 1 rfl ?_
  refine j_bipush (v := nI 79) d_Mo_isDone_1 (by decide) ?_
  refine j_ncmp_eq 18 122 79 rfl rfl (by omega) (by omega) d_Mo_isDone_3 (by decide) (fun b3 => (by first | exact b3.elim | exact absurd b3 (by omega))) (fun b3 => ?_)
  refine j_iload_n d_Mo_isDone_6 rfl 1 rfl ?_
  refine j_bipush (v := nI 81) d_Mo_isDone_7 (by decide) ?_
  refine j_ncmp_lt 29 122 81 rfl rfl (by omega) (by omega) d_Mo_isDone_9 (by decide) (fun b9 => (by first | exact b9.elim | exact absurd b9 (by omega))) (fun b9 => ?_)
  refine j_iload_n d_Mo_isDone_12 rfl 1 rfl ?_
  refine j_bipush (v := nI 96) d_Mo_isDone_13 (by decide) ?_
  refine j_ncmp_gt 29 122 96 rfl rfl (by omega) (by omega) d_Mo_isDone_15 (by decide) (fun b15 => ?_) (fun b15 => (by first | exact b15.elim | exact absurd b15 (by omega)))
  refine j_iload_n d_Mo_isDone_29 rfl 1 rfl ?_
  refine j_sipush (v := nI 139) d_Mo_isDone_30 (by decide) ?_
  refine j_ncmp_lt 49 122 139 rfl rfl (by omega) (by omega) d_Mo_isDone_33 (by decide) (fun b33 => ?_) (fun b33 => (by first | exact b33.elim | exact absurd b33 (by omega)))
  refine j_iload_n d_Mo_isDone_49 rfl 1 rfl ?_
  refine j_tableIn 651 d_Mo_isDone_50 (by decide) (by decide) rfl (by decide) ?_
  refine j_aload_n d_Mo_isDone_651 rfl 0 rfl ?_
  refine j_iconst (v := nI 2) d_Mo_isDone_652 (by decide) ?_
  refine j_callV (As := [.int (nI 2)]) (rest := []) (c_Mo_has Γ.l E M (R 0) (R 1) rows (R 2) (R 3) (R 4) (R 5) (R 6) (R 7) (R 8) (R 9) dp as_ ops (R 10) thr 2 hI.1 (by omega) (by omega)) Y_Mo_has w_1039 w_1041 ws_35 hI.1 rfl rfl rfl (Nat.le_of_ble_eq_true rfl) (by omega) (by omega) (by omega) d_Mo_isDone_653 (fun v653 N653 p653 => ?_)
  obtain ⟨rfl, q653⟩ := p653
  obtain rfl := q653.symm
  show mp_J Γ m_Mo_isDone E κ M [(0, .ref (R 0)), (1, .int (nI 122))] 656 [.int (tf (decide (2 ≤ dp)))] 0 0
  refine j_tif_eq 672 d_Mo_isDone_656 (by decide) (fun b656 => ?_) (fun b656 => ?_)
  · skip
    have d656 := of_decide_eq_false b656
    refine j_iconst (v := nI 0) d_Mo_isDone_672 (by decide) ?_
    exact j_zret hκ rfl (by first | exact Or.inl rfl | exact Or.inr rfl) (by omega) (by omega) d_Mo_isDone_673 (RQ.f hI RFr.refl (by omega) (by first | exact xf121 d656 | exact xf122 d656 | exact xfn (by decide) d656 (LM_cntn (by omega) (Or.inr ⟨by omega, Or.inl d669⟩))))
  · skip
    have d656 := of_decide_eq_true b656
    refine j_aload_n d_Mo_isDone_659 rfl 0 rfl ?_
    refine j_aload_n d_Mo_isDone_660 rfl 0 rfl ?_
    refine j_get F_Mo hI.1 11 (by decide) w_954 (Or.inl rfl) rfl d_Mo_isDone_661 ?_
    refine j_iconst (v := nI 1) d_Mo_isDone_664 (by decide) ?_
    refine j_isub d_Mo_isDone_665 ?_
    refine j_eqi (y := nI (dp - 1)) (pk_sub (by omega)) ?_
    refine j_callV (As := [.int (nI (dp - 1))]) (rest := []) (r_isNumber Γ.l hI (dp - 1) (by omega)) Y_Mo_isNumber w_1043 w_1045 ws_36 hI.1 rfl rfl rfl (Nat.le_of_ble_eq_true rfl) (by omega) (by omega) (by omega) d_Mo_isDone_666 (fun v666 N666 p666 => ?_)
    obtain ⟨rfl, q666⟩ := p666
    obtain rfl := q666.symm
    show mp_J Γ m_Mo_isDone E κ M [(0, .ref (R 0)), (1, .int (nI 122))] 669 [.int (tf (decide ((A (dp - 1)).length ≤ 4)))] 0 0
    refine j_tif_ne 674 d_Mo_isDone_669 (by decide) (fun b669 => ?_) (fun b669 => ?_)
    · skip
      have d669 := of_decide_eq_true b669
      refine j_aload_n d_Mo_isDone_674 rfl 0 rfl ?_
      refine j_aload_n d_Mo_isDone_675 rfl 0 rfl ?_
      refine j_get F_Mo hI.1 11 (by decide) w_954 (Or.inl rfl) rfl d_Mo_isDone_676 ?_
      refine j_iconst (v := nI 1) d_Mo_isDone_679 (by decide) ?_
      refine j_isub d_Mo_isDone_680 ?_
      refine j_eqi (y := nI (dp - 1)) (pk_sub (by omega)) ?_
      refine j_callV (As := [.int (nI (dp - 1))]) (rest := []) (r_numberAt Γ.l hI (dp - 1) (by omega) d669) Y_Mo_numberAt w_1047 w_1049 ws_37 hI.1 rfl rfl rfl (Nat.le_of_ble_eq_true rfl) (by omega) (by omega) (by omega) d_Mo_isDone_681 (fun v681 N681 p681 => ?_)
      obtain ⟨rfl, q681⟩ := p681
      obtain rfl := q681.symm
      show mp_J Γ m_Mo_isDone E κ M [(0, .ref (R 0)), (1, .int (nI 122))] 684 [.long (am_num (A (dp - 1)))] 0 0
      refine j_lstore_n [(2, .long (am_num (A (dp - 1)))), (0, .ref (R 0)), (1, .int (nI 122))] d_Mo_isDone_684 rfl (by decide) rfl ?_
      refine j_aload_n d_Mo_isDone_685 rfl 1 rfl ?_
      refine j_dup d_Mo_isDone_686 rfl ?_
      refine j_get F_Mo hI.1 11 (by decide) w_954 (Or.inl rfl) rfl d_Mo_isDone_687 ?_
      refine j_iconst (v := nI 1) d_Mo_isDone_690 (by decide) ?_
      refine j_isub d_Mo_isDone_691 ?_
      refine j_eqi (y := nI (dp - 1)) (pk_sub (by omega)) ?_
      refine j_put F_Mo hI.1 11 (by decide) w_954 (Or.inl rfl) rfl rfl rfl (Nat.le_of_ble_eq_true rfl) d_Mo_isDone_692 ?_
      show mp_J Γ m_Mo_isDone E κ (mp_up M (R 0) (mp_o 7 [.ref (R 1), .int (nI rows), .int thr, .ref (R 2), .ref (R 3), .ref (R 4), .ref (R 5), .ref (R 6), .ref (R 7), .ref (R 8), .ref (R 9), .int (nI (dp - 1)), .int (nI as_), .int (nI ops), .ref (R 10)])) [(2, .long (am_num (A (dp - 1)))), (0, .ref (R 0)), (1, .int (nI 122))] 695 [] 0 0
      generalize eM1 : mp_up M (R 0) (mp_o 7 [.ref (R 1), .int (nI rows), .int thr, .ref (R 2), .ref (R 3), .ref (R 4), .ref (R 5), .ref (R 6), .ref (R 7), .ref (R 8), .ref (R 9), .int (nI (dp - 1)), .int (nI as_), .int (nI ops), .ref (R 10)]) = M1
      have hM1__R_0_ : M1 (R 0) = some (mp_o 7 [.ref (R 1), .int (nI rows), .int thr, .ref (R 2), .ref (R 3), .ref (R 4), .ref (R 5), .ref (R 6), .ref (R 7), .ref (R 8), .ref (R 9), .int (nI (dp - 1)), .int (nI as_), .int (nI ops), .ref (R 10)]) := by rw [← eM1]; exact mp_s
      have JM1 : RI E M1 R rows thr (dp - 1) as_ ops A := hI.set hR eM1
      have fM1 : RFr R M M1 := RFr.s0 eM1
      refine j_lload_n d_Mo_isDone_695 rfl 0 rfl ?_
      refine j_lconst (v := 0) d_Mo_isDone_696 (by decide) ?_
      refine j_lcmp d_Mo_isDone_697 ?_
      refine j_if_lt 711 d_Mo_isDone_698 (by decide) (fun b698 => ?_) (fun b698 => ?_)
      · skip
        refine j_iconst (v := nI 0) d_Mo_isDone_711 (by decide) ?_
        exact j_zret hκ rfl (by first | exact Or.inl rfl | exact Or.inr rfl) (by omega) (by omega) d_Mo_isDone_712 (RQ.f JM1 fM1 (by omega) (xfn (by decide) d656 (by first | exact LM_cntn (by omega) (Or.inr ⟨by omega, Or.inr (Or.inl ((lg_cmp_lt _ _).mp b698))⟩) | exact LM_cntn (by omega) (Or.inr ⟨by omega, Or.inr (Or.inr ⟨j, hj1, hj2, by omega⟩)⟩))))
      · skip
        obtain ⟨j, hj1, hj2⟩ := pk_lOf (fun z => b698 ((lg_cmp_lt _ _).mpr z))
        rw [hj2]
        refine j_lload_n d_Mo_isDone_701 rfl 0 rfl ?_
        refine j_aload_n d_Mo_isDone_702 rfl 1 rfl ?_
        refine j_get F_Mo hM1__R_0_ 11 (by decide) w_954 (Or.inl rfl) rfl d_Mo_isDone_703 ?_
        refine j_i2l d_Mo_isDone_706 ?_
        refine j_eql (y := lN (dp - 1)) (nI_l (by omega)) ?_
        refine j_lcmp d_Mo_isDone_707 ?_
        refine j_if_lt 713 d_Mo_isDone_708 (by decide) (fun b708 => ?_) (fun b708 => ?_)
        · skip
          have hjd : j < dp - 1 := (pk_lLT hj1 (by omega)).mp ((lg_cmp_lt _ _).mp b708)
          have hc : am_cnt (LM A dp) 0 (dp - 2) = some j := LM_cnt (by omega) d669 hj2 (by omega) (by omega)
          refine j_iload_n d_Mo_isDone_713 rfl 2 rfl ?_
          refine j_bipush (v := nI 121) d_Mo_isDone_714 (by decide) ?_
          refine j_ncmp_ne 730 122 121 rfl rfl (by omega) (by omega) d_Mo_isDone_716 (by decide) (fun b716 => ?_) (fun b716 => (by first | exact b716.elim | exact absurd b716 (by omega)))
          refine j_aload_n d_Mo_isDone_730 rfl 1 rfl ?_
          refine j_lload_n d_Mo_isDone_731 rfl 0 rfl ?_
          refine j_l2i d_Mo_isDone_732 ?_
          refine j_eqi (y := nI j) (lN_i _) ?_
          refine j_iconst (v := nI 1) d_Mo_isDone_733 (by decide) ?_
          refine j_iadd d_Mo_isDone_734 ?_
          refine j_eqi (y := nI (j + 1)) (nI_add j 1) ?_
          refine j_iconst (v := nI 1) d_Mo_isDone_735 (by decide) ?_
          refine j_callV (As := [.int (nI (j + 1)), .int (nI 1)]) (rest := []) (r_takes Γ.l E M1 R rows thr (dp - 1) as_ ops A (j + 1) true JM1 hR (by omega) (by omega)) Y_Mo_takes w_1064 w_1066 ws_40 hM1__R_0_ rfl rfl rfl (Nat.le_of_ble_eq_true rfl) (by omega) (by omega) (by omega) d_Mo_isDone_736 (fun v736 N736 p736 => ?_)
          obtain ⟨rfl, I736x, f736⟩ := p736
          have I736 : RI E N736 R rows thr (dp - 1) as_ ops (tkA A (dp - 1) (j + 1)) := I736x
          show mp_J Γ m_Mo_isDone E κ N736 [(2, .long (lN j)), (0, .ref (R 0)), (1, .int (nI 122))] 739 [.int (nI 1)] 0 0
          exact j_zret hκ rfl (by first | exact Or.inl rfl | exact Or.inr rfl) (by omega) (by omega) d_Mo_isDone_739 (RQ.t I736 (fM1.trans f736) (by omega) (x122 d656 (by omega) hc (by omega)))
        · skip
          have hjd : ¬ j < dp - 1 := fun z => b708 ((lg_cmp_lt _ _).mpr ((pk_lLT hj1 (by omega)).mpr z))
          refine j_iconst (v := nI 0) d_Mo_isDone_711 (by decide) ?_
          exact j_zret hκ rfl (by first | exact Or.inl rfl | exact Or.inr rfl) (by omega) (by omega) d_Mo_isDone_712 (RQ.f JM1 fM1 (by omega) (xfn (by decide) d656 (by first | exact LM_cntn (by omega) (Or.inr ⟨by omega, Or.inr (Or.inl ((lg_cmp_lt _ _).mp b698))⟩) | exact LM_cntn (by omega) (Or.inr ⟨by omega, Or.inr (Or.inr ⟨j, hj1, hj2, by omega⟩)⟩))))
    · skip
      have d669 := of_decide_eq_false b669
      refine j_iconst (v := nI 0) d_Mo_isDone_672 (by decide) ?_
      exact j_zret hκ rfl (by first | exact Or.inl rfl | exact Or.inr rfl) (by omega) (by omega) d_Mo_isDone_673 (RQ.f hI RFr.refl (by omega) (by first | exact xf121 d656 | exact xf122 d656 | exact xfn (by decide) d656 (LM_cntn (by omega) (Or.inr ⟨by omega, Or.inl d669⟩))))

set_option maxHeartbeats 4000000 in
set_option maxRecDepth 100000 in
theorem c_Mo_dn_123 (l : Launch) (E : mp_E) (M : mp_M) (R : Nat → Nat) (rows : Nat) (thr : Int32) (dp as_ ops : Nat) (A : Nat → am_T) (b : List Bool) (hI : RI E M R rows thr dp as_ ops A) (hR : RL R) (hd : dp + as_ ≤ 200) (hk : ops ≤ 1000) : mp_Cr l m_Mo_isDone E M 4 0 0 [.ref (R 0), .int (nI 123)] (RQ E R M rows thr b (am_op 123 (LM A dp) (LO A as_) b ops)) := by
  refine mp_Cr.of (by decide) (Nat.le_of_ble_eq_true rfl) fun Γ κ hl hκ => ?_
  subst hl
  obtain ⟨hκd, hκc, hκs, -⟩ := id hκ
  show mp_J Γ m_Mo_isDone E κ M [(0, .ref (R 0)), (1, .int (nI 123))] 0 [] 0 0
  refine j_iload_n d_Mo_isDone_0 rfl 1 rfl ?_
  refine j_bipush (v := nI 79) d_Mo_isDone_1 (by decide) ?_
  refine j_ncmp_eq 18 123 79 rfl rfl (by omega) (by omega) d_Mo_isDone_3 (by decide) (fun b3 => (by first | exact b3.elim | exact absurd b3 (by omega))) (fun b3 => ?_)
  refine j_iload_n d_Mo_isDone_6 rfl 1 rfl ?_
  refine j_bipush (v := nI 81) d_Mo_isDone_7 (by decide) ?_
  refine j_ncmp_lt 29 123 81 rfl rfl (by omega) (by omega) d_Mo_isDone_9 (by decide) (fun b9 => (by first | exact b9.elim | exact absurd b9 (by omega))) (fun b9 => ?_)
  refine j_iload_n d_Mo_isDone_12 rfl 1 rfl ?_
  refine j_bipush (v := nI 96) d_Mo_isDone_13 (by decide) ?_
  refine j_ncmp_gt 29 123 96 rfl rfl (by omega) (by omega) d_Mo_isDone_15 (by decide) (fun b15 => ?_) (fun b15 => (by first | exact b15.elim | exact absurd b15 (by omega)))
  refine j_iload_n d_Mo_isDone_29 rfl 1 rfl ?_
  refine j_sipush (v := nI 139) d_Mo_isDone_30 (by decide) ?_
  refine j_ncmp_lt 49 123 139 rfl rfl (by omega) (by omega) d_Mo_isDone_33 (by decide) (fun b33 => ?_) (fun b33 => (by first | exact b33.elim | exact absurd b33 (by omega)))
  refine j_iload_n d_Mo_isDone_49 rfl 1 rfl ?_
  refine j_tableIn 740 d_Mo_isDone_50 (by decide) (by decide) rfl (by decide) ?_
  refine j_aload_n d_Mo_isDone_740 rfl 0 rfl ?_
  refine j_iconst (v := nI 3) d_Mo_isDone_741 (by decide) ?_
  refine j_callV (As := [.int (nI 3)]) (rest := []) (c_Mo_has Γ.l E M (R 0) (R 1) rows (R 2) (R 3) (R 4) (R 5) (R 6) (R 7) (R 8) (R 9) dp as_ ops (R 10) thr 3 hI.1 (by omega) (by omega)) Y_Mo_has w_1039 w_1041 ws_35 hI.1 rfl rfl rfl (Nat.le_of_ble_eq_true rfl) (by omega) (by omega) (by omega) d_Mo_isDone_742 (fun v742 N742 p742 => ?_)
  obtain ⟨rfl, q742⟩ := p742
  obtain rfl := q742.symm
  show mp_J Γ m_Mo_isDone E κ M [(0, .ref (R 0)), (1, .int (nI 123))] 745 [.int (tf (decide (3 ≤ dp)))] 0 0
  refine j_tif_eq 761 d_Mo_isDone_745 (by decide) (fun b745 => ?_) (fun b745 => ?_)
  · skip
    have d745 := of_decide_eq_false b745
    refine j_iconst (v := nI 0) d_Mo_isDone_761 (by decide) ?_
    exact j_zret hκ rfl (by first | exact Or.inl rfl | exact Or.inr rfl) (by omega) (by omega) d_Mo_isDone_762 (RQ.f hI RFr.refl (by omega) (xf123 d745))
  · skip
    have d745 := of_decide_eq_true b745
    refine j_aload_n d_Mo_isDone_748 rfl 0 rfl ?_
    refine j_iconst (v := nI 3) d_Mo_isDone_749 (by decide) ?_
    refine j_iconst (v := nI 1) d_Mo_isDone_750 (by decide) ?_
    refine j_callV (As := [.int (nI 3), .int (nI 1)]) (rest := []) (r_takes Γ.l E M R rows thr dp as_ ops A 3 true hI hR (by omega) (by omega)) Y_Mo_takes w_1064 w_1066 ws_40 hI.1 rfl rfl rfl (Nat.le_of_ble_eq_true rfl) (by omega) (by omega) (by omega) d_Mo_isDone_751 (fun v751 N751 p751 => ?_)
    obtain ⟨rfl, I751x, f751⟩ := p751
    have I751 : RI E N751 R rows thr dp as_ ops (tkA A dp 3) := I751x
    show mp_J Γ m_Mo_isDone E κ N751 [(0, .ref (R 0)), (1, .int (nI 123))] 754 [.int (nI 1)] 0 0
    refine j_nif_eq 761 1 rfl (by omega) d_Mo_isDone_754 (by decide) (fun b754 => (by first | exact b754.elim | exact absurd b754 (by omega))) (fun b754 => ?_)
    refine j_iconst (v := nI 1) d_Mo_isDone_757 (by decide) ?_
    refine j_goto (tgt := 762) d_Mo_isDone_758 (by decide) ?_
    exact j_zret hκ rfl (by first | exact Or.inl rfl | exact Or.inr rfl) (by omega) (by omega) d_Mo_isDone_762 (RQ.t I751 f751 (by omega) (x123 d745 (by omega)))

set_option maxHeartbeats 4000000 in
set_option maxRecDepth 100000 in
theorem c_Mo_dn_124 (l : Launch) (E : mp_E) (M : mp_M) (R : Nat → Nat) (rows : Nat) (thr : Int32) (dp as_ ops : Nat) (A : Nat → am_T) (b : List Bool) (hI : RI E M R rows thr dp as_ ops A) (hR : RL R) (hd : dp + as_ ≤ 200) (hk : ops ≤ 1000) : mp_Cr l m_Mo_isDone E M 4 0 0 [.ref (R 0), .int (nI 124)] (RQ E R M rows thr b (am_op 124 (LM A dp) (LO A as_) b ops)) := by
  refine mp_Cr.of (by decide) (Nat.le_of_ble_eq_true rfl) fun Γ κ hl hκ => ?_
  subst hl
  obtain ⟨hκd, hκc, hκs, -⟩ := id hκ
  show mp_J Γ m_Mo_isDone E κ M [(0, .ref (R 0)), (1, .int (nI 124))] 0 [] 0 0
  refine j_iload_n d_Mo_isDone_0 rfl 1 rfl ?_
  refine j_bipush (v := nI 79) d_Mo_isDone_1 (by decide) ?_
  refine j_ncmp_eq 18 124 79 rfl rfl (by omega) (by omega) d_Mo_isDone_3 (by decide) (fun b3 => (by first | exact b3.elim | exact absurd b3 (by omega))) (fun b3 => ?_)
  refine j_iload_n d_Mo_isDone_6 rfl 1 rfl ?_
  refine j_bipush (v := nI 81) d_Mo_isDone_7 (by decide) ?_
  refine j_ncmp_lt 29 124 81 rfl rfl (by omega) (by omega) d_Mo_isDone_9 (by decide) (fun b9 => (by first | exact b9.elim | exact absurd b9 (by omega))) (fun b9 => ?_)
  refine j_iload_n d_Mo_isDone_12 rfl 1 rfl ?_
  refine j_bipush (v := nI 96) d_Mo_isDone_13 (by decide) ?_
  refine j_ncmp_gt 29 124 96 rfl rfl (by omega) (by omega) d_Mo_isDone_15 (by decide) (fun b15 => ?_) (fun b15 => (by first | exact b15.elim | exact absurd b15 (by omega)))
  refine j_iload_n d_Mo_isDone_29 rfl 1 rfl ?_
  refine j_sipush (v := nI 139) d_Mo_isDone_30 (by decide) ?_
  refine j_ncmp_lt 49 124 139 rfl rfl (by omega) (by omega) d_Mo_isDone_33 (by decide) (fun b33 => ?_) (fun b33 => (by first | exact b33.elim | exact absurd b33 (by omega)))
  refine j_iload_n d_Mo_isDone_49 rfl 1 rfl ?_
  refine j_tableIn 763 d_Mo_isDone_50 (by decide) (by decide) rfl (by decide) ?_
  refine j_aload_n d_Mo_isDone_763 rfl 0 rfl ?_
  refine j_iconst (v := nI 2) d_Mo_isDone_764 (by decide) ?_
  refine j_callV (As := [.int (nI 2)]) (rest := []) (c_Mo_has Γ.l E M (R 0) (R 1) rows (R 2) (R 3) (R 4) (R 5) (R 6) (R 7) (R 8) (R 9) dp as_ ops (R 10) thr 2 hI.1 (by omega) (by omega)) Y_Mo_has w_1039 w_1041 ws_35 hI.1 rfl rfl rfl (Nat.le_of_ble_eq_true rfl) (by omega) (by omega) (by omega) d_Mo_isDone_765 (fun v765 N765 p765 => ?_)
  obtain ⟨rfl, q765⟩ := p765
  obtain rfl := q765.symm
  show mp_J Γ m_Mo_isDone E κ M [(0, .ref (R 0)), (1, .int (nI 124))] 768 [.int (tf (decide (2 ≤ dp)))] 0 0
  refine j_tif_eq 784 d_Mo_isDone_768 (by decide) (fun b768 => ?_) (fun b768 => ?_)
  · skip
    have d768 := of_decide_eq_false b768
    refine j_iconst (v := nI 0) d_Mo_isDone_784 (by decide) ?_
    exact j_zret hκ rfl (by first | exact Or.inl rfl | exact Or.inr rfl) (by omega) (by omega) d_Mo_isDone_785 (RQ.f hI RFr.refl (by omega) (xf124 d768))
  · skip
    have d768 := of_decide_eq_true b768
    refine j_aload_n d_Mo_isDone_771 rfl 0 rfl ?_
    refine j_iconst (v := nI 2) d_Mo_isDone_772 (by decide) ?_
    refine j_iconst (v := nI 1) d_Mo_isDone_773 (by decide) ?_
    refine j_callV (As := [.int (nI 2), .int (nI 1)]) (rest := []) (r_takes Γ.l E M R rows thr dp as_ ops A 2 true hI hR (by omega) (by omega)) Y_Mo_takes w_1064 w_1066 ws_40 hI.1 rfl rfl rfl (Nat.le_of_ble_eq_true rfl) (by omega) (by omega) (by omega) d_Mo_isDone_774 (fun v774 N774 p774 => ?_)
    obtain ⟨rfl, I774x, f774⟩ := p774
    have I774 : RI E N774 R rows thr dp as_ ops (tkA A dp 2) := I774x
    show mp_J Γ m_Mo_isDone E κ N774 [(0, .ref (R 0)), (1, .int (nI 124))] 777 [.int (nI 1)] 0 0
    refine j_nif_eq 784 1 rfl (by omega) d_Mo_isDone_777 (by decide) (fun b777 => (by first | exact b777.elim | exact absurd b777 (by omega))) (fun b777 => ?_)
    refine j_iconst (v := nI 1) d_Mo_isDone_780 (by decide) ?_
    refine j_goto (tgt := 785) d_Mo_isDone_781 (by decide) ?_
    exact j_zret hκ rfl (by first | exact Or.inl rfl | exact Or.inr rfl) (by omega) (by omega) d_Mo_isDone_785 (RQ.t I774 f774 (by omega) (x124 d768 (by omega)))

set_option maxHeartbeats 4000000 in
set_option maxRecDepth 100000 in
theorem c_Mo_dn_125 (l : Launch) (E : mp_E) (M : mp_M) (R : Nat → Nat) (rows : Nat) (thr : Int32) (dp as_ ops : Nat) (A : Nat → am_T) (b : List Bool) (hI : RI E M R rows thr dp as_ ops A) (hR : RL R) (hd : dp + as_ ≤ 200) (hk : ops ≤ 1000) : mp_Cr l m_Mo_isDone E M 4 0 0 [.ref (R 0), .int (nI 125)] (RQ E R M rows thr b (am_op 125 (LM A dp) (LO A as_) b ops)) := by
  refine mp_Cr.of (by decide) (Nat.le_of_ble_eq_true rfl) fun Γ κ hl hκ => ?_
  subst hl
  obtain ⟨hκd, hκc, hκs, -⟩ := id hκ
  show mp_J Γ m_Mo_isDone E κ M [(0, .ref (R 0)), (1, .int (nI 125))] 0 [] 0 0
  refine j_iload_n d_Mo_isDone_0 rfl 1 rfl ?_
  refine j_bipush (v := nI 79) d_Mo_isDone_1 (by decide) ?_
  refine j_ncmp_eq 18 125 79 rfl rfl (by omega) (by omega) d_Mo_isDone_3 (by decide) (fun b3 => (by first | exact b3.elim | exact absurd b3 (by omega))) (fun b3 => ?_)
  refine j_iload_n d_Mo_isDone_6 rfl 1 rfl ?_
  refine j_bipush (v := nI 81) d_Mo_isDone_7 (by decide) ?_
  refine j_ncmp_lt 29 125 81 rfl rfl (by omega) (by omega) d_Mo_isDone_9 (by decide) (fun b9 => (by first | exact b9.elim | exact absurd b9 (by omega))) (fun b9 => ?_)
  refine j_iload_n d_Mo_isDone_12 rfl 1 rfl ?_
  refine j_bipush (v := nI 96) d_Mo_isDone_13 (by decide) ?_
  refine j_ncmp_gt 29 125 96 rfl rfl (by omega) (by omega) d_Mo_isDone_15 (by decide) (fun b15 => ?_) (fun b15 => (by first | exact b15.elim | exact absurd b15 (by omega)))
  refine j_iload_n d_Mo_isDone_29 rfl 1 rfl ?_
  refine j_sipush (v := nI 139) d_Mo_isDone_30 (by decide) ?_
  refine j_ncmp_lt 49 125 139 rfl rfl (by omega) (by omega) d_Mo_isDone_33 (by decide) (fun b33 => ?_) (fun b33 => (by first | exact b33.elim | exact absurd b33 (by omega)))
  refine j_iload_n d_Mo_isDone_49 rfl 1 rfl ?_
  refine j_tableIn 786 d_Mo_isDone_50 (by decide) (by decide) rfl (by decide) ?_
  refine j_aload_n d_Mo_isDone_786 rfl 0 rfl ?_
  refine j_iconst (v := nI 2) d_Mo_isDone_787 (by decide) ?_
  refine j_callV (As := [.int (nI 2)]) (rest := []) (c_Mo_has Γ.l E M (R 0) (R 1) rows (R 2) (R 3) (R 4) (R 5) (R 6) (R 7) (R 8) (R 9) dp as_ ops (R 10) thr 2 hI.1 (by omega) (by omega)) Y_Mo_has w_1039 w_1041 ws_35 hI.1 rfl rfl rfl (Nat.le_of_ble_eq_true rfl) (by omega) (by omega) (by omega) d_Mo_isDone_788 (fun v788 N788 p788 => ?_)
  obtain ⟨rfl, q788⟩ := p788
  obtain rfl := q788.symm
  show mp_J Γ m_Mo_isDone E κ M [(0, .ref (R 0)), (1, .int (nI 125))] 791 [.int (tf (decide (2 ≤ dp)))] 0 0
  refine j_tif_ne 796 d_Mo_isDone_791 (by decide) (fun b791 => ?_) (fun b791 => ?_)
  · skip
    have d791 := of_decide_eq_true b791
    refine j_aload_n d_Mo_isDone_796 rfl 0 rfl ?_
    refine j_aload_n d_Mo_isDone_797 rfl 0 rfl ?_
    refine j_get F_Mo hI.1 11 (by decide) w_954 (Or.inl rfl) rfl d_Mo_isDone_798 ?_
    refine j_iconst (v := nI 1) d_Mo_isDone_801 (by decide) ?_
    refine j_isub d_Mo_isDone_802 ?_
    refine j_eqi (y := nI (dp - 1)) (pk_sub (by omega)) ?_
    refine j_aload_n d_Mo_isDone_803 rfl 0 rfl ?_
    refine j_get F_Mo hI.1 11 (by decide) w_954 (Or.inl rfl) rfl d_Mo_isDone_804 ?_
    refine j_callV (As := [.int (nI (dp - 1)), .int (nI dp)]) (rest := []) (r_move Γ.l hI hR (dp - 1) dp (by omega) (by omega)) Y_Mo_move w_1056 w_1058 ws_38 hI.1 rfl rfl rfl (Nat.le_of_ble_eq_true rfl) (by omega) (by omega) (by omega) d_Mo_isDone_807 (fun v807 N807 p807 => ?_)
    obtain ⟨rfl, I807, f807⟩ := p807
    show mp_J Γ m_Mo_isDone E κ N807 [(0, .ref (R 0)), (1, .int (nI 125))] 810 [] 0 0
    refine j_aload_n d_Mo_isDone_810 rfl 0 rfl ?_
    refine j_aload_n d_Mo_isDone_811 rfl 0 rfl ?_
    refine j_get F_Mo I807.1 11 (by decide) w_954 (Or.inl rfl) rfl d_Mo_isDone_812 ?_
    refine j_iconst (v := nI 2) d_Mo_isDone_815 (by decide) ?_
    refine j_isub d_Mo_isDone_816 ?_
    refine j_eqi (y := nI (dp - 2)) (pk_sub (by omega)) ?_
    refine j_aload_n d_Mo_isDone_817 rfl 0 rfl ?_
    refine j_get F_Mo I807.1 11 (by decide) w_954 (Or.inl rfl) rfl d_Mo_isDone_818 ?_
    refine j_iconst (v := nI 1) d_Mo_isDone_821 (by decide) ?_
    refine j_isub d_Mo_isDone_822 ?_
    refine j_eqi (y := nI (dp - 1)) (pk_sub (by omega)) ?_
    refine j_callV (As := [.int (nI (dp - 2)), .int (nI (dp - 1))]) (rest := []) (r_move Γ.l I807 hR (dp - 2) (dp - 1) (by omega) (by omega)) Y_Mo_move w_1056 w_1058 ws_38 I807.1 rfl rfl rfl (Nat.le_of_ble_eq_true rfl) (by omega) (by omega) (by omega) d_Mo_isDone_823 (fun v823 N823 p823 => ?_)
    obtain ⟨rfl, I823, f823⟩ := p823
    show mp_J Γ m_Mo_isDone E κ N823 [(0, .ref (R 0)), (1, .int (nI 125))] 826 [] 0 0
    refine j_aload_n d_Mo_isDone_826 rfl 0 rfl ?_
    refine j_aload_n d_Mo_isDone_827 rfl 0 rfl ?_
    refine j_get F_Mo I823.1 11 (by decide) w_954 (Or.inl rfl) rfl d_Mo_isDone_828 ?_
    refine j_aload_n d_Mo_isDone_831 rfl 0 rfl ?_
    refine j_get F_Mo I823.1 11 (by decide) w_954 (Or.inl rfl) rfl d_Mo_isDone_832 ?_
    refine j_iconst (v := nI 2) d_Mo_isDone_835 (by decide) ?_
    refine j_isub d_Mo_isDone_836 ?_
    refine j_eqi (y := nI (dp - 2)) (pk_sub (by omega)) ?_
    refine j_callV (As := [.int (nI dp), .int (nI (dp - 2))]) (rest := []) (r_move Γ.l I823 hR dp (dp - 2) (by omega) (by omega)) Y_Mo_move w_1056 w_1058 ws_38 I823.1 rfl rfl rfl (Nat.le_of_ble_eq_true rfl) (by omega) (by omega) (by omega) d_Mo_isDone_837 (fun v837 N837 p837 => ?_)
    obtain ⟨rfl, I837, f837⟩ := p837
    show mp_J Γ m_Mo_isDone E κ N837 [(0, .ref (R 0)), (1, .int (nI 125))] 840 [] 0 0
    refine j_aload_n d_Mo_isDone_840 rfl 0 rfl ?_
    refine j_dup d_Mo_isDone_841 rfl ?_
    refine j_get F_Mo I837.1 11 (by decide) w_954 (Or.inl rfl) rfl d_Mo_isDone_842 ?_
    refine j_iconst (v := nI 1) d_Mo_isDone_845 (by decide) ?_
    refine j_iadd d_Mo_isDone_846 ?_
    refine j_eqi (y := nI (dp + 1)) (nI_add dp 1) ?_
    refine j_put F_Mo I837.1 11 (by decide) w_954 (Or.inl rfl) rfl rfl rfl (Nat.le_of_ble_eq_true rfl) d_Mo_isDone_847 ?_
    show mp_J Γ m_Mo_isDone E κ (mp_up N837 (R 0) (mp_o 7 [.ref (R 1), .int (nI rows), .int thr, .ref (R 2), .ref (R 3), .ref (R 4), .ref (R 5), .ref (R 6), .ref (R 7), .ref (R 8), .ref (R 9), .int (nI (dp + 1)), .int (nI as_), .int (nI ops), .ref (R 10)])) [(0, .ref (R 0)), (1, .int (nI 125))] 850 [] 0 0
    generalize eM1 : mp_up N837 (R 0) (mp_o 7 [.ref (R 1), .int (nI rows), .int thr, .ref (R 2), .ref (R 3), .ref (R 4), .ref (R 5), .ref (R 6), .ref (R 7), .ref (R 8), .ref (R 9), .int (nI (dp + 1)), .int (nI as_), .int (nI ops), .ref (R 10)]) = M1
    have hM1__R_0_ : M1 (R 0) = some (mp_o 7 [.ref (R 1), .int (nI rows), .int thr, .ref (R 2), .ref (R 3), .ref (R 4), .ref (R 5), .ref (R 6), .ref (R 7), .ref (R 8), .ref (R 9), .int (nI (dp + 1)), .int (nI as_), .int (nI ops), .ref (R 10)]) := by rw [← eM1]; exact mp_s
    have JM1 : RI E M1 R rows thr (dp + 1) as_ ops (upA (upA (upA A dp (A (dp - 1))) (dp - 1) ((upA A dp (A (dp - 1))) (dp - 2))) (dp - 2) ((upA (upA A dp (A (dp - 1))) (dp - 1) ((upA A dp (A (dp - 1))) (dp - 2))) dp)) := I837.set hR eM1
    have fM1 : RFr R N837 M1 := RFr.s0 eM1
    refine j_iconst (v := nI 1) d_Mo_isDone_850 (by decide) ?_
    exact j_zret hκ rfl (by first | exact Or.inl rfl | exact Or.inr rfl) (by omega) (by omega) d_Mo_isDone_851 (RQ.t JM1 (((f807.trans f823).trans f837).trans fM1) (by omega) (x125 d791 (by omega)))
  · skip
    have d791 := of_decide_eq_false b791
    refine j_iconst (v := nI 0) d_Mo_isDone_794 (by decide) ?_
    exact j_zret hκ rfl (by first | exact Or.inl rfl | exact Or.inr rfl) (by omega) (by omega) d_Mo_isDone_795 (RQ.f hI RFr.refl (by omega) (xf125 d791))

set_option maxHeartbeats 4000000 in
set_option maxRecDepth 100000 in
theorem c_Mo_dn_126 (l : Launch) (E : mp_E) (M : mp_M) (R : Nat → Nat) (rows : Nat) (thr : Int32) (dp as_ ops : Nat) (A : Nat → am_T) (b : List Bool) (hI : RI E M R rows thr dp as_ ops A) (hR : RL R) (hd : dp + as_ ≤ 200) (hk : ops ≤ 1000) : mp_Cr l m_Mo_isDone E M 4 0 0 [.ref (R 0), .int (nI 126)] (RQ E R M rows thr b (am_op 126 (LM A dp) (LO A as_) b ops)) := by
  refine mp_Cr.of (by decide) (Nat.le_of_ble_eq_true rfl) fun Γ κ hl hκ => ?_
  subst hl
  obtain ⟨hκd, hκc, hκs, -⟩ := id hκ
  show mp_J Γ m_Mo_isDone E κ M [(0, .ref (R 0)), (1, .int (nI 126))] 0 [] 0 0
  refine j_iload_n d_Mo_isDone_0 rfl 1 rfl ?_
  refine j_bipush (v := nI 79) d_Mo_isDone_1 (by decide) ?_
  refine j_ncmp_eq 18 126 79 rfl rfl (by omega) (by omega) d_Mo_isDone_3 (by decide) (fun b3 => (by first | exact b3.elim | exact absurd b3 (by omega))) (fun b3 => ?_)
  refine j_iload_n d_Mo_isDone_6 rfl 1 rfl ?_
  refine j_bipush (v := nI 81) d_Mo_isDone_7 (by decide) ?_
  refine j_ncmp_lt 29 126 81 rfl rfl (by omega) (by omega) d_Mo_isDone_9 (by decide) (fun b9 => (by first | exact b9.elim | exact absurd b9 (by omega))) (fun b9 => ?_)
  refine j_iload_n d_Mo_isDone_12 rfl 1 rfl ?_
  refine j_bipush (v := nI 96) d_Mo_isDone_13 (by decide) ?_
  refine j_ncmp_gt 29 126 96 rfl rfl (by omega) (by omega) d_Mo_isDone_15 (by decide) (fun b15 => ?_) (fun b15 => (by first | exact b15.elim | exact absurd b15 (by omega)))
  refine j_iload_n d_Mo_isDone_29 rfl 1 rfl ?_
  refine j_sipush (v := nI 139) d_Mo_isDone_30 (by decide) ?_
  refine j_ncmp_lt 49 126 139 rfl rfl (by omega) (by omega) d_Mo_isDone_33 (by decide) (fun b33 => ?_) (fun b33 => (by first | exact b33.elim | exact absurd b33 (by omega)))
  refine j_iload_n d_Mo_isDone_49 rfl 1 rfl ?_
  refine j_tableIn 992 d_Mo_isDone_50 (by decide) (by decide) rfl (by decide) ?_
  refine j_iconst (v := nI 0) d_Mo_isDone_992 (by decide) ?_
  exact j_zret hκ rfl (by first | exact Or.inl rfl | exact Or.inr rfl) (by omega) (by omega) d_Mo_isDone_993 (RQ.f hI RFr.refl (by omega) (xn (by omega)))

set_option maxHeartbeats 4000000 in
set_option maxRecDepth 100000 in
theorem c_Mo_dn_127 (l : Launch) (E : mp_E) (M : mp_M) (R : Nat → Nat) (rows : Nat) (thr : Int32) (dp as_ ops : Nat) (A : Nat → am_T) (b : List Bool) (hI : RI E M R rows thr dp as_ ops A) (hR : RL R) (hd : dp + as_ ≤ 200) (hk : ops ≤ 1000) : mp_Cr l m_Mo_isDone E M 4 0 0 [.ref (R 0), .int (nI 127)] (RQ E R M rows thr b (am_op 127 (LM A dp) (LO A as_) b ops)) := by
  refine mp_Cr.of (by decide) (Nat.le_of_ble_eq_true rfl) fun Γ κ hl hκ => ?_
  subst hl
  obtain ⟨hκd, hκc, hκs, -⟩ := id hκ
  show mp_J Γ m_Mo_isDone E κ M [(0, .ref (R 0)), (1, .int (nI 127))] 0 [] 0 0
  refine j_iload_n d_Mo_isDone_0 rfl 1 rfl ?_
  refine j_bipush (v := nI 79) d_Mo_isDone_1 (by decide) ?_
  refine j_ncmp_eq 18 127 79 rfl rfl (by omega) (by omega) d_Mo_isDone_3 (by decide) (fun b3 => (by first | exact b3.elim | exact absurd b3 (by omega))) (fun b3 => ?_)
  refine j_iload_n d_Mo_isDone_6 rfl 1 rfl ?_
  refine j_bipush (v := nI 81) d_Mo_isDone_7 (by decide) ?_
  refine j_ncmp_lt 29 127 81 rfl rfl (by omega) (by omega) d_Mo_isDone_9 (by decide) (fun b9 => (by first | exact b9.elim | exact absurd b9 (by omega))) (fun b9 => ?_)
  refine j_iload_n d_Mo_isDone_12 rfl 1 rfl ?_
  refine j_bipush (v := nI 96) d_Mo_isDone_13 (by decide) ?_
  refine j_ncmp_gt 29 127 96 rfl rfl (by omega) (by omega) d_Mo_isDone_15 (by decide) (fun b15 => ?_) (fun b15 => (by first | exact b15.elim | exact absurd b15 (by omega)))
  refine j_iload_n d_Mo_isDone_29 rfl 1 rfl ?_
  refine j_sipush (v := nI 139) d_Mo_isDone_30 (by decide) ?_
  refine j_ncmp_lt 49 127 139 rfl rfl (by omega) (by omega) d_Mo_isDone_33 (by decide) (fun b33 => ?_) (fun b33 => (by first | exact b33.elim | exact absurd b33 (by omega)))
  refine j_iload_n d_Mo_isDone_49 rfl 1 rfl ?_
  refine j_tableIn 992 d_Mo_isDone_50 (by decide) (by decide) rfl (by decide) ?_
  refine j_iconst (v := nI 0) d_Mo_isDone_992 (by decide) ?_
  exact j_zret hκ rfl (by first | exact Or.inl rfl | exact Or.inr rfl) (by omega) (by omega) d_Mo_isDone_993 (RQ.f hI RFr.refl (by omega) (xn (by omega)))

set_option maxHeartbeats 4000000 in
set_option maxRecDepth 100000 in
theorem c_Mo_dn_128 (l : Launch) (E : mp_E) (M : mp_M) (R : Nat → Nat) (rows : Nat) (thr : Int32) (dp as_ ops : Nat) (A : Nat → am_T) (b : List Bool) (hI : RI E M R rows thr dp as_ ops A) (hR : RL R) (hd : dp + as_ ≤ 200) (hk : ops ≤ 1000) : mp_Cr l m_Mo_isDone E M 4 0 0 [.ref (R 0), .int (nI 128)] (RQ E R M rows thr b (am_op 128 (LM A dp) (LO A as_) b ops)) := by
  refine mp_Cr.of (by decide) (Nat.le_of_ble_eq_true rfl) fun Γ κ hl hκ => ?_
  subst hl
  obtain ⟨hκd, hκc, hκs, -⟩ := id hκ
  show mp_J Γ m_Mo_isDone E κ M [(0, .ref (R 0)), (1, .int (nI 128))] 0 [] 0 0
  refine j_iload_n d_Mo_isDone_0 rfl 1 rfl ?_
  refine j_bipush (v := nI 79) d_Mo_isDone_1 (by decide) ?_
  refine j_ncmp_eq 18 128 79 rfl rfl (by omega) (by omega) d_Mo_isDone_3 (by decide) (fun b3 => (by first | exact b3.elim | exact absurd b3 (by omega))) (fun b3 => ?_)
  refine j_iload_n d_Mo_isDone_6 rfl 1 rfl ?_
  refine j_bipush (v := nI 81) d_Mo_isDone_7 (by decide) ?_
  refine j_ncmp_lt 29 128 81 rfl rfl (by omega) (by omega) d_Mo_isDone_9 (by decide) (fun b9 => (by first | exact b9.elim | exact absurd b9 (by omega))) (fun b9 => ?_)
  refine j_iload_n d_Mo_isDone_12 rfl 1 rfl ?_
  refine j_bipush (v := nI 96) d_Mo_isDone_13 (by decide) ?_
  refine j_ncmp_gt 29 128 96 rfl rfl (by omega) (by omega) d_Mo_isDone_15 (by decide) (fun b15 => ?_) (fun b15 => (by first | exact b15.elim | exact absurd b15 (by omega)))
  refine j_iload_n d_Mo_isDone_29 rfl 1 rfl ?_
  refine j_sipush (v := nI 139) d_Mo_isDone_30 (by decide) ?_
  refine j_ncmp_lt 49 128 139 rfl rfl (by omega) (by omega) d_Mo_isDone_33 (by decide) (fun b33 => ?_) (fun b33 => (by first | exact b33.elim | exact absurd b33 (by omega)))
  refine j_iload_n d_Mo_isDone_49 rfl 1 rfl ?_
  refine j_tableIn 992 d_Mo_isDone_50 (by decide) (by decide) rfl (by decide) ?_
  refine j_iconst (v := nI 0) d_Mo_isDone_992 (by decide) ?_
  exact j_zret hκ rfl (by first | exact Or.inl rfl | exact Or.inr rfl) (by omega) (by omega) d_Mo_isDone_993 (RQ.f hI RFr.refl (by omega) (xn (by omega)))

set_option maxHeartbeats 4000000 in
set_option maxRecDepth 100000 in
theorem c_Mo_dn_129 (l : Launch) (E : mp_E) (M : mp_M) (R : Nat → Nat) (rows : Nat) (thr : Int32) (dp as_ ops : Nat) (A : Nat → am_T) (b : List Bool) (hI : RI E M R rows thr dp as_ ops A) (hR : RL R) (hd : dp + as_ ≤ 200) (hk : ops ≤ 1000) : mp_Cr l m_Mo_isDone E M 4 0 0 [.ref (R 0), .int (nI 129)] (RQ E R M rows thr b (am_op 129 (LM A dp) (LO A as_) b ops)) := by
  refine mp_Cr.of (by decide) (Nat.le_of_ble_eq_true rfl) fun Γ κ hl hκ => ?_
  subst hl
  obtain ⟨hκd, hκc, hκs, -⟩ := id hκ
  show mp_J Γ m_Mo_isDone E κ M [(0, .ref (R 0)), (1, .int (nI 129))] 0 [] 0 0
  refine j_iload_n d_Mo_isDone_0 rfl 1 rfl ?_
  refine j_bipush (v := nI 79) d_Mo_isDone_1 (by decide) ?_
  refine j_ncmp_eq 18 129 79 rfl rfl (by omega) (by omega) d_Mo_isDone_3 (by decide) (fun b3 => (by first | exact b3.elim | exact absurd b3 (by omega))) (fun b3 => ?_)
  refine j_iload_n d_Mo_isDone_6 rfl 1 rfl ?_
  refine j_bipush (v := nI 81) d_Mo_isDone_7 (by decide) ?_
  refine j_ncmp_lt 29 129 81 rfl rfl (by omega) (by omega) d_Mo_isDone_9 (by decide) (fun b9 => (by first | exact b9.elim | exact absurd b9 (by omega))) (fun b9 => ?_)
  refine j_iload_n d_Mo_isDone_12 rfl 1 rfl ?_
  refine j_bipush (v := nI 96) d_Mo_isDone_13 (by decide) ?_
  refine j_ncmp_gt 29 129 96 rfl rfl (by omega) (by omega) d_Mo_isDone_15 (by decide) (fun b15 => ?_) (fun b15 => (by first | exact b15.elim | exact absurd b15 (by omega)))
  refine j_iload_n d_Mo_isDone_29 rfl 1 rfl ?_
  refine j_sipush (v := nI 139) d_Mo_isDone_30 (by decide) ?_
  refine j_ncmp_lt 49 129 139 rfl rfl (by omega) (by omega) d_Mo_isDone_33 (by decide) (fun b33 => ?_) (fun b33 => (by first | exact b33.elim | exact absurd b33 (by omega)))
  refine j_iload_n d_Mo_isDone_49 rfl 1 rfl ?_
  refine j_tableIn 992 d_Mo_isDone_50 (by decide) (by decide) rfl (by decide) ?_
  refine j_iconst (v := nI 0) d_Mo_isDone_992 (by decide) ?_
  exact j_zret hκ rfl (by first | exact Or.inl rfl | exact Or.inr rfl) (by omega) (by omega) d_Mo_isDone_993 (RQ.f hI RFr.refl (by omega) (xn (by omega)))

set_option maxHeartbeats 4000000 in
set_option maxRecDepth 100000 in
theorem c_Mo_dn_130 (l : Launch) (E : mp_E) (M : mp_M) (R : Nat → Nat) (rows : Nat) (thr : Int32) (dp as_ ops : Nat) (A : Nat → am_T) (b : List Bool) (hI : RI E M R rows thr dp as_ ops A) (hR : RL R) (hd : dp + as_ ≤ 200) (hk : ops ≤ 1000) : mp_Cr l m_Mo_isDone E M 4 0 0 [.ref (R 0), .int (nI 130)] (RQ E R M rows thr b (am_op 130 (LM A dp) (LO A as_) b ops)) := by
  refine mp_Cr.of (by decide) (Nat.le_of_ble_eq_true rfl) fun Γ κ hl hκ => ?_
  subst hl
  obtain ⟨hκd, hκc, hκs, -⟩ := id hκ
  show mp_J Γ m_Mo_isDone E κ M [(0, .ref (R 0)), (1, .int (nI 130))] 0 [] 0 0
  refine j_iload_n d_Mo_isDone_0 rfl 1 rfl ?_
  refine j_bipush (v := nI 79) d_Mo_isDone_1 (by decide) ?_
  refine j_ncmp_eq 18 130 79 rfl rfl (by omega) (by omega) d_Mo_isDone_3 (by decide) (fun b3 => (by first | exact b3.elim | exact absurd b3 (by omega))) (fun b3 => ?_)
  refine j_iload_n d_Mo_isDone_6 rfl 1 rfl ?_
  refine j_bipush (v := nI 81) d_Mo_isDone_7 (by decide) ?_
  refine j_ncmp_lt 29 130 81 rfl rfl (by omega) (by omega) d_Mo_isDone_9 (by decide) (fun b9 => (by first | exact b9.elim | exact absurd b9 (by omega))) (fun b9 => ?_)
  refine j_iload_n d_Mo_isDone_12 rfl 1 rfl ?_
  refine j_bipush (v := nI 96) d_Mo_isDone_13 (by decide) ?_
  refine j_ncmp_gt 29 130 96 rfl rfl (by omega) (by omega) d_Mo_isDone_15 (by decide) (fun b15 => ?_) (fun b15 => (by first | exact b15.elim | exact absurd b15 (by omega)))
  refine j_iload_n d_Mo_isDone_29 rfl 1 rfl ?_
  refine j_sipush (v := nI 139) d_Mo_isDone_30 (by decide) ?_
  refine j_ncmp_lt 49 130 139 rfl rfl (by omega) (by omega) d_Mo_isDone_33 (by decide) (fun b33 => ?_) (fun b33 => (by first | exact b33.elim | exact absurd b33 (by omega)))
  refine j_iload_n d_Mo_isDone_49 rfl 1 rfl ?_
  refine j_tableIn 852 d_Mo_isDone_50 (by decide) (by decide) rfl (by decide) ?_
  refine j_aload_n d_Mo_isDone_852 rfl 0 rfl ?_
  refine j_iconst (v := nI 1) d_Mo_isDone_853 (by decide) ?_
  refine j_callV (As := [.int (nI 1)]) (rest := []) (c_Mo_has Γ.l E M (R 0) (R 1) rows (R 2) (R 3) (R 4) (R 5) (R 6) (R 7) (R 8) (R 9) dp as_ ops (R 10) thr 1 hI.1 (by omega) (by omega)) Y_Mo_has w_1039 w_1041 ws_35 hI.1 rfl rfl rfl (Nat.le_of_ble_eq_true rfl) (by omega) (by omega) (by omega) d_Mo_isDone_854 (fun v854 N854 p854 => ?_)
  obtain ⟨rfl, q854⟩ := p854
  obtain rfl := q854.symm
  show mp_J Γ m_Mo_isDone E κ M [(0, .ref (R 0)), (1, .int (nI 130))] 857 [.int (tf (decide (1 ≤ dp)))] 0 0
  refine j_tif_ne 862 d_Mo_isDone_857 (by decide) (fun b857 => ?_) (fun b857 => ?_)
  · skip
    have d857 := of_decide_eq_true b857
    refine j_aload_n d_Mo_isDone_862 rfl 0 rfl ?_
    refine j_aload_n d_Mo_isDone_863 rfl 0 rfl ?_
    refine j_get F_Mo hI.1 10 (by decide) w_953 (Or.inl rfl) rfl d_Mo_isDone_864 ?_
    refine j_aload_n d_Mo_isDone_867 rfl 0 rfl ?_
    refine j_get F_Mo hI.1 11 (by decide) w_954 (Or.inl rfl) rfl d_Mo_isDone_868 ?_
    refine j_iconst (v := nI 1) d_Mo_isDone_871 (by decide) ?_
    refine j_isub d_Mo_isDone_872 ?_
    refine j_eqi (y := nI (dp - 1)) (pk_sub (by omega)) ?_
    obtain ⟨T, Z, t1, t2, t3, t4⟩ := hI.ra
    have tl := (t4 (dp - 1) (by omega)).2.1
    refine j_iald t2 (dp - 1) rfl (by omega) (by omega) d_Mo_isDone_873 ?_
    refine j_eqi (y := nI (A (dp - 1)).length) (t4 (dp - 1) (by omega)).1 ?_
    refine j_i2l d_Mo_isDone_874 ?_
    refine j_eql (y := lN (A (dp - 1)).length) (nI_l (by omega)) ?_
    refine j_callV (As := [.long (lN (A (dp - 1)).length)]) (rest := []) (r_pushNumber Γ.l hI hR (lN (A (dp - 1)).length) (am_mag_lt (by rw [pk_lT (by omega)]; omega)) (by omega)) Y_Mo_pushNumber w_1031 w_1033 ws_33 hI.1 rfl rfl rfl (Nat.le_of_ble_eq_true rfl) (by omega) (by omega) (by omega) d_Mo_isDone_875 (fun v875 N875 p875 => ?_)
    obtain ⟨rfl, I875, f875⟩ := p875
    show mp_J Γ m_Mo_isDone E κ N875 [(0, .ref (R 0)), (1, .int (nI 130))] 878 [] 0 0
    refine j_iconst (v := nI 1) d_Mo_isDone_878 (by decide) ?_
    exact j_zret hκ rfl (by first | exact Or.inl rfl | exact Or.inr rfl) (by omega) (by omega) d_Mo_isDone_879 (RQ.t I875 f875 (by omega) (x130 d857 (by omega)))
  · skip
    have d857 := of_decide_eq_false b857
    refine j_iconst (v := nI 0) d_Mo_isDone_860 (by decide) ?_
    exact j_zret hκ rfl (by first | exact Or.inl rfl | exact Or.inr rfl) (by omega) (by omega) d_Mo_isDone_861 (RQ.f hI RFr.refl (by omega) (xf130 d857))

set_option maxHeartbeats 4000000 in
set_option maxRecDepth 100000 in
theorem c_Mo_dn_131 (l : Launch) (E : mp_E) (M : mp_M) (R : Nat → Nat) (rows : Nat) (thr : Int32) (dp as_ ops : Nat) (A : Nat → am_T) (b : List Bool) (hI : RI E M R rows thr dp as_ ops A) (hR : RL R) (hd : dp + as_ ≤ 200) (hk : ops ≤ 1000) : mp_Cr l m_Mo_isDone E M 4 0 0 [.ref (R 0), .int (nI 131)] (RQ E R M rows thr b (am_op 131 (LM A dp) (LO A as_) b ops)) := by
  refine mp_Cr.of (by decide) (Nat.le_of_ble_eq_true rfl) fun Γ κ hl hκ => ?_
  subst hl
  obtain ⟨hκd, hκc, hκs, -⟩ := id hκ
  show mp_J Γ m_Mo_isDone E κ M [(0, .ref (R 0)), (1, .int (nI 131))] 0 [] 0 0
  refine j_iload_n d_Mo_isDone_0 rfl 1 rfl ?_
  refine j_bipush (v := nI 79) d_Mo_isDone_1 (by decide) ?_
  refine j_ncmp_eq 18 131 79 rfl rfl (by omega) (by omega) d_Mo_isDone_3 (by decide) (fun b3 => (by first | exact b3.elim | exact absurd b3 (by omega))) (fun b3 => ?_)
  refine j_iload_n d_Mo_isDone_6 rfl 1 rfl ?_
  refine j_bipush (v := nI 81) d_Mo_isDone_7 (by decide) ?_
  refine j_ncmp_lt 29 131 81 rfl rfl (by omega) (by omega) d_Mo_isDone_9 (by decide) (fun b9 => (by first | exact b9.elim | exact absurd b9 (by omega))) (fun b9 => ?_)
  refine j_iload_n d_Mo_isDone_12 rfl 1 rfl ?_
  refine j_bipush (v := nI 96) d_Mo_isDone_13 (by decide) ?_
  refine j_ncmp_gt 29 131 96 rfl rfl (by omega) (by omega) d_Mo_isDone_15 (by decide) (fun b15 => ?_) (fun b15 => (by first | exact b15.elim | exact absurd b15 (by omega)))
  refine j_iload_n d_Mo_isDone_29 rfl 1 rfl ?_
  refine j_sipush (v := nI 139) d_Mo_isDone_30 (by decide) ?_
  refine j_ncmp_lt 49 131 139 rfl rfl (by omega) (by omega) d_Mo_isDone_33 (by decide) (fun b33 => ?_) (fun b33 => (by first | exact b33.elim | exact absurd b33 (by omega)))
  refine j_iload_n d_Mo_isDone_49 rfl 1 rfl ?_
  refine j_tableIn 992 d_Mo_isDone_50 (by decide) (by decide) rfl (by decide) ?_
  refine j_iconst (v := nI 0) d_Mo_isDone_992 (by decide) ?_
  exact j_zret hκ rfl (by first | exact Or.inl rfl | exact Or.inr rfl) (by omega) (by omega) d_Mo_isDone_993 (RQ.f hI RFr.refl (by omega) (xn (by omega)))

set_option maxHeartbeats 4000000 in
set_option maxRecDepth 100000 in
theorem c_Mo_dn_132 (l : Launch) (E : mp_E) (M : mp_M) (R : Nat → Nat) (rows : Nat) (thr : Int32) (dp as_ ops : Nat) (A : Nat → am_T) (b : List Bool) (hI : RI E M R rows thr dp as_ ops A) (hR : RL R) (hd : dp + as_ ≤ 200) (hk : ops ≤ 1000) : mp_Cr l m_Mo_isDone E M 4 0 0 [.ref (R 0), .int (nI 132)] (RQ E R M rows thr b (am_op 132 (LM A dp) (LO A as_) b ops)) := by
  refine mp_Cr.of (by decide) (Nat.le_of_ble_eq_true rfl) fun Γ κ hl hκ => ?_
  subst hl
  obtain ⟨hκd, hκc, hκs, -⟩ := id hκ
  show mp_J Γ m_Mo_isDone E κ M [(0, .ref (R 0)), (1, .int (nI 132))] 0 [] 0 0
  refine j_iload_n d_Mo_isDone_0 rfl 1 rfl ?_
  refine j_bipush (v := nI 79) d_Mo_isDone_1 (by decide) ?_
  refine j_ncmp_eq 18 132 79 rfl rfl (by omega) (by omega) d_Mo_isDone_3 (by decide) (fun b3 => (by first | exact b3.elim | exact absurd b3 (by omega))) (fun b3 => ?_)
  refine j_iload_n d_Mo_isDone_6 rfl 1 rfl ?_
  refine j_bipush (v := nI 81) d_Mo_isDone_7 (by decide) ?_
  refine j_ncmp_lt 29 132 81 rfl rfl (by omega) (by omega) d_Mo_isDone_9 (by decide) (fun b9 => (by first | exact b9.elim | exact absurd b9 (by omega))) (fun b9 => ?_)
  refine j_iload_n d_Mo_isDone_12 rfl 1 rfl ?_
  refine j_bipush (v := nI 96) d_Mo_isDone_13 (by decide) ?_
  refine j_ncmp_gt 29 132 96 rfl rfl (by omega) (by omega) d_Mo_isDone_15 (by decide) (fun b15 => ?_) (fun b15 => (by first | exact b15.elim | exact absurd b15 (by omega)))
  refine j_iload_n d_Mo_isDone_29 rfl 1 rfl ?_
  refine j_sipush (v := nI 139) d_Mo_isDone_30 (by decide) ?_
  refine j_ncmp_lt 49 132 139 rfl rfl (by omega) (by omega) d_Mo_isDone_33 (by decide) (fun b33 => ?_) (fun b33 => (by first | exact b33.elim | exact absurd b33 (by omega)))
  refine j_iload_n d_Mo_isDone_49 rfl 1 rfl ?_
  refine j_tableIn 992 d_Mo_isDone_50 (by decide) (by decide) rfl (by decide) ?_
  refine j_iconst (v := nI 0) d_Mo_isDone_992 (by decide) ?_
  exact j_zret hκ rfl (by first | exact Or.inl rfl | exact Or.inr rfl) (by omega) (by omega) d_Mo_isDone_993 (RQ.f hI RFr.refl (by omega) (xn (by omega)))

set_option maxHeartbeats 4000000 in
set_option maxRecDepth 100000 in
theorem c_Mo_dn_133 (l : Launch) (E : mp_E) (M : mp_M) (R : Nat → Nat) (rows : Nat) (thr : Int32) (dp as_ ops : Nat) (A : Nat → am_T) (b : List Bool) (hI : RI E M R rows thr dp as_ ops A) (hR : RL R) (hd : dp + as_ ≤ 200) (hk : ops ≤ 1000) : mp_Cr l m_Mo_isDone E M 4 0 0 [.ref (R 0), .int (nI 133)] (RQ E R M rows thr b (am_op 133 (LM A dp) (LO A as_) b ops)) := by
  refine mp_Cr.of (by decide) (Nat.le_of_ble_eq_true rfl) fun Γ κ hl hκ => ?_
  subst hl
  obtain ⟨hκd, hκc, hκs, -⟩ := id hκ
  show mp_J Γ m_Mo_isDone E κ M [(0, .ref (R 0)), (1, .int (nI 133))] 0 [] 0 0
  refine j_iload_n d_Mo_isDone_0 rfl 1 rfl ?_
  refine j_bipush (v := nI 79) d_Mo_isDone_1 (by decide) ?_
  refine j_ncmp_eq 18 133 79 rfl rfl (by omega) (by omega) d_Mo_isDone_3 (by decide) (fun b3 => (by first | exact b3.elim | exact absurd b3 (by omega))) (fun b3 => ?_)
  refine j_iload_n d_Mo_isDone_6 rfl 1 rfl ?_
  refine j_bipush (v := nI 81) d_Mo_isDone_7 (by decide) ?_
  refine j_ncmp_lt 29 133 81 rfl rfl (by omega) (by omega) d_Mo_isDone_9 (by decide) (fun b9 => (by first | exact b9.elim | exact absurd b9 (by omega))) (fun b9 => ?_)
  refine j_iload_n d_Mo_isDone_12 rfl 1 rfl ?_
  refine j_bipush (v := nI 96) d_Mo_isDone_13 (by decide) ?_
  refine j_ncmp_gt 29 133 96 rfl rfl (by omega) (by omega) d_Mo_isDone_15 (by decide) (fun b15 => ?_) (fun b15 => (by first | exact b15.elim | exact absurd b15 (by omega)))
  refine j_iload_n d_Mo_isDone_29 rfl 1 rfl ?_
  refine j_sipush (v := nI 139) d_Mo_isDone_30 (by decide) ?_
  refine j_ncmp_lt 49 133 139 rfl rfl (by omega) (by omega) d_Mo_isDone_33 (by decide) (fun b33 => ?_) (fun b33 => (by first | exact b33.elim | exact absurd b33 (by omega)))
  refine j_iload_n d_Mo_isDone_49 rfl 1 rfl ?_
  refine j_tableIn 992 d_Mo_isDone_50 (by decide) (by decide) rfl (by decide) ?_
  refine j_iconst (v := nI 0) d_Mo_isDone_992 (by decide) ?_
  exact j_zret hκ rfl (by first | exact Or.inl rfl | exact Or.inr rfl) (by omega) (by omega) d_Mo_isDone_993 (RQ.f hI RFr.refl (by omega) (xn (by omega)))

set_option maxHeartbeats 4000000 in
set_option maxRecDepth 100000 in
theorem c_Mo_dn_134 (l : Launch) (E : mp_E) (M : mp_M) (R : Nat → Nat) (rows : Nat) (thr : Int32) (dp as_ ops : Nat) (A : Nat → am_T) (b : List Bool) (hI : RI E M R rows thr dp as_ ops A) (hR : RL R) (hd : dp + as_ ≤ 200) (hk : ops ≤ 1000) : mp_Cr l m_Mo_isDone E M 4 0 0 [.ref (R 0), .int (nI 134)] (RQ E R M rows thr b (am_op 134 (LM A dp) (LO A as_) b ops)) := by
  refine mp_Cr.of (by decide) (Nat.le_of_ble_eq_true rfl) fun Γ κ hl hκ => ?_
  subst hl
  obtain ⟨hκd, hκc, hκs, -⟩ := id hκ
  show mp_J Γ m_Mo_isDone E κ M [(0, .ref (R 0)), (1, .int (nI 134))] 0 [] 0 0
  refine j_iload_n d_Mo_isDone_0 rfl 1 rfl ?_
  refine j_bipush (v := nI 79) d_Mo_isDone_1 (by decide) ?_
  refine j_ncmp_eq 18 134 79 rfl rfl (by omega) (by omega) d_Mo_isDone_3 (by decide) (fun b3 => (by first | exact b3.elim | exact absurd b3 (by omega))) (fun b3 => ?_)
  refine j_iload_n d_Mo_isDone_6 rfl 1 rfl ?_
  refine j_bipush (v := nI 81) d_Mo_isDone_7 (by decide) ?_
  refine j_ncmp_lt 29 134 81 rfl rfl (by omega) (by omega) d_Mo_isDone_9 (by decide) (fun b9 => (by first | exact b9.elim | exact absurd b9 (by omega))) (fun b9 => ?_)
  refine j_iload_n d_Mo_isDone_12 rfl 1 rfl ?_
  refine j_bipush (v := nI 96) d_Mo_isDone_13 (by decide) ?_
  refine j_ncmp_gt 29 134 96 rfl rfl (by omega) (by omega) d_Mo_isDone_15 (by decide) (fun b15 => ?_) (fun b15 => (by first | exact b15.elim | exact absurd b15 (by omega)))
  refine j_iload_n d_Mo_isDone_29 rfl 1 rfl ?_
  refine j_sipush (v := nI 139) d_Mo_isDone_30 (by decide) ?_
  refine j_ncmp_lt 49 134 139 rfl rfl (by omega) (by omega) d_Mo_isDone_33 (by decide) (fun b33 => ?_) (fun b33 => (by first | exact b33.elim | exact absurd b33 (by omega)))
  refine j_iload_n d_Mo_isDone_49 rfl 1 rfl ?_
  refine j_tableIn 992 d_Mo_isDone_50 (by decide) (by decide) rfl (by decide) ?_
  refine j_iconst (v := nI 0) d_Mo_isDone_992 (by decide) ?_
  exact j_zret hκ rfl (by first | exact Or.inl rfl | exact Or.inr rfl) (by omega) (by omega) d_Mo_isDone_993 (RQ.f hI RFr.refl (by omega) (xn (by omega)))

set_option maxHeartbeats 4000000 in
set_option maxRecDepth 100000 in
theorem c_Mo_dn_135 (l : Launch) (E : mp_E) (M : mp_M) (R : Nat → Nat) (rows : Nat) (thr : Int32) (dp as_ ops : Nat) (A : Nat → am_T) (b : List Bool) (hI : RI E M R rows thr dp as_ ops A) (hR : RL R) (hd : dp + as_ ≤ 200) (hk : ops ≤ 1000) : mp_Cr l m_Mo_isDone E M 4 0 0 [.ref (R 0), .int (nI 135)] (RQ E R M rows thr b (am_op 135 (LM A dp) (LO A as_) b ops)) := by
  refine mp_Cr.of (by decide) (Nat.le_of_ble_eq_true rfl) fun Γ κ hl hκ => ?_
  subst hl
  obtain ⟨hκd, hκc, hκs, -⟩ := id hκ
  show mp_J Γ m_Mo_isDone E κ M [(0, .ref (R 0)), (1, .int (nI 135))] 0 [] 0 0
  refine j_iload_n d_Mo_isDone_0 rfl 1 rfl ?_
  refine j_bipush (v := nI 79) d_Mo_isDone_1 (by decide) ?_
  refine j_ncmp_eq 18 135 79 rfl rfl (by omega) (by omega) d_Mo_isDone_3 (by decide) (fun b3 => (by first | exact b3.elim | exact absurd b3 (by omega))) (fun b3 => ?_)
  refine j_iload_n d_Mo_isDone_6 rfl 1 rfl ?_
  refine j_bipush (v := nI 81) d_Mo_isDone_7 (by decide) ?_
  refine j_ncmp_lt 29 135 81 rfl rfl (by omega) (by omega) d_Mo_isDone_9 (by decide) (fun b9 => (by first | exact b9.elim | exact absurd b9 (by omega))) (fun b9 => ?_)
  refine j_iload_n d_Mo_isDone_12 rfl 1 rfl ?_
  refine j_bipush (v := nI 96) d_Mo_isDone_13 (by decide) ?_
  refine j_ncmp_gt 29 135 96 rfl rfl (by omega) (by omega) d_Mo_isDone_15 (by decide) (fun b15 => ?_) (fun b15 => (by first | exact b15.elim | exact absurd b15 (by omega)))
  refine j_iload_n d_Mo_isDone_29 rfl 1 rfl ?_
  refine j_sipush (v := nI 139) d_Mo_isDone_30 (by decide) ?_
  refine j_ncmp_lt 49 135 139 rfl rfl (by omega) (by omega) d_Mo_isDone_33 (by decide) (fun b33 => ?_) (fun b33 => (by first | exact b33.elim | exact absurd b33 (by omega)))
  refine j_iload_n d_Mo_isDone_49 rfl 1 rfl ?_
  refine j_tableIn 880 d_Mo_isDone_50 (by decide) (by decide) rfl (by decide) ?_
  refine j_aload_n d_Mo_isDone_880 rfl 0 rfl ?_
  refine j_iconst (v := nI 2) d_Mo_isDone_881 (by decide) ?_
  refine j_callV (As := [.int (nI 2)]) (rest := []) (c_Mo_has Γ.l E M (R 0) (R 1) rows (R 2) (R 3) (R 4) (R 5) (R 6) (R 7) (R 8) (R 9) dp as_ ops (R 10) thr 2 hI.1 (by omega) (by omega)) Y_Mo_has w_1039 w_1041 ws_35 hI.1 rfl rfl rfl (Nat.le_of_ble_eq_true rfl) (by omega) (by omega) (by omega) d_Mo_isDone_882 (fun v882 N882 p882 => ?_)
  obtain ⟨rfl, q882⟩ := p882
  obtain rfl := q882.symm
  show mp_J Γ m_Mo_isDone E κ M [(0, .ref (R 0)), (1, .int (nI 135))] 885 [.int (tf (decide (2 ≤ dp)))] 0 0
  refine j_tif_ne 890 d_Mo_isDone_885 (by decide) (fun b885 => ?_) (fun b885 => ?_)
  · skip
    have d885 := of_decide_eq_true b885
    refine j_aload_n d_Mo_isDone_890 rfl 0 rfl ?_
    refine j_aload_n d_Mo_isDone_891 rfl 0 rfl ?_
    refine j_get F_Mo hI.1 11 (by decide) w_954 (Or.inl rfl) rfl d_Mo_isDone_892 ?_
    refine j_iconst (v := nI 1) d_Mo_isDone_895 (by decide) ?_
    refine j_isub d_Mo_isDone_896 ?_
    refine j_eqi (y := nI (dp - 1)) (pk_sub (by omega)) ?_
    refine j_aload_n d_Mo_isDone_897 rfl 0 rfl ?_
    refine j_get F_Mo hI.1 11 (by decide) w_954 (Or.inl rfl) rfl d_Mo_isDone_898 ?_
    refine j_iconst (v := nI 2) d_Mo_isDone_901 (by decide) ?_
    refine j_isub d_Mo_isDone_902 ?_
    refine j_eqi (y := nI (dp - 2)) (pk_sub (by omega)) ?_
    refine j_callV (As := [.int (nI (dp - 1)), .int (nI (dp - 2))]) (rest := []) (r_isSame Γ.l hI (dp - 1) (dp - 2) (by omega) (by omega)) Y_Mo_isSame w_1068 w_1070 ws_41 hI.1 rfl rfl rfl (Nat.le_of_ble_eq_true rfl) (by omega) (by omega) (by omega) d_Mo_isDone_903 (fun v903 N903 p903 => ?_)
    obtain ⟨rfl, q903⟩ := p903
    obtain rfl := q903.symm
    show mp_J Γ m_Mo_isDone E κ M [(0, .ref (R 0)), (1, .int (nI 135))] 906 [.int (tf (decide (A (dp - 1) = A (dp - 2))))] 0 0
    refine j_istore_n [(2, .int (tf (decide (A (dp - 1) = A (dp - 2))))), (0, .ref (R 0)), (1, .int (nI 135))] d_Mo_isDone_906 rfl (by decide) rfl ?_
    refine j_aload_n d_Mo_isDone_907 rfl 1 rfl ?_
    refine j_dup d_Mo_isDone_908 rfl ?_
    refine j_get F_Mo hI.1 11 (by decide) w_954 (Or.inl rfl) rfl d_Mo_isDone_909 ?_
    refine j_iconst (v := nI 2) d_Mo_isDone_912 (by decide) ?_
    refine j_isub d_Mo_isDone_913 ?_
    refine j_eqi (y := nI (dp - 2)) (pk_sub (by omega)) ?_
    refine j_put F_Mo hI.1 11 (by decide) w_954 (Or.inl rfl) rfl rfl rfl (Nat.le_of_ble_eq_true rfl) d_Mo_isDone_914 ?_
    show mp_J Γ m_Mo_isDone E κ (mp_up M (R 0) (mp_o 7 [.ref (R 1), .int (nI rows), .int thr, .ref (R 2), .ref (R 3), .ref (R 4), .ref (R 5), .ref (R 6), .ref (R 7), .ref (R 8), .ref (R 9), .int (nI (dp - 2)), .int (nI as_), .int (nI ops), .ref (R 10)])) [(2, .int (tf (decide (A (dp - 1) = A (dp - 2))))), (0, .ref (R 0)), (1, .int (nI 135))] 917 [] 0 0
    generalize eM1 : mp_up M (R 0) (mp_o 7 [.ref (R 1), .int (nI rows), .int thr, .ref (R 2), .ref (R 3), .ref (R 4), .ref (R 5), .ref (R 6), .ref (R 7), .ref (R 8), .ref (R 9), .int (nI (dp - 2)), .int (nI as_), .int (nI ops), .ref (R 10)]) = M1
    have hM1__R_0_ : M1 (R 0) = some (mp_o 7 [.ref (R 1), .int (nI rows), .int thr, .ref (R 2), .ref (R 3), .ref (R 4), .ref (R 5), .ref (R 6), .ref (R 7), .ref (R 8), .ref (R 9), .int (nI (dp - 2)), .int (nI as_), .int (nI ops), .ref (R 10)]) := by rw [← eM1]; exact mp_s
    have JM1 : RI E M1 R rows thr (dp - 2) as_ ops A := hI.set hR eM1
    have fM1 : RFr R M M1 := RFr.s0 eM1
    refine j_iload_n d_Mo_isDone_917 rfl 2 rfl ?_
    refine j_sipush (v := nI 136) d_Mo_isDone_918 (by decide) ?_
    refine j_ncmp_ne 926 135 136 rfl rfl (by omega) (by omega) d_Mo_isDone_921 (by decide) (fun b921 => ?_) (fun b921 => (by first | exact b921.elim | exact absurd b921 (by omega)))
    refine j_aload_n d_Mo_isDone_926 rfl 1 rfl ?_
    refine j_iload_n d_Mo_isDone_927 rfl 0 rfl ?_
    refine j_callV (As := [.int (tf (decide (A (dp - 1) = A (dp - 2))))]) (rest := []) (r_pushTruth Γ.l E M1 R rows thr (dp - 2) as_ ops A (decide (A (dp - 1) = A (dp - 2))) JM1 hR (by omega)) Y_Mo_pushTruth w_1072 w_1074 ws_42 hM1__R_0_ rfl rfl rfl (Nat.le_of_ble_eq_true rfl) (by omega) (by omega) (by omega) d_Mo_isDone_928 (fun v928 N928 p928 => ?_)
    obtain ⟨rfl, I928, f928⟩ := p928
    show mp_J Γ m_Mo_isDone E κ N928 [(2, .int (tf (decide (A (dp - 1) = A (dp - 2))))), (0, .ref (R 0)), (1, .int (nI 135))] 931 [] 0 0
    refine j_iconst (v := nI 1) d_Mo_isDone_931 (by decide) ?_
    exact j_zret hκ rfl (by first | exact Or.inl rfl | exact Or.inr rfl) (by omega) (by omega) d_Mo_isDone_932 (RQ.t I928 (fM1.trans f928) (by omega) (x135 d885 (by omega)))
  · skip
    have d885 := of_decide_eq_false b885
    refine j_iconst (v := nI 0) d_Mo_isDone_888 (by decide) ?_
    exact j_zret hκ rfl (by first | exact Or.inl rfl | exact Or.inr rfl) (by omega) (by omega) d_Mo_isDone_889 (RQ.f hI RFr.refl (by omega) (xf135 d885))

set_option maxHeartbeats 4000000 in
set_option maxRecDepth 100000 in
theorem c_Mo_dn_136 (l : Launch) (E : mp_E) (M : mp_M) (R : Nat → Nat) (rows : Nat) (thr : Int32) (dp as_ ops : Nat) (A : Nat → am_T) (b : List Bool) (hI : RI E M R rows thr dp as_ ops A) (hR : RL R) (hd : dp + as_ ≤ 200) (hk : ops ≤ 1000) : mp_Cr l m_Mo_isDone E M 4 0 0 [.ref (R 0), .int (nI 136)] (RQ E R M rows thr b (am_op 136 (LM A dp) (LO A as_) b ops)) := by
  refine mp_Cr.of (by decide) (Nat.le_of_ble_eq_true rfl) fun Γ κ hl hκ => ?_
  subst hl
  obtain ⟨hκd, hκc, hκs, -⟩ := id hκ
  show mp_J Γ m_Mo_isDone E κ M [(0, .ref (R 0)), (1, .int (nI 136))] 0 [] 0 0
  refine j_iload_n d_Mo_isDone_0 rfl 1 rfl ?_
  refine j_bipush (v := nI 79) d_Mo_isDone_1 (by decide) ?_
  refine j_ncmp_eq 18 136 79 rfl rfl (by omega) (by omega) d_Mo_isDone_3 (by decide) (fun b3 => (by first | exact b3.elim | exact absurd b3 (by omega))) (fun b3 => ?_)
  refine j_iload_n d_Mo_isDone_6 rfl 1 rfl ?_
  refine j_bipush (v := nI 81) d_Mo_isDone_7 (by decide) ?_
  refine j_ncmp_lt 29 136 81 rfl rfl (by omega) (by omega) d_Mo_isDone_9 (by decide) (fun b9 => (by first | exact b9.elim | exact absurd b9 (by omega))) (fun b9 => ?_)
  refine j_iload_n d_Mo_isDone_12 rfl 1 rfl ?_
  refine j_bipush (v := nI 96) d_Mo_isDone_13 (by decide) ?_
  refine j_ncmp_gt 29 136 96 rfl rfl (by omega) (by omega) d_Mo_isDone_15 (by decide) (fun b15 => ?_) (fun b15 => (by first | exact b15.elim | exact absurd b15 (by omega)))
  refine j_iload_n d_Mo_isDone_29 rfl 1 rfl ?_
  refine j_sipush (v := nI 139) d_Mo_isDone_30 (by decide) ?_
  refine j_ncmp_lt 49 136 139 rfl rfl (by omega) (by omega) d_Mo_isDone_33 (by decide) (fun b33 => ?_) (fun b33 => (by first | exact b33.elim | exact absurd b33 (by omega)))
  refine j_iload_n d_Mo_isDone_49 rfl 1 rfl ?_
  refine j_tableIn 880 d_Mo_isDone_50 (by decide) (by decide) rfl (by decide) ?_
  refine j_aload_n d_Mo_isDone_880 rfl 0 rfl ?_
  refine j_iconst (v := nI 2) d_Mo_isDone_881 (by decide) ?_
  refine j_callV (As := [.int (nI 2)]) (rest := []) (c_Mo_has Γ.l E M (R 0) (R 1) rows (R 2) (R 3) (R 4) (R 5) (R 6) (R 7) (R 8) (R 9) dp as_ ops (R 10) thr 2 hI.1 (by omega) (by omega)) Y_Mo_has w_1039 w_1041 ws_35 hI.1 rfl rfl rfl (Nat.le_of_ble_eq_true rfl) (by omega) (by omega) (by omega) d_Mo_isDone_882 (fun v882 N882 p882 => ?_)
  obtain ⟨rfl, q882⟩ := p882
  obtain rfl := q882.symm
  show mp_J Γ m_Mo_isDone E κ M [(0, .ref (R 0)), (1, .int (nI 136))] 885 [.int (tf (decide (2 ≤ dp)))] 0 0
  refine j_tif_ne 890 d_Mo_isDone_885 (by decide) (fun b885 => ?_) (fun b885 => ?_)
  · skip
    have d885 := of_decide_eq_true b885
    refine j_aload_n d_Mo_isDone_890 rfl 0 rfl ?_
    refine j_aload_n d_Mo_isDone_891 rfl 0 rfl ?_
    refine j_get F_Mo hI.1 11 (by decide) w_954 (Or.inl rfl) rfl d_Mo_isDone_892 ?_
    refine j_iconst (v := nI 1) d_Mo_isDone_895 (by decide) ?_
    refine j_isub d_Mo_isDone_896 ?_
    refine j_eqi (y := nI (dp - 1)) (pk_sub (by omega)) ?_
    refine j_aload_n d_Mo_isDone_897 rfl 0 rfl ?_
    refine j_get F_Mo hI.1 11 (by decide) w_954 (Or.inl rfl) rfl d_Mo_isDone_898 ?_
    refine j_iconst (v := nI 2) d_Mo_isDone_901 (by decide) ?_
    refine j_isub d_Mo_isDone_902 ?_
    refine j_eqi (y := nI (dp - 2)) (pk_sub (by omega)) ?_
    refine j_callV (As := [.int (nI (dp - 1)), .int (nI (dp - 2))]) (rest := []) (r_isSame Γ.l hI (dp - 1) (dp - 2) (by omega) (by omega)) Y_Mo_isSame w_1068 w_1070 ws_41 hI.1 rfl rfl rfl (Nat.le_of_ble_eq_true rfl) (by omega) (by omega) (by omega) d_Mo_isDone_903 (fun v903 N903 p903 => ?_)
    obtain ⟨rfl, q903⟩ := p903
    obtain rfl := q903.symm
    show mp_J Γ m_Mo_isDone E κ M [(0, .ref (R 0)), (1, .int (nI 136))] 906 [.int (tf (decide (A (dp - 1) = A (dp - 2))))] 0 0
    refine j_istore_n [(2, .int (tf (decide (A (dp - 1) = A (dp - 2))))), (0, .ref (R 0)), (1, .int (nI 136))] d_Mo_isDone_906 rfl (by decide) rfl ?_
    refine j_aload_n d_Mo_isDone_907 rfl 1 rfl ?_
    refine j_dup d_Mo_isDone_908 rfl ?_
    refine j_get F_Mo hI.1 11 (by decide) w_954 (Or.inl rfl) rfl d_Mo_isDone_909 ?_
    refine j_iconst (v := nI 2) d_Mo_isDone_912 (by decide) ?_
    refine j_isub d_Mo_isDone_913 ?_
    refine j_eqi (y := nI (dp - 2)) (pk_sub (by omega)) ?_
    refine j_put F_Mo hI.1 11 (by decide) w_954 (Or.inl rfl) rfl rfl rfl (Nat.le_of_ble_eq_true rfl) d_Mo_isDone_914 ?_
    show mp_J Γ m_Mo_isDone E κ (mp_up M (R 0) (mp_o 7 [.ref (R 1), .int (nI rows), .int thr, .ref (R 2), .ref (R 3), .ref (R 4), .ref (R 5), .ref (R 6), .ref (R 7), .ref (R 8), .ref (R 9), .int (nI (dp - 2)), .int (nI as_), .int (nI ops), .ref (R 10)])) [(2, .int (tf (decide (A (dp - 1) = A (dp - 2))))), (0, .ref (R 0)), (1, .int (nI 136))] 917 [] 0 0
    generalize eM1 : mp_up M (R 0) (mp_o 7 [.ref (R 1), .int (nI rows), .int thr, .ref (R 2), .ref (R 3), .ref (R 4), .ref (R 5), .ref (R 6), .ref (R 7), .ref (R 8), .ref (R 9), .int (nI (dp - 2)), .int (nI as_), .int (nI ops), .ref (R 10)]) = M1
    have hM1__R_0_ : M1 (R 0) = some (mp_o 7 [.ref (R 1), .int (nI rows), .int thr, .ref (R 2), .ref (R 3), .ref (R 4), .ref (R 5), .ref (R 6), .ref (R 7), .ref (R 8), .ref (R 9), .int (nI (dp - 2)), .int (nI as_), .int (nI ops), .ref (R 10)]) := by rw [← eM1]; exact mp_s
    have JM1 : RI E M1 R rows thr (dp - 2) as_ ops A := hI.set hR eM1
    have fM1 : RFr R M M1 := RFr.s0 eM1
    refine j_iload_n d_Mo_isDone_917 rfl 2 rfl ?_
    refine j_sipush (v := nI 136) d_Mo_isDone_918 (by decide) ?_
    refine j_ncmp_ne 926 136 136 rfl rfl (by omega) (by omega) d_Mo_isDone_921 (by decide) (fun b921 => (by first | exact b921.elim | exact absurd b921 (by omega))) (fun b921 => ?_)
    refine j_iload_n d_Mo_isDone_924 rfl 0 rfl ?_
    exact j_zret hκ rfl (tf_01 _) (by omega) (by omega) d_Mo_isDone_925 (RQ.bool JM1 fM1 (by omega) (x136 d885))
  · skip
    have d885 := of_decide_eq_false b885
    refine j_iconst (v := nI 0) d_Mo_isDone_888 (by decide) ?_
    exact j_zret hκ rfl (by first | exact Or.inl rfl | exact Or.inr rfl) (by omega) (by omega) d_Mo_isDone_889 (RQ.f hI RFr.refl (by omega) (xf136 d885))

set_option maxHeartbeats 4000000 in
set_option maxRecDepth 100000 in
theorem c_Mo_dn_137 (l : Launch) (E : mp_E) (M : mp_M) (R : Nat → Nat) (rows : Nat) (thr : Int32) (dp as_ ops : Nat) (A : Nat → am_T) (b : List Bool) (hI : RI E M R rows thr dp as_ ops A) (hR : RL R) (hd : dp + as_ ≤ 200) (hk : ops ≤ 1000) : mp_Cr l m_Mo_isDone E M 4 0 0 [.ref (R 0), .int (nI 137)] (RQ E R M rows thr b (am_op 137 (LM A dp) (LO A as_) b ops)) := by
  refine mp_Cr.of (by decide) (Nat.le_of_ble_eq_true rfl) fun Γ κ hl hκ => ?_
  subst hl
  obtain ⟨hκd, hκc, hκs, -⟩ := id hκ
  show mp_J Γ m_Mo_isDone E κ M [(0, .ref (R 0)), (1, .int (nI 137))] 0 [] 0 0
  refine j_iload_n d_Mo_isDone_0 rfl 1 rfl ?_
  refine j_bipush (v := nI 79) d_Mo_isDone_1 (by decide) ?_
  refine j_ncmp_eq 18 137 79 rfl rfl (by omega) (by omega) d_Mo_isDone_3 (by decide) (fun b3 => (by first | exact b3.elim | exact absurd b3 (by omega))) (fun b3 => ?_)
  refine j_iload_n d_Mo_isDone_6 rfl 1 rfl ?_
  refine j_bipush (v := nI 81) d_Mo_isDone_7 (by decide) ?_
  refine j_ncmp_lt 29 137 81 rfl rfl (by omega) (by omega) d_Mo_isDone_9 (by decide) (fun b9 => (by first | exact b9.elim | exact absurd b9 (by omega))) (fun b9 => ?_)
  refine j_iload_n d_Mo_isDone_12 rfl 1 rfl ?_
  refine j_bipush (v := nI 96) d_Mo_isDone_13 (by decide) ?_
  refine j_ncmp_gt 29 137 96 rfl rfl (by omega) (by omega) d_Mo_isDone_15 (by decide) (fun b15 => ?_) (fun b15 => (by first | exact b15.elim | exact absurd b15 (by omega)))
  refine j_iload_n d_Mo_isDone_29 rfl 1 rfl ?_
  refine j_sipush (v := nI 139) d_Mo_isDone_30 (by decide) ?_
  refine j_ncmp_lt 49 137 139 rfl rfl (by omega) (by omega) d_Mo_isDone_33 (by decide) (fun b33 => ?_) (fun b33 => (by first | exact b33.elim | exact absurd b33 (by omega)))
  refine j_iload_n d_Mo_isDone_49 rfl 1 rfl ?_
  refine j_tableIn 992 d_Mo_isDone_50 (by decide) (by decide) rfl (by decide) ?_
  refine j_iconst (v := nI 0) d_Mo_isDone_992 (by decide) ?_
  exact j_zret hκ rfl (by first | exact Or.inl rfl | exact Or.inr rfl) (by omega) (by omega) d_Mo_isDone_993 (RQ.f hI RFr.refl (by omega) (xn (by omega)))

set_option maxHeartbeats 4000000 in
set_option maxRecDepth 100000 in
theorem c_Mo_dn_138 (l : Launch) (E : mp_E) (M : mp_M) (R : Nat → Nat) (rows : Nat) (thr : Int32) (dp as_ ops : Nat) (A : Nat → am_T) (b : List Bool) (hI : RI E M R rows thr dp as_ ops A) (hR : RL R) (hd : dp + as_ ≤ 200) (hk : ops ≤ 1000) : mp_Cr l m_Mo_isDone E M 4 0 0 [.ref (R 0), .int (nI 138)] (RQ E R M rows thr b (am_op 138 (LM A dp) (LO A as_) b ops)) := by
  refine mp_Cr.of (by decide) (Nat.le_of_ble_eq_true rfl) fun Γ κ hl hκ => ?_
  subst hl
  obtain ⟨hκd, hκc, hκs, -⟩ := id hκ
  show mp_J Γ m_Mo_isDone E κ M [(0, .ref (R 0)), (1, .int (nI 138))] 0 [] 0 0
  refine j_iload_n d_Mo_isDone_0 rfl 1 rfl ?_
  refine j_bipush (v := nI 79) d_Mo_isDone_1 (by decide) ?_
  refine j_ncmp_eq 18 138 79 rfl rfl (by omega) (by omega) d_Mo_isDone_3 (by decide) (fun b3 => (by first | exact b3.elim | exact absurd b3 (by omega))) (fun b3 => ?_)
  refine j_iload_n d_Mo_isDone_6 rfl 1 rfl ?_
  refine j_bipush (v := nI 81) d_Mo_isDone_7 (by decide) ?_
  refine j_ncmp_lt 29 138 81 rfl rfl (by omega) (by omega) d_Mo_isDone_9 (by decide) (fun b9 => (by first | exact b9.elim | exact absurd b9 (by omega))) (fun b9 => ?_)
  refine j_iload_n d_Mo_isDone_12 rfl 1 rfl ?_
  refine j_bipush (v := nI 96) d_Mo_isDone_13 (by decide) ?_
  refine j_ncmp_gt 29 138 96 rfl rfl (by omega) (by omega) d_Mo_isDone_15 (by decide) (fun b15 => ?_) (fun b15 => (by first | exact b15.elim | exact absurd b15 (by omega)))
  refine j_iload_n d_Mo_isDone_29 rfl 1 rfl ?_
  refine j_sipush (v := nI 139) d_Mo_isDone_30 (by decide) ?_
  refine j_ncmp_lt 49 138 139 rfl rfl (by omega) (by omega) d_Mo_isDone_33 (by decide) (fun b33 => ?_) (fun b33 => (by first | exact b33.elim | exact absurd b33 (by omega)))
  refine j_iload_n d_Mo_isDone_49 rfl 1 rfl ?_
  refine j_tableIn 992 d_Mo_isDone_50 (by decide) (by decide) rfl (by decide) ?_
  refine j_iconst (v := nI 0) d_Mo_isDone_992 (by decide) ?_
  exact j_zret hκ rfl (by first | exact Or.inl rfl | exact Or.inr rfl) (by omega) (by omega) d_Mo_isDone_993 (RQ.f hI RFr.refl (by omega) (xn (by omega)))

set_option maxHeartbeats 4000000 in
set_option maxRecDepth 100000 in
theorem c_Mo_dn_166 (l : Launch) (E : mp_E) (M : mp_M) (R : Nat → Nat) (rows : Nat) (thr : Int32) (dp as_ ops : Nat) (A : Nat → am_T) (b : List Bool) (hI : RI E M R rows thr dp as_ ops A) (hR : RL R) (hd : dp + as_ ≤ 200) (hk : ops ≤ 1000) : mp_Cr l m_Mo_isDone E M 4 0 0 [.ref (R 0), .int (nI 166)] (RQ E R M rows thr b (am_op 166 (LM A dp) (LO A as_) b ops)) := by
  refine mp_Cr.of (by decide) (Nat.le_of_ble_eq_true rfl) fun Γ κ hl hκ => ?_
  subst hl
  obtain ⟨hκd, hκc, hκs, -⟩ := id hκ
  show mp_J Γ m_Mo_isDone E κ M [(0, .ref (R 0)), (1, .int (nI 166))] 0 [] 0 0
  refine j_iload_n d_Mo_isDone_0 rfl 1 rfl ?_
  refine j_bipush (v := nI 79) d_Mo_isDone_1 (by decide) ?_
  refine j_ncmp_eq 18 166 79 rfl rfl (by omega) (by omega) d_Mo_isDone_3 (by decide) (fun b3 => (by first | exact b3.elim | exact absurd b3 (by omega))) (fun b3 => ?_)
  refine j_iload_n d_Mo_isDone_6 rfl 1 rfl ?_
  refine j_bipush (v := nI 81) d_Mo_isDone_7 (by decide) ?_
  refine j_ncmp_lt 29 166 81 rfl rfl (by omega) (by omega) d_Mo_isDone_9 (by decide) (fun b9 => (by first | exact b9.elim | exact absurd b9 (by omega))) (fun b9 => ?_)
  refine j_iload_n d_Mo_isDone_12 rfl 1 rfl ?_
  refine j_bipush (v := nI 96) d_Mo_isDone_13 (by decide) ?_
  refine j_ncmp_gt 29 166 96 rfl rfl (by omega) (by omega) d_Mo_isDone_15 (by decide) (fun b15 => ?_) (fun b15 => (by first | exact b15.elim | exact absurd b15 (by omega)))
  refine j_iload_n d_Mo_isDone_29 rfl 1 rfl ?_
  refine j_sipush (v := nI 139) d_Mo_isDone_30 (by decide) ?_
  refine j_ncmp_lt 49 166 139 rfl rfl (by omega) (by omega) d_Mo_isDone_33 (by decide) (fun b33 => (by first | exact b33.elim | exact absurd b33 (by omega))) (fun b33 => ?_)
  refine j_iload_n d_Mo_isDone_36 rfl 1 rfl ?_
  refine j_sipush (v := nI 165) d_Mo_isDone_37 (by decide) ?_
  refine j_ncmp_gt 49 166 165 rfl rfl (by omega) (by omega) d_Mo_isDone_40 (by decide) (fun b40 => ?_) (fun b40 => (by first | exact b40.elim | exact absurd b40 (by omega)))
  refine j_iload_n d_Mo_isDone_49 rfl 1 rfl ?_
  refine j_tableIn 933 d_Mo_isDone_50 (by decide) (by decide) rfl (by decide) ?_
  refine j_aload_n d_Mo_isDone_933 rfl 0 rfl ?_
  refine j_iload_n d_Mo_isDone_934 rfl 1 rfl ?_
  refine j_callV (As := [.int (nI 166)]) (rest := []) (c_Mo_hs_166 Γ.l E M R rows thr dp as_ ops A b hI hR hd hk) Y_Mo_hashed w_1076 w_1078 ws_43 hI.1 rfl rfl rfl (Nat.le_of_ble_eq_true rfl) (by omega) (by omega) (by omega) d_Mo_isDone_935 (fun v935 N935 p935 => ?_)
  obtain ⟨w935, d935, a935, k935, B935, rfl, I935, f935, g935, T935, F935⟩ := p935
  show mp_J Γ m_Mo_isDone E κ N935 [(0, .ref (R 0)), (1, .int (nI 166))] 938 [.int (tf w935)] 0 0
  exact j_zret hκ rfl (tf_01 _) (by omega) (by omega) d_Mo_isDone_938 (RQ.k I935 f935 g935 T935 F935 rfl)

set_option maxHeartbeats 4000000 in
set_option maxRecDepth 100000 in
theorem c_Mo_dn_167 (l : Launch) (E : mp_E) (M : mp_M) (R : Nat → Nat) (rows : Nat) (thr : Int32) (dp as_ ops : Nat) (A : Nat → am_T) (b : List Bool) (hI : RI E M R rows thr dp as_ ops A) (hR : RL R) (hd : dp + as_ ≤ 200) (hk : ops ≤ 1000) : mp_Cr l m_Mo_isDone E M 4 0 0 [.ref (R 0), .int (nI 167)] (RQ E R M rows thr b (am_op 167 (LM A dp) (LO A as_) b ops)) := by
  refine mp_Cr.of (by decide) (Nat.le_of_ble_eq_true rfl) fun Γ κ hl hκ => ?_
  subst hl
  obtain ⟨hκd, hκc, hκs, -⟩ := id hκ
  show mp_J Γ m_Mo_isDone E κ M [(0, .ref (R 0)), (1, .int (nI 167))] 0 [] 0 0
  refine j_iload_n d_Mo_isDone_0 rfl 1 rfl ?_
  refine j_bipush (v := nI 79) d_Mo_isDone_1 (by decide) ?_
  refine j_ncmp_eq 18 167 79 rfl rfl (by omega) (by omega) d_Mo_isDone_3 (by decide) (fun b3 => (by first | exact b3.elim | exact absurd b3 (by omega))) (fun b3 => ?_)
  refine j_iload_n d_Mo_isDone_6 rfl 1 rfl ?_
  refine j_bipush (v := nI 81) d_Mo_isDone_7 (by decide) ?_
  refine j_ncmp_lt 29 167 81 rfl rfl (by omega) (by omega) d_Mo_isDone_9 (by decide) (fun b9 => (by first | exact b9.elim | exact absurd b9 (by omega))) (fun b9 => ?_)
  refine j_iload_n d_Mo_isDone_12 rfl 1 rfl ?_
  refine j_bipush (v := nI 96) d_Mo_isDone_13 (by decide) ?_
  refine j_ncmp_gt 29 167 96 rfl rfl (by omega) (by omega) d_Mo_isDone_15 (by decide) (fun b15 => ?_) (fun b15 => (by first | exact b15.elim | exact absurd b15 (by omega)))
  refine j_iload_n d_Mo_isDone_29 rfl 1 rfl ?_
  refine j_sipush (v := nI 139) d_Mo_isDone_30 (by decide) ?_
  refine j_ncmp_lt 49 167 139 rfl rfl (by omega) (by omega) d_Mo_isDone_33 (by decide) (fun b33 => (by first | exact b33.elim | exact absurd b33 (by omega))) (fun b33 => ?_)
  refine j_iload_n d_Mo_isDone_36 rfl 1 rfl ?_
  refine j_sipush (v := nI 165) d_Mo_isDone_37 (by decide) ?_
  refine j_ncmp_gt 49 167 165 rfl rfl (by omega) (by omega) d_Mo_isDone_40 (by decide) (fun b40 => ?_) (fun b40 => (by first | exact b40.elim | exact absurd b40 (by omega)))
  refine j_iload_n d_Mo_isDone_49 rfl 1 rfl ?_
  refine j_tableIn 992 d_Mo_isDone_50 (by decide) (by decide) rfl (by decide) ?_
  refine j_iconst (v := nI 0) d_Mo_isDone_992 (by decide) ?_
  exact j_zret hκ rfl (by first | exact Or.inl rfl | exact Or.inr rfl) (by omega) (by omega) d_Mo_isDone_993 (RQ.f hI RFr.refl (by omega) (xn (by omega)))

set_option maxHeartbeats 4000000 in
set_option maxRecDepth 100000 in
theorem c_Mo_dn_168 (l : Launch) (E : mp_E) (M : mp_M) (R : Nat → Nat) (rows : Nat) (thr : Int32) (dp as_ ops : Nat) (A : Nat → am_T) (b : List Bool) (hI : RI E M R rows thr dp as_ ops A) (hR : RL R) (hd : dp + as_ ≤ 200) (hk : ops ≤ 1000) : mp_Cr l m_Mo_isDone E M 4 0 0 [.ref (R 0), .int (nI 168)] (RQ E R M rows thr b (am_op 168 (LM A dp) (LO A as_) b ops)) := by
  refine mp_Cr.of (by decide) (Nat.le_of_ble_eq_true rfl) fun Γ κ hl hκ => ?_
  subst hl
  obtain ⟨hκd, hκc, hκs, -⟩ := id hκ
  show mp_J Γ m_Mo_isDone E κ M [(0, .ref (R 0)), (1, .int (nI 168))] 0 [] 0 0
  refine j_iload_n d_Mo_isDone_0 rfl 1 rfl ?_
  refine j_bipush (v := nI 79) d_Mo_isDone_1 (by decide) ?_
  refine j_ncmp_eq 18 168 79 rfl rfl (by omega) (by omega) d_Mo_isDone_3 (by decide) (fun b3 => (by first | exact b3.elim | exact absurd b3 (by omega))) (fun b3 => ?_)
  refine j_iload_n d_Mo_isDone_6 rfl 1 rfl ?_
  refine j_bipush (v := nI 81) d_Mo_isDone_7 (by decide) ?_
  refine j_ncmp_lt 29 168 81 rfl rfl (by omega) (by omega) d_Mo_isDone_9 (by decide) (fun b9 => (by first | exact b9.elim | exact absurd b9 (by omega))) (fun b9 => ?_)
  refine j_iload_n d_Mo_isDone_12 rfl 1 rfl ?_
  refine j_bipush (v := nI 96) d_Mo_isDone_13 (by decide) ?_
  refine j_ncmp_gt 29 168 96 rfl rfl (by omega) (by omega) d_Mo_isDone_15 (by decide) (fun b15 => ?_) (fun b15 => (by first | exact b15.elim | exact absurd b15 (by omega)))
  refine j_iload_n d_Mo_isDone_29 rfl 1 rfl ?_
  refine j_sipush (v := nI 139) d_Mo_isDone_30 (by decide) ?_
  refine j_ncmp_lt 49 168 139 rfl rfl (by omega) (by omega) d_Mo_isDone_33 (by decide) (fun b33 => (by first | exact b33.elim | exact absurd b33 (by omega))) (fun b33 => ?_)
  refine j_iload_n d_Mo_isDone_36 rfl 1 rfl ?_
  refine j_sipush (v := nI 165) d_Mo_isDone_37 (by decide) ?_
  refine j_ncmp_gt 49 168 165 rfl rfl (by omega) (by omega) d_Mo_isDone_40 (by decide) (fun b40 => ?_) (fun b40 => (by first | exact b40.elim | exact absurd b40 (by omega)))
  refine j_iload_n d_Mo_isDone_49 rfl 1 rfl ?_
  refine j_tableIn 933 d_Mo_isDone_50 (by decide) (by decide) rfl (by decide) ?_
  refine j_aload_n d_Mo_isDone_933 rfl 0 rfl ?_
  refine j_iload_n d_Mo_isDone_934 rfl 1 rfl ?_
  refine j_callV (As := [.int (nI 168)]) (rest := []) (c_Mo_hs_168 Γ.l E M R rows thr dp as_ ops A b hI hR hd hk) Y_Mo_hashed w_1076 w_1078 ws_43 hI.1 rfl rfl rfl (Nat.le_of_ble_eq_true rfl) (by omega) (by omega) (by omega) d_Mo_isDone_935 (fun v935 N935 p935 => ?_)
  obtain ⟨w935, d935, a935, k935, B935, rfl, I935, f935, g935, T935, F935⟩ := p935
  show mp_J Γ m_Mo_isDone E κ N935 [(0, .ref (R 0)), (1, .int (nI 168))] 938 [.int (tf w935)] 0 0
  exact j_zret hκ rfl (tf_01 _) (by omega) (by omega) d_Mo_isDone_938 (RQ.k I935 f935 g935 T935 F935 rfl)

set_option maxHeartbeats 4000000 in
set_option maxRecDepth 100000 in
theorem c_Mo_dn_169 (l : Launch) (E : mp_E) (M : mp_M) (R : Nat → Nat) (rows : Nat) (thr : Int32) (dp as_ ops : Nat) (A : Nat → am_T) (b : List Bool) (hI : RI E M R rows thr dp as_ ops A) (hR : RL R) (hd : dp + as_ ≤ 200) (hk : ops ≤ 1000) : mp_Cr l m_Mo_isDone E M 4 0 0 [.ref (R 0), .int (nI 169)] (RQ E R M rows thr b (am_op 169 (LM A dp) (LO A as_) b ops)) := by
  refine mp_Cr.of (by decide) (Nat.le_of_ble_eq_true rfl) fun Γ κ hl hκ => ?_
  subst hl
  obtain ⟨hκd, hκc, hκs, -⟩ := id hκ
  show mp_J Γ m_Mo_isDone E κ M [(0, .ref (R 0)), (1, .int (nI 169))] 0 [] 0 0
  refine j_iload_n d_Mo_isDone_0 rfl 1 rfl ?_
  refine j_bipush (v := nI 79) d_Mo_isDone_1 (by decide) ?_
  refine j_ncmp_eq 18 169 79 rfl rfl (by omega) (by omega) d_Mo_isDone_3 (by decide) (fun b3 => (by first | exact b3.elim | exact absurd b3 (by omega))) (fun b3 => ?_)
  refine j_iload_n d_Mo_isDone_6 rfl 1 rfl ?_
  refine j_bipush (v := nI 81) d_Mo_isDone_7 (by decide) ?_
  refine j_ncmp_lt 29 169 81 rfl rfl (by omega) (by omega) d_Mo_isDone_9 (by decide) (fun b9 => (by first | exact b9.elim | exact absurd b9 (by omega))) (fun b9 => ?_)
  refine j_iload_n d_Mo_isDone_12 rfl 1 rfl ?_
  refine j_bipush (v := nI 96) d_Mo_isDone_13 (by decide) ?_
  refine j_ncmp_gt 29 169 96 rfl rfl (by omega) (by omega) d_Mo_isDone_15 (by decide) (fun b15 => ?_) (fun b15 => (by first | exact b15.elim | exact absurd b15 (by omega)))
  refine j_iload_n d_Mo_isDone_29 rfl 1 rfl ?_
  refine j_sipush (v := nI 139) d_Mo_isDone_30 (by decide) ?_
  refine j_ncmp_lt 49 169 139 rfl rfl (by omega) (by omega) d_Mo_isDone_33 (by decide) (fun b33 => (by first | exact b33.elim | exact absurd b33 (by omega))) (fun b33 => ?_)
  refine j_iload_n d_Mo_isDone_36 rfl 1 rfl ?_
  refine j_sipush (v := nI 165) d_Mo_isDone_37 (by decide) ?_
  refine j_ncmp_gt 49 169 165 rfl rfl (by omega) (by omega) d_Mo_isDone_40 (by decide) (fun b40 => ?_) (fun b40 => (by first | exact b40.elim | exact absurd b40 (by omega)))
  refine j_iload_n d_Mo_isDone_49 rfl 1 rfl ?_
  refine j_tableIn 933 d_Mo_isDone_50 (by decide) (by decide) rfl (by decide) ?_
  refine j_aload_n d_Mo_isDone_933 rfl 0 rfl ?_
  refine j_iload_n d_Mo_isDone_934 rfl 1 rfl ?_
  refine j_callV (As := [.int (nI 169)]) (rest := []) (c_Mo_hs_169 Γ.l E M R rows thr dp as_ ops A b hI hR hd hk) Y_Mo_hashed w_1076 w_1078 ws_43 hI.1 rfl rfl rfl (Nat.le_of_ble_eq_true rfl) (by omega) (by omega) (by omega) d_Mo_isDone_935 (fun v935 N935 p935 => ?_)
  obtain ⟨w935, d935, a935, k935, B935, rfl, I935, f935, g935, T935, F935⟩ := p935
  show mp_J Γ m_Mo_isDone E κ N935 [(0, .ref (R 0)), (1, .int (nI 169))] 938 [.int (tf w935)] 0 0
  exact j_zret hκ rfl (tf_01 _) (by omega) (by omega) d_Mo_isDone_938 (RQ.k I935 f935 g935 T935 F935 rfl)

set_option maxHeartbeats 4000000 in
set_option maxRecDepth 100000 in
theorem c_Mo_dn_170 (l : Launch) (E : mp_E) (M : mp_M) (R : Nat → Nat) (rows : Nat) (thr : Int32) (dp as_ ops : Nat) (A : Nat → am_T) (b : List Bool) (hI : RI E M R rows thr dp as_ ops A) (hR : RL R) (hd : dp + as_ ≤ 200) (hk : ops ≤ 1000) : mp_Cr l m_Mo_isDone E M 4 0 0 [.ref (R 0), .int (nI 170)] (RQ E R M rows thr b (am_op 170 (LM A dp) (LO A as_) b ops)) := by
  refine mp_Cr.of (by decide) (Nat.le_of_ble_eq_true rfl) fun Γ κ hl hκ => ?_
  subst hl
  obtain ⟨hκd, hκc, hκs, -⟩ := id hκ
  show mp_J Γ m_Mo_isDone E κ M [(0, .ref (R 0)), (1, .int (nI 170))] 0 [] 0 0
  refine j_iload_n d_Mo_isDone_0 rfl 1 rfl ?_
  refine j_bipush (v := nI 79) d_Mo_isDone_1 (by decide) ?_
  refine j_ncmp_eq 18 170 79 rfl rfl (by omega) (by omega) d_Mo_isDone_3 (by decide) (fun b3 => (by first | exact b3.elim | exact absurd b3 (by omega))) (fun b3 => ?_)
  refine j_iload_n d_Mo_isDone_6 rfl 1 rfl ?_
  refine j_bipush (v := nI 81) d_Mo_isDone_7 (by decide) ?_
  refine j_ncmp_lt 29 170 81 rfl rfl (by omega) (by omega) d_Mo_isDone_9 (by decide) (fun b9 => (by first | exact b9.elim | exact absurd b9 (by omega))) (fun b9 => ?_)
  refine j_iload_n d_Mo_isDone_12 rfl 1 rfl ?_
  refine j_bipush (v := nI 96) d_Mo_isDone_13 (by decide) ?_
  refine j_ncmp_gt 29 170 96 rfl rfl (by omega) (by omega) d_Mo_isDone_15 (by decide) (fun b15 => ?_) (fun b15 => (by first | exact b15.elim | exact absurd b15 (by omega)))
  refine j_iload_n d_Mo_isDone_29 rfl 1 rfl ?_
  refine j_sipush (v := nI 139) d_Mo_isDone_30 (by decide) ?_
  refine j_ncmp_lt 49 170 139 rfl rfl (by omega) (by omega) d_Mo_isDone_33 (by decide) (fun b33 => (by first | exact b33.elim | exact absurd b33 (by omega))) (fun b33 => ?_)
  refine j_iload_n d_Mo_isDone_36 rfl 1 rfl ?_
  refine j_sipush (v := nI 165) d_Mo_isDone_37 (by decide) ?_
  refine j_ncmp_gt 49 170 165 rfl rfl (by omega) (by omega) d_Mo_isDone_40 (by decide) (fun b40 => ?_) (fun b40 => (by first | exact b40.elim | exact absurd b40 (by omega)))
  refine j_iload_n d_Mo_isDone_49 rfl 1 rfl ?_
  refine j_tableIn 933 d_Mo_isDone_50 (by decide) (by decide) rfl (by decide) ?_
  refine j_aload_n d_Mo_isDone_933 rfl 0 rfl ?_
  refine j_iload_n d_Mo_isDone_934 rfl 1 rfl ?_
  refine j_callV (As := [.int (nI 170)]) (rest := []) (c_Mo_hs_170 Γ.l E M R rows thr dp as_ ops A b hI hR hd hk) Y_Mo_hashed w_1076 w_1078 ws_43 hI.1 rfl rfl rfl (Nat.le_of_ble_eq_true rfl) (by omega) (by omega) (by omega) d_Mo_isDone_935 (fun v935 N935 p935 => ?_)
  obtain ⟨w935, d935, a935, k935, B935, rfl, I935, f935, g935, T935, F935⟩ := p935
  show mp_J Γ m_Mo_isDone E κ N935 [(0, .ref (R 0)), (1, .int (nI 170))] 938 [.int (tf w935)] 0 0
  exact j_zret hκ rfl (tf_01 _) (by omega) (by omega) d_Mo_isDone_938 (RQ.k I935 f935 g935 T935 F935 rfl)

set_option maxHeartbeats 4000000 in
set_option maxRecDepth 100000 in
theorem c_Mo_dn_171 (l : Launch) (E : mp_E) (M : mp_M) (R : Nat → Nat) (rows : Nat) (thr : Int32) (dp as_ ops : Nat) (A : Nat → am_T) (b : List Bool) (hI : RI E M R rows thr dp as_ ops A) (hR : RL R) (hd : dp + as_ ≤ 200) (hk : ops ≤ 1000) : mp_Cr l m_Mo_isDone E M 4 0 0 [.ref (R 0), .int (nI 171)] (RQ E R M rows thr b (am_op 171 (LM A dp) (LO A as_) b ops)) := by
  refine mp_Cr.of (by decide) (Nat.le_of_ble_eq_true rfl) fun Γ κ hl hκ => ?_
  subst hl
  obtain ⟨hκd, hκc, hκs, -⟩ := id hκ
  show mp_J Γ m_Mo_isDone E κ M [(0, .ref (R 0)), (1, .int (nI 171))] 0 [] 0 0
  refine j_iload_n d_Mo_isDone_0 rfl 1 rfl ?_
  refine j_bipush (v := nI 79) d_Mo_isDone_1 (by decide) ?_
  refine j_ncmp_eq 18 171 79 rfl rfl (by omega) (by omega) d_Mo_isDone_3 (by decide) (fun b3 => (by first | exact b3.elim | exact absurd b3 (by omega))) (fun b3 => ?_)
  refine j_iload_n d_Mo_isDone_6 rfl 1 rfl ?_
  refine j_bipush (v := nI 81) d_Mo_isDone_7 (by decide) ?_
  refine j_ncmp_lt 29 171 81 rfl rfl (by omega) (by omega) d_Mo_isDone_9 (by decide) (fun b9 => (by first | exact b9.elim | exact absurd b9 (by omega))) (fun b9 => ?_)
  refine j_iload_n d_Mo_isDone_12 rfl 1 rfl ?_
  refine j_bipush (v := nI 96) d_Mo_isDone_13 (by decide) ?_
  refine j_ncmp_gt 29 171 96 rfl rfl (by omega) (by omega) d_Mo_isDone_15 (by decide) (fun b15 => ?_) (fun b15 => (by first | exact b15.elim | exact absurd b15 (by omega)))
  refine j_iload_n d_Mo_isDone_29 rfl 1 rfl ?_
  refine j_sipush (v := nI 139) d_Mo_isDone_30 (by decide) ?_
  refine j_ncmp_lt 49 171 139 rfl rfl (by omega) (by omega) d_Mo_isDone_33 (by decide) (fun b33 => (by first | exact b33.elim | exact absurd b33 (by omega))) (fun b33 => ?_)
  refine j_iload_n d_Mo_isDone_36 rfl 1 rfl ?_
  refine j_sipush (v := nI 165) d_Mo_isDone_37 (by decide) ?_
  refine j_ncmp_gt 49 171 165 rfl rfl (by omega) (by omega) d_Mo_isDone_40 (by decide) (fun b40 => ?_) (fun b40 => (by first | exact b40.elim | exact absurd b40 (by omega)))
  refine j_iload_n d_Mo_isDone_49 rfl 1 rfl ?_
  refine j_tableIn 992 d_Mo_isDone_50 (by decide) (by decide) rfl (by decide) ?_
  refine j_iconst (v := nI 0) d_Mo_isDone_992 (by decide) ?_
  exact j_zret hκ rfl (by first | exact Or.inl rfl | exact Or.inr rfl) (by omega) (by omega) d_Mo_isDone_993 (RQ.f hI RFr.refl (by omega) (xn (by omega)))

set_option maxHeartbeats 4000000 in
set_option maxRecDepth 100000 in
theorem c_Mo_dn_172 (l : Launch) (E : mp_E) (M : mp_M) (R : Nat → Nat) (rows : Nat) (thr : Int32) (dp as_ ops : Nat) (A : Nat → am_T) (b : List Bool) (hI : RI E M R rows thr dp as_ ops A) (hR : RL R) (hd : dp + as_ ≤ 200) (hk : ops ≤ 1000) : mp_Cr l m_Mo_isDone E M 4 0 0 [.ref (R 0), .int (nI 172)] (RQ E R M rows thr b (am_op 172 (LM A dp) (LO A as_) b ops)) := by
  refine mp_Cr.of (by decide) (Nat.le_of_ble_eq_true rfl) fun Γ κ hl hκ => ?_
  subst hl
  obtain ⟨hκd, hκc, hκs, -⟩ := id hκ
  show mp_J Γ m_Mo_isDone E κ M [(0, .ref (R 0)), (1, .int (nI 172))] 0 [] 0 0
  refine j_iload_n d_Mo_isDone_0 rfl 1 rfl ?_
  refine j_bipush (v := nI 79) d_Mo_isDone_1 (by decide) ?_
  refine j_ncmp_eq 18 172 79 rfl rfl (by omega) (by omega) d_Mo_isDone_3 (by decide) (fun b3 => (by first | exact b3.elim | exact absurd b3 (by omega))) (fun b3 => ?_)
  refine j_iload_n d_Mo_isDone_6 rfl 1 rfl ?_
  refine j_bipush (v := nI 81) d_Mo_isDone_7 (by decide) ?_
  refine j_ncmp_lt 29 172 81 rfl rfl (by omega) (by omega) d_Mo_isDone_9 (by decide) (fun b9 => (by first | exact b9.elim | exact absurd b9 (by omega))) (fun b9 => ?_)
  refine j_iload_n d_Mo_isDone_12 rfl 1 rfl ?_
  refine j_bipush (v := nI 96) d_Mo_isDone_13 (by decide) ?_
  refine j_ncmp_gt 29 172 96 rfl rfl (by omega) (by omega) d_Mo_isDone_15 (by decide) (fun b15 => ?_) (fun b15 => (by first | exact b15.elim | exact absurd b15 (by omega)))
  refine j_iload_n d_Mo_isDone_29 rfl 1 rfl ?_
  refine j_sipush (v := nI 139) d_Mo_isDone_30 (by decide) ?_
  refine j_ncmp_lt 49 172 139 rfl rfl (by omega) (by omega) d_Mo_isDone_33 (by decide) (fun b33 => (by first | exact b33.elim | exact absurd b33 (by omega))) (fun b33 => ?_)
  refine j_iload_n d_Mo_isDone_36 rfl 1 rfl ?_
  refine j_sipush (v := nI 165) d_Mo_isDone_37 (by decide) ?_
  refine j_ncmp_gt 49 172 165 rfl rfl (by omega) (by omega) d_Mo_isDone_40 (by decide) (fun b40 => ?_) (fun b40 => (by first | exact b40.elim | exact absurd b40 (by omega)))
  refine j_iload_n d_Mo_isDone_49 rfl 1 rfl ?_
  refine j_tableIn 939 d_Mo_isDone_50 (by decide) (by decide) rfl (by decide) ?_
  refine j_aload_n d_Mo_isDone_939 rfl 0 rfl ?_
  refine j_iconst (v := nI 2) d_Mo_isDone_940 (by decide) ?_
  refine j_callV (As := [.int (nI 2)]) (rest := []) (c_Mo_has Γ.l E M (R 0) (R 1) rows (R 2) (R 3) (R 4) (R 5) (R 6) (R 7) (R 8) (R 9) dp as_ ops (R 10) thr 2 hI.1 (by omega) (by omega)) Y_Mo_has w_1039 w_1041 ws_35 hI.1 rfl rfl rfl (Nat.le_of_ble_eq_true rfl) (by omega) (by omega) (by omega) d_Mo_isDone_941 (fun v941 N941 p941 => ?_)
  obtain ⟨rfl, q941⟩ := p941
  obtain rfl := q941.symm
  show mp_J Γ m_Mo_isDone E κ M [(0, .ref (R 0)), (1, .int (nI 172))] 944 [.int (tf (decide (2 ≤ dp)))] 0 0
  refine j_tif_ne 949 d_Mo_isDone_944 (by decide) (fun b944 => ?_) (fun b944 => ?_)
  · skip
    have d944 := of_decide_eq_true b944
    refine j_aload_n d_Mo_isDone_949 rfl 0 rfl ?_
    refine j_dup d_Mo_isDone_950 rfl ?_
    refine j_get F_Mo hI.1 11 (by decide) w_954 (Or.inl rfl) rfl d_Mo_isDone_951 ?_
    refine j_iconst (v := nI 2) d_Mo_isDone_954 (by decide) ?_
    refine j_isub d_Mo_isDone_955 ?_
    refine j_eqi (y := nI (dp - 2)) (pk_sub (by omega)) ?_
    refine j_put F_Mo hI.1 11 (by decide) w_954 (Or.inl rfl) rfl rfl rfl (Nat.le_of_ble_eq_true rfl) d_Mo_isDone_956 ?_
    show mp_J Γ m_Mo_isDone E κ (mp_up M (R 0) (mp_o 7 [.ref (R 1), .int (nI rows), .int thr, .ref (R 2), .ref (R 3), .ref (R 4), .ref (R 5), .ref (R 6), .ref (R 7), .ref (R 8), .ref (R 9), .int (nI (dp - 2)), .int (nI as_), .int (nI ops), .ref (R 10)])) [(0, .ref (R 0)), (1, .int (nI 172))] 959 [] 0 0
    generalize eM1 : mp_up M (R 0) (mp_o 7 [.ref (R 1), .int (nI rows), .int thr, .ref (R 2), .ref (R 3), .ref (R 4), .ref (R 5), .ref (R 6), .ref (R 7), .ref (R 8), .ref (R 9), .int (nI (dp - 2)), .int (nI as_), .int (nI ops), .ref (R 10)]) = M1
    have hM1__R_0_ : M1 (R 0) = some (mp_o 7 [.ref (R 1), .int (nI rows), .int thr, .ref (R 2), .ref (R 3), .ref (R 4), .ref (R 5), .ref (R 6), .ref (R 7), .ref (R 8), .ref (R 9), .int (nI (dp - 2)), .int (nI as_), .int (nI ops), .ref (R 10)]) := by rw [← eM1]; exact mp_s
    have JM1 : RI E M1 R rows thr (dp - 2) as_ ops A := hI.set hR eM1
    have fM1 : RFr R M M1 := RFr.s0 eM1
    refine j_iload_n d_Mo_isDone_959 rfl 1 rfl ?_
    refine j_sipush (v := nI 173) d_Mo_isDone_960 (by decide) ?_
    refine j_ncmp_ne 968 172 173 rfl rfl (by omega) (by omega) d_Mo_isDone_963 (by decide) (fun b963 => ?_) (fun b963 => (by first | exact b963.elim | exact absurd b963 (by omega)))
    refine j_aload_n d_Mo_isDone_968 rfl 0 rfl ?_
    refine j_iconst (v := nI 0) d_Mo_isDone_969 (by decide) ?_
    refine j_callV (As := [.int (nI 0)]) (rest := []) (r_pushTruth Γ.l E M1 R rows thr (dp - 2) as_ ops A false JM1 hR (by omega)) Y_Mo_pushTruth w_1072 w_1074 ws_42 hM1__R_0_ rfl rfl rfl (Nat.le_of_ble_eq_true rfl) (by omega) (by omega) (by omega) d_Mo_isDone_970 (fun v970 N970 p970 => ?_)
    obtain ⟨rfl, I970, f970⟩ := p970
    show mp_J Γ m_Mo_isDone E κ N970 [(0, .ref (R 0)), (1, .int (nI 172))] 973 [] 0 0
    refine j_iconst (v := nI 1) d_Mo_isDone_973 (by decide) ?_
    exact j_zret hκ rfl (by first | exact Or.inl rfl | exact Or.inr rfl) (by omega) (by omega) d_Mo_isDone_974 (RQ.t I970 (fM1.trans f970) (by omega) (x172 d944 (by omega)))
  · skip
    have d944 := of_decide_eq_false b944
    refine j_iconst (v := nI 0) d_Mo_isDone_947 (by decide) ?_
    exact j_zret hκ rfl (by first | exact Or.inl rfl | exact Or.inr rfl) (by omega) (by omega) d_Mo_isDone_948 (RQ.f hI RFr.refl (by omega) (xf172 d944))

set_option maxHeartbeats 4000000 in
set_option maxRecDepth 100000 in
theorem c_Mo_dn_173 (l : Launch) (E : mp_E) (M : mp_M) (R : Nat → Nat) (rows : Nat) (thr : Int32) (dp as_ ops : Nat) (A : Nat → am_T) (b : List Bool) (hI : RI E M R rows thr dp as_ ops A) (hR : RL R) (hd : dp + as_ ≤ 200) (hk : ops ≤ 1000) : mp_Cr l m_Mo_isDone E M 4 0 0 [.ref (R 0), .int (nI 173)] (RQ E R M rows thr b (am_op 173 (LM A dp) (LO A as_) b ops)) := by
  refine mp_Cr.of (by decide) (Nat.le_of_ble_eq_true rfl) fun Γ κ hl hκ => ?_
  subst hl
  obtain ⟨hκd, hκc, hκs, -⟩ := id hκ
  show mp_J Γ m_Mo_isDone E κ M [(0, .ref (R 0)), (1, .int (nI 173))] 0 [] 0 0
  refine j_iload_n d_Mo_isDone_0 rfl 1 rfl ?_
  refine j_bipush (v := nI 79) d_Mo_isDone_1 (by decide) ?_
  refine j_ncmp_eq 18 173 79 rfl rfl (by omega) (by omega) d_Mo_isDone_3 (by decide) (fun b3 => (by first | exact b3.elim | exact absurd b3 (by omega))) (fun b3 => ?_)
  refine j_iload_n d_Mo_isDone_6 rfl 1 rfl ?_
  refine j_bipush (v := nI 81) d_Mo_isDone_7 (by decide) ?_
  refine j_ncmp_lt 29 173 81 rfl rfl (by omega) (by omega) d_Mo_isDone_9 (by decide) (fun b9 => (by first | exact b9.elim | exact absurd b9 (by omega))) (fun b9 => ?_)
  refine j_iload_n d_Mo_isDone_12 rfl 1 rfl ?_
  refine j_bipush (v := nI 96) d_Mo_isDone_13 (by decide) ?_
  refine j_ncmp_gt 29 173 96 rfl rfl (by omega) (by omega) d_Mo_isDone_15 (by decide) (fun b15 => ?_) (fun b15 => (by first | exact b15.elim | exact absurd b15 (by omega)))
  refine j_iload_n d_Mo_isDone_29 rfl 1 rfl ?_
  refine j_sipush (v := nI 139) d_Mo_isDone_30 (by decide) ?_
  refine j_ncmp_lt 49 173 139 rfl rfl (by omega) (by omega) d_Mo_isDone_33 (by decide) (fun b33 => (by first | exact b33.elim | exact absurd b33 (by omega))) (fun b33 => ?_)
  refine j_iload_n d_Mo_isDone_36 rfl 1 rfl ?_
  refine j_sipush (v := nI 165) d_Mo_isDone_37 (by decide) ?_
  refine j_ncmp_gt 49 173 165 rfl rfl (by omega) (by omega) d_Mo_isDone_40 (by decide) (fun b40 => ?_) (fun b40 => (by first | exact b40.elim | exact absurd b40 (by omega)))
  refine j_iload_n d_Mo_isDone_49 rfl 1 rfl ?_
  refine j_tableIn 939 d_Mo_isDone_50 (by decide) (by decide) rfl (by decide) ?_
  refine j_aload_n d_Mo_isDone_939 rfl 0 rfl ?_
  refine j_iconst (v := nI 2) d_Mo_isDone_940 (by decide) ?_
  refine j_callV (As := [.int (nI 2)]) (rest := []) (c_Mo_has Γ.l E M (R 0) (R 1) rows (R 2) (R 3) (R 4) (R 5) (R 6) (R 7) (R 8) (R 9) dp as_ ops (R 10) thr 2 hI.1 (by omega) (by omega)) Y_Mo_has w_1039 w_1041 ws_35 hI.1 rfl rfl rfl (Nat.le_of_ble_eq_true rfl) (by omega) (by omega) (by omega) d_Mo_isDone_941 (fun v941 N941 p941 => ?_)
  obtain ⟨rfl, q941⟩ := p941
  obtain rfl := q941.symm
  show mp_J Γ m_Mo_isDone E κ M [(0, .ref (R 0)), (1, .int (nI 173))] 944 [.int (tf (decide (2 ≤ dp)))] 0 0
  refine j_tif_ne 949 d_Mo_isDone_944 (by decide) (fun b944 => ?_) (fun b944 => ?_)
  · skip
    have d944 := of_decide_eq_true b944
    refine j_aload_n d_Mo_isDone_949 rfl 0 rfl ?_
    refine j_dup d_Mo_isDone_950 rfl ?_
    refine j_get F_Mo hI.1 11 (by decide) w_954 (Or.inl rfl) rfl d_Mo_isDone_951 ?_
    refine j_iconst (v := nI 2) d_Mo_isDone_954 (by decide) ?_
    refine j_isub d_Mo_isDone_955 ?_
    refine j_eqi (y := nI (dp - 2)) (pk_sub (by omega)) ?_
    refine j_put F_Mo hI.1 11 (by decide) w_954 (Or.inl rfl) rfl rfl rfl (Nat.le_of_ble_eq_true rfl) d_Mo_isDone_956 ?_
    show mp_J Γ m_Mo_isDone E κ (mp_up M (R 0) (mp_o 7 [.ref (R 1), .int (nI rows), .int thr, .ref (R 2), .ref (R 3), .ref (R 4), .ref (R 5), .ref (R 6), .ref (R 7), .ref (R 8), .ref (R 9), .int (nI (dp - 2)), .int (nI as_), .int (nI ops), .ref (R 10)])) [(0, .ref (R 0)), (1, .int (nI 173))] 959 [] 0 0
    generalize eM1 : mp_up M (R 0) (mp_o 7 [.ref (R 1), .int (nI rows), .int thr, .ref (R 2), .ref (R 3), .ref (R 4), .ref (R 5), .ref (R 6), .ref (R 7), .ref (R 8), .ref (R 9), .int (nI (dp - 2)), .int (nI as_), .int (nI ops), .ref (R 10)]) = M1
    have hM1__R_0_ : M1 (R 0) = some (mp_o 7 [.ref (R 1), .int (nI rows), .int thr, .ref (R 2), .ref (R 3), .ref (R 4), .ref (R 5), .ref (R 6), .ref (R 7), .ref (R 8), .ref (R 9), .int (nI (dp - 2)), .int (nI as_), .int (nI ops), .ref (R 10)]) := by rw [← eM1]; exact mp_s
    have JM1 : RI E M1 R rows thr (dp - 2) as_ ops A := hI.set hR eM1
    have fM1 : RFr R M M1 := RFr.s0 eM1
    refine j_iload_n d_Mo_isDone_959 rfl 1 rfl ?_
    refine j_sipush (v := nI 173) d_Mo_isDone_960 (by decide) ?_
    refine j_ncmp_ne 968 173 173 rfl rfl (by omega) (by omega) d_Mo_isDone_963 (by decide) (fun b963 => (by first | exact b963.elim | exact absurd b963 (by omega))) (fun b963 => ?_)
    refine j_iconst (v := nI 0) d_Mo_isDone_966 (by decide) ?_
    exact j_zret hκ rfl (by first | exact Or.inl rfl | exact Or.inr rfl) (by omega) (by omega) d_Mo_isDone_967 (RQ.f JM1 fM1 (by omega) x173)
  · skip
    have d944 := of_decide_eq_false b944
    refine j_iconst (v := nI 0) d_Mo_isDone_947 (by decide) ?_
    exact j_zret hκ rfl (by first | exact Or.inl rfl | exact Or.inr rfl) (by omega) (by omega) d_Mo_isDone_948 (RQ.f hI RFr.refl (by omega) x173)

set_option maxHeartbeats 4000000 in
set_option maxRecDepth 100000 in
theorem c_Mo_dn_174 (l : Launch) (E : mp_E) (M : mp_M) (R : Nat → Nat) (rows : Nat) (thr : Int32) (dp as_ ops : Nat) (A : Nat → am_T) (b : List Bool) (hI : RI E M R rows thr dp as_ ops A) (hR : RL R) (hd : dp + as_ ≤ 200) (hk : ops ≤ 1000) : mp_Cr l m_Mo_isDone E M 4 0 0 [.ref (R 0), .int (nI 174)] (RQ E R M rows thr b (am_op 174 (LM A dp) (LO A as_) b ops)) := by
  refine mp_Cr.of (by decide) (Nat.le_of_ble_eq_true rfl) fun Γ κ hl hκ => ?_
  subst hl
  obtain ⟨hκd, hκc, hκs, -⟩ := id hκ
  show mp_J Γ m_Mo_isDone E κ M [(0, .ref (R 0)), (1, .int (nI 174))] 0 [] 0 0
  refine j_iload_n d_Mo_isDone_0 rfl 1 rfl ?_
  refine j_bipush (v := nI 79) d_Mo_isDone_1 (by decide) ?_
  refine j_ncmp_eq 18 174 79 rfl rfl (by omega) (by omega) d_Mo_isDone_3 (by decide) (fun b3 => (by first | exact b3.elim | exact absurd b3 (by omega))) (fun b3 => ?_)
  refine j_iload_n d_Mo_isDone_6 rfl 1 rfl ?_
  refine j_bipush (v := nI 81) d_Mo_isDone_7 (by decide) ?_
  refine j_ncmp_lt 29 174 81 rfl rfl (by omega) (by omega) d_Mo_isDone_9 (by decide) (fun b9 => (by first | exact b9.elim | exact absurd b9 (by omega))) (fun b9 => ?_)
  refine j_iload_n d_Mo_isDone_12 rfl 1 rfl ?_
  refine j_bipush (v := nI 96) d_Mo_isDone_13 (by decide) ?_
  refine j_ncmp_gt 29 174 96 rfl rfl (by omega) (by omega) d_Mo_isDone_15 (by decide) (fun b15 => ?_) (fun b15 => (by first | exact b15.elim | exact absurd b15 (by omega)))
  refine j_iload_n d_Mo_isDone_29 rfl 1 rfl ?_
  refine j_sipush (v := nI 139) d_Mo_isDone_30 (by decide) ?_
  refine j_ncmp_lt 49 174 139 rfl rfl (by omega) (by omega) d_Mo_isDone_33 (by decide) (fun b33 => (by first | exact b33.elim | exact absurd b33 (by omega))) (fun b33 => ?_)
  refine j_iload_n d_Mo_isDone_36 rfl 1 rfl ?_
  refine j_sipush (v := nI 165) d_Mo_isDone_37 (by decide) ?_
  refine j_ncmp_gt 49 174 165 rfl rfl (by omega) (by omega) d_Mo_isDone_40 (by decide) (fun b40 => ?_) (fun b40 => (by first | exact b40.elim | exact absurd b40 (by omega)))
  refine j_iload_n d_Mo_isDone_49 rfl 1 rfl ?_
  refine j_tableIn 975 d_Mo_isDone_50 (by decide) (by decide) rfl (by decide) ?_
  refine j_aload_n d_Mo_isDone_975 rfl 0 rfl ?_
  refine j_iload_n d_Mo_isDone_976 rfl 1 rfl ?_
  refine j_sipush (v := nI 175) d_Mo_isDone_977 (by decide) ?_
  refine j_ncmp_ne 987 174 175 rfl rfl (by omega) (by omega) d_Mo_isDone_980 (by decide) (fun b980 => ?_) (fun b980 => (by first | exact b980.elim | exact absurd b980 (by omega)))
  refine j_iconst (v := nI 0) d_Mo_isDone_987 (by decide) ?_
  refine j_callV (As := [.int (nI 0)]) (rest := []) (c_Mo_many Γ.l E M R rows thr dp as_ ops A b false hI hR (by omega) (by omega) ) Y_Mo_many w_1122 w_1124 ws_46 hI.1 rfl rfl rfl (Nat.le_of_ble_eq_true rfl) (by omega) (by omega) (by omega) d_Mo_isDone_988 (fun v988 N988 p988 => ?_)
  obtain ⟨w988, d988, a988, k988, B988, rfl, I988, f988, g988, T988, F988⟩ := p988
  show mp_J Γ m_Mo_isDone E κ N988 [(0, .ref (R 0)), (1, .int (nI 174))] 991 [.int (tf w988)] 0 0
  exact j_zret hκ rfl (tf_01 _) (by omega) (by omega) d_Mo_isDone_991 (RQ.k I988 f988 g988 T988 F988 x174)

set_option maxHeartbeats 4000000 in
set_option maxRecDepth 100000 in
theorem c_Mo_dn_175 (l : Launch) (E : mp_E) (M : mp_M) (R : Nat → Nat) (rows : Nat) (thr : Int32) (dp as_ ops : Nat) (A : Nat → am_T) (b : List Bool) (hI : RI E M R rows thr dp as_ ops A) (hR : RL R) (hd : dp + as_ ≤ 200) (hk : ops ≤ 1000) : mp_Cr l m_Mo_isDone E M 4 0 0 [.ref (R 0), .int (nI 175)] (RQ E R M rows thr b (am_op 175 (LM A dp) (LO A as_) b ops)) := by
  refine mp_Cr.of (by decide) (Nat.le_of_ble_eq_true rfl) fun Γ κ hl hκ => ?_
  subst hl
  obtain ⟨hκd, hκc, hκs, -⟩ := id hκ
  show mp_J Γ m_Mo_isDone E κ M [(0, .ref (R 0)), (1, .int (nI 175))] 0 [] 0 0
  refine j_iload_n d_Mo_isDone_0 rfl 1 rfl ?_
  refine j_bipush (v := nI 79) d_Mo_isDone_1 (by decide) ?_
  refine j_ncmp_eq 18 175 79 rfl rfl (by omega) (by omega) d_Mo_isDone_3 (by decide) (fun b3 => (by first | exact b3.elim | exact absurd b3 (by omega))) (fun b3 => ?_)
  refine j_iload_n d_Mo_isDone_6 rfl 1 rfl ?_
  refine j_bipush (v := nI 81) d_Mo_isDone_7 (by decide) ?_
  refine j_ncmp_lt 29 175 81 rfl rfl (by omega) (by omega) d_Mo_isDone_9 (by decide) (fun b9 => (by first | exact b9.elim | exact absurd b9 (by omega))) (fun b9 => ?_)
  refine j_iload_n d_Mo_isDone_12 rfl 1 rfl ?_
  refine j_bipush (v := nI 96) d_Mo_isDone_13 (by decide) ?_
  refine j_ncmp_gt 29 175 96 rfl rfl (by omega) (by omega) d_Mo_isDone_15 (by decide) (fun b15 => ?_) (fun b15 => (by first | exact b15.elim | exact absurd b15 (by omega)))
  refine j_iload_n d_Mo_isDone_29 rfl 1 rfl ?_
  refine j_sipush (v := nI 139) d_Mo_isDone_30 (by decide) ?_
  refine j_ncmp_lt 49 175 139 rfl rfl (by omega) (by omega) d_Mo_isDone_33 (by decide) (fun b33 => (by first | exact b33.elim | exact absurd b33 (by omega))) (fun b33 => ?_)
  refine j_iload_n d_Mo_isDone_36 rfl 1 rfl ?_
  refine j_sipush (v := nI 165) d_Mo_isDone_37 (by decide) ?_
  refine j_ncmp_gt 49 175 165 rfl rfl (by omega) (by omega) d_Mo_isDone_40 (by decide) (fun b40 => ?_) (fun b40 => (by first | exact b40.elim | exact absurd b40 (by omega)))
  refine j_iload_n d_Mo_isDone_49 rfl 1 rfl ?_
  refine j_tableIn 975 d_Mo_isDone_50 (by decide) (by decide) rfl (by decide) ?_
  refine j_aload_n d_Mo_isDone_975 rfl 0 rfl ?_
  refine j_iload_n d_Mo_isDone_976 rfl 1 rfl ?_
  refine j_sipush (v := nI 175) d_Mo_isDone_977 (by decide) ?_
  refine j_ncmp_ne 987 175 175 rfl rfl (by omega) (by omega) d_Mo_isDone_980 (by decide) (fun b980 => (by first | exact b980.elim | exact absurd b980 (by omega))) (fun b980 => ?_)
  refine j_iconst (v := nI 1) d_Mo_isDone_983 (by decide) ?_
  refine j_goto (tgt := 988) d_Mo_isDone_984 (by decide) ?_
  refine j_callV (As := [.int (nI 1)]) (rest := []) (c_Mo_many Γ.l E M R rows thr dp as_ ops A b true hI hR (by omega) (by omega) ) Y_Mo_many w_1122 w_1124 ws_46 hI.1 rfl rfl rfl (Nat.le_of_ble_eq_true rfl) (by omega) (by omega) (by omega) d_Mo_isDone_988 (fun v988 N988 p988 => ?_)
  obtain ⟨w988, d988, a988, k988, B988, rfl, I988, f988, g988, T988, F988⟩ := p988
  show mp_J Γ m_Mo_isDone E κ N988 [(0, .ref (R 0)), (1, .int (nI 175))] 991 [.int (tf w988)] 0 0
  exact j_zret hκ rfl (tf_01 _) (by omega) (by omega) d_Mo_isDone_991 (RQ.k I988 f988 g988 T988 F988 x175)

set_option maxHeartbeats 4000000 in
set_option maxRecDepth 100000 in
theorem c_Mo_dn_c (l : Launch) (E : mp_E) (M : mp_M) (R : Nat → Nat) (rows : Nat) (thr : Int32) (dp as_ ops : Nat) (A : Nat → am_T) (b : List Bool) (c : Nat) (hI : RI E M R rows thr dp as_ ops A) (hR : RL R) (hd : dp + as_ ≤ 200) (hk : ops ≤ 1000) (hc : 81 ≤ c ∧ c ≤ 96) : mp_Cr l m_Mo_isDone E M 4 0 0 [.ref (R 0), .int (nI c)] (RQ E R M rows thr b (am_op c (LM A dp) (LO A as_) b ops)) := by
  refine mp_Cr.of (by decide) (Nat.le_of_ble_eq_true rfl) fun Γ κ hl hκ => ?_
  subst hl
  obtain ⟨hκd, hκc, hκs, -⟩ := id hκ
  show mp_J Γ m_Mo_isDone E κ M [(0, .ref (R 0)), (1, .int (nI c))] 0 [] 0 0
  refine j_iload_n d_Mo_isDone_0 rfl 1 rfl ?_
  refine j_bipush (v := nI 79) d_Mo_isDone_1 (by decide) ?_
  refine j_ncmp_eq 18 c 79 rfl rfl (by omega) (by omega) d_Mo_isDone_3 (by decide) (fun b3 => absurd b3 (by omega)) (fun b3 => ?_)
  refine j_iload_n d_Mo_isDone_6 rfl 1 rfl ?_
  refine j_bipush (v := nI 81) d_Mo_isDone_7 (by decide) ?_
  refine j_ncmp_lt 29 c 81 rfl rfl (by omega) (by omega) d_Mo_isDone_9 (by decide) (fun b9 => absurd b9 (by omega)) (fun b9 => ?_)
  refine j_iload_n d_Mo_isDone_12 rfl 1 rfl ?_
  refine j_bipush (v := nI 96) d_Mo_isDone_13 (by decide) ?_
  refine j_ncmp_gt 29 c 96 rfl rfl (by omega) (by omega) d_Mo_isDone_15 (by decide) (fun b15 => absurd b15 (by omega)) (fun b15 => ?_)
  refine j_aload_n d_Mo_isDone_18 rfl 0 rfl ?_
  refine j_iload_n d_Mo_isDone_19 rfl 1 rfl ?_
  refine j_bipush (v := nI 80) d_Mo_isDone_20 (by decide) ?_
  refine j_isub d_Mo_isDone_22 ?_
  refine j_eqi (y := nI (c - 80)) (pk_sub (by omega)) ?_
  refine j_i2l d_Mo_isDone_23 ?_
  refine j_eql (y := lN (c - 80)) (nI_l (by omega)) ?_
  refine j_callV (As := [.long (lN (c - 80))]) (rest := []) (r_pushNumber Γ.l hI hR (lN (c - 80)) (am_mag_lt (by rw [pk_lT (by omega)]; omega)) (by omega)) Y_Mo_pushNumber w_1031 w_1033 ws_33 hI.1 rfl rfl rfl (Nat.le_of_ble_eq_true rfl) (by omega) (by omega) (by omega) d_Mo_isDone_24 (fun v24 N24 p24 => ?_)
  obtain ⟨rfl, I24, f24⟩ := p24
  show mp_J Γ m_Mo_isDone E κ N24 [(0, .ref (R 0)), (1, .int (nI c))] 27 [] 0 0
  refine j_iconst (v := nI 1) d_Mo_isDone_27 (by decide) ?_
  exact j_zret hκ rfl (by first | exact Or.inl rfl | exact Or.inr rfl) (by omega) (by omega) d_Mo_isDone_28 (RQ.t I24 f24 (by omega) (x81 hc (by omega)))

set_option maxHeartbeats 4000000 in
set_option maxRecDepth 100000 in
theorem c_Mo_dn_a (l : Launch) (E : mp_E) (M : mp_M) (R : Nat → Nat) (rows : Nat) (thr : Int32) (dp as_ ops : Nat) (A : Nat → am_T) (b : List Bool) (c : Nat) (hI : RI E M R rows thr dp as_ ops A) (hR : RL R) (hd : dp + as_ ≤ 200) (hk : ops ≤ 1000) (hc : 139 ≤ c ∧ c ≤ 165) : mp_Cr l m_Mo_isDone E M 4 0 0 [.ref (R 0), .int (nI c)] (RQ E R M rows thr b (am_op c (LM A dp) (LO A as_) b ops)) := by
  refine mp_Cr.of (by decide) (Nat.le_of_ble_eq_true rfl) fun Γ κ hl hκ => ?_
  subst hl
  obtain ⟨hκd, hκc, hκs, -⟩ := id hκ
  show mp_J Γ m_Mo_isDone E κ M [(0, .ref (R 0)), (1, .int (nI c))] 0 [] 0 0
  refine j_iload_n d_Mo_isDone_0 rfl 1 rfl ?_
  refine j_bipush (v := nI 79) d_Mo_isDone_1 (by decide) ?_
  refine j_ncmp_eq 18 c 79 rfl rfl (by omega) (by omega) d_Mo_isDone_3 (by decide) (fun b3 => absurd b3 (by omega)) (fun b3 => ?_)
  refine j_iload_n d_Mo_isDone_6 rfl 1 rfl ?_
  refine j_bipush (v := nI 81) d_Mo_isDone_7 (by decide) ?_
  refine j_ncmp_lt 29 c 81 rfl rfl (by omega) (by omega) d_Mo_isDone_9 (by decide) (fun b9 => absurd b9 (by omega)) (fun b9 => ?_)
  refine j_iload_n d_Mo_isDone_12 rfl 1 rfl ?_
  refine j_bipush (v := nI 96) d_Mo_isDone_13 (by decide) ?_
  refine j_ncmp_gt 29 c 96 rfl rfl (by omega) (by omega) d_Mo_isDone_15 (by decide) (fun b15 => ?_) (fun b15 => absurd b15 (by omega))
  refine j_iload_n d_Mo_isDone_29 rfl 1 rfl ?_
  refine j_sipush (v := nI 139) d_Mo_isDone_30 (by decide) ?_
  refine j_ncmp_lt 49 c 139 rfl rfl (by omega) (by omega) d_Mo_isDone_33 (by decide) (fun b33 => absurd b33 (by omega)) (fun b33 => ?_)
  refine j_iload_n d_Mo_isDone_36 rfl 1 rfl ?_
  refine j_sipush (v := nI 165) d_Mo_isDone_37 (by decide) ?_
  refine j_ncmp_gt 49 c 165 rfl rfl (by omega) (by omega) d_Mo_isDone_40 (by decide) (fun b40 => absurd b40 (by omega)) (fun b40 => ?_)
  refine j_aload_n d_Mo_isDone_43 rfl 0 rfl ?_
  refine j_iload_n d_Mo_isDone_44 rfl 1 rfl ?_
  refine j_callV (As := [.int (nI c)]) (rest := []) (c_Mo_isArithmetic Γ.l E M R rows thr dp as_ ops A b c hI hR (by omega) (by omega) (by omega)) Y_Mo_isArithmetic w_1035 w_1037 ws_34 hI.1 rfl rfl rfl (Nat.le_of_ble_eq_true rfl) (by omega) (by omega) (by omega) d_Mo_isDone_45 (fun v45 N45 p45 => ?_)
  obtain ⟨w45, d45, a45, k45, B45, rfl, I45, f45, g45, T45, F45⟩ := p45
  show mp_J Γ m_Mo_isDone E κ N45 [(0, .ref (R 0)), (1, .int (nI c))] 48 [.int (tf w45)] 0 0
  exact j_zret hκ rfl (tf_01 _) (by omega) (by omega) d_Mo_isDone_48 (RQ.k I45 f45 g45 T45 F45 rfl)

set_option maxHeartbeats 4000000 in
set_option maxRecDepth 100000 in
theorem c_Mo_dn_o (l : Launch) (E : mp_E) (M : mp_M) (R : Nat → Nat) (rows : Nat) (thr : Int32) (dp as_ ops : Nat) (A : Nat → am_T) (b : List Bool) (c : Nat) (hI : RI E M R rows thr dp as_ ops A) (hR : RL R) (hd : dp + as_ ≤ 200) (hk : ops ≤ 1000) (hc : 175 < c ∧ c < 256) : mp_Cr l m_Mo_isDone E M 4 0 0 [.ref (R 0), .int (nI c)] (RQ E R M rows thr b (am_op c (LM A dp) (LO A as_) b ops)) := by
  refine mp_Cr.of (by decide) (Nat.le_of_ble_eq_true rfl) fun Γ κ hl hκ => ?_
  subst hl
  obtain ⟨hκd, hκc, hκs, -⟩ := id hκ
  show mp_J Γ m_Mo_isDone E κ M [(0, .ref (R 0)), (1, .int (nI c))] 0 [] 0 0
  refine j_iload_n d_Mo_isDone_0 rfl 1 rfl ?_
  refine j_bipush (v := nI 79) d_Mo_isDone_1 (by decide) ?_
  refine j_ncmp_eq 18 c 79 rfl rfl (by omega) (by omega) d_Mo_isDone_3 (by decide) (fun b3 => absurd b3 (by omega)) (fun b3 => ?_)
  refine j_iload_n d_Mo_isDone_6 rfl 1 rfl ?_
  refine j_bipush (v := nI 81) d_Mo_isDone_7 (by decide) ?_
  refine j_ncmp_lt 29 c 81 rfl rfl (by omega) (by omega) d_Mo_isDone_9 (by decide) (fun b9 => absurd b9 (by omega)) (fun b9 => ?_)
  refine j_iload_n d_Mo_isDone_12 rfl 1 rfl ?_
  refine j_bipush (v := nI 96) d_Mo_isDone_13 (by decide) ?_
  refine j_ncmp_gt 29 c 96 rfl rfl (by omega) (by omega) d_Mo_isDone_15 (by decide) (fun b15 => ?_) (fun b15 => absurd b15 (by omega))
  refine j_iload_n d_Mo_isDone_29 rfl 1 rfl ?_
  refine j_sipush (v := nI 139) d_Mo_isDone_30 (by decide) ?_
  refine j_ncmp_lt 49 c 139 rfl rfl (by omega) (by omega) d_Mo_isDone_33 (by decide) (fun b33 => absurd b33 (by omega)) (fun b33 => ?_)
  refine j_iload_n d_Mo_isDone_36 rfl 1 rfl ?_
  refine j_sipush (v := nI 165) d_Mo_isDone_37 (by decide) ?_
  refine j_ncmp_gt 49 c 165 rfl rfl (by omega) (by omega) d_Mo_isDone_40 (by decide) (fun b40 => ?_) (fun b40 => absurd b40 (by omega))
  refine j_iload_n d_Mo_isDone_49 rfl 1 rfl ?_
  refine j_tableOut 992 d_Mo_isDone_50 (Or.inr (by rw [nI_toInt (by omega)]; omega)) (by decide) ?_
  refine j_iconst (v := nI 0) d_Mo_isDone_992 (by decide) ?_
  exact j_zret hκ rfl (by first | exact Or.inl rfl | exact Or.inr rfl) (by omega) (by omega) d_Mo_isDone_993 (RQ.f hI RFr.refl (by omega) (xn (by omega)))

theorem c_Mo_dr_77 (l : Launch) (E : mp_E) (M : mp_M) (R : Nat → Nat) (rows : Nat) (thr : Int32) (dp as_ ops : Nat) (A : Nat → am_T) (b : List Bool) (c : Nat) (hI : RI E M R rows thr dp as_ ops A) (hR : RL R) (hd : dp + as_ ≤ 200) (hk : ops ≤ 1000) (hc : 77 ≤ c ∧ c ≤ 80) : mp_Cr l m_Mo_isDone E M 4 0 0 [.ref (R 0), .int (nI c)] (RQ E R M rows thr b (am_op c (LM A dp) (LO A as_) b ops)) := by
  rcases (show c = 77 ∨ c = 78 ∨ c = 79 ∨ c = 80 by omega) with rfl | rfl | rfl | rfl
  · exact c_Mo_dn_77 l E M R rows thr dp as_ ops A b hI hR hd hk
  · exact c_Mo_dn_78 l E M R rows thr dp as_ ops A b hI hR hd hk
  · exact c_Mo_dn_79 l E M R rows thr dp as_ ops A b hI hR hd hk
  · exact c_Mo_dn_80 l E M R rows thr dp as_ ops A b hI hR hd hk
theorem c_Mo_dr_97 (l : Launch) (E : mp_E) (M : mp_M) (R : Nat → Nat) (rows : Nat) (thr : Int32) (dp as_ ops : Nat) (A : Nat → am_T) (b : List Bool) (c : Nat) (hI : RI E M R rows thr dp as_ ops A) (hR : RL R) (hd : dp + as_ ≤ 200) (hk : ops ≤ 1000) (hc : 97 ≤ c ∧ c ≤ 104) : mp_Cr l m_Mo_isDone E M 4 0 0 [.ref (R 0), .int (nI c)] (RQ E R M rows thr b (am_op c (LM A dp) (LO A as_) b ops)) := by
  rcases (show c = 97 ∨ c = 98 ∨ c = 99 ∨ c = 100 ∨ c = 101 ∨ c = 102 ∨ c = 103 ∨ c = 104 by omega) with rfl | rfl | rfl | rfl | rfl | rfl | rfl | rfl
  · exact c_Mo_dn_97 l E M R rows thr dp as_ ops A b hI hR hd hk
  · exact c_Mo_dn_98 l E M R rows thr dp as_ ops A b hI hR hd hk
  · exact c_Mo_dn_99 l E M R rows thr dp as_ ops A b hI hR hd hk
  · exact c_Mo_dn_100 l E M R rows thr dp as_ ops A b hI hR hd hk
  · exact c_Mo_dn_101 l E M R rows thr dp as_ ops A b hI hR hd hk
  · exact c_Mo_dn_102 l E M R rows thr dp as_ ops A b hI hR hd hk
  · exact c_Mo_dn_103 l E M R rows thr dp as_ ops A b hI hR hd hk
  · exact c_Mo_dn_104 l E M R rows thr dp as_ ops A b hI hR hd hk
theorem c_Mo_dr_105 (l : Launch) (E : mp_E) (M : mp_M) (R : Nat → Nat) (rows : Nat) (thr : Int32) (dp as_ ops : Nat) (A : Nat → am_T) (b : List Bool) (c : Nat) (hI : RI E M R rows thr dp as_ ops A) (hR : RL R) (hd : dp + as_ ≤ 200) (hk : ops ≤ 1000) (hc : 105 ≤ c ∧ c ≤ 112) : mp_Cr l m_Mo_isDone E M 4 0 0 [.ref (R 0), .int (nI c)] (RQ E R M rows thr b (am_op c (LM A dp) (LO A as_) b ops)) := by
  rcases (show c = 105 ∨ c = 106 ∨ c = 107 ∨ c = 108 ∨ c = 109 ∨ c = 110 ∨ c = 111 ∨ c = 112 by omega) with rfl | rfl | rfl | rfl | rfl | rfl | rfl | rfl
  · exact c_Mo_dn_105 l E M R rows thr dp as_ ops A b hI hR hd hk
  · exact c_Mo_dn_106 l E M R rows thr dp as_ ops A b hI hR hd hk
  · exact c_Mo_dn_107 l E M R rows thr dp as_ ops A b hI hR hd hk
  · exact c_Mo_dn_108 l E M R rows thr dp as_ ops A b hI hR hd hk
  · exact c_Mo_dn_109 l E M R rows thr dp as_ ops A b hI hR hd hk
  · exact c_Mo_dn_110 l E M R rows thr dp as_ ops A b hI hR hd hk
  · exact c_Mo_dn_111 l E M R rows thr dp as_ ops A b hI hR hd hk
  · exact c_Mo_dn_112 l E M R rows thr dp as_ ops A b hI hR hd hk
theorem c_Mo_dr_113 (l : Launch) (E : mp_E) (M : mp_M) (R : Nat → Nat) (rows : Nat) (thr : Int32) (dp as_ ops : Nat) (A : Nat → am_T) (b : List Bool) (c : Nat) (hI : RI E M R rows thr dp as_ ops A) (hR : RL R) (hd : dp + as_ ≤ 200) (hk : ops ≤ 1000) (hc : 113 ≤ c ∧ c ≤ 120) : mp_Cr l m_Mo_isDone E M 4 0 0 [.ref (R 0), .int (nI c)] (RQ E R M rows thr b (am_op c (LM A dp) (LO A as_) b ops)) := by
  rcases (show c = 113 ∨ c = 114 ∨ c = 115 ∨ c = 116 ∨ c = 117 ∨ c = 118 ∨ c = 119 ∨ c = 120 by omega) with rfl | rfl | rfl | rfl | rfl | rfl | rfl | rfl
  · exact c_Mo_dn_113 l E M R rows thr dp as_ ops A b hI hR hd hk
  · exact c_Mo_dn_114 l E M R rows thr dp as_ ops A b hI hR hd hk
  · exact c_Mo_dn_115 l E M R rows thr dp as_ ops A b hI hR hd hk
  · exact c_Mo_dn_116 l E M R rows thr dp as_ ops A b hI hR hd hk
  · exact c_Mo_dn_117 l E M R rows thr dp as_ ops A b hI hR hd hk
  · exact c_Mo_dn_118 l E M R rows thr dp as_ ops A b hI hR hd hk
  · exact c_Mo_dn_119 l E M R rows thr dp as_ ops A b hI hR hd hk
  · exact c_Mo_dn_120 l E M R rows thr dp as_ ops A b hI hR hd hk
theorem c_Mo_dr_121 (l : Launch) (E : mp_E) (M : mp_M) (R : Nat → Nat) (rows : Nat) (thr : Int32) (dp as_ ops : Nat) (A : Nat → am_T) (b : List Bool) (c : Nat) (hI : RI E M R rows thr dp as_ ops A) (hR : RL R) (hd : dp + as_ ≤ 200) (hk : ops ≤ 1000) (hc : 121 ≤ c ∧ c ≤ 128) : mp_Cr l m_Mo_isDone E M 4 0 0 [.ref (R 0), .int (nI c)] (RQ E R M rows thr b (am_op c (LM A dp) (LO A as_) b ops)) := by
  rcases (show c = 121 ∨ c = 122 ∨ c = 123 ∨ c = 124 ∨ c = 125 ∨ c = 126 ∨ c = 127 ∨ c = 128 by omega) with rfl | rfl | rfl | rfl | rfl | rfl | rfl | rfl
  · exact c_Mo_dn_121 l E M R rows thr dp as_ ops A b hI hR hd hk
  · exact c_Mo_dn_122 l E M R rows thr dp as_ ops A b hI hR hd hk
  · exact c_Mo_dn_123 l E M R rows thr dp as_ ops A b hI hR hd hk
  · exact c_Mo_dn_124 l E M R rows thr dp as_ ops A b hI hR hd hk
  · exact c_Mo_dn_125 l E M R rows thr dp as_ ops A b hI hR hd hk
  · exact c_Mo_dn_126 l E M R rows thr dp as_ ops A b hI hR hd hk
  · exact c_Mo_dn_127 l E M R rows thr dp as_ ops A b hI hR hd hk
  · exact c_Mo_dn_128 l E M R rows thr dp as_ ops A b hI hR hd hk
theorem c_Mo_dr_129 (l : Launch) (E : mp_E) (M : mp_M) (R : Nat → Nat) (rows : Nat) (thr : Int32) (dp as_ ops : Nat) (A : Nat → am_T) (b : List Bool) (c : Nat) (hI : RI E M R rows thr dp as_ ops A) (hR : RL R) (hd : dp + as_ ≤ 200) (hk : ops ≤ 1000) (hc : 129 ≤ c ∧ c ≤ 138) : mp_Cr l m_Mo_isDone E M 4 0 0 [.ref (R 0), .int (nI c)] (RQ E R M rows thr b (am_op c (LM A dp) (LO A as_) b ops)) := by
  rcases (show c = 129 ∨ c = 130 ∨ c = 131 ∨ c = 132 ∨ c = 133 ∨ c = 134 ∨ c = 135 ∨ c = 136 ∨ c = 137 ∨ c = 138 by omega) with rfl | rfl | rfl | rfl | rfl | rfl | rfl | rfl | rfl | rfl
  · exact c_Mo_dn_129 l E M R rows thr dp as_ ops A b hI hR hd hk
  · exact c_Mo_dn_130 l E M R rows thr dp as_ ops A b hI hR hd hk
  · exact c_Mo_dn_131 l E M R rows thr dp as_ ops A b hI hR hd hk
  · exact c_Mo_dn_132 l E M R rows thr dp as_ ops A b hI hR hd hk
  · exact c_Mo_dn_133 l E M R rows thr dp as_ ops A b hI hR hd hk
  · exact c_Mo_dn_134 l E M R rows thr dp as_ ops A b hI hR hd hk
  · exact c_Mo_dn_135 l E M R rows thr dp as_ ops A b hI hR hd hk
  · exact c_Mo_dn_136 l E M R rows thr dp as_ ops A b hI hR hd hk
  · exact c_Mo_dn_137 l E M R rows thr dp as_ ops A b hI hR hd hk
  · exact c_Mo_dn_138 l E M R rows thr dp as_ ops A b hI hR hd hk
theorem c_Mo_dr_166 (l : Launch) (E : mp_E) (M : mp_M) (R : Nat → Nat) (rows : Nat) (thr : Int32) (dp as_ ops : Nat) (A : Nat → am_T) (b : List Bool) (c : Nat) (hI : RI E M R rows thr dp as_ ops A) (hR : RL R) (hd : dp + as_ ≤ 200) (hk : ops ≤ 1000) (hc : 166 ≤ c ∧ c ≤ 175) : mp_Cr l m_Mo_isDone E M 4 0 0 [.ref (R 0), .int (nI c)] (RQ E R M rows thr b (am_op c (LM A dp) (LO A as_) b ops)) := by
  rcases (show c = 166 ∨ c = 167 ∨ c = 168 ∨ c = 169 ∨ c = 170 ∨ c = 171 ∨ c = 172 ∨ c = 173 ∨ c = 174 ∨ c = 175 by omega) with rfl | rfl | rfl | rfl | rfl | rfl | rfl | rfl | rfl | rfl
  · exact c_Mo_dn_166 l E M R rows thr dp as_ ops A b hI hR hd hk
  · exact c_Mo_dn_167 l E M R rows thr dp as_ ops A b hI hR hd hk
  · exact c_Mo_dn_168 l E M R rows thr dp as_ ops A b hI hR hd hk
  · exact c_Mo_dn_169 l E M R rows thr dp as_ ops A b hI hR hd hk
  · exact c_Mo_dn_170 l E M R rows thr dp as_ ops A b hI hR hd hk
  · exact c_Mo_dn_171 l E M R rows thr dp as_ ops A b hI hR hd hk
  · exact c_Mo_dn_172 l E M R rows thr dp as_ ops A b hI hR hd hk
  · exact c_Mo_dn_173 l E M R rows thr dp as_ ops A b hI hR hd hk
  · exact c_Mo_dn_174 l E M R rows thr dp as_ ops A b hI hR hd hk
  · exact c_Mo_dn_175 l E M R rows thr dp as_ ops A b hI hR hd hk
theorem c_Mo_isDone (l : Launch) (E : mp_E) (M : mp_M) (R : Nat → Nat) (rows : Nat) (thr : Int32) (dp as_ ops : Nat) (A : Nat → am_T) (b : List Bool) (c : Nat) (hI : RI E M R rows thr dp as_ ops A) (hR : RL R) (hd : dp + as_ ≤ 200) (hk : ops ≤ 1000) (hc : 76 < c ∧ c < 256) : mp_Cr l m_Mo_isDone E M 4 0 0 [.ref (R 0), .int (nI c)] (RQ E R M rows thr b (am_op c (LM A dp) (LO A as_) b ops)) := by
  rcases (show (81 ≤ c ∧ c ≤ 96) ∨ (139 ≤ c ∧ c ≤ 165) ∨ (175 < c ∧ c < 256) ∨ (77 ≤ c ∧ c ≤ 80) ∨ (97 ≤ c ∧ c ≤ 104) ∨ (105 ≤ c ∧ c ≤ 112) ∨ (113 ≤ c ∧ c ≤ 120) ∨ (121 ≤ c ∧ c ≤ 128) ∨ (129 ≤ c ∧ c ≤ 138) ∨ (166 ≤ c ∧ c ≤ 175) by omega) with h | h | h | h | h | h | h | h | h | h
  · exact c_Mo_dn_c l E M R rows thr dp as_ ops A b c hI hR hd hk h
  · exact c_Mo_dn_a l E M R rows thr dp as_ ops A b c hI hR hd hk h
  · exact c_Mo_dn_o l E M R rows thr dp as_ ops A b c hI hR hd hk h
  · exact c_Mo_dr_77 l E M R rows thr dp as_ ops A b c hI hR hd hk h
  · exact c_Mo_dr_97 l E M R rows thr dp as_ ops A b c hI hR hd hk h
  · exact c_Mo_dr_105 l E M R rows thr dp as_ ops A b c hI hR hd hk h
  · exact c_Mo_dr_113 l E M R rows thr dp as_ ops A b c hI hR hd hk h
  · exact c_Mo_dr_121 l E M R rows thr dp as_ ops A b c hI hR hd hk h
  · exact c_Mo_dr_129 l E M R rows thr dp as_ ops A b c hI hR hd hk h
  · exact c_Mo_dr_166 l E M R rows thr dp as_ ops A b c hI hR hd hk h