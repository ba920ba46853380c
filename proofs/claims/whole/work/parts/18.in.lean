set_option maxHeartbeats 4000000 in
set_option maxRecDepth 100000 in
theorem lp_St_init {Γ : mp_G} {κ : mp_K} (E : mp_E) (M : mp_M) (h qa qn qb : Nat) (g0 : Nat → Option Nat) (P : Option Value → mp_M → Prop) (h0 : M h = some (mp_o 4 [.ref qa, .ref qn, .int 0])) (h1 : M qa = some (mp_q E 200 g0)) (h2 : M qn = some (mp_o 5 [.ref qb])) (hP : P none (mp_up (mp_up M qa (mp_q E 200 (fun _ => some qn))) h (mp_o 4 [.ref qa, .ref qn, .int (nI 0)]))) (hκ : mp_k κ 3 3 201 (P)) : ∀ (r : Nat) (Mx : mp_M) (g : Nat → Option Nat) (i : Nat), 200 - i < r → (Mx = mp_up M qa (mp_q E 200 g)) → (∀ j, j < i → g j = some qn) → (i ≤ 200) → mp_J Γ m_St_init E κ Mx [(0, .ref h), (1, .int (nI i))] 30 [] (0 + 1 + 1 + 1) (0 + 200 + 1 + 0) := by
  obtain ⟨hκd, hκc, hκs, -⟩ := id hκ
  intro r
  induction r with
  | zero => intro Mx g i hr; exact absurd hr (Nat.not_lt_zero _)
  | succ r ih =>
    intro Mx g i hr eX hg hi
    have hX0 := mp_kp eX (mp_ne h0 h1 mp_noa) h0
    have hX2 := mp_kp eX (mp_ne h2 h1 mp_noa) h2
    have hX1 : Mx qa = some (mp_q E 200 g) := by rw [eX]; exact mp_s
    refine j_iload_n d_St_init_30 rfl 1 rfl ?_
    refine j_sipush (v := nI 200) d_St_init_31 (by decide) ?_
    refine j_ncmp_ge 53 i 200 rfl rfl (by omega) (by omega) d_St_init_34 (by decide) (fun b34 => ?_) (fun b34 => ?_)
    · skip
      refine j_canonq (fun _ => some qn) hX1 (fun j hj => hg j (by omega)) ?_
      show mp_J Γ m_St_init E κ (mp_up Mx qa (mp_q E 200 (fun _ => some qn))) [(0, .ref h), (1, .int (nI i))] 53 [] (0 + 1 + 1 + 1) (0 + 200 + 1 + 0)
      generalize eM1 : mp_up Mx qa (mp_q E 200 (fun _ => some qn)) = M1
      have hM1_h : M1 h = some (mp_o 4 [.ref qa, .ref qn, .int 0]) := by rw [← eM1, mp_n (mp_ne hX0 hX1 mp_noa)]; exact hX0
      have hM1_qn : M1 qn = some (mp_o 5 [.ref qb]) := by rw [← eM1, mp_n (mp_ne hX2 hX1 mp_noa)]; exact hX2
      have hM1_qa : M1 qa = some (mp_q E 200 (fun _ => some qn)) := by rw [← eM1]; exact mp_s
      refine j_aload_n d_St_init_53 rfl 0 rfl ?_
      refine j_iconst (v := nI 0) d_St_init_54 (by decide) ?_
      refine j_put F_St hM1_h 2 (by decide) w_124 (Or.inl rfl) rfl rfl rfl (Nat.le_of_ble_eq_true rfl) d_St_init_55 ?_
      show mp_J Γ m_St_init E κ (mp_up M1 h (mp_o 4 [.ref qa, .ref qn, .int (nI 0)])) [(0, .ref h), (1, .int (nI i))] 58 [] (0 + 1 + 1 + 1) (0 + 200 + 1 + 0)
      generalize eM2 : mp_up M1 h (mp_o 4 [.ref qa, .ref qn, .int (nI 0)]) = M2
      have hM2_qn : M2 qn = some (mp_o 5 [.ref qb]) := by rw [← eM2, mp_n (mp_ne hM1_qn hM1_h (mp_noo (by decide)))]; exact hM1_qn
      have hM2_qa : M2 qa = some (mp_q E 200 (fun _ => some qn)) := by rw [← eM2, mp_n (mp_ne hM1_qa hM1_h mp_nao)]; exact hM1_qa
      have hM2_h : M2 h = some (mp_o 4 [.ref qa, .ref qn, .int (nI 0)]) := by rw [← eM2]; exact mp_s
      exact j_vret hκ rfl (by omega) (by omega) d_St_init_58 (by subst_vars; simp only [mp_uu]; exact hP)
    · skip
      refine j_aload_n d_St_init_37 rfl 0 rfl ?_
      refine j_get F_St hX0 0 (by decide) w_122 (Or.inl rfl) rfl d_St_init_38 ?_
      refine j_iload_n d_St_init_41 rfl 1 rfl ?_
      refine j_aload_n d_St_init_42 rfl 0 rfl ?_
      refine j_get F_St hX0 1 (by decide) w_123 (Or.inl rfl) rfl d_St_init_43 ?_
      refine j_aast hX1 hX2 rfl rfl i rfl (by omega) (by omega) d_St_init_46 ?_
      generalize eM3 : mp_up Mx qa (mp_q E 200 (va_up g i (some qn))) = M3
      have hM3_h : M3 h = some (mp_o 4 [.ref qa, .ref qn, .int 0]) := by rw [← eM3, mp_n (mp_ne hX0 hX1 mp_noa)]; exact hX0
      have hM3_qn : M3 qn = some (mp_o 5 [.ref qb]) := by rw [← eM3, mp_n (mp_ne hX2 hX1 mp_noa)]; exact hX2
      have hM3_qa : M3 qa = some (mp_q E 200 (va_up g i (some qn))) := by rw [← eM3]; exact mp_s
      refine j_iinc (v := nI (i + 1)) [(1, .int (nI (i + 1))), (0, .ref h)] d_St_init_47 1 rfl (nI_add i 1) (by decide) rfl ?_
      refine j_goto (tgt := 30) d_St_init_50 (by decide) ?_
      refine j_lv [1, 0] rfl ?_
      exact ih M3 (va_up g i (some qn)) (i + 1) (by omega) (by rw [← eM3, eX, mp_uu]) (lt_s (fun j hj => by unfold va_up; rw [if_neg (by omega)]; exact hg j hj) (by unfold va_up; rw [if_pos rfl])) (by omega)

set_option maxHeartbeats 4000000 in
set_option maxRecDepth 100000 in
theorem c_St_init (l : Launch) (E : mp_E) (M : mp_M) (h : Nat) (h0 : M h = some (mp_o 4 [.null, .null, .int 0])) : mp_Cr l m_St_init E M 3 3 201 [.ref h] (fun v N => v = none ∧ ∃ qa qn qb, M qa = none ∧ M qn = none ∧ M qb = none ∧ N h = some (mp_o 4 [.ref qa, .ref qn, .int (nI 0)]) ∧ N qa = some (mp_q E 200 (fun _ => some qn)) ∧ N qn = some (mp_o 5 [.ref qb]) ∧ N qb = some (mp_b E 0 (fun _ => 0)) ∧ ∀ a, a ≠ h → a ≠ qa → a ≠ qn → a ≠ qb → N a = M a) := by
  refine mp_Cr.of (by decide) (Nat.le_of_ble_eq_true rfl) fun Γ κ hl hκ => ?_
  subst hl
  obtain ⟨hκd, hκc, hκs, -⟩ := id hκ
  show mp_J Γ m_St_init E κ M [(0, .ref h)] 0 [] 0 0
  refine j_aload_n d_St_init_0 rfl 0 rfl ?_
  refine j_objInit w_108 w_36 w_37 (Nat.le_of_ble_eq_true rfl) (by omega) d_St_init_1 ?_
  refine j_aload_n d_St_init_4 rfl 0 rfl ?_
  refine j_sipush (v := nI 200) d_St_init_5 (by decide) ?_
  refine j_newq w_109 w_110 (by omega) (by omega) (by omega) d_St_init_8 (fun qa hqa => ?_)
  generalize eM1 : mp_up M qa (mp_q E 200 (fun _ => none)) = M1
  have hM1_h : M1 h = some (mp_o 4 [.null, .null, .int 0]) := by rw [← eM1, mp_n (mp_ne0 h0 hqa)]; exact h0
  have hM1_qa : M1 qa = some (mp_q E 200 (fun _ => none)) := by rw [← eM1]; exact mp_s
  have f1 : M qa = none := hqa
  refine j_putF F_St hM1_h 0 (by decide) w_122 (Or.inl rfl) rfl rfl rfl rfl rfl (Nat.le_of_ble_eq_true rfl) d_St_init_11 ?_
  show mp_J Γ m_St_init E κ (mp_up M1 h (mp_o 4 [.ref qa, .null, .int 0])) [(0, .ref h)] 14 [] (0 + 1) (0 + 200)
  generalize eM2 : mp_up M1 h (mp_o 4 [.ref qa, .null, .int 0]) = M2
  have hM2_qa : M2 qa = some (mp_q E 200 (fun _ => none)) := by rw [← eM2, mp_n (Ne.symm (mp_ne0 h0 hqa))]; exact hM1_qa
  have hM2_h : M2 h = some (mp_o 4 [.ref qa, .null, .int 0]) := by rw [← eM2]; exact mp_s
  refine j_aload_n d_St_init_14 rfl 0 rfl ?_
  refine j_new [.null] F_Th w_109 w_111 w_8 (fun j hj => by rcases (show j = 0 by omega) with rfl <;> rfl) (by omega) (by omega) d_St_init_15 (fun qn hqn => ?_)
  generalize eM3 : mp_up M2 qn (mp_o 5 [.null]) = M3
  have hM3_qa : M3 qa = some (mp_q E 200 (fun _ => none)) := by rw [← eM3, mp_n (mp_ne0 hM2_qa hqn)]; exact hM2_qa
  have hM3_h : M3 h = some (mp_o 4 [.ref qa, .null, .int 0]) := by rw [← eM3, mp_n (mp_ne0 hM2_h hqn)]; exact hM2_h
  have hM3_qn : M3 qn = some (mp_o 5 [.null]) := by rw [← eM3]; exact mp_s
  have f2 : M qn = none := (mp_fre eM1 (mp_fre eM2 hqn))
  refine j_dup d_St_init_18 rfl ?_
  refine j_iconst (v := nI 0) d_St_init_19 (by decide) ?_
  refine j_newb w_76 (by omega) (by omega) (by omega) d_St_init_20 (fun qb hqb => ?_)
  generalize eM4 : mp_up M3 qb (mp_b E 0 (fun _ => 0)) = M4
  have hM4_qa : M4 qa = some (mp_q E 200 (fun _ => none)) := by rw [← eM4, mp_n (mp_ne0 hM3_qa hqb)]; exact hM3_qa
  have hM4_h : M4 h = some (mp_o 4 [.ref qa, .null, .int 0]) := by rw [← eM4, mp_n (mp_ne0 hM3_h hqb)]; exact hM3_h
  have hM4_qn : M4 qn = some (mp_o 5 [.null]) := by rw [← eM4, mp_n (mp_ne0 hM3_qn hqb)]; exact hM3_qn
  have hM4_qb : M4 qb = some (mp_b E 0 (fun _ => 0)) := by rw [← eM4]; exact mp_s
  have f3 : M qb = none := (mp_fre eM1 (mp_fre eM2 (mp_fre eM3 hqb)))
  refine j_callI (As := [.ref qb]) (rest := [.ref qn, .ref h]) (c_Th_init Γ.l E M4 qn qb hM4_qn) Y_Th_init rfl rfl w_112 w_113 rfl rfl (Nat.le_of_ble_eq_true rfl) (by omega) (by omega) (by omega) d_St_init_22 (fun v22 N22 p22 => ?_)
  obtain ⟨rfl, q22⟩ := p22
  show mp_J Γ m_St_init E κ N22 [(0, .ref h)] 25 [.ref qn, .ref h] (0 + 1 + 1 + 1) (0 + 200 + 1 + 0)
  have hN22_qa : N22 qa = some (mp_q E 200 (fun _ => none)) := by rw [q22, mp_n (mp_ne0 hM2_qa hqn)]; exact hM4_qa
  have hN22_h : N22 h = some (mp_o 4 [.ref qa, .null, .int 0]) := by rw [q22, mp_n (mp_ne0 hM2_h hqn)]; exact hM4_h
  have hN22_qn : N22 qn = some (mp_o 5 [.ref qb]) := by rw [q22]; exact mp_s
  have hN22_qb : N22 qb = some (mp_b E 0 (fun _ => 0)) := by rw [q22, mp_n (Ne.symm (mp_ne0 hM3_qn hqb))]; exact hM4_qb
  refine j_putF F_St hN22_h 1 (by decide) w_123 (Or.inl rfl) rfl rfl rfl rfl rfl (Nat.le_of_ble_eq_true rfl) d_St_init_25 ?_
  show mp_J Γ m_St_init E κ (mp_up N22 h (mp_o 4 [.ref qa, .ref qn, .int 0])) [(0, .ref h)] 28 [] (0 + 1 + 1 + 1) (0 + 200 + 1 + 0)
  generalize eM5 : mp_up N22 h (mp_o 4 [.ref qa, .ref qn, .int 0]) = M5
  have hM5_qa : M5 qa = some (mp_q E 200 (fun _ => none)) := by rw [← eM5, mp_n (Ne.symm (mp_ne0 h0 hqa))]; exact hN22_qa
  have hM5_qn : M5 qn = some (mp_o 5 [.ref qb]) := by rw [← eM5, mp_n (Ne.symm (mp_ne0 hM2_h hqn))]; exact hN22_qn
  have hM5_qb : M5 qb = some (mp_b E 0 (fun _ => 0)) := by rw [← eM5, mp_n (Ne.symm (mp_ne0 hM3_h hqb))]; exact hN22_qb
  have hM5_h : M5 h = some (mp_o 4 [.ref qa, .ref qn, .int 0]) := by rw [← eM5]; exact mp_s
  refine j_iconst (v := nI 0) d_St_init_28 (by decide) ?_
  refine j_istore_n [(1, .int (nI 0)), (0, .ref h)] d_St_init_29 rfl (by decide) rfl ?_
  have fr0 : ∀ a, a ≠ h → a ≠ qa → a ≠ qn → a ≠ qb → M5 a = M a := fun a h1 h2 h3 h4 => by subst_vars; simp only [mp_n h1, mp_n h2, mp_n h3, mp_n h4]
  refine j_lv [1, 0] rfl ?_
  have k1 := mp_ne hM5_h hM5_qa mp_noa
  have k2 := mp_ne hM5_qn hM5_qa mp_noa
  have k3 := mp_ne hM5_h hM5_qn (mp_noo (by decide))
  have k4 := mp_ne hM5_h hM5_qb mp_noa
  have k5 := mp_ne hM5_qa hM5_qb mp_nqi
  exact lp_St_init E M5 h qa qn qb (fun _ => none) _ hM5_h hM5_qa hM5_qn ⟨rfl, qa, qn, qb, f1, f2, f3, mp_s, (mp_n (Ne.symm k1)).trans mp_s, (mp_n (Ne.symm k3)).trans ((mp_n k2).trans hM5_qn), (mp_n (Ne.symm k4)).trans ((mp_n (Ne.symm k5)).trans hM5_qb), fun a h1 h2 h3 h4 => by rw [mp_n h1, mp_n h2]; exact fr0 a h1 h2 h3 h4⟩ hκ 201 M5 (fun _ => none) 0 (by omega) (mp_same hM5_qa).symm (fun j hj => absurd hj (Nat.not_lt_zero _)) (by omega)

set_option maxHeartbeats 4000000 in
set_option maxRecDepth 100000 in
theorem c_Su_init_sh (l : Launch) (E : mp_E) (M : mp_M) (h : Nat) (h0 : M h = some (mp_o 3 [.null, .null, .null, .null, .int 0])) : mp_Cr l m_Su_init E M 2 2 72 [.ref h, .ref (E.2.2.2 8), .int (nI 64), .int (tf true)] (fun v N => v = none ∧ ∃ qs qw, M qs = none ∧ M qw = none ∧ qs ≠ qw ∧ N h = some (mp_o 3 [.null, .ref qs, .ref qw, .ref (E.2.2.2 8), .int (tf true)]) ∧ N qs = some (mp_i E 8 (fun _ => 0)) ∧ N qw = some (mp_i E 64 (fun _ => 0)) ∧ ∀ a, a ≠ h → a ≠ qs → a ≠ qw → N a = M a) := by
  refine mp_Cr.of (by decide) (Nat.le_of_ble_eq_true rfl) fun Γ κ hl hκ => ?_
  subst hl
  obtain ⟨hκd, hκc, hκs, -⟩ := id hκ
  show mp_J Γ m_Su_init E κ M [(0, .ref h), (1, .ref (E.2.2.2 8)), (2, .int (nI 64)), (3, .int (tf true))] 0 [] 0 0
  refine j_aload_n d_Su_init_0 rfl 0 rfl ?_
  refine j_objInit w_48 w_36 w_37 (Nat.le_of_ble_eq_true rfl) (by omega) d_Su_init_1 ?_
  refine j_aload_n d_Su_init_4 rfl 0 rfl ?_
  refine j_aload_n d_Su_init_5 rfl 1 rfl ?_
  refine j_putF F_Sh h0 3 (by decide) w_63 (Or.inl rfl) rfl rfl rfl rfl rfl (Nat.le_of_ble_eq_true rfl) d_Su_init_6 ?_
  show mp_J Γ m_Su_init E κ (mp_up M h (mp_o 3 [.null, .null, .null, .ref (E.2.2.2 8), .int 0])) [(0, .ref h), (1, .ref (E.2.2.2 8)), (2, .int (nI 64)), (3, .int (tf true))] 9 [] 0 0
  generalize eM1 : mp_up M h (mp_o 3 [.null, .null, .null, .ref (E.2.2.2 8), .int 0]) = M1
  have hM1_h : M1 h = some (mp_o 3 [.null, .null, .null, .ref (E.2.2.2 8), .int 0]) := by rw [← eM1]; exact mp_s
  refine j_aload_n d_Su_init_9 rfl 0 rfl ?_
  refine j_iload_n d_Su_init_10 rfl 3 rfl ?_
  refine j_putF F_Sh hM1_h 4 (by decide) w_64 (Or.inl rfl) rfl rfl rfl rfl rfl (Nat.le_of_ble_eq_true rfl) d_Su_init_11 ?_
  show mp_J Γ m_Su_init E κ (mp_up M1 h (mp_o 3 [.null, .null, .null, .ref (E.2.2.2 8), .int (tf true)])) [(0, .ref h), (1, .ref (E.2.2.2 8)), (2, .int (nI 64)), (3, .int (tf true))] 14 [] 0 0
  generalize eM2 : mp_up M1 h (mp_o 3 [.null, .null, .null, .ref (E.2.2.2 8), .int (tf true)]) = M2
  have hM2_h : M2 h = some (mp_o 3 [.null, .null, .null, .ref (E.2.2.2 8), .int (tf true)]) := by rw [← eM2]; exact mp_s
  refine j_aload_n d_Su_init_14 rfl 0 rfl ?_
  refine j_aload_n d_Su_init_15 rfl 1 rfl ?_
  refine j_tlen 8 rfl d_Su_init_16 ?_
  show mp_J Γ m_Su_init E κ M2 [(0, .ref h), (1, .ref (E.2.2.2 8)), (2, .int (nI 64)), (3, .int (tf true))] 17 [.int (nI 8), .ref h] 0 0
  refine j_newi w_77 (by omega) (by omega) (by omega) d_Su_init_17 (fun qs hqs => ?_)
  generalize eM3 : mp_up M2 qs (mp_i E 8 (fun _ => 0)) = M3
  have hM3_h : M3 h = some (mp_o 3 [.null, .null, .null, .ref (E.2.2.2 8), .int (tf true)]) := by rw [← eM3, mp_n (mp_ne0 hM2_h hqs)]; exact hM2_h
  have hM3_qs : M3 qs = some (mp_i E 8 (fun _ => 0)) := by rw [← eM3]; exact mp_s
  have f1 : M qs = none := (mp_fre eM1 (mp_fre eM2 hqs))
  refine j_putF F_Sh hM3_h 1 (by decide) w_53 (Or.inl rfl) rfl rfl rfl rfl rfl (Nat.le_of_ble_eq_true rfl) d_Su_init_19 ?_
  show mp_J Γ m_Su_init E κ (mp_up M3 h (mp_o 3 [.null, .ref qs, .null, .ref (E.2.2.2 8), .int (tf true)])) [(0, .ref h), (1, .ref (E.2.2.2 8)), (2, .int (nI 64)), (3, .int (tf true))] 22 [] (0 + 1) (0 + 8)
  generalize eM4 : mp_up M3 h (mp_o 3 [.null, .ref qs, .null, .ref (E.2.2.2 8), .int (tf true)]) = M4
  have hM4_qs : M4 qs = some (mp_i E 8 (fun _ => 0)) := by rw [← eM4, mp_n (Ne.symm (mp_ne0 hM2_h hqs))]; exact hM3_qs
  have hM4_h : M4 h = some (mp_o 3 [.null, .ref qs, .null, .ref (E.2.2.2 8), .int (tf true)]) := by rw [← eM4]; exact mp_s
  refine j_aload_n d_Su_init_22 rfl 0 rfl ?_
  refine j_iload_n d_Su_init_23 rfl 2 rfl ?_
  refine j_bipush (v := nI 16) d_Su_init_24 (by decide) ?_
  refine j_maxI w_49 (Nat.le_of_ble_eq_true rfl) (by omega) (by omega) (by omega) d_Su_init_26 ?_
  refine j_eqi (y := nI 64) (by decide) ?_
  refine j_newi w_77 (by omega) (by omega) (by omega) d_Su_init_29 (fun qw hqw => ?_)
  generalize eM5 : mp_up M4 qw (mp_i E 64 (fun _ => 0)) = M5
  have hM5_qs : M5 qs = some (mp_i E 8 (fun _ => 0)) := by rw [← eM5, mp_n (mp_ne0 hM4_qs hqw)]; exact hM4_qs
  have hM5_h : M5 h = some (mp_o 3 [.null, .ref qs, .null, .ref (E.2.2.2 8), .int (tf true)]) := by rw [← eM5, mp_n (mp_ne0 hM4_h hqw)]; exact hM4_h
  have hM5_qw : M5 qw = some (mp_i E 64 (fun _ => 0)) := by rw [← eM5]; exact mp_s
  have f2 : M qw = none := (mp_fre eM1 (mp_fre eM2 (mp_fre eM3 (mp_fre eM4 hqw))))
  have hsw : qs ≠ qw := mp_ne0 hM4_qs hqw
  refine j_putF F_Sh hM5_h 2 (by decide) w_58 (Or.inl rfl) rfl rfl rfl rfl rfl (Nat.le_of_ble_eq_true rfl) d_Su_init_31 ?_
  show mp_J Γ m_Su_init E κ (mp_up M5 h (mp_o 3 [.null, .ref qs, .ref qw, .ref (E.2.2.2 8), .int (tf true)])) [(0, .ref h), (1, .ref (E.2.2.2 8)), (2, .int (nI 64)), (3, .int (tf true))] 34 [] (0 + 1 + 1) (0 + 8 + 64)
  generalize eM6 : mp_up M5 h (mp_o 3 [.null, .ref qs, .ref qw, .ref (E.2.2.2 8), .int (tf true)]) = M6
  have hM6_qs : M6 qs = some (mp_i E 8 (fun _ => 0)) := by rw [← eM6, mp_n (Ne.symm (mp_ne0 hM2_h hqs))]; exact hM5_qs
  have hM6_qw : M6 qw = some (mp_i E 64 (fun _ => 0)) := by rw [← eM6, mp_n (Ne.symm (mp_ne0 hM4_h hqw))]; exact hM5_qw
  have hM6_h : M6 h = some (mp_o 3 [.null, .ref qs, .ref qw, .ref (E.2.2.2 8), .int (tf true)]) := by rw [← eM6]; exact mp_s
  exact j_vret hκ rfl (by omega) (by omega) d_Su_init_34 ⟨rfl, qs, qw, f1, f2, hsw, hM6_h, hM6_qs, hM6_qw, fun a h1 h2 h3 => by subst_vars; simp only [mp_n h1, mp_n h2, mp_n h3]⟩

set_option maxHeartbeats 4000000 in
set_option maxRecDepth 100000 in
theorem c_Sh_init (l : Launch) (E : mp_E) (M : mp_M) (h : Nat) (h0 : M h = some (mp_o 3 [.null, .null, .null, .null, .int 0])) : mp_Cr l m_Sh_init E M 3 3 80 [.ref h] (fun v N => v = none ∧ ∃ qs qw qtu, M qs = none ∧ M qw = none ∧ M qtu = none ∧ qs ≠ qw ∧ qs ≠ qtu ∧ qw ≠ qtu ∧ N h = some (mp_o 3 [.ref qtu, .ref qs, .ref qw, .ref (E.2.2.2 8), .int (tf true)]) ∧ N qs = some (mp_i E 8 (fun _ => 0)) ∧ N qw = some (mp_i E 64 (fun _ => 0)) ∧ N qtu = some (mp_i E 8 (fun _ => 0)) ∧ ∀ a, a ≠ h → a ≠ qs → a ≠ qw → a ≠ qtu → N a = M a) := by
  refine mp_Cr.of (by decide) (Nat.le_of_ble_eq_true rfl) fun Γ κ hl hκ => ?_
  subst hl
  obtain ⟨hκd, hκc, hκs, -⟩ := id hκ
  show mp_J Γ m_Sh_init E κ M [(0, .ref h)] 0 [] 0 0
  refine j_aload_n d_Sh_init_0 rfl 0 rfl ?_
  refine j_gets 8 rfl w_43 rfl d_Sh_init_1 ?_
  refine j_bipush (v := nI 64) d_Sh_init_4 (by decide) ?_
  refine j_iconst (v := nI 1) d_Sh_init_6 (by decide) ?_
  refine j_eqi (y := tf true) rfl ?_
  refine j_callI (As := [.ref (E.2.2.2 8), .int (nI 64), .int (tf true)]) (rest := []) (c_Su_init_sh Γ.l E M h h0) Y_Su_init rfl rfl w_45 w_46 rfl rfl (Nat.le_of_ble_eq_true rfl) (by omega) (by omega) (by omega) d_Sh_init_7 (fun v7 N7 p7 => ?_)
  obtain ⟨rfl, qs, qw, g1, g2, g3, e0, e1, e2, fr7⟩ := p7
  show mp_J Γ m_Sh_init E κ N7 [(0, .ref h)] 10 [] (0 + 2) (0 + 72)
  refine j_aload_n d_Sh_init_10 rfl 0 rfl ?_
  refine j_gets 8 rfl w_43 rfl d_Sh_init_11 ?_
  refine j_tlen 8 rfl d_Sh_init_14 ?_
  show mp_J Γ m_Sh_init E κ N7 [(0, .ref h)] 15 [.int (nI 8), .ref h] (0 + 2) (0 + 72)
  refine j_newi w_77 (by omega) (by omega) (by omega) d_Sh_init_15 (fun qtu hqtu => ?_)
  generalize eM1 : mp_up N7 qtu (mp_i E 8 (fun _ => 0)) = M1
  have hM1_h : M1 h = some (mp_o 3 [.null, .ref qs, .ref qw, .ref (E.2.2.2 8), .int (tf true)]) := by rw [← eM1, mp_n (mp_ne0 e0 hqtu)]; exact e0
  have hM1_qs : M1 qs = some (mp_i E 8 (fun _ => 0)) := by rw [← eM1, mp_n (mp_ne0 e1 hqtu)]; exact e1
  have hM1_qw : M1 qw = some (mp_i E 64 (fun _ => 0)) := by rw [← eM1, mp_n (mp_ne0 e2 hqtu)]; exact e2
  have hM1_qtu : M1 qtu = some (mp_i E 8 (fun _ => 0)) := by rw [← eM1]; exact mp_s
  have y_qtu : N7 qtu = none := hqtu
  have f_qtu : M qtu = none := by rw [← fr7 qtu (Ne.symm (mp_ne0 e0 y_qtu)) (Ne.symm (mp_ne0 e1 y_qtu)) (Ne.symm (mp_ne0 e2 y_qtu))]; exact y_qtu
  have n_qs_qtu : qs ≠ qtu := mp_ne0 e1 hqtu
  have n_qw_qtu : qw ≠ qtu := mp_ne0 e2 hqtu
  refine j_putF F_Sh hM1_h 0 (by decide) w_52 (Or.inl rfl) rfl rfl rfl rfl rfl (Nat.le_of_ble_eq_true rfl) d_Sh_init_17 ?_
  show mp_J Γ m_Sh_init E κ (mp_up M1 h (mp_o 3 [.ref qtu, .ref qs, .ref qw, .ref (E.2.2.2 8), .int (tf true)])) [(0, .ref h)] 20 [] (0 + 2 + 1) (0 + 72 + 8)
  generalize eM2 : mp_up M1 h (mp_o 3 [.ref qtu, .ref qs, .ref qw, .ref (E.2.2.2 8), .int (tf true)]) = M2
  have hM2_qs : M2 qs = some (mp_i E 8 (fun _ => 0)) := by rw [← eM2, mp_n (mp_ne hM1_qs hM1_h mp_nao)]; exact hM1_qs
  have hM2_qw : M2 qw = some (mp_i E 64 (fun _ => 0)) := by rw [← eM2, mp_n (mp_ne hM1_qw hM1_h mp_nao)]; exact hM1_qw
  have hM2_qtu : M2 qtu = some (mp_i E 8 (fun _ => 0)) := by rw [← eM2, mp_n (Ne.symm (mp_ne0 e0 hqtu))]; exact hM1_qtu
  have hM2_h : M2 h = some (mp_o 3 [.ref qtu, .ref qs, .ref qw, .ref (E.2.2.2 8), .int (tf true)]) := by rw [← eM2]; exact mp_s
  exact j_vret hκ rfl (by omega) (by omega) d_Sh_init_20 ⟨rfl, qs, qw, qtu, g1, g2, f_qtu, g3, n_qs_qtu, n_qw_qtu, hM2_h, hM2_qs, hM2_qw, hM2_qtu, fun a h1 h2 h3 h4 => by rw [← eM2, mp_n h1, ← eM1, mp_n h4]; exact fr7 a h1 h2 h3⟩

set_option maxHeartbeats 4000000 in
set_option maxRecDepth 100000 in
theorem c_Su_init_ri (l : Launch) (E : mp_E) (M : mp_M) (h : Nat) (h0 : M h = some (mp_o 2 [.null, .null, .null, .null, .null, .int 0])) : mp_Cr l m_Su_init E M 2 2 21 [.ref h, .ref (E.2.2.2 6), .int (nI 16), .int (tf false)] (fun v N => v = none ∧ ∃ qs qw, M qs = none ∧ M qw = none ∧ qs ≠ qw ∧ N h = some (mp_o 2 [.null, .null, .ref qs, .ref qw, .ref (E.2.2.2 6), .int (tf false)]) ∧ N qs = some (mp_i E 5 (fun _ => 0)) ∧ N qw = some (mp_i E 16 (fun _ => 0)) ∧ ∀ a, a ≠ h → a ≠ qs → a ≠ qw → N a = M a) := by
  refine mp_Cr.of (by decide) (Nat.le_of_ble_eq_true rfl) fun Γ κ hl hκ => ?_
  subst hl
  obtain ⟨hκd, hκc, hκs, -⟩ := id hκ
  show mp_J Γ m_Su_init E κ M [(0, .ref h), (1, .ref (E.2.2.2 6)), (2, .int (nI 16)), (3, .int (tf false))] 0 [] 0 0
  refine j_aload_n d_Su_init_0 rfl 0 rfl ?_
  refine j_objInit w_48 w_36 w_37 (Nat.le_of_ble_eq_true rfl) (by omega) d_Su_init_1 ?_
  refine j_aload_n d_Su_init_4 rfl 0 rfl ?_
  refine j_aload_n d_Su_init_5 rfl 1 rfl ?_
  refine j_putF F_Ri h0 4 (by decide) w_63 (Or.inl rfl) rfl rfl rfl rfl rfl (Nat.le_of_ble_eq_true rfl) d_Su_init_6 ?_
  show mp_J Γ m_Su_init E κ (mp_up M h (mp_o 2 [.null, .null, .null, .null, .ref (E.2.2.2 6), .int 0])) [(0, .ref h), (1, .ref (E.2.2.2 6)), (2, .int (nI 16)), (3, .int (tf false))] 9 [] 0 0
  generalize eM1 : mp_up M h (mp_o 2 [.null, .null, .null, .null, .ref (E.2.2.2 6), .int 0]) = M1
  have hM1_h : M1 h = some (mp_o 2 [.null, .null, .null, .null, .ref (E.2.2.2 6), .int 0]) := by rw [← eM1]; exact mp_s
  refine j_aload_n d_Su_init_9 rfl 0 rfl ?_
  refine j_iload_n d_Su_init_10 rfl 3 rfl ?_
  refine j_putF F_Ri hM1_h 5 (by decide) w_64 (Or.inl rfl) rfl rfl rfl rfl rfl (Nat.le_of_ble_eq_true rfl) d_Su_init_11 ?_
  show mp_J Γ m_Su_init E κ (mp_up M1 h (mp_o 2 [.null, .null, .null, .null, .ref (E.2.2.2 6), .int (tf false)])) [(0, .ref h), (1, .ref (E.2.2.2 6)), (2, .int (nI 16)), (3, .int (tf false))] 14 [] 0 0
  generalize eM2 : mp_up M1 h (mp_o 2 [.null, .null, .null, .null, .ref (E.2.2.2 6), .int (tf false)]) = M2
  have hM2_h : M2 h = some (mp_o 2 [.null, .null, .null, .null, .ref (E.2.2.2 6), .int (tf false)]) := by rw [← eM2]; exact mp_s
  refine j_aload_n d_Su_init_14 rfl 0 rfl ?_
  refine j_aload_n d_Su_init_15 rfl 1 rfl ?_
  refine j_tlen 6 rfl d_Su_init_16 ?_
  show mp_J Γ m_Su_init E κ M2 [(0, .ref h), (1, .ref (E.2.2.2 6)), (2, .int (nI 16)), (3, .int (tf false))] 17 [.int (nI 5), .ref h] 0 0
  refine j_newi w_77 (by omega) (by omega) (by omega) d_Su_init_17 (fun qs hqs => ?_)
  generalize eM3 : mp_up M2 qs (mp_i E 5 (fun _ => 0)) = M3
  have hM3_h : M3 h = some (mp_o 2 [.null, .null, .null, .null, .ref (E.2.2.2 6), .int (tf false)]) := by rw [← eM3, mp_n (mp_ne0 hM2_h hqs)]; exact hM2_h
  have hM3_qs : M3 qs = some (mp_i E 5 (fun _ => 0)) := by rw [← eM3]; exact mp_s
  have f1 : M qs = none := (mp_fre eM1 (mp_fre eM2 hqs))
  refine j_putF F_Ri hM3_h 2 (by decide) w_53 (Or.inl rfl) rfl rfl rfl rfl rfl (Nat.le_of_ble_eq_true rfl) d_Su_init_19 ?_
  show mp_J Γ m_Su_init E κ (mp_up M3 h (mp_o 2 [.null, .null, .ref qs, .null, .ref (E.2.2.2 6), .int (tf false)])) [(0, .ref h), (1, .ref (E.2.2.2 6)), (2, .int (nI 16)), (3, .int (tf false))] 22 [] (0 + 1) (0 + 5)
  generalize eM4 : mp_up M3 h (mp_o 2 [.null, .null, .ref qs, .null, .ref (E.2.2.2 6), .int (tf false)]) = M4
  have hM4_qs : M4 qs = some (mp_i E 5 (fun _ => 0)) := by rw [← eM4, mp_n (Ne.symm (mp_ne0 hM2_h hqs))]; exact hM3_qs
  have hM4_h : M4 h = some (mp_o 2 [.null, .null, .ref qs, .null, .ref (E.2.2.2 6), .int (tf false)]) := by rw [← eM4]; exact mp_s
  refine j_aload_n d_Su_init_22 rfl 0 rfl ?_
  refine j_iload_n d_Su_init_23 rfl 2 rfl ?_
  refine j_bipush (v := nI 16) d_Su_init_24 (by decide) ?_
  refine j_maxI w_49 (Nat.le_of_ble_eq_true rfl) (by omega) (by omega) (by omega) d_Su_init_26 ?_
  refine j_eqi (y := nI 16) (by decide) ?_
  refine j_newi w_77 (by omega) (by omega) (by omega) d_Su_init_29 (fun qw hqw => ?_)
  generalize eM5 : mp_up M4 qw (mp_i E 16 (fun _ => 0)) = M5
  have hM5_qs : M5 qs = some (mp_i E 5 (fun _ => 0)) := by rw [← eM5, mp_n (mp_ne0 hM4_qs hqw)]; exact hM4_qs
  have hM5_h : M5 h = some (mp_o 2 [.null, .null, .ref qs, .null, .ref (E.2.2.2 6), .int (tf false)]) := by rw [← eM5, mp_n (mp_ne0 hM4_h hqw)]; exact hM4_h
  have hM5_qw : M5 qw = some (mp_i E 16 (fun _ => 0)) := by rw [← eM5]; exact mp_s
  have f2 : M qw = none := (mp_fre eM1 (mp_fre eM2 (mp_fre eM3 (mp_fre eM4 hqw))))
  have hsw : qs ≠ qw := mp_ne0 hM4_qs hqw
  refine j_putF F_Ri hM5_h 3 (by decide) w_58 (Or.inl rfl) rfl rfl rfl rfl rfl (Nat.le_of_ble_eq_true rfl) d_Su_init_31 ?_
  show mp_J Γ m_Su_init E κ (mp_up M5 h (mp_o 2 [.null, .null, .ref qs, .ref qw, .ref (E.2.2.2 6), .int (tf false)])) [(0, .ref h), (1, .ref (E.2.2.2 6)), (2, .int (nI 16)), (3, .int (tf false))] 34 [] (0 + 1 + 1) (0 + 5 + 16)
  generalize eM6 : mp_up M5 h (mp_o 2 [.null, .null, .ref qs, .ref qw, .ref (E.2.2.2 6), .int (tf false)]) = M6
  have hM6_qs : M6 qs = some (mp_i E 5 (fun _ => 0)) := by rw [← eM6, mp_n (Ne.symm (mp_ne0 hM2_h hqs))]; exact hM5_qs
  have hM6_qw : M6 qw = some (mp_i E 16 (fun _ => 0)) := by rw [← eM6, mp_n (Ne.symm (mp_ne0 hM4_h hqw))]; exact hM5_qw
  have hM6_h : M6 h = some (mp_o 2 [.null, .null, .ref qs, .ref qw, .ref (E.2.2.2 6), .int (tf false)]) := by rw [← eM6]; exact mp_s
  exact j_vret hκ rfl (by omega) (by omega) d_Su_init_34 ⟨rfl, qs, qw, f1, f2, hsw, hM6_h, hM6_qs, hM6_qw, fun a h1 h2 h3 => by subst_vars; simp only [mp_n h1, mp_n h2, mp_n h3]⟩

set_option maxHeartbeats 4000000 in
set_option maxRecDepth 100000 in
theorem c_Ri_init (l : Launch) (E : mp_E) (M : mp_M) (h : Nat) (h0 : M h = some (mp_o 2 [.null, .null, .null, .null, .null, .int 0])) : mp_Cr l m_Ri_init E M 3 4 31 [.ref h] (fun v N => v = none ∧ ∃ qs qw qlf qrt, M qs = none ∧ M qw = none ∧ M qlf = none ∧ M qrt = none ∧ qs ≠ qw ∧ qs ≠ qlf ∧ qs ≠ qrt ∧ qw ≠ qlf ∧ qw ≠ qrt ∧ qlf ≠ qrt ∧ N h = some (mp_o 2 [.ref qlf, .ref qrt, .ref qs, .ref qw, .ref (E.2.2.2 6), .int (tf false)]) ∧ N qs = some (mp_i E 5 (fun _ => 0)) ∧ N qw = some (mp_i E 16 (fun _ => 0)) ∧ N qlf = some (mp_i E 5 (fun _ => 0)) ∧ N qrt = some (mp_i E 5 (fun _ => 0)) ∧ ∀ a, a ≠ h → a ≠ qs → a ≠ qw → a ≠ qlf → a ≠ qrt → N a = M a) := by
  refine mp_Cr.of (by decide) (Nat.le_of_ble_eq_true rfl) fun Γ κ hl hκ => ?_
  subst hl
  obtain ⟨hκd, hκc, hκs, -⟩ := id hκ
  show mp_J Γ m_Ri_init E κ M [(0, .ref h)] 0 [] 0 0
  refine j_aload_n d_Ri_init_0 rfl 0 rfl ?_
  refine j_gets 6 rfl w_83 rfl d_Ri_init_1 ?_
  refine j_bipush (v := nI 16) d_Ri_init_4 (by decide) ?_
  refine j_iconst (v := nI 0) d_Ri_init_6 (by decide) ?_
  refine j_eqi (y := tf false) rfl ?_
  refine j_callI (As := [.ref (E.2.2.2 6), .int (nI 16), .int (tf false)]) (rest := []) (c_Su_init_ri Γ.l E M h h0) Y_Su_init rfl rfl w_85 w_46 rfl rfl (Nat.le_of_ble_eq_true rfl) (by omega) (by omega) (by omega) d_Ri_init_7 (fun v7 N7 p7 => ?_)
  obtain ⟨rfl, qs, qw, g1, g2, g3, e0, e1, e2, fr7⟩ := p7
  show mp_J Γ m_Ri_init E κ N7 [(0, .ref h)] 10 [] (0 + 2) (0 + 21)
  refine j_aload_n d_Ri_init_10 rfl 0 rfl ?_
  refine j_gets 6 rfl w_83 rfl d_Ri_init_11 ?_
  refine j_tlen 6 rfl d_Ri_init_14 ?_
  show mp_J Γ m_Ri_init E κ N7 [(0, .ref h)] 15 [.int (nI 5), .ref h] (0 + 2) (0 + 21)
  refine j_newi w_77 (by omega) (by omega) (by omega) d_Ri_init_15 (fun qlf hqlf => ?_)
  generalize eM1 : mp_up N7 qlf (mp_i E 5 (fun _ => 0)) = M1
  have hM1_h : M1 h = some (mp_o 2 [.null, .null, .ref qs, .ref qw, .ref (E.2.2.2 6), .int (tf false)]) := by rw [← eM1, mp_n (mp_ne0 e0 hqlf)]; exact e0
  have hM1_qs : M1 qs = some (mp_i E 5 (fun _ => 0)) := by rw [← eM1, mp_n (mp_ne0 e1 hqlf)]; exact e1
  have hM1_qw : M1 qw = some (mp_i E 16 (fun _ => 0)) := by rw [← eM1, mp_n (mp_ne0 e2 hqlf)]; exact e2
  have hM1_qlf : M1 qlf = some (mp_i E 5 (fun _ => 0)) := by rw [← eM1]; exact mp_s
  have y_qlf : N7 qlf = none := hqlf
  have f_qlf : M qlf = none := by rw [← fr7 qlf (Ne.symm (mp_ne0 e0 y_qlf)) (Ne.symm (mp_ne0 e1 y_qlf)) (Ne.symm (mp_ne0 e2 y_qlf))]; exact y_qlf
  have n_qs_qlf : qs ≠ qlf := mp_ne0 e1 hqlf
  have n_qw_qlf : qw ≠ qlf := mp_ne0 e2 hqlf
  refine j_putF F_Ri hM1_h 0 (by decide) w_86 (Or.inl rfl) rfl rfl rfl rfl rfl (Nat.le_of_ble_eq_true rfl) d_Ri_init_17 ?_
  show mp_J Γ m_Ri_init E κ (mp_up M1 h (mp_o 2 [.ref qlf, .null, .ref qs, .ref qw, .ref (E.2.2.2 6), .int (tf false)])) [(0, .ref h)] 20 [] (0 + 2 + 1) (0 + 21 + 5)
  generalize eM2 : mp_up M1 h (mp_o 2 [.ref qlf, .null, .ref qs, .ref qw, .ref (E.2.2.2 6), .int (tf false)]) = M2
  have hM2_qs : M2 qs = some (mp_i E 5 (fun _ => 0)) := by rw [← eM2, mp_n (mp_ne hM1_qs hM1_h mp_nao)]; exact hM1_qs
  have hM2_qw : M2 qw = some (mp_i E 16 (fun _ => 0)) := by rw [← eM2, mp_n (mp_ne hM1_qw hM1_h mp_nao)]; exact hM1_qw
  have hM2_qlf : M2 qlf = some (mp_i E 5 (fun _ => 0)) := by rw [← eM2, mp_n (Ne.symm (mp_ne0 e0 hqlf))]; exact hM1_qlf
  have hM2_h : M2 h = some (mp_o 2 [.ref qlf, .null, .ref qs, .ref qw, .ref (E.2.2.2 6), .int (tf false)]) := by rw [← eM2]; exact mp_s
  refine j_aload_n d_Ri_init_20 rfl 0 rfl ?_
  refine j_gets 6 rfl w_83 rfl d_Ri_init_21 ?_
  refine j_tlen 6 rfl d_Ri_init_24 ?_
  show mp_J Γ m_Ri_init E κ M2 [(0, .ref h)] 25 [.int (nI 5), .ref h] (0 + 2 + 1) (0 + 21 + 5)
  refine j_newi w_77 (by omega) (by omega) (by omega) d_Ri_init_25 (fun qrt hqrt => ?_)
  generalize eM3 : mp_up M2 qrt (mp_i E 5 (fun _ => 0)) = M3
  have hM3_qs : M3 qs = some (mp_i E 5 (fun _ => 0)) := by rw [← eM3, mp_n (mp_ne0 hM2_qs hqrt)]; exact hM2_qs
  have hM3_qw : M3 qw = some (mp_i E 16 (fun _ => 0)) := by rw [← eM3, mp_n (mp_ne0 hM2_qw hqrt)]; exact hM2_qw
  have hM3_qlf : M3 qlf = some (mp_i E 5 (fun _ => 0)) := by rw [← eM3, mp_n (mp_ne0 hM2_qlf hqrt)]; exact hM2_qlf
  have hM3_h : M3 h = some (mp_o 2 [.ref qlf, .null, .ref qs, .ref qw, .ref (E.2.2.2 6), .int (tf false)]) := by rw [← eM3, mp_n (mp_ne0 hM2_h hqrt)]; exact hM2_h
  have hM3_qrt : M3 qrt = some (mp_i E 5 (fun _ => 0)) := by rw [← eM3]; exact mp_s
  have y_qrt : N7 qrt = none := (mp_fre eM1 (mp_fre eM2 hqrt))
  have f_qrt : M qrt = none := by rw [← fr7 qrt (Ne.symm (mp_ne0 e0 y_qrt)) (Ne.symm (mp_ne0 e1 y_qrt)) (Ne.symm (mp_ne0 e2 y_qrt))]; exact y_qrt
  have n_qs_qrt : qs ≠ qrt := mp_ne0 hM2_qs hqrt
  have n_qw_qrt : qw ≠ qrt := mp_ne0 hM2_qw hqrt
  have n_qlf_qrt : qlf ≠ qrt := mp_ne0 hM2_qlf hqrt
  refine j_putF F_Ri hM3_h 1 (by decide) w_87 (Or.inl rfl) rfl rfl rfl rfl rfl (Nat.le_of_ble_eq_true rfl) d_Ri_init_27 ?_
  show mp_J Γ m_Ri_init E κ (mp_up M3 h (mp_o 2 [.ref qlf, .ref qrt, .ref qs, .ref qw, .ref (E.2.2.2 6), .int (tf false)])) [(0, .ref h)] 30 [] (0 + 2 + 1 + 1) (0 + 21 + 5 + 5)
  generalize eM4 : mp_up M3 h (mp_o 2 [.ref qlf, .ref qrt, .ref qs, .ref qw, .ref (E.2.2.2 6), .int (tf false)]) = M4
  have hM4_qs : M4 qs = some (mp_i E 5 (fun _ => 0)) := by rw [← eM4, mp_n (mp_ne hM3_qs hM3_h mp_nao)]; exact hM3_qs
  have hM4_qw : M4 qw = some (mp_i E 16 (fun _ => 0)) := by rw [← eM4, mp_n (mp_ne hM3_qw hM3_h mp_nao)]; exact hM3_qw
  have hM4_qlf : M4 qlf = some (mp_i E 5 (fun _ => 0)) := by rw [← eM4, mp_n (Ne.symm (mp_ne0 e0 hqlf))]; exact hM3_qlf
  have hM4_qrt : M4 qrt = some (mp_i E 5 (fun _ => 0)) := by rw [← eM4, mp_n (Ne.symm (mp_ne0 hM2_h hqrt))]; exact hM3_qrt
  have hM4_h : M4 h = some (mp_o 2 [.ref qlf, .ref qrt, .ref qs, .ref qw, .ref (E.2.2.2 6), .int (tf false)]) := by rw [← eM4]; exact mp_s
  exact j_vret hκ rfl (by omega) (by omega) d_Ri_init_30 ⟨rfl, qs, qw, qlf, qrt, g1, g2, f_qlf, f_qrt, g3, n_qs_qlf, n_qs_qrt, n_qw_qlf, n_qw_qrt, n_qlf_qrt, hM4_h, hM4_qs, hM4_qw, hM4_qlf, hM4_qrt, fun a h1 h2 h3 h4 h5 => by rw [← eM4, mp_n h1, ← eM3, mp_n h5, ← eM2, mp_n h1, ← eM1, mp_n h4]; exact fr7 a h1 h2 h3⟩
