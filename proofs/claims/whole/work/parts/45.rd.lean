set_option maxHeartbeats 4000000 in
set_option maxRecDepth 100000 in
theorem c_Mo_at (l : Launch) (E : mp_E) (M : mp_M) (h ro rows kp ks st8 w64 ha pa tg sz dp as_ ops tk : Nat) (thr : Int32) (i q : Int32) (T Z : Nat → Int32) (zf : Nat → Nat) (h0 : M h = some (mp_o 7 [.ref ro, .int (nI rows), .int thr, .ref kp, .ref ks, .ref st8, .ref w64, .ref ha, .ref pa, .ref tg, .ref sz, .int (nI dp), .int (nI as_), .int (nI ops), .ref tk])) (hz : M sz = some (mp_i E 408 Z)) (ht : M tg = some (mp_b E 104448 T)) (hZ : ∀ p, p < dp → Z p = nI (zf p) ∧ zf p ≤ 256) (hd : dp ≤ 200) : mp_Cr l m_Mo_at E M 2 0 0 [.ref h, .int i, .int q] (fun v N => (∃ j e, j < dp ∧ i = nI j ∧ e < zf (dp - 1 - j) ∧ q = nI e ∧ v = some (.int (nI (ub (T (256 * (dp - 1 - j) + e))))) ∧ N = mp_up M h (mp_o 7 [.ref ro, .int (nI rows), .int (nI 0), .ref kp, .ref ks, .ref st8, .ref w64, .ref ha, .ref pa, .ref tg, .ref sz, .int (nI dp), .int (nI as_), .int (nI ops), .ref tk])) ∨ ((¬ ∃ j e, j < dp ∧ i = nI j ∧ e < zf (dp - 1 - j) ∧ q = nI e) ∧ v = some (.int (nI 0)) ∧ N = mp_up M h (mp_o 7 [.ref ro, .int (nI rows), .int (nI 1), .ref kp, .ref ks, .ref st8, .ref w64, .ref ha, .ref pa, .ref tg, .ref sz, .int (nI dp), .int (nI as_), .int (nI ops), .ref tk]))) := by
  refine mp_Cr.of (by decide) (Nat.le_of_ble_eq_true rfl) fun Γ κ hl hκ => ?_
  subst hl
  obtain ⟨hκd, hκc, hκs, -⟩ := id hκ
  show mp_J Γ m_Mo_at E κ M [(0, .ref h), (1, .int i), (2, .int q)] 0 [] 0 0
  refine j_aload_n d_Mo_at_0 rfl 0 rfl ?_
  refine j_iload_n d_Mo_at_1 rfl 1 rfl ?_
  refine j_callV (As := [.int i]) (rest := []) (c_Mo_isThing Γ.l E M h ro rows kp ks st8 w64 ha pa tg sz dp as_ ops tk thr i h0) Y_Mo_isThing w_1135 w_1137 ws_47 h0 rfl rfl rfl (Nat.le_of_ble_eq_true rfl) (by omega) (by omega) (by omega) d_Mo_at_2 (fun v2 N2 p2 => ?_)
  obtain ⟨rfl, q2⟩ := p2
  show mp_J Γ m_Mo_at E κ N2 [(0, .ref h), (1, .int i), (2, .int q)] 5 [.int (tf (decide (¬ i < 0 ∧ i < nI dp)))] 0 0
  have hN2_h : N2 h = some (mp_o 7 [.ref ro, .int (nI rows), .int (tf (!decide (¬ i < 0 ∧ i < nI dp))), .ref kp, .ref ks, .ref st8, .ref w64, .ref ha, .ref pa, .ref tg, .ref sz, .int (nI dp), .int (nI as_), .int (nI ops), .ref tk]) := by rw [q2]; exact mp_s
  have hN2_sz : N2 sz = some (mp_i E 408 Z) := by rw [q2, mp_n (mp_ne hz h0 mp_nao)]; exact hz
  have hN2_tg : N2 tg = some (mp_b E 104448 T) := by rw [q2, mp_n (mp_ne ht h0 mp_nao)]; exact ht
  refine j_tif_ne 10 d_Mo_at_5 (by decide) (fun b5 => ?_) (fun b5 => ?_)
  · skip
    obtain ⟨j, hj, hij⟩ := (am_i32s (by omega)).mp (of_decide_eq_true b5)
    obtain ⟨hzt, hzl⟩ := hZ (dp - 1 - j) (by omega)
    rw [hij]
    refine j_aload_n d_Mo_at_10 rfl 0 rfl ?_
    refine j_get F_Mo hN2_h 11 (by decide) w_954 (Or.inl rfl) rfl d_Mo_at_11 ?_
    refine j_iconst (v := nI 1) d_Mo_at_14 (by decide) ?_
    refine j_isub d_Mo_at_15 ?_
    refine j_eqi (y := nI (dp - 1)) (pk_sub (by omega)) ?_
    refine j_iload_n d_Mo_at_16 rfl 1 rfl ?_
    refine j_isub d_Mo_at_17 ?_
    refine j_eqi (y := nI ((dp - 1) - j)) (pk_sub (by omega)) ?_
    refine j_istore_n [(3, .int (nI ((dp - 1) - j))), (0, .ref h), (1, .int (nI j)), (2, .int q)] d_Mo_at_18 rfl (by decide) rfl ?_
    refine j_aload_n d_Mo_at_19 rfl 1 rfl ?_
    refine j_iload_n d_Mo_at_20 rfl 3 rfl ?_
    refine j_if_lt 34 d_Mo_at_21 (by decide) (fun b21 => ?_) (fun b21 => ?_)
    · skip
      refine j_iconst (v := nI 1) d_Mo_at_34 (by decide) ?_
      refine j_goto (tgt := 39) d_Mo_at_35 (by decide) ?_
      refine j_put F_Mo hN2_h 2 (by decide) w_945 (Or.inl rfl) rfl rfl rfl (Nat.le_of_ble_eq_true rfl) d_Mo_at_39 ?_
      show mp_J Γ m_Mo_at E κ (mp_up N2 h (mp_o 7 [.ref ro, .int (nI rows), .int (nI 1), .ref kp, .ref ks, .ref st8, .ref w64, .ref ha, .ref pa, .ref tg, .ref sz, .int (nI dp), .int (nI as_), .int (nI ops), .ref tk])) [(3, .int (nI ((dp - 1) - j))), (0, .ref h), (1, .int (nI j)), (2, .int q)] 42 [] 0 0
      generalize eM1 : mp_up N2 h (mp_o 7 [.ref ro, .int (nI rows), .int (nI 1), .ref kp, .ref ks, .ref st8, .ref w64, .ref ha, .ref pa, .ref tg, .ref sz, .int (nI dp), .int (nI as_), .int (nI ops), .ref tk]) = M1
      have hM1_sz : M1 sz = some (mp_i E 408 Z) := by rw [← eM1, mp_n (mp_ne hN2_sz hN2_h mp_nao)]; exact hN2_sz
      have hM1_tg : M1 tg = some (mp_b E 104448 T) := by rw [← eM1, mp_n (mp_ne hN2_tg hN2_h mp_nao)]; exact hN2_tg
      have hM1_h : M1 h = some (mp_o 7 [.ref ro, .int (nI rows), .int (nI 1), .ref kp, .ref ks, .ref st8, .ref w64, .ref ha, .ref pa, .ref tg, .ref sz, .int (nI dp), .int (nI as_), .int (nI ops), .ref tk]) := by rw [← eM1]; exact mp_s
      refine j_aload_n d_Mo_at_42 rfl 1 rfl ?_
      refine j_get F_Mo hM1_h 2 (by decide) w_945 (Or.inl rfl) rfl d_Mo_at_43 ?_
      refine j_nif_le 53 1 rfl (by omega) d_Mo_at_46 (by decide) (fun b46 => absurd b46 (by omega)) (fun b46 => ?_)
      refine j_iconst (v := nI 0) d_Mo_at_49 (by decide) ?_
      refine j_goto (tgt := 69) d_Mo_at_50 (by decide) ?_
      exact j_iret hκ rfl (by omega) (by omega) d_Mo_at_69 (Or.inr ⟨fun ⟨j9, e9, z1, z2, z3, z4⟩ => by
      have z5 : j = j9 := am_nIinj (by omega) (by omega) (hij.symm.trans z2)
      subst z5
      have z6 := (am_i32s (i := q) (len := zf (dp - 1 - j)) (by omega)).mpr ⟨e9, z3, z4⟩
      first | exact z6.1 b21 | exact b31 z6.2, rfl, by rw [← eM1, q2, mp_uu]⟩)
    · skip
      refine j_iload_n d_Mo_at_24 rfl 3 rfl ?_
      refine j_aload_n d_Mo_at_25 rfl 1 rfl ?_
      refine j_get F_Mo hN2_h 10 (by decide) w_953 (Or.inl rfl) rfl d_Mo_at_26 ?_
      refine j_iload_n d_Mo_at_29 rfl 0 rfl ?_
      refine j_iald hN2_sz ((dp - 1) - j) rfl (by omega) (by omega) d_Mo_at_30 ?_
      refine j_eqi (y := nI (zf (dp - 1 - j))) hzt ?_
      refine j_icmp_lt 38 d_Mo_at_31 (by decide) (fun b31 => ?_) (fun b31 => ?_)
      · skip
        obtain ⟨e, he, hqe⟩ := (am_i32s (by omega)).mp ⟨b21, b31⟩
        rw [hqe]
        refine j_iconst (v := nI 0) d_Mo_at_38 (by decide) ?_
        refine j_put F_Mo hN2_h 2 (by decide) w_945 (Or.inl rfl) rfl rfl rfl (Nat.le_of_ble_eq_true rfl) d_Mo_at_39 ?_
        show mp_J Γ m_Mo_at E κ (mp_up N2 h (mp_o 7 [.ref ro, .int (nI rows), .int (nI 0), .ref kp, .ref ks, .ref st8, .ref w64, .ref ha, .ref pa, .ref tg, .ref sz, .int (nI dp), .int (nI as_), .int (nI ops), .ref tk])) [(3, .int (nI ((dp - 1) - j))), (0, .ref h), (1, .int (nI j)), (2, .int (nI e))] 42 [] 0 0
        generalize eM2 : mp_up N2 h (mp_o 7 [.ref ro, .int (nI rows), .int (nI 0), .ref kp, .ref ks, .ref st8, .ref w64, .ref ha, .ref pa, .ref tg, .ref sz, .int (nI dp), .int (nI as_), .int (nI ops), .ref tk]) = M2
        have hM2_sz : M2 sz = some (mp_i E 408 Z) := by rw [← eM2, mp_n (mp_ne hN2_sz hN2_h mp_nao)]; exact hN2_sz
        have hM2_tg : M2 tg = some (mp_b E 104448 T) := by rw [← eM2, mp_n (mp_ne hN2_tg hN2_h mp_nao)]; exact hN2_tg
        have hM2_h : M2 h = some (mp_o 7 [.ref ro, .int (nI rows), .int (nI 0), .ref kp, .ref ks, .ref st8, .ref w64, .ref ha, .ref pa, .ref tg, .ref sz, .int (nI dp), .int (nI as_), .int (nI ops), .ref tk]) := by rw [← eM2]; exact mp_s
        refine j_aload_n d_Mo_at_42 rfl 1 rfl ?_
        refine j_get F_Mo hM2_h 2 (by decide) w_945 (Or.inl rfl) rfl d_Mo_at_43 ?_
        refine j_nif_le 53 0 rfl (by omega) d_Mo_at_46 (by decide) (fun b46 => ?_) (fun b46 => absurd b46 (by omega))
        refine j_aload_n d_Mo_at_53 rfl 1 rfl ?_
        refine j_get F_Mo hM2_h 9 (by decide) w_952 (Or.inl rfl) rfl d_Mo_at_54 ?_
        refine j_sipush (v := nI 256) d_Mo_at_57 (by decide) ?_
        refine j_iload_n d_Mo_at_60 rfl 0 rfl ?_
        refine j_imul d_Mo_at_61 ?_
        refine j_eqi (y := nI (256 * ((dp - 1) - j))) (pk_mul 256 ((dp - 1) - j)) ?_
        refine j_iload_n d_Mo_at_62 rfl 3 rfl ?_
        refine j_iadd d_Mo_at_63 ?_
        refine j_eqi (y := nI ((256 * ((dp - 1) - j)) + e)) (nI_add (256 * ((dp - 1) - j)) e) ?_
        refine j_bald hM2_tg ((256 * ((dp - 1) - j)) + e) rfl (by omega) (by omega) d_Mo_at_64 ?_
        refine j_sipush (v := 255) d_Mo_at_65 (by decide) ?_
        refine j_iand d_Mo_at_68 ?_
        refine j_eqi (y := nI (ub (T ((256 * ((dp - 1) - j)) + e)))) (ub_and _) ?_
        exact j_iret hκ rfl (by omega) (by omega) d_Mo_at_69 (Or.inl ⟨j, e, hj, hij, he, hqe, rfl, by rw [← eM2, q2, mp_uu]⟩)
      · skip
        refine j_iconst (v := nI 1) d_Mo_at_34 (by decide) ?_
        refine j_goto (tgt := 39) d_Mo_at_35 (by decide) ?_
        refine j_put F_Mo hN2_h 2 (by decide) w_945 (Or.inl rfl) rfl rfl rfl (Nat.le_of_ble_eq_true rfl) d_Mo_at_39 ?_
        show mp_J Γ m_Mo_at E κ (mp_up N2 h (mp_o 7 [.ref ro, .int (nI rows), .int (nI 1), .ref kp, .ref ks, .ref st8, .ref w64, .ref ha, .ref pa, .ref tg, .ref sz, .int (nI dp), .int (nI as_), .int (nI ops), .ref tk])) [(3, .int (nI ((dp - 1) - j))), (0, .ref h), (1, .int (nI j)), (2, .int q)] 42 [] 0 0
        generalize eM3 : mp_up N2 h (mp_o 7 [.ref ro, .int (nI rows), .int (nI 1), .ref kp, .ref ks, .ref st8, .ref w64, .ref ha, .ref pa, .ref tg, .ref sz, .int (nI dp), .int (nI as_), .int (nI ops), .ref tk]) = M3
        have hM3_sz : M3 sz = some (mp_i E 408 Z) := by rw [← eM3, mp_n (mp_ne hN2_sz hN2_h mp_nao)]; exact hN2_sz
        have hM3_tg : M3 tg = some (mp_b E 104448 T) := by rw [← eM3, mp_n (mp_ne hN2_tg hN2_h mp_nao)]; exact hN2_tg
        have hM3_h : M3 h = some (mp_o 7 [.ref ro, .int (nI rows), .int (nI 1), .ref kp, .ref ks, .ref st8, .ref w64, .ref ha, .ref pa, .ref tg, .ref sz, .int (nI dp), .int (nI as_), .int (nI ops), .ref tk]) := by rw [← eM3]; exact mp_s
        refine j_aload_n d_Mo_at_42 rfl 1 rfl ?_
        refine j_get F_Mo hM3_h 2 (by decide) w_945 (Or.inl rfl) rfl d_Mo_at_43 ?_
        refine j_nif_le 53 1 rfl (by omega) d_Mo_at_46 (by decide) (fun b46 => absurd b46 (by omega)) (fun b46 => ?_)
        refine j_iconst (v := nI 0) d_Mo_at_49 (by decide) ?_
        refine j_goto (tgt := 69) d_Mo_at_50 (by decide) ?_
        exact j_iret hκ rfl (by omega) (by omega) d_Mo_at_69 (Or.inr ⟨fun ⟨j9, e9, z1, z2, z3, z4⟩ => by
      have z5 : j = j9 := am_nIinj (by omega) (by omega) (hij.symm.trans z2)
      subst z5
      have z6 := (am_i32s (i := q) (len := zf (dp - 1 - j)) (by omega)).mpr ⟨e9, z3, z4⟩
      first | exact z6.1 b21 | exact b31 z6.2, rfl, by rw [← eM3, q2, mp_uu]⟩)
  · skip
    refine j_iconst (v := nI 0) d_Mo_at_8 (by decide) ?_
    exact j_iret hκ rfl (by omega) (by omega) d_Mo_at_9 (Or.inr ⟨fun ⟨j9, e9, z1, z2, z3, z4⟩ => of_decide_eq_false b5 ((am_i32s (by omega)).mpr ⟨j9, z1, z2⟩), rfl, by rw [q2, b5]; rfl⟩)
