set_option maxHeartbeats 4000000 in
set_option maxRecDepth 100000 in
theorem c_Mo_feed (l : Launch) (E : mp_E) (M : mp_M) (h ro rows kp ks st8 w64 ha pa tg sz dp as_ ops tk : Nat) (thr : Int32) (g : Nat → Int32) (a b c d e : Int32) (h0 : M h = some (mp_o 7 [.ref ro, .int (nI rows), .int thr, .ref kp, .ref ks, .ref st8, .ref w64, .ref ha, .ref pa, .ref tg, .ref sz, .int (nI dp), .int (nI as_), .int (nI ops), .ref tk])) (h1 : M ro = some (mp_b E 1000 g)) (hrw : rows ≤ 1000) : mp_Cr l m_Mo_feed E M 2 0 0 [.ref h, .int a, .int b, .int c, .int d, .int e] (fun v N => (rows ≤ 980 ∧ v = some (.int (nI (rows + 20))) ∧ N h = some (mp_o 7 [.ref ro, .int (nI (rows + 20)), .int (nI 0), .ref kp, .ref ks, .ref st8, .ref w64, .ref ha, .ref pa, .ref tg, .ref sz, .int (nI dp), .int (nI as_), .int (nI ops), .ref tk]) ∧ N ro = some (mp_b E 1000 (ap_5 g rows a b c d e)) ∧ AO h ro M N) ∨ (980 < rows ∧ v = some (.int (nI 0)) ∧ N = mp_up M h (mp_o 7 [.ref ro, .int (nI rows), .int (nI 1), .ref kp, .ref ks, .ref st8, .ref w64, .ref ha, .ref pa, .ref tg, .ref sz, .int (nI dp), .int (nI as_), .int (nI ops), .ref tk]))) := by
  refine mp_Cr.of (by decide) (Nat.le_of_ble_eq_true rfl) fun Γ κ hl hκ => ?_
  subst hl
  obtain ⟨hκd, hκc, hκs, -⟩ := id hκ
  show mp_J Γ m_Mo_feed E κ M [(0, .ref h), (1, .int a), (2, .int b), (3, .int c), (4, .int d), (5, .int e)] 0 [] 0 0
  refine j_aload_n d_Mo_feed_0 rfl 0 rfl ?_
  refine j_aload_n d_Mo_feed_1 rfl 0 rfl ?_
  refine j_get F_Mo h0 1 (by decide) w_944 (Or.inl rfl) rfl d_Mo_feed_2 ?_
  refine j_bipush (v := nI 20) d_Mo_feed_5 (by decide) ?_
  refine j_iadd d_Mo_feed_7 ?_
  refine j_eqi (y := nI (rows + 20)) (nI_add rows 20) ?_
  refine j_sipush (v := nI 1000) d_Mo_feed_8 (by decide) ?_
  refine j_ncmp_le 18 (rows + 20) 1000 rfl rfl (by omega) (by omega) d_Mo_feed_11 (by decide) (fun b11 => ?_) (fun b11 => ?_)
  · skip
    refine j_iconst (v := nI 0) d_Mo_feed_18 (by decide) ?_
    refine j_put F_Mo h0 2 (by decide) w_945 (Or.inl rfl) rfl rfl rfl (Nat.le_of_ble_eq_true rfl) d_Mo_feed_19 ?_
    show mp_J Γ m_Mo_feed E κ (mp_up M h (mp_o 7 [.ref ro, .int (nI rows), .int (nI 0), .ref kp, .ref ks, .ref st8, .ref w64, .ref ha, .ref pa, .ref tg, .ref sz, .int (nI dp), .int (nI as_), .int (nI ops), .ref tk])) [(0, .ref h), (1, .int a), (2, .int b), (3, .int c), (4, .int d), (5, .int e)] 22 [] 0 0
    generalize eM1 : mp_up M h (mp_o 7 [.ref ro, .int (nI rows), .int (nI 0), .ref kp, .ref ks, .ref st8, .ref w64, .ref ha, .ref pa, .ref tg, .ref sz, .int (nI dp), .int (nI as_), .int (nI ops), .ref tk]) = M1
    have hM1_ro : M1 ro = some (mp_b E 1000 g) := by rw [← eM1, mp_n (mp_ne h1 h0 mp_nao)]; exact h1
    have hM1_h : M1 h = some (mp_o 7 [.ref ro, .int (nI rows), .int (nI 0), .ref kp, .ref ks, .ref st8, .ref w64, .ref ha, .ref pa, .ref tg, .ref sz, .int (nI dp), .int (nI as_), .int (nI ops), .ref tk]) := by rw [← eM1]; exact mp_s
    refine j_aload_n d_Mo_feed_22 rfl 0 rfl ?_
    refine j_get F_Mo hM1_h 2 (by decide) w_945 (Or.inl rfl) rfl d_Mo_feed_23 ?_
    refine j_nif_le 31 0 rfl (by omega) d_Mo_feed_26 (by decide) (fun b26 => ?_) (fun b26 => absurd b26 (by omega))
    refine j_aload_n d_Mo_feed_31 rfl 0 rfl ?_
    refine j_iload_n d_Mo_feed_32 rfl 1 rfl ?_
    refine j_callV (As := [.int a]) (rest := []) (c_Mo_four Γ.l E M1 h ro (rows) kp ks st8 w64 ha pa tg sz dp as_ ops tk (nI 0) (g) a hM1_h hM1_ro (by omega)) Y_Mo_four w_998 w_1000 ws_27 hM1_h rfl rfl rfl (Nat.le_of_ble_eq_true rfl) (by omega) (by omega) (by omega) d_Mo_feed_33 (fun v33 N33 p33 => ?_)
    obtain ⟨rfl, e0_33, e1_33, ao33⟩ := p33
    show mp_J Γ m_Mo_feed E κ N33 [(0, .ref h), (1, .int a), (2, .int b), (3, .int c), (4, .int d), (5, .int e)] 36 [] 0 0
    refine j_aload_n d_Mo_feed_36 rfl 0 rfl ?_
    refine j_iload_n d_Mo_feed_37 rfl 2 rfl ?_
    refine j_callV (As := [.int b]) (rest := []) (c_Mo_four Γ.l E N33 h ro (rows + 4) kp ks st8 w64 ha pa tg sz dp as_ ops tk (nI 0) (ap_w g rows a) b e0_33 e1_33 (by omega)) Y_Mo_four w_998 w_1000 ws_27 e0_33 rfl rfl rfl (Nat.le_of_ble_eq_true rfl) (by omega) (by omega) (by omega) d_Mo_feed_38 (fun v38 N38 p38 => ?_)
    obtain ⟨rfl, e0_38, e1_38, ao38⟩ := p38
    show mp_J Γ m_Mo_feed E κ N38 [(0, .ref h), (1, .int a), (2, .int b), (3, .int c), (4, .int d), (5, .int e)] 41 [] 0 0
    refine j_aload_n d_Mo_feed_41 rfl 0 rfl ?_
    refine j_iload_n d_Mo_feed_42 rfl 3 rfl ?_
    refine j_callV (As := [.int c]) (rest := []) (c_Mo_four Γ.l E N38 h ro (rows + 4 + 4) kp ks st8 w64 ha pa tg sz dp as_ ops tk (nI 0) (ap_w (ap_w g rows a) (rows + 4) b) c e0_38 e1_38 (by omega)) Y_Mo_four w_998 w_1000 ws_27 e0_38 rfl rfl rfl (Nat.le_of_ble_eq_true rfl) (by omega) (by omega) (by omega) d_Mo_feed_43 (fun v43 N43 p43 => ?_)
    obtain ⟨rfl, e0_43, e1_43, ao43⟩ := p43
    show mp_J Γ m_Mo_feed E κ N43 [(0, .ref h), (1, .int a), (2, .int b), (3, .int c), (4, .int d), (5, .int e)] 46 [] 0 0
    refine j_aload_n d_Mo_feed_46 rfl 0 rfl ?_
    refine j_iload d_Mo_feed_47 4 rfl ?_
    refine j_callV (As := [.int d]) (rest := []) (c_Mo_four Γ.l E N43 h ro (rows + 4 + 4 + 4) kp ks st8 w64 ha pa tg sz dp as_ ops tk (nI 0) (ap_w (ap_w (ap_w g rows a) (rows + 4) b) (rows + 4 + 4) c) d e0_43 e1_43 (by omega)) Y_Mo_four w_998 w_1000 ws_27 e0_43 rfl rfl rfl (Nat.le_of_ble_eq_true rfl) (by omega) (by omega) (by omega) d_Mo_feed_49 (fun v49 N49 p49 => ?_)
    obtain ⟨rfl, e0_49, e1_49, ao49⟩ := p49
    show mp_J Γ m_Mo_feed E κ N49 [(0, .ref h), (1, .int a), (2, .int b), (3, .int c), (4, .int d), (5, .int e)] 52 [] 0 0
    refine j_aload_n d_Mo_feed_52 rfl 0 rfl ?_
    refine j_iload d_Mo_feed_53 5 rfl ?_
    refine j_callV (As := [.int e]) (rest := []) (c_Mo_four Γ.l E N49 h ro (rows + 4 + 4 + 4 + 4) kp ks st8 w64 ha pa tg sz dp as_ ops tk (nI 0) (ap_w (ap_w (ap_w (ap_w g rows a) (rows + 4) b) (rows + 4 + 4) c) (rows + 4 + 4 + 4) d) e e0_49 e1_49 (by omega)) Y_Mo_four w_998 w_1000 ws_27 e0_49 rfl rfl rfl (Nat.le_of_ble_eq_true rfl) (by omega) (by omega) (by omega) d_Mo_feed_55 (fun v55 N55 p55 => ?_)
    obtain ⟨rfl, e0_55, e1_55, ao55⟩ := p55
    show mp_J Γ m_Mo_feed E κ N55 [(0, .ref h), (1, .int a), (2, .int b), (3, .int c), (4, .int d), (5, .int e)] 58 [] 0 0
    refine j_aload_n d_Mo_feed_58 rfl 0 rfl ?_
    refine j_get F_Mo e0_55 1 (by decide) w_944 (Or.inl rfl) rfl d_Mo_feed_59 ?_
    exact j_iret hκ rfl (by omega) (by omega) d_Mo_feed_62 (Or.inl ⟨by omega, rfl, e0_55, e1_55, (show AO h ro M M1 from fun a z1 z2 => by rw [← eM1, mp_n z1]).trans (ao33.trans (ao38.trans (ao43.trans (ao49.trans ao55))))⟩)
  · skip
    refine j_iconst (v := nI 1) d_Mo_feed_14 (by decide) ?_
    refine j_goto (tgt := 19) d_Mo_feed_15 (by decide) ?_
    refine j_put F_Mo h0 2 (by decide) w_945 (Or.inl rfl) rfl rfl rfl (Nat.le_of_ble_eq_true rfl) d_Mo_feed_19 ?_
    show mp_J Γ m_Mo_feed E κ (mp_up M h (mp_o 7 [.ref ro, .int (nI rows), .int (nI 1), .ref kp, .ref ks, .ref st8, .ref w64, .ref ha, .ref pa, .ref tg, .ref sz, .int (nI dp), .int (nI as_), .int (nI ops), .ref tk])) [(0, .ref h), (1, .int a), (2, .int b), (3, .int c), (4, .int d), (5, .int e)] 22 [] 0 0
    generalize eM2 : mp_up M h (mp_o 7 [.ref ro, .int (nI rows), .int (nI 1), .ref kp, .ref ks, .ref st8, .ref w64, .ref ha, .ref pa, .ref tg, .ref sz, .int (nI dp), .int (nI as_), .int (nI ops), .ref tk]) = M2
    have hM2_ro : M2 ro = some (mp_b E 1000 g) := by rw [← eM2, mp_n (mp_ne h1 h0 mp_nao)]; exact h1
    have hM2_h : M2 h = some (mp_o 7 [.ref ro, .int (nI rows), .int (nI 1), .ref kp, .ref ks, .ref st8, .ref w64, .ref ha, .ref pa, .ref tg, .ref sz, .int (nI dp), .int (nI as_), .int (nI ops), .ref tk]) := by rw [← eM2]; exact mp_s
    refine j_aload_n d_Mo_feed_22 rfl 0 rfl ?_
    refine j_get F_Mo hM2_h 2 (by decide) w_945 (Or.inl rfl) rfl d_Mo_feed_23 ?_
    refine j_nif_le 31 1 rfl (by omega) d_Mo_feed_26 (by decide) (fun b26 => absurd b26 (by omega)) (fun b26 => ?_)
    refine j_iconst (v := nI 0) d_Mo_feed_29 (by decide) ?_
    exact j_iret hκ rfl (by omega) (by omega) d_Mo_feed_30 (Or.inr ⟨by omega, rfl, eM2.symm⟩)

set_option maxHeartbeats 4000000 in
set_option maxRecDepth 100000 in
theorem c_Mo_isNumber (l : Launch) (E : mp_E) (M : mp_M) (h ro rows kp ks st8 w64 ha pa tg sz dp as_ ops tk : Nat) (thr : Int32) (j z : Nat) (Z : Nat → Int32) (h0 : M h = some (mp_o 7 [.ref ro, .int (nI rows), .int thr, .ref kp, .ref ks, .ref st8, .ref w64, .ref ha, .ref pa, .ref tg, .ref sz, .int (nI dp), .int (nI as_), .int (nI ops), .ref tk])) (hz : M sz = some (mp_i E 408 Z)) (hj : j < 408) (hjz : Z j = nI z) (hzz : z ≤ 1000) : mp_Cr l m_Mo_isNumber E M 1 0 0 [.ref h, .int (nI j)] (fun v N => v = some (.int (tf (decide (z ≤ 4)))) ∧ N = M) := by
  refine mp_Cr.of (by decide) (Nat.le_of_ble_eq_true rfl) fun Γ κ hl hκ => ?_
  subst hl
  obtain ⟨hκd, hκc, hκs, -⟩ := id hκ
  show mp_J Γ m_Mo_isNumber E κ M [(0, .ref h), (1, .int (nI j))] 0 [] 0 0
  refine j_aload_n d_Mo_isNumber_0 rfl 0 rfl ?_
  refine j_get F_Mo h0 10 (by decide) w_953 (Or.inl rfl) rfl d_Mo_isNumber_1 ?_
  refine j_iload_n d_Mo_isNumber_4 rfl 1 rfl ?_
  refine j_iald hz j rfl (by omega) (by omega) d_Mo_isNumber_5 ?_
  refine j_eqi (y := nI z) hjz ?_
  refine j_iconst (v := nI 4) d_Mo_isNumber_6 (by decide) ?_
  refine j_ncmp_gt 14 z 4 rfl rfl (by omega) (by omega) d_Mo_isNumber_7 (by decide) (fun b7 => ?_) (fun b7 => ?_)
  · skip
    refine j_iconst (v := nI 0) d_Mo_isNumber_14 (by decide) ?_
    exact j_zret hκ rfl (by first | exact Or.inl rfl | exact Or.inr rfl) (by omega) (by omega) d_Mo_isNumber_15 (by first | exact ⟨rv_1 (by omega), rfl⟩ | exact ⟨rv_0 (by omega), rfl⟩)
  · skip
    refine j_iconst (v := nI 1) d_Mo_isNumber_10 (by decide) ?_
    refine j_goto (tgt := 15) d_Mo_isNumber_11 (by decide) ?_
    exact j_zret hκ rfl (by first | exact Or.inl rfl | exact Or.inr rfl) (by omega) (by omega) d_Mo_isNumber_15 (by first | exact ⟨rv_1 (by omega), rfl⟩ | exact ⟨rv_0 (by omega), rfl⟩)

set_option maxHeartbeats 4000000 in
set_option maxRecDepth 100000 in
theorem c_Mo_size (l : Launch) (E : mp_E) (M : mp_M) (h ro rows kp ks st8 w64 ha pa tg sz dp as_ ops tk : Nat) (thr : Int32) (i : Int32) (Z : Nat → Int32) (h0 : M h = some (mp_o 7 [.ref ro, .int (nI rows), .int thr, .ref kp, .ref ks, .ref st8, .ref w64, .ref ha, .ref pa, .ref tg, .ref sz, .int (nI dp), .int (nI as_), .int (nI ops), .ref tk])) (hz : M sz = some (mp_i E 408 Z)) (hd : dp ≤ 200) : mp_Cr l m_Mo_size E M 2 0 0 [.ref h, .int i] (fun v N => (∃ j, j < dp ∧ i = nI j ∧ v = some (.int (Z (dp - 1 - j))) ∧ N = mp_up M h (mp_o 7 [.ref ro, .int (nI rows), .int (tf false), .ref kp, .ref ks, .ref st8, .ref w64, .ref ha, .ref pa, .ref tg, .ref sz, .int (nI dp), .int (nI as_), .int (nI ops), .ref tk])) ∨ ((¬ ∃ j, j < dp ∧ i = nI j) ∧ v = some (.int (nI 0)) ∧ N = mp_up M h (mp_o 7 [.ref ro, .int (nI rows), .int (tf true), .ref kp, .ref ks, .ref st8, .ref w64, .ref ha, .ref pa, .ref tg, .ref sz, .int (nI dp), .int (nI as_), .int (nI ops), .ref tk]))) := by
  refine mp_Cr.of (by decide) (Nat.le_of_ble_eq_true rfl) fun Γ κ hl hκ => ?_
  subst hl
  obtain ⟨hκd, hκc, hκs, -⟩ := id hκ
  show mp_J Γ m_Mo_size E κ M [(0, .ref h), (1, .int i)] 0 [] 0 0
  refine j_aload_n d_Mo_size_0 rfl 0 rfl ?_
  refine j_iload_n d_Mo_size_1 rfl 1 rfl ?_
  refine j_callV (As := [.int i]) (rest := []) (c_Mo_isThing Γ.l E M h ro rows kp ks st8 w64 ha pa tg sz dp as_ ops tk thr i h0) Y_Mo_isThing w_1135 w_1137 ws_47 h0 rfl rfl rfl (Nat.le_of_ble_eq_true rfl) (by omega) (by omega) (by omega) d_Mo_size_2 (fun v2 N2 p2 => ?_)
  obtain ⟨rfl, q2⟩ := p2
  show mp_J Γ m_Mo_size E κ N2 [(0, .ref h), (1, .int i)] 5 [.int (tf (decide (¬ i < 0 ∧ i < nI dp)))] 0 0
  have hN2_h : N2 h = some (mp_o 7 [.ref ro, .int (nI rows), .int (tf (!decide (¬ i < 0 ∧ i < nI dp))), .ref kp, .ref ks, .ref st8, .ref w64, .ref ha, .ref pa, .ref tg, .ref sz, .int (nI dp), .int (nI as_), .int (nI ops), .ref tk]) := by rw [q2]; exact mp_s
  have hN2_sz : N2 sz = some (mp_i E 408 Z) := by rw [q2, mp_n (mp_ne hz h0 mp_nao)]; exact hz
  refine j_tif_eq 24 d_Mo_size_5 (by decide) (fun b5 => ?_) (fun b5 => ?_)
  · skip
    refine j_iconst (v := nI 0) d_Mo_size_24 (by decide) ?_
    exact j_iret hκ rfl (by omega) (by omega) d_Mo_size_25 (Or.inr ⟨fun hz => of_decide_eq_false b5 ((am_i32s (by omega)).mpr hz), rfl, by rw [q2, b5]; rfl⟩)
  · skip
    obtain ⟨j, hj, hij⟩ := (am_i32s (by omega)).mp (of_decide_eq_true b5)
    rw [hij]
    refine j_aload_n d_Mo_size_8 rfl 0 rfl ?_
    refine j_get F_Mo hN2_h 10 (by decide) w_953 (Or.inl rfl) rfl d_Mo_size_9 ?_
    refine j_aload_n d_Mo_size_12 rfl 0 rfl ?_
    refine j_get F_Mo hN2_h 11 (by decide) w_954 (Or.inl rfl) rfl d_Mo_size_13 ?_
    refine j_iconst (v := nI 1) d_Mo_size_16 (by decide) ?_
    refine j_isub d_Mo_size_17 ?_
    refine j_eqi (y := nI (dp - 1)) (pk_sub (by omega)) ?_
    refine j_iload_n d_Mo_size_18 rfl 1 rfl ?_
    refine j_isub d_Mo_size_19 ?_
    refine j_eqi (y := nI ((dp - 1) - j)) (pk_sub (by omega)) ?_
    refine j_iald hN2_sz ((dp - 1) - j) rfl (by omega) (by omega) d_Mo_size_20 ?_
    refine j_goto (tgt := 25) d_Mo_size_21 (by decide) ?_
    exact j_iret hκ rfl (by omega) (by omega) d_Mo_size_25 (Or.inl ⟨j, hj, hij, rfl, by rw [q2, b5]; rfl⟩)
