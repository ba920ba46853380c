set_option maxHeartbeats 4000000 in
set_option maxRecDepth 100000 in
theorem c_Mo_again (l : Launch) (E : mp_E) (M : mp_M) (h ro rows kp ks st8 w64 ha pa tg sz dp as_ ops tk : Nat) (thr : Int32) (k z : Nat) (T Z : Nat → Int32) (h0 : M h = some (mp_o 7 [.ref ro, .int (nI rows), .int thr, .ref kp, .ref ks, .ref st8, .ref w64, .ref ha, .ref pa, .ref tg, .ref sz, .int (nI dp), .int (nI as_), .int (nI ops), .ref tk])) (hz : M sz = some (mp_i E 408 Z)) (ht : M tg = some (mp_b E 104448 T)) (hft : ∀ i, i < 104448 → fits .byte (.int (T i)) = true) (hk : 0 < k ∧ k ≤ 1000) (hd : dp < 408) (hzk : k ≤ dp → Z (dp - k) = nI z) (hzz : z ≤ 256) : mp_Cr l m_Mo_again E M 3 0 0 [.ref h, .int (nI k)] (fun v N => (k ≤ dp ∧ v = some (.int (nI 1)) ∧ N = mp_up (mp_up (mp_up M tg (mp_b E 104448 (va_cpy T T (256 * (dp - k)) (256 * dp) z))) sz (mp_i E 408 (upd Z dp (nI z)))) h (mp_o 7 [.ref ro, .int (nI rows), .int thr, .ref kp, .ref ks, .ref st8, .ref w64, .ref ha, .ref pa, .ref tg, .ref sz, .int (nI (dp + 1)), .int (nI as_), .int (nI ops), .ref tk])) ∨ (dp < k ∧ v = some (.int (nI 0)) ∧ N = M)) := by
  refine mp_Cr.of (by decide) (Nat.le_of_ble_eq_true rfl) fun Γ κ hl hκ => ?_
  subst hl
  obtain ⟨hκd, hκc, hκs, -⟩ := id hκ
  have nzt : sz ≠ tg := mp_ne hz ht (mp_nsz (by decide))
  show mp_J Γ m_Mo_again E κ M [(0, .ref h), (1, .int (nI k))] 0 [] 0 0
  refine j_aload_n d_Mo_again_0 rfl 0 rfl ?_
  refine j_iload_n d_Mo_again_1 rfl 1 rfl ?_
  refine j_callV (As := [.int (nI k)]) (rest := []) (c_Mo_has Γ.l E M h ro rows kp ks st8 w64 ha pa tg sz dp as_ ops tk thr k h0 (by omega) (by omega)) Y_Mo_has w_1039 w_1041 ws_35 h0 rfl rfl rfl (Nat.le_of_ble_eq_true rfl) (by omega) (by omega) (by omega) d_Mo_again_2 (fun v2 N2 p2 => ?_)
  obtain ⟨rfl, q2⟩ := p2
  obtain rfl := q2.symm
  show mp_J Γ m_Mo_again E κ M [(0, .ref h), (1, .int (nI k))] 5 [.int (tf (decide (k ≤ dp)))] 0 0
  refine j_tif_ne 10 d_Mo_again_5 (by decide) (fun b5 => ?_) (fun b5 => ?_)
  · skip
    have hkd := of_decide_eq_true b5
    refine j_aload_n d_Mo_again_10 rfl 0 rfl ?_
    refine j_aload_n d_Mo_again_11 rfl 0 rfl ?_
    refine j_get F_Mo h0 11 (by decide) w_954 (Or.inl rfl) rfl d_Mo_again_12 ?_
    refine j_iload_n d_Mo_again_15 rfl 1 rfl ?_
    refine j_isub d_Mo_again_16 ?_
    refine j_eqi (y := nI (dp - k)) (pk_sub (by omega)) ?_
    refine j_aload_n d_Mo_again_17 rfl 0 rfl ?_
    refine j_get F_Mo h0 11 (by decide) w_954 (Or.inl rfl) rfl d_Mo_again_18 ?_
    refine j_callV (As := [.int (nI (dp - k)), .int (nI dp)]) (rest := []) (c_Mo_move Γ.l E M h ro rows kp ks st8 w64 ha pa tg sz dp as_ ops tk thr (dp - k) dp z T Z h0 hz ht hft (by omega) (by omega) (hzk hkd) (by omega)) Y_Mo_move w_1056 w_1058 ws_38 h0 rfl rfl rfl (Nat.le_of_ble_eq_true rfl) (by omega) (by omega) (by omega) d_Mo_again_21 (fun v21 N21 p21 => ?_)
    obtain ⟨rfl, q21⟩ := p21
    show mp_J Γ m_Mo_again E κ N21 [(0, .ref h), (1, .int (nI k))] 24 [] 0 0
    have x21_tg : N21 tg = some (mp_b E 104448 (va_cpy T T (256 * (dp - k)) (256 * dp) z)) := by rw [q21, mp_n (Ne.symm nzt)]; exact mp_s
    have x21_sz : N21 sz = some (mp_i E 408 (upd Z dp (nI z))) := by rw [q21]; exact mp_s
    have x21_h : N21 h = some (mp_o 7 [.ref ro, .int (nI rows), .int thr, .ref kp, .ref ks, .ref st8, .ref w64, .ref ha, .ref pa, .ref tg, .ref sz, .int (nI dp), .int (nI as_), .int (nI ops), .ref tk]) := by rw [q21, mp_n (mp_ne h0 hz mp_noa), mp_n (mp_ne h0 ht mp_noa)]; exact h0
    refine j_aload_n d_Mo_again_24 rfl 0 rfl ?_
    refine j_dup d_Mo_again_25 rfl ?_
    refine j_get F_Mo x21_h 11 (by decide) w_954 (Or.inl rfl) rfl d_Mo_again_26 ?_
    refine j_iconst (v := nI 1) d_Mo_again_29 (by decide) ?_
    refine j_iadd d_Mo_again_30 ?_
    refine j_eqi (y := nI (dp + 1)) (nI_add dp 1) ?_
    refine j_put F_Mo x21_h 11 (by decide) w_954 (Or.inl rfl) rfl rfl rfl (Nat.le_of_ble_eq_true rfl) d_Mo_again_31 ?_
    show mp_J Γ m_Mo_again E κ (mp_up N21 h (mp_o 7 [.ref ro, .int (nI rows), .int thr, .ref kp, .ref ks, .ref st8, .ref w64, .ref ha, .ref pa, .ref tg, .ref sz, .int (nI (dp + 1)), .int (nI as_), .int (nI ops), .ref tk])) [(0, .ref h), (1, .int (nI k))] 34 [] 0 0
    generalize eM1 : mp_up N21 h (mp_o 7 [.ref ro, .int (nI rows), .int thr, .ref kp, .ref ks, .ref st8, .ref w64, .ref ha, .ref pa, .ref tg, .ref sz, .int (nI (dp + 1)), .int (nI as_), .int (nI ops), .ref tk]) = M1
    have hM1_sz : M1 sz = some (mp_i E 408 (upd Z dp (nI z))) := by rw [← eM1, mp_n (mp_ne x21_sz x21_h mp_nao)]; exact x21_sz
    have hM1_tg : M1 tg = some (mp_b E 104448 (va_cpy T T (256 * (dp - k)) (256 * dp) z)) := by rw [← eM1, mp_n (mp_ne x21_tg x21_h mp_nao)]; exact x21_tg
    have hM1_h : M1 h = some (mp_o 7 [.ref ro, .int (nI rows), .int thr, .ref kp, .ref ks, .ref st8, .ref w64, .ref ha, .ref pa, .ref tg, .ref sz, .int (nI (dp + 1)), .int (nI as_), .int (nI ops), .ref tk]) := by rw [← eM1]; exact mp_s
    refine j_iconst (v := nI 1) d_Mo_again_34 (by decide) ?_
    exact j_zret hκ rfl (by first | exact Or.inl rfl | exact Or.inr rfl) (by omega) (by omega) d_Mo_again_35 (Or.inl ⟨hkd, rfl, by rw [← eM1, q21]⟩)
  · skip
    have hkd := of_decide_eq_false b5
    refine j_iconst (v := nI 0) d_Mo_again_8 (by decide) ?_
    exact j_zret hκ rfl (by first | exact Or.inl rfl | exact Or.inr rfl) (by omega) (by omega) d_Mo_again_9 (Or.inr ⟨by omega, rfl, rfl⟩)
