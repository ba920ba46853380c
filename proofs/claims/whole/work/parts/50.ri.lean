set_option maxHeartbeats 4000000 in
set_option maxRecDepth 100000 in
theorem c_Mo_move (l : Launch) (E : mp_E) (M : mp_M) (h ro rows kp ks st8 w64 ha pa tg sz dp as_ ops tk : Nat) (thr : Int32) (a c z : Nat) (T Z : Nat → Int32) (h0 : M h = some (mp_o 7 [.ref ro, .int (nI rows), .int thr, .ref kp, .ref ks, .ref st8, .ref w64, .ref ha, .ref pa, .ref tg, .ref sz, .int (nI dp), .int (nI as_), .int (nI ops), .ref tk])) (hz : M sz = some (mp_i E 408 Z)) (ht : M tg = some (mp_b E 104448 T)) (hft : ∀ i, i < 104448 → fits .byte (.int (T i)) = true) (hla : a < 408) (hc : c < 408) (hza : Z a = nI z) (hzz : z ≤ 256) : mp_Cr l m_Mo_move E M 2 0 0 [.ref h, .int (nI a), .int (nI c)] (fun v N => v = none ∧ N = mp_up (mp_up M tg (mp_b E 104448 (va_cpy T T (256 * a) (256 * c) z))) sz (mp_i E 408 (upd Z c (nI z)))) := by
  refine mp_Cr.of (by decide) (Nat.le_of_ble_eq_true rfl) fun Γ κ hl hκ => ?_
  subst hl
  obtain ⟨hκd, hκc, hκs, -⟩ := id hκ
  show mp_J Γ m_Mo_move E κ M [(0, .ref h), (1, .int (nI a)), (2, .int (nI c))] 0 [] 0 0
  refine j_aload_n d_Mo_move_0 rfl 0 rfl ?_
  refine j_get F_Mo h0 9 (by decide) w_952 (Or.inl rfl) rfl d_Mo_move_1 ?_
  refine j_sipush (v := nI 256) d_Mo_move_4 (by decide) ?_
  refine j_iload_n d_Mo_move_7 rfl 1 rfl ?_
  refine j_imul d_Mo_move_8 ?_
  refine j_eqi (y := nI (256 * a)) (pk_mul 256 a) ?_
  refine j_aload_n d_Mo_move_9 rfl 0 rfl ?_
  refine j_get F_Mo h0 9 (by decide) w_952 (Or.inl rfl) rfl d_Mo_move_10 ?_
  refine j_sipush (v := nI 256) d_Mo_move_13 (by decide) ?_
  refine j_iload_n d_Mo_move_16 rfl 2 rfl ?_
  refine j_imul d_Mo_move_17 ?_
  refine j_eqi (y := nI (256 * c)) (pk_mul 256 c) ?_
  refine j_aload_n d_Mo_move_18 rfl 0 rfl ?_
  refine j_get F_Mo h0 10 (by decide) w_953 (Or.inl rfl) rfl d_Mo_move_19 ?_
  refine j_iload_n d_Mo_move_22 rfl 1 rfl ?_
  refine j_iald hz a rfl (by omega) (by omega) d_Mo_move_23 ?_
  refine j_eqi (y := nI z) hza ?_
  refine j_copy 0 rfl rfl w_1014 w_489 w_488 w_25 ht ht (256 * a) (256 * c) z rfl rfl rfl (by omega) (by omega) (by omega) (by omega) (fun i hi => hft _ (by omega)) (by omega) (Nat.le_of_ble_eq_true rfl) d_Mo_move_24 ?_
  generalize eM1 : mp_up M tg (mp_b E 104448 (va_cpy T T (256 * a) (256 * c) z)) = M1
  have hM1_h : M1 h = some (mp_o 7 [.ref ro, .int (nI rows), .int thr, .ref kp, .ref ks, .ref st8, .ref w64, .ref ha, .ref pa, .ref tg, .ref sz, .int (nI dp), .int (nI as_), .int (nI ops), .ref tk]) := by rw [← eM1, mp_n (mp_ne h0 ht mp_noa)]; exact h0
  have hM1_sz : M1 sz = some (mp_i E 408 Z) := by rw [← eM1, mp_n (mp_ne hz ht (mp_nsz (by decide)))]; exact hz
  have hM1_tg : M1 tg = some (mp_b E 104448 (va_cpy T T (256 * a) (256 * c) z)) := by rw [← eM1]; exact mp_s
  refine j_aload_n d_Mo_move_27 rfl 0 rfl ?_
  refine j_get F_Mo hM1_h 10 (by decide) w_953 (Or.inl rfl) rfl d_Mo_move_28 ?_
  refine j_iload_n d_Mo_move_31 rfl 2 rfl ?_
  refine j_aload_n d_Mo_move_32 rfl 0 rfl ?_
  refine j_get F_Mo hM1_h 10 (by decide) w_953 (Or.inl rfl) rfl d_Mo_move_33 ?_
  refine j_iload_n d_Mo_move_36 rfl 1 rfl ?_
  refine j_iald hM1_sz a rfl (by omega) (by omega) d_Mo_move_37 ?_
  refine j_eqi (y := nI z) hza ?_
  refine j_iast hM1_sz c rfl (by omega) (by omega) d_Mo_move_38 ?_
  generalize eM2 : mp_up M1 sz (mp_i E 408 (upd Z c (nI z))) = M2
  have hM2_h : M2 h = some (mp_o 7 [.ref ro, .int (nI rows), .int thr, .ref kp, .ref ks, .ref st8, .ref w64, .ref ha, .ref pa, .ref tg, .ref sz, .int (nI dp), .int (nI as_), .int (nI ops), .ref tk]) := by rw [← eM2, mp_n (mp_ne hM1_h hM1_sz mp_noa)]; exact hM1_h
  have hM2_tg : M2 tg = some (mp_b E 104448 (va_cpy T T (256 * a) (256 * c) z)) := by rw [← eM2, mp_n (Ne.symm (mp_ne hz ht (mp_nsz (by decide))))]; exact hM1_tg
  have hM2_sz : M2 sz = some (mp_i E 408 (upd Z c (nI z))) := by rw [← eM2]; exact mp_s
  exact j_vret hκ rfl (by omega) (by omega) d_Mo_move_39 ⟨rfl, by subst_vars; rfl⟩

set_option maxHeartbeats 4000000 in
set_option maxRecDepth 100000 in
theorem c_Mo_push (l : Launch) (E : mp_E) (M : mp_M) (h ro rows kp ks st8 w64 ha pa tg sz dp as_ ops tk : Nat) (thr : Int32) (sb sn p q : Nat) (G T Z : Nat → Int32) (h0 : M h = some (mp_o 7 [.ref ro, .int (nI rows), .int thr, .ref kp, .ref ks, .ref st8, .ref w64, .ref ha, .ref pa, .ref tg, .ref sz, .int (nI dp), .int (nI as_), .int (nI ops), .ref tk])) (hz : M sz = some (mp_i E 408 Z)) (ht : M tg = some (mp_b E 104448 T)) (hs : M sb = some (mp_b E sn G)) (hsn : sn ≤ 104448) (hfs : ∀ i, i < sn → fits .byte (.int (G i)) = true) (hpq : p + q ≤ sn) (hq : q ≤ 256) (hd : dp < 408) (nst : sb ≠ tg) (nsz : sb ≠ sz) : mp_Cr l m_Mo_push E M 2 0 0 [.ref h, .ref sb, .int (nI p), .int (nI q)] (fun v N => v = none ∧ N = mp_up (mp_up (mp_up M tg (mp_b E 104448 (va_cpy G T p (256 * dp) q))) sz (mp_i E 408 (upd Z dp (nI q)))) h (mp_o 7 [.ref ro, .int (nI rows), .int thr, .ref kp, .ref ks, .ref st8, .ref w64, .ref ha, .ref pa, .ref tg, .ref sz, .int (nI (dp + 1)), .int (nI as_), .int (nI ops), .ref tk])) := by
  refine mp_Cr.of (by decide) (Nat.le_of_ble_eq_true rfl) fun Γ κ hl hκ => ?_
  subst hl
  obtain ⟨hκd, hκc, hκs, -⟩ := id hκ
  show mp_J Γ m_Mo_push E κ M [(0, .ref h), (1, .ref sb), (2, .int (nI p)), (3, .int (nI q))] 0 [] 0 0
  refine j_aload_n d_Mo_push_0 rfl 1 rfl ?_
  refine j_iload_n d_Mo_push_1 rfl 2 rfl ?_
  refine j_aload_n d_Mo_push_2 rfl 0 rfl ?_
  refine j_get F_Mo h0 9 (by decide) w_952 (Or.inl rfl) rfl d_Mo_push_3 ?_
  refine j_sipush (v := nI 256) d_Mo_push_6 (by decide) ?_
  refine j_aload_n d_Mo_push_9 rfl 0 rfl ?_
  refine j_get F_Mo h0 11 (by decide) w_954 (Or.inl rfl) rfl d_Mo_push_10 ?_
  refine j_imul d_Mo_push_13 ?_
  refine j_eqi (y := nI (256 * dp)) (pk_mul 256 dp) ?_
  refine j_iload_n d_Mo_push_14 rfl 3 rfl ?_
  refine j_copy 0 rfl rfl w_1014 w_489 w_488 w_25 hs ht p (256 * dp) q rfl rfl rfl (by omega) (by omega) (by omega) (by omega) (fun i hi => hfs _ (by omega)) (by omega) (Nat.le_of_ble_eq_true rfl) d_Mo_push_15 ?_
  generalize eM1 : mp_up M tg (mp_b E 104448 (va_cpy G T p (256 * dp) q)) = M1
  have hM1_h : M1 h = some (mp_o 7 [.ref ro, .int (nI rows), .int thr, .ref kp, .ref ks, .ref st8, .ref w64, .ref ha, .ref pa, .ref tg, .ref sz, .int (nI dp), .int (nI as_), .int (nI ops), .ref tk]) := by rw [← eM1, mp_n (mp_ne h0 ht mp_noa)]; exact h0
  have hM1_sz : M1 sz = some (mp_i E 408 Z) := by rw [← eM1, mp_n (mp_ne hz ht (mp_nsz (by decide)))]; exact hz
  have hM1_sb : M1 sb = some (mp_b E sn G) := by rw [← eM1, mp_n nst]; exact hs
  have hM1_tg : M1 tg = some (mp_b E 104448 (va_cpy G T p (256 * dp) q)) := by rw [← eM1]; exact mp_s
  refine j_aload_n d_Mo_push_18 rfl 0 rfl ?_
  refine j_get F_Mo hM1_h 10 (by decide) w_953 (Or.inl rfl) rfl d_Mo_push_19 ?_
  refine j_aload_n d_Mo_push_22 rfl 0 rfl ?_
  refine j_get F_Mo hM1_h 11 (by decide) w_954 (Or.inl rfl) rfl d_Mo_push_23 ?_
  refine j_iload_n d_Mo_push_26 rfl 3 rfl ?_
  refine j_iast hM1_sz dp rfl (by omega) (by omega) d_Mo_push_27 ?_
  generalize eM2 : mp_up M1 sz (mp_i E 408 (upd Z dp (nI q))) = M2
  have hM2_h : M2 h = some (mp_o 7 [.ref ro, .int (nI rows), .int thr, .ref kp, .ref ks, .ref st8, .ref w64, .ref ha, .ref pa, .ref tg, .ref sz, .int (nI dp), .int (nI as_), .int (nI ops), .ref tk]) := by rw [← eM2, mp_n (mp_ne hM1_h hM1_sz mp_noa)]; exact hM1_h
  have hM2_sb : M2 sb = some (mp_b E sn G) := by rw [← eM2, mp_n nsz]; exact hM1_sb
  have hM2_tg : M2 tg = some (mp_b E 104448 (va_cpy G T p (256 * dp) q)) := by rw [← eM2, mp_n (Ne.symm (mp_ne hz ht (mp_nsz (by decide))))]; exact hM1_tg
  have hM2_sz : M2 sz = some (mp_i E 408 (upd Z dp (nI q))) := by rw [← eM2]; exact mp_s
  refine j_aload_n d_Mo_push_28 rfl 0 rfl ?_
  refine j_dup d_Mo_push_29 rfl ?_
  refine j_get F_Mo hM2_h 11 (by decide) w_954 (Or.inl rfl) rfl d_Mo_push_30 ?_
  refine j_iconst (v := nI 1) d_Mo_push_33 (by decide) ?_
  refine j_iadd d_Mo_push_34 ?_
  refine j_eqi (y := nI (dp + 1)) (nI_add dp 1) ?_
  refine j_put F_Mo hM2_h 11 (by decide) w_954 (Or.inl rfl) rfl rfl rfl (Nat.le_of_ble_eq_true rfl) d_Mo_push_35 ?_
  show mp_J Γ m_Mo_push E κ (mp_up M2 h (mp_o 7 [.ref ro, .int (nI rows), .int thr, .ref kp, .ref ks, .ref st8, .ref w64, .ref ha, .ref pa, .ref tg, .ref sz, .int (nI (dp + 1)), .int (nI as_), .int (nI ops), .ref tk])) [(0, .ref h), (1, .ref sb), (2, .int (nI p)), (3, .int (nI q))] 38 [] 0 0
  generalize eM3 : mp_up M2 h (mp_o 7 [.ref ro, .int (nI rows), .int thr, .ref kp, .ref ks, .ref st8, .ref w64, .ref ha, .ref pa, .ref tg, .ref sz, .int (nI (dp + 1)), .int (nI as_), .int (nI ops), .ref tk]) = M3
  have hM3_sb : M3 sb = some (mp_b E sn G) := by rw [← eM3, mp_n (mp_ne hM2_sb hM2_h mp_nao)]; exact hM2_sb
  have hM3_tg : M3 tg = some (mp_b E 104448 (va_cpy G T p (256 * dp) q)) := by rw [← eM3, mp_n (mp_ne hM2_tg hM2_h mp_nao)]; exact hM2_tg
  have hM3_sz : M3 sz = some (mp_i E 408 (upd Z dp (nI q))) := by rw [← eM3, mp_n (mp_ne hM2_sz hM2_h mp_nao)]; exact hM2_sz
  have hM3_h : M3 h = some (mp_o 7 [.ref ro, .int (nI rows), .int thr, .ref kp, .ref ks, .ref st8, .ref w64, .ref ha, .ref pa, .ref tg, .ref sz, .int (nI (dp + 1)), .int (nI as_), .int (nI ops), .ref tk]) := by rw [← eM3]; exact mp_s
  exact j_vret hκ rfl (by omega) (by omega) d_Mo_push_38 ⟨rfl, by subst_vars; rfl⟩
