set_option maxHeartbeats 4000000 in
set_option maxRecDepth 100000 in
theorem c_Ma_play (l : Launch) (E : mp_E) (M : mp_M) (X : Nat → Prop) (L : Nat → Nat) (y n : Nat) (zs m o : List am_T) (b : List Bool) (k : Nat) (ro rn f t : Nat) (g : Nat → Int32) (hI : IV E X M L y n zs m o b k) (hL : LY X L) (hro : M ro = some (mp_b E rn g)) (hfit : ∀ i, i < rn → fits .byte (.int (g i)) = true) (hrn : rn ≤ 1000) (hXr : ¬ X ro) (ht : t ≤ rn) (hft : f ≤ t) : mp_Cr l m_Ma_play E M 8 (4 * (t - f)) (66 * (t - f)) [.ref (L 0), .ref ro, .int (nI f), .int (nI t)] (PL E X M L y n zs (am_run g t (t - f + 1) f (m, [], [], 0))) := by
  refine mp_Cr.of (by decide) (Nat.le_of_ble_eq_true rfl) fun Γ κ hl hκ => ?_
  subst hl
  obtain ⟨hκd, hκc, hκs, -⟩ := id hκ
  have hlm := hI.sm.le
  have hlo := hI.so.le
  obtain ⟨z0_m, u0_m⟩ := hI.sm.o
  obtain ⟨z0_o, u0_o⟩ := hI.so.o
  show mp_J Γ m_Ma_play E κ M [(0, .ref (L 0)), (1, .ref ro), (2, .int (nI f)), (3, .int (nI t))] 0 [] 0 0
  refine j_aload_n d_Ma_play_0 rfl 0 rfl ?_
  refine j_get F_Ma hI.mo 2 (by decide) w_165 (Or.inl rfl) rfl d_Ma_play_1 ?_
  refine j_callV (As := []) (rest := []) (i_oclear Γ.l hI hL) Y_St_clear w_332 w_333 w_334 u0_o rfl rfl rfl (Nat.le_of_ble_eq_true rfl) (by omega) (by omega) (by omega) d_Ma_play_4 (fun v4 N4 p4 => ?_)
  obtain ⟨rfl, I4, f4⟩ := p4
  obtain ⟨z4_1m, u4_1m⟩ := I4.sm.o
  obtain ⟨z4_1o, u4_1o⟩ := I4.so.o
  show mp_J Γ m_Ma_play E κ N4 [(0, .ref (L 0)), (1, .ref ro), (2, .int (nI f)), (3, .int (nI t))] 7 [] 0 0
  refine j_aload_n d_Ma_play_7 rfl 0 rfl ?_
  refine j_get F_Ma I4.mo 3 (by decide) w_166 (Or.inl rfl) rfl d_Ma_play_8 ?_
  refine j_callV (As := []) (rest := []) (i_bclear Γ.l I4 hL) Y_Br_clear w_340 w_341 w_342 I4.br rfl rfl rfl (Nat.le_of_ble_eq_true rfl) (by omega) (by omega) (by omega) d_Ma_play_11 (fun v11 N11 p11 => ?_)
  obtain ⟨rfl, I11, f11⟩ := p11
  obtain ⟨z11_2m, u11_2m⟩ := I11.sm.o
  obtain ⟨z11_2o, u11_2o⟩ := I11.so.o
  show mp_J Γ m_Ma_play E κ N11 [(0, .ref (L 0)), (1, .ref ro), (2, .int (nI f)), (3, .int (nI t))] 14 [] 0 0
  refine j_aload_n d_Ma_play_14 rfl 0 rfl ?_
  refine j_iconst (v := nI 0) d_Ma_play_15 (by decide) ?_
  refine j_put F_Ma I11.mo 7 (by decide) w_170 (Or.inl rfl) rfl rfl rfl (Nat.le_of_ble_eq_true rfl) d_Ma_play_16 ?_
  show mp_J Γ m_Ma_play E κ (mp_up N11 (L 0) (mp_o 1 [.ref (L 1), .ref (L 5), .ref (L 11), .ref (L 10), .ref y, .ref n, .ref (L 13), .int (nI 0)])) [(0, .ref (L 0)), (1, .ref ro), (2, .int (nI f)), (3, .int (nI t))] 19 [] 0 0
  generalize eM3 : mp_up N11 (L 0) (mp_o 1 [.ref (L 1), .ref (L 5), .ref (L 11), .ref (L 10), .ref y, .ref n, .ref (L 13), .int (nI 0)]) = M3
  have hM3__L_0_ : M3 (L 0) = some (mp_o 1 [.ref (L 1), .ref (L 5), .ref (L 11), .ref (L 10), .ref y, .ref n, .ref (L 13), .int (nI 0)]) := by rw [← eM3]; exact mp_s
  refine j_iload_n d_Ma_play_19 rfl 2 rfl ?_
  refine j_istore [(4, .int (nI f)), (0, .ref (L 0)), (1, .ref ro), (2, .int (nI f)), (3, .int (nI t))] d_Ma_play_20 (by decide) rfl ?_
  have I16 : IV E X M3 L y n zs m [] [] 0 := by rw [← eM3]; exact I11.cnt hL 0
  have f16 : mp_Fr X N11 M3 := by rw [← eM3]; exact mp_Fr.up (hL.x (by omega))
  refine j_lv [1, 2, 3, 4, 0] rfl ?_
  refine j_widen (k' := 4 * (f - f)) (n' := 66 * (f - f)) (by omega) (by omega) ?_
  exact lp_play E M X L y n ro rn f t zs g _ hL hro hfit hrn hXr ht hκ (t - f + 1) M3 m [] [] 0 f (by omega) I16 ((f4.trans f11).trans f16) (by simpa using hlm) ⟨by simp, by omega⟩ (Nat.le_refl _) hft rfl

set_option maxHeartbeats 4000000 in
set_option maxRecDepth 100000 in
theorem c_Ma_clear (l : Launch) (E : mp_E) (M : mp_M) (X : Nat → Prop) (L : Nat → Nat) (y n : Nat) (zs m o : List am_T) (b : List Bool) (k : Nat)  (hI : IV E X M L y n zs m o b k) (hL : LY X L) : mp_Cr l m_Ma_clear E M 2 0 0 [.ref (L 0)] (fun v N => v = none ∧ IV E X N L y n zs [] o b k ∧ mp_Fr X M N) := by
  refine mp_Cr.of (by decide) (Nat.le_of_ble_eq_true rfl) fun Γ κ hl hκ => ?_
  subst hl
  obtain ⟨hκd, hκc, hκs, -⟩ := id hκ
  have hlm := hI.sm.le
  have hlo := hI.so.le
  obtain ⟨z0_m, u0_m⟩ := hI.sm.o
  obtain ⟨z0_o, u0_o⟩ := hI.so.o
  show mp_J Γ m_Ma_clear E κ M [(0, .ref (L 0))] 0 [] 0 0
  refine j_aload_n d_Ma_clear_0 rfl 0 rfl ?_
  refine j_get F_Ma hI.mo 6 (by decide) w_169 (Or.inl rfl) rfl d_Ma_clear_1 ?_
  refine j_callV (As := []) (rest := []) (i_clear Γ.l hI hL) Y_St_clear w_332 w_333 w_334 u0_m rfl rfl rfl (Nat.le_of_ble_eq_true rfl) (by omega) (by omega) (by omega) d_Ma_clear_4 (fun v4 N4 p4 => ?_)
  obtain ⟨rfl, I4, f4⟩ := p4
  obtain ⟨z4_1m, u4_1m⟩ := I4.sm.o
  obtain ⟨z4_1o, u4_1o⟩ := I4.so.o
  show mp_J Γ m_Ma_clear E κ N4 [(0, .ref (L 0))] 7 [] 0 0
  exact j_vret hκ rfl (by omega) (by omega) d_Ma_clear_7 ⟨rfl, I4, f4⟩
