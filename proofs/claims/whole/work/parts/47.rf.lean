set_option maxHeartbeats 4000000 in
set_option maxRecDepth 100000 in
theorem c_Mo_sigs (l : Launch) (E : mp_E) (M : mp_M) (h ro rows kp ks st8 w64 ha pa tg sz dp as_ ops tk : Nat) (thr : Int32) (g : Nat → Int32) (i : Int32) (h0 : M h = some (mp_o 7 [.ref ro, .int (nI rows), .int thr, .ref kp, .ref ks, .ref st8, .ref w64, .ref ha, .ref pa, .ref tg, .ref sz, .int (nI dp), .int (nI as_), .int (nI ops), .ref tk])) (h1 : M ro = some (mp_b E 1000 g)) (hrw : rows ≤ 1000) : mp_Cr l m_Mo_sigs E M 2 0 0 [.ref h, .int i] (fun v N => (∃ j, j ≤ rows ∧ i = nI j ∧ v = some (.int (nI (sg_run g j (j + 1) 0 0))) ∧ N = mp_up M h (mp_o 7 [.ref ro, .int (nI rows), .int (tf false), .ref kp, .ref ks, .ref st8, .ref w64, .ref ha, .ref pa, .ref tg, .ref sz, .int (nI dp), .int (nI as_), .int (nI ops), .ref tk])) ∨ ((¬ ∃ j, j ≤ rows ∧ i = nI j) ∧ v = some (.int (nI 0)) ∧ N = mp_up M h (mp_o 7 [.ref ro, .int (nI rows), .int (tf true), .ref kp, .ref ks, .ref st8, .ref w64, .ref ha, .ref pa, .ref tg, .ref sz, .int (nI dp), .int (nI as_), .int (nI ops), .ref tk]))) := by
  refine mp_Cr.of (by decide) (Nat.le_of_ble_eq_true rfl) fun Γ κ hl hκ => ?_
  subst hl
  obtain ⟨hκd, hκc, hκs, -⟩ := id hκ
  show mp_J Γ m_Mo_sigs E κ M [(0, .ref h), (1, .int i)] 0 [] 0 0
  refine j_aload_n d_Mo_sigs_0 rfl 0 rfl ?_
  refine j_iload_n d_Mo_sigs_1 rfl 1 rfl ?_
  refine j_callV (As := [.int i]) (rest := []) (c_Mo_isLength Γ.l E M h ro rows kp ks st8 w64 ha pa tg sz dp as_ ops tk thr i h0) Y_Mo_isLength w_1006 w_1008 ws_28 h0 rfl rfl rfl (Nat.le_of_ble_eq_true rfl) (by omega) (by omega) (by omega) d_Mo_sigs_2 (fun v2 N2 p2 => ?_)
  obtain ⟨rfl, q2⟩ := p2
  show mp_J Γ m_Mo_sigs E κ N2 [(0, .ref h), (1, .int i)] 5 [.int (tf (decide (¬ i < 0 ∧ i ≤ nI rows)))] 0 0
  have hN2_h : N2 h = some (mp_o 7 [.ref ro, .int (nI rows), .int (tf (!decide (¬ i < 0 ∧ i ≤ nI rows))), .ref kp, .ref ks, .ref st8, .ref w64, .ref ha, .ref pa, .ref tg, .ref sz, .int (nI dp), .int (nI as_), .int (nI ops), .ref tk]) := by rw [q2]; exact mp_s
  have hN2_ro : N2 ro = some (mp_b E 1000 g) := by rw [q2, mp_n (mp_ne h1 h0 mp_nao)]; exact h1
  refine j_tif_ne 10 d_Mo_sigs_5 (by decide) (fun b5 => ?_) (fun b5 => ?_)
  · skip
    obtain ⟨j, hj, hij⟩ := (am_i32 hrw).mp (of_decide_eq_true b5)
    rw [hij]
    refine j_iconst (v := nI 0) d_Mo_sigs_10 (by decide) ?_
    refine j_istore_n [(2, .int (nI 0)), (0, .ref h), (1, .int (nI j))] d_Mo_sigs_11 rfl (by decide) rfl ?_
    refine j_iconst (v := nI 0) d_Mo_sigs_12 (by decide) ?_
    refine j_istore_n [(3, .int (nI 0)), (2, .int (nI 0)), (0, .ref h), (1, .int (nI j))] d_Mo_sigs_13 rfl (by decide) rfl ?_
    refine j_lv [2, 3, 1, 0] rfl ?_
    exact lp_Mo_sigs E N2 h ro rows kp ks st8 w64 ha pa tg sz dp as_ ops tk _ g j (sg_run g j (j + 1) 0 0) _ hN2_h hN2_ro (by omega) (Or.inl ⟨j, hj, hij, rfl, by rw [q2, b5]; rfl⟩) hκ (j + 1) 0 0 (by omega) (by omega) (by omega) rfl
  · skip
    refine j_iconst (v := nI 0) d_Mo_sigs_8 (by decide) ?_
    exact j_iret hκ rfl (by omega) (by omega) d_Mo_sigs_9 (Or.inr ⟨fun hz => of_decide_eq_false b5 ((am_i32 hrw).mpr hz), rfl, by rw [q2, b5]; rfl⟩)
